abbrev sra (x y : Int32) : Int32 := x >>> (y &&& 31)
/-- the reference's rows when filled up to a -/
def mfB (bf : Nat → Int32) (ch w a : Nat) : Nat → Int32 := if w < a then lwr bf (4200 * ch + w) (emb (max (a - w) 7)) (max (a - w) 7) else bf
def mfZ (zf : Nat → Int32) (ch w a : Nat) : Nat → Int32 := if w < a then lwr zf (4200 * ch + w) emz (max (a - w) 7) else zf
/-- its frame's bytes -/
def mA (ff mf : Nat → Int32) (cv : Int32) (kd : Nat) (fst : Int32) : Nat → Int32 :=
  upd (upd (upd (upd (upd (upd ff 0 (i8 21)) 1 (i8 ((160 + (2 * cv)) + 1))) 2 (i8 (mf 0))) 3 (i8 (mf kd))) 4 (i8 (24 + (fst / 256)))) 5 (i8 fst)
def mW (ff : Nat → Int32) (a : Nat) (word : Int32) : Nat → Int32 :=
  upd (upd (upd (upd ff (6 + a) (i8 (sra word 24))) (6 + a + 1) (i8 (sra word 16))) (6 + a + 2) (i8 (sra word 8))) (6 + a + 3) (i8 (sra word 0))
def mC (ff : Nat → Int32) (a : Nat) : Nat → Int32 :=
  upd (upd ff (6 + a + 4) (i8 ((crcM ff (6 + a + 4)) / 256))) (6 + a + 4 + 1) (i8 (crcM ff (6 + a + 4)))
def mL (ff mf : Nat → Int32) (cv : Int32) (kd : Nat) (fst : Int32) (g : Nat → Int32) (a : Nat) (word : Int32) : Nat → Int32 := mC (mW (lwr (mA ff mf cv kd fst) 6 g a) a word) a

set_option maxHeartbeats 4000000 in
set_option maxRecDepth 100000 in
/-- frame -/
theorem c_m_frame0 (l : Launch) (D : va_G) (cA cB cZ : ClassId) (a : Nat) (y len tp bb zz wa fs fm mk fk : Nat) (bf zf : Nat → Int32) (ww : Nat → Nat) (mf ff : Nat → Int32) (word : Int32) (hlen : len = a + 12) (hla : len ≤ 256) (w : Nat) (hw : ww 0 = w) (hw2 : w ≤ 4096) (hz : 0 < ww 0) : MI0 l yX3_frame wsM_frame { frames := 2, cells := 0, slots := 0, locals := 50 } [.ref y, .int word] D [(cA, .int), (cB, .byte), (cZ, .boolean)] [(y, .inr (3, [.int 0, .int (nI len), .ref tp, .int (nI mk), .ref bb, .ref zz, .ref wa, .ref fs, .ref fm, .int (nI fk)])), (bb, .inl (cB, 8400, .inl bf)), (zz, .inl (cZ, 8400, .inl zf)), (wa, .inl (cA, 2, .inl (wI ww))), (fs, .inl (cA, 4, .inl mf)), (fm, .inl (cB, 256, .inl ff))] 0 [(y, .inr (3, [.int 0, .int (nI len), .ref tp, .int (nI mk), .ref bb, .ref zz, .ref wa, .ref fs, .ref fm, .int (nI len)])), (bb, .inl (cB, 8400, .inl (lwr (mfB bf 0 w a) (4200 * 0) (fun i => i8 ((mfB bf 0 w a) (4200 * 0 + i + a))) (filK w a - a)))), (zz, .inl (cZ, 8400, .inl (lwr (mfZ zf 0 w a) (4200 * 0) (fun i => (mfZ zf 0 w a) (4200 * 0 + i + a) &&& 1) (filK w a - a)))), (wa, .inl (cA, 2, .inl (wI (va_up ww 0 (filK w a - a))))), (fs, .inl (cA, 4, .inl (cnt2 mf 1))), (fm, .inl (cB, 256, .inl (mL ff mf (nI 0) 1 (fbM (mfZ zf 0 w a) (4200 * 0) a 0) (fun i => i8 ((mfB bf 0 w a) (4200 * 0 + i))) a word)))] := by
  refine mt_i (by decide) rfl (Nat.le_of_ble_eq_true rfl) ?_
  intro p e s m below meth c A ls Q hx hb hts hown hml hin hN hK hA hP hD hS hl hex
  have hown : s.vm.findClass RX3 = some m.cls := hown
  have hl : lv_has ls 7 [(0, .ref y), (1, .int word)] := hl
  have iX3 : ∀ w ∈ wsX30, w ∈ wsM_frame := by decide +kernel
  have lk13 := hts (.fieldLink RX3 13 "DownFramesModel" "bytes" "[B") (by decide +kernel)
  have lk20 := hts (.fieldLink RX3 20 "DownFramesModel" "waits" "[I") (by decide +kernel)
  have lk24 := hts (.fieldLink RX3 24 "DownFramesModel" "frames" "[I") (by decide +kernel)
  have lk30 := hts (.fieldLink RX3 30 "DownFramesModel" "length" "I") (by decide +kernel)
  have lk34 := hts (.fieldLink RX3 34 "DownFramesModel" "thrown" "I") (by decide +kernel)
  have lk44 := hts (.fieldLink RX3 44 "DownFramesModel" "filled" "I") (by decide +kernel)
  refine lv_aload_n hx hb dX3_frame_0 rfl (lv_at hl 0 rfl) ?_
  refine lv_iconst (v := 0) hx hb dX3_frame_1 (by decide) ?_
  refine va_put (D := D) (ci := 3) (v := .int 0) (ty := (.int)) hx hb hts iX3 tyX3 tyX3_ok nmX3 hown hK hP hD hS 0 rfl rfl 0 (by decide) lk34 (fun _ h => h) rfl (by decide +kernel) rfl rfl (Nat.le_of_ble_eq_true rfl) dX3_frame_2 (fun H locs hP hD hS => ?_)
  have hP : va_P D vwCl [(y, .inr (3, [.int 0, .int (nI len), .ref tp, .int (nI mk), .ref bb, .ref zz, .ref wa, .ref fs, .ref fm, .int (nI fk)])), (bb, .inl (cB, 8400, .inl bf)), (zz, .inl (cZ, 8400, .inl zf)), (wa, .inl (cA, 2, .inl (wI ww))), (fs, .inl (cA, 4, .inl mf)), (fm, .inl (cB, 256, .inl ff))] H := hP
  have hD : va_D A [(y, .inr (3, [.int 0, .int (nI len), .ref tp, .int (nI mk), .ref bb, .ref zz, .ref wa, .ref fs, .ref fm, .int (nI fk)])), (bb, .inl (cB, 8400, .inl bf)), (zz, .inl (cZ, 8400, .inl zf)), (wa, .inl (cA, 2, .inl (wI ww))), (fs, .inl (cA, 4, .inl mf)), (fm, .inl (cB, 256, .inl ff))] := hD
  refine lv_aload_n hx hb dX3_frame_5 rfl (lv_at hl 0 rfl) ?_
  refine va_get (D := D) (ci := 3) (v := .ref wa) hx hb hts iX3 hown hK hP 0 rfl rfl 6 (by decide) lk20 (fun _ h => h) rfl dX3_frame_6 ?_
  refine lv_iconst (v := 0) hx hb dX3_frame_9 (by decide) ?_
  refine tp_i (y := nI 0) (rfl) ?_
  refine al_i (k := 0) hx hb hK hP 3 0 rfl rfl (by decide) (by decide) dX3_frame_10 ?_
  refine tp_i (y := nI (ww 0)) (rfl) ?_
  refine lv_if_le (tgt := 18) hx hb dX3_frame_11 (by decide) (fun cc => absurd cc (nI_nle hz (by omega))) (fun _ => ?_)
  refine lv_iconst (v := 0) hx hb dX3_frame_14 (by decide) ?_
  refine lv_goto (tgt := 32) hx hb dX3_frame_15 (by decide) ?_
  refine tp_i (y := nI 0) (rfl) ?_
  refine lv_istore_n (lv' := [(2, .int (nI 0)), (0, .ref y), (1, .int word)]) hx hb dX3_frame_32 rfl hl (by decide) rfl (fun ls hl => ?_)
  refine lv_iload_n hx hb dX3_frame_33 rfl (lv_at hl 0 rfl) ?_
  refine lv_iconst (v := 2) hx hb dX3_frame_34 (by decide) ?_
  refine lv_icmp_ne (tgt := 43) hx hb dX3_frame_35 (by decide) (fun _ => ?_) (fun cc => absurd cc (by decide))
  refine lv_iload_n hx hb dX3_frame_43 rfl (lv_at hl 0 rfl) ?_
  refine lv_istore_n (lv' := [(3, .int (nI 0)), (2, .int (nI 0)), (0, .ref y), (1, .int word)]) hx hb dX3_frame_44 rfl hl (by decide) rfl (fun ls hl => ?_)
  refine lv_aload_n hx hb dX3_frame_45 rfl (lv_at hl 2 rfl) ?_
  refine va_get (D := D) (ci := 3) (v := .int (nI len)) hx hb hts iX3 hown hK hP 0 rfl rfl 1 (by decide) lk30 (fun _ h => h) rfl dX3_frame_46 ?_
  refine lv_bipush (v := 12) hx hb dX3_frame_49 (by decide +kernel) ?_
  refine lv_isub hx hb dX3_frame_51 ?_
  refine tp_i (y := nI a) (by rw [hlen, show (12 : Int32) = nI 12 from rfl, pk_sub (by omega)]; congr 1) ?_
  refine lv_istore (lv' := [(4, .int (nI a)), (3, .int (nI 0)), (2, .int (nI 0)), (0, .ref y), (1, .int word)]) hx hb dX3_frame_52 hl (by decide) rfl (fun ls hl => ?_)
  refine lv_iload_n hx hb dX3_frame_54 rfl (lv_at hl 2 rfl) ?_
  refine lv_iconst (v := 2) hx hb dX3_frame_55 (by decide) ?_
  obtain ⟨B1, hB1⟩ : ∃ B, B = mfB bf 0 w a := ⟨_, rfl⟩
  obtain ⟨Z1, hZ1⟩ : ∃ B, B = mfZ zf 0 w a := ⟨_, rfl⟩
  obtain ⟨K, hKK⟩ : ∃ K, K = filK w a := ⟨_, rfl⟩
  obtain ⟨W1, hW1⟩ : ∃ B, B = va_up ww 0 K := ⟨_, rfl⟩
  have hKa : a ≤ K := by rw [hKK]; exact filK_ge _ _
  have hKm : K ≤ 4096 := by rw [hKK]; exact filK_le _ _ hw2 (by omega)
  have hWc : W1 0 = K := by rw [hW1]; simp [va_up]
  have tail : ∀ (H : Heap) (locs : List Loc) (ls : Array Slot), va_P D vwCl [(y, .inr (3, [.int 0, .int (nI len), .ref tp, .int (nI mk), .ref bb, .ref zz, .ref wa, .ref fs, .ref fm, .int (nI fk)])), (bb, .inl (cB, 8400, .inl B1)), (zz, .inl (cZ, 8400, .inl Z1)), (wa, .inl (cA, 2, .inl (wI W1))), (fs, .inl (cA, 4, .inl mf)), (fm, .inl (cB, 256, .inl ff))] H → va_D A [(y, .inr (3, [.int 0, .int (nI len), .ref tp, .int (nI mk), .ref bb, .ref zz, .ref wa, .ref fs, .ref fm, .int (nI fk)])), (bb, .inl (cB, 8400, .inl B1)), (zz, .inl (cZ, 8400, .inl Z1)), (wa, .inl (cA, 2, .inl (wI W1))), (fs, .inl (cA, 4, .inl mf)), (fm, .inl (cB, 256, .inl ff))] → va_S A s.heap H locs → lv_has ls 7 [(4, .int (nI a)), (3, .int (nI 0)), (2, .int (nI 0)), (0, .ref y), (1, .int word)] → W p l e ({ frames := 2, cells := 0, slots := 0, locals := 50 } : Room) s m ([.ref y, .int word] : List Value).toArray below meth c H locs 0 0 Q (F0 m 103 ls []) := by
    intro H locs ls hP hD hS hl
    refine lv_iload_n hx hb dX3_frame_103 rfl (lv_at hl 2 rfl) ?_
    refine lv_iconst (v := 2) hx hb dX3_frame_104 (by decide) ?_
    refine lv_icmp_ne (tgt := 114) hx hb dX3_frame_105 (by decide) (fun _ => ?_) (fun cc => absurd cc (by decide))
    refine lv_aload_n hx hb dX3_frame_114 rfl (lv_at hl 3 rfl) ?_
    refine lv_iload_n hx hb dX3_frame_115 rfl (lv_at hl 2 rfl) ?_
    refine lv_iload hx hb dX3_frame_116 (lv_at hl 0 rfl) ?_
    refine cl0_vi ⟨hx, hb, hml, hown, hts⟩ (c_m_first l D cA cB cZ y len tp bb zz wa fs fm mk fk Z1 0 a (by decide) (by omega)) (cwV 2 hts (gM_first _) rfl rfl rfl (by decide +kernel) ⟨Nat.le_of_ble_eq_true rfl, Nat.le_of_ble_eq_true rfl⟩) (ci := 3) (q0 := 0) rfl rfl hN hK hP hD hS hA [0, 2] [1, 3, 4, 5] [4, 0, 5, 1, 2, 3] [(bb, .inl (cB, 8400, .inl B1)), (wa, .inl (cA, 2, .inl (wI W1))), (fs, .inl (cA, 4, .inl mf)), (fm, .inl (cB, 256, .inl ff))] [(y, .inr (3, [.int 0, .int (nI len), .ref tp, .int (nI mk), .ref bb, .ref zz, .ref wa, .ref fs, .ref fm, .int (nI fk)])), (bb, .inl (cB, 8400, .inl B1)), (zz, .inl (cZ, 8400, .inl Z1)), (wa, .inl (cA, 2, .inl (wI W1))), (fs, .inl (cA, 4, .inl mf)), (fm, .inl (cB, 256, .inl ff))] [] rfl rfl rfl rfl (by decide) rfl rfl rfl hl.1 rfl (Nat.le_of_ble_eq_true rfl) dX3_frame_118 ⟨Nat.le_of_ble_eq_true rfl, Nat.le_of_ble_eq_true rfl⟩ (fun H locs hP hD hS => ?_)
    refine lv_istore (lv' := [(5, .int (fbM Z1 (4200 * 0) a 0)), (4, .int (nI a)), (3, .int (nI 0)), (2, .int (nI 0)), (0, .ref y), (1, .int word)]) hx hb dX3_frame_121 hl (by decide) rfl (fun ls hl => ?_)
    refine lv_aload_n hx hb dX3_frame_123 rfl (lv_at hl 4 rfl) ?_
    refine lv_iconst (v := 0) hx hb dX3_frame_124 (by decide) ?_
    refine va_put (D := D) (ci := 3) (v := .int 0) (ty := (.int)) hx hb hts iX3 tyX3 tyX3_ok nmX3 hown hK hP hD hS 0 rfl rfl 9 (by decide) lk44 (fun _ h => h) rfl (by decide +kernel) rfl rfl (Nat.le_of_ble_eq_true rfl) dX3_frame_125 (fun H locs hP hD hS => ?_)
    have hP : va_P D vwCl [(y, .inr (3, [.int 0, .int (nI len), .ref tp, .int (nI mk), .ref bb, .ref zz, .ref wa, .ref fs, .ref fm, .int 0])), (bb, .inl (cB, 8400, .inl B1)), (zz, .inl (cZ, 8400, .inl Z1)), (wa, .inl (cA, 2, .inl (wI W1))), (fs, .inl (cA, 4, .inl mf)), (fm, .inl (cB, 256, .inl ff))] H := hP
    have hD : va_D A [(y, .inr (3, [.int 0, .int (nI len), .ref tp, .int (nI mk), .ref bb, .ref zz, .ref wa, .ref fs, .ref fm, .int 0])), (bb, .inl (cB, 8400, .inl B1)), (zz, .inl (cZ, 8400, .inl Z1)), (wa, .inl (cA, 2, .inl (wI W1))), (fs, .inl (cA, 4, .inl mf)), (fm, .inl (cB, 256, .inl ff))] := hD
    have hP : va_P D vwCl [(y, .inr (3, [.int 0, .int (nI len), .ref tp, .int (nI mk), .ref bb, .ref zz, .ref wa, .ref fs, .ref fm, .int (nI 0)])), (bb, .inl (cB, 8400, .inl B1)), (zz, .inl (cZ, 8400, .inl Z1)), (wa, .inl (cA, 2, .inl (wI W1))), (fs, .inl (cA, 4, .inl mf)), (fm, .inl (cB, 256, .inl ff))] H := hP
    have hD : va_D A [(y, .inr (3, [.int 0, .int (nI len), .ref tp, .int (nI mk), .ref bb, .ref zz, .ref wa, .ref fs, .ref fm, .int (nI 0)])), (bb, .inl (cB, 8400, .inl B1)), (zz, .inl (cZ, 8400, .inl Z1)), (wa, .inl (cA, 2, .inl (wI W1))), (fs, .inl (cA, 4, .inl mf)), (fm, .inl (cB, 256, .inl ff))] := hD
    refine lv_aload_n hx hb dX3_frame_128 rfl (lv_at hl 4 rfl) ?_
    refine lv_bipush (v := 21) hx hb dX3_frame_129 (by decide +kernel) ?_
    refine cl0_vv ⟨hx, hb, hml, hown, hts⟩ (c_m_add l D cA cB cZ y len tp bb zz wa fs fm mk 0 (ff) 21 (by omega)) (cwV 1 hts (gM_add _) rfl rfl rfl (by decide +kernel) ⟨Nat.le_of_ble_eq_true rfl, Nat.le_of_ble_eq_true rfl⟩) (ci := 3) (q0 := 0) rfl rfl hN hK hP hD hS hA [0, 5] [1, 2, 3, 4] [4, 0, 1, 2, 3, 5] [(bb, .inl (cB, 8400, .inl B1)), (zz, .inl (cZ, 8400, .inl Z1)), (wa, .inl (cA, 2, .inl (wI W1))), (fs, .inl (cA, 4, .inl mf))] [(y, .inr (3, [.int 0, .int (nI len), .ref tp, .int (nI mk), .ref bb, .ref zz, .ref wa, .ref fs, .ref fm, .int (nI 1)])), (bb, .inl (cB, 8400, .inl B1)), (zz, .inl (cZ, 8400, .inl Z1)), (wa, .inl (cA, 2, .inl (wI W1))), (fs, .inl (cA, 4, .inl mf)), (fm, .inl (cB, 256, .inl (upd ff 0 (i8 21))))] [] rfl rfl rfl rfl (by decide) rfl rfl rfl hl.1 rfl (Nat.le_of_ble_eq_true rfl) dX3_frame_131 ⟨Nat.le_of_ble_eq_true rfl, Nat.le_of_ble_eq_true rfl⟩ (fun H locs hP hD hS => ?_)
    refine lv_aload_n hx hb dX3_frame_134 rfl (lv_at hl 4 rfl) ?_
    refine lv_sipush (v := 160) hx hb dX3_frame_135 (by decide +kernel) ?_
    refine lv_iconst (v := 2) hx hb dX3_frame_138 (by decide) ?_
    refine lv_iload_n hx hb dX3_frame_139 rfl (lv_at hl 2 rfl) ?_
    refine lv_imul hx hb dX3_frame_140 ?_
    refine lv_iadd hx hb dX3_frame_141 ?_
    refine lv_iconst (v := 1) hx hb dX3_frame_142 (by decide) ?_
    refine lv_iadd hx hb dX3_frame_143 ?_
    refine cl0_vv ⟨hx, hb, hml, hown, hts⟩ (c_m_add l D cA cB cZ y len tp bb zz wa fs fm mk 1 (upd ff 0 (i8 21)) ((160 + (2 * (nI 0))) + 1) (by omega)) (cwV 1 hts (gM_add _) rfl rfl rfl (by decide +kernel) ⟨Nat.le_of_ble_eq_true rfl, Nat.le_of_ble_eq_true rfl⟩) (ci := 3) (q0 := 0) rfl rfl hN hK hP hD hS hA [0, 5] [1, 2, 3, 4] [4, 0, 1, 2, 3, 5] [(bb, .inl (cB, 8400, .inl B1)), (zz, .inl (cZ, 8400, .inl Z1)), (wa, .inl (cA, 2, .inl (wI W1))), (fs, .inl (cA, 4, .inl mf))] [(y, .inr (3, [.int 0, .int (nI len), .ref tp, .int (nI mk), .ref bb, .ref zz, .ref wa, .ref fs, .ref fm, .int (nI 2)])), (bb, .inl (cB, 8400, .inl B1)), (zz, .inl (cZ, 8400, .inl Z1)), (wa, .inl (cA, 2, .inl (wI W1))), (fs, .inl (cA, 4, .inl mf)), (fm, .inl (cB, 256, .inl (upd (upd ff 0 (i8 21)) 1 (i8 ((160 + (2 * (nI 0))) + 1)))))] [] rfl rfl rfl rfl (by decide) rfl rfl rfl hl.1 rfl (Nat.le_of_ble_eq_true rfl) dX3_frame_144 ⟨Nat.le_of_ble_eq_true rfl, Nat.le_of_ble_eq_true rfl⟩ (fun H locs hP hD hS => ?_)
    refine lv_aload_n hx hb dX3_frame_147 rfl (lv_at hl 4 rfl) ?_
    refine lv_aload_n hx hb dX3_frame_148 rfl (lv_at hl 4 rfl) ?_
    refine va_get (D := D) (ci := 3) (v := .ref fs) hx hb hts iX3 hown hK hP 0 rfl rfl 7 (by decide) lk24 (fun _ h => h) rfl dX3_frame_149 ?_
    refine lv_iconst (v := 0) hx hb dX3_frame_152 (by decide) ?_
    refine tp_i (y := nI 0) (rfl) ?_
    refine al_i (k := 0) hx hb hK hP 4 0 rfl rfl (by decide) (by decide) dX3_frame_153 ?_
    refine cl0_vv ⟨hx, hb, hml, hown, hts⟩ (c_m_add l D cA cB cZ y len tp bb zz wa fs fm mk 2 (upd (upd ff 0 (i8 21)) 1 (i8 ((160 + (2 * (nI 0))) + 1))) (mf 0) (by omega)) (cwV 1 hts (gM_add _) rfl rfl rfl (by decide +kernel) ⟨Nat.le_of_ble_eq_true rfl, Nat.le_of_ble_eq_true rfl⟩) (ci := 3) (q0 := 0) rfl rfl hN hK hP hD hS hA [0, 5] [1, 2, 3, 4] [4, 0, 1, 2, 3, 5] [(bb, .inl (cB, 8400, .inl B1)), (zz, .inl (cZ, 8400, .inl Z1)), (wa, .inl (cA, 2, .inl (wI W1))), (fs, .inl (cA, 4, .inl mf))] [(y, .inr (3, [.int 0, .int (nI len), .ref tp, .int (nI mk), .ref bb, .ref zz, .ref wa, .ref fs, .ref fm, .int (nI 3)])), (bb, .inl (cB, 8400, .inl B1)), (zz, .inl (cZ, 8400, .inl Z1)), (wa, .inl (cA, 2, .inl (wI W1))), (fs, .inl (cA, 4, .inl mf)), (fm, .inl (cB, 256, .inl (upd (upd (upd ff 0 (i8 21)) 1 (i8 ((160 + (2 * (nI 0))) + 1))) 2 (i8 (mf 0)))))] [] rfl rfl rfl rfl (by decide) rfl rfl rfl hl.1 rfl (Nat.le_of_ble_eq_true rfl) dX3_frame_154 ⟨Nat.le_of_ble_eq_true rfl, Nat.le_of_ble_eq_true rfl⟩ (fun H locs hP hD hS => ?_)
    refine lv_aload_n hx hb dX3_frame_157 rfl (lv_at hl 4 rfl) ?_
    refine lv_aload_n hx hb dX3_frame_158 rfl (lv_at hl 4 rfl) ?_
    refine va_get (D := D) (ci := 3) (v := .ref fs) hx hb hts iX3 hown hK hP 0 rfl rfl 7 (by decide) lk24 (fun _ h => h) rfl dX3_frame_159 ?_
    refine lv_iconst (v := 1) hx hb dX3_frame_162 (by decide) ?_
    refine lv_iload_n hx hb dX3_frame_163 rfl (lv_at hl 3 rfl) ?_
    refine lv_iadd hx hb dX3_frame_164 ?_
    refine tp_i (y := nI 1) (by decide) ?_
    refine al_i (k := 1) hx hb hK hP 4 0 rfl rfl (by decide) (by decide) dX3_frame_165 ?_
    refine cl0_vv ⟨hx, hb, hml, hown, hts⟩ (c_m_add l D cA cB cZ y len tp bb zz wa fs fm mk 3 (upd (upd (upd ff 0 (i8 21)) 1 (i8 ((160 + (2 * (nI 0))) + 1))) 2 (i8 (mf 0))) (mf 1) (by omega)) (cwV 1 hts (gM_add _) rfl rfl rfl (by decide +kernel) ⟨Nat.le_of_ble_eq_true rfl, Nat.le_of_ble_eq_true rfl⟩) (ci := 3) (q0 := 0) rfl rfl hN hK hP hD hS hA [0, 5] [1, 2, 3, 4] [4, 0, 1, 2, 3, 5] [(bb, .inl (cB, 8400, .inl B1)), (zz, .inl (cZ, 8400, .inl Z1)), (wa, .inl (cA, 2, .inl (wI W1))), (fs, .inl (cA, 4, .inl mf))] [(y, .inr (3, [.int 0, .int (nI len), .ref tp, .int (nI mk), .ref bb, .ref zz, .ref wa, .ref fs, .ref fm, .int (nI 4)])), (bb, .inl (cB, 8400, .inl B1)), (zz, .inl (cZ, 8400, .inl Z1)), (wa, .inl (cA, 2, .inl (wI W1))), (fs, .inl (cA, 4, .inl mf)), (fm, .inl (cB, 256, .inl (upd (upd (upd (upd ff 0 (i8 21)) 1 (i8 ((160 + (2 * (nI 0))) + 1))) 2 (i8 (mf 0))) 3 (i8 (mf 1)))))] [] rfl rfl rfl rfl (by decide) rfl rfl rfl hl.1 rfl (Nat.le_of_ble_eq_true rfl) dX3_frame_166 ⟨Nat.le_of_ble_eq_true rfl, Nat.le_of_ble_eq_true rfl⟩ (fun H locs hP hD hS => ?_)
    refine lv_aload_n hx hb dX3_frame_169 rfl (lv_at hl 4 rfl) ?_
    refine lv_bipush (v := 24) hx hb dX3_frame_170 (by decide +kernel) ?_
    refine lv_iload hx hb dX3_frame_172 (lv_at hl 0 rfl) ?_
    refine lv_sipush (v := 256) hx hb dX3_frame_174 (by decide +kernel) ?_
    refine lv_idiv hx hb dX3_frame_177 (by decide) ?_
    refine lv_iadd hx hb dX3_frame_178 ?_
    refine cl0_vv ⟨hx, hb, hml, hown, hts⟩ (c_m_add l D cA cB cZ y len tp bb zz wa fs fm mk 4 (upd (upd (upd (upd ff 0 (i8 21)) 1 (i8 ((160 + (2 * (nI 0))) + 1))) 2 (i8 (mf 0))) 3 (i8 (mf 1))) (24 + ((fbM Z1 (4200 * 0) a 0) / 256)) (by omega)) (cwV 1 hts (gM_add _) rfl rfl rfl (by decide +kernel) ⟨Nat.le_of_ble_eq_true rfl, Nat.le_of_ble_eq_true rfl⟩) (ci := 3) (q0 := 0) rfl rfl hN hK hP hD hS hA [0, 5] [1, 2, 3, 4] [4, 0, 1, 2, 3, 5] [(bb, .inl (cB, 8400, .inl B1)), (zz, .inl (cZ, 8400, .inl Z1)), (wa, .inl (cA, 2, .inl (wI W1))), (fs, .inl (cA, 4, .inl mf))] [(y, .inr (3, [.int 0, .int (nI len), .ref tp, .int (nI mk), .ref bb, .ref zz, .ref wa, .ref fs, .ref fm, .int (nI 5)])), (bb, .inl (cB, 8400, .inl B1)), (zz, .inl (cZ, 8400, .inl Z1)), (wa, .inl (cA, 2, .inl (wI W1))), (fs, .inl (cA, 4, .inl mf)), (fm, .inl (cB, 256, .inl (upd (upd (upd (upd (upd ff 0 (i8 21)) 1 (i8 ((160 + (2 * (nI 0))) + 1))) 2 (i8 (mf 0))) 3 (i8 (mf 1))) 4 (i8 (24 + ((fbM Z1 (4200 * 0) a 0) / 256))))))] [] rfl rfl rfl rfl (by decide) rfl rfl rfl hl.1 rfl (Nat.le_of_ble_eq_true rfl) dX3_frame_179 ⟨Nat.le_of_ble_eq_true rfl, Nat.le_of_ble_eq_true rfl⟩ (fun H locs hP hD hS => ?_)
    refine lv_aload_n hx hb dX3_frame_182 rfl (lv_at hl 4 rfl) ?_
    refine lv_iload hx hb dX3_frame_183 (lv_at hl 0 rfl) ?_
    refine cl0_vv ⟨hx, hb, hml, hown, hts⟩ (c_m_add l D cA cB cZ y len tp bb zz wa fs fm mk 5 (upd (upd (upd (upd (upd ff 0 (i8 21)) 1 (i8 ((160 + (2 * (nI 0))) + 1))) 2 (i8 (mf 0))) 3 (i8 (mf 1))) 4 (i8 (24 + ((fbM Z1 (4200 * 0) a 0) / 256)))) (fbM Z1 (4200 * 0) a 0) (by omega)) (cwV 1 hts (gM_add _) rfl rfl rfl (by decide +kernel) ⟨Nat.le_of_ble_eq_true rfl, Nat.le_of_ble_eq_true rfl⟩) (ci := 3) (q0 := 0) rfl rfl hN hK hP hD hS hA [0, 5] [1, 2, 3, 4] [4, 0, 1, 2, 3, 5] [(bb, .inl (cB, 8400, .inl B1)), (zz, .inl (cZ, 8400, .inl Z1)), (wa, .inl (cA, 2, .inl (wI W1))), (fs, .inl (cA, 4, .inl mf))] [(y, .inr (3, [.int 0, .int (nI len), .ref tp, .int (nI mk), .ref bb, .ref zz, .ref wa, .ref fs, .ref fm, .int (nI 6)])), (bb, .inl (cB, 8400, .inl B1)), (zz, .inl (cZ, 8400, .inl Z1)), (wa, .inl (cA, 2, .inl (wI W1))), (fs, .inl (cA, 4, .inl mf)), (fm, .inl (cB, 256, .inl (mA ff mf (nI 0) 1 (fbM Z1 (4200 * 0) a 0))))] [] rfl rfl rfl rfl (by decide) rfl rfl rfl hl.1 rfl (Nat.le_of_ble_eq_true rfl) dX3_frame_185 ⟨Nat.le_of_ble_eq_true rfl, Nat.le_of_ble_eq_true rfl⟩ (fun H locs hP hD hS => ?_)
    refine lv_iconst (v := 0) hx hb dX3_frame_188 (by decide) ?_
    refine lv_istore (lv' := [(6, .int 0), (5, .int (fbM Z1 (4200 * 0) a 0)), (4, .int (nI a)), (3, .int (nI 0)), (2, .int (nI 0)), (0, .ref y), (1, .int word)]) hx hb dX3_frame_189 hl (by decide) rfl (fun ls hl => ?_)
    have loop : ∀ (d j : Nat) (H : Heap) (locs : List Loc) (ls : Array Slot), j + d = a → va_P D vwCl [(y, .inr (3, [.int 0, .int (nI len), .ref tp, .int (nI mk), .ref bb, .ref zz, .ref wa, .ref fs, .ref fm, .int (nI (6 + j))])), (bb, .inl (cB, 8400, .inl B1)), (zz, .inl (cZ, 8400, .inl Z1)), (wa, .inl (cA, 2, .inl (wI W1))), (fs, .inl (cA, 4, .inl mf)), (fm, .inl (cB, 256, .inl (lwr (mA ff mf (nI 0) 1 (fbM Z1 (4200 * 0) a 0)) 6 (fun i => i8 (B1 (4200 * 0 + i))) j)))] H → va_D A [(y, .inr (3, [.int 0, .int (nI len), .ref tp, .int (nI mk), .ref bb, .ref zz, .ref wa, .ref fs, .ref fm, .int (nI (6 + j))])), (bb, .inl (cB, 8400, .inl B1)), (zz, .inl (cZ, 8400, .inl Z1)), (wa, .inl (cA, 2, .inl (wI W1))), (fs, .inl (cA, 4, .inl mf)), (fm, .inl (cB, 256, .inl (lwr (mA ff mf (nI 0) 1 (fbM Z1 (4200 * 0) a 0)) 6 (fun i => i8 (B1 (4200 * 0 + i))) j)))] → va_S A s.heap H locs → lv_has ls 7 [(6, .int (nI j)), (5, .int (fbM Z1 (4200 * 0) a 0)), (4, .int (nI a)), (3, .int (nI 0)), (2, .int (nI 0)), (0, .ref y), (1, .int word)] → W p l e ({ frames := 2, cells := 0, slots := 0, locals := 50 } : Room) s m ([.ref y, .int word] : List Value).toArray below meth c H locs 0 0 Q (F0 m 191 ls []) := by
      intro d
      induction d with
      | zero =>
        intro j H locs ls hj hP hD hS hl
        have hj : j = a := hj
        rw [hj] at hP hD hl
        refine lv_iload hx hb dX3_frame_191 (lv_at hl 0 rfl) ?_
        refine lv_iload hx hb dX3_frame_193 (lv_at hl 2 rfl) ?_
        refine lv_icmp_ge (tgt := 231) hx hb dX3_frame_195 (by decide) (fun _ => ?_) (fun cc => absurd (nI_le (Nat.le_refl _) (by omega)) cc)
        refine lv_bipush (v := 24) hx hb dX3_frame_231 (by decide +kernel) ?_
        refine lv_istore (lv' := [(6, .int 24), (5, .int (fbM Z1 (4200 * 0) a 0)), (4, .int (nI a)), (3, .int (nI 0)), (2, .int (nI 0)), (0, .ref y), (1, .int word)]) hx hb dX3_frame_233 hl (by decide) rfl (fun ls hl => ?_)
        refine lv_iload hx hb dX3_frame_235 (lv_at hl 0 rfl) ?_
        refine lv_if_lt (tgt := 254) hx hb dX3_frame_237 (by decide) (fun cc => absurd cc (by decide)) (fun _ => ?_)
        refine lv_aload_n hx hb dX3_frame_240 rfl (lv_at hl 5 rfl) ?_
        refine lv_iload_n hx hb dX3_frame_241 rfl (lv_at hl 6 rfl) ?_
        refine lv_iload hx hb dX3_frame_242 (lv_at hl 0 rfl) ?_
        refine lv_ishr hx hb dX3_frame_244 ?_
        refine cl0_vv ⟨hx, hb, hml, hown, hts⟩ (c_m_add l D cA cB cZ y len tp bb zz wa fs fm mk (6 + a) (lwr (mA ff mf (nI 0) 1 (fbM Z1 (4200 * 0) a 0)) 6 (fun i => i8 (B1 (4200 * 0 + i))) a) (sra word 24) (by omega)) (cwV 1 hts (gM_add _) rfl rfl rfl (by decide +kernel) ⟨Nat.le_of_ble_eq_true rfl, Nat.le_of_ble_eq_true rfl⟩) (ci := 3) (q0 := 0) rfl rfl hN hK hP hD hS hA [0, 5] [1, 2, 3, 4] [4, 0, 1, 2, 3, 5] [(bb, .inl (cB, 8400, .inl B1)), (zz, .inl (cZ, 8400, .inl Z1)), (wa, .inl (cA, 2, .inl (wI W1))), (fs, .inl (cA, 4, .inl mf))] [(y, .inr (3, [.int 0, .int (nI len), .ref tp, .int (nI mk), .ref bb, .ref zz, .ref wa, .ref fs, .ref fm, .int (nI (6 + a + 1))])), (bb, .inl (cB, 8400, .inl B1)), (zz, .inl (cZ, 8400, .inl Z1)), (wa, .inl (cA, 2, .inl (wI W1))), (fs, .inl (cA, 4, .inl mf)), (fm, .inl (cB, 256, .inl (upd (lwr (mA ff mf (nI 0) 1 (fbM Z1 (4200 * 0) a 0)) 6 (fun i => i8 (B1 (4200 * 0 + i))) a) (6 + a) (i8 (sra word 24)))))] [] rfl rfl rfl rfl (by decide) rfl rfl rfl hl.1 rfl (Nat.le_of_ble_eq_true rfl) dX3_frame_245 ⟨Nat.le_of_ble_eq_true rfl, Nat.le_of_ble_eq_true rfl⟩ (fun H locs hP hD hS => ?_)
        refine lv_iinc (v := 16) (lv' := [(6, .int 16), (5, .int (fbM Z1 (4200 * 0) a 0)), (4, .int (nI a)), (3, .int (nI 0)), (2, .int (nI 0)), (0, .ref y), (1, .int word)]) hx hb dX3_frame_248 hl (k := 0) rfl (by decide) (by decide) rfl (fun ls hl => ?_)
        refine lv_goto (tgt := 235) hx hb dX3_frame_251 (by decide) ?_
        refine lv_iload hx hb dX3_frame_235 (lv_at hl 0 rfl) ?_
        refine lv_if_lt (tgt := 254) hx hb dX3_frame_237 (by decide) (fun cc => absurd cc (by decide)) (fun _ => ?_)
        refine lv_aload_n hx hb dX3_frame_240 rfl (lv_at hl 5 rfl) ?_
        refine lv_iload_n hx hb dX3_frame_241 rfl (lv_at hl 6 rfl) ?_
        refine lv_iload hx hb dX3_frame_242 (lv_at hl 0 rfl) ?_
        refine lv_ishr hx hb dX3_frame_244 ?_
        refine cl0_vv ⟨hx, hb, hml, hown, hts⟩ (c_m_add l D cA cB cZ y len tp bb zz wa fs fm mk (6 + a + 1) (upd (lwr (mA ff mf (nI 0) 1 (fbM Z1 (4200 * 0) a 0)) 6 (fun i => i8 (B1 (4200 * 0 + i))) a) (6 + a) (i8 (sra word 24))) (sra word 16) (by omega)) (cwV 1 hts (gM_add _) rfl rfl rfl (by decide +kernel) ⟨Nat.le_of_ble_eq_true rfl, Nat.le_of_ble_eq_true rfl⟩) (ci := 3) (q0 := 0) rfl rfl hN hK hP hD hS hA [0, 5] [1, 2, 3, 4] [4, 0, 1, 2, 3, 5] [(bb, .inl (cB, 8400, .inl B1)), (zz, .inl (cZ, 8400, .inl Z1)), (wa, .inl (cA, 2, .inl (wI W1))), (fs, .inl (cA, 4, .inl mf))] [(y, .inr (3, [.int 0, .int (nI len), .ref tp, .int (nI mk), .ref bb, .ref zz, .ref wa, .ref fs, .ref fm, .int (nI (6 + a + 2))])), (bb, .inl (cB, 8400, .inl B1)), (zz, .inl (cZ, 8400, .inl Z1)), (wa, .inl (cA, 2, .inl (wI W1))), (fs, .inl (cA, 4, .inl mf)), (fm, .inl (cB, 256, .inl (upd (upd (lwr (mA ff mf (nI 0) 1 (fbM Z1 (4200 * 0) a 0)) 6 (fun i => i8 (B1 (4200 * 0 + i))) a) (6 + a) (i8 (sra word 24))) (6 + a + 1) (i8 (sra word 16)))))] [] rfl rfl rfl rfl (by decide) rfl rfl rfl hl.1 rfl (Nat.le_of_ble_eq_true rfl) dX3_frame_245 ⟨Nat.le_of_ble_eq_true rfl, Nat.le_of_ble_eq_true rfl⟩ (fun H locs hP hD hS => ?_)
        refine lv_iinc (v := 8) (lv' := [(6, .int 8), (5, .int (fbM Z1 (4200 * 0) a 0)), (4, .int (nI a)), (3, .int (nI 0)), (2, .int (nI 0)), (0, .ref y), (1, .int word)]) hx hb dX3_frame_248 hl (k := 0) rfl (by decide) (by decide) rfl (fun ls hl => ?_)
        refine lv_goto (tgt := 235) hx hb dX3_frame_251 (by decide) ?_
        refine lv_iload hx hb dX3_frame_235 (lv_at hl 0 rfl) ?_
        refine lv_if_lt (tgt := 254) hx hb dX3_frame_237 (by decide) (fun cc => absurd cc (by decide)) (fun _ => ?_)
        refine lv_aload_n hx hb dX3_frame_240 rfl (lv_at hl 5 rfl) ?_
        refine lv_iload_n hx hb dX3_frame_241 rfl (lv_at hl 6 rfl) ?_
        refine lv_iload hx hb dX3_frame_242 (lv_at hl 0 rfl) ?_
        refine lv_ishr hx hb dX3_frame_244 ?_
        refine cl0_vv ⟨hx, hb, hml, hown, hts⟩ (c_m_add l D cA cB cZ y len tp bb zz wa fs fm mk (6 + a + 2) (upd (upd (lwr (mA ff mf (nI 0) 1 (fbM Z1 (4200 * 0) a 0)) 6 (fun i => i8 (B1 (4200 * 0 + i))) a) (6 + a) (i8 (sra word 24))) (6 + a + 1) (i8 (sra word 16))) (sra word 8) (by omega)) (cwV 1 hts (gM_add _) rfl rfl rfl (by decide +kernel) ⟨Nat.le_of_ble_eq_true rfl, Nat.le_of_ble_eq_true rfl⟩) (ci := 3) (q0 := 0) rfl rfl hN hK hP hD hS hA [0, 5] [1, 2, 3, 4] [4, 0, 1, 2, 3, 5] [(bb, .inl (cB, 8400, .inl B1)), (zz, .inl (cZ, 8400, .inl Z1)), (wa, .inl (cA, 2, .inl (wI W1))), (fs, .inl (cA, 4, .inl mf))] [(y, .inr (3, [.int 0, .int (nI len), .ref tp, .int (nI mk), .ref bb, .ref zz, .ref wa, .ref fs, .ref fm, .int (nI (6 + a + 3))])), (bb, .inl (cB, 8400, .inl B1)), (zz, .inl (cZ, 8400, .inl Z1)), (wa, .inl (cA, 2, .inl (wI W1))), (fs, .inl (cA, 4, .inl mf)), (fm, .inl (cB, 256, .inl (upd (upd (upd (lwr (mA ff mf (nI 0) 1 (fbM Z1 (4200 * 0) a 0)) 6 (fun i => i8 (B1 (4200 * 0 + i))) a) (6 + a) (i8 (sra word 24))) (6 + a + 1) (i8 (sra word 16))) (6 + a + 2) (i8 (sra word 8)))))] [] rfl rfl rfl rfl (by decide) rfl rfl rfl hl.1 rfl (Nat.le_of_ble_eq_true rfl) dX3_frame_245 ⟨Nat.le_of_ble_eq_true rfl, Nat.le_of_ble_eq_true rfl⟩ (fun H locs hP hD hS => ?_)
        refine lv_iinc (v := 0) (lv' := [(6, .int 0), (5, .int (fbM Z1 (4200 * 0) a 0)), (4, .int (nI a)), (3, .int (nI 0)), (2, .int (nI 0)), (0, .ref y), (1, .int word)]) hx hb dX3_frame_248 hl (k := 0) rfl (by decide) (by decide) rfl (fun ls hl => ?_)
        refine lv_goto (tgt := 235) hx hb dX3_frame_251 (by decide) ?_
        refine lv_iload hx hb dX3_frame_235 (lv_at hl 0 rfl) ?_
        refine lv_if_lt (tgt := 254) hx hb dX3_frame_237 (by decide) (fun cc => absurd cc (by decide)) (fun _ => ?_)
        refine lv_aload_n hx hb dX3_frame_240 rfl (lv_at hl 5 rfl) ?_
        refine lv_iload_n hx hb dX3_frame_241 rfl (lv_at hl 6 rfl) ?_
        refine lv_iload hx hb dX3_frame_242 (lv_at hl 0 rfl) ?_
        refine lv_ishr hx hb dX3_frame_244 ?_
        refine cl0_vv ⟨hx, hb, hml, hown, hts⟩ (c_m_add l D cA cB cZ y len tp bb zz wa fs fm mk (6 + a + 3) (upd (upd (upd (lwr (mA ff mf (nI 0) 1 (fbM Z1 (4200 * 0) a 0)) 6 (fun i => i8 (B1 (4200 * 0 + i))) a) (6 + a) (i8 (sra word 24))) (6 + a + 1) (i8 (sra word 16))) (6 + a + 2) (i8 (sra word 8))) (sra word 0) (by omega)) (cwV 1 hts (gM_add _) rfl rfl rfl (by decide +kernel) ⟨Nat.le_of_ble_eq_true rfl, Nat.le_of_ble_eq_true rfl⟩) (ci := 3) (q0 := 0) rfl rfl hN hK hP hD hS hA [0, 5] [1, 2, 3, 4] [4, 0, 1, 2, 3, 5] [(bb, .inl (cB, 8400, .inl B1)), (zz, .inl (cZ, 8400, .inl Z1)), (wa, .inl (cA, 2, .inl (wI W1))), (fs, .inl (cA, 4, .inl mf))] [(y, .inr (3, [.int 0, .int (nI len), .ref tp, .int (nI mk), .ref bb, .ref zz, .ref wa, .ref fs, .ref fm, .int (nI (6 + a + 4))])), (bb, .inl (cB, 8400, .inl B1)), (zz, .inl (cZ, 8400, .inl Z1)), (wa, .inl (cA, 2, .inl (wI W1))), (fs, .inl (cA, 4, .inl mf)), (fm, .inl (cB, 256, .inl (mW (lwr (mA ff mf (nI 0) 1 (fbM Z1 (4200 * 0) a 0)) 6 (fun i => i8 (B1 (4200 * 0 + i))) a) a word)))] [] rfl rfl rfl rfl (by decide) rfl rfl rfl hl.1 rfl (Nat.le_of_ble_eq_true rfl) dX3_frame_245 ⟨Nat.le_of_ble_eq_true rfl, Nat.le_of_ble_eq_true rfl⟩ (fun H locs hP hD hS => ?_)
        refine lv_iinc (v := (-8)) (lv' := [(6, .int (-8)), (5, .int (fbM Z1 (4200 * 0) a 0)), (4, .int (nI a)), (3, .int (nI 0)), (2, .int (nI 0)), (0, .ref y), (1, .int word)]) hx hb dX3_frame_248 hl (k := 0) rfl (by decide) (by decide) rfl (fun ls hl => ?_)
        refine lv_goto (tgt := 235) hx hb dX3_frame_251 (by decide) ?_
        refine lv_iload hx hb dX3_frame_235 (lv_at hl 0 rfl) ?_
        refine lv_if_lt (tgt := 254) hx hb dX3_frame_237 (by decide) (fun _ => ?_) (fun cc => absurd (by decide) cc)
        refine lv_aload_n hx hb dX3_frame_254 rfl (lv_at hl 5 rfl) ?_
        refine cl0_vi ⟨hx, hb, hml, hown, hts⟩ (c_m_check l D cA cB cZ y len tp bb zz wa fs fm mk (6 + a + 4) (mW (lwr (mA ff mf (nI 0) 1 (fbM Z1 (4200 * 0) a 0)) 6 (fun i => i8 (B1 (4200 * 0 + i))) a) a word) (by omega)) (cwV 0 hts (gM_check _) rfl rfl rfl (by decide +kernel) ⟨Nat.le_of_ble_eq_true rfl, Nat.le_of_ble_eq_true rfl⟩) (ci := 3) (q0 := 0) rfl rfl hN hK hP hD hS hA [0, 5] [1, 2, 3, 4] [4, 0, 1, 2, 3, 5] [(bb, .inl (cB, 8400, .inl B1)), (zz, .inl (cZ, 8400, .inl Z1)), (wa, .inl (cA, 2, .inl (wI W1))), (fs, .inl (cA, 4, .inl mf))] [(y, .inr (3, [.int 0, .int (nI len), .ref tp, .int (nI mk), .ref bb, .ref zz, .ref wa, .ref fs, .ref fm, .int (nI (6 + a + 4))])), (bb, .inl (cB, 8400, .inl B1)), (zz, .inl (cZ, 8400, .inl Z1)), (wa, .inl (cA, 2, .inl (wI W1))), (fs, .inl (cA, 4, .inl mf)), (fm, .inl (cB, 256, .inl (mW (lwr (mA ff mf (nI 0) 1 (fbM Z1 (4200 * 0) a 0)) 6 (fun i => i8 (B1 (4200 * 0 + i))) a) a word)))] [] rfl rfl rfl rfl (by decide) rfl rfl rfl hl.1 rfl (Nat.le_of_ble_eq_true rfl) dX3_frame_255 ⟨Nat.le_of_ble_eq_true rfl, Nat.le_of_ble_eq_true rfl⟩ (fun H locs hP hD hS => ?_)
        refine lv_istore (lv' := [(6, .int (crcM (mW (lwr (mA ff mf (nI 0) 1 (fbM Z1 (4200 * 0) a 0)) 6 (fun i => i8 (B1 (4200 * 0 + i))) a) a word) (6 + a + 4))), (5, .int (fbM Z1 (4200 * 0) a 0)), (4, .int (nI a)), (3, .int (nI 0)), (2, .int (nI 0)), (0, .ref y), (1, .int word)]) hx hb dX3_frame_258 hl (by decide) rfl (fun ls hl => ?_)
        refine lv_aload_n hx hb dX3_frame_260 rfl (lv_at hl 5 rfl) ?_
        refine lv_iload hx hb dX3_frame_261 (lv_at hl 0 rfl) ?_
        refine lv_sipush (v := 256) hx hb dX3_frame_263 (by decide +kernel) ?_
        refine lv_idiv hx hb dX3_frame_266 (by decide) ?_
        refine cl0_vv ⟨hx, hb, hml, hown, hts⟩ (c_m_add l D cA cB cZ y len tp bb zz wa fs fm mk (6 + a + 4) (mW (lwr (mA ff mf (nI 0) 1 (fbM Z1 (4200 * 0) a 0)) 6 (fun i => i8 (B1 (4200 * 0 + i))) a) a word) ((crcM (mW (lwr (mA ff mf (nI 0) 1 (fbM Z1 (4200 * 0) a 0)) 6 (fun i => i8 (B1 (4200 * 0 + i))) a) a word) (6 + a + 4)) / 256) (by omega)) (cwV 1 hts (gM_add _) rfl rfl rfl (by decide +kernel) ⟨Nat.le_of_ble_eq_true rfl, Nat.le_of_ble_eq_true rfl⟩) (ci := 3) (q0 := 0) rfl rfl hN hK hP hD hS hA [0, 5] [1, 2, 3, 4] [4, 0, 1, 2, 3, 5] [(bb, .inl (cB, 8400, .inl B1)), (zz, .inl (cZ, 8400, .inl Z1)), (wa, .inl (cA, 2, .inl (wI W1))), (fs, .inl (cA, 4, .inl mf))] [(y, .inr (3, [.int 0, .int (nI len), .ref tp, .int (nI mk), .ref bb, .ref zz, .ref wa, .ref fs, .ref fm, .int (nI (6 + a + 5))])), (bb, .inl (cB, 8400, .inl B1)), (zz, .inl (cZ, 8400, .inl Z1)), (wa, .inl (cA, 2, .inl (wI W1))), (fs, .inl (cA, 4, .inl mf)), (fm, .inl (cB, 256, .inl (upd (mW (lwr (mA ff mf (nI 0) 1 (fbM Z1 (4200 * 0) a 0)) 6 (fun i => i8 (B1 (4200 * 0 + i))) a) a word) (6 + a + 4) (i8 ((crcM (mW (lwr (mA ff mf (nI 0) 1 (fbM Z1 (4200 * 0) a 0)) 6 (fun i => i8 (B1 (4200 * 0 + i))) a) a word) (6 + a + 4)) / 256)))))] [] rfl rfl rfl rfl (by decide) rfl rfl rfl hl.1 rfl (Nat.le_of_ble_eq_true rfl) dX3_frame_267 ⟨Nat.le_of_ble_eq_true rfl, Nat.le_of_ble_eq_true rfl⟩ (fun H locs hP hD hS => ?_)
        refine lv_aload_n hx hb dX3_frame_270 rfl (lv_at hl 5 rfl) ?_
        refine lv_iload hx hb dX3_frame_271 (lv_at hl 0 rfl) ?_
        refine cl0_vv ⟨hx, hb, hml, hown, hts⟩ (c_m_add l D cA cB cZ y len tp bb zz wa fs fm mk (6 + a + 5) (upd (mW (lwr (mA ff mf (nI 0) 1 (fbM Z1 (4200 * 0) a 0)) 6 (fun i => i8 (B1 (4200 * 0 + i))) a) a word) (6 + a + 4) (i8 ((crcM (mW (lwr (mA ff mf (nI 0) 1 (fbM Z1 (4200 * 0) a 0)) 6 (fun i => i8 (B1 (4200 * 0 + i))) a) a word) (6 + a + 4)) / 256))) (crcM (mW (lwr (mA ff mf (nI 0) 1 (fbM Z1 (4200 * 0) a 0)) 6 (fun i => i8 (B1 (4200 * 0 + i))) a) a word) (6 + a + 4)) (by omega)) (cwV 1 hts (gM_add _) rfl rfl rfl (by decide +kernel) ⟨Nat.le_of_ble_eq_true rfl, Nat.le_of_ble_eq_true rfl⟩) (ci := 3) (q0 := 0) rfl rfl hN hK hP hD hS hA [0, 5] [1, 2, 3, 4] [4, 0, 1, 2, 3, 5] [(bb, .inl (cB, 8400, .inl B1)), (zz, .inl (cZ, 8400, .inl Z1)), (wa, .inl (cA, 2, .inl (wI W1))), (fs, .inl (cA, 4, .inl mf))] [(y, .inr (3, [.int 0, .int (nI len), .ref tp, .int (nI mk), .ref bb, .ref zz, .ref wa, .ref fs, .ref fm, .int (nI (6 + a + 6))])), (bb, .inl (cB, 8400, .inl B1)), (zz, .inl (cZ, 8400, .inl Z1)), (wa, .inl (cA, 2, .inl (wI W1))), (fs, .inl (cA, 4, .inl mf)), (fm, .inl (cB, 256, .inl (mL ff mf (nI 0) 1 (fbM Z1 (4200 * 0) a 0) (fun i => i8 (B1 (4200 * 0 + i))) a word)))] [] rfl rfl rfl rfl (by decide) rfl rfl rfl hl.1 rfl (Nat.le_of_ble_eq_true rfl) dX3_frame_273 ⟨Nat.le_of_ble_eq_true rfl, Nat.le_of_ble_eq_true rfl⟩ (fun H locs hP hD hS => ?_)
        refine lv_iload_n hx hb dX3_frame_276 rfl (lv_at hl 4 rfl) ?_
        refine lv_iconst (v := 2) hx hb dX3_frame_277 (by decide) ?_
        refine lv_icmp_ge (tgt := 288) hx hb dX3_frame_278 (by decide) (fun cc => absurd cc (by decide)) (fun _ => ?_)
        refine lv_aload_n hx hb dX3_frame_281 rfl (lv_at hl 5 rfl) ?_
        refine lv_iload_n hx hb dX3_frame_282 rfl (lv_at hl 4 rfl) ?_
        refine lv_iload hx hb dX3_frame_283 (lv_at hl 2 rfl) ?_
        refine cl0_vv ⟨hx, hb, hml, hown, hts⟩ (c_m_leave l D cA cB cZ y len tp bb zz wa fs fm mk (6 + a + 6) B1 Z1 W1 0 K a (by decide) hWc hKa (by omega)) (cwV 2 hts (gM_leave _) rfl rfl rfl (by decide +kernel) ⟨Nat.le_of_ble_eq_true rfl, Nat.le_of_ble_eq_true rfl⟩) (ci := 3) (q0 := 0) rfl rfl hN hK hP hD hS hA [0, 1, 2, 3] [4, 5] [2, 3, 4, 5, 0, 1] [(fs, .inl (cA, 4, .inl mf)), (fm, .inl (cB, 256, .inl (mL ff mf (nI 0) 1 (fbM Z1 (4200 * 0) a 0) (fun i => i8 (B1 (4200 * 0 + i))) a word)))] [(y, .inr (3, [.int 0, .int (nI len), .ref tp, .int (nI mk), .ref bb, .ref zz, .ref wa, .ref fs, .ref fm, .int (nI (6 + a + 6))])), (bb, .inl (cB, 8400, .inl (lwr B1 (4200 * 0) (fun i => i8 (B1 (4200 * 0 + i + a))) (K - a)))), (zz, .inl (cZ, 8400, .inl (lwr Z1 (4200 * 0) (fun i => Z1 (4200 * 0 + i + a) &&& 1) (K - a)))), (wa, .inl (cA, 2, .inl (wI (va_up W1 0 (K - a))))), (fs, .inl (cA, 4, .inl mf)), (fm, .inl (cB, 256, .inl (mL ff mf (nI 0) 1 (fbM Z1 (4200 * 0) a 0) (fun i => i8 (B1 (4200 * 0 + i))) a word)))] [] rfl rfl rfl rfl (by decide) rfl rfl rfl hl.1 rfl (Nat.le_of_ble_eq_true rfl) dX3_frame_285 ⟨Nat.le_of_ble_eq_true rfl, Nat.le_of_ble_eq_true rfl⟩ (fun H locs hP hD hS => ?_)
        refine lv_aload_n hx hb dX3_frame_288 rfl (lv_at hl 5 rfl) ?_
        refine va_get (D := D) (ci := 3) (v := .ref fs) hx hb hts iX3 hown hK hP 0 rfl rfl 7 (by decide) lk24 (fun _ h => h) rfl dX3_frame_289 ?_
        refine lv_iconst (v := 0) hx hb dX3_frame_292 (by decide) ?_
        refine tp_i (y := nI 0) (rfl) ?_
        refine lv_dup2_11 hx hb dX3_frame_293 rfl rfl ?_
        refine al_i (k := 0) hx hb hK hP 4 0 rfl rfl (by decide) (by decide) dX3_frame_294 ?_
        refine lv_iconst (v := 1) hx hb dX3_frame_295 (by decide) ?_
        refine lv_iadd hx hb dX3_frame_296 ?_
        refine as_i (k := 0) (x := ((mf 0) + 1)) hx hb hK hP hD hS 4 0 rfl rfl (by decide) (by decide) dX3_frame_297 (fun H locs hP hD hS => ?_)
        have hP : va_P D vwCl [(y, .inr (3, [.int 0, .int (nI len), .ref tp, .int (nI mk), .ref bb, .ref zz, .ref wa, .ref fs, .ref fm, .int (nI (6 + a + 6))])), (bb, .inl (cB, 8400, .inl (lwr B1 (4200 * 0) (fun i => i8 (B1 (4200 * 0 + i + a))) (K - a)))), (zz, .inl (cZ, 8400, .inl (lwr Z1 (4200 * 0) (fun i => Z1 (4200 * 0 + i + a) &&& 1) (K - a)))), (wa, .inl (cA, 2, .inl (wI (va_up W1 0 (K - a))))), (fs, .inl (cA, 4, .inl (upd mf 0 ((mf 0) + 1)))), (fm, .inl (cB, 256, .inl (mL ff mf (nI 0) 1 (fbM Z1 (4200 * 0) a 0) (fun i => i8 (B1 (4200 * 0 + i))) a word)))] H := hP
        have hD : va_D A [(y, .inr (3, [.int 0, .int (nI len), .ref tp, .int (nI mk), .ref bb, .ref zz, .ref wa, .ref fs, .ref fm, .int (nI (6 + a + 6))])), (bb, .inl (cB, 8400, .inl (lwr B1 (4200 * 0) (fun i => i8 (B1 (4200 * 0 + i + a))) (K - a)))), (zz, .inl (cZ, 8400, .inl (lwr Z1 (4200 * 0) (fun i => Z1 (4200 * 0 + i + a) &&& 1) (K - a)))), (wa, .inl (cA, 2, .inl (wI (va_up W1 0 (K - a))))), (fs, .inl (cA, 4, .inl (upd mf 0 ((mf 0) + 1)))), (fm, .inl (cB, 256, .inl (mL ff mf (nI 0) 1 (fbM Z1 (4200 * 0) a 0) (fun i => i8 (B1 (4200 * 0 + i))) a word)))] := hD
        refine lv_aload_n hx hb dX3_frame_298 rfl (lv_at hl 5 rfl) ?_
        refine va_get (D := D) (ci := 3) (v := .ref fs) hx hb hts iX3 hown hK hP 0 rfl rfl 7 (by decide) lk24 (fun _ h => h) rfl dX3_frame_299 ?_
        refine lv_iconst (v := 1) hx hb dX3_frame_302 (by decide) ?_
        refine lv_iload_n hx hb dX3_frame_303 rfl (lv_at hl 4 rfl) ?_
        refine lv_iadd hx hb dX3_frame_304 ?_
        refine tp_i (y := nI 1) (by decide) ?_
        refine lv_dup2_11 hx hb dX3_frame_305 rfl rfl ?_
        refine al_i (k := 1) hx hb hK hP 4 0 rfl rfl (by decide) (by decide) dX3_frame_306 ?_
        refine lv_iconst (v := 1) hx hb dX3_frame_307 (by decide) ?_
        refine lv_iadd hx hb dX3_frame_308 ?_
        refine as_i (k := 1) (x := (((upd mf 0 ((mf 0) + 1)) 1) + 1)) hx hb hK hP hD hS 4 0 rfl rfl (by decide) (by decide) dX3_frame_309 (fun H locs hP hD hS => ?_)
        have hP : va_P D vwCl [(y, .inr (3, [.int 0, .int (nI len), .ref tp, .int (nI mk), .ref bb, .ref zz, .ref wa, .ref fs, .ref fm, .int (nI (6 + a + 6))])), (bb, .inl (cB, 8400, .inl (lwr B1 (4200 * 0) (fun i => i8 (B1 (4200 * 0 + i + a))) (K - a)))), (zz, .inl (cZ, 8400, .inl (lwr Z1 (4200 * 0) (fun i => Z1 (4200 * 0 + i + a) &&& 1) (K - a)))), (wa, .inl (cA, 2, .inl (wI (va_up W1 0 (K - a))))), (fs, .inl (cA, 4, .inl (upd (upd mf 0 ((mf 0) + 1)) 1 (((upd mf 0 ((mf 0) + 1)) 1) + 1)))), (fm, .inl (cB, 256, .inl (mL ff mf (nI 0) 1 (fbM Z1 (4200 * 0) a 0) (fun i => i8 (B1 (4200 * 0 + i))) a word)))] H := hP
        have hD : va_D A [(y, .inr (3, [.int 0, .int (nI len), .ref tp, .int (nI mk), .ref bb, .ref zz, .ref wa, .ref fs, .ref fm, .int (nI (6 + a + 6))])), (bb, .inl (cB, 8400, .inl (lwr B1 (4200 * 0) (fun i => i8 (B1 (4200 * 0 + i + a))) (K - a)))), (zz, .inl (cZ, 8400, .inl (lwr Z1 (4200 * 0) (fun i => Z1 (4200 * 0 + i + a) &&& 1) (K - a)))), (wa, .inl (cA, 2, .inl (wI (va_up W1 0 (K - a))))), (fs, .inl (cA, 4, .inl (upd (upd mf 0 ((mf 0) + 1)) 1 (((upd mf 0 ((mf 0) + 1)) 1) + 1)))), (fm, .inl (cB, 256, .inl (mL ff mf (nI 0) 1 (fbM Z1 (4200 * 0) a 0) (fun i => i8 (B1 (4200 * 0 + i))) a word)))] := hD
        refine lv_iload_n hx hb dX3_frame_310 rfl (lv_at hl 3 rfl) ?_
        rw [show 6 + a + 6 = len by omega] at hP hD
        rw [hW1, bx_uu] at hP hD
        subst hB1
        subst hZ1
        subst hKK
        exact hex _ _ _ _ _ () hS (rfl) hP hD dX3_frame_311
      | succ d ih =>
        intro j H locs ls hj hP hD hS hl
        refine lv_iload hx hb dX3_frame_191 (lv_at hl 0 rfl) ?_
        refine lv_iload hx hb dX3_frame_193 (lv_at hl 2 rfl) ?_
        refine lv_icmp_ge (tgt := 231) hx hb dX3_frame_195 (by decide) (fun cc => absurd cc (nI_ge (by omega) (by omega))) (fun _ => ?_)
        refine lv_aload_n hx hb dX3_frame_198 rfl (lv_at hl 5 rfl) ?_
        refine lv_iload_n hx hb dX3_frame_199 rfl (lv_at hl 4 rfl) ?_
        refine lv_iconst (v := 2) hx hb dX3_frame_200 (by decide) ?_
        refine lv_icmp_ne (tgt := 209) hx hb dX3_frame_201 (by decide) (fun _ => ?_) (fun cc => absurd cc (by decide))
        refine lv_aload_n hx hb dX3_frame_209 rfl (lv_at hl 5 rfl) ?_
        refine va_get (D := D) (ci := 3) (v := .ref bb) hx hb hts iX3 hown hK hP 0 rfl rfl 4 (by decide) lk13 (fun _ h => h) rfl dX3_frame_210 ?_
        refine lv_sipush (v := 4200) hx hb dX3_frame_213 (by decide +kernel) ?_
        refine lv_iload_n hx hb dX3_frame_216 rfl (lv_at hl 4 rfl) ?_
        refine lv_imul hx hb dX3_frame_217 ?_
        refine lv_iload hx hb dX3_frame_218 (lv_at hl 0 rfl) ?_
        refine lv_iadd hx hb dX3_frame_220 ?_
        refine tp_i (y := nI (4200 * 0 + j)) (by rw [show (4200 : Int32) = nI 4200 from rfl, pk_mul, nI_add]) ?_
        refine al_b (k := (4200 * 0 + j)) hx hb hK hP 1 1 rfl rfl (by omega) (by decide) dX3_frame_221 ?_
        refine cl0_vv ⟨hx, hb, hml, hown, hts⟩ (c_m_add l D cA cB cZ y len tp bb zz wa fs fm mk (6 + j) (lwr (mA ff mf (nI 0) 1 (fbM Z1 (4200 * 0) a 0)) 6 (fun i => i8 (B1 (4200 * 0 + i))) j) (B1 (4200 * 0 + j)) (by omega)) (cwV 1 hts (gM_add _) rfl rfl rfl (by decide +kernel) ⟨Nat.le_of_ble_eq_true rfl, Nat.le_of_ble_eq_true rfl⟩) (ci := 3) (q0 := 0) rfl rfl hN hK hP hD hS hA [0, 5] [1, 2, 3, 4] [4, 0, 1, 2, 3, 5] [(bb, .inl (cB, 8400, .inl B1)), (zz, .inl (cZ, 8400, .inl Z1)), (wa, .inl (cA, 2, .inl (wI W1))), (fs, .inl (cA, 4, .inl mf))] [(y, .inr (3, [.int 0, .int (nI len), .ref tp, .int (nI mk), .ref bb, .ref zz, .ref wa, .ref fs, .ref fm, .int (nI (6 + (j + 1)))])), (bb, .inl (cB, 8400, .inl B1)), (zz, .inl (cZ, 8400, .inl Z1)), (wa, .inl (cA, 2, .inl (wI W1))), (fs, .inl (cA, 4, .inl mf)), (fm, .inl (cB, 256, .inl (lwr (mA ff mf (nI 0) 1 (fbM Z1 (4200 * 0) a 0)) 6 (fun i => i8 (B1 (4200 * 0 + i))) (j + 1))))] [] rfl rfl rfl rfl (by decide) rfl rfl rfl hl.1 rfl (Nat.le_of_ble_eq_true rfl) dX3_frame_222 ⟨Nat.le_of_ble_eq_true rfl, Nat.le_of_ble_eq_true rfl⟩ (fun H locs hP hD hS => ?_)
        refine lv_iinc (v := nI (j + 1)) (lv' := [(6, .int (nI (j + 1))), (5, .int (fbM Z1 (4200 * 0) a 0)), (4, .int (nI a)), (3, .int (nI 0)), (2, .int (nI 0)), (0, .ref y), (1, .int word)]) hx hb dX3_frame_225 hl (k := 0) rfl (nI_1 _) (by decide) rfl (fun ls hl => ?_)
        refine lv_goto (tgt := 191) hx hb dX3_frame_228 (by decide) ?_
        exact ih (j + 1) H locs ls (by omega) hP hD hS (lv_sub hl [0, 1, 2, 3, 4, 5, 6] rfl)
    exact loop a 0 _ _ ls (by omega) hP hD hS (lv_sub hl [0, 1, 2, 3, 4, 5, 6] rfl)
  refine lv_icmp_ge (tgt := 103) hx hb dX3_frame_56 (by decide) (fun cc => absurd cc (by decide)) (fun _ => ?_)
  refine lv_aload_n hx hb dX3_frame_59 rfl (lv_at hl 3 rfl) ?_
  refine va_get (D := D) (ci := 3) (v := .ref wa) hx hb hts iX3 hown hK hP 0 rfl rfl 6 (by decide) lk20 (fun _ h => h) rfl dX3_frame_60 ?_
  refine lv_iload_n hx hb dX3_frame_63 rfl (lv_at hl 2 rfl) ?_
  refine al_i (k := 0) hx hb hK hP 3 0 rfl rfl (by decide) (by decide) dX3_frame_64 ?_
  refine tp_i (y := nI w) (congrArg nI hw) ?_
  refine lv_iload hx hb dX3_frame_65 (lv_at hl 0 rfl) ?_
  refine lv_icmp_ge (tgt := 103) hx hb dX3_frame_67 (by decide) (fun q1 => ?_) (fun q1 => ?_)
  · have hwa : ¬ w < a := fun q => nI_ge q (by omega) q1
    have e1 : B1 = bf := by rw [hB1]; exact if_neg hwa
    have e2 : Z1 = zf := by rw [hZ1]; exact if_neg hwa
    have e3 : W1 = ww := by rw [hW1, hKK, show filK w a = w from if_neg hwa, ← hw]; funext j; unfold va_up; by_cases h : j = 0; subst h; simp; simp [h]
    exact tail _ _ ls (by rw [e1, e2, e3]; exact hP) (by rw [e1, e2, e3]; exact hD) hS (lv_sub hl [0, 1, 2, 3, 4] rfl)
  · have hwa : w < a := Nat.not_le.mp (fun q => q1 (nI_le q (by omega)))
    refine lv_aload_n hx hb dX3_frame_70 rfl (lv_at hl 3 rfl) ?_
    refine lv_iload_n hx hb dX3_frame_71 rfl (lv_at hl 2 rfl) ?_
    refine lv_iload hx hb dX3_frame_72 (lv_at hl 0 rfl) ?_
    refine lv_aload_n hx hb dX3_frame_74 rfl (lv_at hl 3 rfl) ?_
    refine va_get (D := D) (ci := 3) (v := .ref wa) hx hb hts iX3 hown hK hP 0 rfl rfl 6 (by decide) lk20 (fun _ h => h) rfl dX3_frame_75 ?_
    refine lv_iload_n hx hb dX3_frame_78 rfl (lv_at hl 2 rfl) ?_
    refine al_i (k := 0) hx hb hK hP 3 0 rfl rfl (by decide) (by decide) dX3_frame_79 ?_
    refine tp_i (y := nI w) (congrArg nI hw) ?_
    refine lv_isub hx hb dX3_frame_80 ?_
    refine tp_i (y := nI (a - w)) (pk_sub (by omega)) ?_
    refine lv_bipush (v := 7) hx hb dX3_frame_81 (by decide +kernel) ?_
    refine lv_icmp_le (tgt := 98) hx hb dX3_frame_83 (by decide) (fun q2 => ?_) (fun q2 => ?_)
    · have h7 : a - w ≤ 7 := Nat.not_lt.mp (fun q => nI_ge (a := 7) q (by omega) q2)
      refine lv_bipush (v := 7) hx hb dX3_frame_98 (by decide +kernel) ?_
      refine tp_i (y := nI (max (a - w) 7)) (by rw [show max (a - w) 7 = 7 by omega]; rfl) ?_
      refine cl0_vv ⟨hx, hb, hml, hown, hts⟩ (c_m_fills l D cA cB cZ y len tp bb zz wa fs fm mk fk bf zf ww 0 w (max (a - w) 7) (by decide) hw (by omega) (by omega)) (cwV 2 hts (gM_fills _) rfl rfl rfl (by decide +kernel) ⟨Nat.le_of_ble_eq_true rfl, Nat.le_of_ble_eq_true rfl⟩) (ci := 3) (q0 := 0) rfl rfl hN hK hP hD hS hA [0, 1, 2, 3] [4, 5] [2, 3, 4, 5, 0, 1] [(fs, .inl (cA, 4, .inl mf)), (fm, .inl (cB, 256, .inl ff))] [(y, .inr (3, [.int 0, .int (nI len), .ref tp, .int (nI mk), .ref bb, .ref zz, .ref wa, .ref fs, .ref fm, .int (nI fk)])), (bb, .inl (cB, 8400, .inl (lwr bf (4200 * 0 + w) (emb (max (a - w) 7)) (max (a - w) 7)))), (zz, .inl (cZ, 8400, .inl (lwr zf (4200 * 0 + w) emz (max (a - w) 7)))), (wa, .inl (cA, 2, .inl (wI (va_up ww 0 (w + (max (a - w) 7)))))), (fs, .inl (cA, 4, .inl mf)), (fm, .inl (cB, 256, .inl ff))] [] rfl rfl rfl rfl (by decide) rfl rfl rfl hl.1 rfl (Nat.le_of_ble_eq_true rfl) dX3_frame_100 ⟨Nat.le_of_ble_eq_true rfl, Nat.le_of_ble_eq_true rfl⟩ (fun H locs hP hD hS => ?_)
      have e1 : B1 = lwr bf (4200 * 0 + w) (emb (max (a - w) 7)) (max (a - w) 7) := by rw [hB1]; exact if_pos hwa
      have e2 : Z1 = lwr zf (4200 * 0 + w) emz (max (a - w) 7) := by rw [hZ1]; exact if_pos hwa
      have e3 : W1 = va_up ww 0 (w + max (a - w) 7) := by rw [hW1, hKK, show filK w a = w + max (a - w) 7 from if_pos hwa]
      exact tail _ _ ls (by rw [e1, e2, e3]; exact hP) (by rw [e1, e2, e3]; exact hD) hS (lv_sub hl [0, 1, 2, 3, 4] rfl)
    · have h7 : ¬ a - w ≤ 7 := fun t => q2 (nI_le (b := 7) t (by decide))
      refine lv_iload hx hb dX3_frame_86 (lv_at hl 0 rfl) ?_
      refine lv_aload_n hx hb dX3_frame_88 rfl (lv_at hl 3 rfl) ?_
      refine va_get (D := D) (ci := 3) (v := .ref wa) hx hb hts iX3 hown hK hP 0 rfl rfl 6 (by decide) lk20 (fun _ h => h) rfl dX3_frame_89 ?_
      refine lv_iload_n hx hb dX3_frame_92 rfl (lv_at hl 2 rfl) ?_
      refine al_i (k := 0) hx hb hK hP 3 0 rfl rfl (by decide) (by decide) dX3_frame_93 ?_
      refine tp_i (y := nI w) (congrArg nI hw) ?_
      refine lv_isub hx hb dX3_frame_94 ?_
      refine tp_i (y := nI (max (a - w) 7)) (by rw [show max (a - w) 7 = a - w by omega]; exact pk_sub (by omega)) ?_
      refine lv_goto (tgt := 100) hx hb dX3_frame_95 (by decide) ?_
      refine cl0_vv ⟨hx, hb, hml, hown, hts⟩ (c_m_fills l D cA cB cZ y len tp bb zz wa fs fm mk fk bf zf ww 0 w (max (a - w) 7) (by decide) hw (by omega) (by omega)) (cwV 2 hts (gM_fills _) rfl rfl rfl (by decide +kernel) ⟨Nat.le_of_ble_eq_true rfl, Nat.le_of_ble_eq_true rfl⟩) (ci := 3) (q0 := 0) rfl rfl hN hK hP hD hS hA [0, 1, 2, 3] [4, 5] [2, 3, 4, 5, 0, 1] [(fs, .inl (cA, 4, .inl mf)), (fm, .inl (cB, 256, .inl ff))] [(y, .inr (3, [.int 0, .int (nI len), .ref tp, .int (nI mk), .ref bb, .ref zz, .ref wa, .ref fs, .ref fm, .int (nI fk)])), (bb, .inl (cB, 8400, .inl (lwr bf (4200 * 0 + w) (emb (max (a - w) 7)) (max (a - w) 7)))), (zz, .inl (cZ, 8400, .inl (lwr zf (4200 * 0 + w) emz (max (a - w) 7)))), (wa, .inl (cA, 2, .inl (wI (va_up ww 0 (w + (max (a - w) 7)))))), (fs, .inl (cA, 4, .inl mf)), (fm, .inl (cB, 256, .inl ff))] [] rfl rfl rfl rfl (by decide) rfl rfl rfl hl.1 rfl (Nat.le_of_ble_eq_true rfl) dX3_frame_100 ⟨Nat.le_of_ble_eq_true rfl, Nat.le_of_ble_eq_true rfl⟩ (fun H locs hP hD hS => ?_)
      have e1 : B1 = lwr bf (4200 * 0 + w) (emb (max (a - w) 7)) (max (a - w) 7) := by rw [hB1]; exact if_pos hwa
      have e2 : Z1 = lwr zf (4200 * 0 + w) emz (max (a - w) 7) := by rw [hZ1]; exact if_pos hwa
      have e3 : W1 = va_up ww 0 (w + max (a - w) 7) := by rw [hW1, hKK, show filK w a = w + max (a - w) 7 from if_pos hwa]
      exact tail _ _ ls (by rw [e1, e2, e3]; exact hP) (by rw [e1, e2, e3]; exact hD) hS (lv_sub hl [0, 1, 2, 3, 4] rfl)

set_option maxHeartbeats 4000000 in
set_option maxRecDepth 100000 in
/-- frame -/
theorem c_m_frame1 (l : Launch) (D : va_G) (cA cB cZ : ClassId) (a : Nat) (y len tp bb zz wa fs fm mk fk : Nat) (bf zf : Nat → Int32) (ww : Nat → Nat) (mf ff : Nat → Int32) (word : Int32) (hlen : len = a + 12) (hla : len ≤ 256) (w : Nat) (hw : ww 1 = w) (hw2 : w ≤ 4096) (hz : ww 0 = 0) (hy : 0 < ww 1) : MI0 l yX3_frame wsM_frame { frames := 2, cells := 0, slots := 0, locals := 50 } [.ref y, .int word] D [(cA, .int), (cB, .byte), (cZ, .boolean)] [(y, .inr (3, [.int 0, .int (nI len), .ref tp, .int (nI mk), .ref bb, .ref zz, .ref wa, .ref fs, .ref fm, .int (nI fk)])), (bb, .inl (cB, 8400, .inl bf)), (zz, .inl (cZ, 8400, .inl zf)), (wa, .inl (cA, 2, .inl (wI ww))), (fs, .inl (cA, 4, .inl mf)), (fm, .inl (cB, 256, .inl ff))] 1 [(y, .inr (3, [.int 0, .int (nI len), .ref tp, .int (nI mk), .ref bb, .ref zz, .ref wa, .ref fs, .ref fm, .int (nI len)])), (bb, .inl (cB, 8400, .inl (lwr (mfB bf 1 w a) (4200 * 1) (fun i => i8 ((mfB bf 1 w a) (4200 * 1 + i + a))) (filK w a - a)))), (zz, .inl (cZ, 8400, .inl (lwr (mfZ zf 1 w a) (4200 * 1) (fun i => (mfZ zf 1 w a) (4200 * 1 + i + a) &&& 1) (filK w a - a)))), (wa, .inl (cA, 2, .inl (wI (va_up ww 1 (filK w a - a))))), (fs, .inl (cA, 4, .inl (cnt2 mf 2))), (fm, .inl (cB, 256, .inl (mL ff mf (nI 1) 2 (fbM (mfZ zf 1 w a) (4200 * 1) a 0) (fun i => i8 ((mfB bf 1 w a) (4200 * 1 + i))) a word)))] := by
  refine mt_i (by decide) rfl (Nat.le_of_ble_eq_true rfl) ?_
  intro p e s m below meth c A ls Q hx hb hts hown hml hin hN hK hA hP hD hS hl hex
  have hown : s.vm.findClass RX3 = some m.cls := hown
  have hl : lv_has ls 7 [(0, .ref y), (1, .int word)] := hl
  have iX3 : ∀ w ∈ wsX30, w ∈ wsM_frame := by decide +kernel
  have lk13 := hts (.fieldLink RX3 13 "DownFramesModel" "bytes" "[B") (by decide +kernel)
  have lk20 := hts (.fieldLink RX3 20 "DownFramesModel" "waits" "[I") (by decide +kernel)
  have lk24 := hts (.fieldLink RX3 24 "DownFramesModel" "frames" "[I") (by decide +kernel)
  have lk30 := hts (.fieldLink RX3 30 "DownFramesModel" "length" "I") (by decide +kernel)
  have lk34 := hts (.fieldLink RX3 34 "DownFramesModel" "thrown" "I") (by decide +kernel)
  have lk44 := hts (.fieldLink RX3 44 "DownFramesModel" "filled" "I") (by decide +kernel)
  refine lv_aload_n hx hb dX3_frame_0 rfl (lv_at hl 0 rfl) ?_
  refine lv_iconst (v := 0) hx hb dX3_frame_1 (by decide) ?_
  refine va_put (D := D) (ci := 3) (v := .int 0) (ty := (.int)) hx hb hts iX3 tyX3 tyX3_ok nmX3 hown hK hP hD hS 0 rfl rfl 0 (by decide) lk34 (fun _ h => h) rfl (by decide +kernel) rfl rfl (Nat.le_of_ble_eq_true rfl) dX3_frame_2 (fun H locs hP hD hS => ?_)
  have hP : va_P D vwCl [(y, .inr (3, [.int 0, .int (nI len), .ref tp, .int (nI mk), .ref bb, .ref zz, .ref wa, .ref fs, .ref fm, .int (nI fk)])), (bb, .inl (cB, 8400, .inl bf)), (zz, .inl (cZ, 8400, .inl zf)), (wa, .inl (cA, 2, .inl (wI ww))), (fs, .inl (cA, 4, .inl mf)), (fm, .inl (cB, 256, .inl ff))] H := hP
  have hD : va_D A [(y, .inr (3, [.int 0, .int (nI len), .ref tp, .int (nI mk), .ref bb, .ref zz, .ref wa, .ref fs, .ref fm, .int (nI fk)])), (bb, .inl (cB, 8400, .inl bf)), (zz, .inl (cZ, 8400, .inl zf)), (wa, .inl (cA, 2, .inl (wI ww))), (fs, .inl (cA, 4, .inl mf)), (fm, .inl (cB, 256, .inl ff))] := hD
  refine lv_aload_n hx hb dX3_frame_5 rfl (lv_at hl 0 rfl) ?_
  refine va_get (D := D) (ci := 3) (v := .ref wa) hx hb hts iX3 hown hK hP 0 rfl rfl 6 (by decide) lk20 (fun _ h => h) rfl dX3_frame_6 ?_
  refine lv_iconst (v := 0) hx hb dX3_frame_9 (by decide) ?_
  refine tp_i (y := nI 0) (rfl) ?_
  refine al_i (k := 0) hx hb hK hP 3 0 rfl rfl (by decide) (by decide) dX3_frame_10 ?_
  refine tp_i (y := nI (ww 0)) (rfl) ?_
  refine lv_if_le (tgt := 18) hx hb dX3_frame_11 (by decide) (fun _ => ?_) (fun cc => absurd (by rw [hz]; decide) cc)
  refine lv_aload_n hx hb dX3_frame_18 rfl (lv_at hl 0 rfl) ?_
  refine va_get (D := D) (ci := 3) (v := .ref wa) hx hb hts iX3 hown hK hP 0 rfl rfl 6 (by decide) lk20 (fun _ h => h) rfl dX3_frame_19 ?_
  refine lv_iconst (v := 1) hx hb dX3_frame_22 (by decide) ?_
  refine tp_i (y := nI 1) (rfl) ?_
  refine al_i (k := 1) hx hb hK hP 3 0 rfl rfl (by decide) (by decide) dX3_frame_23 ?_
  refine tp_i (y := nI (ww 1)) (rfl) ?_
  refine lv_if_le (tgt := 31) hx hb dX3_frame_24 (by decide) (fun cc => absurd cc (nI_nle hy (by omega))) (fun _ => ?_)
  refine lv_iconst (v := 1) hx hb dX3_frame_27 (by decide) ?_
  refine lv_goto (tgt := 32) hx hb dX3_frame_28 (by decide) ?_
  refine tp_i (y := nI 1) (rfl) ?_
  refine lv_istore_n (lv' := [(2, .int (nI 1)), (0, .ref y), (1, .int word)]) hx hb dX3_frame_32 rfl hl (by decide) rfl (fun ls hl => ?_)
  refine lv_iload_n hx hb dX3_frame_33 rfl (lv_at hl 0 rfl) ?_
  refine lv_iconst (v := 2) hx hb dX3_frame_34 (by decide) ?_
  refine lv_icmp_ne (tgt := 43) hx hb dX3_frame_35 (by decide) (fun _ => ?_) (fun cc => absurd cc (by decide))
  refine lv_iload_n hx hb dX3_frame_43 rfl (lv_at hl 0 rfl) ?_
  refine lv_istore_n (lv' := [(3, .int (nI 1)), (2, .int (nI 1)), (0, .ref y), (1, .int word)]) hx hb dX3_frame_44 rfl hl (by decide) rfl (fun ls hl => ?_)
  refine lv_aload_n hx hb dX3_frame_45 rfl (lv_at hl 2 rfl) ?_
  refine va_get (D := D) (ci := 3) (v := .int (nI len)) hx hb hts iX3 hown hK hP 0 rfl rfl 1 (by decide) lk30 (fun _ h => h) rfl dX3_frame_46 ?_
  refine lv_bipush (v := 12) hx hb dX3_frame_49 (by decide +kernel) ?_
  refine lv_isub hx hb dX3_frame_51 ?_
  refine tp_i (y := nI a) (by rw [hlen, show (12 : Int32) = nI 12 from rfl, pk_sub (by omega)]; congr 1) ?_
  refine lv_istore (lv' := [(4, .int (nI a)), (3, .int (nI 1)), (2, .int (nI 1)), (0, .ref y), (1, .int word)]) hx hb dX3_frame_52 hl (by decide) rfl (fun ls hl => ?_)
  refine lv_iload_n hx hb dX3_frame_54 rfl (lv_at hl 2 rfl) ?_
  refine lv_iconst (v := 2) hx hb dX3_frame_55 (by decide) ?_
  obtain ⟨B1, hB1⟩ : ∃ B, B = mfB bf 1 w a := ⟨_, rfl⟩
  obtain ⟨Z1, hZ1⟩ : ∃ B, B = mfZ zf 1 w a := ⟨_, rfl⟩
  obtain ⟨K, hKK⟩ : ∃ K, K = filK w a := ⟨_, rfl⟩
  obtain ⟨W1, hW1⟩ : ∃ B, B = va_up ww 1 K := ⟨_, rfl⟩
  have hKa : a ≤ K := by rw [hKK]; exact filK_ge _ _
  have hKm : K ≤ 4096 := by rw [hKK]; exact filK_le _ _ hw2 (by omega)
  have hWc : W1 1 = K := by rw [hW1]; simp [va_up]
  have tail : ∀ (H : Heap) (locs : List Loc) (ls : Array Slot), va_P D vwCl [(y, .inr (3, [.int 0, .int (nI len), .ref tp, .int (nI mk), .ref bb, .ref zz, .ref wa, .ref fs, .ref fm, .int (nI fk)])), (bb, .inl (cB, 8400, .inl B1)), (zz, .inl (cZ, 8400, .inl Z1)), (wa, .inl (cA, 2, .inl (wI W1))), (fs, .inl (cA, 4, .inl mf)), (fm, .inl (cB, 256, .inl ff))] H → va_D A [(y, .inr (3, [.int 0, .int (nI len), .ref tp, .int (nI mk), .ref bb, .ref zz, .ref wa, .ref fs, .ref fm, .int (nI fk)])), (bb, .inl (cB, 8400, .inl B1)), (zz, .inl (cZ, 8400, .inl Z1)), (wa, .inl (cA, 2, .inl (wI W1))), (fs, .inl (cA, 4, .inl mf)), (fm, .inl (cB, 256, .inl ff))] → va_S A s.heap H locs → lv_has ls 7 [(4, .int (nI a)), (3, .int (nI 1)), (2, .int (nI 1)), (0, .ref y), (1, .int word)] → W p l e ({ frames := 2, cells := 0, slots := 0, locals := 50 } : Room) s m ([.ref y, .int word] : List Value).toArray below meth c H locs 0 0 Q (F0 m 103 ls []) := by
    intro H locs ls hP hD hS hl
    refine lv_iload_n hx hb dX3_frame_103 rfl (lv_at hl 2 rfl) ?_
    refine lv_iconst (v := 2) hx hb dX3_frame_104 (by decide) ?_
    refine lv_icmp_ne (tgt := 114) hx hb dX3_frame_105 (by decide) (fun _ => ?_) (fun cc => absurd cc (by decide))
    refine lv_aload_n hx hb dX3_frame_114 rfl (lv_at hl 3 rfl) ?_
    refine lv_iload_n hx hb dX3_frame_115 rfl (lv_at hl 2 rfl) ?_
    refine lv_iload hx hb dX3_frame_116 (lv_at hl 0 rfl) ?_
    refine cl0_vi ⟨hx, hb, hml, hown, hts⟩ (c_m_first l D cA cB cZ y len tp bb zz wa fs fm mk fk Z1 1 a (by decide) (by omega)) (cwV 2 hts (gM_first _) rfl rfl rfl (by decide +kernel) ⟨Nat.le_of_ble_eq_true rfl, Nat.le_of_ble_eq_true rfl⟩) (ci := 3) (q0 := 0) rfl rfl hN hK hP hD hS hA [0, 2] [1, 3, 4, 5] [4, 0, 5, 1, 2, 3] [(bb, .inl (cB, 8400, .inl B1)), (wa, .inl (cA, 2, .inl (wI W1))), (fs, .inl (cA, 4, .inl mf)), (fm, .inl (cB, 256, .inl ff))] [(y, .inr (3, [.int 0, .int (nI len), .ref tp, .int (nI mk), .ref bb, .ref zz, .ref wa, .ref fs, .ref fm, .int (nI fk)])), (bb, .inl (cB, 8400, .inl B1)), (zz, .inl (cZ, 8400, .inl Z1)), (wa, .inl (cA, 2, .inl (wI W1))), (fs, .inl (cA, 4, .inl mf)), (fm, .inl (cB, 256, .inl ff))] [] rfl rfl rfl rfl (by decide) rfl rfl rfl hl.1 rfl (Nat.le_of_ble_eq_true rfl) dX3_frame_118 ⟨Nat.le_of_ble_eq_true rfl, Nat.le_of_ble_eq_true rfl⟩ (fun H locs hP hD hS => ?_)
    refine lv_istore (lv' := [(5, .int (fbM Z1 (4200 * 1) a 0)), (4, .int (nI a)), (3, .int (nI 1)), (2, .int (nI 1)), (0, .ref y), (1, .int word)]) hx hb dX3_frame_121 hl (by decide) rfl (fun ls hl => ?_)
    refine lv_aload_n hx hb dX3_frame_123 rfl (lv_at hl 4 rfl) ?_
    refine lv_iconst (v := 0) hx hb dX3_frame_124 (by decide) ?_
    refine va_put (D := D) (ci := 3) (v := .int 0) (ty := (.int)) hx hb hts iX3 tyX3 tyX3_ok nmX3 hown hK hP hD hS 0 rfl rfl 9 (by decide) lk44 (fun _ h => h) rfl (by decide +kernel) rfl rfl (Nat.le_of_ble_eq_true rfl) dX3_frame_125 (fun H locs hP hD hS => ?_)
    have hP : va_P D vwCl [(y, .inr (3, [.int 0, .int (nI len), .ref tp, .int (nI mk), .ref bb, .ref zz, .ref wa, .ref fs, .ref fm, .int 0])), (bb, .inl (cB, 8400, .inl B1)), (zz, .inl (cZ, 8400, .inl Z1)), (wa, .inl (cA, 2, .inl (wI W1))), (fs, .inl (cA, 4, .inl mf)), (fm, .inl (cB, 256, .inl ff))] H := hP
    have hD : va_D A [(y, .inr (3, [.int 0, .int (nI len), .ref tp, .int (nI mk), .ref bb, .ref zz, .ref wa, .ref fs, .ref fm, .int 0])), (bb, .inl (cB, 8400, .inl B1)), (zz, .inl (cZ, 8400, .inl Z1)), (wa, .inl (cA, 2, .inl (wI W1))), (fs, .inl (cA, 4, .inl mf)), (fm, .inl (cB, 256, .inl ff))] := hD
    have hP : va_P D vwCl [(y, .inr (3, [.int 0, .int (nI len), .ref tp, .int (nI mk), .ref bb, .ref zz, .ref wa, .ref fs, .ref fm, .int (nI 0)])), (bb, .inl (cB, 8400, .inl B1)), (zz, .inl (cZ, 8400, .inl Z1)), (wa, .inl (cA, 2, .inl (wI W1))), (fs, .inl (cA, 4, .inl mf)), (fm, .inl (cB, 256, .inl ff))] H := hP
    have hD : va_D A [(y, .inr (3, [.int 0, .int (nI len), .ref tp, .int (nI mk), .ref bb, .ref zz, .ref wa, .ref fs, .ref fm, .int (nI 0)])), (bb, .inl (cB, 8400, .inl B1)), (zz, .inl (cZ, 8400, .inl Z1)), (wa, .inl (cA, 2, .inl (wI W1))), (fs, .inl (cA, 4, .inl mf)), (fm, .inl (cB, 256, .inl ff))] := hD
    refine lv_aload_n hx hb dX3_frame_128 rfl (lv_at hl 4 rfl) ?_
    refine lv_bipush (v := 21) hx hb dX3_frame_129 (by decide +kernel) ?_
    refine cl0_vv ⟨hx, hb, hml, hown, hts⟩ (c_m_add l D cA cB cZ y len tp bb zz wa fs fm mk 0 (ff) 21 (by omega)) (cwV 1 hts (gM_add _) rfl rfl rfl (by decide +kernel) ⟨Nat.le_of_ble_eq_true rfl, Nat.le_of_ble_eq_true rfl⟩) (ci := 3) (q0 := 0) rfl rfl hN hK hP hD hS hA [0, 5] [1, 2, 3, 4] [4, 0, 1, 2, 3, 5] [(bb, .inl (cB, 8400, .inl B1)), (zz, .inl (cZ, 8400, .inl Z1)), (wa, .inl (cA, 2, .inl (wI W1))), (fs, .inl (cA, 4, .inl mf))] [(y, .inr (3, [.int 0, .int (nI len), .ref tp, .int (nI mk), .ref bb, .ref zz, .ref wa, .ref fs, .ref fm, .int (nI 1)])), (bb, .inl (cB, 8400, .inl B1)), (zz, .inl (cZ, 8400, .inl Z1)), (wa, .inl (cA, 2, .inl (wI W1))), (fs, .inl (cA, 4, .inl mf)), (fm, .inl (cB, 256, .inl (upd ff 0 (i8 21))))] [] rfl rfl rfl rfl (by decide) rfl rfl rfl hl.1 rfl (Nat.le_of_ble_eq_true rfl) dX3_frame_131 ⟨Nat.le_of_ble_eq_true rfl, Nat.le_of_ble_eq_true rfl⟩ (fun H locs hP hD hS => ?_)
    refine lv_aload_n hx hb dX3_frame_134 rfl (lv_at hl 4 rfl) ?_
    refine lv_sipush (v := 160) hx hb dX3_frame_135 (by decide +kernel) ?_
    refine lv_iconst (v := 2) hx hb dX3_frame_138 (by decide) ?_
    refine lv_iload_n hx hb dX3_frame_139 rfl (lv_at hl 2 rfl) ?_
    refine lv_imul hx hb dX3_frame_140 ?_
    refine lv_iadd hx hb dX3_frame_141 ?_
    refine lv_iconst (v := 1) hx hb dX3_frame_142 (by decide) ?_
    refine lv_iadd hx hb dX3_frame_143 ?_
    refine cl0_vv ⟨hx, hb, hml, hown, hts⟩ (c_m_add l D cA cB cZ y len tp bb zz wa fs fm mk 1 (upd ff 0 (i8 21)) ((160 + (2 * (nI 1))) + 1) (by omega)) (cwV 1 hts (gM_add _) rfl rfl rfl (by decide +kernel) ⟨Nat.le_of_ble_eq_true rfl, Nat.le_of_ble_eq_true rfl⟩) (ci := 3) (q0 := 0) rfl rfl hN hK hP hD hS hA [0, 5] [1, 2, 3, 4] [4, 0, 1, 2, 3, 5] [(bb, .inl (cB, 8400, .inl B1)), (zz, .inl (cZ, 8400, .inl Z1)), (wa, .inl (cA, 2, .inl (wI W1))), (fs, .inl (cA, 4, .inl mf))] [(y, .inr (3, [.int 0, .int (nI len), .ref tp, .int (nI mk), .ref bb, .ref zz, .ref wa, .ref fs, .ref fm, .int (nI 2)])), (bb, .inl (cB, 8400, .inl B1)), (zz, .inl (cZ, 8400, .inl Z1)), (wa, .inl (cA, 2, .inl (wI W1))), (fs, .inl (cA, 4, .inl mf)), (fm, .inl (cB, 256, .inl (upd (upd ff 0 (i8 21)) 1 (i8 ((160 + (2 * (nI 1))) + 1)))))] [] rfl rfl rfl rfl (by decide) rfl rfl rfl hl.1 rfl (Nat.le_of_ble_eq_true rfl) dX3_frame_144 ⟨Nat.le_of_ble_eq_true rfl, Nat.le_of_ble_eq_true rfl⟩ (fun H locs hP hD hS => ?_)
    refine lv_aload_n hx hb dX3_frame_147 rfl (lv_at hl 4 rfl) ?_
    refine lv_aload_n hx hb dX3_frame_148 rfl (lv_at hl 4 rfl) ?_
    refine va_get (D := D) (ci := 3) (v := .ref fs) hx hb hts iX3 hown hK hP 0 rfl rfl 7 (by decide) lk24 (fun _ h => h) rfl dX3_frame_149 ?_
    refine lv_iconst (v := 0) hx hb dX3_frame_152 (by decide) ?_
    refine tp_i (y := nI 0) (rfl) ?_
    refine al_i (k := 0) hx hb hK hP 4 0 rfl rfl (by decide) (by decide) dX3_frame_153 ?_
    refine cl0_vv ⟨hx, hb, hml, hown, hts⟩ (c_m_add l D cA cB cZ y len tp bb zz wa fs fm mk 2 (upd (upd ff 0 (i8 21)) 1 (i8 ((160 + (2 * (nI 1))) + 1))) (mf 0) (by omega)) (cwV 1 hts (gM_add _) rfl rfl rfl (by decide +kernel) ⟨Nat.le_of_ble_eq_true rfl, Nat.le_of_ble_eq_true rfl⟩) (ci := 3) (q0 := 0) rfl rfl hN hK hP hD hS hA [0, 5] [1, 2, 3, 4] [4, 0, 1, 2, 3, 5] [(bb, .inl (cB, 8400, .inl B1)), (zz, .inl (cZ, 8400, .inl Z1)), (wa, .inl (cA, 2, .inl (wI W1))), (fs, .inl (cA, 4, .inl mf))] [(y, .inr (3, [.int 0, .int (nI len), .ref tp, .int (nI mk), .ref bb, .ref zz, .ref wa, .ref fs, .ref fm, .int (nI 3)])), (bb, .inl (cB, 8400, .inl B1)), (zz, .inl (cZ, 8400, .inl Z1)), (wa, .inl (cA, 2, .inl (wI W1))), (fs, .inl (cA, 4, .inl mf)), (fm, .inl (cB, 256, .inl (upd (upd (upd ff 0 (i8 21)) 1 (i8 ((160 + (2 * (nI 1))) + 1))) 2 (i8 (mf 0)))))] [] rfl rfl rfl rfl (by decide) rfl rfl rfl hl.1 rfl (Nat.le_of_ble_eq_true rfl) dX3_frame_154 ⟨Nat.le_of_ble_eq_true rfl, Nat.le_of_ble_eq_true rfl⟩ (fun H locs hP hD hS => ?_)
    refine lv_aload_n hx hb dX3_frame_157 rfl (lv_at hl 4 rfl) ?_
    refine lv_aload_n hx hb dX3_frame_158 rfl (lv_at hl 4 rfl) ?_
    refine va_get (D := D) (ci := 3) (v := .ref fs) hx hb hts iX3 hown hK hP 0 rfl rfl 7 (by decide) lk24 (fun _ h => h) rfl dX3_frame_159 ?_
    refine lv_iconst (v := 1) hx hb dX3_frame_162 (by decide) ?_
    refine lv_iload_n hx hb dX3_frame_163 rfl (lv_at hl 3 rfl) ?_
    refine lv_iadd hx hb dX3_frame_164 ?_
    refine tp_i (y := nI 2) (by decide) ?_
    refine al_i (k := 2) hx hb hK hP 4 0 rfl rfl (by decide) (by decide) dX3_frame_165 ?_
    refine cl0_vv ⟨hx, hb, hml, hown, hts⟩ (c_m_add l D cA cB cZ y len tp bb zz wa fs fm mk 3 (upd (upd (upd ff 0 (i8 21)) 1 (i8 ((160 + (2 * (nI 1))) + 1))) 2 (i8 (mf 0))) (mf 2) (by omega)) (cwV 1 hts (gM_add _) rfl rfl rfl (by decide +kernel) ⟨Nat.le_of_ble_eq_true rfl, Nat.le_of_ble_eq_true rfl⟩) (ci := 3) (q0 := 0) rfl rfl hN hK hP hD hS hA [0, 5] [1, 2, 3, 4] [4, 0, 1, 2, 3, 5] [(bb, .inl (cB, 8400, .inl B1)), (zz, .inl (cZ, 8400, .inl Z1)), (wa, .inl (cA, 2, .inl (wI W1))), (fs, .inl (cA, 4, .inl mf))] [(y, .inr (3, [.int 0, .int (nI len), .ref tp, .int (nI mk), .ref bb, .ref zz, .ref wa, .ref fs, .ref fm, .int (nI 4)])), (bb, .inl (cB, 8400, .inl B1)), (zz, .inl (cZ, 8400, .inl Z1)), (wa, .inl (cA, 2, .inl (wI W1))), (fs, .inl (cA, 4, .inl mf)), (fm, .inl (cB, 256, .inl (upd (upd (upd (upd ff 0 (i8 21)) 1 (i8 ((160 + (2 * (nI 1))) + 1))) 2 (i8 (mf 0))) 3 (i8 (mf 2)))))] [] rfl rfl rfl rfl (by decide) rfl rfl rfl hl.1 rfl (Nat.le_of_ble_eq_true rfl) dX3_frame_166 ⟨Nat.le_of_ble_eq_true rfl, Nat.le_of_ble_eq_true rfl⟩ (fun H locs hP hD hS => ?_)
    refine lv_aload_n hx hb dX3_frame_169 rfl (lv_at hl 4 rfl) ?_
    refine lv_bipush (v := 24) hx hb dX3_frame_170 (by decide +kernel) ?_
    refine lv_iload hx hb dX3_frame_172 (lv_at hl 0 rfl) ?_
    refine lv_sipush (v := 256) hx hb dX3_frame_174 (by decide +kernel) ?_
    refine lv_idiv hx hb dX3_frame_177 (by decide) ?_
    refine lv_iadd hx hb dX3_frame_178 ?_
    refine cl0_vv ⟨hx, hb, hml, hown, hts⟩ (c_m_add l D cA cB cZ y len tp bb zz wa fs fm mk 4 (upd (upd (upd (upd ff 0 (i8 21)) 1 (i8 ((160 + (2 * (nI 1))) + 1))) 2 (i8 (mf 0))) 3 (i8 (mf 2))) (24 + ((fbM Z1 (4200 * 1) a 0) / 256)) (by omega)) (cwV 1 hts (gM_add _) rfl rfl rfl (by decide +kernel) ⟨Nat.le_of_ble_eq_true rfl, Nat.le_of_ble_eq_true rfl⟩) (ci := 3) (q0 := 0) rfl rfl hN hK hP hD hS hA [0, 5] [1, 2, 3, 4] [4, 0, 1, 2, 3, 5] [(bb, .inl (cB, 8400, .inl B1)), (zz, .inl (cZ, 8400, .inl Z1)), (wa, .inl (cA, 2, .inl (wI W1))), (fs, .inl (cA, 4, .inl mf))] [(y, .inr (3, [.int 0, .int (nI len), .ref tp, .int (nI mk), .ref bb, .ref zz, .ref wa, .ref fs, .ref fm, .int (nI 5)])), (bb, .inl (cB, 8400, .inl B1)), (zz, .inl (cZ, 8400, .inl Z1)), (wa, .inl (cA, 2, .inl (wI W1))), (fs, .inl (cA, 4, .inl mf)), (fm, .inl (cB, 256, .inl (upd (upd (upd (upd (upd ff 0 (i8 21)) 1 (i8 ((160 + (2 * (nI 1))) + 1))) 2 (i8 (mf 0))) 3 (i8 (mf 2))) 4 (i8 (24 + ((fbM Z1 (4200 * 1) a 0) / 256))))))] [] rfl rfl rfl rfl (by decide) rfl rfl rfl hl.1 rfl (Nat.le_of_ble_eq_true rfl) dX3_frame_179 ⟨Nat.le_of_ble_eq_true rfl, Nat.le_of_ble_eq_true rfl⟩ (fun H locs hP hD hS => ?_)
    refine lv_aload_n hx hb dX3_frame_182 rfl (lv_at hl 4 rfl) ?_
    refine lv_iload hx hb dX3_frame_183 (lv_at hl 0 rfl) ?_
    refine cl0_vv ⟨hx, hb, hml, hown, hts⟩ (c_m_add l D cA cB cZ y len tp bb zz wa fs fm mk 5 (upd (upd (upd (upd (upd ff 0 (i8 21)) 1 (i8 ((160 + (2 * (nI 1))) + 1))) 2 (i8 (mf 0))) 3 (i8 (mf 2))) 4 (i8 (24 + ((fbM Z1 (4200 * 1) a 0) / 256)))) (fbM Z1 (4200 * 1) a 0) (by omega)) (cwV 1 hts (gM_add _) rfl rfl rfl (by decide +kernel) ⟨Nat.le_of_ble_eq_true rfl, Nat.le_of_ble_eq_true rfl⟩) (ci := 3) (q0 := 0) rfl rfl hN hK hP hD hS hA [0, 5] [1, 2, 3, 4] [4, 0, 1, 2, 3, 5] [(bb, .inl (cB, 8400, .inl B1)), (zz, .inl (cZ, 8400, .inl Z1)), (wa, .inl (cA, 2, .inl (wI W1))), (fs, .inl (cA, 4, .inl mf))] [(y, .inr (3, [.int 0, .int (nI len), .ref tp, .int (nI mk), .ref bb, .ref zz, .ref wa, .ref fs, .ref fm, .int (nI 6)])), (bb, .inl (cB, 8400, .inl B1)), (zz, .inl (cZ, 8400, .inl Z1)), (wa, .inl (cA, 2, .inl (wI W1))), (fs, .inl (cA, 4, .inl mf)), (fm, .inl (cB, 256, .inl (mA ff mf (nI 1) 2 (fbM Z1 (4200 * 1) a 0))))] [] rfl rfl rfl rfl (by decide) rfl rfl rfl hl.1 rfl (Nat.le_of_ble_eq_true rfl) dX3_frame_185 ⟨Nat.le_of_ble_eq_true rfl, Nat.le_of_ble_eq_true rfl⟩ (fun H locs hP hD hS => ?_)
    refine lv_iconst (v := 0) hx hb dX3_frame_188 (by decide) ?_
    refine lv_istore (lv' := [(6, .int 0), (5, .int (fbM Z1 (4200 * 1) a 0)), (4, .int (nI a)), (3, .int (nI 1)), (2, .int (nI 1)), (0, .ref y), (1, .int word)]) hx hb dX3_frame_189 hl (by decide) rfl (fun ls hl => ?_)
    have loop : ∀ (d j : Nat) (H : Heap) (locs : List Loc) (ls : Array Slot), j + d = a → va_P D vwCl [(y, .inr (3, [.int 0, .int (nI len), .ref tp, .int (nI mk), .ref bb, .ref zz, .ref wa, .ref fs, .ref fm, .int (nI (6 + j))])), (bb, .inl (cB, 8400, .inl B1)), (zz, .inl (cZ, 8400, .inl Z1)), (wa, .inl (cA, 2, .inl (wI W1))), (fs, .inl (cA, 4, .inl mf)), (fm, .inl (cB, 256, .inl (lwr (mA ff mf (nI 1) 2 (fbM Z1 (4200 * 1) a 0)) 6 (fun i => i8 (B1 (4200 * 1 + i))) j)))] H → va_D A [(y, .inr (3, [.int 0, .int (nI len), .ref tp, .int (nI mk), .ref bb, .ref zz, .ref wa, .ref fs, .ref fm, .int (nI (6 + j))])), (bb, .inl (cB, 8400, .inl B1)), (zz, .inl (cZ, 8400, .inl Z1)), (wa, .inl (cA, 2, .inl (wI W1))), (fs, .inl (cA, 4, .inl mf)), (fm, .inl (cB, 256, .inl (lwr (mA ff mf (nI 1) 2 (fbM Z1 (4200 * 1) a 0)) 6 (fun i => i8 (B1 (4200 * 1 + i))) j)))] → va_S A s.heap H locs → lv_has ls 7 [(6, .int (nI j)), (5, .int (fbM Z1 (4200 * 1) a 0)), (4, .int (nI a)), (3, .int (nI 1)), (2, .int (nI 1)), (0, .ref y), (1, .int word)] → W p l e ({ frames := 2, cells := 0, slots := 0, locals := 50 } : Room) s m ([.ref y, .int word] : List Value).toArray below meth c H locs 0 0 Q (F0 m 191 ls []) := by
      intro d
      induction d with
      | zero =>
        intro j H locs ls hj hP hD hS hl
        have hj : j = a := hj
        rw [hj] at hP hD hl
        refine lv_iload hx hb dX3_frame_191 (lv_at hl 0 rfl) ?_
        refine lv_iload hx hb dX3_frame_193 (lv_at hl 2 rfl) ?_
        refine lv_icmp_ge (tgt := 231) hx hb dX3_frame_195 (by decide) (fun _ => ?_) (fun cc => absurd (nI_le (Nat.le_refl _) (by omega)) cc)
        refine lv_bipush (v := 24) hx hb dX3_frame_231 (by decide +kernel) ?_
        refine lv_istore (lv' := [(6, .int 24), (5, .int (fbM Z1 (4200 * 1) a 0)), (4, .int (nI a)), (3, .int (nI 1)), (2, .int (nI 1)), (0, .ref y), (1, .int word)]) hx hb dX3_frame_233 hl (by decide) rfl (fun ls hl => ?_)
        refine lv_iload hx hb dX3_frame_235 (lv_at hl 0 rfl) ?_
        refine lv_if_lt (tgt := 254) hx hb dX3_frame_237 (by decide) (fun cc => absurd cc (by decide)) (fun _ => ?_)
        refine lv_aload_n hx hb dX3_frame_240 rfl (lv_at hl 5 rfl) ?_
        refine lv_iload_n hx hb dX3_frame_241 rfl (lv_at hl 6 rfl) ?_
        refine lv_iload hx hb dX3_frame_242 (lv_at hl 0 rfl) ?_
        refine lv_ishr hx hb dX3_frame_244 ?_
        refine cl0_vv ⟨hx, hb, hml, hown, hts⟩ (c_m_add l D cA cB cZ y len tp bb zz wa fs fm mk (6 + a) (lwr (mA ff mf (nI 1) 2 (fbM Z1 (4200 * 1) a 0)) 6 (fun i => i8 (B1 (4200 * 1 + i))) a) (sra word 24) (by omega)) (cwV 1 hts (gM_add _) rfl rfl rfl (by decide +kernel) ⟨Nat.le_of_ble_eq_true rfl, Nat.le_of_ble_eq_true rfl⟩) (ci := 3) (q0 := 0) rfl rfl hN hK hP hD hS hA [0, 5] [1, 2, 3, 4] [4, 0, 1, 2, 3, 5] [(bb, .inl (cB, 8400, .inl B1)), (zz, .inl (cZ, 8400, .inl Z1)), (wa, .inl (cA, 2, .inl (wI W1))), (fs, .inl (cA, 4, .inl mf))] [(y, .inr (3, [.int 0, .int (nI len), .ref tp, .int (nI mk), .ref bb, .ref zz, .ref wa, .ref fs, .ref fm, .int (nI (6 + a + 1))])), (bb, .inl (cB, 8400, .inl B1)), (zz, .inl (cZ, 8400, .inl Z1)), (wa, .inl (cA, 2, .inl (wI W1))), (fs, .inl (cA, 4, .inl mf)), (fm, .inl (cB, 256, .inl (upd (lwr (mA ff mf (nI 1) 2 (fbM Z1 (4200 * 1) a 0)) 6 (fun i => i8 (B1 (4200 * 1 + i))) a) (6 + a) (i8 (sra word 24)))))] [] rfl rfl rfl rfl (by decide) rfl rfl rfl hl.1 rfl (Nat.le_of_ble_eq_true rfl) dX3_frame_245 ⟨Nat.le_of_ble_eq_true rfl, Nat.le_of_ble_eq_true rfl⟩ (fun H locs hP hD hS => ?_)
        refine lv_iinc (v := 16) (lv' := [(6, .int 16), (5, .int (fbM Z1 (4200 * 1) a 0)), (4, .int (nI a)), (3, .int (nI 1)), (2, .int (nI 1)), (0, .ref y), (1, .int word)]) hx hb dX3_frame_248 hl (k := 0) rfl (by decide) (by decide) rfl (fun ls hl => ?_)
        refine lv_goto (tgt := 235) hx hb dX3_frame_251 (by decide) ?_
        refine lv_iload hx hb dX3_frame_235 (lv_at hl 0 rfl) ?_
        refine lv_if_lt (tgt := 254) hx hb dX3_frame_237 (by decide) (fun cc => absurd cc (by decide)) (fun _ => ?_)
        refine lv_aload_n hx hb dX3_frame_240 rfl (lv_at hl 5 rfl) ?_
        refine lv_iload_n hx hb dX3_frame_241 rfl (lv_at hl 6 rfl) ?_
        refine lv_iload hx hb dX3_frame_242 (lv_at hl 0 rfl) ?_
        refine lv_ishr hx hb dX3_frame_244 ?_
        refine cl0_vv ⟨hx, hb, hml, hown, hts⟩ (c_m_add l D cA cB cZ y len tp bb zz wa fs fm mk (6 + a + 1) (upd (lwr (mA ff mf (nI 1) 2 (fbM Z1 (4200 * 1) a 0)) 6 (fun i => i8 (B1 (4200 * 1 + i))) a) (6 + a) (i8 (sra word 24))) (sra word 16) (by omega)) (cwV 1 hts (gM_add _) rfl rfl rfl (by decide +kernel) ⟨Nat.le_of_ble_eq_true rfl, Nat.le_of_ble_eq_true rfl⟩) (ci := 3) (q0 := 0) rfl rfl hN hK hP hD hS hA [0, 5] [1, 2, 3, 4] [4, 0, 1, 2, 3, 5] [(bb, .inl (cB, 8400, .inl B1)), (zz, .inl (cZ, 8400, .inl Z1)), (wa, .inl (cA, 2, .inl (wI W1))), (fs, .inl (cA, 4, .inl mf))] [(y, .inr (3, [.int 0, .int (nI len), .ref tp, .int (nI mk), .ref bb, .ref zz, .ref wa, .ref fs, .ref fm, .int (nI (6 + a + 2))])), (bb, .inl (cB, 8400, .inl B1)), (zz, .inl (cZ, 8400, .inl Z1)), (wa, .inl (cA, 2, .inl (wI W1))), (fs, .inl (cA, 4, .inl mf)), (fm, .inl (cB, 256, .inl (upd (upd (lwr (mA ff mf (nI 1) 2 (fbM Z1 (4200 * 1) a 0)) 6 (fun i => i8 (B1 (4200 * 1 + i))) a) (6 + a) (i8 (sra word 24))) (6 + a + 1) (i8 (sra word 16)))))] [] rfl rfl rfl rfl (by decide) rfl rfl rfl hl.1 rfl (Nat.le_of_ble_eq_true rfl) dX3_frame_245 ⟨Nat.le_of_ble_eq_true rfl, Nat.le_of_ble_eq_true rfl⟩ (fun H locs hP hD hS => ?_)
        refine lv_iinc (v := 8) (lv' := [(6, .int 8), (5, .int (fbM Z1 (4200 * 1) a 0)), (4, .int (nI a)), (3, .int (nI 1)), (2, .int (nI 1)), (0, .ref y), (1, .int word)]) hx hb dX3_frame_248 hl (k := 0) rfl (by decide) (by decide) rfl (fun ls hl => ?_)
        refine lv_goto (tgt := 235) hx hb dX3_frame_251 (by decide) ?_
        refine lv_iload hx hb dX3_frame_235 (lv_at hl 0 rfl) ?_
        refine lv_if_lt (tgt := 254) hx hb dX3_frame_237 (by decide) (fun cc => absurd cc (by decide)) (fun _ => ?_)
        refine lv_aload_n hx hb dX3_frame_240 rfl (lv_at hl 5 rfl) ?_
        refine lv_iload_n hx hb dX3_frame_241 rfl (lv_at hl 6 rfl) ?_
        refine lv_iload hx hb dX3_frame_242 (lv_at hl 0 rfl) ?_
        refine lv_ishr hx hb dX3_frame_244 ?_
        refine cl0_vv ⟨hx, hb, hml, hown, hts⟩ (c_m_add l D cA cB cZ y len tp bb zz wa fs fm mk (6 + a + 2) (upd (upd (lwr (mA ff mf (nI 1) 2 (fbM Z1 (4200 * 1) a 0)) 6 (fun i => i8 (B1 (4200 * 1 + i))) a) (6 + a) (i8 (sra word 24))) (6 + a + 1) (i8 (sra word 16))) (sra word 8) (by omega)) (cwV 1 hts (gM_add _) rfl rfl rfl (by decide +kernel) ⟨Nat.le_of_ble_eq_true rfl, Nat.le_of_ble_eq_true rfl⟩) (ci := 3) (q0 := 0) rfl rfl hN hK hP hD hS hA [0, 5] [1, 2, 3, 4] [4, 0, 1, 2, 3, 5] [(bb, .inl (cB, 8400, .inl B1)), (zz, .inl (cZ, 8400, .inl Z1)), (wa, .inl (cA, 2, .inl (wI W1))), (fs, .inl (cA, 4, .inl mf))] [(y, .inr (3, [.int 0, .int (nI len), .ref tp, .int (nI mk), .ref bb, .ref zz, .ref wa, .ref fs, .ref fm, .int (nI (6 + a + 3))])), (bb, .inl (cB, 8400, .inl B1)), (zz, .inl (cZ, 8400, .inl Z1)), (wa, .inl (cA, 2, .inl (wI W1))), (fs, .inl (cA, 4, .inl mf)), (fm, .inl (cB, 256, .inl (upd (upd (upd (lwr (mA ff mf (nI 1) 2 (fbM Z1 (4200 * 1) a 0)) 6 (fun i => i8 (B1 (4200 * 1 + i))) a) (6 + a) (i8 (sra word 24))) (6 + a + 1) (i8 (sra word 16))) (6 + a + 2) (i8 (sra word 8)))))] [] rfl rfl rfl rfl (by decide) rfl rfl rfl hl.1 rfl (Nat.le_of_ble_eq_true rfl) dX3_frame_245 ⟨Nat.le_of_ble_eq_true rfl, Nat.le_of_ble_eq_true rfl⟩ (fun H locs hP hD hS => ?_)
        refine lv_iinc (v := 0) (lv' := [(6, .int 0), (5, .int (fbM Z1 (4200 * 1) a 0)), (4, .int (nI a)), (3, .int (nI 1)), (2, .int (nI 1)), (0, .ref y), (1, .int word)]) hx hb dX3_frame_248 hl (k := 0) rfl (by decide) (by decide) rfl (fun ls hl => ?_)
        refine lv_goto (tgt := 235) hx hb dX3_frame_251 (by decide) ?_
        refine lv_iload hx hb dX3_frame_235 (lv_at hl 0 rfl) ?_
        refine lv_if_lt (tgt := 254) hx hb dX3_frame_237 (by decide) (fun cc => absurd cc (by decide)) (fun _ => ?_)
        refine lv_aload_n hx hb dX3_frame_240 rfl (lv_at hl 5 rfl) ?_
        refine lv_iload_n hx hb dX3_frame_241 rfl (lv_at hl 6 rfl) ?_
        refine lv_iload hx hb dX3_frame_242 (lv_at hl 0 rfl) ?_
        refine lv_ishr hx hb dX3_frame_244 ?_
        refine cl0_vv ⟨hx, hb, hml, hown, hts⟩ (c_m_add l D cA cB cZ y len tp bb zz wa fs fm mk (6 + a + 3) (upd (upd (upd (lwr (mA ff mf (nI 1) 2 (fbM Z1 (4200 * 1) a 0)) 6 (fun i => i8 (B1 (4200 * 1 + i))) a) (6 + a) (i8 (sra word 24))) (6 + a + 1) (i8 (sra word 16))) (6 + a + 2) (i8 (sra word 8))) (sra word 0) (by omega)) (cwV 1 hts (gM_add _) rfl rfl rfl (by decide +kernel) ⟨Nat.le_of_ble_eq_true rfl, Nat.le_of_ble_eq_true rfl⟩) (ci := 3) (q0 := 0) rfl rfl hN hK hP hD hS hA [0, 5] [1, 2, 3, 4] [4, 0, 1, 2, 3, 5] [(bb, .inl (cB, 8400, .inl B1)), (zz, .inl (cZ, 8400, .inl Z1)), (wa, .inl (cA, 2, .inl (wI W1))), (fs, .inl (cA, 4, .inl mf))] [(y, .inr (3, [.int 0, .int (nI len), .ref tp, .int (nI mk), .ref bb, .ref zz, .ref wa, .ref fs, .ref fm, .int (nI (6 + a + 4))])), (bb, .inl (cB, 8400, .inl B1)), (zz, .inl (cZ, 8400, .inl Z1)), (wa, .inl (cA, 2, .inl (wI W1))), (fs, .inl (cA, 4, .inl mf)), (fm, .inl (cB, 256, .inl (mW (lwr (mA ff mf (nI 1) 2 (fbM Z1 (4200 * 1) a 0)) 6 (fun i => i8 (B1 (4200 * 1 + i))) a) a word)))] [] rfl rfl rfl rfl (by decide) rfl rfl rfl hl.1 rfl (Nat.le_of_ble_eq_true rfl) dX3_frame_245 ⟨Nat.le_of_ble_eq_true rfl, Nat.le_of_ble_eq_true rfl⟩ (fun H locs hP hD hS => ?_)
        refine lv_iinc (v := (-8)) (lv' := [(6, .int (-8)), (5, .int (fbM Z1 (4200 * 1) a 0)), (4, .int (nI a)), (3, .int (nI 1)), (2, .int (nI 1)), (0, .ref y), (1, .int word)]) hx hb dX3_frame_248 hl (k := 0) rfl (by decide) (by decide) rfl (fun ls hl => ?_)
        refine lv_goto (tgt := 235) hx hb dX3_frame_251 (by decide) ?_
        refine lv_iload hx hb dX3_frame_235 (lv_at hl 0 rfl) ?_
        refine lv_if_lt (tgt := 254) hx hb dX3_frame_237 (by decide) (fun _ => ?_) (fun cc => absurd (by decide) cc)
        refine lv_aload_n hx hb dX3_frame_254 rfl (lv_at hl 5 rfl) ?_
        refine cl0_vi ⟨hx, hb, hml, hown, hts⟩ (c_m_check l D cA cB cZ y len tp bb zz wa fs fm mk (6 + a + 4) (mW (lwr (mA ff mf (nI 1) 2 (fbM Z1 (4200 * 1) a 0)) 6 (fun i => i8 (B1 (4200 * 1 + i))) a) a word) (by omega)) (cwV 0 hts (gM_check _) rfl rfl rfl (by decide +kernel) ⟨Nat.le_of_ble_eq_true rfl, Nat.le_of_ble_eq_true rfl⟩) (ci := 3) (q0 := 0) rfl rfl hN hK hP hD hS hA [0, 5] [1, 2, 3, 4] [4, 0, 1, 2, 3, 5] [(bb, .inl (cB, 8400, .inl B1)), (zz, .inl (cZ, 8400, .inl Z1)), (wa, .inl (cA, 2, .inl (wI W1))), (fs, .inl (cA, 4, .inl mf))] [(y, .inr (3, [.int 0, .int (nI len), .ref tp, .int (nI mk), .ref bb, .ref zz, .ref wa, .ref fs, .ref fm, .int (nI (6 + a + 4))])), (bb, .inl (cB, 8400, .inl B1)), (zz, .inl (cZ, 8400, .inl Z1)), (wa, .inl (cA, 2, .inl (wI W1))), (fs, .inl (cA, 4, .inl mf)), (fm, .inl (cB, 256, .inl (mW (lwr (mA ff mf (nI 1) 2 (fbM Z1 (4200 * 1) a 0)) 6 (fun i => i8 (B1 (4200 * 1 + i))) a) a word)))] [] rfl rfl rfl rfl (by decide) rfl rfl rfl hl.1 rfl (Nat.le_of_ble_eq_true rfl) dX3_frame_255 ⟨Nat.le_of_ble_eq_true rfl, Nat.le_of_ble_eq_true rfl⟩ (fun H locs hP hD hS => ?_)
        refine lv_istore (lv' := [(6, .int (crcM (mW (lwr (mA ff mf (nI 1) 2 (fbM Z1 (4200 * 1) a 0)) 6 (fun i => i8 (B1 (4200 * 1 + i))) a) a word) (6 + a + 4))), (5, .int (fbM Z1 (4200 * 1) a 0)), (4, .int (nI a)), (3, .int (nI 1)), (2, .int (nI 1)), (0, .ref y), (1, .int word)]) hx hb dX3_frame_258 hl (by decide) rfl (fun ls hl => ?_)
        refine lv_aload_n hx hb dX3_frame_260 rfl (lv_at hl 5 rfl) ?_
        refine lv_iload hx hb dX3_frame_261 (lv_at hl 0 rfl) ?_
        refine lv_sipush (v := 256) hx hb dX3_frame_263 (by decide +kernel) ?_
        refine lv_idiv hx hb dX3_frame_266 (by decide) ?_
        refine cl0_vv ⟨hx, hb, hml, hown, hts⟩ (c_m_add l D cA cB cZ y len tp bb zz wa fs fm mk (6 + a + 4) (mW (lwr (mA ff mf (nI 1) 2 (fbM Z1 (4200 * 1) a 0)) 6 (fun i => i8 (B1 (4200 * 1 + i))) a) a word) ((crcM (mW (lwr (mA ff mf (nI 1) 2 (fbM Z1 (4200 * 1) a 0)) 6 (fun i => i8 (B1 (4200 * 1 + i))) a) a word) (6 + a + 4)) / 256) (by omega)) (cwV 1 hts (gM_add _) rfl rfl rfl (by decide +kernel) ⟨Nat.le_of_ble_eq_true rfl, Nat.le_of_ble_eq_true rfl⟩) (ci := 3) (q0 := 0) rfl rfl hN hK hP hD hS hA [0, 5] [1, 2, 3, 4] [4, 0, 1, 2, 3, 5] [(bb, .inl (cB, 8400, .inl B1)), (zz, .inl (cZ, 8400, .inl Z1)), (wa, .inl (cA, 2, .inl (wI W1))), (fs, .inl (cA, 4, .inl mf))] [(y, .inr (3, [.int 0, .int (nI len), .ref tp, .int (nI mk), .ref bb, .ref zz, .ref wa, .ref fs, .ref fm, .int (nI (6 + a + 5))])), (bb, .inl (cB, 8400, .inl B1)), (zz, .inl (cZ, 8400, .inl Z1)), (wa, .inl (cA, 2, .inl (wI W1))), (fs, .inl (cA, 4, .inl mf)), (fm, .inl (cB, 256, .inl (upd (mW (lwr (mA ff mf (nI 1) 2 (fbM Z1 (4200 * 1) a 0)) 6 (fun i => i8 (B1 (4200 * 1 + i))) a) a word) (6 + a + 4) (i8 ((crcM (mW (lwr (mA ff mf (nI 1) 2 (fbM Z1 (4200 * 1) a 0)) 6 (fun i => i8 (B1 (4200 * 1 + i))) a) a word) (6 + a + 4)) / 256)))))] [] rfl rfl rfl rfl (by decide) rfl rfl rfl hl.1 rfl (Nat.le_of_ble_eq_true rfl) dX3_frame_267 ⟨Nat.le_of_ble_eq_true rfl, Nat.le_of_ble_eq_true rfl⟩ (fun H locs hP hD hS => ?_)
        refine lv_aload_n hx hb dX3_frame_270 rfl (lv_at hl 5 rfl) ?_
        refine lv_iload hx hb dX3_frame_271 (lv_at hl 0 rfl) ?_
        refine cl0_vv ⟨hx, hb, hml, hown, hts⟩ (c_m_add l D cA cB cZ y len tp bb zz wa fs fm mk (6 + a + 5) (upd (mW (lwr (mA ff mf (nI 1) 2 (fbM Z1 (4200 * 1) a 0)) 6 (fun i => i8 (B1 (4200 * 1 + i))) a) a word) (6 + a + 4) (i8 ((crcM (mW (lwr (mA ff mf (nI 1) 2 (fbM Z1 (4200 * 1) a 0)) 6 (fun i => i8 (B1 (4200 * 1 + i))) a) a word) (6 + a + 4)) / 256))) (crcM (mW (lwr (mA ff mf (nI 1) 2 (fbM Z1 (4200 * 1) a 0)) 6 (fun i => i8 (B1 (4200 * 1 + i))) a) a word) (6 + a + 4)) (by omega)) (cwV 1 hts (gM_add _) rfl rfl rfl (by decide +kernel) ⟨Nat.le_of_ble_eq_true rfl, Nat.le_of_ble_eq_true rfl⟩) (ci := 3) (q0 := 0) rfl rfl hN hK hP hD hS hA [0, 5] [1, 2, 3, 4] [4, 0, 1, 2, 3, 5] [(bb, .inl (cB, 8400, .inl B1)), (zz, .inl (cZ, 8400, .inl Z1)), (wa, .inl (cA, 2, .inl (wI W1))), (fs, .inl (cA, 4, .inl mf))] [(y, .inr (3, [.int 0, .int (nI len), .ref tp, .int (nI mk), .ref bb, .ref zz, .ref wa, .ref fs, .ref fm, .int (nI (6 + a + 6))])), (bb, .inl (cB, 8400, .inl B1)), (zz, .inl (cZ, 8400, .inl Z1)), (wa, .inl (cA, 2, .inl (wI W1))), (fs, .inl (cA, 4, .inl mf)), (fm, .inl (cB, 256, .inl (mL ff mf (nI 1) 2 (fbM Z1 (4200 * 1) a 0) (fun i => i8 (B1 (4200 * 1 + i))) a word)))] [] rfl rfl rfl rfl (by decide) rfl rfl rfl hl.1 rfl (Nat.le_of_ble_eq_true rfl) dX3_frame_273 ⟨Nat.le_of_ble_eq_true rfl, Nat.le_of_ble_eq_true rfl⟩ (fun H locs hP hD hS => ?_)
        refine lv_iload_n hx hb dX3_frame_276 rfl (lv_at hl 4 rfl) ?_
        refine lv_iconst (v := 2) hx hb dX3_frame_277 (by decide) ?_
        refine lv_icmp_ge (tgt := 288) hx hb dX3_frame_278 (by decide) (fun cc => absurd cc (by decide)) (fun _ => ?_)
        refine lv_aload_n hx hb dX3_frame_281 rfl (lv_at hl 5 rfl) ?_
        refine lv_iload_n hx hb dX3_frame_282 rfl (lv_at hl 4 rfl) ?_
        refine lv_iload hx hb dX3_frame_283 (lv_at hl 2 rfl) ?_
        refine cl0_vv ⟨hx, hb, hml, hown, hts⟩ (c_m_leave l D cA cB cZ y len tp bb zz wa fs fm mk (6 + a + 6) B1 Z1 W1 1 K a (by decide) hWc hKa (by omega)) (cwV 2 hts (gM_leave _) rfl rfl rfl (by decide +kernel) ⟨Nat.le_of_ble_eq_true rfl, Nat.le_of_ble_eq_true rfl⟩) (ci := 3) (q0 := 0) rfl rfl hN hK hP hD hS hA [0, 1, 2, 3] [4, 5] [2, 3, 4, 5, 0, 1] [(fs, .inl (cA, 4, .inl mf)), (fm, .inl (cB, 256, .inl (mL ff mf (nI 1) 2 (fbM Z1 (4200 * 1) a 0) (fun i => i8 (B1 (4200 * 1 + i))) a word)))] [(y, .inr (3, [.int 0, .int (nI len), .ref tp, .int (nI mk), .ref bb, .ref zz, .ref wa, .ref fs, .ref fm, .int (nI (6 + a + 6))])), (bb, .inl (cB, 8400, .inl (lwr B1 (4200 * 1) (fun i => i8 (B1 (4200 * 1 + i + a))) (K - a)))), (zz, .inl (cZ, 8400, .inl (lwr Z1 (4200 * 1) (fun i => Z1 (4200 * 1 + i + a) &&& 1) (K - a)))), (wa, .inl (cA, 2, .inl (wI (va_up W1 1 (K - a))))), (fs, .inl (cA, 4, .inl mf)), (fm, .inl (cB, 256, .inl (mL ff mf (nI 1) 2 (fbM Z1 (4200 * 1) a 0) (fun i => i8 (B1 (4200 * 1 + i))) a word)))] [] rfl rfl rfl rfl (by decide) rfl rfl rfl hl.1 rfl (Nat.le_of_ble_eq_true rfl) dX3_frame_285 ⟨Nat.le_of_ble_eq_true rfl, Nat.le_of_ble_eq_true rfl⟩ (fun H locs hP hD hS => ?_)
        refine lv_aload_n hx hb dX3_frame_288 rfl (lv_at hl 5 rfl) ?_
        refine va_get (D := D) (ci := 3) (v := .ref fs) hx hb hts iX3 hown hK hP 0 rfl rfl 7 (by decide) lk24 (fun _ h => h) rfl dX3_frame_289 ?_
        refine lv_iconst (v := 0) hx hb dX3_frame_292 (by decide) ?_
        refine tp_i (y := nI 0) (rfl) ?_
        refine lv_dup2_11 hx hb dX3_frame_293 rfl rfl ?_
        refine al_i (k := 0) hx hb hK hP 4 0 rfl rfl (by decide) (by decide) dX3_frame_294 ?_
        refine lv_iconst (v := 1) hx hb dX3_frame_295 (by decide) ?_
        refine lv_iadd hx hb dX3_frame_296 ?_
        refine as_i (k := 0) (x := ((mf 0) + 1)) hx hb hK hP hD hS 4 0 rfl rfl (by decide) (by decide) dX3_frame_297 (fun H locs hP hD hS => ?_)
        have hP : va_P D vwCl [(y, .inr (3, [.int 0, .int (nI len), .ref tp, .int (nI mk), .ref bb, .ref zz, .ref wa, .ref fs, .ref fm, .int (nI (6 + a + 6))])), (bb, .inl (cB, 8400, .inl (lwr B1 (4200 * 1) (fun i => i8 (B1 (4200 * 1 + i + a))) (K - a)))), (zz, .inl (cZ, 8400, .inl (lwr Z1 (4200 * 1) (fun i => Z1 (4200 * 1 + i + a) &&& 1) (K - a)))), (wa, .inl (cA, 2, .inl (wI (va_up W1 1 (K - a))))), (fs, .inl (cA, 4, .inl (upd mf 0 ((mf 0) + 1)))), (fm, .inl (cB, 256, .inl (mL ff mf (nI 1) 2 (fbM Z1 (4200 * 1) a 0) (fun i => i8 (B1 (4200 * 1 + i))) a word)))] H := hP
        have hD : va_D A [(y, .inr (3, [.int 0, .int (nI len), .ref tp, .int (nI mk), .ref bb, .ref zz, .ref wa, .ref fs, .ref fm, .int (nI (6 + a + 6))])), (bb, .inl (cB, 8400, .inl (lwr B1 (4200 * 1) (fun i => i8 (B1 (4200 * 1 + i + a))) (K - a)))), (zz, .inl (cZ, 8400, .inl (lwr Z1 (4200 * 1) (fun i => Z1 (4200 * 1 + i + a) &&& 1) (K - a)))), (wa, .inl (cA, 2, .inl (wI (va_up W1 1 (K - a))))), (fs, .inl (cA, 4, .inl (upd mf 0 ((mf 0) + 1)))), (fm, .inl (cB, 256, .inl (mL ff mf (nI 1) 2 (fbM Z1 (4200 * 1) a 0) (fun i => i8 (B1 (4200 * 1 + i))) a word)))] := hD
        refine lv_aload_n hx hb dX3_frame_298 rfl (lv_at hl 5 rfl) ?_
        refine va_get (D := D) (ci := 3) (v := .ref fs) hx hb hts iX3 hown hK hP 0 rfl rfl 7 (by decide) lk24 (fun _ h => h) rfl dX3_frame_299 ?_
        refine lv_iconst (v := 1) hx hb dX3_frame_302 (by decide) ?_
        refine lv_iload_n hx hb dX3_frame_303 rfl (lv_at hl 4 rfl) ?_
        refine lv_iadd hx hb dX3_frame_304 ?_
        refine tp_i (y := nI 2) (by decide) ?_
        refine lv_dup2_11 hx hb dX3_frame_305 rfl rfl ?_
        refine al_i (k := 2) hx hb hK hP 4 0 rfl rfl (by decide) (by decide) dX3_frame_306 ?_
        refine lv_iconst (v := 1) hx hb dX3_frame_307 (by decide) ?_
        refine lv_iadd hx hb dX3_frame_308 ?_
        refine as_i (k := 2) (x := (((upd mf 0 ((mf 0) + 1)) 2) + 1)) hx hb hK hP hD hS 4 0 rfl rfl (by decide) (by decide) dX3_frame_309 (fun H locs hP hD hS => ?_)
        have hP : va_P D vwCl [(y, .inr (3, [.int 0, .int (nI len), .ref tp, .int (nI mk), .ref bb, .ref zz, .ref wa, .ref fs, .ref fm, .int (nI (6 + a + 6))])), (bb, .inl (cB, 8400, .inl (lwr B1 (4200 * 1) (fun i => i8 (B1 (4200 * 1 + i + a))) (K - a)))), (zz, .inl (cZ, 8400, .inl (lwr Z1 (4200 * 1) (fun i => Z1 (4200 * 1 + i + a) &&& 1) (K - a)))), (wa, .inl (cA, 2, .inl (wI (va_up W1 1 (K - a))))), (fs, .inl (cA, 4, .inl (upd (upd mf 0 ((mf 0) + 1)) 2 (((upd mf 0 ((mf 0) + 1)) 2) + 1)))), (fm, .inl (cB, 256, .inl (mL ff mf (nI 1) 2 (fbM Z1 (4200 * 1) a 0) (fun i => i8 (B1 (4200 * 1 + i))) a word)))] H := hP
        have hD : va_D A [(y, .inr (3, [.int 0, .int (nI len), .ref tp, .int (nI mk), .ref bb, .ref zz, .ref wa, .ref fs, .ref fm, .int (nI (6 + a + 6))])), (bb, .inl (cB, 8400, .inl (lwr B1 (4200 * 1) (fun i => i8 (B1 (4200 * 1 + i + a))) (K - a)))), (zz, .inl (cZ, 8400, .inl (lwr Z1 (4200 * 1) (fun i => Z1 (4200 * 1 + i + a) &&& 1) (K - a)))), (wa, .inl (cA, 2, .inl (wI (va_up W1 1 (K - a))))), (fs, .inl (cA, 4, .inl (upd (upd mf 0 ((mf 0) + 1)) 2 (((upd mf 0 ((mf 0) + 1)) 2) + 1)))), (fm, .inl (cB, 256, .inl (mL ff mf (nI 1) 2 (fbM Z1 (4200 * 1) a 0) (fun i => i8 (B1 (4200 * 1 + i))) a word)))] := hD
        refine lv_iload_n hx hb dX3_frame_310 rfl (lv_at hl 3 rfl) ?_
        rw [show 6 + a + 6 = len by omega] at hP hD
        rw [hW1, bx_uu] at hP hD
        subst hB1
        subst hZ1
        subst hKK
        exact hex _ _ _ _ _ () hS (rfl) hP hD dX3_frame_311
      | succ d ih =>
        intro j H locs ls hj hP hD hS hl
        refine lv_iload hx hb dX3_frame_191 (lv_at hl 0 rfl) ?_
        refine lv_iload hx hb dX3_frame_193 (lv_at hl 2 rfl) ?_
        refine lv_icmp_ge (tgt := 231) hx hb dX3_frame_195 (by decide) (fun cc => absurd cc (nI_ge (by omega) (by omega))) (fun _ => ?_)
        refine lv_aload_n hx hb dX3_frame_198 rfl (lv_at hl 5 rfl) ?_
        refine lv_iload_n hx hb dX3_frame_199 rfl (lv_at hl 4 rfl) ?_
        refine lv_iconst (v := 2) hx hb dX3_frame_200 (by decide) ?_
        refine lv_icmp_ne (tgt := 209) hx hb dX3_frame_201 (by decide) (fun _ => ?_) (fun cc => absurd cc (by decide))
        refine lv_aload_n hx hb dX3_frame_209 rfl (lv_at hl 5 rfl) ?_
        refine va_get (D := D) (ci := 3) (v := .ref bb) hx hb hts iX3 hown hK hP 0 rfl rfl 4 (by decide) lk13 (fun _ h => h) rfl dX3_frame_210 ?_
        refine lv_sipush (v := 4200) hx hb dX3_frame_213 (by decide +kernel) ?_
        refine lv_iload_n hx hb dX3_frame_216 rfl (lv_at hl 4 rfl) ?_
        refine lv_imul hx hb dX3_frame_217 ?_
        refine lv_iload hx hb dX3_frame_218 (lv_at hl 0 rfl) ?_
        refine lv_iadd hx hb dX3_frame_220 ?_
        refine tp_i (y := nI (4200 * 1 + j)) (by rw [show (4200 : Int32) = nI 4200 from rfl, pk_mul, nI_add]) ?_
        refine al_b (k := (4200 * 1 + j)) hx hb hK hP 1 1 rfl rfl (by omega) (by decide) dX3_frame_221 ?_
        refine cl0_vv ⟨hx, hb, hml, hown, hts⟩ (c_m_add l D cA cB cZ y len tp bb zz wa fs fm mk (6 + j) (lwr (mA ff mf (nI 1) 2 (fbM Z1 (4200 * 1) a 0)) 6 (fun i => i8 (B1 (4200 * 1 + i))) j) (B1 (4200 * 1 + j)) (by omega)) (cwV 1 hts (gM_add _) rfl rfl rfl (by decide +kernel) ⟨Nat.le_of_ble_eq_true rfl, Nat.le_of_ble_eq_true rfl⟩) (ci := 3) (q0 := 0) rfl rfl hN hK hP hD hS hA [0, 5] [1, 2, 3, 4] [4, 0, 1, 2, 3, 5] [(bb, .inl (cB, 8400, .inl B1)), (zz, .inl (cZ, 8400, .inl Z1)), (wa, .inl (cA, 2, .inl (wI W1))), (fs, .inl (cA, 4, .inl mf))] [(y, .inr (3, [.int 0, .int (nI len), .ref tp, .int (nI mk), .ref bb, .ref zz, .ref wa, .ref fs, .ref fm, .int (nI (6 + (j + 1)))])), (bb, .inl (cB, 8400, .inl B1)), (zz, .inl (cZ, 8400, .inl Z1)), (wa, .inl (cA, 2, .inl (wI W1))), (fs, .inl (cA, 4, .inl mf)), (fm, .inl (cB, 256, .inl (lwr (mA ff mf (nI 1) 2 (fbM Z1 (4200 * 1) a 0)) 6 (fun i => i8 (B1 (4200 * 1 + i))) (j + 1))))] [] rfl rfl rfl rfl (by decide) rfl rfl rfl hl.1 rfl (Nat.le_of_ble_eq_true rfl) dX3_frame_222 ⟨Nat.le_of_ble_eq_true rfl, Nat.le_of_ble_eq_true rfl⟩ (fun H locs hP hD hS => ?_)
        refine lv_iinc (v := nI (j + 1)) (lv' := [(6, .int (nI (j + 1))), (5, .int (fbM Z1 (4200 * 1) a 0)), (4, .int (nI a)), (3, .int (nI 1)), (2, .int (nI 1)), (0, .ref y), (1, .int word)]) hx hb dX3_frame_225 hl (k := 0) rfl (nI_1 _) (by decide) rfl (fun ls hl => ?_)
        refine lv_goto (tgt := 191) hx hb dX3_frame_228 (by decide) ?_
        exact ih (j + 1) H locs ls (by omega) hP hD hS (lv_sub hl [0, 1, 2, 3, 4, 5, 6] rfl)
    exact loop a 0 _ _ ls (by omega) hP hD hS (lv_sub hl [0, 1, 2, 3, 4, 5, 6] rfl)
  refine lv_icmp_ge (tgt := 103) hx hb dX3_frame_56 (by decide) (fun cc => absurd cc (by decide)) (fun _ => ?_)
  refine lv_aload_n hx hb dX3_frame_59 rfl (lv_at hl 3 rfl) ?_
  refine va_get (D := D) (ci := 3) (v := .ref wa) hx hb hts iX3 hown hK hP 0 rfl rfl 6 (by decide) lk20 (fun _ h => h) rfl dX3_frame_60 ?_
  refine lv_iload_n hx hb dX3_frame_63 rfl (lv_at hl 2 rfl) ?_
  refine al_i (k := 1) hx hb hK hP 3 0 rfl rfl (by decide) (by decide) dX3_frame_64 ?_
  refine tp_i (y := nI w) (congrArg nI hw) ?_
  refine lv_iload hx hb dX3_frame_65 (lv_at hl 0 rfl) ?_
  refine lv_icmp_ge (tgt := 103) hx hb dX3_frame_67 (by decide) (fun q1 => ?_) (fun q1 => ?_)
  · have hwa : ¬ w < a := fun q => nI_ge q (by omega) q1
    have e1 : B1 = bf := by rw [hB1]; exact if_neg hwa
    have e2 : Z1 = zf := by rw [hZ1]; exact if_neg hwa
    have e3 : W1 = ww := by rw [hW1, hKK, show filK w a = w from if_neg hwa, ← hw]; funext j; unfold va_up; by_cases h : j = 1; subst h; simp; simp [h]
    exact tail _ _ ls (by rw [e1, e2, e3]; exact hP) (by rw [e1, e2, e3]; exact hD) hS (lv_sub hl [0, 1, 2, 3, 4] rfl)
  · have hwa : w < a := Nat.not_le.mp (fun q => q1 (nI_le q (by omega)))
    refine lv_aload_n hx hb dX3_frame_70 rfl (lv_at hl 3 rfl) ?_
    refine lv_iload_n hx hb dX3_frame_71 rfl (lv_at hl 2 rfl) ?_
    refine lv_iload hx hb dX3_frame_72 (lv_at hl 0 rfl) ?_
    refine lv_aload_n hx hb dX3_frame_74 rfl (lv_at hl 3 rfl) ?_
    refine va_get (D := D) (ci := 3) (v := .ref wa) hx hb hts iX3 hown hK hP 0 rfl rfl 6 (by decide) lk20 (fun _ h => h) rfl dX3_frame_75 ?_
    refine lv_iload_n hx hb dX3_frame_78 rfl (lv_at hl 2 rfl) ?_
    refine al_i (k := 1) hx hb hK hP 3 0 rfl rfl (by decide) (by decide) dX3_frame_79 ?_
    refine tp_i (y := nI w) (congrArg nI hw) ?_
    refine lv_isub hx hb dX3_frame_80 ?_
    refine tp_i (y := nI (a - w)) (pk_sub (by omega)) ?_
    refine lv_bipush (v := 7) hx hb dX3_frame_81 (by decide +kernel) ?_
    refine lv_icmp_le (tgt := 98) hx hb dX3_frame_83 (by decide) (fun q2 => ?_) (fun q2 => ?_)
    · have h7 : a - w ≤ 7 := Nat.not_lt.mp (fun q => nI_ge (a := 7) q (by omega) q2)
      refine lv_bipush (v := 7) hx hb dX3_frame_98 (by decide +kernel) ?_
      refine tp_i (y := nI (max (a - w) 7)) (by rw [show max (a - w) 7 = 7 by omega]; rfl) ?_
      refine cl0_vv ⟨hx, hb, hml, hown, hts⟩ (c_m_fills l D cA cB cZ y len tp bb zz wa fs fm mk fk bf zf ww 1 w (max (a - w) 7) (by decide) hw (by omega) (by omega)) (cwV 2 hts (gM_fills _) rfl rfl rfl (by decide +kernel) ⟨Nat.le_of_ble_eq_true rfl, Nat.le_of_ble_eq_true rfl⟩) (ci := 3) (q0 := 0) rfl rfl hN hK hP hD hS hA [0, 1, 2, 3] [4, 5] [2, 3, 4, 5, 0, 1] [(fs, .inl (cA, 4, .inl mf)), (fm, .inl (cB, 256, .inl ff))] [(y, .inr (3, [.int 0, .int (nI len), .ref tp, .int (nI mk), .ref bb, .ref zz, .ref wa, .ref fs, .ref fm, .int (nI fk)])), (bb, .inl (cB, 8400, .inl (lwr bf (4200 * 1 + w) (emb (max (a - w) 7)) (max (a - w) 7)))), (zz, .inl (cZ, 8400, .inl (lwr zf (4200 * 1 + w) emz (max (a - w) 7)))), (wa, .inl (cA, 2, .inl (wI (va_up ww 1 (w + (max (a - w) 7)))))), (fs, .inl (cA, 4, .inl mf)), (fm, .inl (cB, 256, .inl ff))] [] rfl rfl rfl rfl (by decide) rfl rfl rfl hl.1 rfl (Nat.le_of_ble_eq_true rfl) dX3_frame_100 ⟨Nat.le_of_ble_eq_true rfl, Nat.le_of_ble_eq_true rfl⟩ (fun H locs hP hD hS => ?_)
      have e1 : B1 = lwr bf (4200 * 1 + w) (emb (max (a - w) 7)) (max (a - w) 7) := by rw [hB1]; exact if_pos hwa
      have e2 : Z1 = lwr zf (4200 * 1 + w) emz (max (a - w) 7) := by rw [hZ1]; exact if_pos hwa
      have e3 : W1 = va_up ww 1 (w + max (a - w) 7) := by rw [hW1, hKK, show filK w a = w + max (a - w) 7 from if_pos hwa]
      exact tail _ _ ls (by rw [e1, e2, e3]; exact hP) (by rw [e1, e2, e3]; exact hD) hS (lv_sub hl [0, 1, 2, 3, 4] rfl)
    · have h7 : ¬ a - w ≤ 7 := fun t => q2 (nI_le (b := 7) t (by decide))
      refine lv_iload hx hb dX3_frame_86 (lv_at hl 0 rfl) ?_
      refine lv_aload_n hx hb dX3_frame_88 rfl (lv_at hl 3 rfl) ?_
      refine va_get (D := D) (ci := 3) (v := .ref wa) hx hb hts iX3 hown hK hP 0 rfl rfl 6 (by decide) lk20 (fun _ h => h) rfl dX3_frame_89 ?_
      refine lv_iload_n hx hb dX3_frame_92 rfl (lv_at hl 2 rfl) ?_
      refine al_i (k := 1) hx hb hK hP 3 0 rfl rfl (by decide) (by decide) dX3_frame_93 ?_
      refine tp_i (y := nI w) (congrArg nI hw) ?_
      refine lv_isub hx hb dX3_frame_94 ?_
      refine tp_i (y := nI (max (a - w) 7)) (by rw [show max (a - w) 7 = a - w by omega]; exact pk_sub (by omega)) ?_
      refine lv_goto (tgt := 100) hx hb dX3_frame_95 (by decide) ?_
      refine cl0_vv ⟨hx, hb, hml, hown, hts⟩ (c_m_fills l D cA cB cZ y len tp bb zz wa fs fm mk fk bf zf ww 1 w (max (a - w) 7) (by decide) hw (by omega) (by omega)) (cwV 2 hts (gM_fills _) rfl rfl rfl (by decide +kernel) ⟨Nat.le_of_ble_eq_true rfl, Nat.le_of_ble_eq_true rfl⟩) (ci := 3) (q0 := 0) rfl rfl hN hK hP hD hS hA [0, 1, 2, 3] [4, 5] [2, 3, 4, 5, 0, 1] [(fs, .inl (cA, 4, .inl mf)), (fm, .inl (cB, 256, .inl ff))] [(y, .inr (3, [.int 0, .int (nI len), .ref tp, .int (nI mk), .ref bb, .ref zz, .ref wa, .ref fs, .ref fm, .int (nI fk)])), (bb, .inl (cB, 8400, .inl (lwr bf (4200 * 1 + w) (emb (max (a - w) 7)) (max (a - w) 7)))), (zz, .inl (cZ, 8400, .inl (lwr zf (4200 * 1 + w) emz (max (a - w) 7)))), (wa, .inl (cA, 2, .inl (wI (va_up ww 1 (w + (max (a - w) 7)))))), (fs, .inl (cA, 4, .inl mf)), (fm, .inl (cB, 256, .inl ff))] [] rfl rfl rfl rfl (by decide) rfl rfl rfl hl.1 rfl (Nat.le_of_ble_eq_true rfl) dX3_frame_100 ⟨Nat.le_of_ble_eq_true rfl, Nat.le_of_ble_eq_true rfl⟩ (fun H locs hP hD hS => ?_)
      have e1 : B1 = lwr bf (4200 * 1 + w) (emb (max (a - w) 7)) (max (a - w) 7) := by rw [hB1]; exact if_pos hwa
      have e2 : Z1 = lwr zf (4200 * 1 + w) emz (max (a - w) 7) := by rw [hZ1]; exact if_pos hwa
      have e3 : W1 = va_up ww 1 (w + max (a - w) 7) := by rw [hW1, hKK, show filK w a = w + max (a - w) 7 from if_pos hwa]
      exact tail _ _ ls (by rw [e1, e2, e3]; exact hP) (by rw [e1, e2, e3]; exact hD) hS (lv_sub hl [0, 1, 2, 3, 4] rfl)

set_option maxHeartbeats 4000000 in
set_option maxRecDepth 100000 in
/-- frame -/
theorem c_m_frame2 (l : Launch) (D : va_G) (cA cB cZ : ClassId) (a : Nat) (y len tp bb zz wa fs fm mk fk : Nat) (bf zf : Nat → Int32) (ww : Nat → Nat) (mf ff : Nat → Int32) (word : Int32) (hlen : len = a + 12) (hla : len ≤ 256) (hz : ww 0 = 0) (hy : ww 1 = 0) : MI0 l yX3_frame wsM_frame { frames := 2, cells := 0, slots := 0, locals := 50 } [.ref y, .int word] D [(cA, .int), (cB, .byte), (cZ, .boolean)] [(y, .inr (3, [.int 0, .int (nI len), .ref tp, .int (nI mk), .ref bb, .ref zz, .ref wa, .ref fs, .ref fm, .int (nI fk)])), (bb, .inl (cB, 8400, .inl bf)), (zz, .inl (cZ, 8400, .inl zf)), (wa, .inl (cA, 2, .inl (wI ww))), (fs, .inl (cA, 4, .inl mf)), (fm, .inl (cB, 256, .inl ff))] 7 [(y, .inr (3, [.int 0, .int (nI len), .ref tp, .int (nI mk), .ref bb, .ref zz, .ref wa, .ref fs, .ref fm, .int (nI len)])), (bb, .inl (cB, 8400, .inl bf)), (zz, .inl (cZ, 8400, .inl zf)), (wa, .inl (cA, 2, .inl (wI ww))), (fs, .inl (cA, 4, .inl (cnt2 mf 3))), (fm, .inl (cB, 256, .inl (mL ff mf 7 3 2046 (fun _ => i8 85) a word)))] := by
  refine mt_i (by decide) rfl (Nat.le_of_ble_eq_true rfl) ?_
  intro p e s m below meth c A ls Q hx hb hts hown hml hin hN hK hA hP hD hS hl hex
  have hown : s.vm.findClass RX3 = some m.cls := hown
  have hl : lv_has ls 7 [(0, .ref y), (1, .int word)] := hl
  have iX3 : ∀ w ∈ wsX30, w ∈ wsM_frame := by decide +kernel
  have lk20 := hts (.fieldLink RX3 20 "DownFramesModel" "waits" "[I") (by decide +kernel)
  have lk24 := hts (.fieldLink RX3 24 "DownFramesModel" "frames" "[I") (by decide +kernel)
  have lk30 := hts (.fieldLink RX3 30 "DownFramesModel" "length" "I") (by decide +kernel)
  have lk34 := hts (.fieldLink RX3 34 "DownFramesModel" "thrown" "I") (by decide +kernel)
  have lk44 := hts (.fieldLink RX3 44 "DownFramesModel" "filled" "I") (by decide +kernel)
  refine lv_aload_n hx hb dX3_frame_0 rfl (lv_at hl 0 rfl) ?_
  refine lv_iconst (v := 0) hx hb dX3_frame_1 (by decide) ?_
  refine va_put (D := D) (ci := 3) (v := .int 0) (ty := (.int)) hx hb hts iX3 tyX3 tyX3_ok nmX3 hown hK hP hD hS 0 rfl rfl 0 (by decide) lk34 (fun _ h => h) rfl (by decide +kernel) rfl rfl (Nat.le_of_ble_eq_true rfl) dX3_frame_2 (fun H locs hP hD hS => ?_)
  have hP : va_P D vwCl [(y, .inr (3, [.int 0, .int (nI len), .ref tp, .int (nI mk), .ref bb, .ref zz, .ref wa, .ref fs, .ref fm, .int (nI fk)])), (bb, .inl (cB, 8400, .inl bf)), (zz, .inl (cZ, 8400, .inl zf)), (wa, .inl (cA, 2, .inl (wI ww))), (fs, .inl (cA, 4, .inl mf)), (fm, .inl (cB, 256, .inl ff))] H := hP
  have hD : va_D A [(y, .inr (3, [.int 0, .int (nI len), .ref tp, .int (nI mk), .ref bb, .ref zz, .ref wa, .ref fs, .ref fm, .int (nI fk)])), (bb, .inl (cB, 8400, .inl bf)), (zz, .inl (cZ, 8400, .inl zf)), (wa, .inl (cA, 2, .inl (wI ww))), (fs, .inl (cA, 4, .inl mf)), (fm, .inl (cB, 256, .inl ff))] := hD
  refine lv_aload_n hx hb dX3_frame_5 rfl (lv_at hl 0 rfl) ?_
  refine va_get (D := D) (ci := 3) (v := .ref wa) hx hb hts iX3 hown hK hP 0 rfl rfl 6 (by decide) lk20 (fun _ h => h) rfl dX3_frame_6 ?_
  refine lv_iconst (v := 0) hx hb dX3_frame_9 (by decide) ?_
  refine tp_i (y := nI 0) (rfl) ?_
  refine al_i (k := 0) hx hb hK hP 3 0 rfl rfl (by decide) (by decide) dX3_frame_10 ?_
  refine tp_i (y := nI (ww 0)) (rfl) ?_
  refine lv_if_le (tgt := 18) hx hb dX3_frame_11 (by decide) (fun _ => ?_) (fun cc => absurd (by rw [hz]; decide) cc)
  refine lv_aload_n hx hb dX3_frame_18 rfl (lv_at hl 0 rfl) ?_
  refine va_get (D := D) (ci := 3) (v := .ref wa) hx hb hts iX3 hown hK hP 0 rfl rfl 6 (by decide) lk20 (fun _ h => h) rfl dX3_frame_19 ?_
  refine lv_iconst (v := 1) hx hb dX3_frame_22 (by decide) ?_
  refine tp_i (y := nI 1) (rfl) ?_
  refine al_i (k := 1) hx hb hK hP 3 0 rfl rfl (by decide) (by decide) dX3_frame_23 ?_
  refine tp_i (y := nI (ww 1)) (rfl) ?_
  refine lv_if_le (tgt := 31) hx hb dX3_frame_24 (by decide) (fun _ => ?_) (fun cc => absurd (by rw [hy]; decide) cc)
  refine lv_iconst (v := 2) hx hb dX3_frame_31 (by decide) ?_
  refine tp_i (y := nI 2) (rfl) ?_
  refine lv_istore_n (lv' := [(2, .int (nI 2)), (0, .ref y), (1, .int word)]) hx hb dX3_frame_32 rfl hl (by decide) rfl (fun ls hl => ?_)
  refine lv_iload_n hx hb dX3_frame_33 rfl (lv_at hl 0 rfl) ?_
  refine lv_iconst (v := 2) hx hb dX3_frame_34 (by decide) ?_
  refine lv_icmp_ne (tgt := 43) hx hb dX3_frame_35 (by decide) (fun cc => absurd (rfl) cc) (fun _ => ?_)
  refine lv_bipush (v := 7) hx hb dX3_frame_38 (by decide +kernel) ?_
  refine lv_goto (tgt := 44) hx hb dX3_frame_40 (by decide) ?_
  refine lv_istore_n (lv' := [(3, .int 7), (2, .int (nI 2)), (0, .ref y), (1, .int word)]) hx hb dX3_frame_44 rfl hl (by decide) rfl (fun ls hl => ?_)
  refine lv_aload_n hx hb dX3_frame_45 rfl (lv_at hl 2 rfl) ?_
  refine va_get (D := D) (ci := 3) (v := .int (nI len)) hx hb hts iX3 hown hK hP 0 rfl rfl 1 (by decide) lk30 (fun _ h => h) rfl dX3_frame_46 ?_
  refine lv_bipush (v := 12) hx hb dX3_frame_49 (by decide +kernel) ?_
  refine lv_isub hx hb dX3_frame_51 ?_
  refine tp_i (y := nI a) (by rw [hlen, show (12 : Int32) = nI 12 from rfl, pk_sub (by omega)]; congr 1) ?_
  refine lv_istore (lv' := [(4, .int (nI a)), (3, .int 7), (2, .int (nI 2)), (0, .ref y), (1, .int word)]) hx hb dX3_frame_52 hl (by decide) rfl (fun ls hl => ?_)
  refine lv_iload_n hx hb dX3_frame_54 rfl (lv_at hl 2 rfl) ?_
  refine lv_iconst (v := 2) hx hb dX3_frame_55 (by decide) ?_
  have tail : ∀ (H : Heap) (locs : List Loc) (ls : Array Slot), va_P D vwCl [(y, .inr (3, [.int 0, .int (nI len), .ref tp, .int (nI mk), .ref bb, .ref zz, .ref wa, .ref fs, .ref fm, .int (nI fk)])), (bb, .inl (cB, 8400, .inl bf)), (zz, .inl (cZ, 8400, .inl zf)), (wa, .inl (cA, 2, .inl (wI ww))), (fs, .inl (cA, 4, .inl mf)), (fm, .inl (cB, 256, .inl ff))] H → va_D A [(y, .inr (3, [.int 0, .int (nI len), .ref tp, .int (nI mk), .ref bb, .ref zz, .ref wa, .ref fs, .ref fm, .int (nI fk)])), (bb, .inl (cB, 8400, .inl bf)), (zz, .inl (cZ, 8400, .inl zf)), (wa, .inl (cA, 2, .inl (wI ww))), (fs, .inl (cA, 4, .inl mf)), (fm, .inl (cB, 256, .inl ff))] → va_S A s.heap H locs → lv_has ls 7 [(4, .int (nI a)), (3, .int 7), (2, .int (nI 2)), (0, .ref y), (1, .int word)] → W p l e ({ frames := 2, cells := 0, slots := 0, locals := 50 } : Room) s m ([.ref y, .int word] : List Value).toArray below meth c H locs 0 0 Q (F0 m 103 ls []) := by
    intro H locs ls hP hD hS hl
    refine lv_iload_n hx hb dX3_frame_103 rfl (lv_at hl 2 rfl) ?_
    refine lv_iconst (v := 2) hx hb dX3_frame_104 (by decide) ?_
    refine lv_icmp_ne (tgt := 114) hx hb dX3_frame_105 (by decide) (fun cc => absurd (rfl) cc) (fun _ => ?_)
    refine lv_sipush (v := 2046) hx hb dX3_frame_108 (by decide +kernel) ?_
    refine lv_goto (tgt := 121) hx hb dX3_frame_111 (by decide) ?_
    refine lv_istore (lv' := [(5, .int 2046), (4, .int (nI a)), (3, .int 7), (2, .int (nI 2)), (0, .ref y), (1, .int word)]) hx hb dX3_frame_121 hl (by decide) rfl (fun ls hl => ?_)
    refine lv_aload_n hx hb dX3_frame_123 rfl (lv_at hl 4 rfl) ?_
    refine lv_iconst (v := 0) hx hb dX3_frame_124 (by decide) ?_
    refine va_put (D := D) (ci := 3) (v := .int 0) (ty := (.int)) hx hb hts iX3 tyX3 tyX3_ok nmX3 hown hK hP hD hS 0 rfl rfl 9 (by decide) lk44 (fun _ h => h) rfl (by decide +kernel) rfl rfl (Nat.le_of_ble_eq_true rfl) dX3_frame_125 (fun H locs hP hD hS => ?_)
    have hP : va_P D vwCl [(y, .inr (3, [.int 0, .int (nI len), .ref tp, .int (nI mk), .ref bb, .ref zz, .ref wa, .ref fs, .ref fm, .int 0])), (bb, .inl (cB, 8400, .inl bf)), (zz, .inl (cZ, 8400, .inl zf)), (wa, .inl (cA, 2, .inl (wI ww))), (fs, .inl (cA, 4, .inl mf)), (fm, .inl (cB, 256, .inl ff))] H := hP
    have hD : va_D A [(y, .inr (3, [.int 0, .int (nI len), .ref tp, .int (nI mk), .ref bb, .ref zz, .ref wa, .ref fs, .ref fm, .int 0])), (bb, .inl (cB, 8400, .inl bf)), (zz, .inl (cZ, 8400, .inl zf)), (wa, .inl (cA, 2, .inl (wI ww))), (fs, .inl (cA, 4, .inl mf)), (fm, .inl (cB, 256, .inl ff))] := hD
    have hP : va_P D vwCl [(y, .inr (3, [.int 0, .int (nI len), .ref tp, .int (nI mk), .ref bb, .ref zz, .ref wa, .ref fs, .ref fm, .int (nI 0)])), (bb, .inl (cB, 8400, .inl bf)), (zz, .inl (cZ, 8400, .inl zf)), (wa, .inl (cA, 2, .inl (wI ww))), (fs, .inl (cA, 4, .inl mf)), (fm, .inl (cB, 256, .inl ff))] H := hP
    have hD : va_D A [(y, .inr (3, [.int 0, .int (nI len), .ref tp, .int (nI mk), .ref bb, .ref zz, .ref wa, .ref fs, .ref fm, .int (nI 0)])), (bb, .inl (cB, 8400, .inl bf)), (zz, .inl (cZ, 8400, .inl zf)), (wa, .inl (cA, 2, .inl (wI ww))), (fs, .inl (cA, 4, .inl mf)), (fm, .inl (cB, 256, .inl ff))] := hD
    refine lv_aload_n hx hb dX3_frame_128 rfl (lv_at hl 4 rfl) ?_
    refine lv_bipush (v := 21) hx hb dX3_frame_129 (by decide +kernel) ?_
    refine cl0_vv ⟨hx, hb, hml, hown, hts⟩ (c_m_add l D cA cB cZ y len tp bb zz wa fs fm mk 0 (ff) 21 (by omega)) (cwV 1 hts (gM_add _) rfl rfl rfl (by decide +kernel) ⟨Nat.le_of_ble_eq_true rfl, Nat.le_of_ble_eq_true rfl⟩) (ci := 3) (q0 := 0) rfl rfl hN hK hP hD hS hA [0, 5] [1, 2, 3, 4] [4, 0, 1, 2, 3, 5] [(bb, .inl (cB, 8400, .inl bf)), (zz, .inl (cZ, 8400, .inl zf)), (wa, .inl (cA, 2, .inl (wI ww))), (fs, .inl (cA, 4, .inl mf))] [(y, .inr (3, [.int 0, .int (nI len), .ref tp, .int (nI mk), .ref bb, .ref zz, .ref wa, .ref fs, .ref fm, .int (nI 1)])), (bb, .inl (cB, 8400, .inl bf)), (zz, .inl (cZ, 8400, .inl zf)), (wa, .inl (cA, 2, .inl (wI ww))), (fs, .inl (cA, 4, .inl mf)), (fm, .inl (cB, 256, .inl (upd ff 0 (i8 21))))] [] rfl rfl rfl rfl (by decide) rfl rfl rfl hl.1 rfl (Nat.le_of_ble_eq_true rfl) dX3_frame_131 ⟨Nat.le_of_ble_eq_true rfl, Nat.le_of_ble_eq_true rfl⟩ (fun H locs hP hD hS => ?_)
    refine lv_aload_n hx hb dX3_frame_134 rfl (lv_at hl 4 rfl) ?_
    refine lv_sipush (v := 160) hx hb dX3_frame_135 (by decide +kernel) ?_
    refine lv_iconst (v := 2) hx hb dX3_frame_138 (by decide) ?_
    refine lv_iload_n hx hb dX3_frame_139 rfl (lv_at hl 2 rfl) ?_
    refine lv_imul hx hb dX3_frame_140 ?_
    refine lv_iadd hx hb dX3_frame_141 ?_
    refine lv_iconst (v := 1) hx hb dX3_frame_142 (by decide) ?_
    refine lv_iadd hx hb dX3_frame_143 ?_
    refine cl0_vv ⟨hx, hb, hml, hown, hts⟩ (c_m_add l D cA cB cZ y len tp bb zz wa fs fm mk 1 (upd ff 0 (i8 21)) ((160 + (2 * 7)) + 1) (by omega)) (cwV 1 hts (gM_add _) rfl rfl rfl (by decide +kernel) ⟨Nat.le_of_ble_eq_true rfl, Nat.le_of_ble_eq_true rfl⟩) (ci := 3) (q0 := 0) rfl rfl hN hK hP hD hS hA [0, 5] [1, 2, 3, 4] [4, 0, 1, 2, 3, 5] [(bb, .inl (cB, 8400, .inl bf)), (zz, .inl (cZ, 8400, .inl zf)), (wa, .inl (cA, 2, .inl (wI ww))), (fs, .inl (cA, 4, .inl mf))] [(y, .inr (3, [.int 0, .int (nI len), .ref tp, .int (nI mk), .ref bb, .ref zz, .ref wa, .ref fs, .ref fm, .int (nI 2)])), (bb, .inl (cB, 8400, .inl bf)), (zz, .inl (cZ, 8400, .inl zf)), (wa, .inl (cA, 2, .inl (wI ww))), (fs, .inl (cA, 4, .inl mf)), (fm, .inl (cB, 256, .inl (upd (upd ff 0 (i8 21)) 1 (i8 ((160 + (2 * 7)) + 1)))))] [] rfl rfl rfl rfl (by decide) rfl rfl rfl hl.1 rfl (Nat.le_of_ble_eq_true rfl) dX3_frame_144 ⟨Nat.le_of_ble_eq_true rfl, Nat.le_of_ble_eq_true rfl⟩ (fun H locs hP hD hS => ?_)
    refine lv_aload_n hx hb dX3_frame_147 rfl (lv_at hl 4 rfl) ?_
    refine lv_aload_n hx hb dX3_frame_148 rfl (lv_at hl 4 rfl) ?_
    refine va_get (D := D) (ci := 3) (v := .ref fs) hx hb hts iX3 hown hK hP 0 rfl rfl 7 (by decide) lk24 (fun _ h => h) rfl dX3_frame_149 ?_
    refine lv_iconst (v := 0) hx hb dX3_frame_152 (by decide) ?_
    refine tp_i (y := nI 0) (rfl) ?_
    refine al_i (k := 0) hx hb hK hP 4 0 rfl rfl (by decide) (by decide) dX3_frame_153 ?_
    refine cl0_vv ⟨hx, hb, hml, hown, hts⟩ (c_m_add l D cA cB cZ y len tp bb zz wa fs fm mk 2 (upd (upd ff 0 (i8 21)) 1 (i8 ((160 + (2 * 7)) + 1))) (mf 0) (by omega)) (cwV 1 hts (gM_add _) rfl rfl rfl (by decide +kernel) ⟨Nat.le_of_ble_eq_true rfl, Nat.le_of_ble_eq_true rfl⟩) (ci := 3) (q0 := 0) rfl rfl hN hK hP hD hS hA [0, 5] [1, 2, 3, 4] [4, 0, 1, 2, 3, 5] [(bb, .inl (cB, 8400, .inl bf)), (zz, .inl (cZ, 8400, .inl zf)), (wa, .inl (cA, 2, .inl (wI ww))), (fs, .inl (cA, 4, .inl mf))] [(y, .inr (3, [.int 0, .int (nI len), .ref tp, .int (nI mk), .ref bb, .ref zz, .ref wa, .ref fs, .ref fm, .int (nI 3)])), (bb, .inl (cB, 8400, .inl bf)), (zz, .inl (cZ, 8400, .inl zf)), (wa, .inl (cA, 2, .inl (wI ww))), (fs, .inl (cA, 4, .inl mf)), (fm, .inl (cB, 256, .inl (upd (upd (upd ff 0 (i8 21)) 1 (i8 ((160 + (2 * 7)) + 1))) 2 (i8 (mf 0)))))] [] rfl rfl rfl rfl (by decide) rfl rfl rfl hl.1 rfl (Nat.le_of_ble_eq_true rfl) dX3_frame_154 ⟨Nat.le_of_ble_eq_true rfl, Nat.le_of_ble_eq_true rfl⟩ (fun H locs hP hD hS => ?_)
    refine lv_aload_n hx hb dX3_frame_157 rfl (lv_at hl 4 rfl) ?_
    refine lv_aload_n hx hb dX3_frame_158 rfl (lv_at hl 4 rfl) ?_
    refine va_get (D := D) (ci := 3) (v := .ref fs) hx hb hts iX3 hown hK hP 0 rfl rfl 7 (by decide) lk24 (fun _ h => h) rfl dX3_frame_159 ?_
    refine lv_iconst (v := 1) hx hb dX3_frame_162 (by decide) ?_
    refine lv_iload_n hx hb dX3_frame_163 rfl (lv_at hl 3 rfl) ?_
    refine lv_iadd hx hb dX3_frame_164 ?_
    refine tp_i (y := nI 3) (by decide) ?_
    refine al_i (k := 3) hx hb hK hP 4 0 rfl rfl (by decide) (by decide) dX3_frame_165 ?_
    refine cl0_vv ⟨hx, hb, hml, hown, hts⟩ (c_m_add l D cA cB cZ y len tp bb zz wa fs fm mk 3 (upd (upd (upd ff 0 (i8 21)) 1 (i8 ((160 + (2 * 7)) + 1))) 2 (i8 (mf 0))) (mf 3) (by omega)) (cwV 1 hts (gM_add _) rfl rfl rfl (by decide +kernel) ⟨Nat.le_of_ble_eq_true rfl, Nat.le_of_ble_eq_true rfl⟩) (ci := 3) (q0 := 0) rfl rfl hN hK hP hD hS hA [0, 5] [1, 2, 3, 4] [4, 0, 1, 2, 3, 5] [(bb, .inl (cB, 8400, .inl bf)), (zz, .inl (cZ, 8400, .inl zf)), (wa, .inl (cA, 2, .inl (wI ww))), (fs, .inl (cA, 4, .inl mf))] [(y, .inr (3, [.int 0, .int (nI len), .ref tp, .int (nI mk), .ref bb, .ref zz, .ref wa, .ref fs, .ref fm, .int (nI 4)])), (bb, .inl (cB, 8400, .inl bf)), (zz, .inl (cZ, 8400, .inl zf)), (wa, .inl (cA, 2, .inl (wI ww))), (fs, .inl (cA, 4, .inl mf)), (fm, .inl (cB, 256, .inl (upd (upd (upd (upd ff 0 (i8 21)) 1 (i8 ((160 + (2 * 7)) + 1))) 2 (i8 (mf 0))) 3 (i8 (mf 3)))))] [] rfl rfl rfl rfl (by decide) rfl rfl rfl hl.1 rfl (Nat.le_of_ble_eq_true rfl) dX3_frame_166 ⟨Nat.le_of_ble_eq_true rfl, Nat.le_of_ble_eq_true rfl⟩ (fun H locs hP hD hS => ?_)
    refine lv_aload_n hx hb dX3_frame_169 rfl (lv_at hl 4 rfl) ?_
    refine lv_bipush (v := 24) hx hb dX3_frame_170 (by decide +kernel) ?_
    refine lv_iload hx hb dX3_frame_172 (lv_at hl 0 rfl) ?_
    refine lv_sipush (v := 256) hx hb dX3_frame_174 (by decide +kernel) ?_
    refine lv_idiv hx hb dX3_frame_177 (by decide) ?_
    refine lv_iadd hx hb dX3_frame_178 ?_
    refine cl0_vv ⟨hx, hb, hml, hown, hts⟩ (c_m_add l D cA cB cZ y len tp bb zz wa fs fm mk 4 (upd (upd (upd (upd ff 0 (i8 21)) 1 (i8 ((160 + (2 * 7)) + 1))) 2 (i8 (mf 0))) 3 (i8 (mf 3))) (24 + (2046 / 256)) (by omega)) (cwV 1 hts (gM_add _) rfl rfl rfl (by decide +kernel) ⟨Nat.le_of_ble_eq_true rfl, Nat.le_of_ble_eq_true rfl⟩) (ci := 3) (q0 := 0) rfl rfl hN hK hP hD hS hA [0, 5] [1, 2, 3, 4] [4, 0, 1, 2, 3, 5] [(bb, .inl (cB, 8400, .inl bf)), (zz, .inl (cZ, 8400, .inl zf)), (wa, .inl (cA, 2, .inl (wI ww))), (fs, .inl (cA, 4, .inl mf))] [(y, .inr (3, [.int 0, .int (nI len), .ref tp, .int (nI mk), .ref bb, .ref zz, .ref wa, .ref fs, .ref fm, .int (nI 5)])), (bb, .inl (cB, 8400, .inl bf)), (zz, .inl (cZ, 8400, .inl zf)), (wa, .inl (cA, 2, .inl (wI ww))), (fs, .inl (cA, 4, .inl mf)), (fm, .inl (cB, 256, .inl (upd (upd (upd (upd (upd ff 0 (i8 21)) 1 (i8 ((160 + (2 * 7)) + 1))) 2 (i8 (mf 0))) 3 (i8 (mf 3))) 4 (i8 (24 + (2046 / 256))))))] [] rfl rfl rfl rfl (by decide) rfl rfl rfl hl.1 rfl (Nat.le_of_ble_eq_true rfl) dX3_frame_179 ⟨Nat.le_of_ble_eq_true rfl, Nat.le_of_ble_eq_true rfl⟩ (fun H locs hP hD hS => ?_)
    refine lv_aload_n hx hb dX3_frame_182 rfl (lv_at hl 4 rfl) ?_
    refine lv_iload hx hb dX3_frame_183 (lv_at hl 0 rfl) ?_
    refine cl0_vv ⟨hx, hb, hml, hown, hts⟩ (c_m_add l D cA cB cZ y len tp bb zz wa fs fm mk 5 (upd (upd (upd (upd (upd ff 0 (i8 21)) 1 (i8 ((160 + (2 * 7)) + 1))) 2 (i8 (mf 0))) 3 (i8 (mf 3))) 4 (i8 (24 + (2046 / 256)))) 2046 (by omega)) (cwV 1 hts (gM_add _) rfl rfl rfl (by decide +kernel) ⟨Nat.le_of_ble_eq_true rfl, Nat.le_of_ble_eq_true rfl⟩) (ci := 3) (q0 := 0) rfl rfl hN hK hP hD hS hA [0, 5] [1, 2, 3, 4] [4, 0, 1, 2, 3, 5] [(bb, .inl (cB, 8400, .inl bf)), (zz, .inl (cZ, 8400, .inl zf)), (wa, .inl (cA, 2, .inl (wI ww))), (fs, .inl (cA, 4, .inl mf))] [(y, .inr (3, [.int 0, .int (nI len), .ref tp, .int (nI mk), .ref bb, .ref zz, .ref wa, .ref fs, .ref fm, .int (nI 6)])), (bb, .inl (cB, 8400, .inl bf)), (zz, .inl (cZ, 8400, .inl zf)), (wa, .inl (cA, 2, .inl (wI ww))), (fs, .inl (cA, 4, .inl mf)), (fm, .inl (cB, 256, .inl (mA ff mf 7 3 2046)))] [] rfl rfl rfl rfl (by decide) rfl rfl rfl hl.1 rfl (Nat.le_of_ble_eq_true rfl) dX3_frame_185 ⟨Nat.le_of_ble_eq_true rfl, Nat.le_of_ble_eq_true rfl⟩ (fun H locs hP hD hS => ?_)
    refine lv_iconst (v := 0) hx hb dX3_frame_188 (by decide) ?_
    refine lv_istore (lv' := [(6, .int 0), (5, .int 2046), (4, .int (nI a)), (3, .int 7), (2, .int (nI 2)), (0, .ref y), (1, .int word)]) hx hb dX3_frame_189 hl (by decide) rfl (fun ls hl => ?_)
    have loop : ∀ (d j : Nat) (H : Heap) (locs : List Loc) (ls : Array Slot), j + d = a → va_P D vwCl [(y, .inr (3, [.int 0, .int (nI len), .ref tp, .int (nI mk), .ref bb, .ref zz, .ref wa, .ref fs, .ref fm, .int (nI (6 + j))])), (bb, .inl (cB, 8400, .inl bf)), (zz, .inl (cZ, 8400, .inl zf)), (wa, .inl (cA, 2, .inl (wI ww))), (fs, .inl (cA, 4, .inl mf)), (fm, .inl (cB, 256, .inl (lwr (mA ff mf 7 3 2046) 6 (fun _ => i8 85) j)))] H → va_D A [(y, .inr (3, [.int 0, .int (nI len), .ref tp, .int (nI mk), .ref bb, .ref zz, .ref wa, .ref fs, .ref fm, .int (nI (6 + j))])), (bb, .inl (cB, 8400, .inl bf)), (zz, .inl (cZ, 8400, .inl zf)), (wa, .inl (cA, 2, .inl (wI ww))), (fs, .inl (cA, 4, .inl mf)), (fm, .inl (cB, 256, .inl (lwr (mA ff mf 7 3 2046) 6 (fun _ => i8 85) j)))] → va_S A s.heap H locs → lv_has ls 7 [(6, .int (nI j)), (5, .int 2046), (4, .int (nI a)), (3, .int 7), (2, .int (nI 2)), (0, .ref y), (1, .int word)] → W p l e ({ frames := 2, cells := 0, slots := 0, locals := 50 } : Room) s m ([.ref y, .int word] : List Value).toArray below meth c H locs 0 0 Q (F0 m 191 ls []) := by
      intro d
      induction d with
      | zero =>
        intro j H locs ls hj hP hD hS hl
        have hj : j = a := hj
        rw [hj] at hP hD hl
        refine lv_iload hx hb dX3_frame_191 (lv_at hl 0 rfl) ?_
        refine lv_iload hx hb dX3_frame_193 (lv_at hl 2 rfl) ?_
        refine lv_icmp_ge (tgt := 231) hx hb dX3_frame_195 (by decide) (fun _ => ?_) (fun cc => absurd (nI_le (Nat.le_refl _) (by omega)) cc)
        refine lv_bipush (v := 24) hx hb dX3_frame_231 (by decide +kernel) ?_
        refine lv_istore (lv' := [(6, .int 24), (5, .int 2046), (4, .int (nI a)), (3, .int 7), (2, .int (nI 2)), (0, .ref y), (1, .int word)]) hx hb dX3_frame_233 hl (by decide) rfl (fun ls hl => ?_)
        refine lv_iload hx hb dX3_frame_235 (lv_at hl 0 rfl) ?_
        refine lv_if_lt (tgt := 254) hx hb dX3_frame_237 (by decide) (fun cc => absurd cc (by decide)) (fun _ => ?_)
        refine lv_aload_n hx hb dX3_frame_240 rfl (lv_at hl 5 rfl) ?_
        refine lv_iload_n hx hb dX3_frame_241 rfl (lv_at hl 6 rfl) ?_
        refine lv_iload hx hb dX3_frame_242 (lv_at hl 0 rfl) ?_
        refine lv_ishr hx hb dX3_frame_244 ?_
        refine cl0_vv ⟨hx, hb, hml, hown, hts⟩ (c_m_add l D cA cB cZ y len tp bb zz wa fs fm mk (6 + a) (lwr (mA ff mf 7 3 2046) 6 (fun _ => i8 85) a) (sra word 24) (by omega)) (cwV 1 hts (gM_add _) rfl rfl rfl (by decide +kernel) ⟨Nat.le_of_ble_eq_true rfl, Nat.le_of_ble_eq_true rfl⟩) (ci := 3) (q0 := 0) rfl rfl hN hK hP hD hS hA [0, 5] [1, 2, 3, 4] [4, 0, 1, 2, 3, 5] [(bb, .inl (cB, 8400, .inl bf)), (zz, .inl (cZ, 8400, .inl zf)), (wa, .inl (cA, 2, .inl (wI ww))), (fs, .inl (cA, 4, .inl mf))] [(y, .inr (3, [.int 0, .int (nI len), .ref tp, .int (nI mk), .ref bb, .ref zz, .ref wa, .ref fs, .ref fm, .int (nI (6 + a + 1))])), (bb, .inl (cB, 8400, .inl bf)), (zz, .inl (cZ, 8400, .inl zf)), (wa, .inl (cA, 2, .inl (wI ww))), (fs, .inl (cA, 4, .inl mf)), (fm, .inl (cB, 256, .inl (upd (lwr (mA ff mf 7 3 2046) 6 (fun _ => i8 85) a) (6 + a) (i8 (sra word 24)))))] [] rfl rfl rfl rfl (by decide) rfl rfl rfl hl.1 rfl (Nat.le_of_ble_eq_true rfl) dX3_frame_245 ⟨Nat.le_of_ble_eq_true rfl, Nat.le_of_ble_eq_true rfl⟩ (fun H locs hP hD hS => ?_)
        refine lv_iinc (v := 16) (lv' := [(6, .int 16), (5, .int 2046), (4, .int (nI a)), (3, .int 7), (2, .int (nI 2)), (0, .ref y), (1, .int word)]) hx hb dX3_frame_248 hl (k := 0) rfl (by decide) (by decide) rfl (fun ls hl => ?_)
        refine lv_goto (tgt := 235) hx hb dX3_frame_251 (by decide) ?_
        refine lv_iload hx hb dX3_frame_235 (lv_at hl 0 rfl) ?_
        refine lv_if_lt (tgt := 254) hx hb dX3_frame_237 (by decide) (fun cc => absurd cc (by decide)) (fun _ => ?_)
        refine lv_aload_n hx hb dX3_frame_240 rfl (lv_at hl 5 rfl) ?_
        refine lv_iload_n hx hb dX3_frame_241 rfl (lv_at hl 6 rfl) ?_
        refine lv_iload hx hb dX3_frame_242 (lv_at hl 0 rfl) ?_
        refine lv_ishr hx hb dX3_frame_244 ?_
        refine cl0_vv ⟨hx, hb, hml, hown, hts⟩ (c_m_add l D cA cB cZ y len tp bb zz wa fs fm mk (6 + a + 1) (upd (lwr (mA ff mf 7 3 2046) 6 (fun _ => i8 85) a) (6 + a) (i8 (sra word 24))) (sra word 16) (by omega)) (cwV 1 hts (gM_add _) rfl rfl rfl (by decide +kernel) ⟨Nat.le_of_ble_eq_true rfl, Nat.le_of_ble_eq_true rfl⟩) (ci := 3) (q0 := 0) rfl rfl hN hK hP hD hS hA [0, 5] [1, 2, 3, 4] [4, 0, 1, 2, 3, 5] [(bb, .inl (cB, 8400, .inl bf)), (zz, .inl (cZ, 8400, .inl zf)), (wa, .inl (cA, 2, .inl (wI ww))), (fs, .inl (cA, 4, .inl mf))] [(y, .inr (3, [.int 0, .int (nI len), .ref tp, .int (nI mk), .ref bb, .ref zz, .ref wa, .ref fs, .ref fm, .int (nI (6 + a + 2))])), (bb, .inl (cB, 8400, .inl bf)), (zz, .inl (cZ, 8400, .inl zf)), (wa, .inl (cA, 2, .inl (wI ww))), (fs, .inl (cA, 4, .inl mf)), (fm, .inl (cB, 256, .inl (upd (upd (lwr (mA ff mf 7 3 2046) 6 (fun _ => i8 85) a) (6 + a) (i8 (sra word 24))) (6 + a + 1) (i8 (sra word 16)))))] [] rfl rfl rfl rfl (by decide) rfl rfl rfl hl.1 rfl (Nat.le_of_ble_eq_true rfl) dX3_frame_245 ⟨Nat.le_of_ble_eq_true rfl, Nat.le_of_ble_eq_true rfl⟩ (fun H locs hP hD hS => ?_)
        refine lv_iinc (v := 8) (lv' := [(6, .int 8), (5, .int 2046), (4, .int (nI a)), (3, .int 7), (2, .int (nI 2)), (0, .ref y), (1, .int word)]) hx hb dX3_frame_248 hl (k := 0) rfl (by decide) (by decide) rfl (fun ls hl => ?_)
        refine lv_goto (tgt := 235) hx hb dX3_frame_251 (by decide) ?_
        refine lv_iload hx hb dX3_frame_235 (lv_at hl 0 rfl) ?_
        refine lv_if_lt (tgt := 254) hx hb dX3_frame_237 (by decide) (fun cc => absurd cc (by decide)) (fun _ => ?_)
        refine lv_aload_n hx hb dX3_frame_240 rfl (lv_at hl 5 rfl) ?_
        refine lv_iload_n hx hb dX3_frame_241 rfl (lv_at hl 6 rfl) ?_
        refine lv_iload hx hb dX3_frame_242 (lv_at hl 0 rfl) ?_
        refine lv_ishr hx hb dX3_frame_244 ?_
        refine cl0_vv ⟨hx, hb, hml, hown, hts⟩ (c_m_add l D cA cB cZ y len tp bb zz wa fs fm mk (6 + a + 2) (upd (upd (lwr (mA ff mf 7 3 2046) 6 (fun _ => i8 85) a) (6 + a) (i8 (sra word 24))) (6 + a + 1) (i8 (sra word 16))) (sra word 8) (by omega)) (cwV 1 hts (gM_add _) rfl rfl rfl (by decide +kernel) ⟨Nat.le_of_ble_eq_true rfl, Nat.le_of_ble_eq_true rfl⟩) (ci := 3) (q0 := 0) rfl rfl hN hK hP hD hS hA [0, 5] [1, 2, 3, 4] [4, 0, 1, 2, 3, 5] [(bb, .inl (cB, 8400, .inl bf)), (zz, .inl (cZ, 8400, .inl zf)), (wa, .inl (cA, 2, .inl (wI ww))), (fs, .inl (cA, 4, .inl mf))] [(y, .inr (3, [.int 0, .int (nI len), .ref tp, .int (nI mk), .ref bb, .ref zz, .ref wa, .ref fs, .ref fm, .int (nI (6 + a + 3))])), (bb, .inl (cB, 8400, .inl bf)), (zz, .inl (cZ, 8400, .inl zf)), (wa, .inl (cA, 2, .inl (wI ww))), (fs, .inl (cA, 4, .inl mf)), (fm, .inl (cB, 256, .inl (upd (upd (upd (lwr (mA ff mf 7 3 2046) 6 (fun _ => i8 85) a) (6 + a) (i8 (sra word 24))) (6 + a + 1) (i8 (sra word 16))) (6 + a + 2) (i8 (sra word 8)))))] [] rfl rfl rfl rfl (by decide) rfl rfl rfl hl.1 rfl (Nat.le_of_ble_eq_true rfl) dX3_frame_245 ⟨Nat.le_of_ble_eq_true rfl, Nat.le_of_ble_eq_true rfl⟩ (fun H locs hP hD hS => ?_)
        refine lv_iinc (v := 0) (lv' := [(6, .int 0), (5, .int 2046), (4, .int (nI a)), (3, .int 7), (2, .int (nI 2)), (0, .ref y), (1, .int word)]) hx hb dX3_frame_248 hl (k := 0) rfl (by decide) (by decide) rfl (fun ls hl => ?_)
        refine lv_goto (tgt := 235) hx hb dX3_frame_251 (by decide) ?_
        refine lv_iload hx hb dX3_frame_235 (lv_at hl 0 rfl) ?_
        refine lv_if_lt (tgt := 254) hx hb dX3_frame_237 (by decide) (fun cc => absurd cc (by decide)) (fun _ => ?_)
        refine lv_aload_n hx hb dX3_frame_240 rfl (lv_at hl 5 rfl) ?_
        refine lv_iload_n hx hb dX3_frame_241 rfl (lv_at hl 6 rfl) ?_
        refine lv_iload hx hb dX3_frame_242 (lv_at hl 0 rfl) ?_
        refine lv_ishr hx hb dX3_frame_244 ?_
        refine cl0_vv ⟨hx, hb, hml, hown, hts⟩ (c_m_add l D cA cB cZ y len tp bb zz wa fs fm mk (6 + a + 3) (upd (upd (upd (lwr (mA ff mf 7 3 2046) 6 (fun _ => i8 85) a) (6 + a) (i8 (sra word 24))) (6 + a + 1) (i8 (sra word 16))) (6 + a + 2) (i8 (sra word 8))) (sra word 0) (by omega)) (cwV 1 hts (gM_add _) rfl rfl rfl (by decide +kernel) ⟨Nat.le_of_ble_eq_true rfl, Nat.le_of_ble_eq_true rfl⟩) (ci := 3) (q0 := 0) rfl rfl hN hK hP hD hS hA [0, 5] [1, 2, 3, 4] [4, 0, 1, 2, 3, 5] [(bb, .inl (cB, 8400, .inl bf)), (zz, .inl (cZ, 8400, .inl zf)), (wa, .inl (cA, 2, .inl (wI ww))), (fs, .inl (cA, 4, .inl mf))] [(y, .inr (3, [.int 0, .int (nI len), .ref tp, .int (nI mk), .ref bb, .ref zz, .ref wa, .ref fs, .ref fm, .int (nI (6 + a + 4))])), (bb, .inl (cB, 8400, .inl bf)), (zz, .inl (cZ, 8400, .inl zf)), (wa, .inl (cA, 2, .inl (wI ww))), (fs, .inl (cA, 4, .inl mf)), (fm, .inl (cB, 256, .inl (mW (lwr (mA ff mf 7 3 2046) 6 (fun _ => i8 85) a) a word)))] [] rfl rfl rfl rfl (by decide) rfl rfl rfl hl.1 rfl (Nat.le_of_ble_eq_true rfl) dX3_frame_245 ⟨Nat.le_of_ble_eq_true rfl, Nat.le_of_ble_eq_true rfl⟩ (fun H locs hP hD hS => ?_)
        refine lv_iinc (v := (-8)) (lv' := [(6, .int (-8)), (5, .int 2046), (4, .int (nI a)), (3, .int 7), (2, .int (nI 2)), (0, .ref y), (1, .int word)]) hx hb dX3_frame_248 hl (k := 0) rfl (by decide) (by decide) rfl (fun ls hl => ?_)
        refine lv_goto (tgt := 235) hx hb dX3_frame_251 (by decide) ?_
        refine lv_iload hx hb dX3_frame_235 (lv_at hl 0 rfl) ?_
        refine lv_if_lt (tgt := 254) hx hb dX3_frame_237 (by decide) (fun _ => ?_) (fun cc => absurd (by decide) cc)
        refine lv_aload_n hx hb dX3_frame_254 rfl (lv_at hl 5 rfl) ?_
        refine cl0_vi ⟨hx, hb, hml, hown, hts⟩ (c_m_check l D cA cB cZ y len tp bb zz wa fs fm mk (6 + a + 4) (mW (lwr (mA ff mf 7 3 2046) 6 (fun _ => i8 85) a) a word) (by omega)) (cwV 0 hts (gM_check _) rfl rfl rfl (by decide +kernel) ⟨Nat.le_of_ble_eq_true rfl, Nat.le_of_ble_eq_true rfl⟩) (ci := 3) (q0 := 0) rfl rfl hN hK hP hD hS hA [0, 5] [1, 2, 3, 4] [4, 0, 1, 2, 3, 5] [(bb, .inl (cB, 8400, .inl bf)), (zz, .inl (cZ, 8400, .inl zf)), (wa, .inl (cA, 2, .inl (wI ww))), (fs, .inl (cA, 4, .inl mf))] [(y, .inr (3, [.int 0, .int (nI len), .ref tp, .int (nI mk), .ref bb, .ref zz, .ref wa, .ref fs, .ref fm, .int (nI (6 + a + 4))])), (bb, .inl (cB, 8400, .inl bf)), (zz, .inl (cZ, 8400, .inl zf)), (wa, .inl (cA, 2, .inl (wI ww))), (fs, .inl (cA, 4, .inl mf)), (fm, .inl (cB, 256, .inl (mW (lwr (mA ff mf 7 3 2046) 6 (fun _ => i8 85) a) a word)))] [] rfl rfl rfl rfl (by decide) rfl rfl rfl hl.1 rfl (Nat.le_of_ble_eq_true rfl) dX3_frame_255 ⟨Nat.le_of_ble_eq_true rfl, Nat.le_of_ble_eq_true rfl⟩ (fun H locs hP hD hS => ?_)
        refine lv_istore (lv' := [(6, .int (crcM (mW (lwr (mA ff mf 7 3 2046) 6 (fun _ => i8 85) a) a word) (6 + a + 4))), (5, .int 2046), (4, .int (nI a)), (3, .int 7), (2, .int (nI 2)), (0, .ref y), (1, .int word)]) hx hb dX3_frame_258 hl (by decide) rfl (fun ls hl => ?_)
        refine lv_aload_n hx hb dX3_frame_260 rfl (lv_at hl 5 rfl) ?_
        refine lv_iload hx hb dX3_frame_261 (lv_at hl 0 rfl) ?_
        refine lv_sipush (v := 256) hx hb dX3_frame_263 (by decide +kernel) ?_
        refine lv_idiv hx hb dX3_frame_266 (by decide) ?_
        refine cl0_vv ⟨hx, hb, hml, hown, hts⟩ (c_m_add l D cA cB cZ y len tp bb zz wa fs fm mk (6 + a + 4) (mW (lwr (mA ff mf 7 3 2046) 6 (fun _ => i8 85) a) a word) ((crcM (mW (lwr (mA ff mf 7 3 2046) 6 (fun _ => i8 85) a) a word) (6 + a + 4)) / 256) (by omega)) (cwV 1 hts (gM_add _) rfl rfl rfl (by decide +kernel) ⟨Nat.le_of_ble_eq_true rfl, Nat.le_of_ble_eq_true rfl⟩) (ci := 3) (q0 := 0) rfl rfl hN hK hP hD hS hA [0, 5] [1, 2, 3, 4] [4, 0, 1, 2, 3, 5] [(bb, .inl (cB, 8400, .inl bf)), (zz, .inl (cZ, 8400, .inl zf)), (wa, .inl (cA, 2, .inl (wI ww))), (fs, .inl (cA, 4, .inl mf))] [(y, .inr (3, [.int 0, .int (nI len), .ref tp, .int (nI mk), .ref bb, .ref zz, .ref wa, .ref fs, .ref fm, .int (nI (6 + a + 5))])), (bb, .inl (cB, 8400, .inl bf)), (zz, .inl (cZ, 8400, .inl zf)), (wa, .inl (cA, 2, .inl (wI ww))), (fs, .inl (cA, 4, .inl mf)), (fm, .inl (cB, 256, .inl (upd (mW (lwr (mA ff mf 7 3 2046) 6 (fun _ => i8 85) a) a word) (6 + a + 4) (i8 ((crcM (mW (lwr (mA ff mf 7 3 2046) 6 (fun _ => i8 85) a) a word) (6 + a + 4)) / 256)))))] [] rfl rfl rfl rfl (by decide) rfl rfl rfl hl.1 rfl (Nat.le_of_ble_eq_true rfl) dX3_frame_267 ⟨Nat.le_of_ble_eq_true rfl, Nat.le_of_ble_eq_true rfl⟩ (fun H locs hP hD hS => ?_)
        refine lv_aload_n hx hb dX3_frame_270 rfl (lv_at hl 5 rfl) ?_
        refine lv_iload hx hb dX3_frame_271 (lv_at hl 0 rfl) ?_
        refine cl0_vv ⟨hx, hb, hml, hown, hts⟩ (c_m_add l D cA cB cZ y len tp bb zz wa fs fm mk (6 + a + 5) (upd (mW (lwr (mA ff mf 7 3 2046) 6 (fun _ => i8 85) a) a word) (6 + a + 4) (i8 ((crcM (mW (lwr (mA ff mf 7 3 2046) 6 (fun _ => i8 85) a) a word) (6 + a + 4)) / 256))) (crcM (mW (lwr (mA ff mf 7 3 2046) 6 (fun _ => i8 85) a) a word) (6 + a + 4)) (by omega)) (cwV 1 hts (gM_add _) rfl rfl rfl (by decide +kernel) ⟨Nat.le_of_ble_eq_true rfl, Nat.le_of_ble_eq_true rfl⟩) (ci := 3) (q0 := 0) rfl rfl hN hK hP hD hS hA [0, 5] [1, 2, 3, 4] [4, 0, 1, 2, 3, 5] [(bb, .inl (cB, 8400, .inl bf)), (zz, .inl (cZ, 8400, .inl zf)), (wa, .inl (cA, 2, .inl (wI ww))), (fs, .inl (cA, 4, .inl mf))] [(y, .inr (3, [.int 0, .int (nI len), .ref tp, .int (nI mk), .ref bb, .ref zz, .ref wa, .ref fs, .ref fm, .int (nI (6 + a + 6))])), (bb, .inl (cB, 8400, .inl bf)), (zz, .inl (cZ, 8400, .inl zf)), (wa, .inl (cA, 2, .inl (wI ww))), (fs, .inl (cA, 4, .inl mf)), (fm, .inl (cB, 256, .inl (mL ff mf 7 3 2046 (fun _ => i8 85) a word)))] [] rfl rfl rfl rfl (by decide) rfl rfl rfl hl.1 rfl (Nat.le_of_ble_eq_true rfl) dX3_frame_273 ⟨Nat.le_of_ble_eq_true rfl, Nat.le_of_ble_eq_true rfl⟩ (fun H locs hP hD hS => ?_)
        refine lv_iload_n hx hb dX3_frame_276 rfl (lv_at hl 4 rfl) ?_
        refine lv_iconst (v := 2) hx hb dX3_frame_277 (by decide) ?_
        refine lv_icmp_ge (tgt := 288) hx hb dX3_frame_278 (by decide) (fun _ => ?_) (fun cc => absurd (by decide) cc)
        refine lv_aload_n hx hb dX3_frame_288 rfl (lv_at hl 5 rfl) ?_
        refine va_get (D := D) (ci := 3) (v := .ref fs) hx hb hts iX3 hown hK hP 0 rfl rfl 7 (by decide) lk24 (fun _ h => h) rfl dX3_frame_289 ?_
        refine lv_iconst (v := 0) hx hb dX3_frame_292 (by decide) ?_
        refine tp_i (y := nI 0) (rfl) ?_
        refine lv_dup2_11 hx hb dX3_frame_293 rfl rfl ?_
        refine al_i (k := 0) hx hb hK hP 4 0 rfl rfl (by decide) (by decide) dX3_frame_294 ?_
        refine lv_iconst (v := 1) hx hb dX3_frame_295 (by decide) ?_
        refine lv_iadd hx hb dX3_frame_296 ?_
        refine as_i (k := 0) (x := ((mf 0) + 1)) hx hb hK hP hD hS 4 0 rfl rfl (by decide) (by decide) dX3_frame_297 (fun H locs hP hD hS => ?_)
        have hP : va_P D vwCl [(y, .inr (3, [.int 0, .int (nI len), .ref tp, .int (nI mk), .ref bb, .ref zz, .ref wa, .ref fs, .ref fm, .int (nI (6 + a + 6))])), (bb, .inl (cB, 8400, .inl bf)), (zz, .inl (cZ, 8400, .inl zf)), (wa, .inl (cA, 2, .inl (wI ww))), (fs, .inl (cA, 4, .inl (upd mf 0 ((mf 0) + 1)))), (fm, .inl (cB, 256, .inl (mL ff mf 7 3 2046 (fun _ => i8 85) a word)))] H := hP
        have hD : va_D A [(y, .inr (3, [.int 0, .int (nI len), .ref tp, .int (nI mk), .ref bb, .ref zz, .ref wa, .ref fs, .ref fm, .int (nI (6 + a + 6))])), (bb, .inl (cB, 8400, .inl bf)), (zz, .inl (cZ, 8400, .inl zf)), (wa, .inl (cA, 2, .inl (wI ww))), (fs, .inl (cA, 4, .inl (upd mf 0 ((mf 0) + 1)))), (fm, .inl (cB, 256, .inl (mL ff mf 7 3 2046 (fun _ => i8 85) a word)))] := hD
        refine lv_aload_n hx hb dX3_frame_298 rfl (lv_at hl 5 rfl) ?_
        refine va_get (D := D) (ci := 3) (v := .ref fs) hx hb hts iX3 hown hK hP 0 rfl rfl 7 (by decide) lk24 (fun _ h => h) rfl dX3_frame_299 ?_
        refine lv_iconst (v := 1) hx hb dX3_frame_302 (by decide) ?_
        refine lv_iload_n hx hb dX3_frame_303 rfl (lv_at hl 4 rfl) ?_
        refine lv_iadd hx hb dX3_frame_304 ?_
        refine tp_i (y := nI 3) (by decide) ?_
        refine lv_dup2_11 hx hb dX3_frame_305 rfl rfl ?_
        refine al_i (k := 3) hx hb hK hP 4 0 rfl rfl (by decide) (by decide) dX3_frame_306 ?_
        refine lv_iconst (v := 1) hx hb dX3_frame_307 (by decide) ?_
        refine lv_iadd hx hb dX3_frame_308 ?_
        refine as_i (k := 3) (x := (((upd mf 0 ((mf 0) + 1)) 3) + 1)) hx hb hK hP hD hS 4 0 rfl rfl (by decide) (by decide) dX3_frame_309 (fun H locs hP hD hS => ?_)
        have hP : va_P D vwCl [(y, .inr (3, [.int 0, .int (nI len), .ref tp, .int (nI mk), .ref bb, .ref zz, .ref wa, .ref fs, .ref fm, .int (nI (6 + a + 6))])), (bb, .inl (cB, 8400, .inl bf)), (zz, .inl (cZ, 8400, .inl zf)), (wa, .inl (cA, 2, .inl (wI ww))), (fs, .inl (cA, 4, .inl (upd (upd mf 0 ((mf 0) + 1)) 3 (((upd mf 0 ((mf 0) + 1)) 3) + 1)))), (fm, .inl (cB, 256, .inl (mL ff mf 7 3 2046 (fun _ => i8 85) a word)))] H := hP
        have hD : va_D A [(y, .inr (3, [.int 0, .int (nI len), .ref tp, .int (nI mk), .ref bb, .ref zz, .ref wa, .ref fs, .ref fm, .int (nI (6 + a + 6))])), (bb, .inl (cB, 8400, .inl bf)), (zz, .inl (cZ, 8400, .inl zf)), (wa, .inl (cA, 2, .inl (wI ww))), (fs, .inl (cA, 4, .inl (upd (upd mf 0 ((mf 0) + 1)) 3 (((upd mf 0 ((mf 0) + 1)) 3) + 1)))), (fm, .inl (cB, 256, .inl (mL ff mf 7 3 2046 (fun _ => i8 85) a word)))] := hD
        refine lv_iload_n hx hb dX3_frame_310 rfl (lv_at hl 3 rfl) ?_
        rw [show 6 + a + 6 = len by omega] at hP hD
        exact hex _ _ _ _ _ () hS (rfl) hP hD dX3_frame_311
      | succ d ih =>
        intro j H locs ls hj hP hD hS hl
        refine lv_iload hx hb dX3_frame_191 (lv_at hl 0 rfl) ?_
        refine lv_iload hx hb dX3_frame_193 (lv_at hl 2 rfl) ?_
        refine lv_icmp_ge (tgt := 231) hx hb dX3_frame_195 (by decide) (fun cc => absurd cc (nI_ge (by omega) (by omega))) (fun _ => ?_)
        refine lv_aload_n hx hb dX3_frame_198 rfl (lv_at hl 5 rfl) ?_
        refine lv_iload_n hx hb dX3_frame_199 rfl (lv_at hl 4 rfl) ?_
        refine lv_iconst (v := 2) hx hb dX3_frame_200 (by decide) ?_
        refine lv_icmp_ne (tgt := 209) hx hb dX3_frame_201 (by decide) (fun cc => absurd (rfl) cc) (fun _ => ?_)
        refine lv_bipush (v := 85) hx hb dX3_frame_204 (by decide +kernel) ?_
        refine lv_goto (tgt := 222) hx hb dX3_frame_206 (by decide) ?_
        refine cl0_vv ⟨hx, hb, hml, hown, hts⟩ (c_m_add l D cA cB cZ y len tp bb zz wa fs fm mk (6 + j) (lwr (mA ff mf 7 3 2046) 6 (fun _ => i8 85) j) 85 (by omega)) (cwV 1 hts (gM_add _) rfl rfl rfl (by decide +kernel) ⟨Nat.le_of_ble_eq_true rfl, Nat.le_of_ble_eq_true rfl⟩) (ci := 3) (q0 := 0) rfl rfl hN hK hP hD hS hA [0, 5] [1, 2, 3, 4] [4, 0, 1, 2, 3, 5] [(bb, .inl (cB, 8400, .inl bf)), (zz, .inl (cZ, 8400, .inl zf)), (wa, .inl (cA, 2, .inl (wI ww))), (fs, .inl (cA, 4, .inl mf))] [(y, .inr (3, [.int 0, .int (nI len), .ref tp, .int (nI mk), .ref bb, .ref zz, .ref wa, .ref fs, .ref fm, .int (nI (6 + (j + 1)))])), (bb, .inl (cB, 8400, .inl bf)), (zz, .inl (cZ, 8400, .inl zf)), (wa, .inl (cA, 2, .inl (wI ww))), (fs, .inl (cA, 4, .inl mf)), (fm, .inl (cB, 256, .inl (lwr (mA ff mf 7 3 2046) 6 (fun _ => i8 85) (j + 1))))] [] rfl rfl rfl rfl (by decide) rfl rfl rfl hl.1 rfl (Nat.le_of_ble_eq_true rfl) dX3_frame_222 ⟨Nat.le_of_ble_eq_true rfl, Nat.le_of_ble_eq_true rfl⟩ (fun H locs hP hD hS => ?_)
        refine lv_iinc (v := nI (j + 1)) (lv' := [(6, .int (nI (j + 1))), (5, .int 2046), (4, .int (nI a)), (3, .int 7), (2, .int (nI 2)), (0, .ref y), (1, .int word)]) hx hb dX3_frame_225 hl (k := 0) rfl (nI_1 _) (by decide) rfl (fun ls hl => ?_)
        refine lv_goto (tgt := 191) hx hb dX3_frame_228 (by decide) ?_
        exact ih (j + 1) H locs ls (by omega) hP hD hS (lv_sub hl [0, 1, 2, 3, 4, 5, 6] rfl)
    exact loop a 0 _ _ ls (by omega) hP hD hS (lv_sub hl [0, 1, 2, 3, 4, 5, 6] rfl)
  refine lv_icmp_ge (tgt := 103) hx hb dX3_frame_56 (by decide) (fun _ => ?_) (fun cc => absurd (by decide) cc)
  exact tail _ _ ls hP hD hS (lv_sub hl [0, 1, 2, 3, 4] rfl)
