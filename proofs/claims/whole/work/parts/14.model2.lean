/-- is the tape a packet, as the reference says it -/
def hpkM (tg : Nat → Int32) (mk : Nat) : Int32 := if mk ≤ 6 then 0 else if nI mk = (7 + (256 * (tg 4 &&& 255))) + (tg 5 &&& 255) then 1 else 0
def mat (ff : Nat → Int32) (fk : Nat) (z : Int32) : Int32 := if ¬ z < 0 ∧ ¬ nI fk ≤ z then ff z.toNatClampNeg &&& 255 else -1
theorem mat_val {f : Nat → Int32} {k j : Nat} (hj : j < 2 ^ 31) (c1 : ¬ nI j < 0) (c2 : ¬ nI k ≤ nI j) : f j &&& 255 = mat f k (nI j) := by
  unfold mat
  rw [if_pos ⟨c1, c2⟩, nI_clamp hj]
theorem clI_lo {z : Int32} (h : ¬ 64 ≤ z) : 64 = nI (clN z) := by
  rw [← (clI_nat z).1]
  have a : ¬ (64 : Int) ≤ z.toInt := fun q => h (Int32.le_iff_toInt_le.mpr q)
  unfold clI
  have h1 : z < 256 := Int32.lt_iff_toInt_lt.mpr (show z.toInt < 256 by omega)
  have h2 : ¬ 64 < z := fun q => by have h3 : (64 : Int) < z.toInt := Int32.lt_iff_toInt_lt.mp q; omega
  rw [if_pos h1, if_neg h2]
theorem clI_hi {z : Int32} (h : ¬ z ≤ 256) : 256 = nI (clN z) := by
  rw [← (clI_nat z).1]
  have a : ¬ z.toInt ≤ (256 : Int) := fun q => h (Int32.le_iff_toInt_le.mpr q)
  unfold clI
  have h1 : ¬ z < 256 := fun q => by have h3 : z.toInt < (256 : Int) := Int32.lt_iff_toInt_lt.mp q; omega
  rw [if_neg h1, if_pos (by decide)]
theorem clI_mid {z : Int32} (h : 64 ≤ z) (h2 : z ≤ 256) : z = nI (clN z) := by
  rw [← (clI_nat z).1]
  have a : (64 : Int) ≤ z.toInt := Int32.le_iff_toInt_le.mp h
  have b : z.toInt ≤ (256 : Int) := Int32.le_iff_toInt_le.mp h2
  unfold clI
  by_cases q : z < 256
  · rw [if_pos q]
    by_cases r : 64 < z
    · rw [if_pos r]
    · rw [if_neg r]
      have : ¬ (64 : Int) < z.toInt := fun t => r (Int32.lt_iff_toInt_lt.mpr t)
      exact Int32.toInt_inj.mp (show z.toInt = 64 by omega)
  · rw [if_neg q, if_pos (by decide)]
    have : ¬ z.toInt < (256 : Int) := fun t => q (Int32.lt_iff_toInt_lt.mpr t)
    exact Int32.toInt_inj.mp (show z.toInt = 256 by omega)

set_option maxHeartbeats 4000000 in
set_option maxRecDepth 100000 in
/-- give, refused -/
theorem c_m_give0 (l : Launch) (D : va_G) (cA cB cZ : ClassId) (y len tp bb zz wa fs fm mk fk : Nat) (tg : Nat → Int32) (w : Int64) (z : Int32) (hz : z < 1 ∨ 8 < z ∨ ¬ nI mk ≤ 1024 - z) : MI0 l yX3_give wsM_give { frames := 0, cells := 0, slots := 0, locals := 0 } [.ref y, .long w, .int z] D [(cA, .int), (cB, .byte), (cZ, .boolean)] [(y, .inr (3, [.int 0, .int (nI len), .ref tp, .int (nI mk), .ref bb, .ref zz, .ref wa, .ref fs, .ref fm, .int (nI fk)])), (tp, .inl (cB, 1024, .inl tg))] 0 [(y, .inr (3, [.int 0, .int (nI len), .ref tp, .int (nI mk), .ref bb, .ref zz, .ref wa, .ref fs, .ref fm, .int (nI fk)])), (tp, .inl (cB, 1024, .inl tg))] := by
  refine mt_z (by decide) rfl (Nat.le_of_ble_eq_true rfl) (fun v u h => Or.inl h) ?_
  intro p e s m below meth c A ls Q hx hb hts hown hml hin hN hK hA hP hD hS hl hex
  have hown : s.vm.findClass RX3 = some m.cls := hown
  have hl : lv_has ls 5 [(0, .ref y), (1, .long w), (3, .int z)] := hl
  have iX3 : ∀ w ∈ wsX30, w ∈ wsM_give := by decide +kernel
  have lk34 := hts (.fieldLink RX3 34 "DownFramesModel" "thrown" "I") (by decide +kernel)
  have lk37 := hts (.fieldLink RX3 37 "DownFramesModel" "many" "I") (by decide +kernel)
  refine lv_aload_n hx hb dX3_give_0 rfl (lv_at hl 0 rfl) ?_
  refine lv_iconst (v := 0) hx hb dX3_give_1 (by decide) ?_
  refine va_put (D := D) (ci := 3) (v := .int 0) (ty := (.int)) hx hb hts iX3 tyX3 tyX3_ok nmX3 hown hK hP hD hS 0 rfl rfl 0 (by decide) lk34 (fun _ h => h) rfl (by decide +kernel) rfl rfl (Nat.le_of_ble_eq_true rfl) dX3_give_2 (fun H locs hP hD hS => ?_)
  have hP : va_P D vwCl [(y, .inr (3, [.int 0, .int (nI len), .ref tp, .int (nI mk), .ref bb, .ref zz, .ref wa, .ref fs, .ref fm, .int (nI fk)])), (tp, .inl (cB, 1024, .inl tg))] H := hP
  have hD : va_D A [(y, .inr (3, [.int 0, .int (nI len), .ref tp, .int (nI mk), .ref bb, .ref zz, .ref wa, .ref fs, .ref fm, .int (nI fk)])), (tp, .inl (cB, 1024, .inl tg))] := hD
  refine lv_iload_n hx hb dX3_give_5 rfl (lv_at hl 2 rfl) ?_
  refine lv_iconst (v := 1) hx hb dX3_give_6 (by decide) ?_
  refine lv_icmp_lt (tgt := 28) hx hb dX3_give_7 (by decide) (fun z1 => ?_) (fun z1 => ?_)
  · refine lv_iconst (v := 0) hx hb dX3_give_28 (by decide) ?_
    exact hex _ _ _ _ _ () hS (rfl) hP hD dX3_give_29
  · refine lv_iload_n hx hb dX3_give_10 rfl (lv_at hl 2 rfl) ?_
    refine lv_bipush (v := 8) hx hb dX3_give_11 (by decide +kernel) ?_
    refine lv_icmp_gt (tgt := 28) hx hb dX3_give_13 (by decide) (fun z2 => ?_) (fun z2 => ?_)
    · refine lv_iconst (v := 0) hx hb dX3_give_28 (by decide) ?_
      exact hex _ _ _ _ _ () hS (rfl) hP hD dX3_give_29
    · refine lv_aload_n hx hb dX3_give_16 rfl (lv_at hl 0 rfl) ?_
      refine va_get (D := D) (ci := 3) (v := .int (nI mk)) hx hb hts iX3 hown hK hP 0 rfl rfl 3 (by decide) lk37 (fun _ h => h) rfl dX3_give_17 ?_
      refine lv_sipush (v := 1024) hx hb dX3_give_20 (by decide +kernel) ?_
      refine lv_iload_n hx hb dX3_give_23 rfl (lv_at hl 2 rfl) ?_
      refine lv_isub hx hb dX3_give_24 ?_
      refine lv_icmp_le (tgt := 30) hx hb dX3_give_25 (by decide) (fun z3 => ?_) (fun z3 => ?_)
      · exact absurd hz (fun q => by rcases q with q | q | q; exact z1 q; exact z2 q; exact q z3)
      · refine lv_iconst (v := 0) hx hb dX3_give_28 (by decide) ?_
        exact hex _ _ _ _ _ () hS (rfl) hP hD dX3_give_29

set_option maxHeartbeats 4000000 in
set_option maxRecDepth 100000 in
/-- give, taken -/
theorem c_m_give1 (l : Launch) (D : va_G) (cA cB cZ : ClassId) (y len tp bb zz wa fs fm mk fk : Nat) (tg : Nat → Int32) (w : Int64) (j : Nat) (h1 : 1 ≤ j) (h8 : j ≤ 8) (hj : mk + j ≤ 1024) : MI0 l yX3_give wsM_give { frames := 0, cells := 0, slots := 0, locals := 0 } [.ref y, .long w, .int (nI j)] D [(cA, .int), (cB, .byte), (cZ, .boolean)] [(y, .inr (3, [.int 0, .int (nI len), .ref tp, .int (nI mk), .ref bb, .ref zz, .ref wa, .ref fs, .ref fm, .int (nI fk)])), (tp, .inl (cB, 1024, .inl tg))] 1 [(y, .inr (3, [.int 0, .int (nI len), .ref tp, .int (nI (mk + j)), .ref bb, .ref zz, .ref wa, .ref fs, .ref fm, .int (nI fk)])), (tp, .inl (cB, 1024, .inl (lwr tg mk (gvm w) j)))] := by
  refine mt_z (by decide) rfl (Nat.le_of_ble_eq_true rfl) (fun v u h => Or.inr h) ?_
  intro p e s m below meth c A ls Q hx hb hts hown hml hin hN hK hA hP hD hS hl hex
  have hown : s.vm.findClass RX3 = some m.cls := hown
  have hl : lv_has ls 5 [(0, .ref y), (1, .long w), (3, .int (nI j))] := hl
  have iX3 : ∀ w ∈ wsX30, w ∈ wsM_give := by decide +kernel
  have lk34 := hts (.fieldLink RX3 34 "DownFramesModel" "thrown" "I") (by decide +kernel)
  have lk37 := hts (.fieldLink RX3 37 "DownFramesModel" "many" "I") (by decide +kernel)
  have lk7 := hts (.fieldLink RX3 7 "DownFramesModel" "tape" "[B") (by decide +kernel)
  refine lv_aload_n hx hb dX3_give_0 rfl (lv_at hl 0 rfl) ?_
  refine lv_iconst (v := 0) hx hb dX3_give_1 (by decide) ?_
  refine va_put (D := D) (ci := 3) (v := .int 0) (ty := (.int)) hx hb hts iX3 tyX3 tyX3_ok nmX3 hown hK hP hD hS 0 rfl rfl 0 (by decide) lk34 (fun _ h => h) rfl (by decide +kernel) rfl rfl (Nat.le_of_ble_eq_true rfl) dX3_give_2 (fun H locs hP hD hS => ?_)
  have hP : va_P D vwCl [(y, .inr (3, [.int 0, .int (nI len), .ref tp, .int (nI mk), .ref bb, .ref zz, .ref wa, .ref fs, .ref fm, .int (nI fk)])), (tp, .inl (cB, 1024, .inl tg))] H := hP
  have hD : va_D A [(y, .inr (3, [.int 0, .int (nI len), .ref tp, .int (nI mk), .ref bb, .ref zz, .ref wa, .ref fs, .ref fm, .int (nI fk)])), (tp, .inl (cB, 1024, .inl tg))] := hD
  refine lv_iload_n hx hb dX3_give_5 rfl (lv_at hl 2 rfl) ?_
  refine lv_iconst (v := 1) hx hb dX3_give_6 (by decide) ?_
  refine lv_icmp_lt (tgt := 28) hx hb dX3_give_7 (by decide) (fun cc => absurd cc (nI_nlt (b := 1) h1 (by omega))) (fun _ => ?_)
  refine lv_iload_n hx hb dX3_give_10 rfl (lv_at hl 2 rfl) ?_
  refine lv_bipush (v := 8) hx hb dX3_give_11 (by decide +kernel) ?_
  refine lv_icmp_gt (tgt := 28) hx hb dX3_give_13 (by decide) (fun cc => absurd cc (nI_nlt (a := 8) h8 (by decide))) (fun _ => ?_)
  refine lv_aload_n hx hb dX3_give_16 rfl (lv_at hl 0 rfl) ?_
  refine va_get (D := D) (ci := 3) (v := .int (nI mk)) hx hb hts iX3 hown hK hP 0 rfl rfl 3 (by decide) lk37 (fun _ h => h) rfl dX3_give_17 ?_
  refine lv_sipush (v := 1024) hx hb dX3_give_20 (by decide +kernel) ?_
  refine lv_iload_n hx hb dX3_give_23 rfl (lv_at hl 2 rfl) ?_
  refine lv_isub hx hb dX3_give_24 ?_
  refine lv_icmp_le (tgt := 30) hx hb dX3_give_25 (by decide) (fun _ => ?_) (fun cc => absurd (by rw [show (1024 : Int32) = nI 1024 from rfl, pk_sub (by omega)]; exact nI_le (by omega) (by omega)) cc)
  refine lv_iconst (v := 0) hx hb dX3_give_30 (by decide) ?_
  refine lv_istore (lv' := [(4, .int 0), (0, .ref y), (1, .long w), (3, .int (nI j))]) hx hb dX3_give_31 hl (by decide) rfl (fun ls hl => ?_)
  have loop : ∀ (d i : Nat) (H : Heap) (locs : List Loc) (ls : Array Slot), i + d = j → va_P D vwCl [(y, .inr (3, [.int 0, .int (nI len), .ref tp, .int (nI mk), .ref bb, .ref zz, .ref wa, .ref fs, .ref fm, .int (nI fk)])), (tp, .inl (cB, 1024, .inl (lwr tg mk (gvm w) i)))] H → va_D A [(y, .inr (3, [.int 0, .int (nI len), .ref tp, .int (nI mk), .ref bb, .ref zz, .ref wa, .ref fs, .ref fm, .int (nI fk)])), (tp, .inl (cB, 1024, .inl (lwr tg mk (gvm w) i)))] → va_S A s.heap H locs → lv_has ls 5 [(4, .int (nI i)), (0, .ref y), (1, .long w), (3, .int (nI j))] → W p l e ({ frames := 0, cells := 0, slots := 0, locals := 0 } : Room) s m ([.ref y, .long w, .int (nI j)] : List Value).toArray below meth c H locs 0 0 Q (F0 m 33 ls []) := by
    intro d
    induction d with
    | zero =>
      intro i H locs ls hi hP hD hS hl
      have hi : i = j := hi
      rw [hi] at hP hD hl
      refine lv_iload hx hb dX3_give_33 (lv_at hl 0 rfl) ?_
      refine lv_iload_n hx hb dX3_give_35 rfl (lv_at hl 3 rfl) ?_
      refine lv_icmp_ge (tgt := 69) hx hb dX3_give_36 (by decide) (fun _ => ?_) (fun cc => absurd (nI_le (Nat.le_refl _) (by omega)) cc)
      refine lv_aload_n hx hb dX3_give_69 rfl (lv_at hl 1 rfl) ?_
      refine lv_dup hx hb dX3_give_70 rfl ?_
      refine va_get (D := D) (ci := 3) (v := .int (nI mk)) hx hb hts iX3 hown hK hP 0 rfl rfl 3 (by decide) lk37 (fun _ h => h) rfl dX3_give_71 ?_
      refine lv_iload_n hx hb dX3_give_74 rfl (lv_at hl 3 rfl) ?_
      refine lv_iadd hx hb dX3_give_75 ?_
      refine tp_i (y := nI (mk + j)) (nI_add _ _) ?_
      refine va_put (D := D) (ci := 3) (v := .int (nI (mk + j))) (ty := (.int)) hx hb hts iX3 tyX3 tyX3_ok nmX3 hown hK hP hD hS 0 rfl rfl 3 (by decide) lk37 (fun _ h => h) rfl (by decide +kernel) rfl rfl (Nat.le_of_ble_eq_true rfl) dX3_give_76 (fun H locs hP hD hS => ?_)
      have hP : va_P D vwCl [(y, .inr (3, [.int 0, .int (nI len), .ref tp, .int (nI (mk + j)), .ref bb, .ref zz, .ref wa, .ref fs, .ref fm, .int (nI fk)])), (tp, .inl (cB, 1024, .inl (lwr tg mk (gvm w) j)))] H := hP
      have hD : va_D A [(y, .inr (3, [.int 0, .int (nI len), .ref tp, .int (nI (mk + j)), .ref bb, .ref zz, .ref wa, .ref fs, .ref fm, .int (nI fk)])), (tp, .inl (cB, 1024, .inl (lwr tg mk (gvm w) j)))] := hD
      refine lv_iconst (v := 1) hx hb dX3_give_79 (by decide) ?_
      exact hex _ _ _ _ _ () hS (rfl) hP hD dX3_give_80
    | succ d ih =>
      intro i H locs ls hi hP hD hS hl
      refine lv_iload hx hb dX3_give_33 (lv_at hl 0 rfl) ?_
      refine lv_iload_n hx hb dX3_give_35 rfl (lv_at hl 3 rfl) ?_
      refine lv_icmp_ge (tgt := 69) hx hb dX3_give_36 (by decide) (fun cc => absurd cc (nI_ge (by omega) (by omega))) (fun _ => ?_)
      refine lv_aload_n hx hb dX3_give_39 rfl (lv_at hl 1 rfl) ?_
      refine va_get (D := D) (ci := 3) (v := .ref tp) hx hb hts iX3 hown hK hP 0 rfl rfl 2 (by decide) lk7 (fun _ h => h) rfl dX3_give_40 ?_
      refine lv_aload_n hx hb dX3_give_43 rfl (lv_at hl 1 rfl) ?_
      refine va_get (D := D) (ci := 3) (v := .int (nI mk)) hx hb hts iX3 hown hK hP 0 rfl rfl 3 (by decide) lk37 (fun _ h => h) rfl dX3_give_44 ?_
      refine lv_iload hx hb dX3_give_47 (lv_at hl 0 rfl) ?_
      refine lv_iadd hx hb dX3_give_49 ?_
      refine tp_i (y := nI (mk + i)) (nI_add _ _) ?_
      refine lv_lload_n hx hb dX3_give_50 rfl (lv_at hl 2 rfl) ?_
      refine lv_bipush (v := 56) hx hb dX3_give_51 (by decide +kernel) ?_
      refine lv_bipush (v := 8) hx hb dX3_give_53 (by decide +kernel) ?_
      refine lv_iload hx hb dX3_give_55 (lv_at hl 0 rfl) ?_
      refine lv_imul hx hb dX3_give_57 ?_
      refine lv_isub hx hb dX3_give_58 ?_
      refine lv_lshr (v := lsa w (56 - (8 * (nI i)))) hx hb dX3_give_59 rfl ?_
      refine lv_l2i (v := ((lsa w (56 - (8 * (nI i))))).toInt32) hx hb dX3_give_60 rfl ?_
      refine lv_i2b (v := i8 (((lsa w (56 - (8 * (nI i))))).toInt32)) hx hb dX3_give_61 rfl ?_
      refine as_b8 (k := (mk + i)) (x := (((lsa w (56 - (8 * (nI i))))).toInt32)) hx hb hK hP hD hS 1 1 rfl rfl (by omega) (by decide) dX3_give_62 (fun H locs hP hD hS => ?_)
      have hP : va_P D vwCl [(y, .inr (3, [.int 0, .int (nI len), .ref tp, .int (nI mk), .ref bb, .ref zz, .ref wa, .ref fs, .ref fm, .int (nI fk)])), (tp, .inl (cB, 1024, .inl (upd (lwr tg mk (gvm w) i) (mk + i) (i8 (((lsa w (56 - (8 * (nI i))))).toInt32)))))] H := hP
      have hD : va_D A [(y, .inr (3, [.int 0, .int (nI len), .ref tp, .int (nI mk), .ref bb, .ref zz, .ref wa, .ref fs, .ref fm, .int (nI fk)])), (tp, .inl (cB, 1024, .inl (upd (lwr tg mk (gvm w) i) (mk + i) (i8 (((lsa w (56 - (8 * (nI i))))).toInt32)))))] := hD
      have hP : va_P D vwCl [(y, .inr (3, [.int 0, .int (nI len), .ref tp, .int (nI mk), .ref bb, .ref zz, .ref wa, .ref fs, .ref fm, .int (nI fk)])), (tp, .inl (cB, 1024, .inl (lwr tg mk (gvm w) (i + 1))))] H := hP
      have hD : va_D A [(y, .inr (3, [.int 0, .int (nI len), .ref tp, .int (nI mk), .ref bb, .ref zz, .ref wa, .ref fs, .ref fm, .int (nI fk)])), (tp, .inl (cB, 1024, .inl (lwr tg mk (gvm w) (i + 1))))] := hD
      refine lv_iinc (v := nI (i + 1)) (lv' := [(4, .int (nI (i + 1))), (0, .ref y), (1, .long w), (3, .int (nI j))]) hx hb dX3_give_63 hl (k := 0) rfl (nI_1 _) (by decide) rfl (fun ls hl => ?_)
      refine lv_goto (tgt := 33) hx hb dX3_give_66 (by decide) ?_
      exact ih (i + 1) H locs ls (by omega) hP hD hS (lv_sub hl [0, 1, 2, 3] rfl)
  exact loop j 0 _ _ ls (by omega) hP hD hS (lv_sub hl [0, 1, 2, 3] rfl)

set_option maxHeartbeats 4000000 in
set_option maxRecDepth 100000 in
/-- send, refused -/
theorem c_m_send0 (l : Launch) (D : va_G) (cA cB cZ : ClassId) (y len tp bb zz wa fs fm mk fk : Nat) (tg : Nat → Int32) (bf zf : Nat → Int32) (ww : Nat → Nat) (z : Int32) (hm : mk ≤ 1024) (hz : z < 0 ∨ 1 < z ∨ hpkM tg mk = 0) : MI0 l yX3_send wsM_send { frames := 1, cells := 0, slots := 0, locals := 23 } [.ref y, .int z] D [(cA, .int), (cB, .byte), (cZ, .boolean)] [(y, .inr (3, [.int 0, .int (nI len), .ref tp, .int (nI mk), .ref bb, .ref zz, .ref wa, .ref fs, .ref fm, .int (nI fk)])), (tp, .inl (cB, 1024, .inl tg)), (bb, .inl (cB, 8400, .inl bf)), (zz, .inl (cZ, 8400, .inl zf)), (wa, .inl (cA, 2, .inl (wI ww)))] (-1) [(y, .inr (3, [.int 0, .int (nI len), .ref tp, .int (nI 0), .ref bb, .ref zz, .ref wa, .ref fs, .ref fm, .int (nI fk)])), (tp, .inl (cB, 1024, .inl tg)), (bb, .inl (cB, 8400, .inl bf)), (zz, .inl (cZ, 8400, .inl zf)), (wa, .inl (cA, 2, .inl (wI ww)))] := by
  refine mt_i (by decide) rfl (Nat.le_of_ble_eq_true rfl) ?_
  intro p e s m below meth c A ls Q hx hb hts hown hml hin hN hK hA hP hD hS hl hex
  have hown : s.vm.findClass RX3 = some m.cls := hown
  have hl : lv_has ls 5 [(0, .ref y), (1, .int z)] := hl
  have iX3 : ∀ w ∈ wsX30, w ∈ wsM_send := by decide +kernel
  have lk34 := hts (.fieldLink RX3 34 "DownFramesModel" "thrown" "I") (by decide +kernel)
  have lk37 := hts (.fieldLink RX3 37 "DownFramesModel" "many" "I") (by decide +kernel)
  have lk7 := hts (.fieldLink RX3 7 "DownFramesModel" "tape" "[B") (by decide +kernel)
  refine lv_aload_n hx hb dX3_send_0 rfl (lv_at hl 0 rfl) ?_
  refine lv_iconst (v := 0) hx hb dX3_send_1 (by decide) ?_
  refine va_put (D := D) (ci := 3) (v := .int 0) (ty := (.int)) hx hb hts iX3 tyX3 tyX3_ok nmX3 hown hK hP hD hS 0 rfl rfl 0 (by decide) lk34 (fun _ h => h) rfl (by decide +kernel) rfl rfl (Nat.le_of_ble_eq_true rfl) dX3_send_2 (fun H locs hP hD hS => ?_)
  have hP : va_P D vwCl [(y, .inr (3, [.int 0, .int (nI len), .ref tp, .int (nI mk), .ref bb, .ref zz, .ref wa, .ref fs, .ref fm, .int (nI fk)])), (tp, .inl (cB, 1024, .inl tg)), (bb, .inl (cB, 8400, .inl bf)), (zz, .inl (cZ, 8400, .inl zf)), (wa, .inl (cA, 2, .inl (wI ww)))] H := hP
  have hD : va_D A [(y, .inr (3, [.int 0, .int (nI len), .ref tp, .int (nI mk), .ref bb, .ref zz, .ref wa, .ref fs, .ref fm, .int (nI fk)])), (tp, .inl (cB, 1024, .inl tg)), (bb, .inl (cB, 8400, .inl bf)), (zz, .inl (cZ, 8400, .inl zf)), (wa, .inl (cA, 2, .inl (wI ww)))] := hD
  refine lv_aload_n hx hb dX3_send_5 rfl (lv_at hl 0 rfl) ?_
  refine va_get (D := D) (ci := 3) (v := .int (nI mk)) hx hb hts iX3 hown hK hP 0 rfl rfl 3 (by decide) lk37 (fun _ h => h) rfl dX3_send_6 ?_
  refine lv_istore_n (lv' := [(2, .int (nI mk)), (0, .ref y), (1, .int z)]) hx hb dX3_send_9 rfl hl (by decide) rfl (fun ls hl => ?_)
  refine lv_aload_n hx hb dX3_send_10 rfl (lv_at hl 1 rfl) ?_
  refine lv_iconst (v := 0) hx hb dX3_send_11 (by decide) ?_
  refine va_put (D := D) (ci := 3) (v := .int 0) (ty := (.int)) hx hb hts iX3 tyX3 tyX3_ok nmX3 hown hK hP hD hS 0 rfl rfl 3 (by decide) lk37 (fun _ h => h) rfl (by decide +kernel) rfl rfl (Nat.le_of_ble_eq_true rfl) dX3_send_12 (fun H locs hP hD hS => ?_)
  have hP : va_P D vwCl [(y, .inr (3, [.int 0, .int (nI len), .ref tp, .int 0, .ref bb, .ref zz, .ref wa, .ref fs, .ref fm, .int (nI fk)])), (tp, .inl (cB, 1024, .inl tg)), (bb, .inl (cB, 8400, .inl bf)), (zz, .inl (cZ, 8400, .inl zf)), (wa, .inl (cA, 2, .inl (wI ww)))] H := hP
  have hD : va_D A [(y, .inr (3, [.int 0, .int (nI len), .ref tp, .int 0, .ref bb, .ref zz, .ref wa, .ref fs, .ref fm, .int (nI fk)])), (tp, .inl (cB, 1024, .inl tg)), (bb, .inl (cB, 8400, .inl bf)), (zz, .inl (cZ, 8400, .inl zf)), (wa, .inl (cA, 2, .inl (wI ww)))] := hD
  have hP : va_P D vwCl [(y, .inr (3, [.int 0, .int (nI len), .ref tp, .int (nI 0), .ref bb, .ref zz, .ref wa, .ref fs, .ref fm, .int (nI fk)])), (tp, .inl (cB, 1024, .inl tg)), (bb, .inl (cB, 8400, .inl bf)), (zz, .inl (cZ, 8400, .inl zf)), (wa, .inl (cA, 2, .inl (wI ww)))] H := hP
  have hD : va_D A [(y, .inr (3, [.int 0, .int (nI len), .ref tp, .int (nI 0), .ref bb, .ref zz, .ref wa, .ref fs, .ref fm, .int (nI fk)])), (tp, .inl (cB, 1024, .inl tg)), (bb, .inl (cB, 8400, .inl bf)), (zz, .inl (cZ, 8400, .inl zf)), (wa, .inl (cA, 2, .inl (wI ww)))] := hD
  have tail : ∀ (H : Heap) (locs : List Loc) (ls : Array Slot), va_P D vwCl [(y, .inr (3, [.int 0, .int (nI len), .ref tp, .int (nI 0), .ref bb, .ref zz, .ref wa, .ref fs, .ref fm, .int (nI fk)])), (tp, .inl (cB, 1024, .inl tg)), (bb, .inl (cB, 8400, .inl bf)), (zz, .inl (cZ, 8400, .inl zf)), (wa, .inl (cA, 2, .inl (wI ww)))] H → va_D A [(y, .inr (3, [.int 0, .int (nI len), .ref tp, .int (nI 0), .ref bb, .ref zz, .ref wa, .ref fs, .ref fm, .int (nI fk)])), (tp, .inl (cB, 1024, .inl tg)), (bb, .inl (cB, 8400, .inl bf)), (zz, .inl (cZ, 8400, .inl zf)), (wa, .inl (cA, 2, .inl (wI ww)))] → va_S A s.heap H locs → lv_has ls 5 [(3, .int (hpkM tg mk)), (2, .int (nI mk)), (0, .ref y), (1, .int z)] → W p l e ({ frames := 1, cells := 0, slots := 0, locals := 23 } : Room) s m ([.ref y, .int z] : List Value).toArray below meth c H locs 0 0 Q (F0 m 59 ls []) := by
    intro H locs ls hP hD hS hl
    refine lv_iload_n hx hb dX3_send_59 rfl (lv_at hl 3 rfl) ?_
    refine lv_if_lt (tgt := 86) hx hb dX3_send_60 (by decide) (fun y1 => ?_) (fun y1 => ?_)
    · refine lv_iconst (v := (-1)) hx hb dX3_send_86 (by decide) ?_
      exact hex _ _ _ _ _ () hS (rfl) hP hD dX3_send_87
    · refine lv_iload_n hx hb dX3_send_63 rfl (lv_at hl 3 rfl) ?_
      refine lv_iconst (v := 1) hx hb dX3_send_64 (by decide) ?_
      refine lv_icmp_gt (tgt := 86) hx hb dX3_send_65 (by decide) (fun y2 => ?_) (fun y2 => ?_)
      · refine lv_iconst (v := (-1)) hx hb dX3_send_86 (by decide) ?_
        exact hex _ _ _ _ _ () hS (rfl) hP hD dX3_send_87
      · refine lv_iload_n hx hb dX3_send_68 rfl (lv_at hl 0 rfl) ?_
        refine lv_if_eq (tgt := 86) hx hb dX3_send_69 (by decide) (fun _ => ?_) (fun cc => absurd (by rcases hz with q | q | q; exact absurd q y1; exact absurd q y2; exact q) cc)
        refine lv_iconst (v := (-1)) hx hb dX3_send_86 (by decide) ?_
        exact hex _ _ _ _ _ () hS (rfl) hP hD dX3_send_87
  refine lv_iload_n hx hb dX3_send_15 rfl (lv_at hl 0 rfl) ?_
  refine lv_bipush (v := 6) hx hb dX3_send_16 (by decide +kernel) ?_
  refine lv_icmp_le (tgt := 57) hx hb dX3_send_18 (by decide) (fun z1 => ?_) (fun z1 => ?_)
  · refine lv_iconst (v := 0) hx hb dX3_send_57 (by decide) ?_
    refine tp_i (y := hpkM tg mk) ((if_pos (by rcases Nat.lt_or_ge 6 mk with q | q; exact absurd z1 (nI_ge (a := 6) q (by omega)); exact q)).symm) ?_
    refine lv_istore_n (lv' := [(3, .int (hpkM tg mk)), (2, .int (nI mk)), (0, .ref y), (1, .int z)]) hx hb dX3_send_58 rfl hl (by decide) rfl (fun ls hl => ?_)
    exact tail _ _ ls hP hD hS (lv_sub hl [0, 1, 2, 3] rfl)
  · have h6 : ¬ mk ≤ 6 := fun q => z1 (nI_le (b := 6) q (by decide))
    refine lv_iload_n hx hb dX3_send_21 rfl (lv_at hl 0 rfl) ?_
    refine lv_bipush (v := 7) hx hb dX3_send_22 (by decide +kernel) ?_
    refine lv_sipush (v := 256) hx hb dX3_send_24 (by decide +kernel) ?_
    refine lv_aload_n hx hb dX3_send_27 rfl (lv_at hl 1 rfl) ?_
    refine va_get (D := D) (ci := 3) (v := .ref tp) hx hb hts iX3 hown hK hP 0 rfl rfl 2 (by decide) lk7 (fun _ h => h) rfl dX3_send_28 ?_
    refine lv_iconst (v := 4) hx hb dX3_send_31 (by decide) ?_
    refine tp_i (y := nI 4) (rfl) ?_
    refine al_b (k := 4) hx hb hK hP 1 1 rfl rfl (by decide) (by decide) dX3_send_32 ?_
    refine lv_sipush (v := 255) hx hb dX3_send_33 (by decide +kernel) ?_
    refine lv_iand hx hb dX3_send_36 ?_
    refine lv_imul hx hb dX3_send_37 ?_
    refine lv_iadd hx hb dX3_send_38 ?_
    refine lv_aload_n hx hb dX3_send_39 rfl (lv_at hl 1 rfl) ?_
    refine va_get (D := D) (ci := 3) (v := .ref tp) hx hb hts iX3 hown hK hP 0 rfl rfl 2 (by decide) lk7 (fun _ h => h) rfl dX3_send_40 ?_
    refine lv_iconst (v := 5) hx hb dX3_send_43 (by decide) ?_
    refine tp_i (y := nI 5) (rfl) ?_
    refine al_b (k := 5) hx hb hK hP 1 1 rfl rfl (by decide) (by decide) dX3_send_44 ?_
    refine lv_sipush (v := 255) hx hb dX3_send_45 (by decide +kernel) ?_
    refine lv_iand hx hb dX3_send_48 ?_
    refine lv_iadd hx hb dX3_send_49 ?_
    refine lv_icmp_ne (tgt := 57) hx hb dX3_send_50 (by decide) (fun z2 => ?_) (fun z2 => ?_)
    · refine lv_iconst (v := 0) hx hb dX3_send_57 (by decide) ?_
      refine tp_i (y := hpkM tg mk) (by unfold hpkM; rw [if_neg h6, if_neg z2]) ?_
      refine lv_istore_n (lv' := [(3, .int (hpkM tg mk)), (2, .int (nI mk)), (0, .ref y), (1, .int z)]) hx hb dX3_send_58 rfl hl (by decide) rfl (fun ls hl => ?_)
      exact tail _ _ ls hP hD hS (lv_sub hl [0, 1, 2, 3] rfl)
    · refine lv_iconst (v := 1) hx hb dX3_send_53 (by decide) ?_
      refine lv_goto (tgt := 58) hx hb dX3_send_54 (by decide) ?_
      refine tp_i (y := hpkM tg mk) (by unfold hpkM; rw [if_neg h6, if_pos z2]) ?_
      refine lv_istore_n (lv' := [(3, .int (hpkM tg mk)), (2, .int (nI mk)), (0, .ref y), (1, .int z)]) hx hb dX3_send_58 rfl hl (by decide) rfl (fun ls hl => ?_)
      exact tail _ _ ls hP hD hS (lv_sub hl [0, 1, 2, 3] rfl)

set_option maxHeartbeats 4000000 in
set_option maxRecDepth 100000 in
/-- send, no room -/
theorem c_m_send2 (l : Launch) (D : va_G) (cA cB cZ : ClassId) (y len tp bb zz wa fs fm mk fk : Nat) (tg : Nat → Int32) (bf zf : Nat → Int32) (ww : Nat → Nat) (ch w : Nat) (hm : mk ≤ 1024) (hc : ch < 2) (hw : ww ch = w) (hw2 : w ≤ 4200) (hs : 4096 < w + mk) : MI0 l yX3_send wsM_send { frames := 1, cells := 0, slots := 0, locals := 23 } [.ref y, .int (nI ch)] D [(cA, .int), (cB, .byte), (cZ, .boolean)] [(y, .inr (3, [.int 0, .int (nI len), .ref tp, .int (nI mk), .ref bb, .ref zz, .ref wa, .ref fs, .ref fm, .int (nI fk)])), (tp, .inl (cB, 1024, .inl tg)), (bb, .inl (cB, 8400, .inl bf)), (zz, .inl (cZ, 8400, .inl zf)), (wa, .inl (cA, 2, .inl (wI ww)))] (-1) [(y, .inr (3, [.int 0, .int (nI len), .ref tp, .int (nI 0), .ref bb, .ref zz, .ref wa, .ref fs, .ref fm, .int (nI fk)])), (tp, .inl (cB, 1024, .inl tg)), (bb, .inl (cB, 8400, .inl bf)), (zz, .inl (cZ, 8400, .inl zf)), (wa, .inl (cA, 2, .inl (wI ww)))] := by
  refine mt_i (by decide) rfl (Nat.le_of_ble_eq_true rfl) ?_
  intro p e s m below meth c A ls Q hx hb hts hown hml hin hN hK hA hP hD hS hl hex
  have hown : s.vm.findClass RX3 = some m.cls := hown
  have hl : lv_has ls 5 [(0, .ref y), (1, .int (nI ch))] := hl
  have iX3 : ∀ w ∈ wsX30, w ∈ wsM_send := by decide +kernel
  have lk20 := hts (.fieldLink RX3 20 "DownFramesModel" "waits" "[I") (by decide +kernel)
  have lk34 := hts (.fieldLink RX3 34 "DownFramesModel" "thrown" "I") (by decide +kernel)
  have lk37 := hts (.fieldLink RX3 37 "DownFramesModel" "many" "I") (by decide +kernel)
  have lk7 := hts (.fieldLink RX3 7 "DownFramesModel" "tape" "[B") (by decide +kernel)
  refine lv_aload_n hx hb dX3_send_0 rfl (lv_at hl 0 rfl) ?_
  refine lv_iconst (v := 0) hx hb dX3_send_1 (by decide) ?_
  refine va_put (D := D) (ci := 3) (v := .int 0) (ty := (.int)) hx hb hts iX3 tyX3 tyX3_ok nmX3 hown hK hP hD hS 0 rfl rfl 0 (by decide) lk34 (fun _ h => h) rfl (by decide +kernel) rfl rfl (Nat.le_of_ble_eq_true rfl) dX3_send_2 (fun H locs hP hD hS => ?_)
  have hP : va_P D vwCl [(y, .inr (3, [.int 0, .int (nI len), .ref tp, .int (nI mk), .ref bb, .ref zz, .ref wa, .ref fs, .ref fm, .int (nI fk)])), (tp, .inl (cB, 1024, .inl tg)), (bb, .inl (cB, 8400, .inl bf)), (zz, .inl (cZ, 8400, .inl zf)), (wa, .inl (cA, 2, .inl (wI ww)))] H := hP
  have hD : va_D A [(y, .inr (3, [.int 0, .int (nI len), .ref tp, .int (nI mk), .ref bb, .ref zz, .ref wa, .ref fs, .ref fm, .int (nI fk)])), (tp, .inl (cB, 1024, .inl tg)), (bb, .inl (cB, 8400, .inl bf)), (zz, .inl (cZ, 8400, .inl zf)), (wa, .inl (cA, 2, .inl (wI ww)))] := hD
  refine lv_aload_n hx hb dX3_send_5 rfl (lv_at hl 0 rfl) ?_
  refine va_get (D := D) (ci := 3) (v := .int (nI mk)) hx hb hts iX3 hown hK hP 0 rfl rfl 3 (by decide) lk37 (fun _ h => h) rfl dX3_send_6 ?_
  refine lv_istore_n (lv' := [(2, .int (nI mk)), (0, .ref y), (1, .int (nI ch))]) hx hb dX3_send_9 rfl hl (by decide) rfl (fun ls hl => ?_)
  refine lv_aload_n hx hb dX3_send_10 rfl (lv_at hl 1 rfl) ?_
  refine lv_iconst (v := 0) hx hb dX3_send_11 (by decide) ?_
  refine va_put (D := D) (ci := 3) (v := .int 0) (ty := (.int)) hx hb hts iX3 tyX3 tyX3_ok nmX3 hown hK hP hD hS 0 rfl rfl 3 (by decide) lk37 (fun _ h => h) rfl (by decide +kernel) rfl rfl (Nat.le_of_ble_eq_true rfl) dX3_send_12 (fun H locs hP hD hS => ?_)
  have hP : va_P D vwCl [(y, .inr (3, [.int 0, .int (nI len), .ref tp, .int 0, .ref bb, .ref zz, .ref wa, .ref fs, .ref fm, .int (nI fk)])), (tp, .inl (cB, 1024, .inl tg)), (bb, .inl (cB, 8400, .inl bf)), (zz, .inl (cZ, 8400, .inl zf)), (wa, .inl (cA, 2, .inl (wI ww)))] H := hP
  have hD : va_D A [(y, .inr (3, [.int 0, .int (nI len), .ref tp, .int 0, .ref bb, .ref zz, .ref wa, .ref fs, .ref fm, .int (nI fk)])), (tp, .inl (cB, 1024, .inl tg)), (bb, .inl (cB, 8400, .inl bf)), (zz, .inl (cZ, 8400, .inl zf)), (wa, .inl (cA, 2, .inl (wI ww)))] := hD
  have hP : va_P D vwCl [(y, .inr (3, [.int 0, .int (nI len), .ref tp, .int (nI 0), .ref bb, .ref zz, .ref wa, .ref fs, .ref fm, .int (nI fk)])), (tp, .inl (cB, 1024, .inl tg)), (bb, .inl (cB, 8400, .inl bf)), (zz, .inl (cZ, 8400, .inl zf)), (wa, .inl (cA, 2, .inl (wI ww)))] H := hP
  have hD : va_D A [(y, .inr (3, [.int 0, .int (nI len), .ref tp, .int (nI 0), .ref bb, .ref zz, .ref wa, .ref fs, .ref fm, .int (nI fk)])), (tp, .inl (cB, 1024, .inl tg)), (bb, .inl (cB, 8400, .inl bf)), (zz, .inl (cZ, 8400, .inl zf)), (wa, .inl (cA, 2, .inl (wI ww)))] := hD
  have tail : ∀ (H : Heap) (locs : List Loc) (ls : Array Slot), va_P D vwCl [(y, .inr (3, [.int 0, .int (nI len), .ref tp, .int (nI 0), .ref bb, .ref zz, .ref wa, .ref fs, .ref fm, .int (nI fk)])), (tp, .inl (cB, 1024, .inl tg)), (bb, .inl (cB, 8400, .inl bf)), (zz, .inl (cZ, 8400, .inl zf)), (wa, .inl (cA, 2, .inl (wI ww)))] H → va_D A [(y, .inr (3, [.int 0, .int (nI len), .ref tp, .int (nI 0), .ref bb, .ref zz, .ref wa, .ref fs, .ref fm, .int (nI fk)])), (tp, .inl (cB, 1024, .inl tg)), (bb, .inl (cB, 8400, .inl bf)), (zz, .inl (cZ, 8400, .inl zf)), (wa, .inl (cA, 2, .inl (wI ww)))] → va_S A s.heap H locs → lv_has ls 5 [(3, .int (hpkM tg mk)), (2, .int (nI mk)), (0, .ref y), (1, .int (nI ch))] → W p l e ({ frames := 1, cells := 0, slots := 0, locals := 23 } : Room) s m ([.ref y, .int (nI ch)] : List Value).toArray below meth c H locs 0 0 Q (F0 m 59 ls []) := by
    intro H locs ls hP hD hS hl
    refine lv_iload_n hx hb dX3_send_59 rfl (lv_at hl 3 rfl) ?_
    refine lv_if_lt (tgt := 86) hx hb dX3_send_60 (by decide) (fun cc => absurd cc (nI_pos (by omega))) (fun _ => ?_)
    refine lv_iload_n hx hb dX3_send_63 rfl (lv_at hl 3 rfl) ?_
    refine lv_iconst (v := 1) hx hb dX3_send_64 (by decide) ?_
    refine lv_icmp_gt (tgt := 86) hx hb dX3_send_65 (by decide) (fun cc => absurd cc (nI_nlt (a := 1) (by omega) (by decide))) (fun _ => ?_)
    refine lv_iload_n hx hb dX3_send_68 rfl (lv_at hl 0 rfl) ?_
    refine lv_if_eq (tgt := 86) hx hb dX3_send_69 (by decide) (fun y1 => ?_) (fun y1 => ?_)
    · refine lv_iconst (v := (-1)) hx hb dX3_send_86 (by decide) ?_
      exact hex _ _ _ _ _ () hS (rfl) hP hD dX3_send_87
    · refine lv_aload_n hx hb dX3_send_72 rfl (lv_at hl 2 rfl) ?_
      refine va_get (D := D) (ci := 3) (v := .ref wa) hx hb hts iX3 hown hK hP 0 rfl rfl 6 (by decide) lk20 (fun _ h => h) rfl dX3_send_73 ?_
      refine lv_iload_n hx hb dX3_send_76 rfl (lv_at hl 3 rfl) ?_
      refine al_i (k := ch) hx hb hK hP 4 0 rfl rfl (hc) (by decide) dX3_send_77 ?_
      refine tp_i (y := nI w) (congrArg nI hw) ?_
      refine lv_iload_n hx hb dX3_send_78 rfl (lv_at hl 1 rfl) ?_
      refine lv_iadd hx hb dX3_send_79 ?_
      refine tp_i (y := nI (w + mk)) (nI_add _ _) ?_
      refine lv_sipush (v := 4096) hx hb dX3_send_80 (by decide +kernel) ?_
      refine lv_icmp_le (tgt := 88) hx hb dX3_send_83 (by decide) (fun cc => absurd cc (nI_ge (a := 4096) hs (by omega))) (fun _ => ?_)
      refine lv_iconst (v := (-1)) hx hb dX3_send_86 (by decide) ?_
      exact hex _ _ _ _ _ () hS (rfl) hP hD dX3_send_87
  refine lv_iload_n hx hb dX3_send_15 rfl (lv_at hl 0 rfl) ?_
  refine lv_bipush (v := 6) hx hb dX3_send_16 (by decide +kernel) ?_
  refine lv_icmp_le (tgt := 57) hx hb dX3_send_18 (by decide) (fun z1 => ?_) (fun z1 => ?_)
  · refine lv_iconst (v := 0) hx hb dX3_send_57 (by decide) ?_
    refine tp_i (y := hpkM tg mk) ((if_pos (by rcases Nat.lt_or_ge 6 mk with q | q; exact absurd z1 (nI_ge (a := 6) q (by omega)); exact q)).symm) ?_
    refine lv_istore_n (lv' := [(3, .int (hpkM tg mk)), (2, .int (nI mk)), (0, .ref y), (1, .int (nI ch))]) hx hb dX3_send_58 rfl hl (by decide) rfl (fun ls hl => ?_)
    exact tail _ _ ls hP hD hS (lv_sub hl [0, 1, 2, 3] rfl)
  · have h6 : ¬ mk ≤ 6 := fun q => z1 (nI_le (b := 6) q (by decide))
    refine lv_iload_n hx hb dX3_send_21 rfl (lv_at hl 0 rfl) ?_
    refine lv_bipush (v := 7) hx hb dX3_send_22 (by decide +kernel) ?_
    refine lv_sipush (v := 256) hx hb dX3_send_24 (by decide +kernel) ?_
    refine lv_aload_n hx hb dX3_send_27 rfl (lv_at hl 1 rfl) ?_
    refine va_get (D := D) (ci := 3) (v := .ref tp) hx hb hts iX3 hown hK hP 0 rfl rfl 2 (by decide) lk7 (fun _ h => h) rfl dX3_send_28 ?_
    refine lv_iconst (v := 4) hx hb dX3_send_31 (by decide) ?_
    refine tp_i (y := nI 4) (rfl) ?_
    refine al_b (k := 4) hx hb hK hP 1 1 rfl rfl (by decide) (by decide) dX3_send_32 ?_
    refine lv_sipush (v := 255) hx hb dX3_send_33 (by decide +kernel) ?_
    refine lv_iand hx hb dX3_send_36 ?_
    refine lv_imul hx hb dX3_send_37 ?_
    refine lv_iadd hx hb dX3_send_38 ?_
    refine lv_aload_n hx hb dX3_send_39 rfl (lv_at hl 1 rfl) ?_
    refine va_get (D := D) (ci := 3) (v := .ref tp) hx hb hts iX3 hown hK hP 0 rfl rfl 2 (by decide) lk7 (fun _ h => h) rfl dX3_send_40 ?_
    refine lv_iconst (v := 5) hx hb dX3_send_43 (by decide) ?_
    refine tp_i (y := nI 5) (rfl) ?_
    refine al_b (k := 5) hx hb hK hP 1 1 rfl rfl (by decide) (by decide) dX3_send_44 ?_
    refine lv_sipush (v := 255) hx hb dX3_send_45 (by decide +kernel) ?_
    refine lv_iand hx hb dX3_send_48 ?_
    refine lv_iadd hx hb dX3_send_49 ?_
    refine lv_icmp_ne (tgt := 57) hx hb dX3_send_50 (by decide) (fun z2 => ?_) (fun z2 => ?_)
    · refine lv_iconst (v := 0) hx hb dX3_send_57 (by decide) ?_
      refine tp_i (y := hpkM tg mk) (by unfold hpkM; rw [if_neg h6, if_neg z2]) ?_
      refine lv_istore_n (lv' := [(3, .int (hpkM tg mk)), (2, .int (nI mk)), (0, .ref y), (1, .int (nI ch))]) hx hb dX3_send_58 rfl hl (by decide) rfl (fun ls hl => ?_)
      exact tail _ _ ls hP hD hS (lv_sub hl [0, 1, 2, 3] rfl)
    · refine lv_iconst (v := 1) hx hb dX3_send_53 (by decide) ?_
      refine lv_goto (tgt := 58) hx hb dX3_send_54 (by decide) ?_
      refine tp_i (y := hpkM tg mk) (by unfold hpkM; rw [if_neg h6, if_pos z2]) ?_
      refine lv_istore_n (lv' := [(3, .int (hpkM tg mk)), (2, .int (nI mk)), (0, .ref y), (1, .int (nI ch))]) hx hb dX3_send_58 rfl hl (by decide) rfl (fun ls hl => ?_)
      exact tail _ _ ls hP hD hS (lv_sub hl [0, 1, 2, 3] rfl)

set_option maxHeartbeats 4000000 in
set_option maxRecDepth 100000 in
/-- send, taken -/
theorem c_m_send1 (l : Launch) (D : va_G) (cA cB cZ : ClassId) (y len tp bb zz wa fs fm mk fk : Nat) (tg : Nat → Int32) (bf zf : Nat → Int32) (ww : Nat → Nat) (ch w : Nat) (hm : mk ≤ 1024) (hc : ch < 2) (hw : ww ch = w) (hp : hpkM tg mk = 1) (hs : w + mk ≤ 4096) : MI0 l yX3_send wsM_send { frames := 1, cells := 0, slots := 0, locals := 23 } [.ref y, .int (nI ch)] D [(cA, .int), (cB, .byte), (cZ, .boolean)] [(y, .inr (3, [.int 0, .int (nI len), .ref tp, .int (nI mk), .ref bb, .ref zz, .ref wa, .ref fs, .ref fm, .int (nI fk)])), (tp, .inl (cB, 1024, .inl tg)), (bb, .inl (cB, 8400, .inl bf)), (zz, .inl (cZ, 8400, .inl zf)), (wa, .inl (cA, 2, .inl (wI ww)))] (nI (w + mk)) [(y, .inr (3, [.int 0, .int (nI len), .ref tp, .int (nI 0), .ref bb, .ref zz, .ref wa, .ref fs, .ref fm, .int (nI fk)])), (tp, .inl (cB, 1024, .inl tg)), (bb, .inl (cB, 8400, .inl (lwr bf (4200 * ch + w) (fun i => i8 (tg i)) mk))), (zz, .inl (cZ, 8400, .inl (lwr zf (4200 * ch + w) emz mk))), (wa, .inl (cA, 2, .inl (wI (va_up ww ch (w + mk)))))] := by
  refine mt_i (by decide) rfl (Nat.le_of_ble_eq_true rfl) ?_
  intro p e s m below meth c A ls Q hx hb hts hown hml hin hN hK hA hP hD hS hl hex
  have hown : s.vm.findClass RX3 = some m.cls := hown
  have hl : lv_has ls 5 [(0, .ref y), (1, .int (nI ch))] := hl
  have iX3 : ∀ w ∈ wsX30, w ∈ wsM_send := by decide +kernel
  have lk20 := hts (.fieldLink RX3 20 "DownFramesModel" "waits" "[I") (by decide +kernel)
  have lk34 := hts (.fieldLink RX3 34 "DownFramesModel" "thrown" "I") (by decide +kernel)
  have lk37 := hts (.fieldLink RX3 37 "DownFramesModel" "many" "I") (by decide +kernel)
  have lk7 := hts (.fieldLink RX3 7 "DownFramesModel" "tape" "[B") (by decide +kernel)
  refine lv_aload_n hx hb dX3_send_0 rfl (lv_at hl 0 rfl) ?_
  refine lv_iconst (v := 0) hx hb dX3_send_1 (by decide) ?_
  refine va_put (D := D) (ci := 3) (v := .int 0) (ty := (.int)) hx hb hts iX3 tyX3 tyX3_ok nmX3 hown hK hP hD hS 0 rfl rfl 0 (by decide) lk34 (fun _ h => h) rfl (by decide +kernel) rfl rfl (Nat.le_of_ble_eq_true rfl) dX3_send_2 (fun H locs hP hD hS => ?_)
  have hP : va_P D vwCl [(y, .inr (3, [.int 0, .int (nI len), .ref tp, .int (nI mk), .ref bb, .ref zz, .ref wa, .ref fs, .ref fm, .int (nI fk)])), (tp, .inl (cB, 1024, .inl tg)), (bb, .inl (cB, 8400, .inl bf)), (zz, .inl (cZ, 8400, .inl zf)), (wa, .inl (cA, 2, .inl (wI ww)))] H := hP
  have hD : va_D A [(y, .inr (3, [.int 0, .int (nI len), .ref tp, .int (nI mk), .ref bb, .ref zz, .ref wa, .ref fs, .ref fm, .int (nI fk)])), (tp, .inl (cB, 1024, .inl tg)), (bb, .inl (cB, 8400, .inl bf)), (zz, .inl (cZ, 8400, .inl zf)), (wa, .inl (cA, 2, .inl (wI ww)))] := hD
  refine lv_aload_n hx hb dX3_send_5 rfl (lv_at hl 0 rfl) ?_
  refine va_get (D := D) (ci := 3) (v := .int (nI mk)) hx hb hts iX3 hown hK hP 0 rfl rfl 3 (by decide) lk37 (fun _ h => h) rfl dX3_send_6 ?_
  refine lv_istore_n (lv' := [(2, .int (nI mk)), (0, .ref y), (1, .int (nI ch))]) hx hb dX3_send_9 rfl hl (by decide) rfl (fun ls hl => ?_)
  refine lv_aload_n hx hb dX3_send_10 rfl (lv_at hl 1 rfl) ?_
  refine lv_iconst (v := 0) hx hb dX3_send_11 (by decide) ?_
  refine va_put (D := D) (ci := 3) (v := .int 0) (ty := (.int)) hx hb hts iX3 tyX3 tyX3_ok nmX3 hown hK hP hD hS 0 rfl rfl 3 (by decide) lk37 (fun _ h => h) rfl (by decide +kernel) rfl rfl (Nat.le_of_ble_eq_true rfl) dX3_send_12 (fun H locs hP hD hS => ?_)
  have hP : va_P D vwCl [(y, .inr (3, [.int 0, .int (nI len), .ref tp, .int 0, .ref bb, .ref zz, .ref wa, .ref fs, .ref fm, .int (nI fk)])), (tp, .inl (cB, 1024, .inl tg)), (bb, .inl (cB, 8400, .inl bf)), (zz, .inl (cZ, 8400, .inl zf)), (wa, .inl (cA, 2, .inl (wI ww)))] H := hP
  have hD : va_D A [(y, .inr (3, [.int 0, .int (nI len), .ref tp, .int 0, .ref bb, .ref zz, .ref wa, .ref fs, .ref fm, .int (nI fk)])), (tp, .inl (cB, 1024, .inl tg)), (bb, .inl (cB, 8400, .inl bf)), (zz, .inl (cZ, 8400, .inl zf)), (wa, .inl (cA, 2, .inl (wI ww)))] := hD
  have hP : va_P D vwCl [(y, .inr (3, [.int 0, .int (nI len), .ref tp, .int (nI 0), .ref bb, .ref zz, .ref wa, .ref fs, .ref fm, .int (nI fk)])), (tp, .inl (cB, 1024, .inl tg)), (bb, .inl (cB, 8400, .inl bf)), (zz, .inl (cZ, 8400, .inl zf)), (wa, .inl (cA, 2, .inl (wI ww)))] H := hP
  have hD : va_D A [(y, .inr (3, [.int 0, .int (nI len), .ref tp, .int (nI 0), .ref bb, .ref zz, .ref wa, .ref fs, .ref fm, .int (nI fk)])), (tp, .inl (cB, 1024, .inl tg)), (bb, .inl (cB, 8400, .inl bf)), (zz, .inl (cZ, 8400, .inl zf)), (wa, .inl (cA, 2, .inl (wI ww)))] := hD
  have tail : ∀ (H : Heap) (locs : List Loc) (ls : Array Slot), va_P D vwCl [(y, .inr (3, [.int 0, .int (nI len), .ref tp, .int (nI 0), .ref bb, .ref zz, .ref wa, .ref fs, .ref fm, .int (nI fk)])), (tp, .inl (cB, 1024, .inl tg)), (bb, .inl (cB, 8400, .inl bf)), (zz, .inl (cZ, 8400, .inl zf)), (wa, .inl (cA, 2, .inl (wI ww)))] H → va_D A [(y, .inr (3, [.int 0, .int (nI len), .ref tp, .int (nI 0), .ref bb, .ref zz, .ref wa, .ref fs, .ref fm, .int (nI fk)])), (tp, .inl (cB, 1024, .inl tg)), (bb, .inl (cB, 8400, .inl bf)), (zz, .inl (cZ, 8400, .inl zf)), (wa, .inl (cA, 2, .inl (wI ww)))] → va_S A s.heap H locs → lv_has ls 5 [(3, .int (hpkM tg mk)), (2, .int (nI mk)), (0, .ref y), (1, .int (nI ch))] → W p l e ({ frames := 1, cells := 0, slots := 0, locals := 23 } : Room) s m ([.ref y, .int (nI ch)] : List Value).toArray below meth c H locs 0 0 Q (F0 m 59 ls []) := by
    intro H locs ls hP hD hS hl
    refine lv_iload_n hx hb dX3_send_59 rfl (lv_at hl 3 rfl) ?_
    refine lv_if_lt (tgt := 86) hx hb dX3_send_60 (by decide) (fun cc => absurd cc (nI_pos (by omega))) (fun _ => ?_)
    refine lv_iload_n hx hb dX3_send_63 rfl (lv_at hl 3 rfl) ?_
    refine lv_iconst (v := 1) hx hb dX3_send_64 (by decide) ?_
    refine lv_icmp_gt (tgt := 86) hx hb dX3_send_65 (by decide) (fun cc => absurd cc (nI_nlt (a := 1) (by omega) (by decide))) (fun _ => ?_)
    refine lv_iload_n hx hb dX3_send_68 rfl (lv_at hl 0 rfl) ?_
    refine lv_if_eq (tgt := 86) hx hb dX3_send_69 (by decide) (fun cc => absurd cc (by rw [hp]; decide)) (fun _ => ?_)
    refine lv_aload_n hx hb dX3_send_72 rfl (lv_at hl 2 rfl) ?_
    refine va_get (D := D) (ci := 3) (v := .ref wa) hx hb hts iX3 hown hK hP 0 rfl rfl 6 (by decide) lk20 (fun _ h => h) rfl dX3_send_73 ?_
    refine lv_iload_n hx hb dX3_send_76 rfl (lv_at hl 3 rfl) ?_
    refine al_i (k := ch) hx hb hK hP 4 0 rfl rfl (hc) (by decide) dX3_send_77 ?_
    refine tp_i (y := nI w) (congrArg nI hw) ?_
    refine lv_iload_n hx hb dX3_send_78 rfl (lv_at hl 1 rfl) ?_
    refine lv_iadd hx hb dX3_send_79 ?_
    refine tp_i (y := nI (w + mk)) (nI_add _ _) ?_
    refine lv_sipush (v := 4096) hx hb dX3_send_80 (by decide +kernel) ?_
    refine lv_icmp_le (tgt := 88) hx hb dX3_send_83 (by decide) (fun _ => ?_) (fun cc => absurd (nI_le (b := 4096) hs (by decide)) cc)
    refine lv_iconst (v := 0) hx hb dX3_send_88 (by decide) ?_
    refine lv_istore (lv' := [(4, .int 0), (3, .int (hpkM tg mk)), (2, .int (nI mk)), (0, .ref y), (1, .int (nI ch))]) hx hb dX3_send_89 hl (by decide) rfl (fun ls hl => ?_)
    have loop : ∀ (d i : Nat) (H : Heap) (locs : List Loc) (ls : Array Slot), i + d = mk → va_P D vwCl [(y, .inr (3, [.int 0, .int (nI len), .ref tp, .int (nI 0), .ref bb, .ref zz, .ref wa, .ref fs, .ref fm, .int (nI fk)])), (tp, .inl (cB, 1024, .inl tg)), (bb, .inl (cB, 8400, .inl (lwr bf (4200 * ch + w) (fun i => i8 (tg i)) i))), (zz, .inl (cZ, 8400, .inl (lwr zf (4200 * ch + w) emz i))), (wa, .inl (cA, 2, .inl (wI (va_up ww ch (w + i)))))] H → va_D A [(y, .inr (3, [.int 0, .int (nI len), .ref tp, .int (nI 0), .ref bb, .ref zz, .ref wa, .ref fs, .ref fm, .int (nI fk)])), (tp, .inl (cB, 1024, .inl tg)), (bb, .inl (cB, 8400, .inl (lwr bf (4200 * ch + w) (fun i => i8 (tg i)) i))), (zz, .inl (cZ, 8400, .inl (lwr zf (4200 * ch + w) emz i))), (wa, .inl (cA, 2, .inl (wI (va_up ww ch (w + i)))))] → va_S A s.heap H locs → lv_has ls 5 [(4, .int (nI i)), (3, .int (hpkM tg mk)), (2, .int (nI mk)), (0, .ref y), (1, .int (nI ch))] → W p l e ({ frames := 1, cells := 0, slots := 0, locals := 23 } : Room) s m ([.ref y, .int (nI ch)] : List Value).toArray below meth c H locs 0 0 Q (F0 m 91 ls []) := by
      intro d
      induction d with
      | zero =>
        intro i H locs ls hi hP hD hS hl
        have hi : i = mk := hi
        rw [hi] at hP hD hl
        refine lv_iload hx hb dX3_send_91 (lv_at hl 0 rfl) ?_
        refine lv_iload_n hx hb dX3_send_93 rfl (lv_at hl 2 rfl) ?_
        refine lv_icmp_ge (tgt := 125) hx hb dX3_send_94 (by decide) (fun _ => ?_) (fun cc => absurd (nI_le (Nat.le_refl _) (by omega)) cc)
        refine lv_aload_n hx hb dX3_send_125 rfl (lv_at hl 3 rfl) ?_
        refine va_get (D := D) (ci := 3) (v := .ref wa) hx hb hts iX3 hown hK hP 0 rfl rfl 6 (by decide) lk20 (fun _ h => h) rfl dX3_send_126 ?_
        refine lv_iload_n hx hb dX3_send_129 rfl (lv_at hl 4 rfl) ?_
        refine al_i (k := ch) hx hb hK hP 4 0 rfl rfl (hc) (by decide) dX3_send_130 ?_
        refine tp_i (y := nI (w + mk)) (by simp [wI, va_up]) ?_
        exact hex _ _ _ _ _ () hS (rfl) hP hD dX3_send_131
      | succ d ih =>
        intro i H locs ls hi hP hD hS hl
        refine lv_iload hx hb dX3_send_91 (lv_at hl 0 rfl) ?_
        refine lv_iload_n hx hb dX3_send_93 rfl (lv_at hl 2 rfl) ?_
        refine lv_icmp_ge (tgt := 125) hx hb dX3_send_94 (by decide) (fun cc => absurd cc (nI_ge (by omega) (by omega))) (fun _ => ?_)
        refine lv_aload_n hx hb dX3_send_97 rfl (lv_at hl 3 rfl) ?_
        refine lv_iload_n hx hb dX3_send_98 rfl (lv_at hl 4 rfl) ?_
        refine lv_aload_n hx hb dX3_send_99 rfl (lv_at hl 3 rfl) ?_
        refine va_get (D := D) (ci := 3) (v := .ref tp) hx hb hts iX3 hown hK hP 0 rfl rfl 2 (by decide) lk7 (fun _ h => h) rfl dX3_send_100 ?_
        refine lv_iload hx hb dX3_send_103 (lv_at hl 0 rfl) ?_
        refine al_b (k := i) hx hb hK hP 1 1 rfl rfl (by omega) (by decide) dX3_send_105 ?_
        refine lv_iload hx hb dX3_send_106 (lv_at hl 0 rfl) ?_
        refine lv_if_ne (tgt := 115) hx hb dX3_send_108 (by decide) (fun y1 => ?_) (fun y1 => ?_)
        · refine lv_iconst (v := 0) hx hb dX3_send_115 (by decide) ?_
          refine cl0_vv ⟨hx, hb, hml, hown, hts⟩ (c_m_wait l D cA cB cZ y len tp bb zz wa fs fm 0 fk (lwr bf (4200 * ch + w) (fun i => i8 (tg i)) i) (lwr zf (4200 * ch + w) emz i) (va_up ww ch (w + i)) ch (w + i) (tg i) 0 hc (by simp [va_up]) (by omega)) (cwV 3 hts (gM_wait _) rfl rfl rfl (by decide +kernel) ⟨Nat.le_of_ble_eq_true rfl, Nat.le_of_ble_eq_true rfl⟩) (ci := 3) (q0 := 0) rfl rfl hN hK hP hD hS hA [0, 2, 3, 4] [1] [1, 0, 2, 3, 4] [(tp, .inl (cB, 1024, .inl tg))] [(y, .inr (3, [.int 0, .int (nI len), .ref tp, .int (nI 0), .ref bb, .ref zz, .ref wa, .ref fs, .ref fm, .int (nI fk)])), (tp, .inl (cB, 1024, .inl tg)), (bb, .inl (cB, 8400, .inl (upd (lwr bf (4200 * ch + w) (fun i => i8 (tg i)) i) (4200 * ch + (w + i)) (i8 (tg i))))), (zz, .inl (cZ, 8400, .inl (upd (lwr zf (4200 * ch + w) emz i) (4200 * ch + (w + i)) (0 &&& 1)))), (wa, .inl (cA, 2, .inl (wI (va_up (va_up ww ch (w + i)) ch (w + i + 1)))))] [] rfl rfl rfl rfl (by decide) rfl rfl rfl hl.1 rfl (Nat.le_of_ble_eq_true rfl) dX3_send_116 ⟨Nat.le_of_ble_eq_true rfl, Nat.le_of_ble_eq_true rfl⟩ (fun H locs hP hD hS => ?_)
          have eb : upd (lwr bf (4200 * ch + w) (fun i => i8 (tg i)) i) (4200 * ch + (w + i)) (i8 (tg i)) = lwr bf (4200 * ch + w) (fun i => i8 (tg i)) (i + 1) := by rw [← Nat.add_assoc]; rfl
          have ez : upd (lwr zf (4200 * ch + w) emz i) (4200 * ch + (w + i)) (0 &&& 1) = lwr zf (4200 * ch + w) emz (i + 1) := by rw [← Nat.add_assoc]; show upd _ _ _ = upd _ _ (emz i); rw [emz_0 i (by rcases Nat.eq_zero_or_pos i with q | q; exact absurd (by rw [q]; rfl) y1; exact q)]; rfl
          rw [eb, ez, bx_uu] at hP hD
          have hP : va_P D vwCl [(y, .inr (3, [.int 0, .int (nI len), .ref tp, .int (nI 0), .ref bb, .ref zz, .ref wa, .ref fs, .ref fm, .int (nI fk)])), (tp, .inl (cB, 1024, .inl tg)), (bb, .inl (cB, 8400, .inl (lwr bf (4200 * ch + w) (fun i => i8 (tg i)) (i + 1)))), (zz, .inl (cZ, 8400, .inl (lwr zf (4200 * ch + w) emz (i + 1)))), (wa, .inl (cA, 2, .inl (wI (va_up ww ch (w + (i + 1))))))] H := hP
          have hD : va_D A [(y, .inr (3, [.int 0, .int (nI len), .ref tp, .int (nI 0), .ref bb, .ref zz, .ref wa, .ref fs, .ref fm, .int (nI fk)])), (tp, .inl (cB, 1024, .inl tg)), (bb, .inl (cB, 8400, .inl (lwr bf (4200 * ch + w) (fun i => i8 (tg i)) (i + 1)))), (zz, .inl (cZ, 8400, .inl (lwr zf (4200 * ch + w) emz (i + 1)))), (wa, .inl (cA, 2, .inl (wI (va_up ww ch (w + (i + 1))))))] := hD
          refine lv_iinc (v := nI (i + 1)) (lv' := [(4, .int (nI (i + 1))), (3, .int (hpkM tg mk)), (2, .int (nI mk)), (0, .ref y), (1, .int (nI ch))]) hx hb dX3_send_119 hl (k := 0) rfl (nI_1 _) (by decide) rfl (fun ls hl => ?_)
          refine lv_goto (tgt := 91) hx hb dX3_send_122 (by decide) ?_
          exact ih (i + 1) H locs ls (by omega) hP hD hS (lv_sub hl [0, 1, 2, 3, 4] rfl)
        · have hi0 : i = 0 := by rcases Nat.eq_zero_or_pos i with q | q; exact q; exact absurd y1 (nI_ne0 q (by omega))
          refine lv_iconst (v := 1) hx hb dX3_send_111 (by decide) ?_
          refine lv_goto (tgt := 116) hx hb dX3_send_112 (by decide) ?_
          refine cl0_vv ⟨hx, hb, hml, hown, hts⟩ (c_m_wait l D cA cB cZ y len tp bb zz wa fs fm 0 fk (lwr bf (4200 * ch + w) (fun i => i8 (tg i)) i) (lwr zf (4200 * ch + w) emz i) (va_up ww ch (w + i)) ch (w + i) (tg i) 1 hc (by simp [va_up]) (by omega)) (cwV 3 hts (gM_wait _) rfl rfl rfl (by decide +kernel) ⟨Nat.le_of_ble_eq_true rfl, Nat.le_of_ble_eq_true rfl⟩) (ci := 3) (q0 := 0) rfl rfl hN hK hP hD hS hA [0, 2, 3, 4] [1] [1, 0, 2, 3, 4] [(tp, .inl (cB, 1024, .inl tg))] [(y, .inr (3, [.int 0, .int (nI len), .ref tp, .int (nI 0), .ref bb, .ref zz, .ref wa, .ref fs, .ref fm, .int (nI fk)])), (tp, .inl (cB, 1024, .inl tg)), (bb, .inl (cB, 8400, .inl (upd (lwr bf (4200 * ch + w) (fun i => i8 (tg i)) i) (4200 * ch + (w + i)) (i8 (tg i))))), (zz, .inl (cZ, 8400, .inl (upd (lwr zf (4200 * ch + w) emz i) (4200 * ch + (w + i)) (1 &&& 1)))), (wa, .inl (cA, 2, .inl (wI (va_up (va_up ww ch (w + i)) ch (w + i + 1)))))] [] rfl rfl rfl rfl (by decide) rfl rfl rfl hl.1 rfl (Nat.le_of_ble_eq_true rfl) dX3_send_116 ⟨Nat.le_of_ble_eq_true rfl, Nat.le_of_ble_eq_true rfl⟩ (fun H locs hP hD hS => ?_)
          have eb : upd (lwr bf (4200 * ch + w) (fun i => i8 (tg i)) i) (4200 * ch + (w + i)) (i8 (tg i)) = lwr bf (4200 * ch + w) (fun i => i8 (tg i)) (i + 1) := by rw [← Nat.add_assoc]; rfl
          have ez : upd (lwr zf (4200 * ch + w) emz i) (4200 * ch + (w + i)) (1 &&& 1) = lwr zf (4200 * ch + w) emz (i + 1) := by rw [← Nat.add_assoc]; show upd _ _ _ = upd _ _ (emz i); rw [show emz i = 1 from by rw [hi0]; rfl]; rfl
          rw [eb, ez, bx_uu] at hP hD
          have hP : va_P D vwCl [(y, .inr (3, [.int 0, .int (nI len), .ref tp, .int (nI 0), .ref bb, .ref zz, .ref wa, .ref fs, .ref fm, .int (nI fk)])), (tp, .inl (cB, 1024, .inl tg)), (bb, .inl (cB, 8400, .inl (lwr bf (4200 * ch + w) (fun i => i8 (tg i)) (i + 1)))), (zz, .inl (cZ, 8400, .inl (lwr zf (4200 * ch + w) emz (i + 1)))), (wa, .inl (cA, 2, .inl (wI (va_up ww ch (w + (i + 1))))))] H := hP
          have hD : va_D A [(y, .inr (3, [.int 0, .int (nI len), .ref tp, .int (nI 0), .ref bb, .ref zz, .ref wa, .ref fs, .ref fm, .int (nI fk)])), (tp, .inl (cB, 1024, .inl tg)), (bb, .inl (cB, 8400, .inl (lwr bf (4200 * ch + w) (fun i => i8 (tg i)) (i + 1)))), (zz, .inl (cZ, 8400, .inl (lwr zf (4200 * ch + w) emz (i + 1)))), (wa, .inl (cA, 2, .inl (wI (va_up ww ch (w + (i + 1))))))] := hD
          refine lv_iinc (v := nI (i + 1)) (lv' := [(4, .int (nI (i + 1))), (3, .int (hpkM tg mk)), (2, .int (nI mk)), (0, .ref y), (1, .int (nI ch))]) hx hb dX3_send_119 hl (k := 0) rfl (nI_1 _) (by decide) rfl (fun ls hl => ?_)
          refine lv_goto (tgt := 91) hx hb dX3_send_122 (by decide) ?_
          exact ih (i + 1) H locs ls (by omega) hP hD hS (lv_sub hl [0, 1, 2, 3, 4] rfl)
    have e0 : va_up ww ch (w + 0) = ww := by funext j; unfold va_up; by_cases h : j = ch; subst h; simp [hw]; simp [h]
    have hP : va_P D vwCl [(y, .inr (3, [.int 0, .int (nI len), .ref tp, .int (nI 0), .ref bb, .ref zz, .ref wa, .ref fs, .ref fm, .int (nI fk)])), (tp, .inl (cB, 1024, .inl tg)), (bb, .inl (cB, 8400, .inl (lwr bf (4200 * ch + w) (fun i => i8 (tg i)) 0))), (zz, .inl (cZ, 8400, .inl (lwr zf (4200 * ch + w) emz 0))), (wa, .inl (cA, 2, .inl (wI (va_up ww ch (w + 0)))))] H := by rw [e0]; exact hP
    have hD : va_D A [(y, .inr (3, [.int 0, .int (nI len), .ref tp, .int (nI 0), .ref bb, .ref zz, .ref wa, .ref fs, .ref fm, .int (nI fk)])), (tp, .inl (cB, 1024, .inl tg)), (bb, .inl (cB, 8400, .inl (lwr bf (4200 * ch + w) (fun i => i8 (tg i)) 0))), (zz, .inl (cZ, 8400, .inl (lwr zf (4200 * ch + w) emz 0))), (wa, .inl (cA, 2, .inl (wI (va_up ww ch (w + 0)))))] := by rw [e0]; exact hD
    exact loop mk 0 _ _ ls (by omega) hP hD hS (lv_sub hl [0, 1, 2, 3, 4] rfl)
  refine lv_iload_n hx hb dX3_send_15 rfl (lv_at hl 0 rfl) ?_
  refine lv_bipush (v := 6) hx hb dX3_send_16 (by decide +kernel) ?_
  refine lv_icmp_le (tgt := 57) hx hb dX3_send_18 (by decide) (fun z1 => ?_) (fun z1 => ?_)
  · refine lv_iconst (v := 0) hx hb dX3_send_57 (by decide) ?_
    refine tp_i (y := hpkM tg mk) ((if_pos (by rcases Nat.lt_or_ge 6 mk with q | q; exact absurd z1 (nI_ge (a := 6) q (by omega)); exact q)).symm) ?_
    refine lv_istore_n (lv' := [(3, .int (hpkM tg mk)), (2, .int (nI mk)), (0, .ref y), (1, .int (nI ch))]) hx hb dX3_send_58 rfl hl (by decide) rfl (fun ls hl => ?_)
    exact tail _ _ ls hP hD hS (lv_sub hl [0, 1, 2, 3] rfl)
  · have h6 : ¬ mk ≤ 6 := fun q => z1 (nI_le (b := 6) q (by decide))
    refine lv_iload_n hx hb dX3_send_21 rfl (lv_at hl 0 rfl) ?_
    refine lv_bipush (v := 7) hx hb dX3_send_22 (by decide +kernel) ?_
    refine lv_sipush (v := 256) hx hb dX3_send_24 (by decide +kernel) ?_
    refine lv_aload_n hx hb dX3_send_27 rfl (lv_at hl 1 rfl) ?_
    refine va_get (D := D) (ci := 3) (v := .ref tp) hx hb hts iX3 hown hK hP 0 rfl rfl 2 (by decide) lk7 (fun _ h => h) rfl dX3_send_28 ?_
    refine lv_iconst (v := 4) hx hb dX3_send_31 (by decide) ?_
    refine tp_i (y := nI 4) (rfl) ?_
    refine al_b (k := 4) hx hb hK hP 1 1 rfl rfl (by decide) (by decide) dX3_send_32 ?_
    refine lv_sipush (v := 255) hx hb dX3_send_33 (by decide +kernel) ?_
    refine lv_iand hx hb dX3_send_36 ?_
    refine lv_imul hx hb dX3_send_37 ?_
    refine lv_iadd hx hb dX3_send_38 ?_
    refine lv_aload_n hx hb dX3_send_39 rfl (lv_at hl 1 rfl) ?_
    refine va_get (D := D) (ci := 3) (v := .ref tp) hx hb hts iX3 hown hK hP 0 rfl rfl 2 (by decide) lk7 (fun _ h => h) rfl dX3_send_40 ?_
    refine lv_iconst (v := 5) hx hb dX3_send_43 (by decide) ?_
    refine tp_i (y := nI 5) (rfl) ?_
    refine al_b (k := 5) hx hb hK hP 1 1 rfl rfl (by decide) (by decide) dX3_send_44 ?_
    refine lv_sipush (v := 255) hx hb dX3_send_45 (by decide +kernel) ?_
    refine lv_iand hx hb dX3_send_48 ?_
    refine lv_iadd hx hb dX3_send_49 ?_
    refine lv_icmp_ne (tgt := 57) hx hb dX3_send_50 (by decide) (fun z2 => ?_) (fun z2 => ?_)
    · refine lv_iconst (v := 0) hx hb dX3_send_57 (by decide) ?_
      refine tp_i (y := hpkM tg mk) (by unfold hpkM; rw [if_neg h6, if_neg z2]) ?_
      refine lv_istore_n (lv' := [(3, .int (hpkM tg mk)), (2, .int (nI mk)), (0, .ref y), (1, .int (nI ch))]) hx hb dX3_send_58 rfl hl (by decide) rfl (fun ls hl => ?_)
      exact tail _ _ ls hP hD hS (lv_sub hl [0, 1, 2, 3] rfl)
    · refine lv_iconst (v := 1) hx hb dX3_send_53 (by decide) ?_
      refine lv_goto (tgt := 58) hx hb dX3_send_54 (by decide) ?_
      refine tp_i (y := hpkM tg mk) (by unfold hpkM; rw [if_neg h6, if_pos z2]) ?_
      refine lv_istore_n (lv' := [(3, .int (hpkM tg mk)), (2, .int (nI mk)), (0, .ref y), (1, .int (nI ch))]) hx hb dX3_send_58 rfl hl (by decide) rfl (fun ls hl => ?_)
      exact tail _ _ ls hP hD hS (lv_sub hl [0, 1, 2, 3] rfl)

set_option maxHeartbeats 4000000 in
set_option maxRecDepth 100000 in
/-- byteAt -/
theorem c_m_byteAt (l : Launch) (D : va_G) (cA cB cZ : ClassId) (y len tp bb zz wa fs fm mk fk : Nat) (ff : Nat → Int32) (z : Int32) (hk : fk ≤ 256) : MI0 l yX3_byteAt wsM_byteAt { frames := 0, cells := 0, slots := 0, locals := 0 } [.ref y, .int z] D [(cA, .int), (cB, .byte), (cZ, .boolean)] [(y, .inr (3, [.int 0, .int (nI len), .ref tp, .int (nI mk), .ref bb, .ref zz, .ref wa, .ref fs, .ref fm, .int (nI fk)])), (fm, .inl (cB, 256, .inl ff))] (mat ff fk z) [(y, .inr (3, [.int 0, .int (nI len), .ref tp, .int (nI mk), .ref bb, .ref zz, .ref wa, .ref fs, .ref fm, .int (nI fk)])), (fm, .inl (cB, 256, .inl ff))] := by
  refine mt_i (by decide) rfl (Nat.le_of_ble_eq_true rfl) ?_
  intro p e s m below meth c A ls Q hx hb hts hown hml hin hN hK hA hP hD hS hl hex
  have hown : s.vm.findClass RX3 = some m.cls := hown
  have hl : lv_has ls 2 [(0, .ref y), (1, .int z)] := hl
  have iX3 : ∀ w ∈ wsX30, w ∈ wsM_byteAt := by decide +kernel
  have lk27 := hts (.fieldLink RX3 27 "DownFramesModel" "frame" "[B") (by decide +kernel)
  have lk34 := hts (.fieldLink RX3 34 "DownFramesModel" "thrown" "I") (by decide +kernel)
  have lk44 := hts (.fieldLink RX3 44 "DownFramesModel" "filled" "I") (by decide +kernel)
  refine lv_aload_n hx hb dX3_byteAt_0 rfl (lv_at hl 0 rfl) ?_
  refine lv_iconst (v := 0) hx hb dX3_byteAt_1 (by decide) ?_
  refine va_put (D := D) (ci := 3) (v := .int 0) (ty := (.int)) hx hb hts iX3 tyX3 tyX3_ok nmX3 hown hK hP hD hS 0 rfl rfl 0 (by decide) lk34 (fun _ h => h) rfl (by decide +kernel) rfl rfl (Nat.le_of_ble_eq_true rfl) dX3_byteAt_2 (fun H locs hP hD hS => ?_)
  have hP : va_P D vwCl [(y, .inr (3, [.int 0, .int (nI len), .ref tp, .int (nI mk), .ref bb, .ref zz, .ref wa, .ref fs, .ref fm, .int (nI fk)])), (fm, .inl (cB, 256, .inl ff))] H := hP
  have hD : va_D A [(y, .inr (3, [.int 0, .int (nI len), .ref tp, .int (nI mk), .ref bb, .ref zz, .ref wa, .ref fs, .ref fm, .int (nI fk)])), (fm, .inl (cB, 256, .inl ff))] := hD
  refine lv_iload_n hx hb dX3_byteAt_5 rfl (lv_at hl 1 rfl) ?_
  refine lv_if_lt (tgt := 30) hx hb dX3_byteAt_6 (by decide) (fun z1 => ?_) (fun z1 => ?_)
  · refine lv_iconst (v := (-1)) hx hb dX3_byteAt_30 (by decide) ?_
    exact hex _ _ _ _ _ () hS ((if_neg (fun q => q.1 z1)).symm) hP hD dX3_byteAt_31
  · refine lv_iload_n hx hb dX3_byteAt_9 rfl (lv_at hl 1 rfl) ?_
    refine lv_aload_n hx hb dX3_byteAt_10 rfl (lv_at hl 0 rfl) ?_
    refine va_get (D := D) (ci := 3) (v := .int (nI fk)) hx hb hts iX3 hown hK hP 0 rfl rfl 9 (by decide) lk44 (fun _ h => h) rfl dX3_byteAt_11 ?_
    refine lv_icmp_ge (tgt := 30) hx hb dX3_byteAt_14 (by decide) (fun z2 => ?_) (fun z2 => ?_)
    · refine lv_iconst (v := (-1)) hx hb dX3_byteAt_30 (by decide) ?_
      exact hex _ _ _ _ _ () hS ((if_neg (fun q => q.2 z2)).symm) hP hD dX3_byteAt_31
    · obtain ⟨j, hj, rfl⟩ := nI_of z1
      have hjk : j < fk := Nat.not_le.mp (fun q => z2 (nI_le q hj))
      refine lv_aload_n hx hb dX3_byteAt_17 rfl (lv_at hl 0 rfl) ?_
      refine va_get (D := D) (ci := 3) (v := .ref fm) hx hb hts iX3 hown hK hP 0 rfl rfl 8 (by decide) lk27 (fun _ h => h) rfl dX3_byteAt_18 ?_
      refine lv_iload_n hx hb dX3_byteAt_21 rfl (lv_at hl 1 rfl) ?_
      refine al_b (k := j) hx hb hK hP 1 1 rfl rfl (by omega) (by decide) dX3_byteAt_22 ?_
      refine lv_sipush (v := 255) hx hb dX3_byteAt_23 (by decide +kernel) ?_
      refine lv_iand hx hb dX3_byteAt_26 ?_
      refine lv_goto (tgt := 31) hx hb dX3_byteAt_27 (by decide) ?_
      exact hex _ _ _ _ _ () hS (mat_val hj z1 z2) hP hD dX3_byteAt_31

set_option maxHeartbeats 4000000 in
set_option maxRecDepth 100000 in
/-- waiting -/
theorem c_m_wait0 (l : Launch) (D : va_G) (cA cB cZ : ClassId) (y len tp bb zz wa fs fm mk fk : Nat) (ww : Nat → Nat) : MI0 l yX3_waiting wsM_waiting { frames := 0, cells := 0, slots := 0, locals := 0 } [.ref y, .int 0] D [(cA, .int), (cB, .byte), (cZ, .boolean)] [(y, .inr (3, [.int 0, .int (nI len), .ref tp, .int (nI mk), .ref bb, .ref zz, .ref wa, .ref fs, .ref fm, .int (nI fk)])), (wa, .inl (cA, 2, .inl (wI ww)))] (nI (ww 0)) [(y, .inr (3, [.int 0, .int (nI len), .ref tp, .int (nI mk), .ref bb, .ref zz, .ref wa, .ref fs, .ref fm, .int (nI fk)])), (wa, .inl (cA, 2, .inl (wI ww)))] := by
  refine mt_i (by decide) rfl (Nat.le_of_ble_eq_true rfl) ?_
  intro p e s m below meth c A ls Q hx hb hts hown hml hin hN hK hA hP hD hS hl hex
  have hown : s.vm.findClass RX3 = some m.cls := hown
  have hl : lv_has ls 2 [(0, .ref y), (1, .int 0)] := hl
  have iX3 : ∀ w ∈ wsX30, w ∈ wsM_waiting := by decide +kernel
  have lk20 := hts (.fieldLink RX3 20 "DownFramesModel" "waits" "[I") (by decide +kernel)
  have lk34 := hts (.fieldLink RX3 34 "DownFramesModel" "thrown" "I") (by decide +kernel)
  refine lv_aload_n hx hb dX3_waiting_0 rfl (lv_at hl 0 rfl) ?_
  refine lv_iconst (v := 0) hx hb dX3_waiting_1 (by decide) ?_
  refine va_put (D := D) (ci := 3) (v := .int 0) (ty := (.int)) hx hb hts iX3 tyX3 tyX3_ok nmX3 hown hK hP hD hS 0 rfl rfl 0 (by decide) lk34 (fun _ h => h) rfl (by decide +kernel) rfl rfl (Nat.le_of_ble_eq_true rfl) dX3_waiting_2 (fun H locs hP hD hS => ?_)
  have hP : va_P D vwCl [(y, .inr (3, [.int 0, .int (nI len), .ref tp, .int (nI mk), .ref bb, .ref zz, .ref wa, .ref fs, .ref fm, .int (nI fk)])), (wa, .inl (cA, 2, .inl (wI ww)))] H := hP
  have hD : va_D A [(y, .inr (3, [.int 0, .int (nI len), .ref tp, .int (nI mk), .ref bb, .ref zz, .ref wa, .ref fs, .ref fm, .int (nI fk)])), (wa, .inl (cA, 2, .inl (wI ww)))] := hD
  refine lv_iload_n hx hb dX3_waiting_5 rfl (lv_at hl 1 rfl) ?_
  refine lv_if_eq (tgt := 14) hx hb dX3_waiting_6 (by decide) (fun _ => ?_) (fun cc => absurd (rfl) cc)
  refine lv_aload_n hx hb dX3_waiting_14 rfl (lv_at hl 0 rfl) ?_
  refine va_get (D := D) (ci := 3) (v := .ref wa) hx hb hts iX3 hown hK hP 0 rfl rfl 6 (by decide) lk20 (fun _ h => h) rfl dX3_waiting_15 ?_
  refine lv_iload_n hx hb dX3_waiting_18 rfl (lv_at hl 1 rfl) ?_
  refine tp_i (y := nI 0) (rfl) ?_
  refine al_i (k := 0) hx hb hK hP 1 0 rfl rfl (by decide) (by decide) dX3_waiting_19 ?_
  refine lv_goto (tgt := 24) hx hb dX3_waiting_20 (by decide) ?_
  exact hex _ _ _ _ _ () hS (rfl) hP hD dX3_waiting_24

set_option maxHeartbeats 4000000 in
set_option maxRecDepth 100000 in
/-- waiting -/
theorem c_m_wait1 (l : Launch) (D : va_G) (cA cB cZ : ClassId) (y len tp bb zz wa fs fm mk fk : Nat) (ww : Nat → Nat) : MI0 l yX3_waiting wsM_waiting { frames := 0, cells := 0, slots := 0, locals := 0 } [.ref y, .int 1] D [(cA, .int), (cB, .byte), (cZ, .boolean)] [(y, .inr (3, [.int 0, .int (nI len), .ref tp, .int (nI mk), .ref bb, .ref zz, .ref wa, .ref fs, .ref fm, .int (nI fk)])), (wa, .inl (cA, 2, .inl (wI ww)))] (nI (ww 1)) [(y, .inr (3, [.int 0, .int (nI len), .ref tp, .int (nI mk), .ref bb, .ref zz, .ref wa, .ref fs, .ref fm, .int (nI fk)])), (wa, .inl (cA, 2, .inl (wI ww)))] := by
  refine mt_i (by decide) rfl (Nat.le_of_ble_eq_true rfl) ?_
  intro p e s m below meth c A ls Q hx hb hts hown hml hin hN hK hA hP hD hS hl hex
  have hown : s.vm.findClass RX3 = some m.cls := hown
  have hl : lv_has ls 2 [(0, .ref y), (1, .int 1)] := hl
  have iX3 : ∀ w ∈ wsX30, w ∈ wsM_waiting := by decide +kernel
  have lk20 := hts (.fieldLink RX3 20 "DownFramesModel" "waits" "[I") (by decide +kernel)
  have lk34 := hts (.fieldLink RX3 34 "DownFramesModel" "thrown" "I") (by decide +kernel)
  refine lv_aload_n hx hb dX3_waiting_0 rfl (lv_at hl 0 rfl) ?_
  refine lv_iconst (v := 0) hx hb dX3_waiting_1 (by decide) ?_
  refine va_put (D := D) (ci := 3) (v := .int 0) (ty := (.int)) hx hb hts iX3 tyX3 tyX3_ok nmX3 hown hK hP hD hS 0 rfl rfl 0 (by decide) lk34 (fun _ h => h) rfl (by decide +kernel) rfl rfl (Nat.le_of_ble_eq_true rfl) dX3_waiting_2 (fun H locs hP hD hS => ?_)
  have hP : va_P D vwCl [(y, .inr (3, [.int 0, .int (nI len), .ref tp, .int (nI mk), .ref bb, .ref zz, .ref wa, .ref fs, .ref fm, .int (nI fk)])), (wa, .inl (cA, 2, .inl (wI ww)))] H := hP
  have hD : va_D A [(y, .inr (3, [.int 0, .int (nI len), .ref tp, .int (nI mk), .ref bb, .ref zz, .ref wa, .ref fs, .ref fm, .int (nI fk)])), (wa, .inl (cA, 2, .inl (wI ww)))] := hD
  refine lv_iload_n hx hb dX3_waiting_5 rfl (lv_at hl 1 rfl) ?_
  refine lv_if_eq (tgt := 14) hx hb dX3_waiting_6 (by decide) (fun cc => absurd cc (by decide)) (fun _ => ?_)
  refine lv_iload_n hx hb dX3_waiting_9 rfl (lv_at hl 1 rfl) ?_
  refine lv_iconst (v := 1) hx hb dX3_waiting_10 (by decide) ?_
  refine lv_icmp_ne (tgt := 23) hx hb dX3_waiting_11 (by decide) (fun cc => absurd (rfl) cc) (fun _ => ?_)
  refine lv_aload_n hx hb dX3_waiting_14 rfl (lv_at hl 0 rfl) ?_
  refine va_get (D := D) (ci := 3) (v := .ref wa) hx hb hts iX3 hown hK hP 0 rfl rfl 6 (by decide) lk20 (fun _ h => h) rfl dX3_waiting_15 ?_
  refine lv_iload_n hx hb dX3_waiting_18 rfl (lv_at hl 1 rfl) ?_
  refine tp_i (y := nI 1) (rfl) ?_
  refine al_i (k := 1) hx hb hK hP 1 0 rfl rfl (by decide) (by decide) dX3_waiting_19 ?_
  refine lv_goto (tgt := 24) hx hb dX3_waiting_20 (by decide) ?_
  exact hex _ _ _ _ _ () hS (rfl) hP hD dX3_waiting_24

set_option maxHeartbeats 4000000 in
set_option maxRecDepth 100000 in
/-- waiting -/
theorem c_m_waitN (l : Launch) (D : va_G) (cA cB cZ : ClassId) (y len tp bb zz wa fs fm mk fk : Nat) (ww : Nat → Nat) (z : Int32) (hz0 : ¬ z = 0) (hz1 : ¬ z = 1) : MI0 l yX3_waiting wsM_waiting { frames := 0, cells := 0, slots := 0, locals := 0 } [.ref y, .int z] D [(cA, .int), (cB, .byte), (cZ, .boolean)] [(y, .inr (3, [.int 0, .int (nI len), .ref tp, .int (nI mk), .ref bb, .ref zz, .ref wa, .ref fs, .ref fm, .int (nI fk)])), (wa, .inl (cA, 2, .inl (wI ww)))] (-1) [(y, .inr (3, [.int 0, .int (nI len), .ref tp, .int (nI mk), .ref bb, .ref zz, .ref wa, .ref fs, .ref fm, .int (nI fk)])), (wa, .inl (cA, 2, .inl (wI ww)))] := by
  refine mt_i (by decide) rfl (Nat.le_of_ble_eq_true rfl) ?_
  intro p e s m below meth c A ls Q hx hb hts hown hml hin hN hK hA hP hD hS hl hex
  have hown : s.vm.findClass RX3 = some m.cls := hown
  have hl : lv_has ls 2 [(0, .ref y), (1, .int z)] := hl
  have iX3 : ∀ w ∈ wsX30, w ∈ wsM_waiting := by decide +kernel
  have lk34 := hts (.fieldLink RX3 34 "DownFramesModel" "thrown" "I") (by decide +kernel)
  refine lv_aload_n hx hb dX3_waiting_0 rfl (lv_at hl 0 rfl) ?_
  refine lv_iconst (v := 0) hx hb dX3_waiting_1 (by decide) ?_
  refine va_put (D := D) (ci := 3) (v := .int 0) (ty := (.int)) hx hb hts iX3 tyX3 tyX3_ok nmX3 hown hK hP hD hS 0 rfl rfl 0 (by decide) lk34 (fun _ h => h) rfl (by decide +kernel) rfl rfl (Nat.le_of_ble_eq_true rfl) dX3_waiting_2 (fun H locs hP hD hS => ?_)
  have hP : va_P D vwCl [(y, .inr (3, [.int 0, .int (nI len), .ref tp, .int (nI mk), .ref bb, .ref zz, .ref wa, .ref fs, .ref fm, .int (nI fk)])), (wa, .inl (cA, 2, .inl (wI ww)))] H := hP
  have hD : va_D A [(y, .inr (3, [.int 0, .int (nI len), .ref tp, .int (nI mk), .ref bb, .ref zz, .ref wa, .ref fs, .ref fm, .int (nI fk)])), (wa, .inl (cA, 2, .inl (wI ww)))] := hD
  refine lv_iload_n hx hb dX3_waiting_5 rfl (lv_at hl 1 rfl) ?_
  refine lv_if_eq (tgt := 14) hx hb dX3_waiting_6 (by decide) (fun cc => absurd cc (hz0)) (fun _ => ?_)
  refine lv_iload_n hx hb dX3_waiting_9 rfl (lv_at hl 1 rfl) ?_
  refine lv_iconst (v := 1) hx hb dX3_waiting_10 (by decide) ?_
  refine lv_icmp_ne (tgt := 23) hx hb dX3_waiting_11 (by decide) (fun _ => ?_) (fun cc => absurd cc (hz1))
  refine lv_iconst (v := (-1)) hx hb dX3_waiting_23 (by decide) ?_
  exact hex _ _ _ _ _ () hS (rfl) hP hD dX3_waiting_24

set_option maxHeartbeats 4000000 in
set_option maxRecDepth 100000 in
/-- count of frames -/
theorem c_m_countF (l : Launch) (D : va_G) (cA cB cZ : ClassId) (y len tp bb zz wa fs fm mk fk : Nat) (mf : Nat → Int32) (j : Nat) (hj : j < 4) : MI0 l yX3_count wsM_count { frames := 0, cells := 0, slots := 0, locals := 0 } [.ref y, .int (nI j)] D [(cA, .int), (cB, .byte), (cZ, .boolean)] [(y, .inr (3, [.int 0, .int (nI len), .ref tp, .int (nI mk), .ref bb, .ref zz, .ref wa, .ref fs, .ref fm, .int (nI fk)])), (fs, .inl (cA, 4, .inl mf))] (mf j) [(y, .inr (3, [.int 0, .int (nI len), .ref tp, .int (nI mk), .ref bb, .ref zz, .ref wa, .ref fs, .ref fm, .int (nI fk)])), (fs, .inl (cA, 4, .inl mf))] := by
  refine mt_i (by decide) rfl (Nat.le_of_ble_eq_true rfl) ?_
  intro p e s m below meth c A ls Q hx hb hts hown hml hin hN hK hA hP hD hS hl hex
  have hown : s.vm.findClass RX3 = some m.cls := hown
  have hl : lv_has ls 2 [(0, .ref y), (1, .int (nI j))] := hl
  have iX3 : ∀ w ∈ wsX30, w ∈ wsM_count := by decide +kernel
  have lk24 := hts (.fieldLink RX3 24 "DownFramesModel" "frames" "[I") (by decide +kernel)
  have lk34 := hts (.fieldLink RX3 34 "DownFramesModel" "thrown" "I") (by decide +kernel)
  refine lv_aload_n hx hb dX3_count_0 rfl (lv_at hl 0 rfl) ?_
  refine lv_iconst (v := 0) hx hb dX3_count_1 (by decide) ?_
  refine va_put (D := D) (ci := 3) (v := .int 0) (ty := (.int)) hx hb hts iX3 tyX3 tyX3_ok nmX3 hown hK hP hD hS 0 rfl rfl 0 (by decide) lk34 (fun _ h => h) rfl (by decide +kernel) rfl rfl (Nat.le_of_ble_eq_true rfl) dX3_count_2 (fun H locs hP hD hS => ?_)
  have hP : va_P D vwCl [(y, .inr (3, [.int 0, .int (nI len), .ref tp, .int (nI mk), .ref bb, .ref zz, .ref wa, .ref fs, .ref fm, .int (nI fk)])), (fs, .inl (cA, 4, .inl mf))] H := hP
  have hD : va_D A [(y, .inr (3, [.int 0, .int (nI len), .ref tp, .int (nI mk), .ref bb, .ref zz, .ref wa, .ref fs, .ref fm, .int (nI fk)])), (fs, .inl (cA, 4, .inl mf))] := hD
  refine lv_iload_n hx hb dX3_count_5 rfl (lv_at hl 1 rfl) ?_
  refine lv_if_lt (tgt := 23) hx hb dX3_count_6 (by decide) (fun cc => absurd cc (nI_pos (by omega))) (fun _ => ?_)
  refine lv_iload_n hx hb dX3_count_9 rfl (lv_at hl 1 rfl) ?_
  refine lv_iconst (v := 4) hx hb dX3_count_10 (by decide) ?_
  refine lv_icmp_ge (tgt := 23) hx hb dX3_count_11 (by decide) (fun cc => absurd cc (nI_ge (b := 4) hj (by decide))) (fun _ => ?_)
  refine lv_aload_n hx hb dX3_count_14 rfl (lv_at hl 0 rfl) ?_
  refine va_get (D := D) (ci := 3) (v := .ref fs) hx hb hts iX3 hown hK hP 0 rfl rfl 7 (by decide) lk24 (fun _ h => h) rfl dX3_count_15 ?_
  refine lv_iload_n hx hb dX3_count_18 rfl (lv_at hl 1 rfl) ?_
  refine al_i (k := j) hx hb hK hP 1 0 rfl rfl (hj) (by decide) dX3_count_19 ?_
  refine lv_goto (tgt := 48) hx hb dX3_count_20 (by decide) ?_
  exact hex _ _ _ _ _ () hS (rfl) hP hD dX3_count_48

set_option maxHeartbeats 4000000 in
set_option maxRecDepth 100000 in
/-- count -/
theorem c_m_count4 (l : Launch) (D : va_G) (cA cB cZ : ClassId) (y len tp bb zz wa fs fm mk fk : Nat) : MI0 l yX3_count wsM_count { frames := 0, cells := 0, slots := 0, locals := 0 } [.ref y, .int 4] D [(cA, .int), (cB, .byte), (cZ, .boolean)] [(y, .inr (3, [.int 0, .int (nI len), .ref tp, .int (nI mk), .ref bb, .ref zz, .ref wa, .ref fs, .ref fm, .int (nI fk)]))] (nI mk) [(y, .inr (3, [.int 0, .int (nI len), .ref tp, .int (nI mk), .ref bb, .ref zz, .ref wa, .ref fs, .ref fm, .int (nI fk)]))] := by
  refine mt_i (by decide) rfl (Nat.le_of_ble_eq_true rfl) ?_
  intro p e s m below meth c A ls Q hx hb hts hown hml hin hN hK hA hP hD hS hl hex
  have hown : s.vm.findClass RX3 = some m.cls := hown
  have hl : lv_has ls 2 [(0, .ref y), (1, .int 4)] := hl
  have iX3 : ∀ w ∈ wsX30, w ∈ wsM_count := by decide +kernel
  have lk34 := hts (.fieldLink RX3 34 "DownFramesModel" "thrown" "I") (by decide +kernel)
  have lk37 := hts (.fieldLink RX3 37 "DownFramesModel" "many" "I") (by decide +kernel)
  refine lv_aload_n hx hb dX3_count_0 rfl (lv_at hl 0 rfl) ?_
  refine lv_iconst (v := 0) hx hb dX3_count_1 (by decide) ?_
  refine va_put (D := D) (ci := 3) (v := .int 0) (ty := (.int)) hx hb hts iX3 tyX3 tyX3_ok nmX3 hown hK hP hD hS 0 rfl rfl 0 (by decide) lk34 (fun _ h => h) rfl (by decide +kernel) rfl rfl (Nat.le_of_ble_eq_true rfl) dX3_count_2 (fun H locs hP hD hS => ?_)
  have hP : va_P D vwCl [(y, .inr (3, [.int 0, .int (nI len), .ref tp, .int (nI mk), .ref bb, .ref zz, .ref wa, .ref fs, .ref fm, .int (nI fk)]))] H := hP
  have hD : va_D A [(y, .inr (3, [.int 0, .int (nI len), .ref tp, .int (nI mk), .ref bb, .ref zz, .ref wa, .ref fs, .ref fm, .int (nI fk)]))] := hD
  refine lv_iload_n hx hb dX3_count_5 rfl (lv_at hl 1 rfl) ?_
  refine lv_if_lt (tgt := 23) hx hb dX3_count_6 (by decide) (fun cc => absurd cc (by decide)) (fun _ => ?_)
  refine lv_iload_n hx hb dX3_count_9 rfl (lv_at hl 1 rfl) ?_
  refine lv_iconst (v := 4) hx hb dX3_count_10 (by decide) ?_
  refine lv_icmp_ge (tgt := 23) hx hb dX3_count_11 (by decide) (fun _ => ?_) (fun cc => absurd (by decide) cc)
  refine lv_iload_n hx hb dX3_count_23 rfl (lv_at hl 1 rfl) ?_
  refine lv_iconst (v := 4) hx hb dX3_count_24 (by decide) ?_
  refine lv_icmp_ne (tgt := 35) hx hb dX3_count_25 (by decide) (fun cc => absurd (rfl) cc) (fun _ => ?_)
  refine lv_aload_n hx hb dX3_count_28 rfl (lv_at hl 0 rfl) ?_
  refine va_get (D := D) (ci := 3) (v := .int (nI mk)) hx hb hts iX3 hown hK hP 0 rfl rfl 3 (by decide) lk37 (fun _ h => h) rfl dX3_count_29 ?_
  refine lv_goto (tgt := 48) hx hb dX3_count_32 (by decide) ?_
  exact hex _ _ _ _ _ () hS (rfl) hP hD dX3_count_48

set_option maxHeartbeats 4000000 in
set_option maxRecDepth 100000 in
/-- count -/
theorem c_m_count5 (l : Launch) (D : va_G) (cA cB cZ : ClassId) (y len tp bb zz wa fs fm mk fk : Nat) : MI0 l yX3_count wsM_count { frames := 0, cells := 0, slots := 0, locals := 0 } [.ref y, .int 5] D [(cA, .int), (cB, .byte), (cZ, .boolean)] [(y, .inr (3, [.int 0, .int (nI len), .ref tp, .int (nI mk), .ref bb, .ref zz, .ref wa, .ref fs, .ref fm, .int (nI fk)]))] (nI len) [(y, .inr (3, [.int 0, .int (nI len), .ref tp, .int (nI mk), .ref bb, .ref zz, .ref wa, .ref fs, .ref fm, .int (nI fk)]))] := by
  refine mt_i (by decide) rfl (Nat.le_of_ble_eq_true rfl) ?_
  intro p e s m below meth c A ls Q hx hb hts hown hml hin hN hK hA hP hD hS hl hex
  have hown : s.vm.findClass RX3 = some m.cls := hown
  have hl : lv_has ls 2 [(0, .ref y), (1, .int 5)] := hl
  have iX3 : ∀ w ∈ wsX30, w ∈ wsM_count := by decide +kernel
  have lk30 := hts (.fieldLink RX3 30 "DownFramesModel" "length" "I") (by decide +kernel)
  have lk34 := hts (.fieldLink RX3 34 "DownFramesModel" "thrown" "I") (by decide +kernel)
  refine lv_aload_n hx hb dX3_count_0 rfl (lv_at hl 0 rfl) ?_
  refine lv_iconst (v := 0) hx hb dX3_count_1 (by decide) ?_
  refine va_put (D := D) (ci := 3) (v := .int 0) (ty := (.int)) hx hb hts iX3 tyX3 tyX3_ok nmX3 hown hK hP hD hS 0 rfl rfl 0 (by decide) lk34 (fun _ h => h) rfl (by decide +kernel) rfl rfl (Nat.le_of_ble_eq_true rfl) dX3_count_2 (fun H locs hP hD hS => ?_)
  have hP : va_P D vwCl [(y, .inr (3, [.int 0, .int (nI len), .ref tp, .int (nI mk), .ref bb, .ref zz, .ref wa, .ref fs, .ref fm, .int (nI fk)]))] H := hP
  have hD : va_D A [(y, .inr (3, [.int 0, .int (nI len), .ref tp, .int (nI mk), .ref bb, .ref zz, .ref wa, .ref fs, .ref fm, .int (nI fk)]))] := hD
  refine lv_iload_n hx hb dX3_count_5 rfl (lv_at hl 1 rfl) ?_
  refine lv_if_lt (tgt := 23) hx hb dX3_count_6 (by decide) (fun cc => absurd cc (by decide)) (fun _ => ?_)
  refine lv_iload_n hx hb dX3_count_9 rfl (lv_at hl 1 rfl) ?_
  refine lv_iconst (v := 4) hx hb dX3_count_10 (by decide) ?_
  refine lv_icmp_ge (tgt := 23) hx hb dX3_count_11 (by decide) (fun _ => ?_) (fun cc => absurd (by decide) cc)
  refine lv_iload_n hx hb dX3_count_23 rfl (lv_at hl 1 rfl) ?_
  refine lv_iconst (v := 4) hx hb dX3_count_24 (by decide) ?_
  refine lv_icmp_ne (tgt := 35) hx hb dX3_count_25 (by decide) (fun _ => ?_) (fun cc => absurd cc (by decide))
  refine lv_iload_n hx hb dX3_count_35 rfl (lv_at hl 1 rfl) ?_
  refine lv_iconst (v := 5) hx hb dX3_count_36 (by decide) ?_
  refine lv_icmp_ne (tgt := 47) hx hb dX3_count_37 (by decide) (fun cc => absurd (rfl) cc) (fun _ => ?_)
  refine lv_aload_n hx hb dX3_count_40 rfl (lv_at hl 0 rfl) ?_
  refine va_get (D := D) (ci := 3) (v := .int (nI len)) hx hb hts iX3 hown hK hP 0 rfl rfl 1 (by decide) lk30 (fun _ h => h) rfl dX3_count_41 ?_
  refine lv_goto (tgt := 48) hx hb dX3_count_44 (by decide) ?_
  exact hex _ _ _ _ _ () hS (rfl) hP hD dX3_count_48

set_option maxHeartbeats 4000000 in
set_option maxRecDepth 100000 in
/-- count of nothing -/
theorem c_m_countN (l : Launch) (D : va_G) (cA cB cZ : ClassId) (y len tp bb zz wa fs fm mk fk : Nat) (z : Int32) (hz : z < 0 ∨ 4 ≤ z) (h4 : ¬ z = 4) (h5 : ¬ z = 5) : MI0 l yX3_count wsM_count { frames := 0, cells := 0, slots := 0, locals := 0 } [.ref y, .int z] D [(cA, .int), (cB, .byte), (cZ, .boolean)] [(y, .inr (3, [.int 0, .int (nI len), .ref tp, .int (nI mk), .ref bb, .ref zz, .ref wa, .ref fs, .ref fm, .int (nI fk)]))] (-1) [(y, .inr (3, [.int 0, .int (nI len), .ref tp, .int (nI mk), .ref bb, .ref zz, .ref wa, .ref fs, .ref fm, .int (nI fk)]))] := by
  refine mt_i (by decide) rfl (Nat.le_of_ble_eq_true rfl) ?_
  intro p e s m below meth c A ls Q hx hb hts hown hml hin hN hK hA hP hD hS hl hex
  have hown : s.vm.findClass RX3 = some m.cls := hown
  have hl : lv_has ls 2 [(0, .ref y), (1, .int z)] := hl
  have iX3 : ∀ w ∈ wsX30, w ∈ wsM_count := by decide +kernel
  have lk34 := hts (.fieldLink RX3 34 "DownFramesModel" "thrown" "I") (by decide +kernel)
  refine lv_aload_n hx hb dX3_count_0 rfl (lv_at hl 0 rfl) ?_
  refine lv_iconst (v := 0) hx hb dX3_count_1 (by decide) ?_
  refine va_put (D := D) (ci := 3) (v := .int 0) (ty := (.int)) hx hb hts iX3 tyX3 tyX3_ok nmX3 hown hK hP hD hS 0 rfl rfl 0 (by decide) lk34 (fun _ h => h) rfl (by decide +kernel) rfl rfl (Nat.le_of_ble_eq_true rfl) dX3_count_2 (fun H locs hP hD hS => ?_)
  have hP : va_P D vwCl [(y, .inr (3, [.int 0, .int (nI len), .ref tp, .int (nI mk), .ref bb, .ref zz, .ref wa, .ref fs, .ref fm, .int (nI fk)]))] H := hP
  have hD : va_D A [(y, .inr (3, [.int 0, .int (nI len), .ref tp, .int (nI mk), .ref bb, .ref zz, .ref wa, .ref fs, .ref fm, .int (nI fk)]))] := hD
  refine lv_iload_n hx hb dX3_count_5 rfl (lv_at hl 1 rfl) ?_
  refine lv_if_lt (tgt := 23) hx hb dX3_count_6 (by decide) (fun z1 => ?_) (fun z1 => ?_)
  · refine lv_iload_n hx hb dX3_count_23 rfl (lv_at hl 1 rfl) ?_
    refine lv_iconst (v := 4) hx hb dX3_count_24 (by decide) ?_
    refine lv_icmp_ne (tgt := 35) hx hb dX3_count_25 (by decide) (fun _ => ?_) (fun cc => absurd cc (h4))
    refine lv_iload_n hx hb dX3_count_35 rfl (lv_at hl 1 rfl) ?_
    refine lv_iconst (v := 5) hx hb dX3_count_36 (by decide) ?_
    refine lv_icmp_ne (tgt := 47) hx hb dX3_count_37 (by decide) (fun _ => ?_) (fun cc => absurd cc (h5))
    refine lv_iconst (v := (-1)) hx hb dX3_count_47 (by decide) ?_
    exact hex _ _ _ _ _ () hS (rfl) hP hD dX3_count_48
  · refine lv_iload_n hx hb dX3_count_9 rfl (lv_at hl 1 rfl) ?_
    refine lv_iconst (v := 4) hx hb dX3_count_10 (by decide) ?_
    refine lv_icmp_ge (tgt := 23) hx hb dX3_count_11 (by decide) (fun z2 => ?_) (fun z2 => ?_)
    · refine lv_iload_n hx hb dX3_count_23 rfl (lv_at hl 1 rfl) ?_
      refine lv_iconst (v := 4) hx hb dX3_count_24 (by decide) ?_
      refine lv_icmp_ne (tgt := 35) hx hb dX3_count_25 (by decide) (fun _ => ?_) (fun cc => absurd cc (h4))
      refine lv_iload_n hx hb dX3_count_35 rfl (lv_at hl 1 rfl) ?_
      refine lv_iconst (v := 5) hx hb dX3_count_36 (by decide) ?_
      refine lv_icmp_ne (tgt := 47) hx hb dX3_count_37 (by decide) (fun _ => ?_) (fun cc => absurd cc (h5))
      refine lv_iconst (v := (-1)) hx hb dX3_count_47 (by decide) ?_
      exact hex _ _ _ _ _ () hS (rfl) hP hD dX3_count_48
    · exact absurd hz (fun q => by rcases q with q | q; exact z1 q; exact z2 q)

set_option maxHeartbeats 4000000 in
set_option maxRecDepth 100000 in
/-- DownFramesModel(length) -/
theorem c_m_init (l : Launch) (D : va_G) (cA cB cZ : ClassId) (y : Nat) (z : Int32) : MV (S := Nat × Nat × Nat × Nat × Nat × Nat) l yX3_init wsM_init { frames := 1, cells := 6, slots := 18086, locals := 12 } [.ref y, .int z] D [(cA, .int), (cB, .byte), (cZ, .boolean)] [(y, .inr (3, [.int 0, .int 0, .null, .int 0, .null, .null, .null, .null, .null, .int 0]))] (fun _ => True) (fun u => [(y, .inr (3, [.int 0, .int (nI (clN z)), .ref (u.1), .int (nI 0), .ref (u.2.1), .ref (u.2.2.1), .ref (u.2.2.2.1), .ref (u.2.2.2.2.1), .ref (u.2.2.2.2.2), .int (nI 0)])), ((u.1), .inl (cB, 1024, .inl (fun _ => 0))), ((u.2.1), .inl (cB, 8400, .inl (fun _ => 0))), ((u.2.2.1), .inl (cZ, 8400, .inl (fun _ => 0))), ((u.2.2.2.1), .inl (cA, 2, .inl (wI (fun _ => 0)))), ((u.2.2.2.2.1), .inl (cA, 4, .inl (fun _ => 0))), ((u.2.2.2.2.2), .inl (cB, 256, .inl (fun _ => 0)))]) 6 18086 := by
  refine mt_v (by decide) rfl (Nat.le_of_ble_eq_true rfl) ?_
  intro p e s m below meth c A ls Q hx hb hts hown hml hin hN hK hA hP hD hS hl hex
  have hown : s.vm.findClass RX3 = some m.cls := hown
  have hl : lv_has ls 2 [(0, .ref y), (1, .int z)] := hl
  have iX3 : ∀ w ∈ wsX30, w ∈ wsM_init := by decide +kernel
  have laa := hts (.arrayClass .int) (by decide +kernel)
  have lab := hts (.arrayClass .byte) (by decide +kernel)
  have laz := hts (.arrayClass .boolean) (by decide +kernel)
  have lk13 := hts (.fieldLink RX3 13 "DownFramesModel" "bytes" "[B") (by decide +kernel)
  have lk16 := hts (.fieldLink RX3 16 "DownFramesModel" "begins" "[Z") (by decide +kernel)
  have lk20 := hts (.fieldLink RX3 20 "DownFramesModel" "waits" "[I") (by decide +kernel)
  have lk24 := hts (.fieldLink RX3 24 "DownFramesModel" "frames" "[I") (by decide +kernel)
  have lk27 := hts (.fieldLink RX3 27 "DownFramesModel" "frame" "[B") (by decide +kernel)
  have lk30 := hts (.fieldLink RX3 30 "DownFramesModel" "length" "I") (by decide +kernel)
  have lk7 := hts (.fieldLink RX3 7 "DownFramesModel" "tape" "[B") (by decide +kernel)
  have lo1 := hts (.methodLink RX3 1 objectInit) (by decide +kernel)
  have lo2 := hts (.instanceMethod objectInit) (by decide +kernel)
  have lo3 : (Cond.code objectInit ⟨#[0xb1]⟩ 1 none).before _ s = true := hts _ (List.mem_of_getElem? (i := 3) rfl)
  refine lv_aload_n hx hb dX3_init_0 rfl (lv_at hl 0 rfl) ?_
  refine W.objInit hx hb hown lo1 lo2 lo3 rfl (by rw [hml]; exact hl.1) rfl dX3_init_1 (Nat.le_of_ble_eq_true rfl) (Nat.le_of_ble_eq_true rfl) ?_
  refine W.eq (g2 := F0 m 4 ls []) rfl ?_
  refine lv_aload_n hx hb dX3_init_4 rfl (lv_at hl 0 rfl) ?_
  refine lv_sipush (v := 1024) hx hb dX3_init_5 (by decide +kernel) ?_
  refine tp_i (y := nI 1024) (rfl) ?_
  refine nw_p (at0 := .byte) (ft := .byte) (n := 1024) hx hb rfl lab rfl (fun _ h => h) hK 1 rfl hP hD hS hA (by decide) (by decide) (Nat.le_of_ble_eq_true rfl) (Nat.le_of_ble_eq_true rfl) dX3_init_8 (fun tp H hP hD hS => ?_)
  have hP : va_P D vwCl [(y, .inr (3, [.int 0, .int 0, .null, .int 0, .null, .null, .null, .null, .null, .int 0])), (tp, .inl (cB, 1024, .inl (fun _ => 0)))] H := hP
  have hD : va_D A [(y, .inr (3, [.int 0, .int 0, .null, .int 0, .null, .null, .null, .null, .null, .int 0])), (tp, .inl (cB, 1024, .inl (fun _ => 0)))] := hD
  refine va_putF (D := D) (ci := 3) (v := .ref tp) (ty := (.array .byte)) hx hb hts iX3 tyX3 tyX3_ok nmX3 hown hK hP hD hS 0 rfl rfl 2 (by decide) lk7 (fun _ h => h) rfl hin rfl (by decide +kernel) rfl rfl (Nat.le_of_ble_eq_true rfl) dX3_init_10 (fun H locs hP hD hS => ?_)
  have hP : va_P D vwCl [(y, .inr (3, [.int 0, .int 0, .ref tp, .int 0, .null, .null, .null, .null, .null, .int 0])), (tp, .inl (cB, 1024, .inl (fun _ => 0)))] H := hP
  have hD : va_D A [(y, .inr (3, [.int 0, .int 0, .ref tp, .int 0, .null, .null, .null, .null, .null, .int 0])), (tp, .inl (cB, 1024, .inl (fun _ => 0)))] := hD
  refine lv_aload_n hx hb dX3_init_13 rfl (lv_at hl 0 rfl) ?_
  refine lv_sipush (v := 8400) hx hb dX3_init_14 (by decide +kernel) ?_
  refine tp_i (y := nI 8400) (rfl) ?_
  refine nw_p (at0 := .byte) (ft := .byte) (n := 8400) hx hb rfl lab rfl (fun _ h => h) hK 1 rfl hP hD hS hA (by decide) (by decide) (Nat.le_of_ble_eq_true rfl) (Nat.le_of_ble_eq_true rfl) dX3_init_17 (fun bb H hP hD hS => ?_)
  have hP : va_P D vwCl [(y, .inr (3, [.int 0, .int 0, .ref tp, .int 0, .null, .null, .null, .null, .null, .int 0])), (tp, .inl (cB, 1024, .inl (fun _ => 0))), (bb, .inl (cB, 8400, .inl (fun _ => 0)))] H := hP
  have hD : va_D A [(y, .inr (3, [.int 0, .int 0, .ref tp, .int 0, .null, .null, .null, .null, .null, .int 0])), (tp, .inl (cB, 1024, .inl (fun _ => 0))), (bb, .inl (cB, 8400, .inl (fun _ => 0)))] := hD
  refine va_putF (D := D) (ci := 3) (v := .ref bb) (ty := (.array .byte)) hx hb hts iX3 tyX3 tyX3_ok nmX3 hown hK hP hD hS 0 rfl rfl 4 (by decide) lk13 (fun _ h => h) rfl hin rfl (by decide +kernel) rfl rfl (Nat.le_of_ble_eq_true rfl) dX3_init_19 (fun H locs hP hD hS => ?_)
  have hP : va_P D vwCl [(y, .inr (3, [.int 0, .int 0, .ref tp, .int 0, .ref bb, .null, .null, .null, .null, .int 0])), (tp, .inl (cB, 1024, .inl (fun _ => 0))), (bb, .inl (cB, 8400, .inl (fun _ => 0)))] H := hP
  have hD : va_D A [(y, .inr (3, [.int 0, .int 0, .ref tp, .int 0, .ref bb, .null, .null, .null, .null, .int 0])), (tp, .inl (cB, 1024, .inl (fun _ => 0))), (bb, .inl (cB, 8400, .inl (fun _ => 0)))] := hD
  refine lv_aload_n hx hb dX3_init_22 rfl (lv_at hl 0 rfl) ?_
  refine lv_sipush (v := 8400) hx hb dX3_init_23 (by decide +kernel) ?_
  refine tp_i (y := nI 8400) (rfl) ?_
  refine nw_p (at0 := .boolean) (ft := .boolean) (n := 8400) hx hb rfl laz rfl (fun _ h => h) hK 2 rfl hP hD hS hA (by decide) (by decide) (Nat.le_of_ble_eq_true rfl) (Nat.le_of_ble_eq_true rfl) dX3_init_26 (fun zz H hP hD hS => ?_)
  have hP : va_P D vwCl [(y, .inr (3, [.int 0, .int 0, .ref tp, .int 0, .ref bb, .null, .null, .null, .null, .int 0])), (tp, .inl (cB, 1024, .inl (fun _ => 0))), (bb, .inl (cB, 8400, .inl (fun _ => 0))), (zz, .inl (cZ, 8400, .inl (fun _ => 0)))] H := hP
  have hD : va_D A [(y, .inr (3, [.int 0, .int 0, .ref tp, .int 0, .ref bb, .null, .null, .null, .null, .int 0])), (tp, .inl (cB, 1024, .inl (fun _ => 0))), (bb, .inl (cB, 8400, .inl (fun _ => 0))), (zz, .inl (cZ, 8400, .inl (fun _ => 0)))] := hD
  refine va_putF (D := D) (ci := 3) (v := .ref zz) (ty := (.array .boolean)) hx hb hts iX3 tyX3 tyX3_ok nmX3 hown hK hP hD hS 0 rfl rfl 5 (by decide) lk16 (fun _ h => h) rfl hin rfl (by decide +kernel) rfl rfl (Nat.le_of_ble_eq_true rfl) dX3_init_28 (fun H locs hP hD hS => ?_)
  have hP : va_P D vwCl [(y, .inr (3, [.int 0, .int 0, .ref tp, .int 0, .ref bb, .ref zz, .null, .null, .null, .int 0])), (tp, .inl (cB, 1024, .inl (fun _ => 0))), (bb, .inl (cB, 8400, .inl (fun _ => 0))), (zz, .inl (cZ, 8400, .inl (fun _ => 0)))] H := hP
  have hD : va_D A [(y, .inr (3, [.int 0, .int 0, .ref tp, .int 0, .ref bb, .ref zz, .null, .null, .null, .int 0])), (tp, .inl (cB, 1024, .inl (fun _ => 0))), (bb, .inl (cB, 8400, .inl (fun _ => 0))), (zz, .inl (cZ, 8400, .inl (fun _ => 0)))] := hD
  refine lv_aload_n hx hb dX3_init_31 rfl (lv_at hl 0 rfl) ?_
  refine lv_iconst (v := 2) hx hb dX3_init_32 (by decide) ?_
  refine tp_i (y := nI 2) (rfl) ?_
  refine nw_p (at0 := .int) (ft := .int) (n := 2) hx hb rfl laa rfl (fun _ h => h) hK 0 rfl hP hD hS hA (by decide) (by decide) (Nat.le_of_ble_eq_true rfl) (Nat.le_of_ble_eq_true rfl) dX3_init_33 (fun wa H hP hD hS => ?_)
  have hP : va_P D vwCl [(y, .inr (3, [.int 0, .int 0, .ref tp, .int 0, .ref bb, .ref zz, .null, .null, .null, .int 0])), (tp, .inl (cB, 1024, .inl (fun _ => 0))), (bb, .inl (cB, 8400, .inl (fun _ => 0))), (zz, .inl (cZ, 8400, .inl (fun _ => 0))), (wa, .inl (cA, 2, .inl (fun _ => 0)))] H := hP
  have hD : va_D A [(y, .inr (3, [.int 0, .int 0, .ref tp, .int 0, .ref bb, .ref zz, .null, .null, .null, .int 0])), (tp, .inl (cB, 1024, .inl (fun _ => 0))), (bb, .inl (cB, 8400, .inl (fun _ => 0))), (zz, .inl (cZ, 8400, .inl (fun _ => 0))), (wa, .inl (cA, 2, .inl (fun _ => 0)))] := hD
  refine va_putF (D := D) (ci := 3) (v := .ref wa) (ty := (.array .int)) hx hb hts iX3 tyX3 tyX3_ok nmX3 hown hK hP hD hS 0 rfl rfl 6 (by decide) lk20 (fun _ h => h) rfl hin rfl (by decide +kernel) rfl rfl (Nat.le_of_ble_eq_true rfl) dX3_init_35 (fun H locs hP hD hS => ?_)
  have hP : va_P D vwCl [(y, .inr (3, [.int 0, .int 0, .ref tp, .int 0, .ref bb, .ref zz, .ref wa, .null, .null, .int 0])), (tp, .inl (cB, 1024, .inl (fun _ => 0))), (bb, .inl (cB, 8400, .inl (fun _ => 0))), (zz, .inl (cZ, 8400, .inl (fun _ => 0))), (wa, .inl (cA, 2, .inl (fun _ => 0)))] H := hP
  have hD : va_D A [(y, .inr (3, [.int 0, .int 0, .ref tp, .int 0, .ref bb, .ref zz, .ref wa, .null, .null, .int 0])), (tp, .inl (cB, 1024, .inl (fun _ => 0))), (bb, .inl (cB, 8400, .inl (fun _ => 0))), (zz, .inl (cZ, 8400, .inl (fun _ => 0))), (wa, .inl (cA, 2, .inl (fun _ => 0)))] := hD
  refine lv_aload_n hx hb dX3_init_38 rfl (lv_at hl 0 rfl) ?_
  refine lv_iconst (v := 4) hx hb dX3_init_39 (by decide) ?_
  refine tp_i (y := nI 4) (rfl) ?_
  refine nw_p (at0 := .int) (ft := .int) (n := 4) hx hb rfl laa rfl (fun _ h => h) hK 0 rfl hP hD hS hA (by decide) (by decide) (Nat.le_of_ble_eq_true rfl) (Nat.le_of_ble_eq_true rfl) dX3_init_40 (fun fs H hP hD hS => ?_)
  have hP : va_P D vwCl [(y, .inr (3, [.int 0, .int 0, .ref tp, .int 0, .ref bb, .ref zz, .ref wa, .null, .null, .int 0])), (tp, .inl (cB, 1024, .inl (fun _ => 0))), (bb, .inl (cB, 8400, .inl (fun _ => 0))), (zz, .inl (cZ, 8400, .inl (fun _ => 0))), (wa, .inl (cA, 2, .inl (fun _ => 0))), (fs, .inl (cA, 4, .inl (fun _ => 0)))] H := hP
  have hD : va_D A [(y, .inr (3, [.int 0, .int 0, .ref tp, .int 0, .ref bb, .ref zz, .ref wa, .null, .null, .int 0])), (tp, .inl (cB, 1024, .inl (fun _ => 0))), (bb, .inl (cB, 8400, .inl (fun _ => 0))), (zz, .inl (cZ, 8400, .inl (fun _ => 0))), (wa, .inl (cA, 2, .inl (fun _ => 0))), (fs, .inl (cA, 4, .inl (fun _ => 0)))] := hD
  refine va_putF (D := D) (ci := 3) (v := .ref fs) (ty := (.array .int)) hx hb hts iX3 tyX3 tyX3_ok nmX3 hown hK hP hD hS 0 rfl rfl 7 (by decide) lk24 (fun _ h => h) rfl hin rfl (by decide +kernel) rfl rfl (Nat.le_of_ble_eq_true rfl) dX3_init_42 (fun H locs hP hD hS => ?_)
  have hP : va_P D vwCl [(y, .inr (3, [.int 0, .int 0, .ref tp, .int 0, .ref bb, .ref zz, .ref wa, .ref fs, .null, .int 0])), (tp, .inl (cB, 1024, .inl (fun _ => 0))), (bb, .inl (cB, 8400, .inl (fun _ => 0))), (zz, .inl (cZ, 8400, .inl (fun _ => 0))), (wa, .inl (cA, 2, .inl (fun _ => 0))), (fs, .inl (cA, 4, .inl (fun _ => 0)))] H := hP
  have hD : va_D A [(y, .inr (3, [.int 0, .int 0, .ref tp, .int 0, .ref bb, .ref zz, .ref wa, .ref fs, .null, .int 0])), (tp, .inl (cB, 1024, .inl (fun _ => 0))), (bb, .inl (cB, 8400, .inl (fun _ => 0))), (zz, .inl (cZ, 8400, .inl (fun _ => 0))), (wa, .inl (cA, 2, .inl (fun _ => 0))), (fs, .inl (cA, 4, .inl (fun _ => 0)))] := hD
  refine lv_aload_n hx hb dX3_init_45 rfl (lv_at hl 0 rfl) ?_
  refine lv_sipush (v := 256) hx hb dX3_init_46 (by decide +kernel) ?_
  refine tp_i (y := nI 256) (rfl) ?_
  refine nw_p (at0 := .byte) (ft := .byte) (n := 256) hx hb rfl lab rfl (fun _ h => h) hK 1 rfl hP hD hS hA (by decide) (by decide) (Nat.le_of_ble_eq_true rfl) (Nat.le_of_ble_eq_true rfl) dX3_init_49 (fun fm H hP hD hS => ?_)
  have hP : va_P D vwCl [(y, .inr (3, [.int 0, .int 0, .ref tp, .int 0, .ref bb, .ref zz, .ref wa, .ref fs, .null, .int 0])), (tp, .inl (cB, 1024, .inl (fun _ => 0))), (bb, .inl (cB, 8400, .inl (fun _ => 0))), (zz, .inl (cZ, 8400, .inl (fun _ => 0))), (wa, .inl (cA, 2, .inl (fun _ => 0))), (fs, .inl (cA, 4, .inl (fun _ => 0))), (fm, .inl (cB, 256, .inl (fun _ => 0)))] H := hP
  have hD : va_D A [(y, .inr (3, [.int 0, .int 0, .ref tp, .int 0, .ref bb, .ref zz, .ref wa, .ref fs, .null, .int 0])), (tp, .inl (cB, 1024, .inl (fun _ => 0))), (bb, .inl (cB, 8400, .inl (fun _ => 0))), (zz, .inl (cZ, 8400, .inl (fun _ => 0))), (wa, .inl (cA, 2, .inl (fun _ => 0))), (fs, .inl (cA, 4, .inl (fun _ => 0))), (fm, .inl (cB, 256, .inl (fun _ => 0)))] := hD
  refine va_putF (D := D) (ci := 3) (v := .ref fm) (ty := (.array .byte)) hx hb hts iX3 tyX3 tyX3_ok nmX3 hown hK hP hD hS 0 rfl rfl 8 (by decide) lk27 (fun _ h => h) rfl hin rfl (by decide +kernel) rfl rfl (Nat.le_of_ble_eq_true rfl) dX3_init_51 (fun H locs hP hD hS => ?_)
  have hP : va_P D vwCl [(y, .inr (3, [.int 0, .int 0, .ref tp, .int 0, .ref bb, .ref zz, .ref wa, .ref fs, .ref fm, .int 0])), (tp, .inl (cB, 1024, .inl (fun _ => 0))), (bb, .inl (cB, 8400, .inl (fun _ => 0))), (zz, .inl (cZ, 8400, .inl (fun _ => 0))), (wa, .inl (cA, 2, .inl (fun _ => 0))), (fs, .inl (cA, 4, .inl (fun _ => 0))), (fm, .inl (cB, 256, .inl (fun _ => 0)))] H := hP
  have hD : va_D A [(y, .inr (3, [.int 0, .int 0, .ref tp, .int 0, .ref bb, .ref zz, .ref wa, .ref fs, .ref fm, .int 0])), (tp, .inl (cB, 1024, .inl (fun _ => 0))), (bb, .inl (cB, 8400, .inl (fun _ => 0))), (zz, .inl (cZ, 8400, .inl (fun _ => 0))), (wa, .inl (cA, 2, .inl (fun _ => 0))), (fs, .inl (cA, 4, .inl (fun _ => 0))), (fm, .inl (cB, 256, .inl (fun _ => 0)))] := hD
  refine lv_aload_n hx hb dX3_init_54 rfl (lv_at hl 0 rfl) ?_
  refine lv_iload_n hx hb dX3_init_55 rfl (lv_at hl 1 rfl) ?_
  refine lv_bipush (v := 64) hx hb dX3_init_56 (by decide +kernel) ?_
  refine lv_icmp_ge (tgt := 66) hx hb dX3_init_58 (by decide) (fun z1 => ?_) (fun z1 => ?_)
  · refine lv_iload_n hx hb dX3_init_66 rfl (lv_at hl 1 rfl) ?_
    refine lv_sipush (v := 256) hx hb dX3_init_67 (by decide +kernel) ?_
    refine lv_icmp_le (tgt := 79) hx hb dX3_init_70 (by decide) (fun z2 => ?_) (fun z2 => ?_)
    · refine lv_iload_n hx hb dX3_init_79 rfl (lv_at hl 1 rfl) ?_
      refine tp_i (y := nI (clN z)) (clI_mid z1 z2) ?_
      refine va_putF (D := D) (ci := 3) (v := .int (nI (clN z))) (ty := (.int)) hx hb hts iX3 tyX3 tyX3_ok nmX3 hown hK hP hD hS 0 rfl rfl 1 (by decide) lk30 (fun _ h => h) rfl hin rfl (by decide +kernel) rfl rfl (Nat.le_of_ble_eq_true rfl) dX3_init_80 (fun H locs hP hD hS => ?_)
      have hP : va_P D vwCl [(y, .inr (3, [.int 0, .int (nI (clN z)), .ref tp, .int 0, .ref bb, .ref zz, .ref wa, .ref fs, .ref fm, .int 0])), (tp, .inl (cB, 1024, .inl (fun _ => 0))), (bb, .inl (cB, 8400, .inl (fun _ => 0))), (zz, .inl (cZ, 8400, .inl (fun _ => 0))), (wa, .inl (cA, 2, .inl (fun _ => 0))), (fs, .inl (cA, 4, .inl (fun _ => 0))), (fm, .inl (cB, 256, .inl (fun _ => 0)))] H := hP
      have hD : va_D A [(y, .inr (3, [.int 0, .int (nI (clN z)), .ref tp, .int 0, .ref bb, .ref zz, .ref wa, .ref fs, .ref fm, .int 0])), (tp, .inl (cB, 1024, .inl (fun _ => 0))), (bb, .inl (cB, 8400, .inl (fun _ => 0))), (zz, .inl (cZ, 8400, .inl (fun _ => 0))), (wa, .inl (cA, 2, .inl (fun _ => 0))), (fs, .inl (cA, 4, .inl (fun _ => 0))), (fm, .inl (cB, 256, .inl (fun _ => 0)))] := hD
      have hP : va_P D vwCl [(y, .inr (3, [.int 0, .int (nI (clN z)), .ref tp, .int (nI 0), .ref bb, .ref zz, .ref wa, .ref fs, .ref fm, .int (nI 0)])), (tp, .inl (cB, 1024, .inl (fun _ => 0))), (bb, .inl (cB, 8400, .inl (fun _ => 0))), (zz, .inl (cZ, 8400, .inl (fun _ => 0))), (wa, .inl (cA, 2, .inl (wI (fun _ => 0)))), (fs, .inl (cA, 4, .inl (fun _ => 0))), (fm, .inl (cB, 256, .inl (fun _ => 0)))] H := hP
      have hD : va_D A [(y, .inr (3, [.int 0, .int (nI (clN z)), .ref tp, .int (nI 0), .ref bb, .ref zz, .ref wa, .ref fs, .ref fm, .int (nI 0)])), (tp, .inl (cB, 1024, .inl (fun _ => 0))), (bb, .inl (cB, 8400, .inl (fun _ => 0))), (zz, .inl (cZ, 8400, .inl (fun _ => 0))), (wa, .inl (cA, 2, .inl (wI (fun _ => 0)))), (fs, .inl (cA, 4, .inl (fun _ => 0))), (fm, .inl (cB, 256, .inl (fun _ => 0)))] := hD
      exact hex _ _ _ _ (tp, bb, zz, wa, fs, fm) hS (trivial) hP hD dX3_init_83
    · refine lv_sipush (v := 256) hx hb dX3_init_73 (by decide +kernel) ?_
      refine lv_goto (tgt := 80) hx hb dX3_init_76 (by decide) ?_
      refine tp_i (y := nI (clN z)) (clI_hi z2) ?_
      refine va_putF (D := D) (ci := 3) (v := .int (nI (clN z))) (ty := (.int)) hx hb hts iX3 tyX3 tyX3_ok nmX3 hown hK hP hD hS 0 rfl rfl 1 (by decide) lk30 (fun _ h => h) rfl hin rfl (by decide +kernel) rfl rfl (Nat.le_of_ble_eq_true rfl) dX3_init_80 (fun H locs hP hD hS => ?_)
      have hP : va_P D vwCl [(y, .inr (3, [.int 0, .int (nI (clN z)), .ref tp, .int 0, .ref bb, .ref zz, .ref wa, .ref fs, .ref fm, .int 0])), (tp, .inl (cB, 1024, .inl (fun _ => 0))), (bb, .inl (cB, 8400, .inl (fun _ => 0))), (zz, .inl (cZ, 8400, .inl (fun _ => 0))), (wa, .inl (cA, 2, .inl (fun _ => 0))), (fs, .inl (cA, 4, .inl (fun _ => 0))), (fm, .inl (cB, 256, .inl (fun _ => 0)))] H := hP
      have hD : va_D A [(y, .inr (3, [.int 0, .int (nI (clN z)), .ref tp, .int 0, .ref bb, .ref zz, .ref wa, .ref fs, .ref fm, .int 0])), (tp, .inl (cB, 1024, .inl (fun _ => 0))), (bb, .inl (cB, 8400, .inl (fun _ => 0))), (zz, .inl (cZ, 8400, .inl (fun _ => 0))), (wa, .inl (cA, 2, .inl (fun _ => 0))), (fs, .inl (cA, 4, .inl (fun _ => 0))), (fm, .inl (cB, 256, .inl (fun _ => 0)))] := hD
      have hP : va_P D vwCl [(y, .inr (3, [.int 0, .int (nI (clN z)), .ref tp, .int (nI 0), .ref bb, .ref zz, .ref wa, .ref fs, .ref fm, .int (nI 0)])), (tp, .inl (cB, 1024, .inl (fun _ => 0))), (bb, .inl (cB, 8400, .inl (fun _ => 0))), (zz, .inl (cZ, 8400, .inl (fun _ => 0))), (wa, .inl (cA, 2, .inl (wI (fun _ => 0)))), (fs, .inl (cA, 4, .inl (fun _ => 0))), (fm, .inl (cB, 256, .inl (fun _ => 0)))] H := hP
      have hD : va_D A [(y, .inr (3, [.int 0, .int (nI (clN z)), .ref tp, .int (nI 0), .ref bb, .ref zz, .ref wa, .ref fs, .ref fm, .int (nI 0)])), (tp, .inl (cB, 1024, .inl (fun _ => 0))), (bb, .inl (cB, 8400, .inl (fun _ => 0))), (zz, .inl (cZ, 8400, .inl (fun _ => 0))), (wa, .inl (cA, 2, .inl (wI (fun _ => 0)))), (fs, .inl (cA, 4, .inl (fun _ => 0))), (fm, .inl (cB, 256, .inl (fun _ => 0)))] := hD
      exact hex _ _ _ _ (tp, bb, zz, wa, fs, fm) hS (trivial) hP hD dX3_init_83
  · refine lv_bipush (v := 64) hx hb dX3_init_61 (by decide +kernel) ?_
    refine lv_goto (tgt := 80) hx hb dX3_init_63 (by decide) ?_
    refine tp_i (y := nI (clN z)) (clI_lo z1) ?_
    refine va_putF (D := D) (ci := 3) (v := .int (nI (clN z))) (ty := (.int)) hx hb hts iX3 tyX3 tyX3_ok nmX3 hown hK hP hD hS 0 rfl rfl 1 (by decide) lk30 (fun _ h => h) rfl hin rfl (by decide +kernel) rfl rfl (Nat.le_of_ble_eq_true rfl) dX3_init_80 (fun H locs hP hD hS => ?_)
    have hP : va_P D vwCl [(y, .inr (3, [.int 0, .int (nI (clN z)), .ref tp, .int 0, .ref bb, .ref zz, .ref wa, .ref fs, .ref fm, .int 0])), (tp, .inl (cB, 1024, .inl (fun _ => 0))), (bb, .inl (cB, 8400, .inl (fun _ => 0))), (zz, .inl (cZ, 8400, .inl (fun _ => 0))), (wa, .inl (cA, 2, .inl (fun _ => 0))), (fs, .inl (cA, 4, .inl (fun _ => 0))), (fm, .inl (cB, 256, .inl (fun _ => 0)))] H := hP
    have hD : va_D A [(y, .inr (3, [.int 0, .int (nI (clN z)), .ref tp, .int 0, .ref bb, .ref zz, .ref wa, .ref fs, .ref fm, .int 0])), (tp, .inl (cB, 1024, .inl (fun _ => 0))), (bb, .inl (cB, 8400, .inl (fun _ => 0))), (zz, .inl (cZ, 8400, .inl (fun _ => 0))), (wa, .inl (cA, 2, .inl (fun _ => 0))), (fs, .inl (cA, 4, .inl (fun _ => 0))), (fm, .inl (cB, 256, .inl (fun _ => 0)))] := hD
    have hP : va_P D vwCl [(y, .inr (3, [.int 0, .int (nI (clN z)), .ref tp, .int (nI 0), .ref bb, .ref zz, .ref wa, .ref fs, .ref fm, .int (nI 0)])), (tp, .inl (cB, 1024, .inl (fun _ => 0))), (bb, .inl (cB, 8400, .inl (fun _ => 0))), (zz, .inl (cZ, 8400, .inl (fun _ => 0))), (wa, .inl (cA, 2, .inl (wI (fun _ => 0)))), (fs, .inl (cA, 4, .inl (fun _ => 0))), (fm, .inl (cB, 256, .inl (fun _ => 0)))] H := hP
    have hD : va_D A [(y, .inr (3, [.int 0, .int (nI (clN z)), .ref tp, .int (nI 0), .ref bb, .ref zz, .ref wa, .ref fs, .ref fm, .int (nI 0)])), (tp, .inl (cB, 1024, .inl (fun _ => 0))), (bb, .inl (cB, 8400, .inl (fun _ => 0))), (zz, .inl (cZ, 8400, .inl (fun _ => 0))), (wa, .inl (cA, 2, .inl (wI (fun _ => 0)))), (fs, .inl (cA, 4, .inl (fun _ => 0))), (fm, .inl (cB, 256, .inl (fun _ => 0)))] := hD
    exact hex _ _ _ _ (tp, bb, zz, wa, fs, fm) hS (trivial) hP hD dX3_init_83
