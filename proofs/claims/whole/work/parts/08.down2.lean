set_option maxHeartbeats 4000000 in
set_option maxRecDepth 100000 in
/-- give, refused -/
theorem c_x_give0 (l : Launch) (D : va_G) (cA : ClassId) (x len t v c0 c1 fr : Nat) (tr tk : Nat) (tf : Nat → Int32) (w : Int64) (z : Int32) (hk : tk ≤ 1024) (hz : z < 1 ∨ 8 < z ∨ nI (1024 - tk) < z) : MI0 l yX2_give wsX2_give { frames := 1, cells := 0, slots := 0, locals := 21 } [.ref x, .long w, .int z] D [(cA, .int)] [(x, .inr (2, [.int (nI len), .ref t, .ref v, .ref c0, .ref c1, .ref fr])), (t, .inr (0, [.ref tr, .int (nI tk)])), (tr, .inl (cA, 1024, .inl tf))] 0 [(x, .inr (2, [.int (nI len), .ref t, .ref v, .ref c0, .ref c1, .ref fr])), (t, .inr (0, [.ref tr, .int (nI tk)])), (tr, .inl (cA, 1024, .inl tf))] := by
  refine mt_z (by decide) rfl (Nat.le_of_ble_eq_true rfl) (fun v u h => Or.inl h) ?_
  intro p e s m below meth c A ls Q hx hb hts hown hml hin hN hK hA hP hD hS hl hex
  have hown : s.vm.findClass RX2 = some m.cls := hown
  have hl : lv_has ls 5 [(0, .ref x), (1, .long w), (3, .int z)] := hl
  have iX2 : ∀ w ∈ wsX20, w ∈ wsX2_give := by decide +kernel
  have lk27 := hts (.fieldLink RX2 27 "DownFrames" "tape" "LDownFrames$Bytes;") (by decide +kernel)
  refine lv_iload_n hx hb dX2_give_0 rfl (lv_at hl 2 rfl) ?_
  refine lv_iconst (v := 1) hx hb dX2_give_1 (by decide) ?_
  refine lv_icmp_lt (tgt := 22) hx hb dX2_give_2 (by decide) (fun z1 => ?_) (fun z1 => ?_)
  · refine lv_iconst (v := 0) hx hb dX2_give_22 (by decide) ?_
    exact hex _ _ _ _ _ () hS (rfl) hP hD dX2_give_23
  · refine lv_iload_n hx hb dX2_give_5 rfl (lv_at hl 2 rfl) ?_
    refine lv_bipush (v := 8) hx hb dX2_give_6 (by decide +kernel) ?_
    refine lv_icmp_gt (tgt := 22) hx hb dX2_give_8 (by decide) (fun z2 => ?_) (fun z2 => ?_)
    · refine lv_iconst (v := 0) hx hb dX2_give_22 (by decide) ?_
      exact hex _ _ _ _ _ () hS (rfl) hP hD dX2_give_23
    · refine lv_iload_n hx hb dX2_give_11 rfl (lv_at hl 2 rfl) ?_
      refine lv_aload_n hx hb dX2_give_12 rfl (lv_at hl 0 rfl) ?_
      refine va_get (D := D) (ci := 2) (v := .ref t) hx hb hts iX2 hown hK hP 0 rfl rfl 1 (by decide) lk27 (fun _ h => h) rfl dX2_give_13 ?_
      refine cl0_vi ⟨hx, hb, hml, hown, hts⟩ (c_by_room l D cA t tr 1024 tf tk hk) (cwV 0 hts gX2_give_X0_room rfl rfl rfl (by decide +kernel) ⟨Nat.le_of_ble_eq_true rfl, Nat.le_of_ble_eq_true rfl⟩) (ci := 0) (q0 := 0) rfl rfl hN hK hP hD hS hA [1, 2] [0] [0, 1, 2] [(x, .inr (2, [.int (nI len), .ref t, .ref v, .ref c0, .ref c1, .ref fr]))] [(x, .inr (2, [.int (nI len), .ref t, .ref v, .ref c0, .ref c1, .ref fr])), (t, .inr (0, [.ref tr, .int (nI tk)])), (tr, .inl (cA, 1024, .inl tf))] [.int z] rfl rfl rfl rfl (by decide) rfl rfl rfl hl.1 rfl (Nat.le_of_ble_eq_true rfl) dX2_give_16 ⟨Nat.le_of_ble_eq_true rfl, Nat.le_of_ble_eq_true rfl⟩ (fun H locs hP hD hS => ?_)
      refine lv_icmp_le (tgt := 24) hx hb dX2_give_19 (by decide) (fun z3 => ?_) (fun z3 => ?_)
      · exact absurd hz (fun q => by rcases q with q | q | q; exact z1 q; exact z2 q; exact Int32.not_lt.mpr z3 q)
      · refine lv_iconst (v := 0) hx hb dX2_give_22 (by decide) ?_
        exact hex _ _ _ _ _ () hS (rfl) hP hD dX2_give_23

set_option maxHeartbeats 4000000 in
set_option maxRecDepth 100000 in
/-- give, taken -/
theorem c_x_give1 (l : Launch) (D : va_G) (cA : ClassId) (x len t v c0 c1 fr : Nat) (tr tk : Nat) (tf : Nat → Int32) (w : Int64) (j : Nat) (h1 : 1 ≤ j) (h8 : j ≤ 8) (hj : tk + j ≤ 1024) (hk : tk ≤ 1024) : MI0 l yX2_give wsX2_give { frames := 1, cells := 0, slots := 0, locals := 21 } [.ref x, .long w, .int (nI j)] D [(cA, .int)] [(x, .inr (2, [.int (nI len), .ref t, .ref v, .ref c0, .ref c1, .ref fr])), (t, .inr (0, [.ref tr, .int (nI tk)])), (tr, .inl (cA, 1024, .inl tf))] 1 [(x, .inr (2, [.int (nI len), .ref t, .ref v, .ref c0, .ref c1, .ref fr])), (t, .inr (0, [.ref tr, .int (nI (tk + j))])), (tr, .inl (cA, 1024, .inl (lwr tf tk (gvb w) j)))] := by
  refine mt_z (by decide) rfl (Nat.le_of_ble_eq_true rfl) (fun v u h => Or.inr h) ?_
  intro p e s m below meth c A ls Q hx hb hts hown hml hin hN hK hA hP hD hS hl hex
  have hown : s.vm.findClass RX2 = some m.cls := hown
  have hl : lv_has ls 5 [(0, .ref x), (1, .long w), (3, .int (nI j))] := hl
  have iX2 : ∀ w ∈ wsX20, w ∈ wsX2_give := by decide +kernel
  have lk27 := hts (.fieldLink RX2 27 "DownFrames" "tape" "LDownFrames$Bytes;") (by decide +kernel)
  refine lv_iload_n hx hb dX2_give_0 rfl (lv_at hl 2 rfl) ?_
  refine lv_iconst (v := 1) hx hb dX2_give_1 (by decide) ?_
  refine lv_icmp_lt (tgt := 22) hx hb dX2_give_2 (by decide) (fun cc => absurd cc (nI_nlt (b := 1) h1 (by omega))) (fun _ => ?_)
  refine lv_iload_n hx hb dX2_give_5 rfl (lv_at hl 2 rfl) ?_
  refine lv_bipush (v := 8) hx hb dX2_give_6 (by decide +kernel) ?_
  refine lv_icmp_gt (tgt := 22) hx hb dX2_give_8 (by decide) (fun cc => absurd cc (nI_nlt (a := 8) h8 (by decide))) (fun _ => ?_)
  refine lv_iload_n hx hb dX2_give_11 rfl (lv_at hl 2 rfl) ?_
  refine lv_aload_n hx hb dX2_give_12 rfl (lv_at hl 0 rfl) ?_
  refine va_get (D := D) (ci := 2) (v := .ref t) hx hb hts iX2 hown hK hP 0 rfl rfl 1 (by decide) lk27 (fun _ h => h) rfl dX2_give_13 ?_
  refine cl0_vi ⟨hx, hb, hml, hown, hts⟩ (c_by_room l D cA t tr 1024 tf tk hk) (cwV 0 hts gX2_give_X0_room rfl rfl rfl (by decide +kernel) ⟨Nat.le_of_ble_eq_true rfl, Nat.le_of_ble_eq_true rfl⟩) (ci := 0) (q0 := 0) rfl rfl hN hK hP hD hS hA [1, 2] [0] [0, 1, 2] [(x, .inr (2, [.int (nI len), .ref t, .ref v, .ref c0, .ref c1, .ref fr]))] [(x, .inr (2, [.int (nI len), .ref t, .ref v, .ref c0, .ref c1, .ref fr])), (t, .inr (0, [.ref tr, .int (nI tk)])), (tr, .inl (cA, 1024, .inl tf))] [.int (nI j)] rfl rfl rfl rfl (by decide) rfl rfl rfl hl.1 rfl (Nat.le_of_ble_eq_true rfl) dX2_give_16 ⟨Nat.le_of_ble_eq_true rfl, Nat.le_of_ble_eq_true rfl⟩ (fun H locs hP hD hS => ?_)
  refine lv_icmp_le (tgt := 24) hx hb dX2_give_19 (by decide) (fun _ => ?_) (fun cc => absurd (nI_le (by omega) (by omega)) cc)
  refine lv_iconst (v := 0) hx hb dX2_give_24 (by decide) ?_
  refine lv_istore (lv' := [(4, .int 0), (0, .ref x), (1, .long w), (3, .int (nI j))]) hx hb dX2_give_25 hl (by decide) rfl (fun ls hl => ?_)
  have loop : ∀ (d i : Nat) (H : Heap) (locs : List Loc) (ls : Array Slot), i + d = j → va_P D vwCl [(x, .inr (2, [.int (nI len), .ref t, .ref v, .ref c0, .ref c1, .ref fr])), (t, .inr (0, [.ref tr, .int (nI (tk + i))])), (tr, .inl (cA, 1024, .inl (lwr tf tk (gvb w) i)))] H → va_D A [(x, .inr (2, [.int (nI len), .ref t, .ref v, .ref c0, .ref c1, .ref fr])), (t, .inr (0, [.ref tr, .int (nI (tk + i))])), (tr, .inl (cA, 1024, .inl (lwr tf tk (gvb w) i)))] → va_S A s.heap H locs → lv_has ls 5 [(4, .int (nI i)), (0, .ref x), (1, .long w), (3, .int (nI j))] → W p l e ({ frames := 1, cells := 0, slots := 0, locals := 21 } : Room) s m ([.ref x, .long w, .int (nI j)] : List Value).toArray below meth c H locs 0 0 Q (F0 m 27 ls []) := by
    intro d
    induction d with
    | zero =>
      intro i H locs ls hi hP hD hS hl
      have hi : i = j := hi
      subst hi
      refine lv_iload hx hb dX2_give_27 (lv_at hl 0 rfl) ?_
      refine lv_iload_n hx hb dX2_give_29 rfl (lv_at hl 3 rfl) ?_
      refine lv_icmp_ge (tgt := 57) hx hb dX2_give_30 (by decide) (fun _ => ?_) (fun cc => absurd (nI_le (Nat.le_refl _) (by omega)) cc)
      refine lv_iconst (v := 1) hx hb dX2_give_57 (by decide) ?_
      exact hex _ _ _ _ _ () hS (rfl) hP hD dX2_give_58
    | succ d ih =>
      intro i H locs ls hi hP hD hS hl
      refine lv_iload hx hb dX2_give_27 (lv_at hl 0 rfl) ?_
      refine lv_iload_n hx hb dX2_give_29 rfl (lv_at hl 3 rfl) ?_
      refine lv_icmp_ge (tgt := 57) hx hb dX2_give_30 (by decide) (fun cc => absurd cc (nI_ge (by omega) (by omega))) (fun _ => ?_)
      refine lv_aload_n hx hb dX2_give_33 rfl (lv_at hl 1 rfl) ?_
      refine va_get (D := D) (ci := 2) (v := .ref t) hx hb hts iX2 hown hK hP 0 rfl rfl 1 (by decide) lk27 (fun _ h => h) rfl dX2_give_34 ?_
      refine lv_lload_n hx hb dX2_give_37 rfl (lv_at hl 2 rfl) ?_
      refine lv_bipush (v := 56) hx hb dX2_give_38 (by decide +kernel) ?_
      refine lv_bipush (v := 8) hx hb dX2_give_40 (by decide +kernel) ?_
      refine lv_iload hx hb dX2_give_42 (lv_at hl 0 rfl) ?_
      refine lv_imul hx hb dX2_give_44 ?_
      refine lv_isub hx hb dX2_give_45 ?_
      refine lv_lushr (v := lsh w (56 - (8 * (nI i)))) hx hb dX2_give_46 rfl ?_
      refine lv_l2i (v := ((lsh w (56 - (8 * (nI i))))).toInt32) hx hb dX2_give_47 rfl ?_
      refine cl0_vv ⟨hx, hb, hml, hown, hts⟩ (c_by_put8 l D cA t tr 1024 (lwr tf tk (gvb w) i) (tk + i) ((lsh w (56 - (8 * (nI i)))).toInt32) (by omega) (by decide)) (cwV 1 hts gX2_give_X0_put8 rfl rfl rfl (by decide +kernel) ⟨Nat.le_of_ble_eq_true rfl, Nat.le_of_ble_eq_true rfl⟩) (ci := 0) (q0 := 0) rfl rfl hN hK hP hD hS hA [1, 2] [0] [0, 1, 2] [(x, .inr (2, [.int (nI len), .ref t, .ref v, .ref c0, .ref c1, .ref fr]))] [(x, .inr (2, [.int (nI len), .ref t, .ref v, .ref c0, .ref c1, .ref fr])), (t, .inr (0, [.ref tr, .int (nI (tk + i + 1))])), (tr, .inl (cA, 1024, .inl (upd (lwr tf tk (gvb w) i) (tk + i) (((lsh w (56 - (8 * (nI i)))).toInt32) &&& 255))))] [] rfl rfl rfl rfl (by decide) rfl rfl rfl hl.1 rfl (Nat.le_of_ble_eq_true rfl) dX2_give_48 ⟨Nat.le_of_ble_eq_true rfl, Nat.le_of_ble_eq_true rfl⟩ (fun H locs hP hD hS => ?_)
      refine lv_iinc (v := nI (i + 1)) (lv' := [(4, .int (nI (i + 1))), (0, .ref x), (1, .long w), (3, .int (nI j))]) hx hb dX2_give_51 hl (k := 0) rfl (nI_1 _) (by decide) rfl (fun ls hl => ?_)
      refine lv_goto (tgt := 27) hx hb dX2_give_54 (by decide) ?_
      exact ih (i + 1) H locs ls (by omega) hP hD hS (lv_sub hl [0, 1, 2, 3] rfl)
  exact loop j 0 _ _ ls (by omega) hP hD hS (lv_sub hl [0, 1, 2, 3] rfl)

set_option maxHeartbeats 4000000 in
set_option maxRecDepth 100000 in
/-- send, taken -/
theorem c_x_send0 (l : Launch) (D : va_G) (cA : ClassId) (x len t v c0 c1 fr : Nat) (tr tk : Nat) (tf : Nat → Int32) (r0 h0 k0 : Nat) (f0 : Nat → Int32) (hk : tk ≤ 1024) (hc : k0 ≤ 4096) (hh : h0 < 4096) (hp : hpk tf tk = 1) (hs : k0 + tk ≤ 4096) : MI0 l yX2_send wsX2_send { frames := 2, cells := 0, slots := 0, locals := 43 } [.ref x, .int 0] D [(cA, .int)] [(x, .inr (2, [.int (nI len), .ref t, .ref v, .ref c0, .ref c1, .ref fr])), (t, .inr (0, [.ref tr, .int (nI tk)])), (tr, .inl (cA, 1024, .inl tf)), (c0, .inr (1, [.ref r0, .int (nI h0), .int (nI k0)])), (r0, .inl (cA, 4096, .inl f0))] (nI (k0 + tk)) [(x, .inr (2, [.int (nI len), .ref t, .ref v, .ref c0, .ref c1, .ref fr])), (t, .inr (0, [.ref tr, .int (nI 0)])), (tr, .inl (cA, 1024, .inl tf)), (c0, .inr (1, [.ref r0, .int (nI h0), .int (nI (k0 + tk))])), (r0, .inl (cA, 4096, .inl (rwr f0 (h0 + k0) (mkd tf) tk)))] := by
  refine mt_i (by decide) rfl (Nat.le_of_ble_eq_true rfl) ?_
  intro p e s m below meth c A ls Q hx hb hts hown hml hin hN hK hA hP hD hS hl hex
  have hown : s.vm.findClass RX2 = some m.cls := hown
  have hl : lv_has ls 4 [(0, .ref x), (1, .int 0)] := hl
  have iX0 : ∀ w ∈ wsX00, w ∈ wsX2_send := by decide +kernel
  have iX1 : ∀ w ∈ wsX10, w ∈ wsX2_send := by decide +kernel
  have iX2 : ∀ w ∈ wsX20, w ∈ wsX2_send := by decide +kernel
  have lk27 := hts (.fieldLink RX2 27 "DownFrames" "tape" "LDownFrames$Bytes;") (by decide +kernel)
  have lk63 : (Cond.fieldLinkNest RX2 63 "DownFrames$Bytes" "size" "I" "DownFrames").before ([.ref x, .int 0] : List Value).toArray s = true := va_Nw.use rfl hN.1
  have lk71 : (Cond.fieldLinkNest RX2 71 "DownFrames$Channel" "size" "I" "DownFrames").before ([.ref x, .int 0] : List Value).toArray s = true := va_Nw.use rfl hN.2.1
  refine lv_iconst (v := (-1)) hx hb dX2_send_0 (by decide) ?_
  refine lv_istore_n (lv' := [(2, .int (-1)), (0, .ref x), (1, .int 0)]) hx hb dX2_send_1 rfl hl (by decide) rfl (fun ls hl => ?_)
  refine lv_aload_n hx hb dX2_send_2 rfl (lv_at hl 1 rfl) ?_
  refine lv_iload_n hx hb dX2_send_3 rfl (lv_at hl 2 rfl) ?_
  refine cl0_vR ⟨hx, hb, hml, hown, hts⟩ (c_x_of0 l D cA x len t v c0 c1 fr) (cwV 1 hts gX2_send_X2_channelOf rfl rfl rfl (by decide +kernel) ⟨Nat.le_of_ble_eq_true rfl, Nat.le_of_ble_eq_true rfl⟩) (ci := 2) (q0 := 0) rfl rfl hN hK hP hD hS hA [0] [1, 2, 3, 4] [4, 0, 1, 2, 3] [(t, .inr (0, [.ref tr, .int (nI tk)])), (tr, .inl (cA, 1024, .inl tf)), (c0, .inr (1, [.ref r0, .int (nI h0), .int (nI k0)])), (r0, .inl (cA, 4096, .inl f0))] [(x, .inr (2, [.int (nI len), .ref t, .ref v, .ref c0, .ref c1, .ref fr])), (t, .inr (0, [.ref tr, .int (nI tk)])), (tr, .inl (cA, 1024, .inl tf)), (c0, .inr (1, [.ref r0, .int (nI h0), .int (nI k0)])), (r0, .inl (cA, 4096, .inl f0))] [] rfl rfl rfl rfl (by decide) rfl rfl rfl hl.1 rfl (Nat.le_of_ble_eq_true rfl) dX2_send_4 ⟨Nat.le_of_ble_eq_true rfl, Nat.le_of_ble_eq_true rfl⟩ (fun H locs hP hD hS => ?_)
  refine lv_astore_n (lv' := [(3, .ref c0), (2, .int (-1)), (0, .ref x), (1, .int 0)]) hx hb dX2_send_7 rfl hl (by decide) rfl (fun ls hl => ?_)
  refine lv_aload_n hx hb dX2_send_8 rfl (lv_at hl 0 rfl) ?_
  refine lv_ifnull hx hb dX2_send_9 ?_
  refine lv_aload_n hx hb dX2_send_12 rfl (lv_at hl 2 rfl) ?_
  refine va_get (D := D) (ci := 2) (v := .ref t) hx hb hts iX2 hown hK hP 0 rfl rfl 1 (by decide) lk27 (fun _ h => h) rfl dX2_send_13 ?_
  refine cl0_si ⟨hx, hb, hml, hown, hts⟩ (c_x_holds l D cA t tr 1024 tf tk hk (by decide)) (va_cwS 1 hts gX2_send_X2_holdsPacket rfl rfl rfl (by decide +kernel) ⟨Nat.le_of_ble_eq_true rfl, Nat.le_of_ble_eq_true rfl⟩) hN hK hP hD hS hA [1, 2] [0, 3, 4] [0, 3, 4, 1, 2] [(x, .inr (2, [.int (nI len), .ref t, .ref v, .ref c0, .ref c1, .ref fr])), (c0, .inr (1, [.ref r0, .int (nI h0), .int (nI k0)])), (r0, .inl (cA, 4096, .inl f0))] [(x, .inr (2, [.int (nI len), .ref t, .ref v, .ref c0, .ref c1, .ref fr])), (t, .inr (0, [.ref tr, .int (nI tk)])), (tr, .inl (cA, 1024, .inl tf)), (c0, .inr (1, [.ref r0, .int (nI h0), .int (nI k0)])), (r0, .inl (cA, 4096, .inl f0))] [] rfl rfl rfl rfl (by decide) rfl rfl rfl hl.1 rfl (Nat.le_of_ble_eq_true rfl) dX2_send_16 ⟨Nat.le_of_ble_eq_true rfl, Nat.le_of_ble_eq_true rfl⟩ (fun H locs hP hD hS => ?_)
  refine lv_if_eq (tgt := 49) hx hb dX2_send_19 (by decide) (fun cc => absurd cc (by rw [hp]; decide)) (fun _ => ?_)
  refine lv_aload_n hx hb dX2_send_22 rfl (lv_at hl 2 rfl) ?_
  refine va_get (D := D) (ci := 2) (v := .ref t) hx hb hts iX2 hown hK hP 0 rfl rfl 1 (by decide) lk27 (fun _ h => h) rfl dX2_send_23 ?_
  refine va_getN (D := D) (ci := 0) (v := .int (nI tk)) hx hb hts iX0 hown hK hP 1 rfl rfl 1 (by decide) lk63 (fun _ h => h) rfl dX2_send_26 ?_
  refine lv_aload_n hx hb dX2_send_29 rfl (lv_at hl 0 rfl) ?_
  refine cl0_vi ⟨hx, hb, hml, hown, hts⟩ (c_ch_room l D cA c0 r0 f0 h0 k0 hc) (cwV 0 hts gX2_send_X1_room rfl rfl rfl (by decide +kernel) ⟨Nat.le_of_ble_eq_true rfl, Nat.le_of_ble_eq_true rfl⟩) (ci := 1) (q0 := 0) rfl rfl hN hK hP hD hS hA [3, 4] [0, 1, 2] [0, 1, 2, 3, 4] [(x, .inr (2, [.int (nI len), .ref t, .ref v, .ref c0, .ref c1, .ref fr])), (t, .inr (0, [.ref tr, .int (nI tk)])), (tr, .inl (cA, 1024, .inl tf))] [(x, .inr (2, [.int (nI len), .ref t, .ref v, .ref c0, .ref c1, .ref fr])), (t, .inr (0, [.ref tr, .int (nI tk)])), (tr, .inl (cA, 1024, .inl tf)), (c0, .inr (1, [.ref r0, .int (nI h0), .int (nI k0)])), (r0, .inl (cA, 4096, .inl f0))] [.int (nI tk)] rfl rfl rfl rfl (by decide) rfl rfl rfl hl.1 rfl (Nat.le_of_ble_eq_true rfl) dX2_send_30 ⟨Nat.le_of_ble_eq_true rfl, Nat.le_of_ble_eq_true rfl⟩ (fun H locs hP hD hS => ?_)
  refine lv_icmp_gt (tgt := 49) hx hb dX2_send_33 (by decide) (fun cc => absurd cc (nI_nlt (by omega) (by omega))) (fun _ => ?_)
  refine lv_aload_n hx hb dX2_send_36 rfl (lv_at hl 0 rfl) ?_
  refine lv_aload_n hx hb dX2_send_37 rfl (lv_at hl 2 rfl) ?_
  refine va_get (D := D) (ci := 2) (v := .ref t) hx hb hts iX2 hown hK hP 0 rfl rfl 1 (by decide) lk27 (fun _ h => h) rfl dX2_send_38 ?_
  refine cl0_vv ⟨hx, hb, hml, hown, hts⟩ (c_ch_addPacket l D cA c0 r0 f0 h0 k0 t tr 1024 tf tk hh (by omega) hk (by decide)) (cwV 1 hts gX2_send_X1_addPacket rfl rfl rfl (by decide +kernel) ⟨Nat.le_of_ble_eq_true rfl, Nat.le_of_ble_eq_true rfl⟩) (ci := 1) (q0 := 0) rfl rfl hN hK hP hD hS hA [3, 4, 1, 2] [0] [0, 3, 4, 1, 2] [(x, .inr (2, [.int (nI len), .ref t, .ref v, .ref c0, .ref c1, .ref fr]))] [(x, .inr (2, [.int (nI len), .ref t, .ref v, .ref c0, .ref c1, .ref fr])), (t, .inr (0, [.ref tr, .int (nI tk)])), (tr, .inl (cA, 1024, .inl tf)), (c0, .inr (1, [.ref r0, .int (nI h0), .int (nI (k0 + tk))])), (r0, .inl (cA, 4096, .inl (rwr f0 (h0 + k0) (mkd tf) tk)))] [] rfl rfl rfl rfl (by decide) rfl rfl rfl hl.1 rfl (Nat.le_of_ble_eq_true rfl) dX2_send_41 ⟨Nat.le_of_ble_eq_true rfl, Nat.le_of_ble_eq_true rfl⟩ (fun H locs hP hD hS => ?_)
  refine lv_aload_n hx hb dX2_send_44 rfl (lv_at hl 0 rfl) ?_
  refine va_getN (D := D) (ci := 1) (v := .int (nI (k0 + tk))) hx hb hts iX1 hown hK hP 3 rfl rfl 2 (by decide) lk71 (fun _ h => h) rfl dX2_send_45 ?_
  refine lv_istore_n (lv' := [(2, .int (nI (k0 + tk))), (3, .ref c0), (0, .ref x), (1, .int 0)]) hx hb dX2_send_48 rfl hl (by decide) rfl (fun ls hl => ?_)
  refine lv_aload_n hx hb dX2_send_49 rfl (lv_at hl 2 rfl) ?_
  refine va_get (D := D) (ci := 2) (v := .ref t) hx hb hts iX2 hown hK hP 0 rfl rfl 1 (by decide) lk27 (fun _ h => h) rfl dX2_send_50 ?_
  refine cl0_vv ⟨hx, hb, hml, hown, hts⟩ (c_by_clear l D cA t tr 1024 tf tk) (cwV 0 hts gX2_send_X0_clear rfl rfl rfl (by decide +kernel) ⟨Nat.le_of_ble_eq_true rfl, Nat.le_of_ble_eq_true rfl⟩) (ci := 0) (q0 := 0) rfl rfl hN hK hP hD hS hA [1, 2] [0, 3, 4] [0, 3, 4, 1, 2] [(x, .inr (2, [.int (nI len), .ref t, .ref v, .ref c0, .ref c1, .ref fr])), (c0, .inr (1, [.ref r0, .int (nI h0), .int (nI (k0 + tk))])), (r0, .inl (cA, 4096, .inl (rwr f0 (h0 + k0) (mkd tf) tk)))] [(x, .inr (2, [.int (nI len), .ref t, .ref v, .ref c0, .ref c1, .ref fr])), (t, .inr (0, [.ref tr, .int (nI 0)])), (tr, .inl (cA, 1024, .inl tf)), (c0, .inr (1, [.ref r0, .int (nI h0), .int (nI (k0 + tk))])), (r0, .inl (cA, 4096, .inl (rwr f0 (h0 + k0) (mkd tf) tk)))] [] rfl rfl rfl rfl (by decide) rfl rfl rfl hl.1 rfl (Nat.le_of_ble_eq_true rfl) dX2_send_53 ⟨Nat.le_of_ble_eq_true rfl, Nat.le_of_ble_eq_true rfl⟩ (fun H locs hP hD hS => ?_)
  refine lv_iload_n hx hb dX2_send_56 rfl (lv_at hl 0 rfl) ?_
  exact hex _ _ _ _ _ () hS (rfl) hP hD dX2_send_57

set_option maxHeartbeats 4000000 in
set_option maxRecDepth 100000 in
/-- send, refused -/
theorem c_x_sendB0 (l : Launch) (D : va_G) (cA : ClassId) (x len t v c0 c1 fr : Nat) (tr tk : Nat) (tf : Nat → Int32) (r0 h0 k0 : Nat) (f0 : Nat → Int32) (hk : tk ≤ 1024) (hc : k0 ≤ 4096) (hh : h0 < 4096) (hs : hpk tf tk = 0 ∨ 4096 < k0 + tk) : MI0 l yX2_send wsX2_send { frames := 2, cells := 0, slots := 0, locals := 43 } [.ref x, .int 0] D [(cA, .int)] [(x, .inr (2, [.int (nI len), .ref t, .ref v, .ref c0, .ref c1, .ref fr])), (t, .inr (0, [.ref tr, .int (nI tk)])), (tr, .inl (cA, 1024, .inl tf)), (c0, .inr (1, [.ref r0, .int (nI h0), .int (nI k0)])), (r0, .inl (cA, 4096, .inl f0))] (-1) [(x, .inr (2, [.int (nI len), .ref t, .ref v, .ref c0, .ref c1, .ref fr])), (t, .inr (0, [.ref tr, .int (nI 0)])), (tr, .inl (cA, 1024, .inl tf)), (c0, .inr (1, [.ref r0, .int (nI h0), .int (nI k0)])), (r0, .inl (cA, 4096, .inl f0))] := by
  refine mt_i (by decide) rfl (Nat.le_of_ble_eq_true rfl) ?_
  intro p e s m below meth c A ls Q hx hb hts hown hml hin hN hK hA hP hD hS hl hex
  have hown : s.vm.findClass RX2 = some m.cls := hown
  have hl : lv_has ls 4 [(0, .ref x), (1, .int 0)] := hl
  have iX0 : ∀ w ∈ wsX00, w ∈ wsX2_send := by decide +kernel
  have iX2 : ∀ w ∈ wsX20, w ∈ wsX2_send := by decide +kernel
  have lk27 := hts (.fieldLink RX2 27 "DownFrames" "tape" "LDownFrames$Bytes;") (by decide +kernel)
  have lk63 : (Cond.fieldLinkNest RX2 63 "DownFrames$Bytes" "size" "I" "DownFrames").before ([.ref x, .int 0] : List Value).toArray s = true := va_Nw.use rfl hN.1
  refine lv_iconst (v := (-1)) hx hb dX2_send_0 (by decide) ?_
  refine lv_istore_n (lv' := [(2, .int (-1)), (0, .ref x), (1, .int 0)]) hx hb dX2_send_1 rfl hl (by decide) rfl (fun ls hl => ?_)
  refine lv_aload_n hx hb dX2_send_2 rfl (lv_at hl 1 rfl) ?_
  refine lv_iload_n hx hb dX2_send_3 rfl (lv_at hl 2 rfl) ?_
  refine cl0_vR ⟨hx, hb, hml, hown, hts⟩ (c_x_of0 l D cA x len t v c0 c1 fr) (cwV 1 hts gX2_send_X2_channelOf rfl rfl rfl (by decide +kernel) ⟨Nat.le_of_ble_eq_true rfl, Nat.le_of_ble_eq_true rfl⟩) (ci := 2) (q0 := 0) rfl rfl hN hK hP hD hS hA [0] [1, 2, 3, 4] [4, 0, 1, 2, 3] [(t, .inr (0, [.ref tr, .int (nI tk)])), (tr, .inl (cA, 1024, .inl tf)), (c0, .inr (1, [.ref r0, .int (nI h0), .int (nI k0)])), (r0, .inl (cA, 4096, .inl f0))] [(x, .inr (2, [.int (nI len), .ref t, .ref v, .ref c0, .ref c1, .ref fr])), (t, .inr (0, [.ref tr, .int (nI tk)])), (tr, .inl (cA, 1024, .inl tf)), (c0, .inr (1, [.ref r0, .int (nI h0), .int (nI k0)])), (r0, .inl (cA, 4096, .inl f0))] [] rfl rfl rfl rfl (by decide) rfl rfl rfl hl.1 rfl (Nat.le_of_ble_eq_true rfl) dX2_send_4 ⟨Nat.le_of_ble_eq_true rfl, Nat.le_of_ble_eq_true rfl⟩ (fun H locs hP hD hS => ?_)
  refine lv_astore_n (lv' := [(3, .ref c0), (2, .int (-1)), (0, .ref x), (1, .int 0)]) hx hb dX2_send_7 rfl hl (by decide) rfl (fun ls hl => ?_)
  refine lv_aload_n hx hb dX2_send_8 rfl (lv_at hl 0 rfl) ?_
  refine lv_ifnull hx hb dX2_send_9 ?_
  refine lv_aload_n hx hb dX2_send_12 rfl (lv_at hl 2 rfl) ?_
  refine va_get (D := D) (ci := 2) (v := .ref t) hx hb hts iX2 hown hK hP 0 rfl rfl 1 (by decide) lk27 (fun _ h => h) rfl dX2_send_13 ?_
  refine cl0_si ⟨hx, hb, hml, hown, hts⟩ (c_x_holds l D cA t tr 1024 tf tk hk (by decide)) (va_cwS 1 hts gX2_send_X2_holdsPacket rfl rfl rfl (by decide +kernel) ⟨Nat.le_of_ble_eq_true rfl, Nat.le_of_ble_eq_true rfl⟩) hN hK hP hD hS hA [1, 2] [0, 3, 4] [0, 3, 4, 1, 2] [(x, .inr (2, [.int (nI len), .ref t, .ref v, .ref c0, .ref c1, .ref fr])), (c0, .inr (1, [.ref r0, .int (nI h0), .int (nI k0)])), (r0, .inl (cA, 4096, .inl f0))] [(x, .inr (2, [.int (nI len), .ref t, .ref v, .ref c0, .ref c1, .ref fr])), (t, .inr (0, [.ref tr, .int (nI tk)])), (tr, .inl (cA, 1024, .inl tf)), (c0, .inr (1, [.ref r0, .int (nI h0), .int (nI k0)])), (r0, .inl (cA, 4096, .inl f0))] [] rfl rfl rfl rfl (by decide) rfl rfl rfl hl.1 rfl (Nat.le_of_ble_eq_true rfl) dX2_send_16 ⟨Nat.le_of_ble_eq_true rfl, Nat.le_of_ble_eq_true rfl⟩ (fun H locs hP hD hS => ?_)
  refine lv_if_eq (tgt := 49) hx hb dX2_send_19 (by decide) (fun z1 => ?_) (fun z1 => ?_)
  · refine lv_aload_n hx hb dX2_send_49 rfl (lv_at hl 2 rfl) ?_
    refine va_get (D := D) (ci := 2) (v := .ref t) hx hb hts iX2 hown hK hP 0 rfl rfl 1 (by decide) lk27 (fun _ h => h) rfl dX2_send_50 ?_
    refine cl0_vv ⟨hx, hb, hml, hown, hts⟩ (c_by_clear l D cA t tr 1024 tf tk) (cwV 0 hts gX2_send_X0_clear rfl rfl rfl (by decide +kernel) ⟨Nat.le_of_ble_eq_true rfl, Nat.le_of_ble_eq_true rfl⟩) (ci := 0) (q0 := 0) rfl rfl hN hK hP hD hS hA [1, 2] [0, 3, 4] [0, 3, 4, 1, 2] [(x, .inr (2, [.int (nI len), .ref t, .ref v, .ref c0, .ref c1, .ref fr])), (c0, .inr (1, [.ref r0, .int (nI h0), .int (nI k0)])), (r0, .inl (cA, 4096, .inl f0))] [(x, .inr (2, [.int (nI len), .ref t, .ref v, .ref c0, .ref c1, .ref fr])), (t, .inr (0, [.ref tr, .int (nI 0)])), (tr, .inl (cA, 1024, .inl tf)), (c0, .inr (1, [.ref r0, .int (nI h0), .int (nI k0)])), (r0, .inl (cA, 4096, .inl f0))] [] rfl rfl rfl rfl (by decide) rfl rfl rfl hl.1 rfl (Nat.le_of_ble_eq_true rfl) dX2_send_53 ⟨Nat.le_of_ble_eq_true rfl, Nat.le_of_ble_eq_true rfl⟩ (fun H locs hP hD hS => ?_)
    refine lv_iload_n hx hb dX2_send_56 rfl (lv_at hl 1 rfl) ?_
    exact hex _ _ _ _ _ () hS (rfl) hP hD dX2_send_57
  · refine lv_aload_n hx hb dX2_send_22 rfl (lv_at hl 2 rfl) ?_
    refine va_get (D := D) (ci := 2) (v := .ref t) hx hb hts iX2 hown hK hP 0 rfl rfl 1 (by decide) lk27 (fun _ h => h) rfl dX2_send_23 ?_
    refine va_getN (D := D) (ci := 0) (v := .int (nI tk)) hx hb hts iX0 hown hK hP 1 rfl rfl 1 (by decide) lk63 (fun _ h => h) rfl dX2_send_26 ?_
    refine lv_aload_n hx hb dX2_send_29 rfl (lv_at hl 0 rfl) ?_
    refine cl0_vi ⟨hx, hb, hml, hown, hts⟩ (c_ch_room l D cA c0 r0 f0 h0 k0 hc) (cwV 0 hts gX2_send_X1_room rfl rfl rfl (by decide +kernel) ⟨Nat.le_of_ble_eq_true rfl, Nat.le_of_ble_eq_true rfl⟩) (ci := 1) (q0 := 0) rfl rfl hN hK hP hD hS hA [3, 4] [0, 1, 2] [0, 1, 2, 3, 4] [(x, .inr (2, [.int (nI len), .ref t, .ref v, .ref c0, .ref c1, .ref fr])), (t, .inr (0, [.ref tr, .int (nI tk)])), (tr, .inl (cA, 1024, .inl tf))] [(x, .inr (2, [.int (nI len), .ref t, .ref v, .ref c0, .ref c1, .ref fr])), (t, .inr (0, [.ref tr, .int (nI tk)])), (tr, .inl (cA, 1024, .inl tf)), (c0, .inr (1, [.ref r0, .int (nI h0), .int (nI k0)])), (r0, .inl (cA, 4096, .inl f0))] [.int (nI tk)] rfl rfl rfl rfl (by decide) rfl rfl rfl hl.1 rfl (Nat.le_of_ble_eq_true rfl) dX2_send_30 ⟨Nat.le_of_ble_eq_true rfl, Nat.le_of_ble_eq_true rfl⟩ (fun H locs hP hD hS => ?_)
    refine lv_icmp_gt (tgt := 49) hx hb dX2_send_33 (by decide) (fun z2 => ?_) (fun z2 => ?_)
    · refine lv_aload_n hx hb dX2_send_49 rfl (lv_at hl 2 rfl) ?_
      refine va_get (D := D) (ci := 2) (v := .ref t) hx hb hts iX2 hown hK hP 0 rfl rfl 1 (by decide) lk27 (fun _ h => h) rfl dX2_send_50 ?_
      refine cl0_vv ⟨hx, hb, hml, hown, hts⟩ (c_by_clear l D cA t tr 1024 tf tk) (cwV 0 hts gX2_send_X0_clear rfl rfl rfl (by decide +kernel) ⟨Nat.le_of_ble_eq_true rfl, Nat.le_of_ble_eq_true rfl⟩) (ci := 0) (q0 := 0) rfl rfl hN hK hP hD hS hA [1, 2] [0, 3, 4] [0, 3, 4, 1, 2] [(x, .inr (2, [.int (nI len), .ref t, .ref v, .ref c0, .ref c1, .ref fr])), (c0, .inr (1, [.ref r0, .int (nI h0), .int (nI k0)])), (r0, .inl (cA, 4096, .inl f0))] [(x, .inr (2, [.int (nI len), .ref t, .ref v, .ref c0, .ref c1, .ref fr])), (t, .inr (0, [.ref tr, .int (nI 0)])), (tr, .inl (cA, 1024, .inl tf)), (c0, .inr (1, [.ref r0, .int (nI h0), .int (nI k0)])), (r0, .inl (cA, 4096, .inl f0))] [] rfl rfl rfl rfl (by decide) rfl rfl rfl hl.1 rfl (Nat.le_of_ble_eq_true rfl) dX2_send_53 ⟨Nat.le_of_ble_eq_true rfl, Nat.le_of_ble_eq_true rfl⟩ (fun H locs hP hD hS => ?_)
      refine lv_iload_n hx hb dX2_send_56 rfl (lv_at hl 1 rfl) ?_
      exact hex _ _ _ _ _ () hS (rfl) hP hD dX2_send_57
    · exact absurd hs (fun q => by rcases q with q | q; exact z1 q; exact z2 (nI_lt (by omega) (by omega)))

set_option maxHeartbeats 4000000 in
set_option maxRecDepth 100000 in
/-- send, taken -/
theorem c_x_send1 (l : Launch) (D : va_G) (cA : ClassId) (x len t v c0 c1 fr : Nat) (tr tk : Nat) (tf : Nat → Int32) (r1 h1 k1 : Nat) (f1 : Nat → Int32) (hk : tk ≤ 1024) (hc : k1 ≤ 4096) (hh : h1 < 4096) (hp : hpk tf tk = 1) (hs : k1 + tk ≤ 4096) : MI0 l yX2_send wsX2_send { frames := 2, cells := 0, slots := 0, locals := 43 } [.ref x, .int 1] D [(cA, .int)] [(x, .inr (2, [.int (nI len), .ref t, .ref v, .ref c0, .ref c1, .ref fr])), (t, .inr (0, [.ref tr, .int (nI tk)])), (tr, .inl (cA, 1024, .inl tf)), (c1, .inr (1, [.ref r1, .int (nI h1), .int (nI k1)])), (r1, .inl (cA, 4096, .inl f1))] (nI (k1 + tk)) [(x, .inr (2, [.int (nI len), .ref t, .ref v, .ref c0, .ref c1, .ref fr])), (t, .inr (0, [.ref tr, .int (nI 0)])), (tr, .inl (cA, 1024, .inl tf)), (c1, .inr (1, [.ref r1, .int (nI h1), .int (nI (k1 + tk))])), (r1, .inl (cA, 4096, .inl (rwr f1 (h1 + k1) (mkd tf) tk)))] := by
  refine mt_i (by decide) rfl (Nat.le_of_ble_eq_true rfl) ?_
  intro p e s m below meth c A ls Q hx hb hts hown hml hin hN hK hA hP hD hS hl hex
  have hown : s.vm.findClass RX2 = some m.cls := hown
  have hl : lv_has ls 4 [(0, .ref x), (1, .int 1)] := hl
  have iX0 : ∀ w ∈ wsX00, w ∈ wsX2_send := by decide +kernel
  have iX1 : ∀ w ∈ wsX10, w ∈ wsX2_send := by decide +kernel
  have iX2 : ∀ w ∈ wsX20, w ∈ wsX2_send := by decide +kernel
  have lk27 := hts (.fieldLink RX2 27 "DownFrames" "tape" "LDownFrames$Bytes;") (by decide +kernel)
  have lk63 : (Cond.fieldLinkNest RX2 63 "DownFrames$Bytes" "size" "I" "DownFrames").before ([.ref x, .int 1] : List Value).toArray s = true := va_Nw.use rfl hN.1
  have lk71 : (Cond.fieldLinkNest RX2 71 "DownFrames$Channel" "size" "I" "DownFrames").before ([.ref x, .int 1] : List Value).toArray s = true := va_Nw.use rfl hN.2.1
  refine lv_iconst (v := (-1)) hx hb dX2_send_0 (by decide) ?_
  refine lv_istore_n (lv' := [(2, .int (-1)), (0, .ref x), (1, .int 1)]) hx hb dX2_send_1 rfl hl (by decide) rfl (fun ls hl => ?_)
  refine lv_aload_n hx hb dX2_send_2 rfl (lv_at hl 1 rfl) ?_
  refine lv_iload_n hx hb dX2_send_3 rfl (lv_at hl 2 rfl) ?_
  refine cl0_vR ⟨hx, hb, hml, hown, hts⟩ (c_x_of1 l D cA x len t v c0 c1 fr) (cwV 1 hts gX2_send_X2_channelOf rfl rfl rfl (by decide +kernel) ⟨Nat.le_of_ble_eq_true rfl, Nat.le_of_ble_eq_true rfl⟩) (ci := 2) (q0 := 0) rfl rfl hN hK hP hD hS hA [0] [1, 2, 3, 4] [4, 0, 1, 2, 3] [(t, .inr (0, [.ref tr, .int (nI tk)])), (tr, .inl (cA, 1024, .inl tf)), (c1, .inr (1, [.ref r1, .int (nI h1), .int (nI k1)])), (r1, .inl (cA, 4096, .inl f1))] [(x, .inr (2, [.int (nI len), .ref t, .ref v, .ref c0, .ref c1, .ref fr])), (t, .inr (0, [.ref tr, .int (nI tk)])), (tr, .inl (cA, 1024, .inl tf)), (c1, .inr (1, [.ref r1, .int (nI h1), .int (nI k1)])), (r1, .inl (cA, 4096, .inl f1))] [] rfl rfl rfl rfl (by decide) rfl rfl rfl hl.1 rfl (Nat.le_of_ble_eq_true rfl) dX2_send_4 ⟨Nat.le_of_ble_eq_true rfl, Nat.le_of_ble_eq_true rfl⟩ (fun H locs hP hD hS => ?_)
  refine lv_astore_n (lv' := [(3, .ref c1), (2, .int (-1)), (0, .ref x), (1, .int 1)]) hx hb dX2_send_7 rfl hl (by decide) rfl (fun ls hl => ?_)
  refine lv_aload_n hx hb dX2_send_8 rfl (lv_at hl 0 rfl) ?_
  refine lv_ifnull hx hb dX2_send_9 ?_
  refine lv_aload_n hx hb dX2_send_12 rfl (lv_at hl 2 rfl) ?_
  refine va_get (D := D) (ci := 2) (v := .ref t) hx hb hts iX2 hown hK hP 0 rfl rfl 1 (by decide) lk27 (fun _ h => h) rfl dX2_send_13 ?_
  refine cl0_si ⟨hx, hb, hml, hown, hts⟩ (c_x_holds l D cA t tr 1024 tf tk hk (by decide)) (va_cwS 1 hts gX2_send_X2_holdsPacket rfl rfl rfl (by decide +kernel) ⟨Nat.le_of_ble_eq_true rfl, Nat.le_of_ble_eq_true rfl⟩) hN hK hP hD hS hA [1, 2] [0, 3, 4] [0, 3, 4, 1, 2] [(x, .inr (2, [.int (nI len), .ref t, .ref v, .ref c0, .ref c1, .ref fr])), (c1, .inr (1, [.ref r1, .int (nI h1), .int (nI k1)])), (r1, .inl (cA, 4096, .inl f1))] [(x, .inr (2, [.int (nI len), .ref t, .ref v, .ref c0, .ref c1, .ref fr])), (t, .inr (0, [.ref tr, .int (nI tk)])), (tr, .inl (cA, 1024, .inl tf)), (c1, .inr (1, [.ref r1, .int (nI h1), .int (nI k1)])), (r1, .inl (cA, 4096, .inl f1))] [] rfl rfl rfl rfl (by decide) rfl rfl rfl hl.1 rfl (Nat.le_of_ble_eq_true rfl) dX2_send_16 ⟨Nat.le_of_ble_eq_true rfl, Nat.le_of_ble_eq_true rfl⟩ (fun H locs hP hD hS => ?_)
  refine lv_if_eq (tgt := 49) hx hb dX2_send_19 (by decide) (fun cc => absurd cc (by rw [hp]; decide)) (fun _ => ?_)
  refine lv_aload_n hx hb dX2_send_22 rfl (lv_at hl 2 rfl) ?_
  refine va_get (D := D) (ci := 2) (v := .ref t) hx hb hts iX2 hown hK hP 0 rfl rfl 1 (by decide) lk27 (fun _ h => h) rfl dX2_send_23 ?_
  refine va_getN (D := D) (ci := 0) (v := .int (nI tk)) hx hb hts iX0 hown hK hP 1 rfl rfl 1 (by decide) lk63 (fun _ h => h) rfl dX2_send_26 ?_
  refine lv_aload_n hx hb dX2_send_29 rfl (lv_at hl 0 rfl) ?_
  refine cl0_vi ⟨hx, hb, hml, hown, hts⟩ (c_ch_room l D cA c1 r1 f1 h1 k1 hc) (cwV 0 hts gX2_send_X1_room rfl rfl rfl (by decide +kernel) ⟨Nat.le_of_ble_eq_true rfl, Nat.le_of_ble_eq_true rfl⟩) (ci := 1) (q0 := 0) rfl rfl hN hK hP hD hS hA [3, 4] [0, 1, 2] [0, 1, 2, 3, 4] [(x, .inr (2, [.int (nI len), .ref t, .ref v, .ref c0, .ref c1, .ref fr])), (t, .inr (0, [.ref tr, .int (nI tk)])), (tr, .inl (cA, 1024, .inl tf))] [(x, .inr (2, [.int (nI len), .ref t, .ref v, .ref c0, .ref c1, .ref fr])), (t, .inr (0, [.ref tr, .int (nI tk)])), (tr, .inl (cA, 1024, .inl tf)), (c1, .inr (1, [.ref r1, .int (nI h1), .int (nI k1)])), (r1, .inl (cA, 4096, .inl f1))] [.int (nI tk)] rfl rfl rfl rfl (by decide) rfl rfl rfl hl.1 rfl (Nat.le_of_ble_eq_true rfl) dX2_send_30 ⟨Nat.le_of_ble_eq_true rfl, Nat.le_of_ble_eq_true rfl⟩ (fun H locs hP hD hS => ?_)
  refine lv_icmp_gt (tgt := 49) hx hb dX2_send_33 (by decide) (fun cc => absurd cc (nI_nlt (by omega) (by omega))) (fun _ => ?_)
  refine lv_aload_n hx hb dX2_send_36 rfl (lv_at hl 0 rfl) ?_
  refine lv_aload_n hx hb dX2_send_37 rfl (lv_at hl 2 rfl) ?_
  refine va_get (D := D) (ci := 2) (v := .ref t) hx hb hts iX2 hown hK hP 0 rfl rfl 1 (by decide) lk27 (fun _ h => h) rfl dX2_send_38 ?_
  refine cl0_vv ⟨hx, hb, hml, hown, hts⟩ (c_ch_addPacket l D cA c1 r1 f1 h1 k1 t tr 1024 tf tk hh (by omega) hk (by decide)) (cwV 1 hts gX2_send_X1_addPacket rfl rfl rfl (by decide +kernel) ⟨Nat.le_of_ble_eq_true rfl, Nat.le_of_ble_eq_true rfl⟩) (ci := 1) (q0 := 0) rfl rfl hN hK hP hD hS hA [3, 4, 1, 2] [0] [0, 3, 4, 1, 2] [(x, .inr (2, [.int (nI len), .ref t, .ref v, .ref c0, .ref c1, .ref fr]))] [(x, .inr (2, [.int (nI len), .ref t, .ref v, .ref c0, .ref c1, .ref fr])), (t, .inr (0, [.ref tr, .int (nI tk)])), (tr, .inl (cA, 1024, .inl tf)), (c1, .inr (1, [.ref r1, .int (nI h1), .int (nI (k1 + tk))])), (r1, .inl (cA, 4096, .inl (rwr f1 (h1 + k1) (mkd tf) tk)))] [] rfl rfl rfl rfl (by decide) rfl rfl rfl hl.1 rfl (Nat.le_of_ble_eq_true rfl) dX2_send_41 ⟨Nat.le_of_ble_eq_true rfl, Nat.le_of_ble_eq_true rfl⟩ (fun H locs hP hD hS => ?_)
  refine lv_aload_n hx hb dX2_send_44 rfl (lv_at hl 0 rfl) ?_
  refine va_getN (D := D) (ci := 1) (v := .int (nI (k1 + tk))) hx hb hts iX1 hown hK hP 3 rfl rfl 2 (by decide) lk71 (fun _ h => h) rfl dX2_send_45 ?_
  refine lv_istore_n (lv' := [(2, .int (nI (k1 + tk))), (3, .ref c1), (0, .ref x), (1, .int 1)]) hx hb dX2_send_48 rfl hl (by decide) rfl (fun ls hl => ?_)
  refine lv_aload_n hx hb dX2_send_49 rfl (lv_at hl 2 rfl) ?_
  refine va_get (D := D) (ci := 2) (v := .ref t) hx hb hts iX2 hown hK hP 0 rfl rfl 1 (by decide) lk27 (fun _ h => h) rfl dX2_send_50 ?_
  refine cl0_vv ⟨hx, hb, hml, hown, hts⟩ (c_by_clear l D cA t tr 1024 tf tk) (cwV 0 hts gX2_send_X0_clear rfl rfl rfl (by decide +kernel) ⟨Nat.le_of_ble_eq_true rfl, Nat.le_of_ble_eq_true rfl⟩) (ci := 0) (q0 := 0) rfl rfl hN hK hP hD hS hA [1, 2] [0, 3, 4] [0, 3, 4, 1, 2] [(x, .inr (2, [.int (nI len), .ref t, .ref v, .ref c0, .ref c1, .ref fr])), (c1, .inr (1, [.ref r1, .int (nI h1), .int (nI (k1 + tk))])), (r1, .inl (cA, 4096, .inl (rwr f1 (h1 + k1) (mkd tf) tk)))] [(x, .inr (2, [.int (nI len), .ref t, .ref v, .ref c0, .ref c1, .ref fr])), (t, .inr (0, [.ref tr, .int (nI 0)])), (tr, .inl (cA, 1024, .inl tf)), (c1, .inr (1, [.ref r1, .int (nI h1), .int (nI (k1 + tk))])), (r1, .inl (cA, 4096, .inl (rwr f1 (h1 + k1) (mkd tf) tk)))] [] rfl rfl rfl rfl (by decide) rfl rfl rfl hl.1 rfl (Nat.le_of_ble_eq_true rfl) dX2_send_53 ⟨Nat.le_of_ble_eq_true rfl, Nat.le_of_ble_eq_true rfl⟩ (fun H locs hP hD hS => ?_)
  refine lv_iload_n hx hb dX2_send_56 rfl (lv_at hl 0 rfl) ?_
  exact hex _ _ _ _ _ () hS (rfl) hP hD dX2_send_57

set_option maxHeartbeats 4000000 in
set_option maxRecDepth 100000 in
/-- send, refused -/
theorem c_x_sendB1 (l : Launch) (D : va_G) (cA : ClassId) (x len t v c0 c1 fr : Nat) (tr tk : Nat) (tf : Nat → Int32) (r1 h1 k1 : Nat) (f1 : Nat → Int32) (hk : tk ≤ 1024) (hc : k1 ≤ 4096) (hh : h1 < 4096) (hs : hpk tf tk = 0 ∨ 4096 < k1 + tk) : MI0 l yX2_send wsX2_send { frames := 2, cells := 0, slots := 0, locals := 43 } [.ref x, .int 1] D [(cA, .int)] [(x, .inr (2, [.int (nI len), .ref t, .ref v, .ref c0, .ref c1, .ref fr])), (t, .inr (0, [.ref tr, .int (nI tk)])), (tr, .inl (cA, 1024, .inl tf)), (c1, .inr (1, [.ref r1, .int (nI h1), .int (nI k1)])), (r1, .inl (cA, 4096, .inl f1))] (-1) [(x, .inr (2, [.int (nI len), .ref t, .ref v, .ref c0, .ref c1, .ref fr])), (t, .inr (0, [.ref tr, .int (nI 0)])), (tr, .inl (cA, 1024, .inl tf)), (c1, .inr (1, [.ref r1, .int (nI h1), .int (nI k1)])), (r1, .inl (cA, 4096, .inl f1))] := by
  refine mt_i (by decide) rfl (Nat.le_of_ble_eq_true rfl) ?_
  intro p e s m below meth c A ls Q hx hb hts hown hml hin hN hK hA hP hD hS hl hex
  have hown : s.vm.findClass RX2 = some m.cls := hown
  have hl : lv_has ls 4 [(0, .ref x), (1, .int 1)] := hl
  have iX0 : ∀ w ∈ wsX00, w ∈ wsX2_send := by decide +kernel
  have iX2 : ∀ w ∈ wsX20, w ∈ wsX2_send := by decide +kernel
  have lk27 := hts (.fieldLink RX2 27 "DownFrames" "tape" "LDownFrames$Bytes;") (by decide +kernel)
  have lk63 : (Cond.fieldLinkNest RX2 63 "DownFrames$Bytes" "size" "I" "DownFrames").before ([.ref x, .int 1] : List Value).toArray s = true := va_Nw.use rfl hN.1
  refine lv_iconst (v := (-1)) hx hb dX2_send_0 (by decide) ?_
  refine lv_istore_n (lv' := [(2, .int (-1)), (0, .ref x), (1, .int 1)]) hx hb dX2_send_1 rfl hl (by decide) rfl (fun ls hl => ?_)
  refine lv_aload_n hx hb dX2_send_2 rfl (lv_at hl 1 rfl) ?_
  refine lv_iload_n hx hb dX2_send_3 rfl (lv_at hl 2 rfl) ?_
  refine cl0_vR ⟨hx, hb, hml, hown, hts⟩ (c_x_of1 l D cA x len t v c0 c1 fr) (cwV 1 hts gX2_send_X2_channelOf rfl rfl rfl (by decide +kernel) ⟨Nat.le_of_ble_eq_true rfl, Nat.le_of_ble_eq_true rfl⟩) (ci := 2) (q0 := 0) rfl rfl hN hK hP hD hS hA [0] [1, 2, 3, 4] [4, 0, 1, 2, 3] [(t, .inr (0, [.ref tr, .int (nI tk)])), (tr, .inl (cA, 1024, .inl tf)), (c1, .inr (1, [.ref r1, .int (nI h1), .int (nI k1)])), (r1, .inl (cA, 4096, .inl f1))] [(x, .inr (2, [.int (nI len), .ref t, .ref v, .ref c0, .ref c1, .ref fr])), (t, .inr (0, [.ref tr, .int (nI tk)])), (tr, .inl (cA, 1024, .inl tf)), (c1, .inr (1, [.ref r1, .int (nI h1), .int (nI k1)])), (r1, .inl (cA, 4096, .inl f1))] [] rfl rfl rfl rfl (by decide) rfl rfl rfl hl.1 rfl (Nat.le_of_ble_eq_true rfl) dX2_send_4 ⟨Nat.le_of_ble_eq_true rfl, Nat.le_of_ble_eq_true rfl⟩ (fun H locs hP hD hS => ?_)
  refine lv_astore_n (lv' := [(3, .ref c1), (2, .int (-1)), (0, .ref x), (1, .int 1)]) hx hb dX2_send_7 rfl hl (by decide) rfl (fun ls hl => ?_)
  refine lv_aload_n hx hb dX2_send_8 rfl (lv_at hl 0 rfl) ?_
  refine lv_ifnull hx hb dX2_send_9 ?_
  refine lv_aload_n hx hb dX2_send_12 rfl (lv_at hl 2 rfl) ?_
  refine va_get (D := D) (ci := 2) (v := .ref t) hx hb hts iX2 hown hK hP 0 rfl rfl 1 (by decide) lk27 (fun _ h => h) rfl dX2_send_13 ?_
  refine cl0_si ⟨hx, hb, hml, hown, hts⟩ (c_x_holds l D cA t tr 1024 tf tk hk (by decide)) (va_cwS 1 hts gX2_send_X2_holdsPacket rfl rfl rfl (by decide +kernel) ⟨Nat.le_of_ble_eq_true rfl, Nat.le_of_ble_eq_true rfl⟩) hN hK hP hD hS hA [1, 2] [0, 3, 4] [0, 3, 4, 1, 2] [(x, .inr (2, [.int (nI len), .ref t, .ref v, .ref c0, .ref c1, .ref fr])), (c1, .inr (1, [.ref r1, .int (nI h1), .int (nI k1)])), (r1, .inl (cA, 4096, .inl f1))] [(x, .inr (2, [.int (nI len), .ref t, .ref v, .ref c0, .ref c1, .ref fr])), (t, .inr (0, [.ref tr, .int (nI tk)])), (tr, .inl (cA, 1024, .inl tf)), (c1, .inr (1, [.ref r1, .int (nI h1), .int (nI k1)])), (r1, .inl (cA, 4096, .inl f1))] [] rfl rfl rfl rfl (by decide) rfl rfl rfl hl.1 rfl (Nat.le_of_ble_eq_true rfl) dX2_send_16 ⟨Nat.le_of_ble_eq_true rfl, Nat.le_of_ble_eq_true rfl⟩ (fun H locs hP hD hS => ?_)
  refine lv_if_eq (tgt := 49) hx hb dX2_send_19 (by decide) (fun z1 => ?_) (fun z1 => ?_)
  · refine lv_aload_n hx hb dX2_send_49 rfl (lv_at hl 2 rfl) ?_
    refine va_get (D := D) (ci := 2) (v := .ref t) hx hb hts iX2 hown hK hP 0 rfl rfl 1 (by decide) lk27 (fun _ h => h) rfl dX2_send_50 ?_
    refine cl0_vv ⟨hx, hb, hml, hown, hts⟩ (c_by_clear l D cA t tr 1024 tf tk) (cwV 0 hts gX2_send_X0_clear rfl rfl rfl (by decide +kernel) ⟨Nat.le_of_ble_eq_true rfl, Nat.le_of_ble_eq_true rfl⟩) (ci := 0) (q0 := 0) rfl rfl hN hK hP hD hS hA [1, 2] [0, 3, 4] [0, 3, 4, 1, 2] [(x, .inr (2, [.int (nI len), .ref t, .ref v, .ref c0, .ref c1, .ref fr])), (c1, .inr (1, [.ref r1, .int (nI h1), .int (nI k1)])), (r1, .inl (cA, 4096, .inl f1))] [(x, .inr (2, [.int (nI len), .ref t, .ref v, .ref c0, .ref c1, .ref fr])), (t, .inr (0, [.ref tr, .int (nI 0)])), (tr, .inl (cA, 1024, .inl tf)), (c1, .inr (1, [.ref r1, .int (nI h1), .int (nI k1)])), (r1, .inl (cA, 4096, .inl f1))] [] rfl rfl rfl rfl (by decide) rfl rfl rfl hl.1 rfl (Nat.le_of_ble_eq_true rfl) dX2_send_53 ⟨Nat.le_of_ble_eq_true rfl, Nat.le_of_ble_eq_true rfl⟩ (fun H locs hP hD hS => ?_)
    refine lv_iload_n hx hb dX2_send_56 rfl (lv_at hl 1 rfl) ?_
    exact hex _ _ _ _ _ () hS (rfl) hP hD dX2_send_57
  · refine lv_aload_n hx hb dX2_send_22 rfl (lv_at hl 2 rfl) ?_
    refine va_get (D := D) (ci := 2) (v := .ref t) hx hb hts iX2 hown hK hP 0 rfl rfl 1 (by decide) lk27 (fun _ h => h) rfl dX2_send_23 ?_
    refine va_getN (D := D) (ci := 0) (v := .int (nI tk)) hx hb hts iX0 hown hK hP 1 rfl rfl 1 (by decide) lk63 (fun _ h => h) rfl dX2_send_26 ?_
    refine lv_aload_n hx hb dX2_send_29 rfl (lv_at hl 0 rfl) ?_
    refine cl0_vi ⟨hx, hb, hml, hown, hts⟩ (c_ch_room l D cA c1 r1 f1 h1 k1 hc) (cwV 0 hts gX2_send_X1_room rfl rfl rfl (by decide +kernel) ⟨Nat.le_of_ble_eq_true rfl, Nat.le_of_ble_eq_true rfl⟩) (ci := 1) (q0 := 0) rfl rfl hN hK hP hD hS hA [3, 4] [0, 1, 2] [0, 1, 2, 3, 4] [(x, .inr (2, [.int (nI len), .ref t, .ref v, .ref c0, .ref c1, .ref fr])), (t, .inr (0, [.ref tr, .int (nI tk)])), (tr, .inl (cA, 1024, .inl tf))] [(x, .inr (2, [.int (nI len), .ref t, .ref v, .ref c0, .ref c1, .ref fr])), (t, .inr (0, [.ref tr, .int (nI tk)])), (tr, .inl (cA, 1024, .inl tf)), (c1, .inr (1, [.ref r1, .int (nI h1), .int (nI k1)])), (r1, .inl (cA, 4096, .inl f1))] [.int (nI tk)] rfl rfl rfl rfl (by decide) rfl rfl rfl hl.1 rfl (Nat.le_of_ble_eq_true rfl) dX2_send_30 ⟨Nat.le_of_ble_eq_true rfl, Nat.le_of_ble_eq_true rfl⟩ (fun H locs hP hD hS => ?_)
    refine lv_icmp_gt (tgt := 49) hx hb dX2_send_33 (by decide) (fun z2 => ?_) (fun z2 => ?_)
    · refine lv_aload_n hx hb dX2_send_49 rfl (lv_at hl 2 rfl) ?_
      refine va_get (D := D) (ci := 2) (v := .ref t) hx hb hts iX2 hown hK hP 0 rfl rfl 1 (by decide) lk27 (fun _ h => h) rfl dX2_send_50 ?_
      refine cl0_vv ⟨hx, hb, hml, hown, hts⟩ (c_by_clear l D cA t tr 1024 tf tk) (cwV 0 hts gX2_send_X0_clear rfl rfl rfl (by decide +kernel) ⟨Nat.le_of_ble_eq_true rfl, Nat.le_of_ble_eq_true rfl⟩) (ci := 0) (q0 := 0) rfl rfl hN hK hP hD hS hA [1, 2] [0, 3, 4] [0, 3, 4, 1, 2] [(x, .inr (2, [.int (nI len), .ref t, .ref v, .ref c0, .ref c1, .ref fr])), (c1, .inr (1, [.ref r1, .int (nI h1), .int (nI k1)])), (r1, .inl (cA, 4096, .inl f1))] [(x, .inr (2, [.int (nI len), .ref t, .ref v, .ref c0, .ref c1, .ref fr])), (t, .inr (0, [.ref tr, .int (nI 0)])), (tr, .inl (cA, 1024, .inl tf)), (c1, .inr (1, [.ref r1, .int (nI h1), .int (nI k1)])), (r1, .inl (cA, 4096, .inl f1))] [] rfl rfl rfl rfl (by decide) rfl rfl rfl hl.1 rfl (Nat.le_of_ble_eq_true rfl) dX2_send_53 ⟨Nat.le_of_ble_eq_true rfl, Nat.le_of_ble_eq_true rfl⟩ (fun H locs hP hD hS => ?_)
      refine lv_iload_n hx hb dX2_send_56 rfl (lv_at hl 1 rfl) ?_
      exact hex _ _ _ _ _ () hS (rfl) hP hD dX2_send_57
    · exact absurd hs (fun q => by rcases q with q | q; exact z1 q; exact z2 (nI_lt (by omega) (by omega)))

set_option maxHeartbeats 4000000 in
set_option maxRecDepth 100000 in
/-- send, no channel -/
theorem c_x_sendN (l : Launch) (D : va_G) (cA : ClassId) (x len t v c0 c1 fr : Nat) (tr tk : Nat) (tf : Nat → Int32) (z : Int32) (hz0 : ¬ z = 0) (hz1 : ¬ z = 1) : MI0 l yX2_send wsX2_send { frames := 2, cells := 0, slots := 0, locals := 43 } [.ref x, .int z] D [(cA, .int)] [(x, .inr (2, [.int (nI len), .ref t, .ref v, .ref c0, .ref c1, .ref fr])), (t, .inr (0, [.ref tr, .int (nI tk)])), (tr, .inl (cA, 1024, .inl tf))] (-1) [(x, .inr (2, [.int (nI len), .ref t, .ref v, .ref c0, .ref c1, .ref fr])), (t, .inr (0, [.ref tr, .int (nI 0)])), (tr, .inl (cA, 1024, .inl tf))] := by
  refine mt_i (by decide) rfl (Nat.le_of_ble_eq_true rfl) ?_
  intro p e s m below meth c A ls Q hx hb hts hown hml hin hN hK hA hP hD hS hl hex
  have hown : s.vm.findClass RX2 = some m.cls := hown
  have hl : lv_has ls 4 [(0, .ref x), (1, .int z)] := hl
  have iX2 : ∀ w ∈ wsX20, w ∈ wsX2_send := by decide +kernel
  have lk27 := hts (.fieldLink RX2 27 "DownFrames" "tape" "LDownFrames$Bytes;") (by decide +kernel)
  refine lv_iconst (v := (-1)) hx hb dX2_send_0 (by decide) ?_
  refine lv_istore_n (lv' := [(2, .int (-1)), (0, .ref x), (1, .int z)]) hx hb dX2_send_1 rfl hl (by decide) rfl (fun ls hl => ?_)
  refine lv_aload_n hx hb dX2_send_2 rfl (lv_at hl 1 rfl) ?_
  refine lv_iload_n hx hb dX2_send_3 rfl (lv_at hl 2 rfl) ?_
  refine cl0_vN ⟨hx, hb, hml, hown, hts⟩ (c_x_ofN l D cA x len t v c0 c1 fr z hz0 hz1) (cwV 1 hts gX2_send_X2_channelOf rfl rfl rfl (by decide +kernel) ⟨Nat.le_of_ble_eq_true rfl, Nat.le_of_ble_eq_true rfl⟩) (ci := 2) (q0 := 0) rfl rfl hN hK hP hD hS hA [0] [1, 2] [2, 0, 1] [(t, .inr (0, [.ref tr, .int (nI tk)])), (tr, .inl (cA, 1024, .inl tf))] [(x, .inr (2, [.int (nI len), .ref t, .ref v, .ref c0, .ref c1, .ref fr])), (t, .inr (0, [.ref tr, .int (nI tk)])), (tr, .inl (cA, 1024, .inl tf))] [] rfl rfl rfl rfl (by decide) rfl rfl rfl hl.1 rfl (Nat.le_of_ble_eq_true rfl) dX2_send_4 ⟨Nat.le_of_ble_eq_true rfl, Nat.le_of_ble_eq_true rfl⟩ (fun H locs hP hD hS => ?_)
  refine lv_astore_nN (lv' := [(3, .null), (2, .int (-1)), (0, .ref x), (1, .int z)]) hx hb dX2_send_7 rfl hl (by decide) rfl (fun ls hl => ?_)
  refine lv_aload_nN hx hb dX2_send_8 rfl (lv_at hl 0 rfl) ?_
  refine lv_ifnullN (tgt := 49) hx hb dX2_send_9 (by decide) ?_
  refine lv_aload_n hx hb dX2_send_49 rfl (lv_at hl 2 rfl) ?_
  refine va_get (D := D) (ci := 2) (v := .ref t) hx hb hts iX2 hown hK hP 0 rfl rfl 1 (by decide) lk27 (fun _ h => h) rfl dX2_send_50 ?_
  refine cl0_vv ⟨hx, hb, hml, hown, hts⟩ (c_by_clear l D cA t tr 1024 tf tk) (cwV 0 hts gX2_send_X0_clear rfl rfl rfl (by decide +kernel) ⟨Nat.le_of_ble_eq_true rfl, Nat.le_of_ble_eq_true rfl⟩) (ci := 0) (q0 := 0) rfl rfl hN hK hP hD hS hA [1, 2] [0] [0, 1, 2] [(x, .inr (2, [.int (nI len), .ref t, .ref v, .ref c0, .ref c1, .ref fr]))] [(x, .inr (2, [.int (nI len), .ref t, .ref v, .ref c0, .ref c1, .ref fr])), (t, .inr (0, [.ref tr, .int (nI 0)])), (tr, .inl (cA, 1024, .inl tf))] [] rfl rfl rfl rfl (by decide) rfl rfl rfl hl.1 rfl (Nat.le_of_ble_eq_true rfl) dX2_send_53 ⟨Nat.le_of_ble_eq_true rfl, Nat.le_of_ble_eq_true rfl⟩ (fun H locs hP hD hS => ?_)
  refine lv_iload_n hx hb dX2_send_56 rfl (lv_at hl 1 rfl) ?_
  exact hex _ _ _ _ _ () hS (rfl) hP hD dX2_send_57
