set_option maxHeartbeats 4000000 in
set_option maxRecDepth 100000 in
/-- byteAt -/
theorem c_x_byteAt (l : Launch) (D : va_G) (cA : ClassId) (x len t v c0 c1 fr : Nat) (vr vk : Nat) (vf : Nat → Int32) (z : Int32) (hk : vk ≤ len) (hn : len < 2 ^ 31) : MI0 l yX2_byteAt wsX2_byteAt { frames := 1, cells := 0, slots := 0, locals := 21 } [.ref x, .int z] D [(cA, .int)] [(x, .inr (2, [.int (nI len), .ref t, .ref v, .ref c0, .ref c1, .ref fr])), (v, .inr (0, [.ref vr, .int (nI vk)])), (vr, .inl (cA, len, .inl vf))] (at_v vf vk z) [(x, .inr (2, [.int (nI len), .ref t, .ref v, .ref c0, .ref c1, .ref fr])), (v, .inr (0, [.ref vr, .int (nI vk)])), (vr, .inl (cA, len, .inl vf))] := by
  refine mt_i (by decide) rfl (Nat.le_of_ble_eq_true rfl) ?_
  intro p e s m below meth c A ls Q hx hb hts hown hml hin hN hK hA hP hD hS hl hex
  have hown : s.vm.findClass RX2 = some m.cls := hown
  have hl : lv_has ls 2 [(0, .ref x), (1, .int z)] := hl
  have iX2 : ∀ w ∈ wsX20, w ∈ wsX2_byteAt := by decide +kernel
  have lk31 := hts (.fieldLink RX2 31 "DownFrames" "latest" "LDownFrames$Bytes;") (by decide +kernel)
  refine lv_aload_n hx hb dX2_byteAt_0 rfl (lv_at hl 0 rfl) ?_
  refine va_get (D := D) (ci := 2) (v := .ref v) hx hb hts iX2 hown hK hP 0 rfl rfl 2 (by decide) lk31 (fun _ h => h) rfl dX2_byteAt_1 ?_
  refine lv_iload_n hx hb dX2_byteAt_4 rfl (lv_at hl 1 rfl) ?_
  refine cl0_vi ⟨hx, hb, hml, hown, hts⟩ (c_by_at l D cA v vr len vf vk z hk hn) (cwV 1 hts gX2_byteAt_X0_at rfl rfl rfl (by decide +kernel) ⟨Nat.le_of_ble_eq_true rfl, Nat.le_of_ble_eq_true rfl⟩) (ci := 0) (q0 := 0) rfl rfl hN hK hP hD hS hA [1, 2] [0] [0, 1, 2] [(x, .inr (2, [.int (nI len), .ref t, .ref v, .ref c0, .ref c1, .ref fr]))] [(x, .inr (2, [.int (nI len), .ref t, .ref v, .ref c0, .ref c1, .ref fr])), (v, .inr (0, [.ref vr, .int (nI vk)])), (vr, .inl (cA, len, .inl vf))] [] rfl rfl rfl rfl (by decide) rfl rfl rfl hl.1 rfl (Nat.le_of_ble_eq_true rfl) dX2_byteAt_5 ⟨Nat.le_of_ble_eq_true rfl, Nat.le_of_ble_eq_true rfl⟩ (fun H locs hP hD hS => ?_)
  exact hex _ _ _ _ _ () hS (rfl) hP hD dX2_byteAt_8

set_option maxHeartbeats 4000000 in
set_option maxRecDepth 100000 in
/-- waiting -/
theorem c_x_wait0 (l : Launch) (D : va_G) (cA : ClassId) (x len t v c0 c1 fr : Nat) (r0 h0 k0 : Nat) : MI0 l yX2_waiting wsX2_waiting { frames := 1, cells := 0, slots := 0, locals := 21 } [.ref x, .int 0] D [(cA, .int)] [(x, .inr (2, [.int (nI len), .ref t, .ref v, .ref c0, .ref c1, .ref fr])), (c0, .inr (1, [.ref r0, .int (nI h0), .int (nI k0)]))] (nI k0) [(x, .inr (2, [.int (nI len), .ref t, .ref v, .ref c0, .ref c1, .ref fr])), (c0, .inr (1, [.ref r0, .int (nI h0), .int (nI k0)]))] := by
  refine mt_i (by decide) rfl (Nat.le_of_ble_eq_true rfl) ?_
  intro p e s m below meth c A ls Q hx hb hts hown hml hin hN hK hA hP hD hS hl hex
  have hown : s.vm.findClass RX2 = some m.cls := hown
  have hl : lv_has ls 3 [(0, .ref x), (1, .int 0)] := hl
  have iX1 : ∀ w ∈ wsX10, w ∈ wsX2_waiting := by decide +kernel
  have lk71 : (Cond.fieldLinkNest RX2 71 "DownFrames$Channel" "size" "I" "DownFrames").before ([.ref x, .int 0] : List Value).toArray s = true := va_Nw.use rfl hN.2.1
  refine lv_aload_n hx hb dX2_waiting_0 rfl (lv_at hl 0 rfl) ?_
  refine lv_iload_n hx hb dX2_waiting_1 rfl (lv_at hl 1 rfl) ?_
  refine cl0_vR ⟨hx, hb, hml, hown, hts⟩ (c_x_of0 l D cA x len t v c0 c1 fr) (cwV 1 hts gX2_waiting_X2_channelOf rfl rfl rfl (by decide +kernel) ⟨Nat.le_of_ble_eq_true rfl, Nat.le_of_ble_eq_true rfl⟩) (ci := 2) (q0 := 0) rfl rfl hN hK hP hD hS hA [0] [1] [1, 0] [(c0, .inr (1, [.ref r0, .int (nI h0), .int (nI k0)]))] [(x, .inr (2, [.int (nI len), .ref t, .ref v, .ref c0, .ref c1, .ref fr])), (c0, .inr (1, [.ref r0, .int (nI h0), .int (nI k0)]))] [] rfl rfl rfl rfl (by decide) rfl rfl rfl hl.1 rfl (Nat.le_of_ble_eq_true rfl) dX2_waiting_2 ⟨Nat.le_of_ble_eq_true rfl, Nat.le_of_ble_eq_true rfl⟩ (fun H locs hP hD hS => ?_)
  refine lv_astore_n (lv' := [(2, .ref c0), (0, .ref x), (1, .int 0)]) hx hb dX2_waiting_5 rfl hl (by decide) rfl (fun ls hl => ?_)
  refine lv_aload_n hx hb dX2_waiting_6 rfl (lv_at hl 0 rfl) ?_
  refine lv_ifnonnull (tgt := 14) hx hb dX2_waiting_7 (by decide) ?_
  refine lv_aload_n hx hb dX2_waiting_14 rfl (lv_at hl 0 rfl) ?_
  refine va_getN (D := D) (ci := 1) (v := .int (nI k0)) hx hb hts iX1 hown hK hP 1 rfl rfl 2 (by decide) lk71 (fun _ h => h) rfl dX2_waiting_15 ?_
  exact hex _ _ _ _ _ () hS (rfl) hP hD dX2_waiting_18

set_option maxHeartbeats 4000000 in
set_option maxRecDepth 100000 in
/-- waiting -/
theorem c_x_wait1 (l : Launch) (D : va_G) (cA : ClassId) (x len t v c0 c1 fr : Nat) (r1 h1 k1 : Nat) : MI0 l yX2_waiting wsX2_waiting { frames := 1, cells := 0, slots := 0, locals := 21 } [.ref x, .int 1] D [(cA, .int)] [(x, .inr (2, [.int (nI len), .ref t, .ref v, .ref c0, .ref c1, .ref fr])), (c1, .inr (1, [.ref r1, .int (nI h1), .int (nI k1)]))] (nI k1) [(x, .inr (2, [.int (nI len), .ref t, .ref v, .ref c0, .ref c1, .ref fr])), (c1, .inr (1, [.ref r1, .int (nI h1), .int (nI k1)]))] := by
  refine mt_i (by decide) rfl (Nat.le_of_ble_eq_true rfl) ?_
  intro p e s m below meth c A ls Q hx hb hts hown hml hin hN hK hA hP hD hS hl hex
  have hown : s.vm.findClass RX2 = some m.cls := hown
  have hl : lv_has ls 3 [(0, .ref x), (1, .int 1)] := hl
  have iX1 : ∀ w ∈ wsX10, w ∈ wsX2_waiting := by decide +kernel
  have lk71 : (Cond.fieldLinkNest RX2 71 "DownFrames$Channel" "size" "I" "DownFrames").before ([.ref x, .int 1] : List Value).toArray s = true := va_Nw.use rfl hN.2.1
  refine lv_aload_n hx hb dX2_waiting_0 rfl (lv_at hl 0 rfl) ?_
  refine lv_iload_n hx hb dX2_waiting_1 rfl (lv_at hl 1 rfl) ?_
  refine cl0_vR ⟨hx, hb, hml, hown, hts⟩ (c_x_of1 l D cA x len t v c0 c1 fr) (cwV 1 hts gX2_waiting_X2_channelOf rfl rfl rfl (by decide +kernel) ⟨Nat.le_of_ble_eq_true rfl, Nat.le_of_ble_eq_true rfl⟩) (ci := 2) (q0 := 0) rfl rfl hN hK hP hD hS hA [0] [1] [1, 0] [(c1, .inr (1, [.ref r1, .int (nI h1), .int (nI k1)]))] [(x, .inr (2, [.int (nI len), .ref t, .ref v, .ref c0, .ref c1, .ref fr])), (c1, .inr (1, [.ref r1, .int (nI h1), .int (nI k1)]))] [] rfl rfl rfl rfl (by decide) rfl rfl rfl hl.1 rfl (Nat.le_of_ble_eq_true rfl) dX2_waiting_2 ⟨Nat.le_of_ble_eq_true rfl, Nat.le_of_ble_eq_true rfl⟩ (fun H locs hP hD hS => ?_)
  refine lv_astore_n (lv' := [(2, .ref c1), (0, .ref x), (1, .int 1)]) hx hb dX2_waiting_5 rfl hl (by decide) rfl (fun ls hl => ?_)
  refine lv_aload_n hx hb dX2_waiting_6 rfl (lv_at hl 0 rfl) ?_
  refine lv_ifnonnull (tgt := 14) hx hb dX2_waiting_7 (by decide) ?_
  refine lv_aload_n hx hb dX2_waiting_14 rfl (lv_at hl 0 rfl) ?_
  refine va_getN (D := D) (ci := 1) (v := .int (nI k1)) hx hb hts iX1 hown hK hP 1 rfl rfl 2 (by decide) lk71 (fun _ h => h) rfl dX2_waiting_15 ?_
  exact hex _ _ _ _ _ () hS (rfl) hP hD dX2_waiting_18

set_option maxHeartbeats 4000000 in
set_option maxRecDepth 100000 in
/-- waiting -/
theorem c_x_waitN (l : Launch) (D : va_G) (cA : ClassId) (x len t v c0 c1 fr : Nat) (z : Int32) (hz0 : ¬ z = 0) (hz1 : ¬ z = 1) : MI0 l yX2_waiting wsX2_waiting { frames := 1, cells := 0, slots := 0, locals := 21 } [.ref x, .int z] D [(cA, .int)] [(x, .inr (2, [.int (nI len), .ref t, .ref v, .ref c0, .ref c1, .ref fr]))] (-1) [(x, .inr (2, [.int (nI len), .ref t, .ref v, .ref c0, .ref c1, .ref fr]))] := by
  refine mt_i (by decide) rfl (Nat.le_of_ble_eq_true rfl) ?_
  intro p e s m below meth c A ls Q hx hb hts hown hml hin hN hK hA hP hD hS hl hex
  have hown : s.vm.findClass RX2 = some m.cls := hown
  have hl : lv_has ls 3 [(0, .ref x), (1, .int z)] := hl
  refine lv_aload_n hx hb dX2_waiting_0 rfl (lv_at hl 0 rfl) ?_
  refine lv_iload_n hx hb dX2_waiting_1 rfl (lv_at hl 1 rfl) ?_
  refine cl0_vN ⟨hx, hb, hml, hown, hts⟩ (c_x_ofN l D cA x len t v c0 c1 fr z hz0 hz1) (cwV 1 hts gX2_waiting_X2_channelOf rfl rfl rfl (by decide +kernel) ⟨Nat.le_of_ble_eq_true rfl, Nat.le_of_ble_eq_true rfl⟩) (ci := 2) (q0 := 0) rfl rfl hN hK hP hD hS hA [0] [] [0] [] [(x, .inr (2, [.int (nI len), .ref t, .ref v, .ref c0, .ref c1, .ref fr]))] [] rfl rfl rfl rfl (by decide) rfl rfl rfl hl.1 rfl (Nat.le_of_ble_eq_true rfl) dX2_waiting_2 ⟨Nat.le_of_ble_eq_true rfl, Nat.le_of_ble_eq_true rfl⟩ (fun H locs hP hD hS => ?_)
  refine lv_astore_nN (lv' := [(2, .null), (0, .ref x), (1, .int z)]) hx hb dX2_waiting_5 rfl hl (by decide) rfl (fun ls hl => ?_)
  refine lv_aload_nN hx hb dX2_waiting_6 rfl (lv_at hl 0 rfl) ?_
  refine lv_ifnonnullN hx hb dX2_waiting_7 ?_
  refine lv_iconst (v := (-1)) hx hb dX2_waiting_10 (by decide) ?_
  refine lv_goto (tgt := 18) hx hb dX2_waiting_11 (by decide) ?_
  exact hex _ _ _ _ _ () hS (rfl) hP hD dX2_waiting_18

set_option maxHeartbeats 4000000 in
set_option maxRecDepth 100000 in
/-- count of frames -/
theorem c_x_countF (l : Launch) (D : va_G) (cA : ClassId) (x len t v c0 c1 fr : Nat) (nf : Nat → Int32) (j : Nat) (hj : j < 4) : MI0 l yX2_count wsX2_count { frames := 0, cells := 0, slots := 0, locals := 0 } [.ref x, .int (nI j)] D [(cA, .int)] [(x, .inr (2, [.int (nI len), .ref t, .ref v, .ref c0, .ref c1, .ref fr])), (fr, .inl (cA, 4, .inl nf))] (nf j) [(x, .inr (2, [.int (nI len), .ref t, .ref v, .ref c0, .ref c1, .ref fr])), (fr, .inl (cA, 4, .inl nf))] := by
  refine mt_i (by decide) rfl (Nat.le_of_ble_eq_true rfl) ?_
  intro p e s m below meth c A ls Q hx hb hts hown hml hin hN hK hA hP hD hS hl hex
  have hown : s.vm.findClass RX2 = some m.cls := hown
  have hl : lv_has ls 2 [(0, .ref x), (1, .int (nI j))] := hl
  have iX2 : ∀ w ∈ wsX20, w ∈ wsX2_count := by decide +kernel
  have lk44 := hts (.fieldLink RX2 44 "DownFrames" "frames" "[I") (by decide +kernel)
  refine lv_iload_n hx hb dX2_count_0 rfl (lv_at hl 1 rfl) ?_
  refine lv_if_lt (tgt := 16) hx hb dX2_count_1 (by decide) (fun cc => absurd cc (nI_pos (by omega))) (fun _ => ?_)
  refine lv_iload_n hx hb dX2_count_4 rfl (lv_at hl 1 rfl) ?_
  refine lv_iconst (v := 3) hx hb dX2_count_5 (by decide) ?_
  refine lv_icmp_gt (tgt := 16) hx hb dX2_count_6 (by decide) (fun cc => absurd cc (nI_nlt (a := 3) (by omega) (by decide))) (fun _ => ?_)
  refine lv_aload_n hx hb dX2_count_9 rfl (lv_at hl 0 rfl) ?_
  refine va_get (D := D) (ci := 2) (v := .ref fr) hx hb hts iX2 hown hK hP 0 rfl rfl 5 (by decide) lk44 (fun _ h => h) rfl dX2_count_10 ?_
  refine lv_iload_n hx hb dX2_count_13 rfl (lv_at hl 1 rfl) ?_
  refine al_i (k := j) hx hb hK hP 1 0 rfl rfl (hj) (by decide) dX2_count_14 ?_
  exact hex _ _ _ _ _ () hS (rfl) hP hD dX2_count_15

set_option maxHeartbeats 4000000 in
set_option maxRecDepth 100000 in
/-- count(4) -/
theorem c_x_count4 (l : Launch) (D : va_G) (cA : ClassId) (x len t v c0 c1 fr : Nat) (tr tk : Nat) : MI0 l yX2_count wsX2_count { frames := 0, cells := 0, slots := 0, locals := 0 } [.ref x, .int 4] D [(cA, .int)] [(x, .inr (2, [.int (nI len), .ref t, .ref v, .ref c0, .ref c1, .ref fr])), (t, .inr (0, [.ref tr, .int (nI tk)]))] (nI tk) [(x, .inr (2, [.int (nI len), .ref t, .ref v, .ref c0, .ref c1, .ref fr])), (t, .inr (0, [.ref tr, .int (nI tk)]))] := by
  refine mt_i (by decide) rfl (Nat.le_of_ble_eq_true rfl) ?_
  intro p e s m below meth c A ls Q hx hb hts hown hml hin hN hK hA hP hD hS hl hex
  have hown : s.vm.findClass RX2 = some m.cls := hown
  have hl : lv_has ls 2 [(0, .ref x), (1, .int 4)] := hl
  have iX0 : ∀ w ∈ wsX00, w ∈ wsX2_count := by decide +kernel
  have iX2 : ∀ w ∈ wsX20, w ∈ wsX2_count := by decide +kernel
  have lk27 := hts (.fieldLink RX2 27 "DownFrames" "tape" "LDownFrames$Bytes;") (by decide +kernel)
  have lk63 : (Cond.fieldLinkNest RX2 63 "DownFrames$Bytes" "size" "I" "DownFrames").before ([.ref x, .int 4] : List Value).toArray s = true := va_Nw.use rfl hN.1
  refine lv_iload_n hx hb dX2_count_0 rfl (lv_at hl 1 rfl) ?_
  refine lv_if_lt (tgt := 16) hx hb dX2_count_1 (by decide) (fun cc => absurd cc (by decide)) (fun _ => ?_)
  refine lv_iload_n hx hb dX2_count_4 rfl (lv_at hl 1 rfl) ?_
  refine lv_iconst (v := 3) hx hb dX2_count_5 (by decide) ?_
  refine lv_icmp_gt (tgt := 16) hx hb dX2_count_6 (by decide) (fun _ => ?_) (fun cc => absurd (by decide) cc)
  refine lv_iload_n hx hb dX2_count_16 rfl (lv_at hl 1 rfl) ?_
  refine lv_iconst (v := 4) hx hb dX2_count_17 (by decide) ?_
  refine lv_icmp_ne (tgt := 29) hx hb dX2_count_18 (by decide) (fun cc => absurd (rfl) cc) (fun _ => ?_)
  refine lv_aload_n hx hb dX2_count_21 rfl (lv_at hl 0 rfl) ?_
  refine va_get (D := D) (ci := 2) (v := .ref t) hx hb hts iX2 hown hK hP 0 rfl rfl 1 (by decide) lk27 (fun _ h => h) rfl dX2_count_22 ?_
  refine va_getN (D := D) (ci := 0) (v := .int (nI tk)) hx hb hts iX0 hown hK hP 1 rfl rfl 1 (by decide) lk63 (fun _ h => h) rfl dX2_count_25 ?_
  exact hex _ _ _ _ _ () hS (rfl) hP hD dX2_count_28

set_option maxHeartbeats 4000000 in
set_option maxRecDepth 100000 in
/-- count(5) -/
theorem c_x_count5 (l : Launch) (D : va_G) (cA : ClassId) (x len t v c0 c1 fr : Nat) : MI0 l yX2_count wsX2_count { frames := 0, cells := 0, slots := 0, locals := 0 } [.ref x, .int 5] D [(cA, .int)] [(x, .inr (2, [.int (nI len), .ref t, .ref v, .ref c0, .ref c1, .ref fr]))] (nI len) [(x, .inr (2, [.int (nI len), .ref t, .ref v, .ref c0, .ref c1, .ref fr]))] := by
  refine mt_i (by decide) rfl (Nat.le_of_ble_eq_true rfl) ?_
  intro p e s m below meth c A ls Q hx hb hts hown hml hin hN hK hA hP hD hS hl hex
  have hown : s.vm.findClass RX2 = some m.cls := hown
  have hl : lv_has ls 2 [(0, .ref x), (1, .int 5)] := hl
  have iX2 : ∀ w ∈ wsX20, w ∈ wsX2_count := by decide +kernel
  have lk18 := hts (.fieldLink RX2 18 "DownFrames" "length" "I") (by decide +kernel)
  refine lv_iload_n hx hb dX2_count_0 rfl (lv_at hl 1 rfl) ?_
  refine lv_if_lt (tgt := 16) hx hb dX2_count_1 (by decide) (fun cc => absurd cc (by decide)) (fun _ => ?_)
  refine lv_iload_n hx hb dX2_count_4 rfl (lv_at hl 1 rfl) ?_
  refine lv_iconst (v := 3) hx hb dX2_count_5 (by decide) ?_
  refine lv_icmp_gt (tgt := 16) hx hb dX2_count_6 (by decide) (fun _ => ?_) (fun cc => absurd (by decide) cc)
  refine lv_iload_n hx hb dX2_count_16 rfl (lv_at hl 1 rfl) ?_
  refine lv_iconst (v := 4) hx hb dX2_count_17 (by decide) ?_
  refine lv_icmp_ne (tgt := 29) hx hb dX2_count_18 (by decide) (fun _ => ?_) (fun cc => absurd cc (by decide))
  refine lv_iload_n hx hb dX2_count_29 rfl (lv_at hl 1 rfl) ?_
  refine lv_iconst (v := 5) hx hb dX2_count_30 (by decide) ?_
  refine lv_icmp_ne (tgt := 41) hx hb dX2_count_31 (by decide) (fun cc => absurd (rfl) cc) (fun _ => ?_)
  refine lv_aload_n hx hb dX2_count_34 rfl (lv_at hl 0 rfl) ?_
  refine va_get (D := D) (ci := 2) (v := .int (nI len)) hx hb hts iX2 hown hK hP 0 rfl rfl 0 (by decide) lk18 (fun _ h => h) rfl dX2_count_35 ?_
  refine lv_goto (tgt := 42) hx hb dX2_count_38 (by decide) ?_
  exact hex _ _ _ _ _ () hS (rfl) hP hD dX2_count_42

set_option maxHeartbeats 4000000 in
set_option maxRecDepth 100000 in
/-- count of nothing -/
theorem c_x_countN (l : Launch) (D : va_G) (cA : ClassId) (x len t v c0 c1 fr : Nat) (z : Int32) (hz : z < 0 ∨ 3 < z) (h4 : ¬ z = 4) (h5 : ¬ z = 5) : MI0 l yX2_count wsX2_count { frames := 0, cells := 0, slots := 0, locals := 0 } [.ref x, .int z] D [(cA, .int)] [(x, .inr (2, [.int (nI len), .ref t, .ref v, .ref c0, .ref c1, .ref fr]))] (-1) [(x, .inr (2, [.int (nI len), .ref t, .ref v, .ref c0, .ref c1, .ref fr]))] := by
  refine mt_i (by decide) rfl (Nat.le_of_ble_eq_true rfl) ?_
  intro p e s m below meth c A ls Q hx hb hts hown hml hin hN hK hA hP hD hS hl hex
  have hown : s.vm.findClass RX2 = some m.cls := hown
  have hl : lv_has ls 2 [(0, .ref x), (1, .int z)] := hl
  refine lv_iload_n hx hb dX2_count_0 rfl (lv_at hl 1 rfl) ?_
  refine lv_if_lt (tgt := 16) hx hb dX2_count_1 (by decide) (fun z1 => ?_) (fun z1 => ?_)
  · refine lv_iload_n hx hb dX2_count_16 rfl (lv_at hl 1 rfl) ?_
    refine lv_iconst (v := 4) hx hb dX2_count_17 (by decide) ?_
    refine lv_icmp_ne (tgt := 29) hx hb dX2_count_18 (by decide) (fun _ => ?_) (fun cc => absurd cc (h4))
    refine lv_iload_n hx hb dX2_count_29 rfl (lv_at hl 1 rfl) ?_
    refine lv_iconst (v := 5) hx hb dX2_count_30 (by decide) ?_
    refine lv_icmp_ne (tgt := 41) hx hb dX2_count_31 (by decide) (fun _ => ?_) (fun cc => absurd cc (h5))
    refine lv_iconst (v := (-1)) hx hb dX2_count_41 (by decide) ?_
    exact hex _ _ _ _ _ () hS (rfl) hP hD dX2_count_42
  · refine lv_iload_n hx hb dX2_count_4 rfl (lv_at hl 1 rfl) ?_
    refine lv_iconst (v := 3) hx hb dX2_count_5 (by decide) ?_
    refine lv_icmp_gt (tgt := 16) hx hb dX2_count_6 (by decide) (fun z2 => ?_) (fun z2 => ?_)
    · refine lv_iload_n hx hb dX2_count_16 rfl (lv_at hl 1 rfl) ?_
      refine lv_iconst (v := 4) hx hb dX2_count_17 (by decide) ?_
      refine lv_icmp_ne (tgt := 29) hx hb dX2_count_18 (by decide) (fun _ => ?_) (fun cc => absurd cc (h4))
      refine lv_iload_n hx hb dX2_count_29 rfl (lv_at hl 1 rfl) ?_
      refine lv_iconst (v := 5) hx hb dX2_count_30 (by decide) ?_
      refine lv_icmp_ne (tgt := 41) hx hb dX2_count_31 (by decide) (fun _ => ?_) (fun cc => absurd cc (h5))
      refine lv_iconst (v := (-1)) hx hb dX2_count_41 (by decide) ?_
      exact hex _ _ _ _ _ () hS (rfl) hP hD dX2_count_42
    · exact absurd hz (fun q => by rcases q with q | q; exact z1 q; exact z2 q)
