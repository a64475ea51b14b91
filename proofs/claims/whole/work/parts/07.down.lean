set_option maxHeartbeats 4000000 in
set_option maxRecDepth 100000 in
/-- channelOf -/
theorem c_x_of0 (l : Launch) (D : va_G) (cA : ClassId) (x len t v c0 c1 fr : Nat) : MQ0 l yX2_channelOf wsX2_channelOf { frames := 0, cells := 0, slots := 0, locals := 0 } [.ref x, .int 0] D [(cA, .int)] [(x, .inr (2, [.int (nI len), .ref t, .ref v, .ref c0, .ref c1, .ref fr]))] (some c0) [(x, .inr (2, [.int (nI len), .ref t, .ref v, .ref c0, .ref c1, .ref fr]))] := by
  refine mt_q (by decide) rfl (Nat.le_of_ble_eq_true rfl) ?_
  intro p e s m below meth c A ls Q hx hb hts hown hml hin hN hK hA hP hD hS hl hex
  have hown : s.vm.findClass RX2 = some m.cls := hown
  have hl : lv_has ls 2 [(0, .ref x), (1, .int 0)] := hl
  have iX2 : ∀ w ∈ wsX20, w ∈ wsX2_channelOf := by decide +kernel
  have lk37 := hts (.fieldLink RX2 37 "DownFrames" "channel0" "LDownFrames$Channel;") (by decide +kernel)
  refine lv_iload_n hx hb dX2_channelOf_0 rfl (lv_at hl 1 rfl) ?_
  refine lv_if_ne (tgt := 9) hx hb dX2_channelOf_1 (by decide) (fun cc => absurd (rfl) cc) (fun _ => ?_)
  refine lv_aload_n hx hb dX2_channelOf_4 rfl (lv_at hl 0 rfl) ?_
  refine va_get (D := D) (ci := 2) (v := .ref c0) hx hb hts iX2 hown hK hP 0 rfl rfl 3 (by decide) lk37 (fun _ h => h) rfl dX2_channelOf_5 ?_
  exact hex _ _ _ _ (some c0) () hS (rfl) hP hD dX2_channelOf_8

set_option maxHeartbeats 4000000 in
set_option maxRecDepth 100000 in
/-- channelOf -/
theorem c_x_of1 (l : Launch) (D : va_G) (cA : ClassId) (x len t v c0 c1 fr : Nat) : MQ0 l yX2_channelOf wsX2_channelOf { frames := 0, cells := 0, slots := 0, locals := 0 } [.ref x, .int 1] D [(cA, .int)] [(x, .inr (2, [.int (nI len), .ref t, .ref v, .ref c0, .ref c1, .ref fr]))] (some c1) [(x, .inr (2, [.int (nI len), .ref t, .ref v, .ref c0, .ref c1, .ref fr]))] := by
  refine mt_q (by decide) rfl (Nat.le_of_ble_eq_true rfl) ?_
  intro p e s m below meth c A ls Q hx hb hts hown hml hin hN hK hA hP hD hS hl hex
  have hown : s.vm.findClass RX2 = some m.cls := hown
  have hl : lv_has ls 2 [(0, .ref x), (1, .int 1)] := hl
  have iX2 : ∀ w ∈ wsX20, w ∈ wsX2_channelOf := by decide +kernel
  have lk41 := hts (.fieldLink RX2 41 "DownFrames" "channel1" "LDownFrames$Channel;") (by decide +kernel)
  refine lv_iload_n hx hb dX2_channelOf_0 rfl (lv_at hl 1 rfl) ?_
  refine lv_if_ne (tgt := 9) hx hb dX2_channelOf_1 (by decide) (fun _ => ?_) (fun cc => absurd cc (by decide))
  refine lv_iload_n hx hb dX2_channelOf_9 rfl (lv_at hl 1 rfl) ?_
  refine lv_iconst (v := 1) hx hb dX2_channelOf_10 (by decide) ?_
  refine lv_icmp_ne (tgt := 21) hx hb dX2_channelOf_11 (by decide) (fun cc => absurd (rfl) cc) (fun _ => ?_)
  refine lv_aload_n hx hb dX2_channelOf_14 rfl (lv_at hl 0 rfl) ?_
  refine va_get (D := D) (ci := 2) (v := .ref c1) hx hb hts iX2 hown hK hP 0 rfl rfl 4 (by decide) lk41 (fun _ h => h) rfl dX2_channelOf_15 ?_
  refine lv_goto (tgt := 22) hx hb dX2_channelOf_18 (by decide) ?_
  exact hex _ _ _ _ (some c1) () hS (rfl) hP hD dX2_channelOf_22

set_option maxHeartbeats 4000000 in
set_option maxRecDepth 100000 in
/-- channelOf -/
theorem c_x_ofN (l : Launch) (D : va_G) (cA : ClassId) (x len t v c0 c1 fr : Nat) (z : Int32) (hz0 : ¬ z = 0) (hz1 : ¬ z = 1) : MQ0 l yX2_channelOf wsX2_channelOf { frames := 0, cells := 0, slots := 0, locals := 0 } [.ref x, .int z] D [(cA, .int)] [(x, .inr (2, [.int (nI len), .ref t, .ref v, .ref c0, .ref c1, .ref fr]))] none [(x, .inr (2, [.int (nI len), .ref t, .ref v, .ref c0, .ref c1, .ref fr]))] := by
  refine mt_q (by decide) rfl (Nat.le_of_ble_eq_true rfl) ?_
  intro p e s m below meth c A ls Q hx hb hts hown hml hin hN hK hA hP hD hS hl hex
  have hown : s.vm.findClass RX2 = some m.cls := hown
  have hl : lv_has ls 2 [(0, .ref x), (1, .int z)] := hl
  refine lv_iload_n hx hb dX2_channelOf_0 rfl (lv_at hl 1 rfl) ?_
  refine lv_if_ne (tgt := 9) hx hb dX2_channelOf_1 (by decide) (fun _ => ?_) (fun cc => absurd cc (hz0))
  refine lv_iload_n hx hb dX2_channelOf_9 rfl (lv_at hl 1 rfl) ?_
  refine lv_iconst (v := 1) hx hb dX2_channelOf_10 (by decide) ?_
  refine lv_icmp_ne (tgt := 21) hx hb dX2_channelOf_11 (by decide) (fun _ => ?_) (fun cc => absurd cc (hz1))
  refine lv_null hx hb dX2_channelOf_21 ?_
  exact hex _ _ _ _ none () hS (rfl) hP hD dX2_channelOf_22

set_option maxHeartbeats 4000000 in
set_option maxRecDepth 100000 in
/-- nextChannel -/
theorem c_x_next0 (l : Launch) (D : va_G) (cA : ClassId) (x len t v c0 c1 fr : Nat) (r0 h0 k0 r1 h1 k1 : Nat) (hk : 0 < k0) (hbk : k0 ≤ 4096) : MI0 l yX2_nextChannel wsX2_nextChannel { frames := 0, cells := 0, slots := 0, locals := 0 } [.ref x] D [(cA, .int)] [(x, .inr (2, [.int (nI len), .ref t, .ref v, .ref c0, .ref c1, .ref fr])), (c0, .inr (1, [.ref r0, .int (nI h0), .int (nI k0)])), (c1, .inr (1, [.ref r1, .int (nI h1), .int (nI k1)]))] 0 [(x, .inr (2, [.int (nI len), .ref t, .ref v, .ref c0, .ref c1, .ref fr])), (c0, .inr (1, [.ref r0, .int (nI h0), .int (nI k0)])), (c1, .inr (1, [.ref r1, .int (nI h1), .int (nI k1)]))] := by
  refine mt_i (by decide) rfl (Nat.le_of_ble_eq_true rfl) ?_
  intro p e s m below meth c A ls Q hx hb hts hown hml hin hN hK hA hP hD hS hl hex
  have hown : s.vm.findClass RX2 = some m.cls := hown
  have hl : lv_has ls 1 [(0, .ref x)] := hl
  have iX1 : ∀ w ∈ wsX10, w ∈ wsX2_nextChannel := by decide +kernel
  have iX2 : ∀ w ∈ wsX20, w ∈ wsX2_nextChannel := by decide +kernel
  have lk37 := hts (.fieldLink RX2 37 "DownFrames" "channel0" "LDownFrames$Channel;") (by decide +kernel)
  have lk71 : (Cond.fieldLinkNest RX2 71 "DownFrames$Channel" "size" "I" "DownFrames").before ([.ref x] : List Value).toArray s = true := va_Nw.use rfl hN.2.1
  refine lv_aload_n hx hb dX2_nextChannel_0 rfl (lv_at hl 0 rfl) ?_
  refine va_get (D := D) (ci := 2) (v := .ref c0) hx hb hts iX2 hown hK hP 0 rfl rfl 3 (by decide) lk37 (fun _ h => h) rfl dX2_nextChannel_1 ?_
  refine va_getN (D := D) (ci := 1) (v := .int (nI k0)) hx hb hts iX1 hown hK hP 1 rfl rfl 2 (by decide) lk71 (fun _ h => h) rfl dX2_nextChannel_4 ?_
  refine lv_if_le (tgt := 12) hx hb dX2_nextChannel_7 (by decide) (fun cc => absurd cc (nI_nle hk (by omega))) (fun _ => ?_)
  refine lv_iconst (v := 0) hx hb dX2_nextChannel_10 (by decide) ?_
  exact hex _ _ _ _ _ () hS (rfl) hP hD dX2_nextChannel_11

set_option maxHeartbeats 4000000 in
set_option maxRecDepth 100000 in
/-- nextChannel -/
theorem c_x_next1 (l : Launch) (D : va_G) (cA : ClassId) (x len t v c0 c1 fr : Nat) (r0 h0 k0 r1 h1 k1 : Nat) (he : k0 = 0) (hk : 0 < k1) (hbk : k1 ≤ 4096) : MI0 l yX2_nextChannel wsX2_nextChannel { frames := 0, cells := 0, slots := 0, locals := 0 } [.ref x] D [(cA, .int)] [(x, .inr (2, [.int (nI len), .ref t, .ref v, .ref c0, .ref c1, .ref fr])), (c0, .inr (1, [.ref r0, .int (nI h0), .int (nI k0)])), (c1, .inr (1, [.ref r1, .int (nI h1), .int (nI k1)]))] 1 [(x, .inr (2, [.int (nI len), .ref t, .ref v, .ref c0, .ref c1, .ref fr])), (c0, .inr (1, [.ref r0, .int (nI h0), .int (nI k0)])), (c1, .inr (1, [.ref r1, .int (nI h1), .int (nI k1)]))] := by
  refine mt_i (by decide) rfl (Nat.le_of_ble_eq_true rfl) ?_
  intro p e s m below meth c A ls Q hx hb hts hown hml hin hN hK hA hP hD hS hl hex
  have hown : s.vm.findClass RX2 = some m.cls := hown
  have hl : lv_has ls 1 [(0, .ref x)] := hl
  have iX1 : ∀ w ∈ wsX10, w ∈ wsX2_nextChannel := by decide +kernel
  have iX2 : ∀ w ∈ wsX20, w ∈ wsX2_nextChannel := by decide +kernel
  have lk37 := hts (.fieldLink RX2 37 "DownFrames" "channel0" "LDownFrames$Channel;") (by decide +kernel)
  have lk41 := hts (.fieldLink RX2 41 "DownFrames" "channel1" "LDownFrames$Channel;") (by decide +kernel)
  have lk71 : (Cond.fieldLinkNest RX2 71 "DownFrames$Channel" "size" "I" "DownFrames").before ([.ref x] : List Value).toArray s = true := va_Nw.use rfl hN.2.1
  refine lv_aload_n hx hb dX2_nextChannel_0 rfl (lv_at hl 0 rfl) ?_
  refine va_get (D := D) (ci := 2) (v := .ref c0) hx hb hts iX2 hown hK hP 0 rfl rfl 3 (by decide) lk37 (fun _ h => h) rfl dX2_nextChannel_1 ?_
  refine va_getN (D := D) (ci := 1) (v := .int (nI k0)) hx hb hts iX1 hown hK hP 1 rfl rfl 2 (by decide) lk71 (fun _ h => h) rfl dX2_nextChannel_4 ?_
  refine lv_if_le (tgt := 12) hx hb dX2_nextChannel_7 (by decide) (fun _ => ?_) (fun cc => absurd (by rw [he]; decide) cc)
  refine lv_aload_n hx hb dX2_nextChannel_12 rfl (lv_at hl 0 rfl) ?_
  refine va_get (D := D) (ci := 2) (v := .ref c1) hx hb hts iX2 hown hK hP 0 rfl rfl 4 (by decide) lk41 (fun _ h => h) rfl dX2_nextChannel_13 ?_
  refine va_getN (D := D) (ci := 1) (v := .int (nI k1)) hx hb hts iX1 hown hK hP 2 rfl rfl 2 (by decide) lk71 (fun _ h => h) rfl dX2_nextChannel_16 ?_
  refine lv_if_le (tgt := 26) hx hb dX2_nextChannel_19 (by decide) (fun cc => absurd cc (nI_nle hk (by omega))) (fun _ => ?_)
  refine lv_iconst (v := 1) hx hb dX2_nextChannel_22 (by decide) ?_
  refine lv_goto (tgt := 28) hx hb dX2_nextChannel_23 (by decide) ?_
  exact hex _ _ _ _ _ () hS (rfl) hP hD dX2_nextChannel_28

set_option maxHeartbeats 4000000 in
set_option maxRecDepth 100000 in
/-- nextChannel -/
theorem c_x_next7 (l : Launch) (D : va_G) (cA : ClassId) (x len t v c0 c1 fr : Nat) (r0 h0 k0 r1 h1 k1 : Nat) (he : k0 = 0) (hf : k1 = 0) : MI0 l yX2_nextChannel wsX2_nextChannel { frames := 0, cells := 0, slots := 0, locals := 0 } [.ref x] D [(cA, .int)] [(x, .inr (2, [.int (nI len), .ref t, .ref v, .ref c0, .ref c1, .ref fr])), (c0, .inr (1, [.ref r0, .int (nI h0), .int (nI k0)])), (c1, .inr (1, [.ref r1, .int (nI h1), .int (nI k1)]))] 7 [(x, .inr (2, [.int (nI len), .ref t, .ref v, .ref c0, .ref c1, .ref fr])), (c0, .inr (1, [.ref r0, .int (nI h0), .int (nI k0)])), (c1, .inr (1, [.ref r1, .int (nI h1), .int (nI k1)]))] := by
  refine mt_i (by decide) rfl (Nat.le_of_ble_eq_true rfl) ?_
  intro p e s m below meth c A ls Q hx hb hts hown hml hin hN hK hA hP hD hS hl hex
  have hown : s.vm.findClass RX2 = some m.cls := hown
  have hl : lv_has ls 1 [(0, .ref x)] := hl
  have iX1 : ∀ w ∈ wsX10, w ∈ wsX2_nextChannel := by decide +kernel
  have iX2 : ∀ w ∈ wsX20, w ∈ wsX2_nextChannel := by decide +kernel
  have lk37 := hts (.fieldLink RX2 37 "DownFrames" "channel0" "LDownFrames$Channel;") (by decide +kernel)
  have lk41 := hts (.fieldLink RX2 41 "DownFrames" "channel1" "LDownFrames$Channel;") (by decide +kernel)
  have lk71 : (Cond.fieldLinkNest RX2 71 "DownFrames$Channel" "size" "I" "DownFrames").before ([.ref x] : List Value).toArray s = true := va_Nw.use rfl hN.2.1
  refine lv_aload_n hx hb dX2_nextChannel_0 rfl (lv_at hl 0 rfl) ?_
  refine va_get (D := D) (ci := 2) (v := .ref c0) hx hb hts iX2 hown hK hP 0 rfl rfl 3 (by decide) lk37 (fun _ h => h) rfl dX2_nextChannel_1 ?_
  refine va_getN (D := D) (ci := 1) (v := .int (nI k0)) hx hb hts iX1 hown hK hP 1 rfl rfl 2 (by decide) lk71 (fun _ h => h) rfl dX2_nextChannel_4 ?_
  refine lv_if_le (tgt := 12) hx hb dX2_nextChannel_7 (by decide) (fun _ => ?_) (fun cc => absurd (by rw [he]; decide) cc)
  refine lv_aload_n hx hb dX2_nextChannel_12 rfl (lv_at hl 0 rfl) ?_
  refine va_get (D := D) (ci := 2) (v := .ref c1) hx hb hts iX2 hown hK hP 0 rfl rfl 4 (by decide) lk41 (fun _ h => h) rfl dX2_nextChannel_13 ?_
  refine va_getN (D := D) (ci := 1) (v := .int (nI k1)) hx hb hts iX1 hown hK hP 2 rfl rfl 2 (by decide) lk71 (fun _ h => h) rfl dX2_nextChannel_16 ?_
  refine lv_if_le (tgt := 26) hx hb dX2_nextChannel_19 (by decide) (fun _ => ?_) (fun cc => absurd (by rw [hf]; decide) cc)
  refine lv_bipush (v := 7) hx hb dX2_nextChannel_26 (by decide +kernel) ?_
  exact hex _ _ _ _ _ () hS (rfl) hP hD dX2_nextChannel_28

set_option maxHeartbeats 4000000 in
set_option maxRecDepth 100000 in
/-- holdsPacket -/
theorem c_x_holds (l : Launch) (D : va_G) (cA : ClassId) (h r n : Nat) (f : Nat → Int32) (k : Nat) (hk : k ≤ n) (hn : n < 2 ^ 31) : MI0 l yX2_holdsPacket wsX2_holdsPacket { frames := 1, cells := 0, slots := 0, locals := 21 } [.ref h] D [(cA, .int)] [(h, .inr (0, [.ref r, .int (nI k)])), (r, .inl (cA, n, .inl f))] (hpk f k) [(h, .inr (0, [.ref r, .int (nI k)])), (r, .inl (cA, n, .inl f))] := by
  refine mt_z (by decide) rfl (Nat.le_of_ble_eq_true rfl) (fun v u h => by have h : v = hpk f k := h; rw [h]; unfold hpk; split; exact Or.inl rfl; split; exact Or.inr rfl; exact Or.inl rfl) ?_
  intro p e s m below meth c A ls Q hx hb hts hown hml hin hN hK hA hP hD hS hl hex
  have hown : s.vm.findClass RX2 = some m.cls := hown
  have hl : lv_has ls 2 [(0, .ref h)] := hl
  have iX0 : ∀ w ∈ wsX00, w ∈ wsX2_holdsPacket := by decide +kernel
  have lk63 : (Cond.fieldLinkNest RX2 63 "DownFrames$Bytes" "size" "I" "DownFrames").before ([.ref h] : List Value).toArray s = true := va_Nw.use rfl hN.1
  refine lv_aload_n hx hb dX2_holdsPacket_0 rfl (lv_at hl 0 rfl) ?_
  refine va_getN (D := D) (ci := 0) (v := .int (nI k)) hx hb hts iX0 hown hK hP 0 rfl rfl 1 (by decide) lk63 (fun _ h => h) rfl dX2_holdsPacket_1 ?_
  refine lv_bipush (v := 7) hx hb dX2_holdsPacket_4 (by decide +kernel) ?_
  refine lv_icmp_ge (tgt := 11) hx hb dX2_holdsPacket_6 (by decide) (fun z1 => ?_) (fun z1 => ?_)
  · have h7 : 7 ≤ k := Nat.not_lt.mp (fun q => nI_ge (b := 7) q (by decide) z1)
    refine lv_aload_n hx hb dX2_holdsPacket_11 rfl (lv_at hl 0 rfl) ?_
    refine lv_iconst (v := 4) hx hb dX2_holdsPacket_12 (by decide) ?_
    refine cl0_vi ⟨hx, hb, hml, hown, hts⟩ (c_by_at l D cA h r n f k 4 hk hn) (cwV 1 hts gX2_holdsPacket_X0_at rfl rfl rfl (by decide +kernel) ⟨Nat.le_of_ble_eq_true rfl, Nat.le_of_ble_eq_true rfl⟩) (ci := 0) (q0 := 0) rfl rfl hN hK hP hD hS hA [0, 1] [] [0, 1] [] [(h, .inr (0, [.ref r, .int (nI k)])), (r, .inl (cA, n, .inl f))] [] rfl rfl rfl rfl (by decide) rfl rfl rfl hl.1 rfl (Nat.le_of_ble_eq_true rfl) dX2_holdsPacket_13 ⟨Nat.le_of_ble_eq_true rfl, Nat.le_of_ble_eq_true rfl⟩ (fun H locs hP hD hS => ?_)
    refine tp_i (y := f 4) ((at_val (j := 4) (by decide) (nI_pos (by decide)) (nI_ge (by omega) (by omega))).symm) ?_
    refine lv_sipush (v := 256) hx hb dX2_holdsPacket_16 (by decide +kernel) ?_
    refine lv_imul hx hb dX2_holdsPacket_19 ?_
    refine lv_aload_n hx hb dX2_holdsPacket_20 rfl (lv_at hl 0 rfl) ?_
    refine lv_iconst (v := 5) hx hb dX2_holdsPacket_21 (by decide) ?_
    refine cl0_vi ⟨hx, hb, hml, hown, hts⟩ (c_by_at l D cA h r n f k 5 hk hn) (cwV 1 hts gX2_holdsPacket_X0_at rfl rfl rfl (by decide +kernel) ⟨Nat.le_of_ble_eq_true rfl, Nat.le_of_ble_eq_true rfl⟩) (ci := 0) (q0 := 0) rfl rfl hN hK hP hD hS hA [0, 1] [] [0, 1] [] [(h, .inr (0, [.ref r, .int (nI k)])), (r, .inl (cA, n, .inl f))] [.int ((f 4) * 256)] rfl rfl rfl rfl (by decide) rfl rfl rfl hl.1 rfl (Nat.le_of_ble_eq_true rfl) dX2_holdsPacket_22 ⟨Nat.le_of_ble_eq_true rfl, Nat.le_of_ble_eq_true rfl⟩ (fun H locs hP hD hS => ?_)
    refine tp_i (y := f 5) ((at_val (j := 5) (by decide) (nI_pos (by decide)) (nI_ge (by omega) (by omega))).symm) ?_
    refine lv_iadd hx hb dX2_holdsPacket_25 ?_
    refine lv_iconst (v := 1) hx hb dX2_holdsPacket_26 (by decide) ?_
    refine lv_iadd hx hb dX2_holdsPacket_27 ?_
    refine lv_istore_n (lv' := [(1, .int ((((f 4) * 256) + (f 5)) + 1)), (0, .ref h)]) hx hb dX2_holdsPacket_28 rfl hl (by decide) rfl (fun ls hl => ?_)
    refine lv_aload_n hx hb dX2_holdsPacket_29 rfl (lv_at hl 1 rfl) ?_
    refine va_getN (D := D) (ci := 0) (v := .int (nI k)) hx hb hts iX0 hown hK hP 0 rfl rfl 1 (by decide) lk63 (fun _ h => h) rfl dX2_holdsPacket_30 ?_
    refine lv_bipush (v := 6) hx hb dX2_holdsPacket_33 (by decide +kernel) ?_
    refine lv_iload_n hx hb dX2_holdsPacket_35 rfl (lv_at hl 0 rfl) ?_
    refine lv_iadd hx hb dX2_holdsPacket_36 ?_
    refine lv_icmp_ne (tgt := 44) hx hb dX2_holdsPacket_37 (by decide) (fun z2 => ?_) (fun z2 => ?_)
    · refine lv_iconst (v := 0) hx hb dX2_holdsPacket_44 (by decide) ?_
      exact hex _ _ _ _ _ () hS (by unfold hpk; rw [if_neg (by omega), if_neg z2]) hP hD dX2_holdsPacket_45
    · refine lv_iconst (v := 1) hx hb dX2_holdsPacket_40 (by decide) ?_
      refine lv_goto (tgt := 45) hx hb dX2_holdsPacket_41 (by decide) ?_
      exact hex _ _ _ _ _ () hS (by unfold hpk; rw [if_neg (by omega), if_pos z2]) hP hD dX2_holdsPacket_45
  · refine lv_iconst (v := 0) hx hb dX2_holdsPacket_9 (by decide) ?_
    exact hex _ _ _ _ _ () hS ((if_pos (Nat.not_le.mp (fun q => z1 (nI_le (a := 7) q (by omega))))).symm) hP hD dX2_holdsPacket_10
