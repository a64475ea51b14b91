set_option maxHeartbeats 4000000 in
set_option maxRecDepth 100000 in
/-- Bytes(room) -/
theorem c_by_init (l : Launch) (D : va_G) (cA : ClassId) (h n N : Nat) (hn : n < 2 ^ 27) (hN : n ≤ N) : MV (S := Nat) l yX0_init wsX0_init { frames := 1, cells := 1, slots := N, locals := 12 } [.ref h, .int (nI n)] D [(cA, .int)] [(h, .inr (0, [.null, .int 0]))] (fun _ => True) (fun r => [(h, .inr (0, [.ref r, .int (nI 0)])), (r, .inl (cA, n, .inl (fun _ => 0)))]) 1 N := by
  refine mt_v (by decide) rfl (Nat.le_of_ble_eq_true rfl) ?_
  intro p e s m below meth c A ls Q hx hb hts hown hml hin hN hK hA hP hD hS hl hex
  have hown : s.vm.findClass RX0 = some m.cls := hown
  have hl : lv_has ls 2 [(0, .ref h), (1, .int (nI n))] := hl
  have iX0 : ∀ w ∈ wsX00, w ∈ wsX0_init := by decide +kernel
  have la := hts (.arrayClass .int) (by decide +kernel)
  have lk15 := hts (.fieldLink RX0 15 "DownFrames$Bytes" "size" "I") (by decide +kernel)
  have lk9 := hts (.fieldLink RX0 9 "DownFrames$Bytes" "row" "[I") (by decide +kernel)
  have lo1 := hts (.methodLink RX0 3 objectInit) (by decide +kernel)
  have lo2 := hts (.instanceMethod objectInit) (by decide +kernel)
  have lo3 : (Cond.code objectInit ⟨#[0xb1]⟩ 1 none).before _ s = true := hts _ (List.mem_of_getElem? (i := 3) rfl)
  refine lv_aload_n hx hb dX0_init_0 rfl (lv_at hl 0 rfl) ?_
  refine W.objInit hx hb hown lo1 lo2 lo3 rfl (by rw [hml]; exact hl.1) rfl dX0_init_1 (Nat.le_of_ble_eq_true rfl) (Nat.le_of_ble_eq_true rfl) ?_
  refine W.eq (g2 := F0 m 4 ls []) rfl ?_
  refine lv_aload_n hx hb dX0_init_4 rfl (lv_at hl 0 rfl) ?_
  refine lv_iload_n hx hb dX0_init_5 rfl (lv_at hl 1 rfl) ?_
  refine nw_i (n := n) hx hb la hK 0 rfl hP hD hS hA (by omega) (Nat.le_of_ble_eq_true rfl) (by show 0 + n ≤ N; omega) dX0_init_6 (fun r H hP hD hS => ?_)
  have hP : va_P D vwCl [(h, .inr (0, [.null, .int 0])), (r, .inl (cA, n, .inl (fun _ => 0)))] H := hP
  have hD : va_D A [(h, .inr (0, [.null, .int 0])), (r, .inl (cA, n, .inl (fun _ => 0)))] := hD
  refine va_putF (D := D) (ci := 0) (v := .ref r) (ty := (.array .int)) hx hb hts iX0 tyX0 tyX0_ok nmX0 hown hK hP hD hS 0 rfl rfl 0 (by decide) lk9 (fun _ h => h) rfl hin rfl (by decide +kernel) rfl rfl (Nat.le_of_ble_eq_true rfl) dX0_init_8 (fun H locs hP hD hS => ?_)
  have hP : va_P D vwCl [(h, .inr (0, [.ref r, .int 0])), (r, .inl (cA, n, .inl (fun _ => 0)))] H := hP
  have hD : va_D A [(h, .inr (0, [.ref r, .int 0])), (r, .inl (cA, n, .inl (fun _ => 0)))] := hD
  refine lv_aload_n hx hb dX0_init_11 rfl (lv_at hl 0 rfl) ?_
  refine lv_iconst (v := 0) hx hb dX0_init_12 (by decide) ?_
  refine va_put (D := D) (ci := 0) (v := .int 0) (ty := (.int)) hx hb hts iX0 tyX0 tyX0_ok nmX0 hown hK hP hD hS 0 rfl rfl 1 (by decide) lk15 (fun _ h => h) rfl (by decide +kernel) rfl rfl (Nat.le_of_ble_eq_true rfl) dX0_init_13 (fun H locs hP hD hS => ?_)
  have hP : va_P D vwCl [(h, .inr (0, [.ref r, .int 0])), (r, .inl (cA, n, .inl (fun _ => 0)))] H := hP
  have hD : va_D A [(h, .inr (0, [.ref r, .int 0])), (r, .inl (cA, n, .inl (fun _ => 0)))] := hD
  have hP : va_P D vwCl [(h, .inr (0, [.ref r, .int (nI 0)])), (r, .inl (cA, n, .inl (fun _ => 0)))] H := hP
  have hD : va_D A [(h, .inr (0, [.ref r, .int (nI 0)])), (r, .inl (cA, n, .inl (fun _ => 0)))] := hD
  refine W.widen (k := 1) (n := N) (by omega) (by omega) ?_
  exact hex _ _ _ _ r hS (trivial) hP hD dX0_init_16

set_option maxHeartbeats 4000000 in
set_option maxRecDepth 100000 in
/-- room() -/
theorem c_by_room (l : Launch) (D : va_G) (cA : ClassId) (h r n : Nat) (f : Nat → Int32) (k : Nat) (hk : k ≤ n) : MI0 l yX0_room wsX0_room { frames := 0, cells := 0, slots := 0, locals := 0 } [.ref h] D [(cA, .int)] [(h, .inr (0, [.ref r, .int (nI k)])), (r, .inl (cA, n, .inl f))] (nI (n - k)) [(h, .inr (0, [.ref r, .int (nI k)])), (r, .inl (cA, n, .inl f))] := by
  refine mt_i (by decide) rfl (Nat.le_of_ble_eq_true rfl) ?_
  intro p e s m below meth c A ls Q hx hb hts hown hml hin hN hK hA hP hD hS hl hex
  have hown : s.vm.findClass RX0 = some m.cls := hown
  have hl : lv_has ls 1 [(0, .ref h)] := hl
  have iX0 : ∀ w ∈ wsX00, w ∈ wsX0_room := by decide +kernel
  have lk15 := hts (.fieldLink RX0 15 "DownFrames$Bytes" "size" "I") (by decide +kernel)
  have lk9 := hts (.fieldLink RX0 9 "DownFrames$Bytes" "row" "[I") (by decide +kernel)
  refine lv_aload_n hx hb dX0_room_0 rfl (lv_at hl 0 rfl) ?_
  refine va_get (D := D) (ci := 0) (v := .ref r) hx hb hts iX0 hown hK hP 0 rfl rfl 0 (by decide) lk9 (fun _ h => h) rfl dX0_room_1 ?_
  refine va_alen hx hb hK hP 1 0 rfl rfl (v := nI n) rfl dX0_room_4 ?_
  refine lv_aload_n hx hb dX0_room_5 rfl (lv_at hl 0 rfl) ?_
  refine va_get (D := D) (ci := 0) (v := .int (nI k)) hx hb hts iX0 hown hK hP 0 rfl rfl 1 (by decide) lk15 (fun _ h => h) rfl dX0_room_6 ?_
  refine lv_isub hx hb dX0_room_9 ?_
  refine tp_i (y := nI (n - k)) (pk_sub hk) ?_
  exact hex _ _ _ _ _ () hS (rfl) hP hD dX0_room_10

set_option maxHeartbeats 4000000 in
set_option maxRecDepth 100000 in
/-- clear() -/
theorem c_by_clear (l : Launch) (D : va_G) (cA : ClassId) (h r n : Nat) (f : Nat → Int32) (k : Nat) : MV0 l yX0_clear wsX0_clear { frames := 0, cells := 0, slots := 0, locals := 0 } [.ref h] D [(cA, .int)] [(h, .inr (0, [.ref r, .int (nI k)])), (r, .inl (cA, n, .inl f))] [(h, .inr (0, [.ref r, .int (nI 0)])), (r, .inl (cA, n, .inl f))] := by
  refine mt_v (by decide) rfl (Nat.le_of_ble_eq_true rfl) ?_
  intro p e s m below meth c A ls Q hx hb hts hown hml hin hN hK hA hP hD hS hl hex
  have hown : s.vm.findClass RX0 = some m.cls := hown
  have hl : lv_has ls 1 [(0, .ref h)] := hl
  have iX0 : ∀ w ∈ wsX00, w ∈ wsX0_clear := by decide +kernel
  have lk15 := hts (.fieldLink RX0 15 "DownFrames$Bytes" "size" "I") (by decide +kernel)
  refine lv_aload_n hx hb dX0_clear_0 rfl (lv_at hl 0 rfl) ?_
  refine lv_iconst (v := 0) hx hb dX0_clear_1 (by decide) ?_
  refine va_put (D := D) (ci := 0) (v := .int 0) (ty := (.int)) hx hb hts iX0 tyX0 tyX0_ok nmX0 hown hK hP hD hS 0 rfl rfl 1 (by decide) lk15 (fun _ h => h) rfl (by decide +kernel) rfl rfl (Nat.le_of_ble_eq_true rfl) dX0_clear_2 (fun H locs hP hD hS => ?_)
  have hP : va_P D vwCl [(h, .inr (0, [.ref r, .int 0])), (r, .inl (cA, n, .inl f))] H := hP
  have hD : va_D A [(h, .inr (0, [.ref r, .int 0])), (r, .inl (cA, n, .inl f))] := hD
  have hP : va_P D vwCl [(h, .inr (0, [.ref r, .int (nI 0)])), (r, .inl (cA, n, .inl f))] H := hP
  have hD : va_D A [(h, .inr (0, [.ref r, .int (nI 0)])), (r, .inl (cA, n, .inl f))] := hD
  exact hex _ _ _ _ () hS (trivial) hP hD dX0_clear_5

set_option maxHeartbeats 4000000 in
set_option maxRecDepth 100000 in
/-- put8(x) -/
theorem c_by_put8 (l : Launch) (D : va_G) (cA : ClassId) (h r n : Nat) (f : Nat → Int32) (k : Nat) (x : Int32) (hk : k < n) (hn : n < 2 ^ 31) : MV0 l yX0_put8 wsX0_put8 { frames := 0, cells := 0, slots := 0, locals := 0 } [.ref h, .int x] D [(cA, .int)] [(h, .inr (0, [.ref r, .int (nI k)])), (r, .inl (cA, n, .inl f))] [(h, .inr (0, [.ref r, .int (nI (k + 1))])), (r, .inl (cA, n, .inl (upd f k (x &&& 255))))] := by
  refine mt_v (by decide) rfl (Nat.le_of_ble_eq_true rfl) ?_
  intro p e s m below meth c A ls Q hx hb hts hown hml hin hN hK hA hP hD hS hl hex
  have hown : s.vm.findClass RX0 = some m.cls := hown
  have hl : lv_has ls 2 [(0, .ref h), (1, .int x)] := hl
  have iX0 : ∀ w ∈ wsX00, w ∈ wsX0_put8 := by decide +kernel
  have lk15 := hts (.fieldLink RX0 15 "DownFrames$Bytes" "size" "I") (by decide +kernel)
  have lk9 := hts (.fieldLink RX0 9 "DownFrames$Bytes" "row" "[I") (by decide +kernel)
  refine lv_aload_n hx hb dX0_put8_0 rfl (lv_at hl 0 rfl) ?_
  refine va_get (D := D) (ci := 0) (v := .int (nI k)) hx hb hts iX0 hown hK hP 0 rfl rfl 1 (by decide) lk15 (fun _ h => h) rfl dX0_put8_1 ?_
  refine lv_aload_n hx hb dX0_put8_4 rfl (lv_at hl 0 rfl) ?_
  refine va_get (D := D) (ci := 0) (v := .ref r) hx hb hts iX0 hown hK hP 0 rfl rfl 0 (by decide) lk9 (fun _ h => h) rfl dX0_put8_5 ?_
  refine va_alen hx hb hK hP 1 0 rfl rfl (v := nI n) rfl dX0_put8_8 ?_
  refine lv_icmp_ge (tgt := 36) hx hb dX0_put8_9 (by decide) (fun cc => absurd cc (nI_ge hk hn)) (fun _ => ?_)
  refine lv_aload_n hx hb dX0_put8_12 rfl (lv_at hl 0 rfl) ?_
  refine va_get (D := D) (ci := 0) (v := .ref r) hx hb hts iX0 hown hK hP 0 rfl rfl 0 (by decide) lk9 (fun _ h => h) rfl dX0_put8_13 ?_
  refine lv_aload_n hx hb dX0_put8_16 rfl (lv_at hl 0 rfl) ?_
  refine va_get (D := D) (ci := 0) (v := .int (nI k)) hx hb hts iX0 hown hK hP 0 rfl rfl 1 (by decide) lk15 (fun _ h => h) rfl dX0_put8_17 ?_
  refine lv_iload_n hx hb dX0_put8_20 rfl (lv_at hl 1 rfl) ?_
  refine lv_sipush (v := 255) hx hb dX0_put8_21 (by decide +kernel) ?_
  refine lv_iand hx hb dX0_put8_24 ?_
  refine as_i (k := k) (x := (x &&& 255)) hx hb hK hP hD hS 1 0 rfl rfl (hk) (hn) dX0_put8_25 (fun H locs hP hD hS => ?_)
  have hP : va_P D vwCl [(h, .inr (0, [.ref r, .int (nI k)])), (r, .inl (cA, n, .inl (upd f k (x &&& 255))))] H := hP
  have hD : va_D A [(h, .inr (0, [.ref r, .int (nI k)])), (r, .inl (cA, n, .inl (upd f k (x &&& 255))))] := hD
  refine lv_aload_n hx hb dX0_put8_26 rfl (lv_at hl 0 rfl) ?_
  refine lv_dup hx hb dX0_put8_27 rfl ?_
  refine va_get (D := D) (ci := 0) (v := .int (nI k)) hx hb hts iX0 hown hK hP 0 rfl rfl 1 (by decide) lk15 (fun _ h => h) rfl dX0_put8_28 ?_
  refine lv_iconst (v := 1) hx hb dX0_put8_31 (by decide) ?_
  refine lv_iadd hx hb dX0_put8_32 ?_
  refine tp_i (y := nI (k + 1)) (nI_1 k) ?_
  refine va_put (D := D) (ci := 0) (v := .int (nI (k + 1))) (ty := (.int)) hx hb hts iX0 tyX0 tyX0_ok nmX0 hown hK hP hD hS 0 rfl rfl 1 (by decide) lk15 (fun _ h => h) rfl (by decide +kernel) rfl rfl (Nat.le_of_ble_eq_true rfl) dX0_put8_33 (fun H locs hP hD hS => ?_)
  have hP : va_P D vwCl [(h, .inr (0, [.ref r, .int (nI (k + 1))])), (r, .inl (cA, n, .inl (upd f k (x &&& 255))))] H := hP
  have hD : va_D A [(h, .inr (0, [.ref r, .int (nI (k + 1))])), (r, .inl (cA, n, .inl (upd f k (x &&& 255))))] := hD
  exact hex _ _ _ _ () hS (trivial) hP hD dX0_put8_36

set_option maxHeartbeats 4000000 in
set_option maxRecDepth 100000 in
/-- put16(x) -/
theorem c_by_put16 (l : Launch) (D : va_G) (cA : ClassId) (h r n : Nat) (f : Nat → Int32) (k : Nat) (x : Int32) (hk : k + 1 < n) (hn : n < 2 ^ 31) : MV0 l yX0_put16 wsX0_put16 { frames := 1, cells := 0, slots := 0, locals := 21 } [.ref h, .int x] D [(cA, .int)] [(h, .inr (0, [.ref r, .int (nI k)])), (r, .inl (cA, n, .inl f))] [(h, .inr (0, [.ref r, .int (nI (k + 2))])), (r, .inl (cA, n, .inl (upd (upd f k (ush x 8 &&& 255)) (k + 1) (x &&& 255))))] := by
  refine mt_v (by decide) rfl (Nat.le_of_ble_eq_true rfl) ?_
  intro p e s m below meth c A ls Q hx hb hts hown hml hin hN hK hA hP hD hS hl hex
  have hown : s.vm.findClass RX0 = some m.cls := hown
  have hl : lv_has ls 2 [(0, .ref h), (1, .int x)] := hl
  refine lv_aload_n hx hb dX0_put16_0 rfl (lv_at hl 0 rfl) ?_
  refine lv_iload_n hx hb dX0_put16_1 rfl (lv_at hl 1 rfl) ?_
  refine lv_bipush (v := 8) hx hb dX0_put16_2 (by decide +kernel) ?_
  refine lv_iushr (v := ush x 8) hx hb dX0_put16_4 rfl ?_
  refine cl0_vv ⟨hx, hb, hml, hown, hts⟩ (c_by_put8 l D cA h r n f k (ush x 8) (by omega) hn) (cwV 1 hts gX0_put16_X0_put8 rfl rfl rfl (by decide +kernel) ⟨Nat.le_of_ble_eq_true rfl, Nat.le_of_ble_eq_true rfl⟩) (ci := 0) (q0 := 0) rfl rfl hN hK hP hD hS hA [0, 1] [] [0, 1] [] [(h, .inr (0, [.ref r, .int (nI (k + 1))])), (r, .inl (cA, n, .inl (upd f k (ush x 8 &&& 255))))] [] rfl rfl rfl rfl (by decide) rfl rfl rfl hl.1 rfl (Nat.le_of_ble_eq_true rfl) dX0_put16_5 ⟨Nat.le_of_ble_eq_true rfl, Nat.le_of_ble_eq_true rfl⟩ (fun H locs hP hD hS => ?_)
  refine lv_aload_n hx hb dX0_put16_8 rfl (lv_at hl 0 rfl) ?_
  refine lv_iload_n hx hb dX0_put16_9 rfl (lv_at hl 1 rfl) ?_
  refine cl0_vv ⟨hx, hb, hml, hown, hts⟩ (c_by_put8 l D cA h r n (upd f k (ush x 8 &&& 255)) (k + 1) x hk hn) (cwV 1 hts gX0_put16_X0_put8 rfl rfl rfl (by decide +kernel) ⟨Nat.le_of_ble_eq_true rfl, Nat.le_of_ble_eq_true rfl⟩) (ci := 0) (q0 := 0) rfl rfl hN hK hP hD hS hA [0, 1] [] [0, 1] [] [(h, .inr (0, [.ref r, .int (nI (k + 2))])), (r, .inl (cA, n, .inl (upd (upd f k (ush x 8 &&& 255)) (k + 1) (x &&& 255))))] [] rfl rfl rfl rfl (by decide) rfl rfl rfl hl.1 rfl (Nat.le_of_ble_eq_true rfl) dX0_put16_10 ⟨Nat.le_of_ble_eq_true rfl, Nat.le_of_ble_eq_true rfl⟩ (fun H locs hP hD hS => ?_)
  exact hex _ _ _ _ () hS (trivial) hP hD dX0_put16_13

set_option maxHeartbeats 4000000 in
set_option maxRecDepth 100000 in
/-- at(x) -/
theorem c_by_at (l : Launch) (D : va_G) (cA : ClassId) (h r n : Nat) (f : Nat → Int32) (k : Nat) (x : Int32) (hk : k ≤ n) (hn : n < 2 ^ 31) : MI0 l yX0_at wsX0_at { frames := 0, cells := 0, slots := 0, locals := 0 } [.ref h, .int x] D [(cA, .int)] [(h, .inr (0, [.ref r, .int (nI k)])), (r, .inl (cA, n, .inl f))] (at_v f k x) [(h, .inr (0, [.ref r, .int (nI k)])), (r, .inl (cA, n, .inl f))] := by
  refine mt_i (by decide) rfl (Nat.le_of_ble_eq_true rfl) ?_
  intro p e s m below meth c A ls Q hx hb hts hown hml hin hN hK hA hP hD hS hl hex
  have hown : s.vm.findClass RX0 = some m.cls := hown
  have hl : lv_has ls 2 [(0, .ref h), (1, .int x)] := hl
  have iX0 : ∀ w ∈ wsX00, w ∈ wsX0_at := by decide +kernel
  have lk15 := hts (.fieldLink RX0 15 "DownFrames$Bytes" "size" "I") (by decide +kernel)
  have lk9 := hts (.fieldLink RX0 9 "DownFrames$Bytes" "row" "[I") (by decide +kernel)
  refine lv_iload_n hx hb dX0_at_0 rfl (lv_at hl 1 rfl) ?_
  refine lv_if_lt (tgt := 21) hx hb dX0_at_1 (by decide) (fun c1 => ?_) (fun c1 => ?_)
  · refine lv_iconst (v := (-1)) hx hb dX0_at_21 (by decide) ?_
    exact hex _ _ _ _ _ () hS ((if_neg (fun q => q.1 c1)).symm) hP hD dX0_at_22
  · refine lv_iload_n hx hb dX0_at_4 rfl (lv_at hl 1 rfl) ?_
    refine lv_aload_n hx hb dX0_at_5 rfl (lv_at hl 0 rfl) ?_
    refine va_get (D := D) (ci := 0) (v := .int (nI k)) hx hb hts iX0 hown hK hP 0 rfl rfl 1 (by decide) lk15 (fun _ h => h) rfl dX0_at_6 ?_
    refine lv_icmp_ge (tgt := 21) hx hb dX0_at_9 (by decide) (fun c2 => ?_) (fun c2 => ?_)
    · refine lv_iconst (v := (-1)) hx hb dX0_at_21 (by decide) ?_
      exact hex _ _ _ _ _ () hS ((if_neg (fun q => q.2 c2)).symm) hP hD dX0_at_22
    · obtain ⟨j, hj, rfl⟩ := nI_of c1
      have hjk : j < k := Nat.not_le.mp (fun q => c2 (nI_le q hj))
      refine lv_aload_n hx hb dX0_at_12 rfl (lv_at hl 0 rfl) ?_
      refine va_get (D := D) (ci := 0) (v := .ref r) hx hb hts iX0 hown hK hP 0 rfl rfl 0 (by decide) lk9 (fun _ h => h) rfl dX0_at_13 ?_
      refine lv_iload_n hx hb dX0_at_16 rfl (lv_at hl 1 rfl) ?_
      refine al_i (k := j) hx hb hK hP 1 0 rfl rfl (by omega) (hn) dX0_at_17 ?_
      refine lv_goto (tgt := 22) hx hb dX0_at_18 (by decide) ?_
      exact hex _ _ _ _ _ () hS (at_val hj c1 c2) hP hD dX0_at_22

set_option maxHeartbeats 4000000 in
set_option maxRecDepth 100000 in
/-- check() -/
theorem c_by_check (l : Launch) (D : va_G) (cA : ClassId) (h r n : Nat) (f : Nat → Int32) (k : Nat) (hk : k ≤ n) (hn : n < 2 ^ 31) : MI0 l yX0_check wsX0_check { frames := 0, cells := 0, slots := 0, locals := 0 } [.ref h] D [(cA, .int)] [(h, .inr (0, [.ref r, .int (nI k)])), (r, .inl (cA, n, .inl f))] (crc f k) [(h, .inr (0, [.ref r, .int (nI k)])), (r, .inl (cA, n, .inl f))] := by
  refine mt_i (by decide) rfl (Nat.le_of_ble_eq_true rfl) ?_
  intro p e s m below meth c A ls Q hx hb hts hown hml hin hN hK hA hP hD hS hl hex
  have hown : s.vm.findClass RX0 = some m.cls := hown
  have hl : lv_has ls 4 [(0, .ref h)] := hl
  have iX0 : ∀ w ∈ wsX00, w ∈ wsX0_check := by decide +kernel
  have k23 := hts (.constant RX0 23 65535) (by decide +kernel)
  have k24 := hts (.constant RX0 24 65536) (by decide +kernel)
  have k25 := hts (.constant RX0 25 69665) (by decide +kernel)
  have lk15 := hts (.fieldLink RX0 15 "DownFrames$Bytes" "size" "I") (by decide +kernel)
  have lk9 := hts (.fieldLink RX0 9 "DownFrames$Bytes" "row" "[I") (by decide +kernel)
  refine lv_ldc hx hb hown k23 dX0_check_0 ?_
  refine lv_istore_n (lv' := [(1, .int 65535), (0, .ref h)]) hx hb dX0_check_2 rfl hl (by decide) rfl (fun ls hl => ?_)
  refine lv_iconst (v := 0) hx hb dX0_check_3 (by decide) ?_
  refine lv_istore_n (lv' := [(2, .int 0), (1, .int 65535), (0, .ref h)]) hx hb dX0_check_4 rfl hl (by decide) rfl (fun ls hl => ?_)
  have inner : ∀ (q i : Nat) (x : Int32) (ls : Array Slot), q ≤ 8 → lv_has ls 4 [(3, .int (nI (8 - q))), (1, .int x), (2, .int (nI i)), (0, .ref h)] → (∀ ls : Array Slot, lv_has ls 4 [(1, .int (crB q x)), (2, .int (nI i)), (0, .ref h)] → W p l e ({ frames := 0, cells := 0, slots := 0, locals := 0 } : Room) s m ([.ref h] : List Value).toArray below meth c s.heap [] 0 0 Q (F0 m 55 ls [])) → W p l e ({ frames := 0, cells := 0, slots := 0, locals := 0 } : Room) s m ([.ref h] : List Value).toArray below meth c s.heap [] 0 0 Q (F0 m 28 ls []) := by
    intro q
    induction q with
    | zero =>
      intro i x ls hq hl k
      refine lv_iload_n hx hb dX0_check_28 rfl (lv_at hl 0 rfl) ?_
      refine lv_bipush (v := 8) hx hb dX0_check_29 (by decide +kernel) ?_
      refine lv_icmp_ge (tgt := 55) hx hb dX0_check_31 (by decide) (fun _ => ?_) (fun cc => absurd (by decide) cc)
      exact k ls (lv_sub hl [1, 2, 3] rfl)
    | succ q ih =>
      intro i x ls hq hl k
      refine lv_iload_n hx hb dX0_check_28 rfl (lv_at hl 0 rfl) ?_
      refine lv_bipush (v := 8) hx hb dX0_check_29 (by decide +kernel) ?_
      refine lv_icmp_ge (tgt := 55) hx hb dX0_check_31 (by decide) (fun cc => absurd cc (nI_ge (b := 8) (by omega) (by decide))) (fun _ => ?_)
      refine lv_iload_n hx hb dX0_check_34 rfl (lv_at hl 1 rfl) ?_
      refine lv_iconst (v := 2) hx hb dX0_check_35 (by decide) ?_
      refine lv_imul hx hb dX0_check_36 ?_
      refine lv_istore_n (lv' := [(1, .int (x * 2)), (3, .int (nI (8 - (q + 1)))), (2, .int (nI i)), (0, .ref h)]) hx hb dX0_check_37 rfl hl (by decide) rfl (fun ls hl => ?_)
      refine lv_iload_n hx hb dX0_check_38 rfl (lv_at hl 0 rfl) ?_
      refine lv_ldc hx hb hown k24 dX0_check_39 ?_
      refine lv_icmp_lt (tgt := 49) hx hb dX0_check_41 (by decide) (fun c1 => ?_) (fun c1 => ?_)
      · refine lv_iinc (v := nI (8 - q)) (lv' := [(3, .int (nI (8 - q))), (1, .int (x * 2)), (2, .int (nI i)), (0, .ref h)]) hx hb dX0_check_49 hl (k := 1) rfl (by rw [show 8 - q = 8 - (q + 1) + 1 by omega]; exact nI_1 _) (by decide) rfl (fun ls hl => ?_)
        refine lv_goto (tgt := 28) hx hb dX0_check_52 (by decide) ?_
        have e : crB q (x * 2) = crB (q + 1) x := by simp only [crB, crS]; rw [if_pos c1]
        exact ih i (x * 2) ls (by omega) (lv_sub hl [0, 1, 2, 3] rfl) (fun ls hl => k ls (by rw [← e]; exact hl))
      · refine lv_iload_n hx hb dX0_check_44 rfl (lv_at hl 0 rfl) ?_
        refine lv_ldc hx hb hown k25 dX0_check_45 ?_
        refine lv_ixor hx hb dX0_check_47 ?_
        refine lv_istore_n (lv' := [(1, .int ((x * 2) ^^^ 69665)), (3, .int (nI (8 - (q + 1)))), (2, .int (nI i)), (0, .ref h)]) hx hb dX0_check_48 rfl hl (by decide) rfl (fun ls hl => ?_)
        refine lv_iinc (v := nI (8 - q)) (lv' := [(3, .int (nI (8 - q))), (1, .int ((x * 2) ^^^ 69665)), (2, .int (nI i)), (0, .ref h)]) hx hb dX0_check_49 hl (k := 1) rfl (by rw [show 8 - q = 8 - (q + 1) + 1 by omega]; exact nI_1 _) (by decide) rfl (fun ls hl => ?_)
        refine lv_goto (tgt := 28) hx hb dX0_check_52 (by decide) ?_
        have e : crB q ((x * 2) ^^^ 69665) = crB (q + 1) x := by simp only [crB, crS]; rw [if_neg c1]
        exact ih i ((x * 2) ^^^ 69665) ls (by omega) (lv_sub hl [0, 1, 2, 3] rfl) (fun ls hl => k ls (by rw [← e]; exact hl))
  have outer : ∀ (d i : Nat) (ls : Array Slot), i + d = k → lv_has ls 4 [(2, .int (nI i)), (1, .int (crc f i)), (0, .ref h)] → W p l e ({ frames := 0, cells := 0, slots := 0, locals := 0 } : Room) s m ([.ref h] : List Value).toArray below meth c s.heap [] 0 0 Q (F0 m 5 ls []) := by
    intro d
    induction d with
    | zero =>
      intro i ls hi hl
      have hi : i = k := hi
      subst hi
      refine lv_iload_n hx hb dX0_check_5 rfl (lv_at hl 0 rfl) ?_
      refine lv_aload_n hx hb dX0_check_6 rfl (lv_at hl 2 rfl) ?_
      refine va_get (D := D) (ci := 0) (v := .int (nI i)) hx hb hts iX0 hown hK hP 0 rfl rfl 1 (by decide) lk15 (fun _ h => h) rfl dX0_check_7 ?_
      refine lv_icmp_ge (tgt := 61) hx hb dX0_check_10 (by decide) (fun _ => ?_) (fun cc => absurd (nI_le (Nat.le_refl _) (by omega)) cc)
      refine lv_iload_n hx hb dX0_check_61 rfl (lv_at hl 1 rfl) ?_
      exact hex _ _ _ _ _ () hS (rfl) hP hD dX0_check_62
    | succ d ih =>
      intro i ls hi hl
      refine lv_iload_n hx hb dX0_check_5 rfl (lv_at hl 0 rfl) ?_
      refine lv_aload_n hx hb dX0_check_6 rfl (lv_at hl 2 rfl) ?_
      refine va_get (D := D) (ci := 0) (v := .int (nI k)) hx hb hts iX0 hown hK hP 0 rfl rfl 1 (by decide) lk15 (fun _ h => h) rfl dX0_check_7 ?_
      refine lv_icmp_ge (tgt := 61) hx hb dX0_check_10 (by decide) (fun cc => absurd cc (nI_ge (by omega) (by omega))) (fun _ => ?_)
      refine lv_iload_n hx hb dX0_check_13 rfl (lv_at hl 1 rfl) ?_
      refine lv_aload_n hx hb dX0_check_14 rfl (lv_at hl 2 rfl) ?_
      refine va_get (D := D) (ci := 0) (v := .ref r) hx hb hts iX0 hown hK hP 0 rfl rfl 0 (by decide) lk9 (fun _ h => h) rfl dX0_check_15 ?_
      refine lv_iload_n hx hb dX0_check_18 rfl (lv_at hl 0 rfl) ?_
      refine al_i (k := i) hx hb hK hP 1 0 rfl rfl (by omega) (hn) dX0_check_19 ?_
      refine lv_sipush (v := 256) hx hb dX0_check_20 (by decide +kernel) ?_
      refine lv_imul hx hb dX0_check_23 ?_
      refine lv_ixor hx hb dX0_check_24 ?_
      refine lv_istore_n (lv' := [(1, .int ((crc f i) ^^^ ((f i) * 256))), (2, .int (nI i)), (0, .ref h)]) hx hb dX0_check_25 rfl hl (by decide) rfl (fun ls hl => ?_)
      refine lv_iconst (v := 0) hx hb dX0_check_26 (by decide) ?_
      refine lv_istore_n (lv' := [(3, .int 0), (1, .int ((crc f i) ^^^ ((f i) * 256))), (2, .int (nI i)), (0, .ref h)]) hx hb dX0_check_27 rfl hl (by decide) rfl (fun ls hl => ?_)
      refine inner 8 i _ ls (by decide) (lv_sub hl [0, 1, 2, 3] rfl) (fun ls hl => ?_)
      refine lv_iinc (v := nI (i + 1)) (lv' := [(2, .int (nI (i + 1))), (1, .int (crc f (i + 1))), (0, .ref h)]) hx hb dX0_check_55 hl (k := 1) rfl (nI_1 _) (by decide) rfl (fun ls hl => ?_)
      refine lv_goto (tgt := 5) hx hb dX0_check_58 (by decide) ?_
      exact ih (i + 1) ls (by omega) (lv_sub hl [0, 1, 2] rfl)
  exact outer k 0 ls (by omega) (lv_sub hl [0, 1, 2] rfl)
