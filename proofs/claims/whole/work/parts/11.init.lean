set_option maxHeartbeats 4000000 in
set_option maxRecDepth 100000 in
/-- DownFrames(length) -/
theorem c_x_init (l : Launch) (D : va_G) (cA : ClassId) (x : Nat) (z : Int32) : MV (S := Nat × Nat × Nat × Nat × Nat × Nat × Nat × Nat × Nat) l yX2_init wsX2_init { frames := 2, cells := 9, slots := 9486, locals := 40 } [.ref x, .int z] D [(cA, .int)] [(x, .inr (2, [.int 0, .null, .null, .null, .null, .null]))] (fun _ => True) (fun u => [(x, .inr (2, [.int (nI (clN z)), .ref (u.1), .ref (u.2.2.1), .ref (u.2.2.2.2.1), .ref (u.2.2.2.2.2.2.1), .ref (u.2.2.2.2.2.2.2.2)])), ((u.1), .inr (0, [.ref (u.2.1), .int (nI 0)])), ((u.2.1), .inl (cA, 1024, .inl (fun _ => 0))), ((u.2.2.1), .inr (0, [.ref (u.2.2.2.1), .int (nI 0)])), ((u.2.2.2.1), .inl (cA, clN z, .inl (fun _ => 0))), ((u.2.2.2.2.1), .inr (1, [.ref (u.2.2.2.2.2.1), .int (nI 0), .int (nI 0)])), ((u.2.2.2.2.2.1), .inl (cA, 4096, .inl (fun _ => 0))), ((u.2.2.2.2.2.2.1), .inr (1, [.ref (u.2.2.2.2.2.2.2.1), .int (nI 0), .int (nI 0)])), ((u.2.2.2.2.2.2.2.1), .inl (cA, 4096, .inl (fun _ => 0))), ((u.2.2.2.2.2.2.2.2), .inl (cA, 4, .inl (fun _ => 0)))]) 9 9486 := by
  refine mt_v (by decide) rfl (Nat.le_of_ble_eq_true rfl) ?_
  intro p e s m below meth c A ls Q hx hb hts hown hml hin hN hK hA hP hD hS hl hex
  have hown : s.vm.findClass RX2 = some m.cls := hown
  have hl : lv_has ls 2 [(0, .ref x), (1, .int z)] := hl
  have iX0 : ∀ w ∈ wsX00, w ∈ wsX2_init := by decide +kernel
  have iX1 : ∀ w ∈ wsX10, w ∈ wsX2_init := by decide +kernel
  have iX2 : ∀ w ∈ wsX20, w ∈ wsX2_init := by decide +kernel
  have imX0 := hts (.instanceMethod yX0_init) (by decide +kernel)
  have imX1 := hts (.instanceMethod yX1_init) (by decide +kernel)
  have la := hts (.arrayClass .int) (by decide +kernel)
  have lk18 := hts (.fieldLink RX2 18 "DownFrames" "length" "I") (by decide +kernel)
  have lk27 := hts (.fieldLink RX2 27 "DownFrames" "tape" "LDownFrames$Bytes;") (by decide +kernel)
  have lk31 := hts (.fieldLink RX2 31 "DownFrames" "latest" "LDownFrames$Bytes;") (by decide +kernel)
  have lk37 := hts (.fieldLink RX2 37 "DownFrames" "channel0" "LDownFrames$Channel;") (by decide +kernel)
  have lk41 := hts (.fieldLink RX2 41 "DownFrames" "channel1" "LDownFrames$Channel;") (by decide +kernel)
  have lk44 := hts (.fieldLink RX2 44 "DownFrames" "frames" "[I") (by decide +kernel)
  have lo1 := hts (.methodLink RX2 1 objectInit) (by decide +kernel)
  have lo2 := hts (.instanceMethod objectInit) (by decide +kernel)
  have lo3 : (Cond.code objectInit ⟨#[0xb1]⟩ 1 none).before _ s = true := hts _ (List.mem_of_getElem? (i := 3) rfl)
  have ml24 := hts (.methodLink RX2 24 yX0_init) (by decide +kernel)
  have ml36 := hts (.methodLink RX2 36 yX1_init) (by decide +kernel)
  have mn1 := hts (.methodLink RX2 9 Lib.Math.min.name) (by decide +kernel)
  have mn2 := hts (.static Lib.Math.min.name) (by decide +kernel)
  have mn4 : (Cond.code Lib.Math.min.name Lib.Math.min.code 2 (some .int)).before _ s = true := hts _ (List.mem_of_getElem? (i := 7) rfl)
  have mx1 := hts (.methodLink RX2 15 Lib.Math.max.name) (by decide +kernel)
  have mx2 := hts (.static Lib.Math.max.name) (by decide +kernel)
  have mx4 : (Cond.code Lib.Math.max.name Lib.Math.max.code 2 (some .int)).before _ s = true := hts _ (List.mem_of_getElem? (i := 10) rfl)
  have mz := hts (.initialized "java/lang/Math") (by decide +kernel)
  have niX0 := hts (.instantiable RX0 2) (by decide +kernel)
  have niX1 := hts (.instantiable RX1 3) (by decide +kernel)
  have nl22 := hts (.classLink RX2 22 RX0) (by decide +kernel)
  have nl34 := hts (.classLink RX2 34 RX1) (by decide +kernel)
  have nzX0 := hts (.initialized RX0) (by decide +kernel)
  have nzX1 := hts (.initialized RX1) (by decide +kernel)
  obtain ⟨e1, e2, e3⟩ := clI_nat z
  obtain ⟨len, hlen⟩ : ∃ n, n = clN z := ⟨_, rfl⟩
  rw [← hlen] at e1 e2 e3
  refine lv_aload_n hx hb dX2_init_0 rfl (lv_at hl 0 rfl) ?_
  refine W.objInit hx hb hown lo1 lo2 lo3 rfl (by rw [hml]; exact hl.1) rfl dX2_init_1 (Nat.le_of_ble_eq_true rfl) (Nat.le_of_ble_eq_true rfl) ?_
  refine W.eq (g2 := F0 m 4 ls []) rfl ?_
  refine lv_aload_n hx hb dX2_init_4 rfl (lv_at hl 0 rfl) ?_
  refine lv_bipush (v := 64) hx hb dX2_init_5 (by decide +kernel) ?_
  refine lv_sipush (v := 256) hx hb dX2_init_7 (by decide +kernel) ?_
  refine lv_iload_n hx hb dX2_init_10 rfl (lv_at hl 1 rfl) ?_
  refine va_mmin hx hb (by rw [hml]; exact hl.1.symm) hown mn1 mn2 mz mn4 (Nat.le_of_ble_eq_true rfl) (Nat.le_of_ble_eq_true rfl) (Nat.le_of_ble_eq_true rfl) (Nat.le_of_ble_eq_true rfl) dX2_init_11 ?_
  refine va_mmax hx hb (by rw [hml]; exact hl.1.symm) hown mx1 mx2 mz mx4 (Nat.le_of_ble_eq_true rfl) (Nat.le_of_ble_eq_true rfl) (Nat.le_of_ble_eq_true rfl) (Nat.le_of_ble_eq_true rfl) dX2_init_14 ?_
  refine tp_i (y := nI len) (e1) ?_
  refine va_putF (D := D) (ci := 2) (v := .int (nI len)) (ty := (.int)) hx hb hts iX2 tyX2 tyX2_ok nmX2 hown hK hP hD hS 0 rfl rfl 0 (by decide) lk18 (fun _ h => h) rfl hin rfl (by decide +kernel) rfl rfl (Nat.le_of_ble_eq_true rfl) dX2_init_17 (fun H locs hP hD hS => ?_)
  have hP : va_P D vwCl [(x, .inr (2, [.int (nI len), .null, .null, .null, .null, .null]))] H := hP
  have hD : va_D A [(x, .inr (2, [.int (nI len), .null, .null, .null, .null, .null]))] := hD
  refine lv_aload_n hx hb dX2_init_20 rfl (lv_at hl 0 rfl) ?_
  refine va_new (ci := 0) (fs := [.null, .int 0]) (C := RX0) (N := 2) hx hb hts iX0 tyX0 tyX0_ok hown nl22 niX0 nzX0 hK hP hD hS hA rfl (fun j hj => by rcases (show j = 0 ∨ j = 1 by omega) with rfl | rfl <;> rfl) (Nat.le_of_ble_eq_true rfl) (Nat.le_of_ble_eq_true rfl) dX2_init_21 (fun t H hP hD hS => ?_)
  have hP : va_P D vwCl [(x, .inr (2, [.int (nI len), .null, .null, .null, .null, .null])), (t, .inr (0, [.null, .int 0]))] H := hP
  have hD : va_D A [(x, .inr (2, [.int (nI len), .null, .null, .null, .null, .null])), (t, .inr (0, [.null, .int 0]))] := hD
  refine lv_dup hx hb dX2_init_24 rfl ?_
  refine lv_sipush (v := 1024) hx hb dX2_init_25 (by decide +kernel) ?_
  refine tp_i (y := nI 1024) (rfl) ?_
  refine cl_iv (S := Nat) ⟨hx, hb, hml, hown, hts⟩ (c_by_init l D cA t 1024 1024 (by decide) (Nat.le_refl _)) (cwI 1 hts gX2_init_X0_init rfl rfl rfl nzX0 ml24 imX0 rfl (by decide +kernel) ⟨Nat.le_of_ble_eq_true rfl, Nat.le_of_ble_eq_true rfl⟩) hN hK hP hD hS hA [1] [0] [0, 1, 2] [(x, .inr (2, [.int (nI len), .null, .null, .null, .null, .null]))] (fun tr => [(x, .inr (2, [.int (nI len), .null, .null, .null, .null, .null])), (t, .inr (0, [.ref tr, .int (nI 0)])), (tr, .inl (cA, 1024, .inl (fun _ => 0)))]) [.ref t, .ref x] rfl rfl rfl rfl (by decide) (fun _ => rfl) rfl rfl hl.1 rfl (Nat.le_of_ble_eq_true rfl) dX2_init_28 ⟨Nat.le_of_ble_eq_true rfl, Nat.le_of_ble_eq_true rfl⟩ (fun tr H locs _ hP hD hS => ?_)
  have hP : va_P D vwCl [(x, .inr (2, [.int (nI len), .null, .null, .null, .null, .null])), (t, .inr (0, [.ref tr, .int (nI 0)])), (tr, .inl (cA, 1024, .inl (fun _ => 0)))] H := hP
  have hD : va_D A [(x, .inr (2, [.int (nI len), .null, .null, .null, .null, .null])), (t, .inr (0, [.ref tr, .int (nI 0)])), (tr, .inl (cA, 1024, .inl (fun _ => 0)))] := hD
  refine va_putF (D := D) (ci := 2) (v := .ref t) (ty := (.object "DownFrames$Bytes")) hx hb hts iX2 tyX2 tyX2_ok nmX2 hown hK hP hD hS 0 rfl rfl 1 (by decide) lk27 (fun _ h => h) rfl hin rfl (by decide +kernel) rfl rfl (Nat.le_of_ble_eq_true rfl) dX2_init_31 (fun H locs hP hD hS => ?_)
  have hP : va_P D vwCl [(x, .inr (2, [.int (nI len), .ref t, .null, .null, .null, .null])), (t, .inr (0, [.ref tr, .int (nI 0)])), (tr, .inl (cA, 1024, .inl (fun _ => 0)))] H := hP
  have hD : va_D A [(x, .inr (2, [.int (nI len), .ref t, .null, .null, .null, .null])), (t, .inr (0, [.ref tr, .int (nI 0)])), (tr, .inl (cA, 1024, .inl (fun _ => 0)))] := hD
  refine lv_aload_n hx hb dX2_init_34 rfl (lv_at hl 0 rfl) ?_
  refine va_new (ci := 0) (fs := [.null, .int 0]) (C := RX0) (N := 2) hx hb hts iX0 tyX0 tyX0_ok hown nl22 niX0 nzX0 hK hP hD hS hA rfl (fun j hj => by rcases (show j = 0 ∨ j = 1 by omega) with rfl | rfl <;> rfl) (Nat.le_of_ble_eq_true rfl) (Nat.le_of_ble_eq_true rfl) dX2_init_35 (fun v H hP hD hS => ?_)
  have hP : va_P D vwCl [(x, .inr (2, [.int (nI len), .ref t, .null, .null, .null, .null])), (t, .inr (0, [.ref tr, .int (nI 0)])), (tr, .inl (cA, 1024, .inl (fun _ => 0))), (v, .inr (0, [.null, .int 0]))] H := hP
  have hD : va_D A [(x, .inr (2, [.int (nI len), .ref t, .null, .null, .null, .null])), (t, .inr (0, [.ref tr, .int (nI 0)])), (tr, .inl (cA, 1024, .inl (fun _ => 0))), (v, .inr (0, [.null, .int 0]))] := hD
  refine lv_dup hx hb dX2_init_38 rfl ?_
  refine lv_aload_n hx hb dX2_init_39 rfl (lv_at hl 0 rfl) ?_
  refine va_get (D := D) (ci := 2) (v := .int (nI len)) hx hb hts iX2 hown hK hP 0 rfl rfl 0 (by decide) lk18 (fun _ h => h) rfl dX2_init_40 ?_
  refine cl_iv (S := Nat) ⟨hx, hb, hml, hown, hts⟩ (c_by_init l D cA v len 256 (by omega) e3) (cwI 1 hts gX2_init_X0_init rfl rfl rfl nzX0 ml24 imX0 rfl (by decide +kernel) ⟨Nat.le_of_ble_eq_true rfl, Nat.le_of_ble_eq_true rfl⟩) hN hK hP hD hS hA [3] [0, 1, 2] [0, 1, 2, 3, 4] [(x, .inr (2, [.int (nI len), .ref t, .null, .null, .null, .null])), (t, .inr (0, [.ref tr, .int (nI 0)])), (tr, .inl (cA, 1024, .inl (fun _ => 0)))] (fun vr => [(x, .inr (2, [.int (nI len), .ref t, .null, .null, .null, .null])), (t, .inr (0, [.ref tr, .int (nI 0)])), (tr, .inl (cA, 1024, .inl (fun _ => 0))), (v, .inr (0, [.ref vr, .int (nI 0)])), (vr, .inl (cA, len, .inl (fun _ => 0)))]) [.ref v, .ref x] rfl rfl rfl rfl (by decide) (fun _ => rfl) rfl rfl hl.1 rfl (Nat.le_of_ble_eq_true rfl) dX2_init_43 ⟨Nat.le_of_ble_eq_true rfl, Nat.le_of_ble_eq_true rfl⟩ (fun vr H locs _ hP hD hS => ?_)
  have hP : va_P D vwCl [(x, .inr (2, [.int (nI len), .ref t, .null, .null, .null, .null])), (t, .inr (0, [.ref tr, .int (nI 0)])), (tr, .inl (cA, 1024, .inl (fun _ => 0))), (v, .inr (0, [.ref vr, .int (nI 0)])), (vr, .inl (cA, len, .inl (fun _ => 0)))] H := hP
  have hD : va_D A [(x, .inr (2, [.int (nI len), .ref t, .null, .null, .null, .null])), (t, .inr (0, [.ref tr, .int (nI 0)])), (tr, .inl (cA, 1024, .inl (fun _ => 0))), (v, .inr (0, [.ref vr, .int (nI 0)])), (vr, .inl (cA, len, .inl (fun _ => 0)))] := hD
  refine va_putF (D := D) (ci := 2) (v := .ref v) (ty := (.object "DownFrames$Bytes")) hx hb hts iX2 tyX2 tyX2_ok nmX2 hown hK hP hD hS 0 rfl rfl 2 (by decide) lk31 (fun _ h => h) rfl hin rfl (by decide +kernel) rfl rfl (Nat.le_of_ble_eq_true rfl) dX2_init_46 (fun H locs hP hD hS => ?_)
  have hP : va_P D vwCl [(x, .inr (2, [.int (nI len), .ref t, .ref v, .null, .null, .null])), (t, .inr (0, [.ref tr, .int (nI 0)])), (tr, .inl (cA, 1024, .inl (fun _ => 0))), (v, .inr (0, [.ref vr, .int (nI 0)])), (vr, .inl (cA, len, .inl (fun _ => 0)))] H := hP
  have hD : va_D A [(x, .inr (2, [.int (nI len), .ref t, .ref v, .null, .null, .null])), (t, .inr (0, [.ref tr, .int (nI 0)])), (tr, .inl (cA, 1024, .inl (fun _ => 0))), (v, .inr (0, [.ref vr, .int (nI 0)])), (vr, .inl (cA, len, .inl (fun _ => 0)))] := hD
  refine lv_aload_n hx hb dX2_init_49 rfl (lv_at hl 0 rfl) ?_
  refine va_new (ci := 1) (fs := [.null, .int 0, .int 0]) (C := RX1) (N := 3) hx hb hts iX1 tyX1 tyX1_ok hown nl34 niX1 nzX1 hK hP hD hS hA rfl (fun j hj => by rcases (show j = 0 ∨ j = 1 ∨ j = 2 by omega) with rfl | rfl | rfl <;> rfl) (Nat.le_of_ble_eq_true rfl) (Nat.le_of_ble_eq_true rfl) dX2_init_50 (fun c0 H hP hD hS => ?_)
  have hP : va_P D vwCl [(x, .inr (2, [.int (nI len), .ref t, .ref v, .null, .null, .null])), (t, .inr (0, [.ref tr, .int (nI 0)])), (tr, .inl (cA, 1024, .inl (fun _ => 0))), (v, .inr (0, [.ref vr, .int (nI 0)])), (vr, .inl (cA, len, .inl (fun _ => 0))), (c0, .inr (1, [.null, .int 0, .int 0]))] H := hP
  have hD : va_D A [(x, .inr (2, [.int (nI len), .ref t, .ref v, .null, .null, .null])), (t, .inr (0, [.ref tr, .int (nI 0)])), (tr, .inl (cA, 1024, .inl (fun _ => 0))), (v, .inr (0, [.ref vr, .int (nI 0)])), (vr, .inl (cA, len, .inl (fun _ => 0))), (c0, .inr (1, [.null, .int 0, .int 0]))] := hD
  refine lv_dup hx hb dX2_init_53 rfl ?_
  refine cl_iv (S := Nat) ⟨hx, hb, hml, hown, hts⟩ (c_ch_init l D cA c0) (cwI 0 hts gX2_init_X1_init rfl rfl rfl nzX1 ml36 imX1 rfl (by decide +kernel) ⟨Nat.le_of_ble_eq_true rfl, Nat.le_of_ble_eq_true rfl⟩) hN hK hP hD hS hA [5] [0, 1, 2, 3, 4] [0, 1, 2, 3, 4, 5, 6] [(x, .inr (2, [.int (nI len), .ref t, .ref v, .null, .null, .null])), (t, .inr (0, [.ref tr, .int (nI 0)])), (tr, .inl (cA, 1024, .inl (fun _ => 0))), (v, .inr (0, [.ref vr, .int (nI 0)])), (vr, .inl (cA, len, .inl (fun _ => 0)))] (fun r0 => [(x, .inr (2, [.int (nI len), .ref t, .ref v, .null, .null, .null])), (t, .inr (0, [.ref tr, .int (nI 0)])), (tr, .inl (cA, 1024, .inl (fun _ => 0))), (v, .inr (0, [.ref vr, .int (nI 0)])), (vr, .inl (cA, len, .inl (fun _ => 0))), (c0, .inr (1, [.ref r0, .int (nI 0), .int (nI 0)])), (r0, .inl (cA, 4096, .inl (fun _ => 0)))]) [.ref c0, .ref x] rfl rfl rfl rfl (by decide) (fun _ => rfl) rfl rfl hl.1 rfl (Nat.le_of_ble_eq_true rfl) dX2_init_54 ⟨Nat.le_of_ble_eq_true rfl, Nat.le_of_ble_eq_true rfl⟩ (fun r0 H locs _ hP hD hS => ?_)
  have hP : va_P D vwCl [(x, .inr (2, [.int (nI len), .ref t, .ref v, .null, .null, .null])), (t, .inr (0, [.ref tr, .int (nI 0)])), (tr, .inl (cA, 1024, .inl (fun _ => 0))), (v, .inr (0, [.ref vr, .int (nI 0)])), (vr, .inl (cA, len, .inl (fun _ => 0))), (c0, .inr (1, [.ref r0, .int (nI 0), .int (nI 0)])), (r0, .inl (cA, 4096, .inl (fun _ => 0)))] H := hP
  have hD : va_D A [(x, .inr (2, [.int (nI len), .ref t, .ref v, .null, .null, .null])), (t, .inr (0, [.ref tr, .int (nI 0)])), (tr, .inl (cA, 1024, .inl (fun _ => 0))), (v, .inr (0, [.ref vr, .int (nI 0)])), (vr, .inl (cA, len, .inl (fun _ => 0))), (c0, .inr (1, [.ref r0, .int (nI 0), .int (nI 0)])), (r0, .inl (cA, 4096, .inl (fun _ => 0)))] := hD
  refine va_putF (D := D) (ci := 2) (v := .ref c0) (ty := (.object "DownFrames$Channel")) hx hb hts iX2 tyX2 tyX2_ok nmX2 hown hK hP hD hS 0 rfl rfl 3 (by decide) lk37 (fun _ h => h) rfl hin rfl (by decide +kernel) rfl rfl (Nat.le_of_ble_eq_true rfl) dX2_init_57 (fun H locs hP hD hS => ?_)
  have hP : va_P D vwCl [(x, .inr (2, [.int (nI len), .ref t, .ref v, .ref c0, .null, .null])), (t, .inr (0, [.ref tr, .int (nI 0)])), (tr, .inl (cA, 1024, .inl (fun _ => 0))), (v, .inr (0, [.ref vr, .int (nI 0)])), (vr, .inl (cA, len, .inl (fun _ => 0))), (c0, .inr (1, [.ref r0, .int (nI 0), .int (nI 0)])), (r0, .inl (cA, 4096, .inl (fun _ => 0)))] H := hP
  have hD : va_D A [(x, .inr (2, [.int (nI len), .ref t, .ref v, .ref c0, .null, .null])), (t, .inr (0, [.ref tr, .int (nI 0)])), (tr, .inl (cA, 1024, .inl (fun _ => 0))), (v, .inr (0, [.ref vr, .int (nI 0)])), (vr, .inl (cA, len, .inl (fun _ => 0))), (c0, .inr (1, [.ref r0, .int (nI 0), .int (nI 0)])), (r0, .inl (cA, 4096, .inl (fun _ => 0)))] := hD
  refine lv_aload_n hx hb dX2_init_60 rfl (lv_at hl 0 rfl) ?_
  refine va_new (ci := 1) (fs := [.null, .int 0, .int 0]) (C := RX1) (N := 3) hx hb hts iX1 tyX1 tyX1_ok hown nl34 niX1 nzX1 hK hP hD hS hA rfl (fun j hj => by rcases (show j = 0 ∨ j = 1 ∨ j = 2 by omega) with rfl | rfl | rfl <;> rfl) (Nat.le_of_ble_eq_true rfl) (Nat.le_of_ble_eq_true rfl) dX2_init_61 (fun c1 H hP hD hS => ?_)
  have hP : va_P D vwCl [(x, .inr (2, [.int (nI len), .ref t, .ref v, .ref c0, .null, .null])), (t, .inr (0, [.ref tr, .int (nI 0)])), (tr, .inl (cA, 1024, .inl (fun _ => 0))), (v, .inr (0, [.ref vr, .int (nI 0)])), (vr, .inl (cA, len, .inl (fun _ => 0))), (c0, .inr (1, [.ref r0, .int (nI 0), .int (nI 0)])), (r0, .inl (cA, 4096, .inl (fun _ => 0))), (c1, .inr (1, [.null, .int 0, .int 0]))] H := hP
  have hD : va_D A [(x, .inr (2, [.int (nI len), .ref t, .ref v, .ref c0, .null, .null])), (t, .inr (0, [.ref tr, .int (nI 0)])), (tr, .inl (cA, 1024, .inl (fun _ => 0))), (v, .inr (0, [.ref vr, .int (nI 0)])), (vr, .inl (cA, len, .inl (fun _ => 0))), (c0, .inr (1, [.ref r0, .int (nI 0), .int (nI 0)])), (r0, .inl (cA, 4096, .inl (fun _ => 0))), (c1, .inr (1, [.null, .int 0, .int 0]))] := hD
  refine lv_dup hx hb dX2_init_64 rfl ?_
  refine cl_iv (S := Nat) ⟨hx, hb, hml, hown, hts⟩ (c_ch_init l D cA c1) (cwI 0 hts gX2_init_X1_init rfl rfl rfl nzX1 ml36 imX1 rfl (by decide +kernel) ⟨Nat.le_of_ble_eq_true rfl, Nat.le_of_ble_eq_true rfl⟩) hN hK hP hD hS hA [7] [0, 1, 2, 3, 4, 5, 6] [0, 1, 2, 3, 4, 5, 6, 7, 8] [(x, .inr (2, [.int (nI len), .ref t, .ref v, .ref c0, .null, .null])), (t, .inr (0, [.ref tr, .int (nI 0)])), (tr, .inl (cA, 1024, .inl (fun _ => 0))), (v, .inr (0, [.ref vr, .int (nI 0)])), (vr, .inl (cA, len, .inl (fun _ => 0))), (c0, .inr (1, [.ref r0, .int (nI 0), .int (nI 0)])), (r0, .inl (cA, 4096, .inl (fun _ => 0)))] (fun r1 => [(x, .inr (2, [.int (nI len), .ref t, .ref v, .ref c0, .null, .null])), (t, .inr (0, [.ref tr, .int (nI 0)])), (tr, .inl (cA, 1024, .inl (fun _ => 0))), (v, .inr (0, [.ref vr, .int (nI 0)])), (vr, .inl (cA, len, .inl (fun _ => 0))), (c0, .inr (1, [.ref r0, .int (nI 0), .int (nI 0)])), (r0, .inl (cA, 4096, .inl (fun _ => 0))), (c1, .inr (1, [.ref r1, .int (nI 0), .int (nI 0)])), (r1, .inl (cA, 4096, .inl (fun _ => 0)))]) [.ref c1, .ref x] rfl rfl rfl rfl (by decide) (fun _ => rfl) rfl rfl hl.1 rfl (Nat.le_of_ble_eq_true rfl) dX2_init_65 ⟨Nat.le_of_ble_eq_true rfl, Nat.le_of_ble_eq_true rfl⟩ (fun r1 H locs _ hP hD hS => ?_)
  have hP : va_P D vwCl [(x, .inr (2, [.int (nI len), .ref t, .ref v, .ref c0, .null, .null])), (t, .inr (0, [.ref tr, .int (nI 0)])), (tr, .inl (cA, 1024, .inl (fun _ => 0))), (v, .inr (0, [.ref vr, .int (nI 0)])), (vr, .inl (cA, len, .inl (fun _ => 0))), (c0, .inr (1, [.ref r0, .int (nI 0), .int (nI 0)])), (r0, .inl (cA, 4096, .inl (fun _ => 0))), (c1, .inr (1, [.ref r1, .int (nI 0), .int (nI 0)])), (r1, .inl (cA, 4096, .inl (fun _ => 0)))] H := hP
  have hD : va_D A [(x, .inr (2, [.int (nI len), .ref t, .ref v, .ref c0, .null, .null])), (t, .inr (0, [.ref tr, .int (nI 0)])), (tr, .inl (cA, 1024, .inl (fun _ => 0))), (v, .inr (0, [.ref vr, .int (nI 0)])), (vr, .inl (cA, len, .inl (fun _ => 0))), (c0, .inr (1, [.ref r0, .int (nI 0), .int (nI 0)])), (r0, .inl (cA, 4096, .inl (fun _ => 0))), (c1, .inr (1, [.ref r1, .int (nI 0), .int (nI 0)])), (r1, .inl (cA, 4096, .inl (fun _ => 0)))] := hD
  refine va_putF (D := D) (ci := 2) (v := .ref c1) (ty := (.object "DownFrames$Channel")) hx hb hts iX2 tyX2 tyX2_ok nmX2 hown hK hP hD hS 0 rfl rfl 4 (by decide) lk41 (fun _ h => h) rfl hin rfl (by decide +kernel) rfl rfl (Nat.le_of_ble_eq_true rfl) dX2_init_68 (fun H locs hP hD hS => ?_)
  have hP : va_P D vwCl [(x, .inr (2, [.int (nI len), .ref t, .ref v, .ref c0, .ref c1, .null])), (t, .inr (0, [.ref tr, .int (nI 0)])), (tr, .inl (cA, 1024, .inl (fun _ => 0))), (v, .inr (0, [.ref vr, .int (nI 0)])), (vr, .inl (cA, len, .inl (fun _ => 0))), (c0, .inr (1, [.ref r0, .int (nI 0), .int (nI 0)])), (r0, .inl (cA, 4096, .inl (fun _ => 0))), (c1, .inr (1, [.ref r1, .int (nI 0), .int (nI 0)])), (r1, .inl (cA, 4096, .inl (fun _ => 0)))] H := hP
  have hD : va_D A [(x, .inr (2, [.int (nI len), .ref t, .ref v, .ref c0, .ref c1, .null])), (t, .inr (0, [.ref tr, .int (nI 0)])), (tr, .inl (cA, 1024, .inl (fun _ => 0))), (v, .inr (0, [.ref vr, .int (nI 0)])), (vr, .inl (cA, len, .inl (fun _ => 0))), (c0, .inr (1, [.ref r0, .int (nI 0), .int (nI 0)])), (r0, .inl (cA, 4096, .inl (fun _ => 0))), (c1, .inr (1, [.ref r1, .int (nI 0), .int (nI 0)])), (r1, .inl (cA, 4096, .inl (fun _ => 0)))] := hD
  refine lv_aload_n hx hb dX2_init_71 rfl (lv_at hl 0 rfl) ?_
  refine lv_iconst (v := 4) hx hb dX2_init_72 (by decide) ?_
  refine tp_i (y := nI 4) (rfl) ?_
  refine nw_i (n := 4) hx hb la hK 0 rfl hP hD hS hA (by decide) (Nat.le_of_ble_eq_true rfl) (Nat.le_of_ble_eq_true rfl) dX2_init_73 (fun fr H hP hD hS => ?_)
  have hP : va_P D vwCl [(x, .inr (2, [.int (nI len), .ref t, .ref v, .ref c0, .ref c1, .null])), (t, .inr (0, [.ref tr, .int (nI 0)])), (tr, .inl (cA, 1024, .inl (fun _ => 0))), (v, .inr (0, [.ref vr, .int (nI 0)])), (vr, .inl (cA, len, .inl (fun _ => 0))), (c0, .inr (1, [.ref r0, .int (nI 0), .int (nI 0)])), (r0, .inl (cA, 4096, .inl (fun _ => 0))), (c1, .inr (1, [.ref r1, .int (nI 0), .int (nI 0)])), (r1, .inl (cA, 4096, .inl (fun _ => 0))), (fr, .inl (cA, 4, .inl (fun _ => 0)))] H := hP
  have hD : va_D A [(x, .inr (2, [.int (nI len), .ref t, .ref v, .ref c0, .ref c1, .null])), (t, .inr (0, [.ref tr, .int (nI 0)])), (tr, .inl (cA, 1024, .inl (fun _ => 0))), (v, .inr (0, [.ref vr, .int (nI 0)])), (vr, .inl (cA, len, .inl (fun _ => 0))), (c0, .inr (1, [.ref r0, .int (nI 0), .int (nI 0)])), (r0, .inl (cA, 4096, .inl (fun _ => 0))), (c1, .inr (1, [.ref r1, .int (nI 0), .int (nI 0)])), (r1, .inl (cA, 4096, .inl (fun _ => 0))), (fr, .inl (cA, 4, .inl (fun _ => 0)))] := hD
  refine va_putF (D := D) (ci := 2) (v := .ref fr) (ty := (.array .int)) hx hb hts iX2 tyX2 tyX2_ok nmX2 hown hK hP hD hS 0 rfl rfl 5 (by decide) lk44 (fun _ h => h) rfl hin rfl (by decide +kernel) rfl rfl (Nat.le_of_ble_eq_true rfl) dX2_init_75 (fun H locs hP hD hS => ?_)
  have hP : va_P D vwCl [(x, .inr (2, [.int (nI len), .ref t, .ref v, .ref c0, .ref c1, .ref fr])), (t, .inr (0, [.ref tr, .int (nI 0)])), (tr, .inl (cA, 1024, .inl (fun _ => 0))), (v, .inr (0, [.ref vr, .int (nI 0)])), (vr, .inl (cA, len, .inl (fun _ => 0))), (c0, .inr (1, [.ref r0, .int (nI 0), .int (nI 0)])), (r0, .inl (cA, 4096, .inl (fun _ => 0))), (c1, .inr (1, [.ref r1, .int (nI 0), .int (nI 0)])), (r1, .inl (cA, 4096, .inl (fun _ => 0))), (fr, .inl (cA, 4, .inl (fun _ => 0)))] H := hP
  have hD : va_D A [(x, .inr (2, [.int (nI len), .ref t, .ref v, .ref c0, .ref c1, .ref fr])), (t, .inr (0, [.ref tr, .int (nI 0)])), (tr, .inl (cA, 1024, .inl (fun _ => 0))), (v, .inr (0, [.ref vr, .int (nI 0)])), (vr, .inl (cA, len, .inl (fun _ => 0))), (c0, .inr (1, [.ref r0, .int (nI 0), .int (nI 0)])), (r0, .inl (cA, 4096, .inl (fun _ => 0))), (c1, .inr (1, [.ref r1, .int (nI 0), .int (nI 0)])), (r1, .inl (cA, 4096, .inl (fun _ => 0))), (fr, .inl (cA, 4, .inl (fun _ => 0)))] := hD
  subst hlen
  exact hex _ _ _ _ (t, tr, v, vr, c0, r0, c1, r1, fr) hS (trivial) hP hD dX2_init_78
