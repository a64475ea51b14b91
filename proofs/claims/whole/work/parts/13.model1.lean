set_option maxHeartbeats 4000000 in
set_option maxRecDepth 100000 in
/-- wait(ch, b, first) -/
theorem c_m_wait (l : Launch) (D : va_G) (cA cB cZ : ClassId) (y len tp bb zz wa fs fm mk fk : Nat) (bf zf : Nat → Int32) (ww : Nat → Nat) (ch w : Nat) (x z : Int32) (hc : ch < 2) (hw : ww ch = w) (hw2 : w < 4200) : MV0 l yX3_wait wsM_wait { frames := 0, cells := 0, slots := 0, locals := 0 } [.ref y, .int (nI ch), .int x, .int z] D [(cA, .int), (cB, .byte), (cZ, .boolean)] [(y, .inr (3, [.int 0, .int (nI len), .ref tp, .int (nI mk), .ref bb, .ref zz, .ref wa, .ref fs, .ref fm, .int (nI fk)])), (bb, .inl (cB, 8400, .inl bf)), (zz, .inl (cZ, 8400, .inl zf)), (wa, .inl (cA, 2, .inl (wI ww)))] [(y, .inr (3, [.int 0, .int (nI len), .ref tp, .int (nI mk), .ref bb, .ref zz, .ref wa, .ref fs, .ref fm, .int (nI fk)])), (bb, .inl (cB, 8400, .inl (upd bf (4200 * ch + w) (i8 x)))), (zz, .inl (cZ, 8400, .inl (upd zf (4200 * ch + w) (z &&& 1)))), (wa, .inl (cA, 2, .inl (wI (va_up ww ch (w + 1)))))] := by
  refine mt_v (by decide) rfl (Nat.le_of_ble_eq_true rfl) ?_
  intro p e s m below meth c A ls Q hx hb hts hown hml hin hN hK hA hP hD hS hl hex
  have hown : s.vm.findClass RX3 = some m.cls := hown
  have hl : lv_has ls 4 [(0, .ref y), (1, .int (nI ch)), (2, .int x), (3, .int z)] := hl
  have iX3 : ∀ w ∈ wsX30, w ∈ wsM_wait := by decide +kernel
  have lk13 := hts (.fieldLink RX3 13 "DownFramesModel" "bytes" "[B") (by decide +kernel)
  have lk16 := hts (.fieldLink RX3 16 "DownFramesModel" "begins" "[Z") (by decide +kernel)
  have lk20 := hts (.fieldLink RX3 20 "DownFramesModel" "waits" "[I") (by decide +kernel)
  refine lv_aload_n hx hb dX3_wait_0 rfl (lv_at hl 0 rfl) ?_
  refine va_get (D := D) (ci := 3) (v := .ref bb) hx hb hts iX3 hown hK hP 0 rfl rfl 4 (by decide) lk13 (fun _ h => h) rfl dX3_wait_1 ?_
  refine lv_sipush (v := 4200) hx hb dX3_wait_4 (by decide +kernel) ?_
  refine lv_iload_n hx hb dX3_wait_7 rfl (lv_at hl 1 rfl) ?_
  refine lv_imul hx hb dX3_wait_8 ?_
  refine lv_aload_n hx hb dX3_wait_9 rfl (lv_at hl 0 rfl) ?_
  refine va_get (D := D) (ci := 3) (v := .ref wa) hx hb hts iX3 hown hK hP 0 rfl rfl 6 (by decide) lk20 (fun _ h => h) rfl dX3_wait_10 ?_
  refine lv_iload_n hx hb dX3_wait_13 rfl (lv_at hl 1 rfl) ?_
  refine al_i (k := ch) hx hb hK hP 3 0 rfl rfl (hc) (by decide) dX3_wait_14 ?_
  refine tp_i (y := nI w) (congrArg nI hw) ?_
  refine lv_iadd hx hb dX3_wait_15 ?_
  refine tp_i (y := nI (4200 * ch + w)) (by rw [show (4200 : Int32) = nI 4200 from rfl, pk_mul, nI_add]) ?_
  refine lv_iload_n hx hb dX3_wait_16 rfl (lv_at hl 2 rfl) ?_
  refine lv_i2b (v := i8 x) hx hb dX3_wait_17 rfl ?_
  refine as_b8 (k := (4200 * ch + w)) (x := x) hx hb hK hP hD hS 1 1 rfl rfl (by omega) (by decide) dX3_wait_18 (fun H locs hP hD hS => ?_)
  have hP : va_P D vwCl [(y, .inr (3, [.int 0, .int (nI len), .ref tp, .int (nI mk), .ref bb, .ref zz, .ref wa, .ref fs, .ref fm, .int (nI fk)])), (bb, .inl (cB, 8400, .inl (upd bf (4200 * ch + w) (i8 x)))), (zz, .inl (cZ, 8400, .inl zf)), (wa, .inl (cA, 2, .inl (wI ww)))] H := hP
  have hD : va_D A [(y, .inr (3, [.int 0, .int (nI len), .ref tp, .int (nI mk), .ref bb, .ref zz, .ref wa, .ref fs, .ref fm, .int (nI fk)])), (bb, .inl (cB, 8400, .inl (upd bf (4200 * ch + w) (i8 x)))), (zz, .inl (cZ, 8400, .inl zf)), (wa, .inl (cA, 2, .inl (wI ww)))] := hD
  refine lv_aload_n hx hb dX3_wait_19 rfl (lv_at hl 0 rfl) ?_
  refine va_get (D := D) (ci := 3) (v := .ref zz) hx hb hts iX3 hown hK hP 0 rfl rfl 5 (by decide) lk16 (fun _ h => h) rfl dX3_wait_20 ?_
  refine lv_sipush (v := 4200) hx hb dX3_wait_23 (by decide +kernel) ?_
  refine lv_iload_n hx hb dX3_wait_26 rfl (lv_at hl 1 rfl) ?_
  refine lv_imul hx hb dX3_wait_27 ?_
  refine lv_aload_n hx hb dX3_wait_28 rfl (lv_at hl 0 rfl) ?_
  refine va_get (D := D) (ci := 3) (v := .ref wa) hx hb hts iX3 hown hK hP 0 rfl rfl 6 (by decide) lk20 (fun _ h => h) rfl dX3_wait_29 ?_
  refine lv_iload_n hx hb dX3_wait_32 rfl (lv_at hl 1 rfl) ?_
  refine al_i (k := ch) hx hb hK hP 3 0 rfl rfl (hc) (by decide) dX3_wait_33 ?_
  refine tp_i (y := nI w) (congrArg nI hw) ?_
  refine lv_iadd hx hb dX3_wait_34 ?_
  refine tp_i (y := nI (4200 * ch + w)) (by rw [show (4200 : Int32) = nI 4200 from rfl, pk_mul, nI_add]) ?_
  refine lv_iload_n hx hb dX3_wait_35 rfl (lv_at hl 3 rfl) ?_
  refine as_z (k := (4200 * ch + w)) (x := z) hx hb hK hP hD hS 2 2 rfl rfl (by omega) (by decide) dX3_wait_36 (fun H locs hP hD hS => ?_)
  have hP : va_P D vwCl [(y, .inr (3, [.int 0, .int (nI len), .ref tp, .int (nI mk), .ref bb, .ref zz, .ref wa, .ref fs, .ref fm, .int (nI fk)])), (bb, .inl (cB, 8400, .inl (upd bf (4200 * ch + w) (i8 x)))), (zz, .inl (cZ, 8400, .inl (upd zf (4200 * ch + w) (z &&& 1)))), (wa, .inl (cA, 2, .inl (wI ww)))] H := hP
  have hD : va_D A [(y, .inr (3, [.int 0, .int (nI len), .ref tp, .int (nI mk), .ref bb, .ref zz, .ref wa, .ref fs, .ref fm, .int (nI fk)])), (bb, .inl (cB, 8400, .inl (upd bf (4200 * ch + w) (i8 x)))), (zz, .inl (cZ, 8400, .inl (upd zf (4200 * ch + w) (z &&& 1)))), (wa, .inl (cA, 2, .inl (wI ww)))] := hD
  refine lv_aload_n hx hb dX3_wait_37 rfl (lv_at hl 0 rfl) ?_
  refine va_get (D := D) (ci := 3) (v := .ref wa) hx hb hts iX3 hown hK hP 0 rfl rfl 6 (by decide) lk20 (fun _ h => h) rfl dX3_wait_38 ?_
  refine lv_iload_n hx hb dX3_wait_41 rfl (lv_at hl 1 rfl) ?_
  refine lv_dup2_11 hx hb dX3_wait_42 rfl rfl ?_
  refine al_i (k := ch) hx hb hK hP 3 0 rfl rfl (hc) (by decide) dX3_wait_43 ?_
  refine tp_i (y := nI w) (congrArg nI hw) ?_
  refine lv_iconst (v := 1) hx hb dX3_wait_44 (by decide) ?_
  refine lv_iadd hx hb dX3_wait_45 ?_
  refine tp_i (y := nI (w + 1)) (nI_1 w) ?_
  refine as_i (k := ch) (x := (nI (w + 1))) hx hb hK hP hD hS 3 0 rfl rfl (hc) (by decide) dX3_wait_46 (fun H locs hP hD hS => ?_)
  have hP : va_P D vwCl [(y, .inr (3, [.int 0, .int (nI len), .ref tp, .int (nI mk), .ref bb, .ref zz, .ref wa, .ref fs, .ref fm, .int (nI fk)])), (bb, .inl (cB, 8400, .inl (upd bf (4200 * ch + w) (i8 x)))), (zz, .inl (cZ, 8400, .inl (upd zf (4200 * ch + w) (z &&& 1)))), (wa, .inl (cA, 2, .inl (upd (wI ww) ch (nI (w + 1)))))] H := hP
  have hD : va_D A [(y, .inr (3, [.int 0, .int (nI len), .ref tp, .int (nI mk), .ref bb, .ref zz, .ref wa, .ref fs, .ref fm, .int (nI fk)])), (bb, .inl (cB, 8400, .inl (upd bf (4200 * ch + w) (i8 x)))), (zz, .inl (cZ, 8400, .inl (upd zf (4200 * ch + w) (z &&& 1)))), (wa, .inl (cA, 2, .inl (upd (wI ww) ch (nI (w + 1)))))] := hD
  rw [wI_upd] at hP hD
  exact hex _ _ _ _ () hS (trivial) hP hD dX3_wait_47

set_option maxHeartbeats 4000000 in
set_option maxRecDepth 100000 in
/-- fills(ch, n) -/
theorem c_m_fills (l : Launch) (D : va_G) (cA cB cZ : ClassId) (y len tp bb zz wa fs fm mk fk : Nat) (bf zf : Nat → Int32) (ww : Nat → Nat) (ch w n : Nat) (hc : ch < 2) (hw : ww ch = w) (hn : 7 ≤ n) (hw2 : w + n ≤ 4200) : MV0 l yX3_fills wsM_fills { frames := 1, cells := 0, slots := 0, locals := 23 } [.ref y, .int (nI ch), .int (nI n)] D [(cA, .int), (cB, .byte), (cZ, .boolean)] [(y, .inr (3, [.int 0, .int (nI len), .ref tp, .int (nI mk), .ref bb, .ref zz, .ref wa, .ref fs, .ref fm, .int (nI fk)])), (bb, .inl (cB, 8400, .inl bf)), (zz, .inl (cZ, 8400, .inl zf)), (wa, .inl (cA, 2, .inl (wI ww)))] [(y, .inr (3, [.int 0, .int (nI len), .ref tp, .int (nI mk), .ref bb, .ref zz, .ref wa, .ref fs, .ref fm, .int (nI fk)])), (bb, .inl (cB, 8400, .inl (lwr bf (4200 * ch + w) (emb n) n))), (zz, .inl (cZ, 8400, .inl (lwr zf (4200 * ch + w) emz n))), (wa, .inl (cA, 2, .inl (wI (va_up ww ch (w + n)))))] := by
  refine mt_v (by decide) rfl (Nat.le_of_ble_eq_true rfl) ?_
  intro p e s m below meth c A ls Q hx hb hts hown hml hin hN hK hA hP hD hS hl hex
  have hown : s.vm.findClass RX3 = some m.cls := hown
  have hl : lv_has ls 5 [(0, .ref y), (1, .int (nI ch)), (2, .int (nI n))] := hl
  have e0 : va_up ww ch (w + 0) = ww := by funext j; unfold va_up; by_cases h : j = ch; subst h; simp [hw]; simp [h]
  have hP : va_P D vwCl [(y, .inr (3, [.int 0, .int (nI len), .ref tp, .int (nI mk), .ref bb, .ref zz, .ref wa, .ref fs, .ref fm, .int (nI fk)])), (bb, .inl (cB, 8400, .inl (lwr bf (4200 * ch + w) (emb n) 0))), (zz, .inl (cZ, 8400, .inl (lwr zf (4200 * ch + w) emz 0))), (wa, .inl (cA, 2, .inl (wI (va_up ww ch (w + 0)))))] s.heap := by rw [e0]; exact hP
  have hD : va_D A [(y, .inr (3, [.int 0, .int (nI len), .ref tp, .int (nI mk), .ref bb, .ref zz, .ref wa, .ref fs, .ref fm, .int (nI fk)])), (bb, .inl (cB, 8400, .inl (lwr bf (4200 * ch + w) (emb n) 0))), (zz, .inl (cZ, 8400, .inl (lwr zf (4200 * ch + w) emz 0))), (wa, .inl (cA, 2, .inl (wI (va_up ww ch (w + 0)))))] := by rw [e0]; exact hD
  refine lv_iload_n hx hb dX3_fills_0 rfl (lv_at hl 2 rfl) ?_
  refine lv_bipush (v := 7) hx hb dX3_fills_1 (by decide +kernel) ?_
  refine lv_isub hx hb dX3_fills_3 ?_
  refine tp_i (y := nI (n - 7)) (pk_sub (b := 7) hn) ?_
  refine lv_istore_n (lv' := [(3, .int (nI (n - 7))), (0, .ref y), (1, .int (nI ch)), (2, .int (nI n))]) hx hb dX3_fills_4 rfl hl (by decide) rfl (fun ls hl => ?_)
  refine lv_aload_n hx hb dX3_fills_5 rfl (lv_at hl 1 rfl) ?_
  refine lv_iload_n hx hb dX3_fills_6 rfl (lv_at hl 2 rfl) ?_
  refine lv_bipush (v := 7) hx hb dX3_fills_7 (by decide +kernel) ?_
  refine lv_iconst (v := 1) hx hb dX3_fills_9 (by decide) ?_
  refine cl0_vv ⟨hx, hb, hml, hown, hts⟩ (c_m_wait l D cA cB cZ y len tp bb zz wa fs fm mk fk (lwr bf (4200 * ch + w) (emb n) 0) (lwr zf (4200 * ch + w) emz 0) (va_up ww ch (w + 0)) ch (w + 0) 7 1 hc (by simp [va_up]) (by omega)) (cwV 3 hts (gM_wait _) rfl rfl rfl (by decide +kernel) ⟨Nat.le_of_ble_eq_true rfl, Nat.le_of_ble_eq_true rfl⟩) (ci := 3) (q0 := 0) rfl rfl hN hK hP hD hS hA [0, 1, 2, 3] [] [0, 1, 2, 3] [] [(y, .inr (3, [.int 0, .int (nI len), .ref tp, .int (nI mk), .ref bb, .ref zz, .ref wa, .ref fs, .ref fm, .int (nI fk)])), (bb, .inl (cB, 8400, .inl (upd (lwr bf (4200 * ch + w) (emb n) 0) (4200 * ch + (w + 0)) (i8 7)))), (zz, .inl (cZ, 8400, .inl (upd (lwr zf (4200 * ch + w) emz 0) (4200 * ch + (w + 0)) (1 &&& 1)))), (wa, .inl (cA, 2, .inl (wI (va_up (va_up ww ch (w + 0)) ch (w + 0 + 1)))))] [] rfl rfl rfl rfl (by decide) rfl rfl rfl hl.1 rfl (Nat.le_of_ble_eq_true rfl) dX3_fills_10 ⟨Nat.le_of_ble_eq_true rfl, Nat.le_of_ble_eq_true rfl⟩ (fun H locs hP hD hS => ?_)
  have eb : upd (lwr bf (4200 * ch + w) (emb n) 0) (4200 * ch + (w + 0)) (i8 7) = lwr bf (4200 * ch + w) (emb n) (1) := by rw [← Nat.add_assoc]; rfl
  have ez : upd (lwr zf (4200 * ch + w) emz 0) (4200 * ch + (w + 0)) (1 &&& 1) = lwr zf (4200 * ch + w) emz (1) := by rw [← Nat.add_assoc]; show upd _ _ _ = upd _ _ (emz 0); rw [show ((1 : Int32) &&& 1) = emz 0 from by decide]
  rw [eb, ez, bx_uu] at hP hD
  have hP : va_P D vwCl [(y, .inr (3, [.int 0, .int (nI len), .ref tp, .int (nI mk), .ref bb, .ref zz, .ref wa, .ref fs, .ref fm, .int (nI fk)])), (bb, .inl (cB, 8400, .inl (lwr bf (4200 * ch + w) (emb n) 1))), (zz, .inl (cZ, 8400, .inl (lwr zf (4200 * ch + w) emz 1))), (wa, .inl (cA, 2, .inl (wI (va_up ww ch (w + 1)))))] H := hP
  have hD : va_D A [(y, .inr (3, [.int 0, .int (nI len), .ref tp, .int (nI mk), .ref bb, .ref zz, .ref wa, .ref fs, .ref fm, .int (nI fk)])), (bb, .inl (cB, 8400, .inl (lwr bf (4200 * ch + w) (emb n) 1))), (zz, .inl (cZ, 8400, .inl (lwr zf (4200 * ch + w) emz 1))), (wa, .inl (cA, 2, .inl (wI (va_up ww ch (w + 1)))))] := hD
  refine lv_aload_n hx hb dX3_fills_13 rfl (lv_at hl 1 rfl) ?_
  refine lv_iload_n hx hb dX3_fills_14 rfl (lv_at hl 2 rfl) ?_
  refine lv_sipush (v := 255) hx hb dX3_fills_15 (by decide +kernel) ?_
  refine lv_iconst (v := 0) hx hb dX3_fills_18 (by decide) ?_
  refine cl0_vv ⟨hx, hb, hml, hown, hts⟩ (c_m_wait l D cA cB cZ y len tp bb zz wa fs fm mk fk (lwr bf (4200 * ch + w) (emb n) 1) (lwr zf (4200 * ch + w) emz 1) (va_up ww ch (w + 1)) ch (w + 1) 255 0 hc (by simp [va_up]) (by omega)) (cwV 3 hts (gM_wait _) rfl rfl rfl (by decide +kernel) ⟨Nat.le_of_ble_eq_true rfl, Nat.le_of_ble_eq_true rfl⟩) (ci := 3) (q0 := 0) rfl rfl hN hK hP hD hS hA [0, 1, 2, 3] [] [0, 1, 2, 3] [] [(y, .inr (3, [.int 0, .int (nI len), .ref tp, .int (nI mk), .ref bb, .ref zz, .ref wa, .ref fs, .ref fm, .int (nI fk)])), (bb, .inl (cB, 8400, .inl (upd (lwr bf (4200 * ch + w) (emb n) 1) (4200 * ch + (w + 1)) (i8 255)))), (zz, .inl (cZ, 8400, .inl (upd (lwr zf (4200 * ch + w) emz 1) (4200 * ch + (w + 1)) (0 &&& 1)))), (wa, .inl (cA, 2, .inl (wI (va_up (va_up ww ch (w + 1)) ch (w + 1 + 1)))))] [] rfl rfl rfl rfl (by decide) rfl rfl rfl hl.1 rfl (Nat.le_of_ble_eq_true rfl) dX3_fills_19 ⟨Nat.le_of_ble_eq_true rfl, Nat.le_of_ble_eq_true rfl⟩ (fun H locs hP hD hS => ?_)
  have eb : upd (lwr bf (4200 * ch + w) (emb n) 1) (4200 * ch + (w + 1)) (i8 255) = lwr bf (4200 * ch + w) (emb n) (2) := by rw [← Nat.add_assoc]; rfl
  have ez : upd (lwr zf (4200 * ch + w) emz 1) (4200 * ch + (w + 1)) (0 &&& 1) = lwr zf (4200 * ch + w) emz (2) := by rw [← Nat.add_assoc]; show upd _ _ _ = upd _ _ (emz 1); rw [show ((0 : Int32) &&& 1) = emz 1 from by decide]
  rw [eb, ez, bx_uu] at hP hD
  have hP : va_P D vwCl [(y, .inr (3, [.int 0, .int (nI len), .ref tp, .int (nI mk), .ref bb, .ref zz, .ref wa, .ref fs, .ref fm, .int (nI fk)])), (bb, .inl (cB, 8400, .inl (lwr bf (4200 * ch + w) (emb n) 2))), (zz, .inl (cZ, 8400, .inl (lwr zf (4200 * ch + w) emz 2))), (wa, .inl (cA, 2, .inl (wI (va_up ww ch (w + 2)))))] H := hP
  have hD : va_D A [(y, .inr (3, [.int 0, .int (nI len), .ref tp, .int (nI mk), .ref bb, .ref zz, .ref wa, .ref fs, .ref fm, .int (nI fk)])), (bb, .inl (cB, 8400, .inl (lwr bf (4200 * ch + w) (emb n) 2))), (zz, .inl (cZ, 8400, .inl (lwr zf (4200 * ch + w) emz 2))), (wa, .inl (cA, 2, .inl (wI (va_up ww ch (w + 2)))))] := hD
  refine lv_aload_n hx hb dX3_fills_22 rfl (lv_at hl 1 rfl) ?_
  refine lv_iload_n hx hb dX3_fills_23 rfl (lv_at hl 2 rfl) ?_
  refine lv_sipush (v := 192) hx hb dX3_fills_24 (by decide +kernel) ?_
  refine lv_iconst (v := 0) hx hb dX3_fills_27 (by decide) ?_
  refine cl0_vv ⟨hx, hb, hml, hown, hts⟩ (c_m_wait l D cA cB cZ y len tp bb zz wa fs fm mk fk (lwr bf (4200 * ch + w) (emb n) 2) (lwr zf (4200 * ch + w) emz 2) (va_up ww ch (w + 2)) ch (w + 2) 192 0 hc (by simp [va_up]) (by omega)) (cwV 3 hts (gM_wait _) rfl rfl rfl (by decide +kernel) ⟨Nat.le_of_ble_eq_true rfl, Nat.le_of_ble_eq_true rfl⟩) (ci := 3) (q0 := 0) rfl rfl hN hK hP hD hS hA [0, 1, 2, 3] [] [0, 1, 2, 3] [] [(y, .inr (3, [.int 0, .int (nI len), .ref tp, .int (nI mk), .ref bb, .ref zz, .ref wa, .ref fs, .ref fm, .int (nI fk)])), (bb, .inl (cB, 8400, .inl (upd (lwr bf (4200 * ch + w) (emb n) 2) (4200 * ch + (w + 2)) (i8 192)))), (zz, .inl (cZ, 8400, .inl (upd (lwr zf (4200 * ch + w) emz 2) (4200 * ch + (w + 2)) (0 &&& 1)))), (wa, .inl (cA, 2, .inl (wI (va_up (va_up ww ch (w + 2)) ch (w + 2 + 1)))))] [] rfl rfl rfl rfl (by decide) rfl rfl rfl hl.1 rfl (Nat.le_of_ble_eq_true rfl) dX3_fills_28 ⟨Nat.le_of_ble_eq_true rfl, Nat.le_of_ble_eq_true rfl⟩ (fun H locs hP hD hS => ?_)
  have eb : upd (lwr bf (4200 * ch + w) (emb n) 2) (4200 * ch + (w + 2)) (i8 192) = lwr bf (4200 * ch + w) (emb n) (3) := by rw [← Nat.add_assoc]; rfl
  have ez : upd (lwr zf (4200 * ch + w) emz 2) (4200 * ch + (w + 2)) (0 &&& 1) = lwr zf (4200 * ch + w) emz (3) := by rw [← Nat.add_assoc]; show upd _ _ _ = upd _ _ (emz 2); rw [show ((0 : Int32) &&& 1) = emz 2 from by decide]
  rw [eb, ez, bx_uu] at hP hD
  have hP : va_P D vwCl [(y, .inr (3, [.int 0, .int (nI len), .ref tp, .int (nI mk), .ref bb, .ref zz, .ref wa, .ref fs, .ref fm, .int (nI fk)])), (bb, .inl (cB, 8400, .inl (lwr bf (4200 * ch + w) (emb n) 3))), (zz, .inl (cZ, 8400, .inl (lwr zf (4200 * ch + w) emz 3))), (wa, .inl (cA, 2, .inl (wI (va_up ww ch (w + 3)))))] H := hP
  have hD : va_D A [(y, .inr (3, [.int 0, .int (nI len), .ref tp, .int (nI mk), .ref bb, .ref zz, .ref wa, .ref fs, .ref fm, .int (nI fk)])), (bb, .inl (cB, 8400, .inl (lwr bf (4200 * ch + w) (emb n) 3))), (zz, .inl (cZ, 8400, .inl (lwr zf (4200 * ch + w) emz 3))), (wa, .inl (cA, 2, .inl (wI (va_up ww ch (w + 3)))))] := hD
  refine lv_aload_n hx hb dX3_fills_31 rfl (lv_at hl 1 rfl) ?_
  refine lv_iload_n hx hb dX3_fills_32 rfl (lv_at hl 2 rfl) ?_
  refine lv_iconst (v := 0) hx hb dX3_fills_33 (by decide) ?_
  refine lv_iconst (v := 0) hx hb dX3_fills_34 (by decide) ?_
  refine cl0_vv ⟨hx, hb, hml, hown, hts⟩ (c_m_wait l D cA cB cZ y len tp bb zz wa fs fm mk fk (lwr bf (4200 * ch + w) (emb n) 3) (lwr zf (4200 * ch + w) emz 3) (va_up ww ch (w + 3)) ch (w + 3) 0 0 hc (by simp [va_up]) (by omega)) (cwV 3 hts (gM_wait _) rfl rfl rfl (by decide +kernel) ⟨Nat.le_of_ble_eq_true rfl, Nat.le_of_ble_eq_true rfl⟩) (ci := 3) (q0 := 0) rfl rfl hN hK hP hD hS hA [0, 1, 2, 3] [] [0, 1, 2, 3] [] [(y, .inr (3, [.int 0, .int (nI len), .ref tp, .int (nI mk), .ref bb, .ref zz, .ref wa, .ref fs, .ref fm, .int (nI fk)])), (bb, .inl (cB, 8400, .inl (upd (lwr bf (4200 * ch + w) (emb n) 3) (4200 * ch + (w + 3)) (i8 0)))), (zz, .inl (cZ, 8400, .inl (upd (lwr zf (4200 * ch + w) emz 3) (4200 * ch + (w + 3)) (0 &&& 1)))), (wa, .inl (cA, 2, .inl (wI (va_up (va_up ww ch (w + 3)) ch (w + 3 + 1)))))] [] rfl rfl rfl rfl (by decide) rfl rfl rfl hl.1 rfl (Nat.le_of_ble_eq_true rfl) dX3_fills_35 ⟨Nat.le_of_ble_eq_true rfl, Nat.le_of_ble_eq_true rfl⟩ (fun H locs hP hD hS => ?_)
  have eb : upd (lwr bf (4200 * ch + w) (emb n) 3) (4200 * ch + (w + 3)) (i8 0) = lwr bf (4200 * ch + w) (emb n) (4) := by rw [← Nat.add_assoc]; rfl
  have ez : upd (lwr zf (4200 * ch + w) emz 3) (4200 * ch + (w + 3)) (0 &&& 1) = lwr zf (4200 * ch + w) emz (4) := by rw [← Nat.add_assoc]; show upd _ _ _ = upd _ _ (emz 3); rw [show ((0 : Int32) &&& 1) = emz 3 from by decide]
  rw [eb, ez, bx_uu] at hP hD
  have hP : va_P D vwCl [(y, .inr (3, [.int 0, .int (nI len), .ref tp, .int (nI mk), .ref bb, .ref zz, .ref wa, .ref fs, .ref fm, .int (nI fk)])), (bb, .inl (cB, 8400, .inl (lwr bf (4200 * ch + w) (emb n) 4))), (zz, .inl (cZ, 8400, .inl (lwr zf (4200 * ch + w) emz 4))), (wa, .inl (cA, 2, .inl (wI (va_up ww ch (w + 4)))))] H := hP
  have hD : va_D A [(y, .inr (3, [.int 0, .int (nI len), .ref tp, .int (nI mk), .ref bb, .ref zz, .ref wa, .ref fs, .ref fm, .int (nI fk)])), (bb, .inl (cB, 8400, .inl (lwr bf (4200 * ch + w) (emb n) 4))), (zz, .inl (cZ, 8400, .inl (lwr zf (4200 * ch + w) emz 4))), (wa, .inl (cA, 2, .inl (wI (va_up ww ch (w + 4)))))] := hD
  refine lv_aload_n hx hb dX3_fills_38 rfl (lv_at hl 1 rfl) ?_
  refine lv_iload_n hx hb dX3_fills_39 rfl (lv_at hl 2 rfl) ?_
  refine lv_iload_n hx hb dX3_fills_40 rfl (lv_at hl 0 rfl) ?_
  refine lv_sipush (v := 256) hx hb dX3_fills_41 (by decide +kernel) ?_
  refine lv_idiv hx hb dX3_fills_44 (by decide) ?_
  refine lv_iconst (v := 0) hx hb dX3_fills_45 (by decide) ?_
  refine cl0_vv ⟨hx, hb, hml, hown, hts⟩ (c_m_wait l D cA cB cZ y len tp bb zz wa fs fm mk fk (lwr bf (4200 * ch + w) (emb n) 4) (lwr zf (4200 * ch + w) emz 4) (va_up ww ch (w + 4)) ch (w + 4) ((nI (n - 7)) / 256) 0 hc (by simp [va_up]) (by omega)) (cwV 3 hts (gM_wait _) rfl rfl rfl (by decide +kernel) ⟨Nat.le_of_ble_eq_true rfl, Nat.le_of_ble_eq_true rfl⟩) (ci := 3) (q0 := 0) rfl rfl hN hK hP hD hS hA [0, 1, 2, 3] [] [0, 1, 2, 3] [] [(y, .inr (3, [.int 0, .int (nI len), .ref tp, .int (nI mk), .ref bb, .ref zz, .ref wa, .ref fs, .ref fm, .int (nI fk)])), (bb, .inl (cB, 8400, .inl (upd (lwr bf (4200 * ch + w) (emb n) 4) (4200 * ch + (w + 4)) (i8 ((nI (n - 7)) / 256))))), (zz, .inl (cZ, 8400, .inl (upd (lwr zf (4200 * ch + w) emz 4) (4200 * ch + (w + 4)) (0 &&& 1)))), (wa, .inl (cA, 2, .inl (wI (va_up (va_up ww ch (w + 4)) ch (w + 4 + 1)))))] [] rfl rfl rfl rfl (by decide) rfl rfl rfl hl.1 rfl (Nat.le_of_ble_eq_true rfl) dX3_fills_46 ⟨Nat.le_of_ble_eq_true rfl, Nat.le_of_ble_eq_true rfl⟩ (fun H locs hP hD hS => ?_)
  have eb : upd (lwr bf (4200 * ch + w) (emb n) 4) (4200 * ch + (w + 4)) (i8 ((nI (n - 7)) / 256)) = lwr bf (4200 * ch + w) (emb n) (5) := by rw [← Nat.add_assoc]; rfl
  have ez : upd (lwr zf (4200 * ch + w) emz 4) (4200 * ch + (w + 4)) (0 &&& 1) = lwr zf (4200 * ch + w) emz (5) := by rw [← Nat.add_assoc]; show upd _ _ _ = upd _ _ (emz 4); rw [show ((0 : Int32) &&& 1) = emz 4 from by decide]
  rw [eb, ez, bx_uu] at hP hD
  have hP : va_P D vwCl [(y, .inr (3, [.int 0, .int (nI len), .ref tp, .int (nI mk), .ref bb, .ref zz, .ref wa, .ref fs, .ref fm, .int (nI fk)])), (bb, .inl (cB, 8400, .inl (lwr bf (4200 * ch + w) (emb n) 5))), (zz, .inl (cZ, 8400, .inl (lwr zf (4200 * ch + w) emz 5))), (wa, .inl (cA, 2, .inl (wI (va_up ww ch (w + 5)))))] H := hP
  have hD : va_D A [(y, .inr (3, [.int 0, .int (nI len), .ref tp, .int (nI mk), .ref bb, .ref zz, .ref wa, .ref fs, .ref fm, .int (nI fk)])), (bb, .inl (cB, 8400, .inl (lwr bf (4200 * ch + w) (emb n) 5))), (zz, .inl (cZ, 8400, .inl (lwr zf (4200 * ch + w) emz 5))), (wa, .inl (cA, 2, .inl (wI (va_up ww ch (w + 5)))))] := hD
  refine lv_aload_n hx hb dX3_fills_49 rfl (lv_at hl 1 rfl) ?_
  refine lv_iload_n hx hb dX3_fills_50 rfl (lv_at hl 2 rfl) ?_
  refine lv_iload_n hx hb dX3_fills_51 rfl (lv_at hl 0 rfl) ?_
  refine lv_iconst (v := 0) hx hb dX3_fills_52 (by decide) ?_
  refine cl0_vv ⟨hx, hb, hml, hown, hts⟩ (c_m_wait l D cA cB cZ y len tp bb zz wa fs fm mk fk (lwr bf (4200 * ch + w) (emb n) 5) (lwr zf (4200 * ch + w) emz 5) (va_up ww ch (w + 5)) ch (w + 5) (nI (n - 7)) 0 hc (by simp [va_up]) (by omega)) (cwV 3 hts (gM_wait _) rfl rfl rfl (by decide +kernel) ⟨Nat.le_of_ble_eq_true rfl, Nat.le_of_ble_eq_true rfl⟩) (ci := 3) (q0 := 0) rfl rfl hN hK hP hD hS hA [0, 1, 2, 3] [] [0, 1, 2, 3] [] [(y, .inr (3, [.int 0, .int (nI len), .ref tp, .int (nI mk), .ref bb, .ref zz, .ref wa, .ref fs, .ref fm, .int (nI fk)])), (bb, .inl (cB, 8400, .inl (upd (lwr bf (4200 * ch + w) (emb n) 5) (4200 * ch + (w + 5)) (i8 (nI (n - 7)))))), (zz, .inl (cZ, 8400, .inl (upd (lwr zf (4200 * ch + w) emz 5) (4200 * ch + (w + 5)) (0 &&& 1)))), (wa, .inl (cA, 2, .inl (wI (va_up (va_up ww ch (w + 5)) ch (w + 5 + 1)))))] [] rfl rfl rfl rfl (by decide) rfl rfl rfl hl.1 rfl (Nat.le_of_ble_eq_true rfl) dX3_fills_53 ⟨Nat.le_of_ble_eq_true rfl, Nat.le_of_ble_eq_true rfl⟩ (fun H locs hP hD hS => ?_)
  have eb : upd (lwr bf (4200 * ch + w) (emb n) 5) (4200 * ch + (w + 5)) (i8 (nI (n - 7))) = lwr bf (4200 * ch + w) (emb n) (6) := by rw [← Nat.add_assoc]; rfl
  have ez : upd (lwr zf (4200 * ch + w) emz 5) (4200 * ch + (w + 5)) (0 &&& 1) = lwr zf (4200 * ch + w) emz (6) := by rw [← Nat.add_assoc]; show upd _ _ _ = upd _ _ (emz 5); rw [show ((0 : Int32) &&& 1) = emz 5 from by decide]
  rw [eb, ez, bx_uu] at hP hD
  have hP : va_P D vwCl [(y, .inr (3, [.int 0, .int (nI len), .ref tp, .int (nI mk), .ref bb, .ref zz, .ref wa, .ref fs, .ref fm, .int (nI fk)])), (bb, .inl (cB, 8400, .inl (lwr bf (4200 * ch + w) (emb n) 6))), (zz, .inl (cZ, 8400, .inl (lwr zf (4200 * ch + w) emz 6))), (wa, .inl (cA, 2, .inl (wI (va_up ww ch (w + 6)))))] H := hP
  have hD : va_D A [(y, .inr (3, [.int 0, .int (nI len), .ref tp, .int (nI mk), .ref bb, .ref zz, .ref wa, .ref fs, .ref fm, .int (nI fk)])), (bb, .inl (cB, 8400, .inl (lwr bf (4200 * ch + w) (emb n) 6))), (zz, .inl (cZ, 8400, .inl (lwr zf (4200 * ch + w) emz 6))), (wa, .inl (cA, 2, .inl (wI (va_up ww ch (w + 6)))))] := hD
  refine lv_bipush (v := 6) hx hb dX3_fills_56 (by decide +kernel) ?_
  refine tp_i (y := nI (6 + 0)) (rfl) ?_
  refine lv_istore (lv' := [(4, .int (nI (6 + 0))), (3, .int (nI (n - 7))), (0, .ref y), (1, .int (nI ch)), (2, .int (nI n))]) hx hb dX3_fills_58 hl (by decide) rfl (fun ls hl => ?_)
  have loop : ∀ (d i : Nat) (H : Heap) (locs : List Loc) (ls : Array Slot), 6 + i + d = n → va_P D vwCl [(y, .inr (3, [.int 0, .int (nI len), .ref tp, .int (nI mk), .ref bb, .ref zz, .ref wa, .ref fs, .ref fm, .int (nI fk)])), (bb, .inl (cB, 8400, .inl (lwr bf (4200 * ch + w) (emb n) (6 + i)))), (zz, .inl (cZ, 8400, .inl (lwr zf (4200 * ch + w) emz (6 + i)))), (wa, .inl (cA, 2, .inl (wI (va_up ww ch (w + (6 + i))))))] H → va_D A [(y, .inr (3, [.int 0, .int (nI len), .ref tp, .int (nI mk), .ref bb, .ref zz, .ref wa, .ref fs, .ref fm, .int (nI fk)])), (bb, .inl (cB, 8400, .inl (lwr bf (4200 * ch + w) (emb n) (6 + i)))), (zz, .inl (cZ, 8400, .inl (lwr zf (4200 * ch + w) emz (6 + i)))), (wa, .inl (cA, 2, .inl (wI (va_up ww ch (w + (6 + i))))))] → va_S A s.heap H locs → lv_has ls 5 [(4, .int (nI (6 + i))), (3, .int (nI (n - 7))), (0, .ref y), (1, .int (nI ch)), (2, .int (nI n))] → W p l e ({ frames := 1, cells := 0, slots := 0, locals := 23 } : Room) s m ([.ref y, .int (nI ch), .int (nI n)] : List Value).toArray below meth c H locs 0 0 Q (F0 m 60 ls []) := by
    intro d
    induction d with
    | zero =>
      intro i H locs ls hi hP hD hS hl
      have hi : 6 + i = n := hi
      refine lv_iload hx hb dX3_fills_60 (lv_at hl 0 rfl) ?_
      refine lv_iload_n hx hb dX3_fills_62 rfl (lv_at hl 4 rfl) ?_
      refine lv_icmp_ge (tgt := 80) hx hb dX3_fills_63 (by decide) (fun _ => ?_) (fun cc => absurd (nI_le (by omega) (by omega)) cc)
      rw [hi] at hP hD
      exact hex _ _ _ _ () hS (trivial) hP hD dX3_fills_80
    | succ d ih =>
      intro i H locs ls hi hP hD hS hl
      refine lv_iload hx hb dX3_fills_60 (lv_at hl 0 rfl) ?_
      refine lv_iload_n hx hb dX3_fills_62 rfl (lv_at hl 4 rfl) ?_
      refine lv_icmp_ge (tgt := 80) hx hb dX3_fills_63 (by decide) (fun cc => absurd cc (nI_ge (by omega) (by omega))) (fun _ => ?_)
      refine lv_aload_n hx hb dX3_fills_66 rfl (lv_at hl 2 rfl) ?_
      refine lv_iload_n hx hb dX3_fills_67 rfl (lv_at hl 3 rfl) ?_
      refine lv_bipush (v := 85) hx hb dX3_fills_68 (by decide +kernel) ?_
      refine lv_iconst (v := 0) hx hb dX3_fills_70 (by decide) ?_
      refine cl0_vv ⟨hx, hb, hml, hown, hts⟩ (c_m_wait l D cA cB cZ y len tp bb zz wa fs fm mk fk (lwr bf (4200 * ch + w) (emb n) (6 + i)) (lwr zf (4200 * ch + w) emz (6 + i)) (va_up ww ch (w + (6 + i))) ch (w + (6 + i)) 85 0 hc (by simp [va_up]) (by omega)) (cwV 3 hts (gM_wait _) rfl rfl rfl (by decide +kernel) ⟨Nat.le_of_ble_eq_true rfl, Nat.le_of_ble_eq_true rfl⟩) (ci := 3) (q0 := 0) rfl rfl hN hK hP hD hS hA [0, 1, 2, 3] [] [0, 1, 2, 3] [] [(y, .inr (3, [.int 0, .int (nI len), .ref tp, .int (nI mk), .ref bb, .ref zz, .ref wa, .ref fs, .ref fm, .int (nI fk)])), (bb, .inl (cB, 8400, .inl (upd (lwr bf (4200 * ch + w) (emb n) (6 + i)) (4200 * ch + (w + (6 + i))) (i8 85)))), (zz, .inl (cZ, 8400, .inl (upd (lwr zf (4200 * ch + w) emz (6 + i)) (4200 * ch + (w + (6 + i))) (0 &&& 1)))), (wa, .inl (cA, 2, .inl (wI (va_up (va_up ww ch (w + (6 + i))) ch (w + (6 + i) + 1)))))] [] rfl rfl rfl rfl (by decide) rfl rfl rfl hl.1 rfl (Nat.le_of_ble_eq_true rfl) dX3_fills_71 ⟨Nat.le_of_ble_eq_true rfl, Nat.le_of_ble_eq_true rfl⟩ (fun H locs hP hD hS => ?_)
      have eb : upd (lwr bf (4200 * ch + w) (emb n) (6 + i)) (4200 * ch + (w + (6 + i))) (i8 85) = lwr bf (4200 * ch + w) (emb n) (6 + i + 1) := by rw [← Nat.add_assoc]; show upd _ _ _ = upd _ _ (emb n (6 + i)); rw [emb_85 n (6 + i) (by omega)]
      have ez : upd (lwr zf (4200 * ch + w) emz (6 + i)) (4200 * ch + (w + (6 + i))) (0 &&& 1) = lwr zf (4200 * ch + w) emz (6 + i + 1) := by rw [← Nat.add_assoc]; show upd _ _ _ = upd _ _ (emz (6 + i)); rw [emz_0 (6 + i) (by omega)]; rfl
      rw [eb, ez, bx_uu] at hP hD
      have hP : va_P D vwCl [(y, .inr (3, [.int 0, .int (nI len), .ref tp, .int (nI mk), .ref bb, .ref zz, .ref wa, .ref fs, .ref fm, .int (nI fk)])), (bb, .inl (cB, 8400, .inl (lwr bf (4200 * ch + w) (emb n) (6 + i + 1)))), (zz, .inl (cZ, 8400, .inl (lwr zf (4200 * ch + w) emz (6 + i + 1)))), (wa, .inl (cA, 2, .inl (wI (va_up ww ch (w + (6 + i + 1))))))] H := hP
      have hD : va_D A [(y, .inr (3, [.int 0, .int (nI len), .ref tp, .int (nI mk), .ref bb, .ref zz, .ref wa, .ref fs, .ref fm, .int (nI fk)])), (bb, .inl (cB, 8400, .inl (lwr bf (4200 * ch + w) (emb n) (6 + i + 1)))), (zz, .inl (cZ, 8400, .inl (lwr zf (4200 * ch + w) emz (6 + i + 1)))), (wa, .inl (cA, 2, .inl (wI (va_up ww ch (w + (6 + i + 1))))))] := hD
      refine lv_iinc (v := nI (6 + (i + 1))) (lv' := [(4, .int (nI (6 + (i + 1)))), (3, .int (nI (n - 7))), (0, .ref y), (1, .int (nI ch)), (2, .int (nI n))]) hx hb dX3_fills_74 hl (k := 0) rfl (by rw [← Nat.add_assoc]; exact nI_1 _) (by decide) rfl (fun ls hl => ?_)
      refine lv_goto (tgt := 60) hx hb dX3_fills_77 (by decide) ?_
      exact ih (i + 1) H locs ls (by omega) hP hD hS (lv_sub hl [0, 1, 2, 3, 4] rfl)
  exact loop (n - 6) 0 _ _ ls (by omega) hP hD hS (lv_sub hl [0, 1, 2, 3, 4] rfl)

set_option maxHeartbeats 4000000 in
set_option maxRecDepth 100000 in
/-- first(ch, n) -/
theorem c_m_first (l : Launch) (D : va_G) (cA cB cZ : ClassId) (y len tp bb zz wa fs fm mk fk : Nat) (zf : Nat → Int32) (ch n : Nat) (hc : ch < 2) (hn : n ≤ 4200) : MI0 l yX3_first wsM_first { frames := 0, cells := 0, slots := 0, locals := 0 } [.ref y, .int (nI ch), .int (nI n)] D [(cA, .int), (cB, .byte), (cZ, .boolean)] [(y, .inr (3, [.int 0, .int (nI len), .ref tp, .int (nI mk), .ref bb, .ref zz, .ref wa, .ref fs, .ref fm, .int (nI fk)])), (zz, .inl (cZ, 8400, .inl zf))] (fbM zf (4200 * ch) n 0) [(y, .inr (3, [.int 0, .int (nI len), .ref tp, .int (nI mk), .ref bb, .ref zz, .ref wa, .ref fs, .ref fm, .int (nI fk)])), (zz, .inl (cZ, 8400, .inl zf))] := by
  refine mt_i (by decide) rfl (Nat.le_of_ble_eq_true rfl) ?_
  intro p e s m below meth c A ls Q hx hb hts hown hml hin hN hK hA hP hD hS hl hex
  have hown : s.vm.findClass RX3 = some m.cls := hown
  have hl : lv_has ls 4 [(0, .ref y), (1, .int (nI ch)), (2, .int (nI n))] := hl
  have iX3 : ∀ w ∈ wsX30, w ∈ wsM_first := by decide +kernel
  have lk16 := hts (.fieldLink RX3 16 "DownFramesModel" "begins" "[Z") (by decide +kernel)
  refine lv_iconst (v := 0) hx hb dX3_first_0 (by decide) ?_
  refine lv_istore_n (lv' := [(3, .int 0), (0, .ref y), (1, .int (nI ch)), (2, .int (nI n))]) hx hb dX3_first_1 rfl hl (by decide) rfl (fun ls hl => ?_)
  have loop : ∀ (d i : Nat) (ls : Array Slot), i + d = n → fbM zf (4200 * ch) d i = fbM zf (4200 * ch) n 0 → lv_has ls 4 [(3, .int (nI i)), (0, .ref y), (1, .int (nI ch)), (2, .int (nI n))] → W p l e ({ frames := 0, cells := 0, slots := 0, locals := 0 } : Room) s m ([.ref y, .int (nI ch), .int (nI n)] : List Value).toArray below meth c s.heap [] 0 0 Q (F0 m 2 ls []) := by
    intro d
    induction d with
    | zero =>
      intro i ls hi he hl
      refine lv_iload_n hx hb dX3_first_2 rfl (lv_at hl 0 rfl) ?_
      refine lv_iload_n hx hb dX3_first_3 rfl (lv_at hl 3 rfl) ?_
      refine lv_icmp_ge (tgt := 28) hx hb dX3_first_4 (by decide) (fun _ => ?_) (fun cc => absurd (nI_le (by omega) (by omega)) cc)
      refine lv_iload_n hx hb dX3_first_28 rfl (lv_at hl 0 rfl) ?_
      refine lv_iload_n hx hb dX3_first_29 rfl (lv_at hl 3 rfl) ?_
      refine lv_icmp_ge (tgt := 37) hx hb dX3_first_30 (by decide) (fun _ => ?_) (fun cc => absurd (nI_le (by omega) (by omega)) cc)
      refine lv_sipush (v := 2047) hx hb dX3_first_37 (by decide +kernel) ?_
      exact hex _ _ _ _ _ () hS (he) hP hD dX3_first_40
    | succ d ih =>
      intro i ls hi he hl
      refine lv_iload_n hx hb dX3_first_2 rfl (lv_at hl 0 rfl) ?_
      refine lv_iload_n hx hb dX3_first_3 rfl (lv_at hl 3 rfl) ?_
      refine lv_icmp_ge (tgt := 28) hx hb dX3_first_4 (by decide) (fun cc => absurd cc (nI_ge (by omega) (by omega))) (fun _ => ?_)
      refine lv_aload_n hx hb dX3_first_7 rfl (lv_at hl 1 rfl) ?_
      refine va_get (D := D) (ci := 3) (v := .ref zz) hx hb hts iX3 hown hK hP 0 rfl rfl 5 (by decide) lk16 (fun _ h => h) rfl dX3_first_8 ?_
      refine lv_sipush (v := 4200) hx hb dX3_first_11 (by decide +kernel) ?_
      refine lv_iload_n hx hb dX3_first_14 rfl (lv_at hl 2 rfl) ?_
      refine lv_imul hx hb dX3_first_15 ?_
      refine lv_iload_n hx hb dX3_first_16 rfl (lv_at hl 0 rfl) ?_
      refine lv_iadd hx hb dX3_first_17 ?_
      refine tp_i (y := nI (4200 * ch + i)) (by rw [show (4200 : Int32) = nI 4200 from rfl, pk_mul, nI_add]) ?_
      refine al_z (k := (4200 * ch + i)) hx hb hK hP 1 2 rfl rfl (by omega) (by decide) dX3_first_18 ?_
      refine lv_if_ne (tgt := 28) hx hb dX3_first_19 (by decide) (fun q1 => ?_) (fun q1 => ?_)
      · refine lv_iload_n hx hb dX3_first_28 rfl (lv_at hl 0 rfl) ?_
        refine lv_iload_n hx hb dX3_first_29 rfl (lv_at hl 3 rfl) ?_
        refine lv_icmp_ge (tgt := 37) hx hb dX3_first_30 (by decide) (fun cc => absurd cc (nI_ge (by omega) (by omega))) (fun _ => ?_)
        refine lv_iload_n hx hb dX3_first_33 rfl (lv_at hl 0 rfl) ?_
        refine lv_goto (tgt := 40) hx hb dX3_first_34 (by decide) ?_
        exact hex _ _ _ _ _ () hS (by rw [← he]; simp only [fbM]; rw [if_neg q1]) hP hD dX3_first_40
      · refine lv_iinc (v := nI (i + 1)) (lv' := [(3, .int (nI (i + 1))), (0, .ref y), (1, .int (nI ch)), (2, .int (nI n))]) hx hb dX3_first_22 hl (k := 0) rfl (nI_1 _) (by decide) rfl (fun ls hl => ?_)
        refine lv_goto (tgt := 2) hx hb dX3_first_25 (by decide) ?_
        exact ih (i + 1) ls (by omega) (by rw [← he]; simp only [fbM]; rw [if_pos q1]) (lv_sub hl [0, 1, 2, 3] rfl)
  exact loop n 0 ls (by omega) rfl (lv_sub hl [0, 1, 2, 3] rfl)

set_option maxHeartbeats 4000000 in
set_option maxRecDepth 100000 in
/-- leave(ch, n) -/
theorem c_m_leave (l : Launch) (D : va_G) (cA cB cZ : ClassId) (y len tp bb zz wa fs fm mk fk : Nat) (bf zf : Nat → Int32) (ww : Nat → Nat) (ch w n : Nat) (hc : ch < 2) (hw : ww ch = w) (hn : n ≤ w) (hw2 : w ≤ 4200) : MV0 l yX3_leave wsM_leave { frames := 0, cells := 0, slots := 0, locals := 0 } [.ref y, .int (nI ch), .int (nI n)] D [(cA, .int), (cB, .byte), (cZ, .boolean)] [(y, .inr (3, [.int 0, .int (nI len), .ref tp, .int (nI mk), .ref bb, .ref zz, .ref wa, .ref fs, .ref fm, .int (nI fk)])), (bb, .inl (cB, 8400, .inl bf)), (zz, .inl (cZ, 8400, .inl zf)), (wa, .inl (cA, 2, .inl (wI ww)))] [(y, .inr (3, [.int 0, .int (nI len), .ref tp, .int (nI mk), .ref bb, .ref zz, .ref wa, .ref fs, .ref fm, .int (nI fk)])), (bb, .inl (cB, 8400, .inl (lwr bf (4200 * ch) (fun i => i8 (bf (4200 * ch + i + n))) (w - n)))), (zz, .inl (cZ, 8400, .inl (lwr zf (4200 * ch) (fun i => zf (4200 * ch + i + n) &&& 1) (w - n)))), (wa, .inl (cA, 2, .inl (wI (va_up ww ch (w - n)))))] := by
  refine mt_v (by decide) rfl (Nat.le_of_ble_eq_true rfl) ?_
  intro p e s m below meth c A ls Q hx hb hts hown hml hin hN hK hA hP hD hS hl hex
  have hown : s.vm.findClass RX3 = some m.cls := hown
  have hl : lv_has ls 4 [(0, .ref y), (1, .int (nI ch)), (2, .int (nI n))] := hl
  have iX3 : ∀ w ∈ wsX30, w ∈ wsM_leave := by decide +kernel
  have lk13 := hts (.fieldLink RX3 13 "DownFramesModel" "bytes" "[B") (by decide +kernel)
  have lk16 := hts (.fieldLink RX3 16 "DownFramesModel" "begins" "[Z") (by decide +kernel)
  have lk20 := hts (.fieldLink RX3 20 "DownFramesModel" "waits" "[I") (by decide +kernel)
  refine lv_aload_n hx hb dX3_leave_0 rfl (lv_at hl 0 rfl) ?_
  refine va_get (D := D) (ci := 3) (v := .ref wa) hx hb hts iX3 hown hK hP 0 rfl rfl 6 (by decide) lk20 (fun _ h => h) rfl dX3_leave_1 ?_
  refine lv_iload_n hx hb dX3_leave_4 rfl (lv_at hl 1 rfl) ?_
  refine lv_dup2_11 hx hb dX3_leave_5 rfl rfl ?_
  refine al_i (k := ch) hx hb hK hP 3 0 rfl rfl (hc) (by decide) dX3_leave_6 ?_
  refine tp_i (y := nI w) (congrArg nI hw) ?_
  refine lv_iload_n hx hb dX3_leave_7 rfl (lv_at hl 2 rfl) ?_
  refine lv_isub hx hb dX3_leave_8 ?_
  refine tp_i (y := nI (w - n)) (pk_sub hn) ?_
  refine as_i (k := ch) (x := (nI (w - n))) hx hb hK hP hD hS 3 0 rfl rfl (hc) (by decide) dX3_leave_9 (fun H locs hP hD hS => ?_)
  have hP : va_P D vwCl [(y, .inr (3, [.int 0, .int (nI len), .ref tp, .int (nI mk), .ref bb, .ref zz, .ref wa, .ref fs, .ref fm, .int (nI fk)])), (bb, .inl (cB, 8400, .inl bf)), (zz, .inl (cZ, 8400, .inl zf)), (wa, .inl (cA, 2, .inl (upd (wI ww) ch (nI (w - n)))))] H := hP
  have hD : va_D A [(y, .inr (3, [.int 0, .int (nI len), .ref tp, .int (nI mk), .ref bb, .ref zz, .ref wa, .ref fs, .ref fm, .int (nI fk)])), (bb, .inl (cB, 8400, .inl bf)), (zz, .inl (cZ, 8400, .inl zf)), (wa, .inl (cA, 2, .inl (upd (wI ww) ch (nI (w - n)))))] := hD
  rw [wI_upd] at hP hD
  have hP : va_P D vwCl [(y, .inr (3, [.int 0, .int (nI len), .ref tp, .int (nI mk), .ref bb, .ref zz, .ref wa, .ref fs, .ref fm, .int (nI fk)])), (bb, .inl (cB, 8400, .inl bf)), (zz, .inl (cZ, 8400, .inl zf)), (wa, .inl (cA, 2, .inl (wI (va_up ww ch (w - n)))))] H := hP
  have hD : va_D A [(y, .inr (3, [.int 0, .int (nI len), .ref tp, .int (nI mk), .ref bb, .ref zz, .ref wa, .ref fs, .ref fm, .int (nI fk)])), (bb, .inl (cB, 8400, .inl bf)), (zz, .inl (cZ, 8400, .inl zf)), (wa, .inl (cA, 2, .inl (wI (va_up ww ch (w - n)))))] := hD
  refine lv_sipush (v := 4200) hx hb dX3_leave_10 (by decide +kernel) ?_
  refine lv_iload_n hx hb dX3_leave_13 rfl (lv_at hl 1 rfl) ?_
  refine lv_imul hx hb dX3_leave_14 ?_
  refine tp_i (y := nI (4200 * ch + 0)) (by rw [show (4200 : Int32) = nI 4200 from rfl, pk_mul]; rfl) ?_
  refine lv_istore_n (lv' := [(3, .int (nI (4200 * ch + 0))), (0, .ref y), (1, .int (nI ch)), (2, .int (nI n))]) hx hb dX3_leave_15 rfl hl (by decide) rfl (fun ls hl => ?_)
  have loop : ∀ (d i : Nat) (H : Heap) (locs : List Loc) (ls : Array Slot), i + d = w - n → va_P D vwCl [(y, .inr (3, [.int 0, .int (nI len), .ref tp, .int (nI mk), .ref bb, .ref zz, .ref wa, .ref fs, .ref fm, .int (nI fk)])), (bb, .inl (cB, 8400, .inl (lwr bf (4200 * ch) (fun i => i8 (bf (4200 * ch + i + n))) i))), (zz, .inl (cZ, 8400, .inl (lwr zf (4200 * ch) (fun i => zf (4200 * ch + i + n) &&& 1) i))), (wa, .inl (cA, 2, .inl (wI (va_up ww ch (w - n)))))] H → va_D A [(y, .inr (3, [.int 0, .int (nI len), .ref tp, .int (nI mk), .ref bb, .ref zz, .ref wa, .ref fs, .ref fm, .int (nI fk)])), (bb, .inl (cB, 8400, .inl (lwr bf (4200 * ch) (fun i => i8 (bf (4200 * ch + i + n))) i))), (zz, .inl (cZ, 8400, .inl (lwr zf (4200 * ch) (fun i => zf (4200 * ch + i + n) &&& 1) i))), (wa, .inl (cA, 2, .inl (wI (va_up ww ch (w - n)))))] → va_S A s.heap H locs → lv_has ls 4 [(3, .int (nI (4200 * ch + i))), (0, .ref y), (1, .int (nI ch)), (2, .int (nI n))] → W p l e ({ frames := 0, cells := 0, slots := 0, locals := 0 } : Room) s m ([.ref y, .int (nI ch), .int (nI n)] : List Value).toArray below meth c H locs 0 0 Q (F0 m 16 ls []) := by
    intro d
    induction d with
    | zero =>
      intro i H locs ls hi hP hD hS hl
      have hi : i = w - n := hi
      refine lv_iload_n hx hb dX3_leave_16 rfl (lv_at hl 0 rfl) ?_
      refine lv_sipush (v := 4200) hx hb dX3_leave_17 (by decide +kernel) ?_
      refine lv_iload_n hx hb dX3_leave_20 rfl (lv_at hl 2 rfl) ?_
      refine lv_imul hx hb dX3_leave_21 ?_
      refine lv_aload_n hx hb dX3_leave_22 rfl (lv_at hl 1 rfl) ?_
      refine va_get (D := D) (ci := 3) (v := .ref wa) hx hb hts iX3 hown hK hP 0 rfl rfl 6 (by decide) lk20 (fun _ h => h) rfl dX3_leave_23 ?_
      refine lv_iload_n hx hb dX3_leave_26 rfl (lv_at hl 2 rfl) ?_
      refine al_i (k := ch) hx hb hK hP 3 0 rfl rfl (hc) (by decide) dX3_leave_27 ?_
      refine tp_i (y := nI (w - n)) (by simp [wI, va_up]) ?_
      refine lv_iadd hx hb dX3_leave_28 ?_
      refine tp_i (y := nI (4200 * ch + (w - n))) (by rw [show (4200 : Int32) = nI 4200 from rfl, pk_mul, nI_add]) ?_
      refine lv_icmp_ge (tgt := 66) hx hb dX3_leave_29 (by decide) (fun _ => ?_) (fun cc => absurd (nI_le (by omega) (by omega)) cc)
      rw [hi] at hP hD
      exact hex _ _ _ _ () hS (trivial) hP hD dX3_leave_66
    | succ d ih =>
      intro i H locs ls hi hP hD hS hl
      refine lv_iload_n hx hb dX3_leave_16 rfl (lv_at hl 0 rfl) ?_
      refine lv_sipush (v := 4200) hx hb dX3_leave_17 (by decide +kernel) ?_
      refine lv_iload_n hx hb dX3_leave_20 rfl (lv_at hl 2 rfl) ?_
      refine lv_imul hx hb dX3_leave_21 ?_
      refine lv_aload_n hx hb dX3_leave_22 rfl (lv_at hl 1 rfl) ?_
      refine va_get (D := D) (ci := 3) (v := .ref wa) hx hb hts iX3 hown hK hP 0 rfl rfl 6 (by decide) lk20 (fun _ h => h) rfl dX3_leave_23 ?_
      refine lv_iload_n hx hb dX3_leave_26 rfl (lv_at hl 2 rfl) ?_
      refine al_i (k := ch) hx hb hK hP 3 0 rfl rfl (hc) (by decide) dX3_leave_27 ?_
      refine tp_i (y := nI (w - n)) (by simp [wI, va_up]) ?_
      refine lv_iadd hx hb dX3_leave_28 ?_
      refine tp_i (y := nI (4200 * ch + (w - n))) (by rw [show (4200 : Int32) = nI 4200 from rfl, pk_mul, nI_add]) ?_
      refine lv_icmp_ge (tgt := 66) hx hb dX3_leave_29 (by decide) (fun cc => absurd cc (nI_ge (by omega) (by omega))) (fun _ => ?_)
      refine lv_aload_n hx hb dX3_leave_32 rfl (lv_at hl 1 rfl) ?_
      refine va_get (D := D) (ci := 3) (v := .ref bb) hx hb hts iX3 hown hK hP 0 rfl rfl 4 (by decide) lk13 (fun _ h => h) rfl dX3_leave_33 ?_
      refine lv_iload_n hx hb dX3_leave_36 rfl (lv_at hl 0 rfl) ?_
      refine lv_aload_n hx hb dX3_leave_37 rfl (lv_at hl 1 rfl) ?_
      refine va_get (D := D) (ci := 3) (v := .ref bb) hx hb hts iX3 hown hK hP 0 rfl rfl 4 (by decide) lk13 (fun _ h => h) rfl dX3_leave_38 ?_
      refine lv_iload_n hx hb dX3_leave_41 rfl (lv_at hl 0 rfl) ?_
      refine lv_iload_n hx hb dX3_leave_42 rfl (lv_at hl 3 rfl) ?_
      refine lv_iadd hx hb dX3_leave_43 ?_
      refine tp_i (y := nI (4200 * ch + i + n)) (nI_add _ _) ?_
      refine al_b (k := (4200 * ch + i + n)) hx hb hK hP 1 1 rfl rfl (by omega) (by decide) dX3_leave_44 ?_
      refine tp_i (y := bf (4200 * ch + i + n)) (lwr_out (Or.inr (by omega))) ?_
      refine as_b (k := (4200 * ch + i)) (x := (bf (4200 * ch + i + n))) hx hb hK hP hD hS 1 1 rfl rfl (by omega) (by decide) dX3_leave_45 (fun H locs hP hD hS => ?_)
      have hP : va_P D vwCl [(y, .inr (3, [.int 0, .int (nI len), .ref tp, .int (nI mk), .ref bb, .ref zz, .ref wa, .ref fs, .ref fm, .int (nI fk)])), (bb, .inl (cB, 8400, .inl (upd (lwr bf (4200 * ch) (fun i => i8 (bf (4200 * ch + i + n))) i) (4200 * ch + i) (i8 (bf (4200 * ch + i + n)))))), (zz, .inl (cZ, 8400, .inl (lwr zf (4200 * ch) (fun i => zf (4200 * ch + i + n) &&& 1) i))), (wa, .inl (cA, 2, .inl (wI (va_up ww ch (w - n)))))] H := hP
      have hD : va_D A [(y, .inr (3, [.int 0, .int (nI len), .ref tp, .int (nI mk), .ref bb, .ref zz, .ref wa, .ref fs, .ref fm, .int (nI fk)])), (bb, .inl (cB, 8400, .inl (upd (lwr bf (4200 * ch) (fun i => i8 (bf (4200 * ch + i + n))) i) (4200 * ch + i) (i8 (bf (4200 * ch + i + n)))))), (zz, .inl (cZ, 8400, .inl (lwr zf (4200 * ch) (fun i => zf (4200 * ch + i + n) &&& 1) i))), (wa, .inl (cA, 2, .inl (wI (va_up ww ch (w - n)))))] := hD
      have hP : va_P D vwCl [(y, .inr (3, [.int 0, .int (nI len), .ref tp, .int (nI mk), .ref bb, .ref zz, .ref wa, .ref fs, .ref fm, .int (nI fk)])), (bb, .inl (cB, 8400, .inl (lwr bf (4200 * ch) (fun i => i8 (bf (4200 * ch + i + n))) (i + 1)))), (zz, .inl (cZ, 8400, .inl (lwr zf (4200 * ch) (fun i => zf (4200 * ch + i + n) &&& 1) i))), (wa, .inl (cA, 2, .inl (wI (va_up ww ch (w - n)))))] H := hP
      have hD : va_D A [(y, .inr (3, [.int 0, .int (nI len), .ref tp, .int (nI mk), .ref bb, .ref zz, .ref wa, .ref fs, .ref fm, .int (nI fk)])), (bb, .inl (cB, 8400, .inl (lwr bf (4200 * ch) (fun i => i8 (bf (4200 * ch + i + n))) (i + 1)))), (zz, .inl (cZ, 8400, .inl (lwr zf (4200 * ch) (fun i => zf (4200 * ch + i + n) &&& 1) i))), (wa, .inl (cA, 2, .inl (wI (va_up ww ch (w - n)))))] := hD
      refine lv_aload_n hx hb dX3_leave_46 rfl (lv_at hl 1 rfl) ?_
      refine va_get (D := D) (ci := 3) (v := .ref zz) hx hb hts iX3 hown hK hP 0 rfl rfl 5 (by decide) lk16 (fun _ h => h) rfl dX3_leave_47 ?_
      refine lv_iload_n hx hb dX3_leave_50 rfl (lv_at hl 0 rfl) ?_
      refine lv_aload_n hx hb dX3_leave_51 rfl (lv_at hl 1 rfl) ?_
      refine va_get (D := D) (ci := 3) (v := .ref zz) hx hb hts iX3 hown hK hP 0 rfl rfl 5 (by decide) lk16 (fun _ h => h) rfl dX3_leave_52 ?_
      refine lv_iload_n hx hb dX3_leave_55 rfl (lv_at hl 0 rfl) ?_
      refine lv_iload_n hx hb dX3_leave_56 rfl (lv_at hl 3 rfl) ?_
      refine lv_iadd hx hb dX3_leave_57 ?_
      refine tp_i (y := nI (4200 * ch + i + n)) (nI_add _ _) ?_
      refine al_z (k := (4200 * ch + i + n)) hx hb hK hP 2 2 rfl rfl (by omega) (by decide) dX3_leave_58 ?_
      refine tp_i (y := zf (4200 * ch + i + n)) (lwr_out (Or.inr (by omega))) ?_
      refine as_z (k := (4200 * ch + i)) (x := (zf (4200 * ch + i + n))) hx hb hK hP hD hS 2 2 rfl rfl (by omega) (by decide) dX3_leave_59 (fun H locs hP hD hS => ?_)
      have hP : va_P D vwCl [(y, .inr (3, [.int 0, .int (nI len), .ref tp, .int (nI mk), .ref bb, .ref zz, .ref wa, .ref fs, .ref fm, .int (nI fk)])), (bb, .inl (cB, 8400, .inl (lwr bf (4200 * ch) (fun i => i8 (bf (4200 * ch + i + n))) (i + 1)))), (zz, .inl (cZ, 8400, .inl (upd (lwr zf (4200 * ch) (fun i => zf (4200 * ch + i + n) &&& 1) i) (4200 * ch + i) ((zf (4200 * ch + i + n)) &&& 1)))), (wa, .inl (cA, 2, .inl (wI (va_up ww ch (w - n)))))] H := hP
      have hD : va_D A [(y, .inr (3, [.int 0, .int (nI len), .ref tp, .int (nI mk), .ref bb, .ref zz, .ref wa, .ref fs, .ref fm, .int (nI fk)])), (bb, .inl (cB, 8400, .inl (lwr bf (4200 * ch) (fun i => i8 (bf (4200 * ch + i + n))) (i + 1)))), (zz, .inl (cZ, 8400, .inl (upd (lwr zf (4200 * ch) (fun i => zf (4200 * ch + i + n) &&& 1) i) (4200 * ch + i) ((zf (4200 * ch + i + n)) &&& 1)))), (wa, .inl (cA, 2, .inl (wI (va_up ww ch (w - n)))))] := hD
      have hP : va_P D vwCl [(y, .inr (3, [.int 0, .int (nI len), .ref tp, .int (nI mk), .ref bb, .ref zz, .ref wa, .ref fs, .ref fm, .int (nI fk)])), (bb, .inl (cB, 8400, .inl (lwr bf (4200 * ch) (fun i => i8 (bf (4200 * ch + i + n))) (i + 1)))), (zz, .inl (cZ, 8400, .inl (lwr zf (4200 * ch) (fun i => zf (4200 * ch + i + n) &&& 1) (i + 1)))), (wa, .inl (cA, 2, .inl (wI (va_up ww ch (w - n)))))] H := hP
      have hD : va_D A [(y, .inr (3, [.int 0, .int (nI len), .ref tp, .int (nI mk), .ref bb, .ref zz, .ref wa, .ref fs, .ref fm, .int (nI fk)])), (bb, .inl (cB, 8400, .inl (lwr bf (4200 * ch) (fun i => i8 (bf (4200 * ch + i + n))) (i + 1)))), (zz, .inl (cZ, 8400, .inl (lwr zf (4200 * ch) (fun i => zf (4200 * ch + i + n) &&& 1) (i + 1)))), (wa, .inl (cA, 2, .inl (wI (va_up ww ch (w - n)))))] := hD
      refine lv_iinc (v := nI (4200 * ch + (i + 1))) (lv' := [(3, .int (nI (4200 * ch + (i + 1)))), (0, .ref y), (1, .int (nI ch)), (2, .int (nI n))]) hx hb dX3_leave_60 hl (k := 0) rfl (by rw [← Nat.add_assoc]; exact nI_1 _) (by decide) rfl (fun ls hl => ?_)
      refine lv_goto (tgt := 16) hx hb dX3_leave_63 (by decide) ?_
      exact ih (i + 1) H locs ls (by omega) hP hD hS (lv_sub hl [0, 1, 2, 3] rfl)
  exact loop (w - n) 0 _ _ ls (by omega) hP hD hS (lv_sub hl [0, 1, 2, 3] rfl)

set_option maxHeartbeats 4000000 in
set_option maxRecDepth 100000 in
/-- add(b) -/
theorem c_m_add (l : Launch) (D : va_G) (cA cB cZ : ClassId) (y len tp bb zz wa fs fm mk fk : Nat) (ff : Nat → Int32) (x : Int32) (hk : fk < 256) : MV0 l yX3_add wsM_add { frames := 0, cells := 0, slots := 0, locals := 0 } [.ref y, .int x] D [(cA, .int), (cB, .byte), (cZ, .boolean)] [(y, .inr (3, [.int 0, .int (nI len), .ref tp, .int (nI mk), .ref bb, .ref zz, .ref wa, .ref fs, .ref fm, .int (nI fk)])), (fm, .inl (cB, 256, .inl ff))] [(y, .inr (3, [.int 0, .int (nI len), .ref tp, .int (nI mk), .ref bb, .ref zz, .ref wa, .ref fs, .ref fm, .int (nI (fk + 1))])), (fm, .inl (cB, 256, .inl (upd ff fk (i8 x))))] := by
  refine mt_v (by decide) rfl (Nat.le_of_ble_eq_true rfl) ?_
  intro p e s m below meth c A ls Q hx hb hts hown hml hin hN hK hA hP hD hS hl hex
  have hown : s.vm.findClass RX3 = some m.cls := hown
  have hl : lv_has ls 2 [(0, .ref y), (1, .int x)] := hl
  have iX3 : ∀ w ∈ wsX30, w ∈ wsM_add := by decide +kernel
  have lk27 := hts (.fieldLink RX3 27 "DownFramesModel" "frame" "[B") (by decide +kernel)
  have lk44 := hts (.fieldLink RX3 44 "DownFramesModel" "filled" "I") (by decide +kernel)
  refine lv_aload_n hx hb dX3_add_0 rfl (lv_at hl 0 rfl) ?_
  refine va_get (D := D) (ci := 3) (v := .ref fm) hx hb hts iX3 hown hK hP 0 rfl rfl 8 (by decide) lk27 (fun _ h => h) rfl dX3_add_1 ?_
  refine lv_aload_n hx hb dX3_add_4 rfl (lv_at hl 0 rfl) ?_
  refine va_get (D := D) (ci := 3) (v := .int (nI fk)) hx hb hts iX3 hown hK hP 0 rfl rfl 9 (by decide) lk44 (fun _ h => h) rfl dX3_add_5 ?_
  refine lv_iload_n hx hb dX3_add_8 rfl (lv_at hl 1 rfl) ?_
  refine lv_i2b (v := i8 x) hx hb dX3_add_9 rfl ?_
  refine as_b8 (k := fk) (x := x) hx hb hK hP hD hS 1 1 rfl rfl (hk) (by decide) dX3_add_10 (fun H locs hP hD hS => ?_)
  have hP : va_P D vwCl [(y, .inr (3, [.int 0, .int (nI len), .ref tp, .int (nI mk), .ref bb, .ref zz, .ref wa, .ref fs, .ref fm, .int (nI fk)])), (fm, .inl (cB, 256, .inl (upd ff fk (i8 x))))] H := hP
  have hD : va_D A [(y, .inr (3, [.int 0, .int (nI len), .ref tp, .int (nI mk), .ref bb, .ref zz, .ref wa, .ref fs, .ref fm, .int (nI fk)])), (fm, .inl (cB, 256, .inl (upd ff fk (i8 x))))] := hD
  refine lv_aload_n hx hb dX3_add_11 rfl (lv_at hl 0 rfl) ?_
  refine lv_dup hx hb dX3_add_12 rfl ?_
  refine va_get (D := D) (ci := 3) (v := .int (nI fk)) hx hb hts iX3 hown hK hP 0 rfl rfl 9 (by decide) lk44 (fun _ h => h) rfl dX3_add_13 ?_
  refine lv_iconst (v := 1) hx hb dX3_add_16 (by decide) ?_
  refine lv_iadd hx hb dX3_add_17 ?_
  refine tp_i (y := nI (fk + 1)) (nI_1 fk) ?_
  refine va_put (D := D) (ci := 3) (v := .int (nI (fk + 1))) (ty := (.int)) hx hb hts iX3 tyX3 tyX3_ok nmX3 hown hK hP hD hS 0 rfl rfl 9 (by decide) lk44 (fun _ h => h) rfl (by decide +kernel) rfl rfl (Nat.le_of_ble_eq_true rfl) dX3_add_18 (fun H locs hP hD hS => ?_)
  have hP : va_P D vwCl [(y, .inr (3, [.int 0, .int (nI len), .ref tp, .int (nI mk), .ref bb, .ref zz, .ref wa, .ref fs, .ref fm, .int (nI (fk + 1))])), (fm, .inl (cB, 256, .inl (upd ff fk (i8 x))))] H := hP
  have hD : va_D A [(y, .inr (3, [.int 0, .int (nI len), .ref tp, .int (nI mk), .ref bb, .ref zz, .ref wa, .ref fs, .ref fm, .int (nI (fk + 1))])), (fm, .inl (cB, 256, .inl (upd ff fk (i8 x))))] := hD
  exact hex _ _ _ _ () hS (trivial) hP hD dX3_add_21

set_option maxHeartbeats 4000000 in
set_option maxRecDepth 100000 in
/-- check() -/
theorem c_m_check (l : Launch) (D : va_G) (cA cB cZ : ClassId) (y len tp bb zz wa fs fm mk fk : Nat) (ff : Nat → Int32) (hk : fk ≤ 256) : MI0 l yX3_check wsM_check { frames := 0, cells := 0, slots := 0, locals := 0 } [.ref y] D [(cA, .int), (cB, .byte), (cZ, .boolean)] [(y, .inr (3, [.int 0, .int (nI len), .ref tp, .int (nI mk), .ref bb, .ref zz, .ref wa, .ref fs, .ref fm, .int (nI fk)])), (fm, .inl (cB, 256, .inl ff))] (crcM ff fk) [(y, .inr (3, [.int 0, .int (nI len), .ref tp, .int (nI mk), .ref bb, .ref zz, .ref wa, .ref fs, .ref fm, .int (nI fk)])), (fm, .inl (cB, 256, .inl ff))] := by
  refine mt_i (by decide) rfl (Nat.le_of_ble_eq_true rfl) ?_
  intro p e s m below meth c A ls Q hx hb hts hown hml hin hN hK hA hP hD hS hl hex
  have hown : s.vm.findClass RX3 = some m.cls := hown
  have hl : lv_has ls 4 [(0, .ref y)] := hl
  have iX3 : ∀ w ∈ wsX30, w ∈ wsM_check := by decide +kernel
  have k47 := hts (.constant RX3 47 65535) (by decide +kernel)
  have k48 := hts (.constant RX3 48 65536) (by decide +kernel)
  have k49 := hts (.constant RX3 49 69665) (by decide +kernel)
  have lk27 := hts (.fieldLink RX3 27 "DownFramesModel" "frame" "[B") (by decide +kernel)
  have lk44 := hts (.fieldLink RX3 44 "DownFramesModel" "filled" "I") (by decide +kernel)
  refine lv_ldc hx hb hown k47 dX3_check_0 ?_
  refine lv_istore_n (lv' := [(1, .int 65535), (0, .ref y)]) hx hb dX3_check_2 rfl hl (by decide) rfl (fun ls hl => ?_)
  refine lv_iconst (v := 0) hx hb dX3_check_3 (by decide) ?_
  refine lv_istore_n (lv' := [(2, .int 0), (1, .int 65535), (0, .ref y)]) hx hb dX3_check_4 rfl hl (by decide) rfl (fun ls hl => ?_)
  have inner : ∀ (q i : Nat) (x : Int32) (ls : Array Slot), q ≤ 8 → lv_has ls 4 [(3, .int (nI (8 - q))), (1, .int x), (2, .int (nI i)), (0, .ref y)] → (∀ ls : Array Slot, lv_has ls 4 [(1, .int (crBM q x)), (2, .int (nI i)), (0, .ref y)] → W p l e ({ frames := 0, cells := 0, slots := 0, locals := 0 } : Room) s m ([.ref y] : List Value).toArray below meth c s.heap [] 0 0 Q (F0 m 63 ls [])) → W p l e ({ frames := 0, cells := 0, slots := 0, locals := 0 } : Room) s m ([.ref y] : List Value).toArray below meth c s.heap [] 0 0 Q (F0 m 32 ls []) := by
    intro q
    induction q with
    | zero =>
      intro i x ls hq hl k
      refine lv_iload_n hx hb dX3_check_32 rfl (lv_at hl 0 rfl) ?_
      refine lv_bipush (v := 8) hx hb dX3_check_33 (by decide +kernel) ?_
      refine lv_icmp_ge (tgt := 63) hx hb dX3_check_35 (by decide) (fun _ => ?_) (fun cc => absurd (by decide) cc)
      exact k ls (lv_sub hl [1, 2, 3] rfl)
    | succ q ih =>
      intro i x ls hq hl k
      refine lv_iload_n hx hb dX3_check_32 rfl (lv_at hl 0 rfl) ?_
      refine lv_bipush (v := 8) hx hb dX3_check_33 (by decide +kernel) ?_
      refine lv_icmp_ge (tgt := 63) hx hb dX3_check_35 (by decide) (fun cc => absurd cc (nI_ge (b := 8) (by omega) (by decide))) (fun _ => ?_)
      refine lv_iconst (v := 2) hx hb dX3_check_38 (by decide) ?_
      refine lv_iload_n hx hb dX3_check_39 rfl (lv_at hl 1 rfl) ?_
      refine lv_imul hx hb dX3_check_40 ?_
      refine lv_istore_n (lv' := [(1, .int (2 * x)), (3, .int (nI (8 - (q + 1)))), (2, .int (nI i)), (0, .ref y)]) hx hb dX3_check_41 rfl hl (by decide) rfl (fun ls hl => ?_)
      refine lv_iload_n hx hb dX3_check_42 rfl (lv_at hl 0 rfl) ?_
      refine lv_ldc hx hb hown k48 dX3_check_43 ?_
      refine lv_icmp_lt (tgt := 55) hx hb dX3_check_45 (by decide) (fun c1 => ?_) (fun c1 => ?_)
      · refine lv_iload_n hx hb dX3_check_55 rfl (lv_at hl 0 rfl) ?_
        refine lv_istore_n (lv' := [(1, .int (2 * x)), (3, .int (nI (8 - (q + 1)))), (2, .int (nI i)), (0, .ref y)]) hx hb dX3_check_56 rfl hl (by decide) rfl (fun ls hl => ?_)
        refine lv_iinc (v := nI (8 - q)) (lv' := [(3, .int (nI (8 - q))), (1, .int (2 * x)), (2, .int (nI i)), (0, .ref y)]) hx hb dX3_check_57 hl (k := 1) rfl (by rw [show 8 - q = 8 - (q + 1) + 1 by omega]; exact nI_1 _) (by decide) rfl (fun ls hl => ?_)
        refine lv_goto (tgt := 32) hx hb dX3_check_60 (by decide) ?_
        have e : crBM q (2 * x) = crBM (q + 1) x := by simp only [crBM, crSM]; rw [if_pos c1]
        exact ih i (2 * x) ls (by omega) (lv_sub hl [0, 1, 2, 3] rfl) (fun ls hl => k ls (by rw [← e]; exact hl))
      · refine lv_iload_n hx hb dX3_check_48 rfl (lv_at hl 0 rfl) ?_
        refine lv_ldc hx hb hown k49 dX3_check_49 ?_
        refine lv_ixor hx hb dX3_check_51 ?_
        refine lv_goto (tgt := 56) hx hb dX3_check_52 (by decide) ?_
        refine lv_istore_n (lv' := [(1, .int ((2 * x) ^^^ 69665)), (3, .int (nI (8 - (q + 1)))), (2, .int (nI i)), (0, .ref y)]) hx hb dX3_check_56 rfl hl (by decide) rfl (fun ls hl => ?_)
        refine lv_iinc (v := nI (8 - q)) (lv' := [(3, .int (nI (8 - q))), (1, .int ((2 * x) ^^^ 69665)), (2, .int (nI i)), (0, .ref y)]) hx hb dX3_check_57 hl (k := 1) rfl (by rw [show 8 - q = 8 - (q + 1) + 1 by omega]; exact nI_1 _) (by decide) rfl (fun ls hl => ?_)
        refine lv_goto (tgt := 32) hx hb dX3_check_60 (by decide) ?_
        have e : crBM q ((2 * x) ^^^ 69665) = crBM (q + 1) x := by simp only [crBM, crSM]; rw [if_neg c1]
        exact ih i ((2 * x) ^^^ 69665) ls (by omega) (lv_sub hl [0, 1, 2, 3] rfl) (fun ls hl => k ls (by rw [← e]; exact hl))
  have outer : ∀ (d i : Nat) (ls : Array Slot), i + d = fk → lv_has ls 4 [(2, .int (nI i)), (1, .int (crcM ff i)), (0, .ref y)] → W p l e ({ frames := 0, cells := 0, slots := 0, locals := 0 } : Room) s m ([.ref y] : List Value).toArray below meth c s.heap [] 0 0 Q (F0 m 5 ls []) := by
    intro d
    induction d with
    | zero =>
      intro i ls hi hl
      have hi : i = fk := hi
      rw [hi] at hl
      refine lv_iload_n hx hb dX3_check_5 rfl (lv_at hl 0 rfl) ?_
      refine lv_aload_n hx hb dX3_check_6 rfl (lv_at hl 2 rfl) ?_
      refine va_get (D := D) (ci := 3) (v := .int (nI fk)) hx hb hts iX3 hown hK hP 0 rfl rfl 9 (by decide) lk44 (fun _ h => h) rfl dX3_check_7 ?_
      refine lv_icmp_ge (tgt := 69) hx hb dX3_check_10 (by decide) (fun _ => ?_) (fun cc => absurd (nI_le (Nat.le_refl _) (by omega)) cc)
      refine lv_iload_n hx hb dX3_check_69 rfl (lv_at hl 1 rfl) ?_
      exact hex _ _ _ _ _ () hS (rfl) hP hD dX3_check_70
    | succ d ih =>
      intro i ls hi hl
      refine lv_iload_n hx hb dX3_check_5 rfl (lv_at hl 0 rfl) ?_
      refine lv_aload_n hx hb dX3_check_6 rfl (lv_at hl 2 rfl) ?_
      refine va_get (D := D) (ci := 3) (v := .int (nI fk)) hx hb hts iX3 hown hK hP 0 rfl rfl 9 (by decide) lk44 (fun _ h => h) rfl dX3_check_7 ?_
      refine lv_icmp_ge (tgt := 69) hx hb dX3_check_10 (by decide) (fun cc => absurd cc (nI_ge (by omega) (by omega))) (fun _ => ?_)
      refine lv_iload_n hx hb dX3_check_13 rfl (lv_at hl 1 rfl) ?_
      refine lv_aload_n hx hb dX3_check_14 rfl (lv_at hl 2 rfl) ?_
      refine va_get (D := D) (ci := 3) (v := .ref fm) hx hb hts iX3 hown hK hP 0 rfl rfl 8 (by decide) lk27 (fun _ h => h) rfl dX3_check_15 ?_
      refine lv_iload_n hx hb dX3_check_18 rfl (lv_at hl 0 rfl) ?_
      refine al_b (k := i) hx hb hK hP 1 1 rfl rfl (by omega) (by decide) dX3_check_19 ?_
      refine lv_sipush (v := 255) hx hb dX3_check_20 (by decide +kernel) ?_
      refine lv_iand hx hb dX3_check_23 ?_
      refine lv_sipush (v := 256) hx hb dX3_check_24 (by decide +kernel) ?_
      refine lv_imul hx hb dX3_check_27 ?_
      refine lv_ixor hx hb dX3_check_28 ?_
      refine lv_istore_n (lv' := [(1, .int ((crcM ff i) ^^^ (((ff i) &&& 255) * 256))), (2, .int (nI i)), (0, .ref y)]) hx hb dX3_check_29 rfl hl (by decide) rfl (fun ls hl => ?_)
      refine lv_iconst (v := 0) hx hb dX3_check_30 (by decide) ?_
      refine lv_istore_n (lv' := [(3, .int 0), (1, .int ((crcM ff i) ^^^ (((ff i) &&& 255) * 256))), (2, .int (nI i)), (0, .ref y)]) hx hb dX3_check_31 rfl hl (by decide) rfl (fun ls hl => ?_)
      refine inner 8 i _ ls (by decide) (lv_sub hl [0, 1, 2, 3] rfl) (fun ls hl => ?_)
      refine lv_iinc (v := nI (i + 1)) (lv' := [(2, .int (nI (i + 1))), (1, .int (crcM ff (i + 1))), (0, .ref y)]) hx hb dX3_check_63 hl (k := 1) rfl (nI_1 _) (by decide) rfl (fun ls hl => ?_)
      refine lv_goto (tgt := 5) hx hb dX3_check_66 (by decide) ?_
      exact ih (i + 1) ls (by omega) (lv_sub hl [0, 1, 2] rfl)
  exact outer fk 0 ls (by omega) (lv_sub hl [0, 1, 2] rfl)
