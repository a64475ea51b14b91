set_option maxHeartbeats 4000000 in
set_option maxRecDepth 100000 in
/-- Channel() -/
theorem c_ch_init (l : Launch) (D : va_G) (cA : ClassId) (h : Nat) : MV (S := Nat) l yX1_init wsX1_init { frames := 1, cells := 1, slots := 4096, locals := 12 } [.ref h] D [(cA, .int)] [(h, .inr (1, [.null, .int 0, .int 0]))] (fun _ => True) (fun r => [(h, .inr (1, [.ref r, .int (nI 0), .int (nI 0)])), (r, .inl (cA, 4096, .inl (fun _ => 0)))]) 1 4096 := by
  refine mt_v (by decide) rfl (Nat.le_of_ble_eq_true rfl) ?_
  intro p e s m below meth c A ls Q hx hb hts hown hml hin hN hK hA hP hD hS hl hex
  have hown : s.vm.findClass RX1 = some m.cls := hown
  have hl : lv_has ls 1 [(0, .ref h)] := hl
  have iX1 : ∀ w ∈ wsX10, w ∈ wsX1_init := by decide +kernel
  have la := hts (.arrayClass .int) (by decide +kernel)
  have lk11 := hts (.fieldLink RX1 11 "DownFrames$Channel" "ring" "[I") (by decide +kernel)
  have lk15 := hts (.fieldLink RX1 15 "DownFrames$Channel" "head" "I") (by decide +kernel)
  have lk19 := hts (.fieldLink RX1 19 "DownFrames$Channel" "size" "I") (by decide +kernel)
  have lo1 := hts (.methodLink RX1 5 objectInit) (by decide +kernel)
  have lo2 := hts (.instanceMethod objectInit) (by decide +kernel)
  have lo3 : (Cond.code objectInit ⟨#[0xb1]⟩ 1 none).before _ s = true := hts _ (List.mem_of_getElem? (i := 3) rfl)
  refine lv_aload_n hx hb dX1_init_0 rfl (lv_at hl 0 rfl) ?_
  refine W.objInit hx hb hown lo1 lo2 lo3 rfl (by rw [hml]; exact hl.1) rfl dX1_init_1 (Nat.le_of_ble_eq_true rfl) (Nat.le_of_ble_eq_true rfl) ?_
  refine W.eq (g2 := F0 m 4 ls []) rfl ?_
  refine lv_aload_n hx hb dX1_init_4 rfl (lv_at hl 0 rfl) ?_
  refine lv_sipush (v := 4096) hx hb dX1_init_5 (by decide +kernel) ?_
  refine nw_i (n := 4096) hx hb la hK 0 rfl hP hD hS hA (by decide) (Nat.le_of_ble_eq_true rfl) (Nat.le_of_ble_eq_true rfl) dX1_init_8 (fun r H hP hD hS => ?_)
  have hP : va_P D vwCl [(h, .inr (1, [.null, .int 0, .int 0])), (r, .inl (cA, 4096, .inl (fun _ => 0)))] H := hP
  have hD : va_D A [(h, .inr (1, [.null, .int 0, .int 0])), (r, .inl (cA, 4096, .inl (fun _ => 0)))] := hD
  refine va_putF (D := D) (ci := 1) (v := .ref r) (ty := (.array .int)) hx hb hts iX1 tyX1 tyX1_ok nmX1 hown hK hP hD hS 0 rfl rfl 0 (by decide) lk11 (fun _ h => h) rfl hin rfl (by decide +kernel) rfl rfl (Nat.le_of_ble_eq_true rfl) dX1_init_10 (fun H locs hP hD hS => ?_)
  have hP : va_P D vwCl [(h, .inr (1, [.ref r, .int 0, .int 0])), (r, .inl (cA, 4096, .inl (fun _ => 0)))] H := hP
  have hD : va_D A [(h, .inr (1, [.ref r, .int 0, .int 0])), (r, .inl (cA, 4096, .inl (fun _ => 0)))] := hD
  refine lv_aload_n hx hb dX1_init_13 rfl (lv_at hl 0 rfl) ?_
  refine lv_iconst (v := 0) hx hb dX1_init_14 (by decide) ?_
  refine va_put (D := D) (ci := 1) (v := .int 0) (ty := (.int)) hx hb hts iX1 tyX1 tyX1_ok nmX1 hown hK hP hD hS 0 rfl rfl 1 (by decide) lk15 (fun _ h => h) rfl (by decide +kernel) rfl rfl (Nat.le_of_ble_eq_true rfl) dX1_init_15 (fun H locs hP hD hS => ?_)
  have hP : va_P D vwCl [(h, .inr (1, [.ref r, .int 0, .int 0])), (r, .inl (cA, 4096, .inl (fun _ => 0)))] H := hP
  have hD : va_D A [(h, .inr (1, [.ref r, .int 0, .int 0])), (r, .inl (cA, 4096, .inl (fun _ => 0)))] := hD
  refine lv_aload_n hx hb dX1_init_18 rfl (lv_at hl 0 rfl) ?_
  refine lv_iconst (v := 0) hx hb dX1_init_19 (by decide) ?_
  refine va_put (D := D) (ci := 1) (v := .int 0) (ty := (.int)) hx hb hts iX1 tyX1 tyX1_ok nmX1 hown hK hP hD hS 0 rfl rfl 2 (by decide) lk19 (fun _ h => h) rfl (by decide +kernel) rfl rfl (Nat.le_of_ble_eq_true rfl) dX1_init_20 (fun H locs hP hD hS => ?_)
  have hP : va_P D vwCl [(h, .inr (1, [.ref r, .int 0, .int 0])), (r, .inl (cA, 4096, .inl (fun _ => 0)))] H := hP
  have hD : va_D A [(h, .inr (1, [.ref r, .int 0, .int 0])), (r, .inl (cA, 4096, .inl (fun _ => 0)))] := hD
  have hP : va_P D vwCl [(h, .inr (1, [.ref r, .int (nI 0), .int (nI 0)])), (r, .inl (cA, 4096, .inl (fun _ => 0)))] H := hP
  have hD : va_D A [(h, .inr (1, [.ref r, .int (nI 0), .int (nI 0)])), (r, .inl (cA, 4096, .inl (fun _ => 0)))] := hD
  refine W.widen (k := 1) (n := 4096) (by omega) (by omega) ?_
  exact hex _ _ _ _ r hS (trivial) hP hD dX1_init_23

set_option maxHeartbeats 4000000 in
set_option maxRecDepth 100000 in
/-- room() -/
theorem c_ch_room (l : Launch) (D : va_G) (cA : ClassId) (h r : Nat) (f : Nat → Int32) (hd k : Nat) (hk : k ≤ 4096) : MI0 l yX1_room wsX1_room { frames := 0, cells := 0, slots := 0, locals := 0 } [.ref h] D [(cA, .int)] [(h, .inr (1, [.ref r, .int (nI hd), .int (nI k)])), (r, .inl (cA, 4096, .inl f))] (nI (4096 - k)) [(h, .inr (1, [.ref r, .int (nI hd), .int (nI k)])), (r, .inl (cA, 4096, .inl f))] := by
  refine mt_i (by decide) rfl (Nat.le_of_ble_eq_true rfl) ?_
  intro p e s m below meth c A ls Q hx hb hts hown hml hin hN hK hA hP hD hS hl hex
  have hown : s.vm.findClass RX1 = some m.cls := hown
  have hl : lv_has ls 1 [(0, .ref h)] := hl
  have iX1 : ∀ w ∈ wsX10, w ∈ wsX1_room := by decide +kernel
  have lk19 := hts (.fieldLink RX1 19 "DownFrames$Channel" "size" "I") (by decide +kernel)
  refine lv_sipush (v := 4096) hx hb dX1_room_0 (by decide +kernel) ?_
  refine lv_aload_n hx hb dX1_room_3 rfl (lv_at hl 0 rfl) ?_
  refine va_get (D := D) (ci := 1) (v := .int (nI k)) hx hb hts iX1 hown hK hP 0 rfl rfl 2 (by decide) lk19 (fun _ h => h) rfl dX1_room_4 ?_
  refine lv_isub hx hb dX1_room_7 ?_
  refine tp_i (y := nI (4096 - k)) (pk_sub (a := 4096) hk) ?_
  exact hex _ _ _ _ _ () hS (rfl) hP hD dX1_room_8

set_option maxHeartbeats 4000000 in
set_option maxRecDepth 100000 in
/-- add(x) -/
theorem c_ch_add (l : Launch) (D : va_G) (cA : ClassId) (h r : Nat) (f : Nat → Int32) (hd k : Nat) (x : Int32) (hh : hd < 4096) (hk : k < 4096) : MV0 l yX1_add wsX1_add { frames := 0, cells := 0, slots := 0, locals := 0 } [.ref h, .int x] D [(cA, .int)] [(h, .inr (1, [.ref r, .int (nI hd), .int (nI k)])), (r, .inl (cA, 4096, .inl f))] [(h, .inr (1, [.ref r, .int (nI hd), .int (nI (k + 1))])), (r, .inl (cA, 4096, .inl (upd f ((hd + k) % 4096) x)))] := by
  refine mt_v (by decide) rfl (Nat.le_of_ble_eq_true rfl) ?_
  intro p e s m below meth c A ls Q hx hb hts hown hml hin hN hK hA hP hD hS hl hex
  have hown : s.vm.findClass RX1 = some m.cls := hown
  have hl : lv_has ls 2 [(0, .ref h), (1, .int x)] := hl
  have iX1 : ∀ w ∈ wsX10, w ∈ wsX1_add := by decide +kernel
  have lk11 := hts (.fieldLink RX1 11 "DownFrames$Channel" "ring" "[I") (by decide +kernel)
  have lk15 := hts (.fieldLink RX1 15 "DownFrames$Channel" "head" "I") (by decide +kernel)
  have lk19 := hts (.fieldLink RX1 19 "DownFrames$Channel" "size" "I") (by decide +kernel)
  refine lv_aload_n hx hb dX1_add_0 rfl (lv_at hl 0 rfl) ?_
  refine va_get (D := D) (ci := 1) (v := .int (nI k)) hx hb hts iX1 hown hK hP 0 rfl rfl 2 (by decide) lk19 (fun _ h => h) rfl dX1_add_1 ?_
  refine lv_sipush (v := 4096) hx hb dX1_add_4 (by decide +kernel) ?_
  refine lv_icmp_ge (tgt := 39) hx hb dX1_add_7 (by decide) (fun cc => absurd cc (nI_ge (b := 4096) hk (by decide))) (fun _ => ?_)
  refine lv_aload_n hx hb dX1_add_10 rfl (lv_at hl 0 rfl) ?_
  refine va_get (D := D) (ci := 1) (v := .ref r) hx hb hts iX1 hown hK hP 0 rfl rfl 0 (by decide) lk11 (fun _ h => h) rfl dX1_add_11 ?_
  refine lv_aload_n hx hb dX1_add_14 rfl (lv_at hl 0 rfl) ?_
  refine va_get (D := D) (ci := 1) (v := .int (nI hd)) hx hb hts iX1 hown hK hP 0 rfl rfl 1 (by decide) lk15 (fun _ h => h) rfl dX1_add_15 ?_
  refine lv_aload_n hx hb dX1_add_18 rfl (lv_at hl 0 rfl) ?_
  refine va_get (D := D) (ci := 1) (v := .int (nI k)) hx hb hts iX1 hown hK hP 0 rfl rfl 2 (by decide) lk19 (fun _ h => h) rfl dX1_add_19 ?_
  refine lv_iadd hx hb dX1_add_22 ?_
  refine lv_sipush (v := 4095) hx hb dX1_add_23 (by decide +kernel) ?_
  refine lv_iand hx hb dX1_add_26 ?_
  refine tp_i (y := nI ((hd + k) % 4096)) (m12 hd k (by omega)) ?_
  refine lv_iload_n hx hb dX1_add_27 rfl (lv_at hl 1 rfl) ?_
  refine as_i (k := ((hd + k) % 4096)) (x := x) hx hb hK hP hD hS 1 0 rfl rfl (Nat.mod_lt _ (by decide)) (by decide) dX1_add_28 (fun H locs hP hD hS => ?_)
  have hP : va_P D vwCl [(h, .inr (1, [.ref r, .int (nI hd), .int (nI k)])), (r, .inl (cA, 4096, .inl (upd f ((hd + k) % 4096) x)))] H := hP
  have hD : va_D A [(h, .inr (1, [.ref r, .int (nI hd), .int (nI k)])), (r, .inl (cA, 4096, .inl (upd f ((hd + k) % 4096) x)))] := hD
  refine lv_aload_n hx hb dX1_add_29 rfl (lv_at hl 0 rfl) ?_
  refine lv_dup hx hb dX1_add_30 rfl ?_
  refine va_get (D := D) (ci := 1) (v := .int (nI k)) hx hb hts iX1 hown hK hP 0 rfl rfl 2 (by decide) lk19 (fun _ h => h) rfl dX1_add_31 ?_
  refine lv_iconst (v := 1) hx hb dX1_add_34 (by decide) ?_
  refine lv_iadd hx hb dX1_add_35 ?_
  refine tp_i (y := nI (k + 1)) (nI_1 k) ?_
  refine va_put (D := D) (ci := 1) (v := .int (nI (k + 1))) (ty := (.int)) hx hb hts iX1 tyX1 tyX1_ok nmX1 hown hK hP hD hS 0 rfl rfl 2 (by decide) lk19 (fun _ h => h) rfl (by decide +kernel) rfl rfl (Nat.le_of_ble_eq_true rfl) dX1_add_36 (fun H locs hP hD hS => ?_)
  have hP : va_P D vwCl [(h, .inr (1, [.ref r, .int (nI hd), .int (nI (k + 1))])), (r, .inl (cA, 4096, .inl (upd f ((hd + k) % 4096) x)))] H := hP
  have hD : va_D A [(h, .inr (1, [.ref r, .int (nI hd), .int (nI (k + 1))])), (r, .inl (cA, 4096, .inl (upd f ((hd + k) % 4096) x)))] := hD
  exact hex _ _ _ _ () hS (trivial) hP hD dX1_add_39

set_option maxHeartbeats 4000000 in
set_option maxRecDepth 100000 in
/-- addPacket(bytes) -/
theorem c_ch_addPacket (l : Launch) (D : va_G) (cA : ClassId) (h r : Nat) (f : Nat → Int32) (hd k : Nat) (b br bn : Nat) (g : Nat → Int32) (bk : Nat) (hh : hd < 4096) (hk : k + bk ≤ 4096) (hbk : bk ≤ bn) (hbn : bn < 2 ^ 31) : MV0 l yX1_addPacket wsX1_addPacket { frames := 1, cells := 0, slots := 0, locals := 21 } [.ref h, .ref b] D [(cA, .int)] [(h, .inr (1, [.ref r, .int (nI hd), .int (nI k)])), (r, .inl (cA, 4096, .inl f)), (b, .inr (0, [.ref br, .int (nI bk)])), (br, .inl (cA, bn, .inl g))] [(h, .inr (1, [.ref r, .int (nI hd), .int (nI (k + bk))])), (r, .inl (cA, 4096, .inl (rwr f (hd + k) (mkd g) bk))), (b, .inr (0, [.ref br, .int (nI bk)])), (br, .inl (cA, bn, .inl g))] := by
  refine mt_v (by decide) rfl (Nat.le_of_ble_eq_true rfl) ?_
  intro p e s m below meth c A ls Q hx hb hts hown hml hin hN hK hA hP hD hS hl hex
  have hown : s.vm.findClass RX1 = some m.cls := hown
  have hl : lv_has ls 3 [(0, .ref h), (1, .ref b)] := hl
  have iX0 : ∀ w ∈ wsX00, w ∈ wsX1_addPacket := by decide +kernel
  have lk22 : (Cond.fieldLinkNest RX1 22 "DownFrames$Bytes" "size" "I" "DownFrames").before ([.ref h, .ref b] : List Value).toArray s = true := va_Nw.use rfl hN.2.2
  refine lv_iconst (v := 0) hx hb dX1_addPacket_0 (by decide) ?_
  refine lv_istore_n (lv' := [(2, .int 0), (0, .ref h), (1, .ref b)]) hx hb dX1_addPacket_1 rfl hl (by decide) rfl (fun ls hl => ?_)
  have loop : ∀ (d i : Nat) (H : Heap) (locs : List Loc) (ls : Array Slot), i + d = bk → va_P D vwCl [(h, .inr (1, [.ref r, .int (nI hd), .int (nI (k + i))])), (r, .inl (cA, 4096, .inl (rwr f (hd + k) (mkd g) i))), (b, .inr (0, [.ref br, .int (nI bk)])), (br, .inl (cA, bn, .inl g))] H → va_D A [(h, .inr (1, [.ref r, .int (nI hd), .int (nI (k + i))])), (r, .inl (cA, 4096, .inl (rwr f (hd + k) (mkd g) i))), (b, .inr (0, [.ref br, .int (nI bk)])), (br, .inl (cA, bn, .inl g))] → va_S A s.heap H locs → lv_has ls 3 [(2, .int (nI i)), (0, .ref h), (1, .ref b)] → W p l e ({ frames := 1, cells := 0, slots := 0, locals := 21 } : Room) s m ([.ref h, .ref b] : List Value).toArray below meth c H locs 0 0 Q (F0 m 2 ls []) := by
    intro d
    induction d with
    | zero =>
      intro i H locs ls hi hP hD hS hl
      have hi : i = bk := hi
      subst hi
      refine lv_iload_n hx hb dX1_addPacket_2 rfl (lv_at hl 0 rfl) ?_
      refine lv_aload_n hx hb dX1_addPacket_3 rfl (lv_at hl 2 rfl) ?_
      refine va_getN (D := D) (ci := 0) (v := .int (nI i)) hx hb hts iX0 hown hK hP 2 rfl rfl 1 (by decide) lk22 (fun _ h => h) rfl dX1_addPacket_4 ?_
      refine lv_icmp_ge (tgt := 41) hx hb dX1_addPacket_7 (by decide) (fun _ => ?_) (fun cc => absurd (nI_le (Nat.le_refl _) (by omega)) cc)
      exact hex _ _ _ _ () hS (trivial) hP hD dX1_addPacket_41
    | succ d ih =>
      intro i H locs ls hi hP hD hS hl
      refine lv_iload_n hx hb dX1_addPacket_2 rfl (lv_at hl 0 rfl) ?_
      refine lv_aload_n hx hb dX1_addPacket_3 rfl (lv_at hl 2 rfl) ?_
      refine va_getN (D := D) (ci := 0) (v := .int (nI bk)) hx hb hts iX0 hown hK hP 2 rfl rfl 1 (by decide) lk22 (fun _ h => h) rfl dX1_addPacket_4 ?_
      refine lv_icmp_ge (tgt := 41) hx hb dX1_addPacket_7 (by decide) (fun cc => absurd cc (nI_ge (by omega) (by omega))) (fun _ => ?_)
      refine lv_aload_n hx hb dX1_addPacket_10 rfl (lv_at hl 1 rfl) ?_
      refine lv_iload_n hx hb dX1_addPacket_11 rfl (lv_at hl 0 rfl) ?_
      refine lv_if_ne (tgt := 27) hx hb dX1_addPacket_12 (by decide) (fun c1 => ?_) (fun c1 => ?_)
      · refine lv_aload_n hx hb dX1_addPacket_27 rfl (lv_at hl 2 rfl) ?_
        refine lv_iload_n hx hb dX1_addPacket_28 rfl (lv_at hl 0 rfl) ?_
        refine cl0_vi ⟨hx, hb, hml, hown, hts⟩ (c_by_at l D cA b br bn g bk (nI i) hbk hbn) (cwV 1 hts gX1_addPacket_X0_at rfl rfl rfl (by decide +kernel) ⟨Nat.le_of_ble_eq_true rfl, Nat.le_of_ble_eq_true rfl⟩) (ci := 0) (q0 := 0) rfl rfl hN hK hP hD hS hA [2, 3] [0, 1] [0, 1, 2, 3] [(h, .inr (1, [.ref r, .int (nI hd), .int (nI (k + i))])), (r, .inl (cA, 4096, .inl (rwr f (hd + k) (mkd g) i)))] [(h, .inr (1, [.ref r, .int (nI hd), .int (nI (k + i))])), (r, .inl (cA, 4096, .inl (rwr f (hd + k) (mkd g) i))), (b, .inr (0, [.ref br, .int (nI bk)])), (br, .inl (cA, bn, .inl g))] [.ref h] rfl rfl rfl rfl (by decide) rfl rfl rfl hl.1 rfl (Nat.le_of_ble_eq_true rfl) dX1_addPacket_29 ⟨Nat.le_of_ble_eq_true rfl, Nat.le_of_ble_eq_true rfl⟩ (fun H locs hP hD hS => ?_)
        refine tp_i (y := g i) ((at_val (by omega) (nI_pos (by omega)) (nI_ge (by omega) (by omega))).symm) ?_
        refine cl0_vv ⟨hx, hb, hml, hown, hts⟩ (c_ch_add l D cA h r (rwr f (hd + k) (mkd g) i) hd (k + i) (g i) hh (by omega)) (cwV 1 hts gX1_addPacket_X1_add rfl rfl rfl (by decide +kernel) ⟨Nat.le_of_ble_eq_true rfl, Nat.le_of_ble_eq_true rfl⟩) (ci := 1) (q0 := 0) rfl rfl hN hK hP hD hS hA [0, 1] [2, 3] [2, 3, 0, 1] [(b, .inr (0, [.ref br, .int (nI bk)])), (br, .inl (cA, bn, .inl g))] [(h, .inr (1, [.ref r, .int (nI hd), .int (nI (k + i + 1))])), (r, .inl (cA, 4096, .inl (upd (rwr f (hd + k) (mkd g) i) ((hd + (k + i)) % 4096) (g i)))), (b, .inr (0, [.ref br, .int (nI bk)])), (br, .inl (cA, bn, .inl g))] [] rfl rfl rfl rfl (by decide) rfl rfl rfl hl.1 rfl (Nat.le_of_ble_eq_true rfl) dX1_addPacket_32 ⟨Nat.le_of_ble_eq_true rfl, Nat.le_of_ble_eq_true rfl⟩ (fun H locs hP hD hS => ?_)
        refine lv_iinc (v := nI (i + 1)) (lv' := [(2, .int (nI (i + 1))), (0, .ref h), (1, .ref b)]) hx hb dX1_addPacket_35 hl (k := 0) rfl (nI_1 _) (by decide) rfl (fun ls hl => ?_)
        refine lv_goto (tgt := 2) hx hb dX1_addPacket_38 (by decide) ?_
        have ef : upd (rwr f (hd + k) (mkd g) i) ((hd + (k + i)) % 4096) (g i) = rwr f (hd + k) (mkd g) (i + 1) := by simp only [rwr]; rw [Nat.add_assoc]; congr 1; unfold mkd; rw [if_neg (fun q => c1 (by rw [q]; rfl))]
        rw [ef] at hP hD
        exact ih (i + 1) H locs ls (by omega) hP hD hS (lv_sub hl [0, 1, 2] rfl)
      · have hi0 : i = 0 := by rcases Nat.eq_zero_or_pos i with q | q; exact q; exact absurd c1 (nI_ne0 q (by omega))
        refine lv_sipush (v := 256) hx hb dX1_addPacket_15 (by decide +kernel) ?_
        refine lv_aload_n hx hb dX1_addPacket_18 rfl (lv_at hl 2 rfl) ?_
        refine lv_iload_n hx hb dX1_addPacket_19 rfl (lv_at hl 0 rfl) ?_
        refine cl0_vi ⟨hx, hb, hml, hown, hts⟩ (c_by_at l D cA b br bn g bk (nI i) hbk hbn) (cwV 1 hts gX1_addPacket_X0_at rfl rfl rfl (by decide +kernel) ⟨Nat.le_of_ble_eq_true rfl, Nat.le_of_ble_eq_true rfl⟩) (ci := 0) (q0 := 0) rfl rfl hN hK hP hD hS hA [2, 3] [0, 1] [0, 1, 2, 3] [(h, .inr (1, [.ref r, .int (nI hd), .int (nI (k + i))])), (r, .inl (cA, 4096, .inl (rwr f (hd + k) (mkd g) i)))] [(h, .inr (1, [.ref r, .int (nI hd), .int (nI (k + i))])), (r, .inl (cA, 4096, .inl (rwr f (hd + k) (mkd g) i))), (b, .inr (0, [.ref br, .int (nI bk)])), (br, .inl (cA, bn, .inl g))] [.int 256, .ref h] rfl rfl rfl rfl (by decide) rfl rfl rfl hl.1 rfl (Nat.le_of_ble_eq_true rfl) dX1_addPacket_20 ⟨Nat.le_of_ble_eq_true rfl, Nat.le_of_ble_eq_true rfl⟩ (fun H locs hP hD hS => ?_)
        refine tp_i (y := g i) ((at_val (by omega) (nI_pos (by omega)) (nI_ge (by omega) (by omega))).symm) ?_
        refine lv_ior hx hb dX1_addPacket_23 ?_
        refine lv_goto (tgt := 32) hx hb dX1_addPacket_24 (by decide) ?_
        refine cl0_vv ⟨hx, hb, hml, hown, hts⟩ (c_ch_add l D cA h r (rwr f (hd + k) (mkd g) i) hd (k + i) (256 ||| (g i)) hh (by omega)) (cwV 1 hts gX1_addPacket_X1_add rfl rfl rfl (by decide +kernel) ⟨Nat.le_of_ble_eq_true rfl, Nat.le_of_ble_eq_true rfl⟩) (ci := 1) (q0 := 0) rfl rfl hN hK hP hD hS hA [0, 1] [2, 3] [2, 3, 0, 1] [(b, .inr (0, [.ref br, .int (nI bk)])), (br, .inl (cA, bn, .inl g))] [(h, .inr (1, [.ref r, .int (nI hd), .int (nI (k + i + 1))])), (r, .inl (cA, 4096, .inl (upd (rwr f (hd + k) (mkd g) i) ((hd + (k + i)) % 4096) (256 ||| (g i))))), (b, .inr (0, [.ref br, .int (nI bk)])), (br, .inl (cA, bn, .inl g))] [] rfl rfl rfl rfl (by decide) rfl rfl rfl hl.1 rfl (Nat.le_of_ble_eq_true rfl) dX1_addPacket_32 ⟨Nat.le_of_ble_eq_true rfl, Nat.le_of_ble_eq_true rfl⟩ (fun H locs hP hD hS => ?_)
        refine lv_iinc (v := nI (i + 1)) (lv' := [(2, .int (nI (i + 1))), (0, .ref h), (1, .ref b)]) hx hb dX1_addPacket_35 hl (k := 0) rfl (nI_1 _) (by decide) rfl (fun ls hl => ?_)
        refine lv_goto (tgt := 2) hx hb dX1_addPacket_38 (by decide) ?_
        have ef : upd (rwr f (hd + k) (mkd g) i) ((hd + (k + i)) % 4096) (256 ||| (g i)) = rwr f (hd + k) (mkd g) (i + 1) := by simp only [rwr]; rw [Nat.add_assoc]; congr 1; unfold mkd; rw [if_pos hi0, hi0]
        rw [ef] at hP hD
        exact ih (i + 1) H locs ls (by omega) hP hD hS (lv_sub hl [0, 1, 2] rfl)
  exact loop bk 0 s.heap [] ls (by omega) hP hD hS (lv_sub hl [0, 1, 2] rfl)

set_option maxHeartbeats 4000000 in
set_option maxRecDepth 100000 in
/-- firstBegin(a) -/
theorem c_ch_first (l : Launch) (D : va_G) (cA : ClassId) (h r : Nat) (f : Nat → Int32) (hd k : Nat) (a : Nat) (hh : hd < 4096) (ha : a ≤ k) (hk : k ≤ 4096) : MI0 l yX1_firstBegin wsX1_firstBegin { frames := 0, cells := 0, slots := 0, locals := 0 } [.ref h, .int (nI a)] D [(cA, .int)] [(h, .inr (1, [.ref r, .int (nI hd), .int (nI k)])), (r, .inl (cA, 4096, .inl f))] (fbS f hd a 0) [(h, .inr (1, [.ref r, .int (nI hd), .int (nI k)])), (r, .inl (cA, 4096, .inl f))] := by
  refine mt_i (by decide) rfl (Nat.le_of_ble_eq_true rfl) ?_
  intro p e s m below meth c A ls Q hx hb hts hown hml hin hN hK hA hP hD hS hl hex
  have hown : s.vm.findClass RX1 = some m.cls := hown
  have hl : lv_has ls 3 [(0, .ref h), (1, .int (nI a))] := hl
  have iX1 : ∀ w ∈ wsX10, w ∈ wsX1_firstBegin := by decide +kernel
  have lk11 := hts (.fieldLink RX1 11 "DownFrames$Channel" "ring" "[I") (by decide +kernel)
  have lk15 := hts (.fieldLink RX1 15 "DownFrames$Channel" "head" "I") (by decide +kernel)
  have lk19 := hts (.fieldLink RX1 19 "DownFrames$Channel" "size" "I") (by decide +kernel)
  refine lv_iconst (v := 0) hx hb dX1_firstBegin_0 (by decide) ?_
  refine lv_istore_n (lv' := [(2, .int 0), (0, .ref h), (1, .int (nI a))]) hx hb dX1_firstBegin_1 rfl hl (by decide) rfl (fun ls hl => ?_)
  have loop : ∀ (d i : Nat) (ls : Array Slot), i + d = a → fbS f hd d i = fbS f hd a 0 → lv_has ls 3 [(2, .int (nI i)), (0, .ref h), (1, .int (nI a))] → W p l e ({ frames := 0, cells := 0, slots := 0, locals := 0 } : Room) s m ([.ref h, .int (nI a)] : List Value).toArray below meth c s.heap [] 0 0 Q (F0 m 2 ls []) := by
    intro d
    induction d with
    | zero =>
      intro i ls hi he hl
      refine lv_iload_n hx hb dX1_firstBegin_2 rfl (lv_at hl 0 rfl) ?_
      refine lv_iload_n hx hb dX1_firstBegin_3 rfl (lv_at hl 2 rfl) ?_
      refine lv_icmp_ge (tgt := 45) hx hb dX1_firstBegin_4 (by decide) (fun _ => ?_) (fun cc => absurd (nI_le (by omega) (by omega)) cc)
      refine lv_sipush (v := 2047) hx hb dX1_firstBegin_45 (by decide +kernel) ?_
      exact hex _ _ _ _ _ () hS (he) hP hD dX1_firstBegin_48
    | succ d ih =>
      intro i ls hi he hl
      refine lv_iload_n hx hb dX1_firstBegin_2 rfl (lv_at hl 0 rfl) ?_
      refine lv_iload_n hx hb dX1_firstBegin_3 rfl (lv_at hl 2 rfl) ?_
      refine lv_icmp_ge (tgt := 45) hx hb dX1_firstBegin_4 (by decide) (fun cc => absurd cc (nI_ge (by omega) (by omega))) (fun _ => ?_)
      refine lv_iload_n hx hb dX1_firstBegin_7 rfl (lv_at hl 0 rfl) ?_
      refine lv_aload_n hx hb dX1_firstBegin_8 rfl (lv_at hl 1 rfl) ?_
      refine va_get (D := D) (ci := 1) (v := .int (nI k)) hx hb hts iX1 hown hK hP 0 rfl rfl 2 (by decide) lk19 (fun _ h => h) rfl dX1_firstBegin_9 ?_
      refine lv_icmp_ge (tgt := 45) hx hb dX1_firstBegin_12 (by decide) (fun cc => absurd cc (nI_ge (by omega) (by omega))) (fun _ => ?_)
      refine lv_aload_n hx hb dX1_firstBegin_15 rfl (lv_at hl 1 rfl) ?_
      refine va_get (D := D) (ci := 1) (v := .ref r) hx hb hts iX1 hown hK hP 0 rfl rfl 0 (by decide) lk11 (fun _ h => h) rfl dX1_firstBegin_16 ?_
      refine lv_aload_n hx hb dX1_firstBegin_19 rfl (lv_at hl 1 rfl) ?_
      refine va_get (D := D) (ci := 1) (v := .int (nI hd)) hx hb hts iX1 hown hK hP 0 rfl rfl 1 (by decide) lk15 (fun _ h => h) rfl dX1_firstBegin_20 ?_
      refine lv_iload_n hx hb dX1_firstBegin_23 rfl (lv_at hl 0 rfl) ?_
      refine lv_iadd hx hb dX1_firstBegin_24 ?_
      refine lv_sipush (v := 4095) hx hb dX1_firstBegin_25 (by decide +kernel) ?_
      refine lv_iand hx hb dX1_firstBegin_28 ?_
      refine tp_i (y := nI ((hd + i) % 4096)) (m12 hd i (by omega)) ?_
      refine al_i (k := ((hd + i) % 4096)) hx hb hK hP 1 0 rfl rfl (Nat.mod_lt _ (by decide)) (by decide) dX1_firstBegin_29 ?_
      refine lv_sipush (v := 256) hx hb dX1_firstBegin_30 (by decide +kernel) ?_
      refine lv_iand hx hb dX1_firstBegin_33 ?_
      refine lv_if_eq (tgt := 39) hx hb dX1_firstBegin_34 (by decide) (fun c1 => ?_) (fun c1 => ?_)
      · refine lv_iinc (v := nI (i + 1)) (lv' := [(2, .int (nI (i + 1))), (0, .ref h), (1, .int (nI a))]) hx hb dX1_firstBegin_39 hl (k := 0) rfl (nI_1 _) (by decide) rfl (fun ls hl => ?_)
        refine lv_goto (tgt := 2) hx hb dX1_firstBegin_42 (by decide) ?_
        exact ih (i + 1) ls (by omega) (by rw [← he]; simp only [fbS]; rw [if_pos c1]) (lv_sub hl [0, 1, 2] rfl)
      · refine lv_iload_n hx hb dX1_firstBegin_37 rfl (lv_at hl 0 rfl) ?_
        exact hex _ _ _ _ _ () hS (by rw [← he]; simp only [fbS]; rw [if_neg c1]) hP hD dX1_firstBegin_38
  exact loop a 0 ls (by omega) rfl (lv_sub hl [0, 1, 2] rfl)

set_option maxHeartbeats 4000000 in
set_option maxRecDepth 100000 in
/-- take() -/
theorem c_ch_take (l : Launch) (D : va_G) (cA : ClassId) (h r : Nat) (f : Nat → Int32) (hd k : Nat) (hh : hd < 4096) (hk : k < 4096) : MI0 l yX1_take wsX1_take { frames := 0, cells := 0, slots := 0, locals := 0 } [.ref h] D [(cA, .int)] [(h, .inr (1, [.ref r, .int (nI hd), .int (nI (k + 1))])), (r, .inl (cA, 4096, .inl f))] (f hd &&& 255) [(h, .inr (1, [.ref r, .int (nI ((hd + 1) % 4096)), .int (nI k)])), (r, .inl (cA, 4096, .inl f))] := by
  refine mt_i (by decide) rfl (Nat.le_of_ble_eq_true rfl) ?_
  intro p e s m below meth c A ls Q hx hb hts hown hml hin hN hK hA hP hD hS hl hex
  have hown : s.vm.findClass RX1 = some m.cls := hown
  have hl : lv_has ls 2 [(0, .ref h)] := hl
  have iX1 : ∀ w ∈ wsX10, w ∈ wsX1_take := by decide +kernel
  have lk11 := hts (.fieldLink RX1 11 "DownFrames$Channel" "ring" "[I") (by decide +kernel)
  have lk15 := hts (.fieldLink RX1 15 "DownFrames$Channel" "head" "I") (by decide +kernel)
  have lk19 := hts (.fieldLink RX1 19 "DownFrames$Channel" "size" "I") (by decide +kernel)
  refine lv_aload_n hx hb dX1_take_0 rfl (lv_at hl 0 rfl) ?_
  refine va_get (D := D) (ci := 1) (v := .int (nI (k + 1))) hx hb hts iX1 hown hK hP 0 rfl rfl 2 (by decide) lk19 (fun _ h => h) rfl dX1_take_1 ?_
  refine lv_if_ne (tgt := 10) hx hb dX1_take_4 (by decide) (fun _ => ?_) (fun cc => absurd cc (nI_ne0 (by omega) (by omega)))
  refine lv_aload_n hx hb dX1_take_10 rfl (lv_at hl 0 rfl) ?_
  refine va_get (D := D) (ci := 1) (v := .ref r) hx hb hts iX1 hown hK hP 0 rfl rfl 0 (by decide) lk11 (fun _ h => h) rfl dX1_take_11 ?_
  refine lv_aload_n hx hb dX1_take_14 rfl (lv_at hl 0 rfl) ?_
  refine va_get (D := D) (ci := 1) (v := .int (nI hd)) hx hb hts iX1 hown hK hP 0 rfl rfl 1 (by decide) lk15 (fun _ h => h) rfl dX1_take_15 ?_
  refine lv_sipush (v := 4095) hx hb dX1_take_18 (by decide +kernel) ?_
  refine lv_iand hx hb dX1_take_21 ?_
  refine tp_i (y := nI hd) (m12' hd hh) ?_
  refine al_i (k := hd) hx hb hK hP 1 0 rfl rfl (hh) (by decide) dX1_take_22 ?_
  refine lv_sipush (v := 255) hx hb dX1_take_23 (by decide +kernel) ?_
  refine lv_iand hx hb dX1_take_26 ?_
  refine lv_istore_n (lv' := [(1, .int ((f hd) &&& 255)), (0, .ref h)]) hx hb dX1_take_27 rfl hl (by decide) rfl (fun ls hl => ?_)
  refine lv_aload_n hx hb dX1_take_28 rfl (lv_at hl 1 rfl) ?_
  refine lv_aload_n hx hb dX1_take_29 rfl (lv_at hl 1 rfl) ?_
  refine va_get (D := D) (ci := 1) (v := .int (nI hd)) hx hb hts iX1 hown hK hP 0 rfl rfl 1 (by decide) lk15 (fun _ h => h) rfl dX1_take_30 ?_
  refine lv_iconst (v := 1) hx hb dX1_take_33 (by decide) ?_
  refine lv_iadd hx hb dX1_take_34 ?_
  refine lv_sipush (v := 4095) hx hb dX1_take_35 (by decide +kernel) ?_
  refine lv_iand hx hb dX1_take_38 ?_
  refine tp_i (y := nI ((hd + 1) % 4096)) (m12 hd 1 (by omega)) ?_
  refine va_put (D := D) (ci := 1) (v := .int (nI ((hd + 1) % 4096))) (ty := (.int)) hx hb hts iX1 tyX1 tyX1_ok nmX1 hown hK hP hD hS 0 rfl rfl 1 (by decide) lk15 (fun _ h => h) rfl (by decide +kernel) rfl rfl (Nat.le_of_ble_eq_true rfl) dX1_take_39 (fun H locs hP hD hS => ?_)
  have hP : va_P D vwCl [(h, .inr (1, [.ref r, .int (nI ((hd + 1) % 4096)), .int (nI (k + 1))])), (r, .inl (cA, 4096, .inl f))] H := hP
  have hD : va_D A [(h, .inr (1, [.ref r, .int (nI ((hd + 1) % 4096)), .int (nI (k + 1))])), (r, .inl (cA, 4096, .inl f))] := hD
  refine lv_aload_n hx hb dX1_take_42 rfl (lv_at hl 1 rfl) ?_
  refine lv_dup hx hb dX1_take_43 rfl ?_
  refine va_get (D := D) (ci := 1) (v := .int (nI (k + 1))) hx hb hts iX1 hown hK hP 0 rfl rfl 2 (by decide) lk19 (fun _ h => h) rfl dX1_take_44 ?_
  refine lv_iconst (v := 1) hx hb dX1_take_47 (by decide) ?_
  refine lv_isub hx hb dX1_take_48 ?_
  refine tp_i (y := nI k) (nI_pred k) ?_
  refine va_put (D := D) (ci := 1) (v := .int (nI k)) (ty := (.int)) hx hb hts iX1 tyX1 tyX1_ok nmX1 hown hK hP hD hS 0 rfl rfl 2 (by decide) lk19 (fun _ h => h) rfl (by decide +kernel) rfl rfl (Nat.le_of_ble_eq_true rfl) dX1_take_49 (fun H locs hP hD hS => ?_)
  have hP : va_P D vwCl [(h, .inr (1, [.ref r, .int (nI ((hd + 1) % 4096)), .int (nI k)])), (r, .inl (cA, 4096, .inl f))] H := hP
  have hD : va_D A [(h, .inr (1, [.ref r, .int (nI ((hd + 1) % 4096)), .int (nI k)])), (r, .inl (cA, 4096, .inl f))] := hD
  refine lv_iload_n hx hb dX1_take_52 rfl (lv_at hl 0 rfl) ?_
  exact hex _ _ _ _ _ () hS (rfl) hP hD dX1_take_53

set_option maxHeartbeats 4000000 in
set_option maxRecDepth 100000 in
/-- addEmptyPacket(L) -/
theorem c_ch_empty (l : Launch) (D : va_G) (cA : ClassId) (h r : Nat) (f : Nat → Int32) (hd k : Nat) (L : Nat) (hh : hd < 4096) (hL : 7 ≤ L) (hk : k + L ≤ 4096) : MV0 l yX1_addEmptyPacket wsX1_addEmptyPacket { frames := 1, cells := 0, slots := 0, locals := 21 } [.ref h, .int (nI L)] D [(cA, .int)] [(h, .inr (1, [.ref r, .int (nI hd), .int (nI k)])), (r, .inl (cA, 4096, .inl f))] [(h, .inr (1, [.ref r, .int (nI hd), .int (nI (k + L))])), (r, .inl (cA, 4096, .inl (rwr f (hd + k) (emp L) L)))] := by
  refine mt_v (by decide) rfl (Nat.le_of_ble_eq_true rfl) ?_
  intro p e s m below meth c A ls Q hx hb hts hown hml hin hN hK hA hP hD hS hl hex
  have hown : s.vm.findClass RX1 = some m.cls := hown
  have hl : lv_has ls 4 [(0, .ref h), (1, .int (nI L))] := hl
  have hP : va_P D vwCl [(h, .inr (1, [.ref r, .int (nI hd), .int (nI (k + 0))])), (r, .inl (cA, 4096, .inl (rwr f (hd + k) (emp L) 0)))] s.heap := hP
  have hD : va_D A [(h, .inr (1, [.ref r, .int (nI hd), .int (nI (k + 0))])), (r, .inl (cA, 4096, .inl (rwr f (hd + k) (emp L) 0)))] := hD
  refine lv_aload_n hx hb dX1_addEmptyPacket_0 rfl (lv_at hl 0 rfl) ?_
  refine lv_sipush (v := 263) hx hb dX1_addEmptyPacket_1 (by decide +kernel) ?_
  refine cl0_vv ⟨hx, hb, hml, hown, hts⟩ (c_ch_add l D cA h r (rwr f (hd + k) (emp L) 0) hd (k + 0) 263 hh (by omega)) (cwV 1 hts gX1_addEmptyPacket_X1_add rfl rfl rfl (by decide +kernel) ⟨Nat.le_of_ble_eq_true rfl, Nat.le_of_ble_eq_true rfl⟩) (ci := 1) (q0 := 0) rfl rfl hN hK hP hD hS hA [0, 1] [] [0, 1] [] [(h, .inr (1, [.ref r, .int (nI hd), .int (nI (k + 0 + 1))])), (r, .inl (cA, 4096, .inl (upd (rwr f (hd + k) (emp L) 0) ((hd + (k + 0)) % 4096) 263)))] [] rfl rfl rfl rfl (by decide) rfl rfl rfl hl.1 rfl (Nat.le_of_ble_eq_true rfl) dX1_addEmptyPacket_4 ⟨Nat.le_of_ble_eq_true rfl, Nat.le_of_ble_eq_true rfl⟩ (fun H locs hP hD hS => ?_)
  have ef : upd (rwr f (hd + k) (emp L) 0) ((hd + (k + 0)) % 4096) 263 = rwr f (hd + k) (emp L) (1) := by simp only [rwr]; rw [Nat.add_assoc]; rfl
  rw [ef] at hP hD
  have hP : va_P D vwCl [(h, .inr (1, [.ref r, .int (nI hd), .int (nI (k + 1))])), (r, .inl (cA, 4096, .inl (rwr f (hd + k) (emp L) 1)))] H := hP
  have hD : va_D A [(h, .inr (1, [.ref r, .int (nI hd), .int (nI (k + 1))])), (r, .inl (cA, 4096, .inl (rwr f (hd + k) (emp L) 1)))] := hD
  refine lv_aload_n hx hb dX1_addEmptyPacket_7 rfl (lv_at hl 0 rfl) ?_
  refine lv_sipush (v := 255) hx hb dX1_addEmptyPacket_8 (by decide +kernel) ?_
  refine cl0_vv ⟨hx, hb, hml, hown, hts⟩ (c_ch_add l D cA h r (rwr f (hd + k) (emp L) 1) hd (k + 1) 255 hh (by omega)) (cwV 1 hts gX1_addEmptyPacket_X1_add rfl rfl rfl (by decide +kernel) ⟨Nat.le_of_ble_eq_true rfl, Nat.le_of_ble_eq_true rfl⟩) (ci := 1) (q0 := 0) rfl rfl hN hK hP hD hS hA [0, 1] [] [0, 1] [] [(h, .inr (1, [.ref r, .int (nI hd), .int (nI (k + 1 + 1))])), (r, .inl (cA, 4096, .inl (upd (rwr f (hd + k) (emp L) 1) ((hd + (k + 1)) % 4096) 255)))] [] rfl rfl rfl rfl (by decide) rfl rfl rfl hl.1 rfl (Nat.le_of_ble_eq_true rfl) dX1_addEmptyPacket_11 ⟨Nat.le_of_ble_eq_true rfl, Nat.le_of_ble_eq_true rfl⟩ (fun H locs hP hD hS => ?_)
  have ef : upd (rwr f (hd + k) (emp L) 1) ((hd + (k + 1)) % 4096) 255 = rwr f (hd + k) (emp L) (2) := by simp only [rwr]; rw [Nat.add_assoc]; rfl
  rw [ef] at hP hD
  have hP : va_P D vwCl [(h, .inr (1, [.ref r, .int (nI hd), .int (nI (k + 2))])), (r, .inl (cA, 4096, .inl (rwr f (hd + k) (emp L) 2)))] H := hP
  have hD : va_D A [(h, .inr (1, [.ref r, .int (nI hd), .int (nI (k + 2))])), (r, .inl (cA, 4096, .inl (rwr f (hd + k) (emp L) 2)))] := hD
  refine lv_aload_n hx hb dX1_addEmptyPacket_14 rfl (lv_at hl 0 rfl) ?_
  refine lv_sipush (v := 192) hx hb dX1_addEmptyPacket_15 (by decide +kernel) ?_
  refine cl0_vv ⟨hx, hb, hml, hown, hts⟩ (c_ch_add l D cA h r (rwr f (hd + k) (emp L) 2) hd (k + 2) 192 hh (by omega)) (cwV 1 hts gX1_addEmptyPacket_X1_add rfl rfl rfl (by decide +kernel) ⟨Nat.le_of_ble_eq_true rfl, Nat.le_of_ble_eq_true rfl⟩) (ci := 1) (q0 := 0) rfl rfl hN hK hP hD hS hA [0, 1] [] [0, 1] [] [(h, .inr (1, [.ref r, .int (nI hd), .int (nI (k + 2 + 1))])), (r, .inl (cA, 4096, .inl (upd (rwr f (hd + k) (emp L) 2) ((hd + (k + 2)) % 4096) 192)))] [] rfl rfl rfl rfl (by decide) rfl rfl rfl hl.1 rfl (Nat.le_of_ble_eq_true rfl) dX1_addEmptyPacket_18 ⟨Nat.le_of_ble_eq_true rfl, Nat.le_of_ble_eq_true rfl⟩ (fun H locs hP hD hS => ?_)
  have ef : upd (rwr f (hd + k) (emp L) 2) ((hd + (k + 2)) % 4096) 192 = rwr f (hd + k) (emp L) (3) := by simp only [rwr]; rw [Nat.add_assoc]; rfl
  rw [ef] at hP hD
  have hP : va_P D vwCl [(h, .inr (1, [.ref r, .int (nI hd), .int (nI (k + 3))])), (r, .inl (cA, 4096, .inl (rwr f (hd + k) (emp L) 3)))] H := hP
  have hD : va_D A [(h, .inr (1, [.ref r, .int (nI hd), .int (nI (k + 3))])), (r, .inl (cA, 4096, .inl (rwr f (hd + k) (emp L) 3)))] := hD
  refine lv_aload_n hx hb dX1_addEmptyPacket_21 rfl (lv_at hl 0 rfl) ?_
  refine lv_iconst (v := 0) hx hb dX1_addEmptyPacket_22 (by decide) ?_
  refine cl0_vv ⟨hx, hb, hml, hown, hts⟩ (c_ch_add l D cA h r (rwr f (hd + k) (emp L) 3) hd (k + 3) 0 hh (by omega)) (cwV 1 hts gX1_addEmptyPacket_X1_add rfl rfl rfl (by decide +kernel) ⟨Nat.le_of_ble_eq_true rfl, Nat.le_of_ble_eq_true rfl⟩) (ci := 1) (q0 := 0) rfl rfl hN hK hP hD hS hA [0, 1] [] [0, 1] [] [(h, .inr (1, [.ref r, .int (nI hd), .int (nI (k + 3 + 1))])), (r, .inl (cA, 4096, .inl (upd (rwr f (hd + k) (emp L) 3) ((hd + (k + 3)) % 4096) 0)))] [] rfl rfl rfl rfl (by decide) rfl rfl rfl hl.1 rfl (Nat.le_of_ble_eq_true rfl) dX1_addEmptyPacket_23 ⟨Nat.le_of_ble_eq_true rfl, Nat.le_of_ble_eq_true rfl⟩ (fun H locs hP hD hS => ?_)
  have ef : upd (rwr f (hd + k) (emp L) 3) ((hd + (k + 3)) % 4096) 0 = rwr f (hd + k) (emp L) (4) := by simp only [rwr]; rw [Nat.add_assoc]; rfl
  rw [ef] at hP hD
  have hP : va_P D vwCl [(h, .inr (1, [.ref r, .int (nI hd), .int (nI (k + 4))])), (r, .inl (cA, 4096, .inl (rwr f (hd + k) (emp L) 4)))] H := hP
  have hD : va_D A [(h, .inr (1, [.ref r, .int (nI hd), .int (nI (k + 4))])), (r, .inl (cA, 4096, .inl (rwr f (hd + k) (emp L) 4)))] := hD
  refine lv_iload_n hx hb dX1_addEmptyPacket_26 rfl (lv_at hl 1 rfl) ?_
  refine lv_bipush (v := 6) hx hb dX1_addEmptyPacket_27 (by decide +kernel) ?_
  refine lv_isub hx hb dX1_addEmptyPacket_29 ?_
  refine tp_i (y := nI (L - 6)) (pk_sub (b := 6) (by omega)) ?_
  refine lv_istore_n (lv' := [(2, .int (nI (L - 6))), (0, .ref h), (1, .int (nI L))]) hx hb dX1_addEmptyPacket_30 rfl hl (by decide) rfl (fun ls hl => ?_)
  refine lv_aload_n hx hb dX1_addEmptyPacket_31 rfl (lv_at hl 1 rfl) ?_
  refine lv_iload_n hx hb dX1_addEmptyPacket_32 rfl (lv_at hl 0 rfl) ?_
  refine lv_iconst (v := 1) hx hb dX1_addEmptyPacket_33 (by decide) ?_
  refine lv_isub hx hb dX1_addEmptyPacket_34 ?_
  refine lv_bipush (v := 8) hx hb dX1_addEmptyPacket_35 (by decide +kernel) ?_
  refine lv_iushr (v := ush ((nI (L - 6)) - 1) 8) hx hb dX1_addEmptyPacket_37 rfl ?_
  refine lv_sipush (v := 255) hx hb dX1_addEmptyPacket_38 (by decide +kernel) ?_
  refine lv_iand hx hb dX1_addEmptyPacket_41 ?_
  refine cl0_vv ⟨hx, hb, hml, hown, hts⟩ (c_ch_add l D cA h r (rwr f (hd + k) (emp L) 4) hd (k + 4) ((ush ((nI (L - 6)) - 1) 8) &&& 255) hh (by omega)) (cwV 1 hts gX1_addEmptyPacket_X1_add rfl rfl rfl (by decide +kernel) ⟨Nat.le_of_ble_eq_true rfl, Nat.le_of_ble_eq_true rfl⟩) (ci := 1) (q0 := 0) rfl rfl hN hK hP hD hS hA [0, 1] [] [0, 1] [] [(h, .inr (1, [.ref r, .int (nI hd), .int (nI (k + 4 + 1))])), (r, .inl (cA, 4096, .inl (upd (rwr f (hd + k) (emp L) 4) ((hd + (k + 4)) % 4096) ((ush ((nI (L - 6)) - 1) 8) &&& 255))))] [] rfl rfl rfl rfl (by decide) rfl rfl rfl hl.1 rfl (Nat.le_of_ble_eq_true rfl) dX1_addEmptyPacket_42 ⟨Nat.le_of_ble_eq_true rfl, Nat.le_of_ble_eq_true rfl⟩ (fun H locs hP hD hS => ?_)
  have ef : upd (rwr f (hd + k) (emp L) 4) ((hd + (k + 4)) % 4096) ((ush ((nI (L - 6)) - 1) 8) &&& 255) = rwr f (hd + k) (emp L) (5) := by simp only [rwr]; rw [Nat.add_assoc]; rfl
  rw [ef] at hP hD
  have hP : va_P D vwCl [(h, .inr (1, [.ref r, .int (nI hd), .int (nI (k + 5))])), (r, .inl (cA, 4096, .inl (rwr f (hd + k) (emp L) 5)))] H := hP
  have hD : va_D A [(h, .inr (1, [.ref r, .int (nI hd), .int (nI (k + 5))])), (r, .inl (cA, 4096, .inl (rwr f (hd + k) (emp L) 5)))] := hD
  refine lv_aload_n hx hb dX1_addEmptyPacket_45 rfl (lv_at hl 1 rfl) ?_
  refine lv_iload_n hx hb dX1_addEmptyPacket_46 rfl (lv_at hl 0 rfl) ?_
  refine lv_iconst (v := 1) hx hb dX1_addEmptyPacket_47 (by decide) ?_
  refine lv_isub hx hb dX1_addEmptyPacket_48 ?_
  refine lv_sipush (v := 255) hx hb dX1_addEmptyPacket_49 (by decide +kernel) ?_
  refine lv_iand hx hb dX1_addEmptyPacket_52 ?_
  refine cl0_vv ⟨hx, hb, hml, hown, hts⟩ (c_ch_add l D cA h r (rwr f (hd + k) (emp L) 5) hd (k + 5) (((nI (L - 6)) - 1) &&& 255) hh (by omega)) (cwV 1 hts gX1_addEmptyPacket_X1_add rfl rfl rfl (by decide +kernel) ⟨Nat.le_of_ble_eq_true rfl, Nat.le_of_ble_eq_true rfl⟩) (ci := 1) (q0 := 0) rfl rfl hN hK hP hD hS hA [0, 1] [] [0, 1] [] [(h, .inr (1, [.ref r, .int (nI hd), .int (nI (k + 5 + 1))])), (r, .inl (cA, 4096, .inl (upd (rwr f (hd + k) (emp L) 5) ((hd + (k + 5)) % 4096) (((nI (L - 6)) - 1) &&& 255))))] [] rfl rfl rfl rfl (by decide) rfl rfl rfl hl.1 rfl (Nat.le_of_ble_eq_true rfl) dX1_addEmptyPacket_53 ⟨Nat.le_of_ble_eq_true rfl, Nat.le_of_ble_eq_true rfl⟩ (fun H locs hP hD hS => ?_)
  have ef : upd (rwr f (hd + k) (emp L) 5) ((hd + (k + 5)) % 4096) (((nI (L - 6)) - 1) &&& 255) = rwr f (hd + k) (emp L) (6) := by simp only [rwr]; rw [Nat.add_assoc]; rfl
  rw [ef] at hP hD
  have hP : va_P D vwCl [(h, .inr (1, [.ref r, .int (nI hd), .int (nI (k + 6))])), (r, .inl (cA, 4096, .inl (rwr f (hd + k) (emp L) 6)))] H := hP
  have hD : va_D A [(h, .inr (1, [.ref r, .int (nI hd), .int (nI (k + 6))])), (r, .inl (cA, 4096, .inl (rwr f (hd + k) (emp L) 6)))] := hD
  refine lv_iconst (v := 0) hx hb dX1_addEmptyPacket_56 (by decide) ?_
  refine lv_istore_n (lv' := [(3, .int 0), (2, .int (nI (L - 6))), (0, .ref h), (1, .int (nI L))]) hx hb dX1_addEmptyPacket_57 rfl hl (by decide) rfl (fun ls hl => ?_)
  have loop : ∀ (d i : Nat) (H : Heap) (locs : List Loc) (ls : Array Slot), i + d = L - 6 → va_P D vwCl [(h, .inr (1, [.ref r, .int (nI hd), .int (nI (k + (6 + i)))])), (r, .inl (cA, 4096, .inl (rwr f (hd + k) (emp L) (6 + i))))] H → va_D A [(h, .inr (1, [.ref r, .int (nI hd), .int (nI (k + (6 + i)))])), (r, .inl (cA, 4096, .inl (rwr f (hd + k) (emp L) (6 + i))))] → va_S A s.heap H locs → lv_has ls 4 [(3, .int (nI i)), (2, .int (nI (L - 6))), (0, .ref h), (1, .int (nI L))] → W p l e ({ frames := 1, cells := 0, slots := 0, locals := 21 } : Room) s m ([.ref h, .int (nI L)] : List Value).toArray below meth c H locs 0 0 Q (F0 m 58 ls []) := by
    intro d
    induction d with
    | zero =>
      intro i H locs ls hi hP hD hS hl
      have hi : 6 + i = L := by omega
      refine lv_iload_n hx hb dX1_addEmptyPacket_58 rfl (lv_at hl 0 rfl) ?_
      refine lv_iload_n hx hb dX1_addEmptyPacket_59 rfl (lv_at hl 1 rfl) ?_
      refine lv_icmp_ge (tgt := 75) hx hb dX1_addEmptyPacket_60 (by decide) (fun _ => ?_) (fun cc => absurd (nI_le (by omega) (by omega)) cc)
      rw [hi] at hP hD
      exact hex _ _ _ _ () hS (trivial) hP hD dX1_addEmptyPacket_75
    | succ d ih =>
      intro i H locs ls hi hP hD hS hl
      refine lv_iload_n hx hb dX1_addEmptyPacket_58 rfl (lv_at hl 0 rfl) ?_
      refine lv_iload_n hx hb dX1_addEmptyPacket_59 rfl (lv_at hl 1 rfl) ?_
      refine lv_icmp_ge (tgt := 75) hx hb dX1_addEmptyPacket_60 (by decide) (fun cc => absurd cc (nI_ge (by omega) (by omega))) (fun _ => ?_)
      refine lv_aload_n hx hb dX1_addEmptyPacket_63 rfl (lv_at hl 2 rfl) ?_
      refine lv_bipush (v := 85) hx hb dX1_addEmptyPacket_64 (by decide +kernel) ?_
      refine cl0_vv ⟨hx, hb, hml, hown, hts⟩ (c_ch_add l D cA h r (rwr f (hd + k) (emp L) (6 + i)) hd (k + (6 + i)) 85 hh (by omega)) (cwV 1 hts gX1_addEmptyPacket_X1_add rfl rfl rfl (by decide +kernel) ⟨Nat.le_of_ble_eq_true rfl, Nat.le_of_ble_eq_true rfl⟩) (ci := 1) (q0 := 0) rfl rfl hN hK hP hD hS hA [0, 1] [] [0, 1] [] [(h, .inr (1, [.ref r, .int (nI hd), .int (nI (k + (6 + i) + 1))])), (r, .inl (cA, 4096, .inl (upd (rwr f (hd + k) (emp L) (6 + i)) ((hd + (k + (6 + i))) % 4096) 85)))] [] rfl rfl rfl rfl (by decide) rfl rfl rfl hl.1 rfl (Nat.le_of_ble_eq_true rfl) dX1_addEmptyPacket_66 ⟨Nat.le_of_ble_eq_true rfl, Nat.le_of_ble_eq_true rfl⟩ (fun H locs hP hD hS => ?_)
      have ef : upd (rwr f (hd + k) (emp L) (6 + i)) ((hd + (k + (6 + i))) % 4096) 85 = rwr f (hd + k) (emp L) (6 + i + 1) := by simp only [rwr]; rw [Nat.add_assoc]; congr 1; exact (emp_85 L (6 + i) (by omega)).symm
      rw [ef] at hP hD
      refine lv_iinc (v := nI (i + 1)) (lv' := [(3, .int (nI (i + 1))), (2, .int (nI (L - 6))), (0, .ref h), (1, .int (nI L))]) hx hb dX1_addEmptyPacket_69 hl (k := 0) rfl (nI_1 _) (by decide) rfl (fun ls hl => ?_)
      refine lv_goto (tgt := 58) hx hb dX1_addEmptyPacket_72 (by decide) ?_
      exact ih (i + 1) H locs ls (by omega) hP hD hS (lv_sub hl [0, 1, 2, 3] rfl)
  exact loop (L - 6) 0 _ _ ls (by omega) hP hD hS (lv_sub hl [0, 1, 2, 3] rfl)

set_option maxHeartbeats 4000000 in
set_option maxRecDepth 100000 in
/-- fillUpTo(a), enough waits -/
theorem c_ch_fill0 (l : Launch) (D : va_G) (cA : ClassId) (h r : Nat) (f : Nat → Int32) (hd k : Nat) (a : Nat) (ha : a ≤ k) (hk : k ≤ 4096) : MV0 l yX1_fillUpTo wsX1_fillUpTo { frames := 2, cells := 0, slots := 0, locals := 44 } [.ref h, .int (nI a)] D [(cA, .int)] [(h, .inr (1, [.ref r, .int (nI hd), .int (nI k)])), (r, .inl (cA, 4096, .inl f))] [(h, .inr (1, [.ref r, .int (nI hd), .int (nI k)])), (r, .inl (cA, 4096, .inl f))] := by
  refine mt_v (by decide) rfl (Nat.le_of_ble_eq_true rfl) ?_
  intro p e s m below meth c A ls Q hx hb hts hown hml hin hN hK hA hP hD hS hl hex
  have hown : s.vm.findClass RX1 = some m.cls := hown
  have hl : lv_has ls 2 [(0, .ref h), (1, .int (nI a))] := hl
  have iX1 : ∀ w ∈ wsX10, w ∈ wsX1_fillUpTo := by decide +kernel
  have lk19 := hts (.fieldLink RX1 19 "DownFrames$Channel" "size" "I") (by decide +kernel)
  refine lv_aload_n hx hb dX1_fillUpTo_0 rfl (lv_at hl 0 rfl) ?_
  refine va_get (D := D) (ci := 1) (v := .int (nI k)) hx hb hts iX1 hown hK hP 0 rfl rfl 2 (by decide) lk19 (fun _ h => h) rfl dX1_fillUpTo_1 ?_
  refine lv_iload_n hx hb dX1_fillUpTo_4 rfl (lv_at hl 1 rfl) ?_
  refine lv_icmp_ge (tgt := 23) hx hb dX1_fillUpTo_5 (by decide) (fun _ => ?_) (fun cc => absurd (nI_le ha (by omega)) cc)
  exact hex _ _ _ _ () hS (trivial) hP hD dX1_fillUpTo_23

set_option maxHeartbeats 4000000 in
set_option maxRecDepth 100000 in
/-- fillUpTo(a), too little waits -/
theorem c_ch_fill1 (l : Launch) (D : va_G) (cA : ClassId) (h r : Nat) (f : Nat → Int32) (hd k : Nat) (a : Nat) (hh : hd < 4096) (ha : k < a) (hk : a ≤ 4000) : MV0 l yX1_fillUpTo wsX1_fillUpTo { frames := 2, cells := 0, slots := 0, locals := 44 } [.ref h, .int (nI a)] D [(cA, .int)] [(h, .inr (1, [.ref r, .int (nI hd), .int (nI k)])), (r, .inl (cA, 4096, .inl f))] [(h, .inr (1, [.ref r, .int (nI hd), .int (nI (k + max (a - k) 7))])), (r, .inl (cA, 4096, .inl (rwr f (hd + k) (emp (max (a - k) 7)) (max (a - k) 7))))] := by
  refine mt_v (by decide) rfl (Nat.le_of_ble_eq_true rfl) ?_
  intro p e s m below meth c A ls Q hx hb hts hown hml hin hN hK hA hP hD hS hl hex
  have hown : s.vm.findClass RX1 = some m.cls := hown
  have hl : lv_has ls 2 [(0, .ref h), (1, .int (nI a))] := hl
  have iX1 : ∀ w ∈ wsX10, w ∈ wsX1_fillUpTo := by decide +kernel
  have lk19 := hts (.fieldLink RX1 19 "DownFrames$Channel" "size" "I") (by decide +kernel)
  have mx1 := hts (.methodLink RX1 33 Lib.Math.max.name) (by decide +kernel)
  have mx2 := hts (.static Lib.Math.max.name) (by decide +kernel)
  have mx3 := hts (.initialized "java/lang/Math") (by decide +kernel)
  have mx4 : (Cond.code Lib.Math.max.name Lib.Math.max.code 2 (some .int)).before _ s = true := hts _ (List.mem_of_getElem? (i := 5) rfl)
  refine lv_aload_n hx hb dX1_fillUpTo_0 rfl (lv_at hl 0 rfl) ?_
  refine va_get (D := D) (ci := 1) (v := .int (nI k)) hx hb hts iX1 hown hK hP 0 rfl rfl 2 (by decide) lk19 (fun _ h => h) rfl dX1_fillUpTo_1 ?_
  refine lv_iload_n hx hb dX1_fillUpTo_4 rfl (lv_at hl 1 rfl) ?_
  refine lv_icmp_ge (tgt := 23) hx hb dX1_fillUpTo_5 (by decide) (fun cc => absurd cc (nI_ge ha (by omega))) (fun _ => ?_)
  refine lv_aload_n hx hb dX1_fillUpTo_8 rfl (lv_at hl 0 rfl) ?_
  refine lv_iload_n hx hb dX1_fillUpTo_9 rfl (lv_at hl 1 rfl) ?_
  refine lv_aload_n hx hb dX1_fillUpTo_10 rfl (lv_at hl 0 rfl) ?_
  refine va_get (D := D) (ci := 1) (v := .int (nI k)) hx hb hts iX1 hown hK hP 0 rfl rfl 2 (by decide) lk19 (fun _ h => h) rfl dX1_fillUpTo_11 ?_
  refine lv_isub hx hb dX1_fillUpTo_14 ?_
  refine tp_i (y := nI (a - k)) (pk_sub (by omega)) ?_
  refine lv_bipush (v := 7) hx hb dX1_fillUpTo_15 (by decide +kernel) ?_
  refine va_mmax hx hb (by rw [hml]; exact hl.1.symm) hown mx1 mx2 mx3 mx4 (Nat.le_of_ble_eq_true rfl) (Nat.le_of_ble_eq_true rfl) (Nat.le_of_ble_eq_true rfl) (Nat.le_of_ble_eq_true rfl) dX1_fillUpTo_17 ?_
  refine tp_i (y := nI (max (a - k) 7)) (by rw [show (7 : Int32) = nI 7 from rfl]; exact mx_nat (by omega) (by omega)) ?_
  refine cl0_vv ⟨hx, hb, hml, hown, hts⟩ (c_ch_empty l D cA h r f hd k (max (a - k) 7) hh (by omega) (by omega)) (cwV 1 hts gX1_fillUpTo_X1_addEmptyPacket rfl rfl rfl (by decide +kernel) ⟨Nat.le_of_ble_eq_true rfl, Nat.le_of_ble_eq_true rfl⟩) (ci := 1) (q0 := 0) rfl rfl hN hK hP hD hS hA [0, 1] [] [0, 1] [] [(h, .inr (1, [.ref r, .int (nI hd), .int (nI (k + (max (a - k) 7)))])), (r, .inl (cA, 4096, .inl (rwr f (hd + k) (emp (max (a - k) 7)) (max (a - k) 7))))] [] rfl rfl rfl rfl (by decide) rfl rfl rfl hl.1 rfl (Nat.le_of_ble_eq_true rfl) dX1_fillUpTo_20 ⟨Nat.le_of_ble_eq_true rfl, Nat.le_of_ble_eq_true rfl⟩ (fun H locs hP hD hS => ?_)
  exact hex _ _ _ _ () hS (trivial) hP hD dX1_fillUpTo_23

theorem c_ch_fill (l : Launch) (D : va_G) (cA : ClassId) (h r : Nat) (f : Nat → Int32) (hd k : Nat) (a : Nat) (hh : hd < 4096) (hk : k ≤ 4096) (ha : a ≤ 4000) : MV0 l yX1_fillUpTo wsX1_fillUpTo { frames := 2, cells := 0, slots := 0, locals := 44 } [.ref h, .int (nI a)] D [(cA, .int)] [(h, .inr (1, [.ref r, .int (nI hd), .int (nI k)])), (r, .inl (cA, 4096, .inl f))] [(h, .inr (1, [.ref r, .int (nI hd), .int (nI (filK k a))])), (r, .inl (cA, 4096, .inl (filF f hd k a)))] := by
  by_cases q : k < a
  · rw [show filF f hd k a = rwr f (hd + k) (emp (max (a - k) 7)) (max (a - k) 7) from if_pos q, show filK k a = k + max (a - k) 7 from if_pos q]
    exact c_ch_fill1 l D cA h r f hd k a hh q ha
  · rw [show filF f hd k a = f from if_neg q, show filK k a = k from if_neg q]
    exact c_ch_fill0 l D cA h r f hd k a (by omega) hk
