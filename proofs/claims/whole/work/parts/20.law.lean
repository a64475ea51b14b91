/-! THE CLAIM OUT OF ONE WALK OF THE LAW'S BODY. Your part is whole_start (and what it stands on); all else here is the same for every law, but numbers. -/
def R_law : String := "DownFramesLaw"
def lw_P (b : Addr) (xs : List Int32) (args : Array Value) (s : State) : Prop := args = #[.ref b] ∧ s.IntsAt b xs ∧ xs.length ≤ 2049 ∧ (Jvm.Cond.and given_1 narrow_1).before args s = true
def lw_Q (_ : Array Value) (s : State) (o : Outcome) (t : State) : Prop := o = .returned (some (.int 1)) ∧ Framed s o t [] 600000 7302249
def lw_Z (below : List Frame) (a : Array Value) (s : State) : State → Prop := fun t => ∃ o, t.status = .running ∧ Ended t below o ∧ lw_Q a s o t
/-- the law's own end, with 1 on the stack, nothing written that was there before, its room as the claim has it -/
theorem lw_ret {p : Program} {l : Launch} {e : Env} {s : State} {m : MethodId} {below : List Frame} {meth : Method} {c : Code} {b : Nat} (hx : p.tables.exec = Jvm.exec) (hb : c.code = code) (hr : meth.sig.returnType = ret) (hlocks : meth.locks = false) {pc : Nat} {H : Heap} {ls : Array Slot} (hdg : decode code pc = .ok (.ireturn, 1)) : W p l e room_1 s m #[Value.ref b] below meth c H [] 600000 7302249 (lw_Z below #[Value.ref b] s) (F0 m pc ls [.int 1]) := by
  intro T hT X
  obtain ⟨fs, hret, hrun, hended, hW, hframe⟩ := X.leave (v := some (.int 1)) (hlocks := hlocks) (fun h => by rw [hr] at h; cases h)
  have hmeth' : T.vm.method? m = some meth := X.method'
  refine ⟨T.setFrames fs, ?_, .returned (some (.int 1)), hrun, hended, rfl, ⟨_, rfl⟩, hW, hframe⟩
  jvm_step X.here [X.here.top, hx, hb, hdg, hmeth', hr, ret, narrow_b1]
  (try refine ⟨rfl, ?_⟩); (try refine ⟨rfl, ?_⟩)
  first | (intro acts; rw [hret _ acts rfl rfl rfl]) | rw [hret _ _ rfl rfl rfl]
  exact Steps.refl _
/-- what holds at the law's entry: the machine, the code, the tables' words (any of lw_tbl by 'hts w (by decide +kernel)'), the script of L ints xs at the cell b, what the Statement gives of the start (any of its parts by flat_of_before) -/
def lw_At (p : Program) (s : State) (m : MethodId) (meth : Method) (c : Code) (b L : Nat) (xs : Nat → Int32) : Prop :=
  p.tables.exec = Jvm.exec ∧ c.code = code ∧ meth.sig.returnType = ret ∧ c.maxLocals = 4 ∧ s.vm.findClass R_law = some m.cls ∧ (∀ w ∈ lw_tbl, w.before #[Value.ref b] s = true) ∧ va_X b L xs s s.heap ∧ b < s.heap.size ∧ meth.locks = false ∧ (Jvm.Cond.and given_1 narrow_1).before #[Value.ref b] s = true
section SC
variable {p : Program} {l : Launch} {e : Env} {R : Room} {s : State} {m : MethodId} {args : Array Value} {below : List Frame} {meth : Method} {c : Code} {H : Heap} {locs : List Loc} {cells slots : Nat} {Q : State → Prop}
variable {cc : ByteArray} {pc : Nat} {ls : Array Slot} {rest : List Value} {A : Nat → Prop} {H0 : Heap}
theorem sl_i (hx : p.tables.exec = Jvm.exec) (hb : c.code = cc) {b L : Nat} {xs : Nat → Int32} (hX : va_X b L xs s H0) (hbl : b < H0.size) (hbA : ¬ A b) (hS : va_S A H0 H locs) {k : Nat} (hk : k < L) (hL : L < 2 ^ 31) (hdg : decode cc pc = .ok (.iaload, 1))
    (kk : W p l e R s m args below meth c H locs cells slots Q (F0 m (pc + 1) ls (.int (xs k) :: rest))) : W p l e R s m args below meth c H locs cells slots Q (F0 m pc ls (.int (nI k) :: .ref b :: rest)) := by
  refine va_sld hx hb hX hbl hbA hS (vp_in_nI hk hL) hdg ?_
  rw [nI_clamp (by omega)]
  exact kk
end SC
theorem lw_cmp {i L : Nat} (hL : L ≤ 2049) (hi : i ≤ 2053) : (nI L - 4 < nI i) ↔ L < i + 4 := by
  rw [Int32.lt_iff_toInt_lt, show (4 : Int32) = nI 4 from rfl, pk_sub_toInt (by omega) (by decide), nI_toInt (by omega)]
  omega
/-- the script's first int, or 0 -/
def cel (L : Nat) (xs : Nat → Int32) : Int32 := if 0 < L then xs 0 else 0
set_option maxHeartbeats 4000000 in
set_option maxRecDepth 100000 in
/-- cell(script, 0) -/
theorem c_cell (l : Launch) (b L : Nat) (xs : Nat → Int32) (hL : L ≤ 2049) : Met l yL_cell wsL_cell { frames := 0, cells := 0, slots := 0, locals := 0 } (va_Pc [.ref b, .int 0] (fun U => va_X b L xs U U.heap ∧ b < U.heap.size)) (QcRead (cel L xs)) 0 0 (fun _ => False) := by
  refine Met.ofW (cc := cL_cell) (maxL := 2) (ret := (some .int)) (by decide) rfl ?_
  intro p e s m args below meth c s₁ B hml hv
  obtain ⟨rfl, hX, hbl⟩ := hv
  have hx := B.exec
  have hb := B.bytes
  have hr := B.returns
  have hlocks := B.notSynchronized
  have hbA : ¬ (fun _ : Nat => False) b := fun h => h
  have hS : va_S (fun _ : Nat => False) s.heap s.heap [] := va_S.rf
  have hl := lv_entry ([.ref b, .int 0]) (n := 2) (Nat.le_of_ble_eq_true rfl)
  rw [lg_entry_eq]
  generalize (lg_sl ([.ref b, .int 0]) ++ List.replicate (2 - (lg_sl ([.ref b, .int 0])).length) Slot.unset).toArray = ls at hl ⊢
  have hl : lv_has ls 2 [(0, .ref b), (1, .int 0)] := hl
  refine lv_iload_n hx hb dL_cell_0 rfl (lv_at hl 1 rfl) ?_
  refine lv_aload_n hx hb dL_cell_1 rfl (lv_at hl 0 rfl) ?_
  refine va_slen hx hb hX hbl hbA hS dL_cell_2 ?_
  refine lv_icmp_ge (tgt := 12) hx hb dL_cell_3 (by decide) (fun q => ?_) (fun q => ?_)
  · refine lv_iconst (v := 0) hx hb dL_cell_12 (by decide) ?_
    have h0 : ¬ 0 < L := fun t => nI_ge (a := 0) t (by omega) q
    exact W.iret hx hb hr (fun t ht _ => ⟨by unfold cel; rw [if_neg h0], ht⟩) (fun q h => by cases h) dL_cell_13
  · have h0 : 0 < L := Nat.not_le.mp (fun t => q (nI_le (b := 0) t (by decide)))
    refine lv_aload_n hx hb dL_cell_6 rfl (lv_at hl 0 rfl) ?_
    refine lv_iload_n hx hb dL_cell_7 rfl (lv_at hl 1 rfl) ?_
    refine tp_i (y := nI 0) rfl ?_
    refine sl_i hx hb hX hbl hbA hS h0 (by omega) dL_cell_8 ?_
    refine lv_goto (tgt := 13) hx hb dL_cell_9 (by decide) ?_
    exact W.iret hx hb hr (fun t ht _ => ⟨by unfold cel; rw [if_pos h0], ht⟩) (fun q h => by cases h) dL_cell_13
theorem cell_blind {b L : Nat} {xs : Nat → Int32} {av : List Value} : FrameBlind (va_Pc av (fun U => va_X b L xs U U.heap ∧ b < U.heap.size)) := fun a U g mk q => ⟨q.1, va_X.moved (u := U) (U := U.calling g mk a) (Vm.Alike.refl U.vm) q.2.1, q.2.2⟩

set_option maxHeartbeats 4000000 in
set_option maxRecDepth 100000 in
/-- THE LAW'S LOOP: at its head class and reference agree -/
theorem law_loop {p : Program} {l : Launch} {e : Env} {s : State} {m : MethodId} {below : List Frame} {meth : Method} {c : Code} {D : va_G} {cA cB cZ : ClassId} {b L : Nat} {xs : Nat → Int32} (hL : L ≤ 2049) (C0 : lw_At p s m meth c b L xs) (hN : nw s) (hK : va_K D vwCl [(cA, .int), (cB, .byte), (cZ, .boolean)] s) (x len t tr v vr c0 r0 c1 r1 fr y tp bb zz wa fs fm : Nat) :
    ∀ (n i : Nat) (u : XSt) (nu : MSt) (H : Heap) (locs : List Loc) (ls : Array Slot), i ≤ 2053 → L < i + 4 * n + 4 → Rel len u nu → va_P D vwCl (xw cA x len t tr v vr c0 r0 c1 r1 fr u ++ mw cA cB cZ y len tp bb zz wa fs fm nu) H → va_D (fun q : Nat => s.heap.size ≤ q) (xw cA x len t tr v vr c0 r0 c1 r1 fr u ++ mw cA cB cZ y len tp bb zz wa fs fm nu) → va_S (fun q : Nat => s.heap.size ≤ q) s.heap H locs → lv_has ls 4 [(3, .int (nI i)), (2, .ref y), (1, .ref x), (0, .ref b)] → W p l e room_1 s m #[Value.ref b] below meth c H locs 17 27588 (lw_Z below #[Value.ref b] s) (F0 m 28 ls []) := by
  obtain ⟨hx, hb, hr, hml, hown, hts, hX, hbl, hlocks, hgv⟩ := C0
  have hown : s.vm.findClass RL = some m.cls := hown
  have hA : ∀ q : Nat, s.heap.size ≤ q → (fun q : Nat => s.heap.size ≤ q) q := fun _ h => h
  have hbA : ¬ (fun q : Nat => s.heap.size ≤ q) b := Nat.not_le.mpr hbl
  have htsL : ∀ w ∈ wsL_law, w.before #[Value.ref b] s = true := fun w h => hts w (wsL_law_in w h)
  have hK1 : va_K D vwCl [(cA, .int)] s := hK.sub [0] rfl
  have k21 := hts (.constantLong RL 21 (4294967295)) (by decide +kernel)
  intro n
  induction n with
  | zero =>
    intro i u nu H locs ls hi hf hR hP hD hS hl
    refine lv_iload_n hx hb dL_law_28 rfl (lv_at hl 0 rfl) ?_
    refine lv_aload_n hx hb dL_law_29 rfl (lv_at hl 3 rfl) ?_
    refine va_slen hx hb hX hbl hbA hS dL_law_30 ?_
    refine lv_iconst (v := 4) hx hb dL_law_31 (by decide) ?_
    refine lv_isub hx hb dL_law_32 ?_
    refine lv_icmp_gt (tgt := 264) hx hb dL_law_33 (by decide) (fun _ => ?_) (fun cc => absurd ((lw_cmp hL hi).mpr (by omega)) cc)
    refine lv_iconst (v := 1) hx hb dL_law_264 (by decide) ?_
    refine va_forget (fun q hq => hS.2.2 q hq) ?_
    refine W.widen (k := 600000) (n := 7302249) (Nat.le_of_ble_eq_true rfl) (Nat.le_of_ble_eq_true rfl) ?_
    exact lw_ret hx hb hr hlocks dL_law_265
  | succ n ih =>
    intro i u nu H locs ls hi hf hR hP hD hS hl
    refine lv_iload_n hx hb dL_law_28 rfl (lv_at hl 0 rfl) ?_
    refine lv_aload_n hx hb dL_law_29 rfl (lv_at hl 3 rfl) ?_
    refine va_slen hx hb hX hbl hbA hS dL_law_30 ?_
    refine lv_iconst (v := 4) hx hb dL_law_31 (by decide) ?_
    refine lv_isub hx hb dL_law_32 ?_
    refine lv_icmp_gt (tgt := 264) hx hb dL_law_33 (by decide) (fun q => ?_) (fun q => ?_)
    · refine lv_iconst (v := 1) hx hb dL_law_264 (by decide) ?_
      refine va_forget (fun q hq => hS.2.2 q hq) ?_
      refine W.widen (k := 600000) (n := 7302249) (Nat.le_of_ble_eq_true rfl) (Nat.le_of_ble_eq_true rfl) ?_
      exact lw_ret hx hb hr hlocks dL_law_265
    · have h4 : i + 4 ≤ L := Nat.not_lt.mp (fun t => q ((lw_cmp hL hi).mpr t))
      refine lv_aload_n hx hb dL_law_36 rfl (lv_at hl 3 rfl) ?_
      refine lv_iload_n hx hb dL_law_37 rfl (lv_at hl 0 rfl) ?_
      refine sl_i (k := i) hx hb hX hbl hbA hS (by omega) (by omega) dL_law_38 ?_
      refine lv_bipush (v := 7) hx hb dL_law_39 (by decide +kernel) ?_
      refine lv_iand hx hb dL_law_41 ?_
      obtain ⟨d, hd, ed⟩ := pk_andE (xs i) (m := 7) 3 (by decide)
      refine tp_i (y := nI d) (ed) ?_
      have next : ∀ (u : XSt) (nu : MSt) (H : Heap) (locs : List Loc) (ls : Array Slot), Rel len u nu → va_P D vwCl (xw cA x len t tr v vr c0 r0 c1 r1 fr u ++ mw cA cB cZ y len tp bb zz wa fs fm nu) H → va_D (fun q : Nat => s.heap.size ≤ q) (xw cA x len t tr v vr c0 r0 c1 r1 fr u ++ mw cA cB cZ y len tp bb zz wa fs fm nu) → va_S (fun q : Nat => s.heap.size ≤ q) s.heap H locs → lv_has ls 4 [(3, .int (nI i)), (2, .ref y), (1, .ref x), (0, .ref b)] → W p l e room_1 s m #[Value.ref b] below meth c H locs 17 27588 (lw_Z below #[Value.ref b] s) (F0 m 258 ls []) := by
        intro u nu H locs ls hR hP hD hS hl
        refine lv_iinc (v := nI (i + 4)) (lv' := [(3, .int (nI (i + 4))), (2, .ref y), (1, .ref x), (0, .ref b)]) hx hb dL_law_258 hl (k := 0) rfl (nI_add i 4) (by decide) rfl (fun ls hl => ?_)
        refine lv_goto (tgt := 28) hx hb dL_law_261 (by decide) ?_
        exact ih (i + 4) u nu H locs ls (by omega) (by omega) hR hP hD hS (lv_sub hl [0, 1, 2, 3] rfl)
      rcases (show d = 0 ∨ d = 1 ∨ d = 2 ∨ d = 3 ∨ d = 4 ∨ d = 5 ∨ d = 6 ∨ d = 7 by omega) with rfl | rfl | rfl | rfl | rfl | rfl | rfl | rfl
      · refine lv_tableIn (tgt := 80) hx hb dL_law_42 (by decide) (by decide) rfl (by decide) ?_
        refine lv_aload_n hx hb dL_law_80 rfl (lv_at hl 2 rfl) ?_
        refine lv_aload_n hx hb dL_law_81 rfl (lv_at hl 3 rfl) ?_
        refine lv_iload_n hx hb dL_law_82 rfl (lv_at hl 0 rfl) ?_
        refine lv_iconst (v := 1) hx hb dL_law_83 (by decide) ?_
        refine lv_iadd hx hb dL_law_84 ?_
        refine tp_i (y := nI (i + 1)) (nI_1 i) ?_
        refine sl_i (k := i + 1) hx hb hX hbl hbA hS (by omega) (by omega) dL_law_85 ?_
        refine lv_i2l (v := ((xs (i + 1))).toInt64) hx hb dL_law_86 rfl ?_
        refine lv_bipush (v := 32) hx hb dL_law_87 (by decide +kernel) ?_
        refine lv_lshl (v := lsl (((xs (i + 1))).toInt64) 32) hx hb dL_law_89 rfl ?_
        refine lv_aload_n hx hb dL_law_90 rfl (lv_at hl 3 rfl) ?_
        refine lv_iload_n hx hb dL_law_91 rfl (lv_at hl 0 rfl) ?_
        refine lv_iconst (v := 2) hx hb dL_law_92 (by decide) ?_
        refine lv_iadd hx hb dL_law_93 ?_
        refine tp_i (y := nI (i + 2)) (nI_add i 2) ?_
        refine sl_i (k := i + 2) hx hb hX hbl hbA hS (by omega) (by omega) dL_law_94 ?_
        refine lv_i2l (v := ((xs (i + 2))).toInt64) hx hb dL_law_95 rfl ?_
        refine lv_ldc2 hx hb hown k21 dL_law_96 ?_
        refine lv_land hx hb dL_law_99 ?_
        refine lv_lor hx hb dL_law_100 ?_
        refine lv_aload_n hx hb dL_law_101 rfl (lv_at hl 3 rfl) ?_
        refine lv_iload_n hx hb dL_law_102 rfl (lv_at hl 0 rfl) ?_
        refine lv_iconst (v := 3) hx hb dL_law_103 (by decide) ?_
        refine lv_iadd hx hb dL_law_104 ?_
        refine tp_i (y := nI (i + 3)) (nI_add i 3) ?_
        refine sl_i (k := i + 3) hx hb hX hbl hbA hS (by omega) (by omega) dL_law_105 ?_
        obtain ⟨r, u2, nu2, hXc, hMc, hR2⟩ := st_give hR ((lsl (((xs (i + 1))).toInt64) 32) ||| ((((xs (i + 2))).toInt64) &&& 4294967295)) (xs (i + 3))
        refine cl0_vi ⟨hx, hb, hml, hown, htsL⟩ (hXc l D cA x t tr v vr c0 r0 c1 r1 fr) (cwV 2 htsL gL_law_X2_give rfl rfl rfl (by decide +kernel) ⟨Nat.le_of_ble_eq_true rfl, Nat.le_of_ble_eq_true rfl⟩) (ci := 2) (q0 := 0) rfl rfl hN hK1 hP hD hS hA [0, 1, 2, 3, 4, 5, 6, 7, 8, 9] [10, 11, 12, 13, 14, 15, 16] [7, 8, 9, 10, 11, 12, 13, 14, 15, 16, 0, 1, 2, 3, 4, 5, 6] (mw cA cB cZ y len tp bb zz wa fs fm nu) (xw cA x len t tr v vr c0 r0 c1 r1 fr u2 ++ mw cA cB cZ y len tp bb zz wa fs fm nu) [] rfl rfl rfl rfl (by decide) rfl rfl rfl hl.1 rfl (Nat.le_of_ble_eq_true rfl) dL_law_106 ⟨Nat.le_of_ble_eq_true rfl, Nat.le_of_ble_eq_true rfl⟩ (fun H locs hP hD hS => ?_)
        refine lv_aload_n hx hb dL_law_109 rfl (lv_at hl 1 rfl) ?_
        refine lv_aload_n hx hb dL_law_110 rfl (lv_at hl 3 rfl) ?_
        refine lv_iload_n hx hb dL_law_111 rfl (lv_at hl 0 rfl) ?_
        refine lv_iconst (v := 1) hx hb dL_law_112 (by decide) ?_
        refine lv_iadd hx hb dL_law_113 ?_
        refine tp_i (y := nI (i + 1)) (nI_1 i) ?_
        refine sl_i (k := i + 1) hx hb hX hbl hbA hS (by omega) (by omega) dL_law_114 ?_
        refine lv_i2l (v := ((xs (i + 1))).toInt64) hx hb dL_law_115 rfl ?_
        refine lv_bipush (v := 32) hx hb dL_law_116 (by decide +kernel) ?_
        refine lv_lshl (v := lsl (((xs (i + 1))).toInt64) 32) hx hb dL_law_118 rfl ?_
        refine lv_aload_n hx hb dL_law_119 rfl (lv_at hl 3 rfl) ?_
        refine lv_iload_n hx hb dL_law_120 rfl (lv_at hl 0 rfl) ?_
        refine lv_iconst (v := 2) hx hb dL_law_121 (by decide) ?_
        refine lv_iadd hx hb dL_law_122 ?_
        refine tp_i (y := nI (i + 2)) (nI_add i 2) ?_
        refine sl_i (k := i + 2) hx hb hX hbl hbA hS (by omega) (by omega) dL_law_123 ?_
        refine lv_i2l (v := ((xs (i + 2))).toInt64) hx hb dL_law_124 rfl ?_
        refine lv_ldc2 hx hb hown k21 dL_law_125 ?_
        refine lv_land hx hb dL_law_128 ?_
        refine lv_lor hx hb dL_law_129 ?_
        refine lv_aload_n hx hb dL_law_130 rfl (lv_at hl 3 rfl) ?_
        refine lv_iload_n hx hb dL_law_131 rfl (lv_at hl 0 rfl) ?_
        refine lv_iconst (v := 3) hx hb dL_law_132 (by decide) ?_
        refine lv_iadd hx hb dL_law_133 ?_
        refine tp_i (y := nI (i + 3)) (nI_add i 3) ?_
        refine sl_i (k := i + 3) hx hb hX hbl hbA hS (by omega) (by omega) dL_law_134 ?_
        refine cl0_vi ⟨hx, hb, hml, hown, hts⟩ (hMc l D cA cB cZ y tp bb zz wa fs fm) (cwV 2 hts gLM_give rfl rfl rfl (by decide +kernel) ⟨Nat.le_of_ble_eq_true rfl, Nat.le_of_ble_eq_true rfl⟩) (ci := 3) (q0 := 0) rfl rfl hN hK hP hD hS hA [10, 11, 12, 13, 14, 15, 16] [0, 1, 2, 3, 4, 5, 6, 7, 8, 9] [0, 1, 2, 3, 4, 5, 6, 7, 8, 9, 10, 11, 12, 13, 14, 15, 16] (xw cA x len t tr v vr c0 r0 c1 r1 fr u2) (xw cA x len t tr v vr c0 r0 c1 r1 fr u2 ++ mw cA cB cZ y len tp bb zz wa fs fm nu2) [.int r] rfl rfl rfl rfl (by decide) rfl rfl rfl hl.1 rfl (Nat.le_of_ble_eq_true rfl) dL_law_135 ⟨Nat.le_of_ble_eq_true rfl, Nat.le_of_ble_eq_true rfl⟩ (fun H locs hP hD hS => ?_)
        refine lv_icmp_eq (tgt := 258) hx hb dL_law_138 (by decide) (fun _ => ?_) (fun cc => absurd (rfl) cc)
        exact next u2 nu2 H locs ls hR2 hP hD hS hl
      · refine lv_tableIn (tgt := 143) hx hb dL_law_42 (by decide) (by decide) rfl (by decide) ?_
        refine lv_aload_n hx hb dL_law_143 rfl (lv_at hl 2 rfl) ?_
        refine lv_aload_n hx hb dL_law_144 rfl (lv_at hl 3 rfl) ?_
        refine lv_iload_n hx hb dL_law_145 rfl (lv_at hl 0 rfl) ?_
        refine lv_iconst (v := 1) hx hb dL_law_146 (by decide) ?_
        refine lv_iadd hx hb dL_law_147 ?_
        refine tp_i (y := nI (i + 1)) (nI_1 i) ?_
        refine sl_i (k := i + 1) hx hb hX hbl hbA hS (by omega) (by omega) dL_law_148 ?_
        obtain ⟨r, u2, nu2, hXc, hMc, hR2⟩ := st_send hR (xs (i + 1))
        refine cl0_vi ⟨hx, hb, hml, hown, htsL⟩ (hXc l D cA x t tr v vr c0 r0 c1 r1 fr) (cwV 1 htsL gL_law_X2_send rfl rfl rfl (by decide +kernel) ⟨Nat.le_of_ble_eq_true rfl, Nat.le_of_ble_eq_true rfl⟩) (ci := 2) (q0 := 0) rfl rfl hN hK1 hP hD hS hA [0, 1, 2, 3, 4, 5, 6, 7, 8, 9] [10, 11, 12, 13, 14, 15, 16] [7, 8, 9, 10, 11, 12, 13, 14, 15, 16, 0, 1, 2, 3, 4, 5, 6] (mw cA cB cZ y len tp bb zz wa fs fm nu) (xw cA x len t tr v vr c0 r0 c1 r1 fr u2 ++ mw cA cB cZ y len tp bb zz wa fs fm nu) [] rfl rfl rfl rfl (by decide) rfl rfl rfl hl.1 rfl (Nat.le_of_ble_eq_true rfl) dL_law_149 ⟨Nat.le_of_ble_eq_true rfl, Nat.le_of_ble_eq_true rfl⟩ (fun H locs hP hD hS => ?_)
        refine lv_aload_n hx hb dL_law_152 rfl (lv_at hl 1 rfl) ?_
        refine lv_aload_n hx hb dL_law_153 rfl (lv_at hl 3 rfl) ?_
        refine lv_iload_n hx hb dL_law_154 rfl (lv_at hl 0 rfl) ?_
        refine lv_iconst (v := 1) hx hb dL_law_155 (by decide) ?_
        refine lv_iadd hx hb dL_law_156 ?_
        refine tp_i (y := nI (i + 1)) (nI_1 i) ?_
        refine sl_i (k := i + 1) hx hb hX hbl hbA hS (by omega) (by omega) dL_law_157 ?_
        refine cl0_vi ⟨hx, hb, hml, hown, hts⟩ (hMc l D cA cB cZ y tp bb zz wa fs fm) (cwV 1 hts gLM_send rfl rfl rfl (by decide +kernel) ⟨Nat.le_of_ble_eq_true rfl, Nat.le_of_ble_eq_true rfl⟩) (ci := 3) (q0 := 0) rfl rfl hN hK hP hD hS hA [10, 11, 12, 13, 14, 15, 16] [0, 1, 2, 3, 4, 5, 6, 7, 8, 9] [0, 1, 2, 3, 4, 5, 6, 7, 8, 9, 10, 11, 12, 13, 14, 15, 16] (xw cA x len t tr v vr c0 r0 c1 r1 fr u2) (xw cA x len t tr v vr c0 r0 c1 r1 fr u2 ++ mw cA cB cZ y len tp bb zz wa fs fm nu2) [.int r] rfl rfl rfl rfl (by decide) rfl rfl rfl hl.1 rfl (Nat.le_of_ble_eq_true rfl) dL_law_158 ⟨Nat.le_of_ble_eq_true rfl, Nat.le_of_ble_eq_true rfl⟩ (fun H locs hP hD hS => ?_)
        refine lv_icmp_eq (tgt := 258) hx hb dL_law_161 (by decide) (fun _ => ?_) (fun cc => absurd (rfl) cc)
        exact next u2 nu2 H locs ls hR2 hP hD hS hl
      · refine lv_tableIn (tgt := 166) hx hb dL_law_42 (by decide) (by decide) rfl (by decide) ?_
        refine lv_aload_n hx hb dL_law_166 rfl (lv_at hl 2 rfl) ?_
        refine lv_aload_n hx hb dL_law_167 rfl (lv_at hl 3 rfl) ?_
        refine lv_iload_n hx hb dL_law_168 rfl (lv_at hl 0 rfl) ?_
        refine lv_iconst (v := 1) hx hb dL_law_169 (by decide) ?_
        refine lv_iadd hx hb dL_law_170 ?_
        refine tp_i (y := nI (i + 1)) (nI_1 i) ?_
        refine sl_i (k := i + 1) hx hb hX hbl hbA hS (by omega) (by omega) dL_law_171 ?_
        obtain ⟨r, u2, nu2, hXc, hMc, hR2⟩ := st_frame hR (xs (i + 1))
        refine cl0_vi ⟨hx, hb, hml, hown, htsL⟩ (hXc l D cA x t tr v vr c0 r0 c1 r1 fr) (cwV 1 htsL gL_law_X2_frame rfl rfl rfl (by decide +kernel) ⟨Nat.le_of_ble_eq_true rfl, Nat.le_of_ble_eq_true rfl⟩) (ci := 2) (q0 := 0) rfl rfl hN hK1 hP hD hS hA [0, 1, 2, 3, 4, 5, 6, 7, 8, 9] [10, 11, 12, 13, 14, 15, 16] [7, 8, 9, 10, 11, 12, 13, 14, 15, 16, 0, 1, 2, 3, 4, 5, 6] (mw cA cB cZ y len tp bb zz wa fs fm nu) (xw cA x len t tr v vr c0 r0 c1 r1 fr u2 ++ mw cA cB cZ y len tp bb zz wa fs fm nu) [] rfl rfl rfl rfl (by decide) rfl rfl rfl hl.1 rfl (Nat.le_of_ble_eq_true rfl) dL_law_172 ⟨Nat.le_of_ble_eq_true rfl, Nat.le_of_ble_eq_true rfl⟩ (fun H locs hP hD hS => ?_)
        refine lv_aload_n hx hb dL_law_175 rfl (lv_at hl 1 rfl) ?_
        refine lv_aload_n hx hb dL_law_176 rfl (lv_at hl 3 rfl) ?_
        refine lv_iload_n hx hb dL_law_177 rfl (lv_at hl 0 rfl) ?_
        refine lv_iconst (v := 1) hx hb dL_law_178 (by decide) ?_
        refine lv_iadd hx hb dL_law_179 ?_
        refine tp_i (y := nI (i + 1)) (nI_1 i) ?_
        refine sl_i (k := i + 1) hx hb hX hbl hbA hS (by omega) (by omega) dL_law_180 ?_
        refine cl0_vi ⟨hx, hb, hml, hown, hts⟩ (hMc l D cA cB cZ y tp bb zz wa fs fm) (cwV 1 hts gLM_frame rfl rfl rfl (by decide +kernel) ⟨Nat.le_of_ble_eq_true rfl, Nat.le_of_ble_eq_true rfl⟩) (ci := 3) (q0 := 0) rfl rfl hN hK hP hD hS hA [10, 11, 12, 13, 14, 15, 16] [0, 1, 2, 3, 4, 5, 6, 7, 8, 9] [0, 1, 2, 3, 4, 5, 6, 7, 8, 9, 10, 11, 12, 13, 14, 15, 16] (xw cA x len t tr v vr c0 r0 c1 r1 fr u2) (xw cA x len t tr v vr c0 r0 c1 r1 fr u2 ++ mw cA cB cZ y len tp bb zz wa fs fm nu2) [.int r] rfl rfl rfl rfl (by decide) rfl rfl rfl hl.1 rfl (Nat.le_of_ble_eq_true rfl) dL_law_181 ⟨Nat.le_of_ble_eq_true rfl, Nat.le_of_ble_eq_true rfl⟩ (fun H locs hP hD hS => ?_)
        refine lv_icmp_eq (tgt := 258) hx hb dL_law_184 (by decide) (fun _ => ?_) (fun cc => absurd (rfl) cc)
        exact next u2 nu2 H locs ls hR2 hP hD hS hl
      · refine lv_tableIn (tgt := 189) hx hb dL_law_42 (by decide) (by decide) rfl (by decide) ?_
        refine lv_aload_n hx hb dL_law_189 rfl (lv_at hl 2 rfl) ?_
        refine lv_aload_n hx hb dL_law_190 rfl (lv_at hl 3 rfl) ?_
        refine lv_iload_n hx hb dL_law_191 rfl (lv_at hl 0 rfl) ?_
        refine lv_iconst (v := 1) hx hb dL_law_192 (by decide) ?_
        refine lv_iadd hx hb dL_law_193 ?_
        refine tp_i (y := nI (i + 1)) (nI_1 i) ?_
        refine sl_i (k := i + 1) hx hb hX hbl hbA hS (by omega) (by omega) dL_law_194 ?_
        obtain ⟨r, u2, nu2, hXc, hMc, hR2⟩ := st_byteAt hR (xs (i + 1))
        refine cl0_vi ⟨hx, hb, hml, hown, htsL⟩ (hXc l D cA x t tr v vr c0 r0 c1 r1 fr) (cwV 1 htsL gL_law_X2_byteAt rfl rfl rfl (by decide +kernel) ⟨Nat.le_of_ble_eq_true rfl, Nat.le_of_ble_eq_true rfl⟩) (ci := 2) (q0 := 0) rfl rfl hN hK1 hP hD hS hA [0, 1, 2, 3, 4, 5, 6, 7, 8, 9] [10, 11, 12, 13, 14, 15, 16] [7, 8, 9, 10, 11, 12, 13, 14, 15, 16, 0, 1, 2, 3, 4, 5, 6] (mw cA cB cZ y len tp bb zz wa fs fm nu) (xw cA x len t tr v vr c0 r0 c1 r1 fr u2 ++ mw cA cB cZ y len tp bb zz wa fs fm nu) [] rfl rfl rfl rfl (by decide) rfl rfl rfl hl.1 rfl (Nat.le_of_ble_eq_true rfl) dL_law_195 ⟨Nat.le_of_ble_eq_true rfl, Nat.le_of_ble_eq_true rfl⟩ (fun H locs hP hD hS => ?_)
        refine lv_aload_n hx hb dL_law_198 rfl (lv_at hl 1 rfl) ?_
        refine lv_aload_n hx hb dL_law_199 rfl (lv_at hl 3 rfl) ?_
        refine lv_iload_n hx hb dL_law_200 rfl (lv_at hl 0 rfl) ?_
        refine lv_iconst (v := 1) hx hb dL_law_201 (by decide) ?_
        refine lv_iadd hx hb dL_law_202 ?_
        refine tp_i (y := nI (i + 1)) (nI_1 i) ?_
        refine sl_i (k := i + 1) hx hb hX hbl hbA hS (by omega) (by omega) dL_law_203 ?_
        refine cl0_vi ⟨hx, hb, hml, hown, hts⟩ (hMc l D cA cB cZ y tp bb zz wa fs fm) (cwV 1 hts gLM_byteAt rfl rfl rfl (by decide +kernel) ⟨Nat.le_of_ble_eq_true rfl, Nat.le_of_ble_eq_true rfl⟩) (ci := 3) (q0 := 0) rfl rfl hN hK hP hD hS hA [10, 11, 12, 13, 14, 15, 16] [0, 1, 2, 3, 4, 5, 6, 7, 8, 9] [0, 1, 2, 3, 4, 5, 6, 7, 8, 9, 10, 11, 12, 13, 14, 15, 16] (xw cA x len t tr v vr c0 r0 c1 r1 fr u2) (xw cA x len t tr v vr c0 r0 c1 r1 fr u2 ++ mw cA cB cZ y len tp bb zz wa fs fm nu2) [.int r] rfl rfl rfl rfl (by decide) rfl rfl rfl hl.1 rfl (Nat.le_of_ble_eq_true rfl) dL_law_204 ⟨Nat.le_of_ble_eq_true rfl, Nat.le_of_ble_eq_true rfl⟩ (fun H locs hP hD hS => ?_)
        refine lv_icmp_eq (tgt := 258) hx hb dL_law_207 (by decide) (fun _ => ?_) (fun cc => absurd (rfl) cc)
        exact next u2 nu2 H locs ls hR2 hP hD hS hl
      · refine lv_tableIn (tgt := 212) hx hb dL_law_42 (by decide) (by decide) rfl (by decide) ?_
        refine lv_aload_n hx hb dL_law_212 rfl (lv_at hl 2 rfl) ?_
        refine lv_aload_n hx hb dL_law_213 rfl (lv_at hl 3 rfl) ?_
        refine lv_iload_n hx hb dL_law_214 rfl (lv_at hl 0 rfl) ?_
        refine lv_iconst (v := 1) hx hb dL_law_215 (by decide) ?_
        refine lv_iadd hx hb dL_law_216 ?_
        refine tp_i (y := nI (i + 1)) (nI_1 i) ?_
        refine sl_i (k := i + 1) hx hb hX hbl hbA hS (by omega) (by omega) dL_law_217 ?_
        obtain ⟨r, u2, nu2, hXc, hMc, hR2⟩ := st_waiting hR (xs (i + 1))
        refine cl0_vi ⟨hx, hb, hml, hown, htsL⟩ (hXc l D cA x t tr v vr c0 r0 c1 r1 fr) (cwV 1 htsL gL_law_X2_waiting rfl rfl rfl (by decide +kernel) ⟨Nat.le_of_ble_eq_true rfl, Nat.le_of_ble_eq_true rfl⟩) (ci := 2) (q0 := 0) rfl rfl hN hK1 hP hD hS hA [0, 1, 2, 3, 4, 5, 6, 7, 8, 9] [10, 11, 12, 13, 14, 15, 16] [7, 8, 9, 10, 11, 12, 13, 14, 15, 16, 0, 1, 2, 3, 4, 5, 6] (mw cA cB cZ y len tp bb zz wa fs fm nu) (xw cA x len t tr v vr c0 r0 c1 r1 fr u2 ++ mw cA cB cZ y len tp bb zz wa fs fm nu) [] rfl rfl rfl rfl (by decide) rfl rfl rfl hl.1 rfl (Nat.le_of_ble_eq_true rfl) dL_law_218 ⟨Nat.le_of_ble_eq_true rfl, Nat.le_of_ble_eq_true rfl⟩ (fun H locs hP hD hS => ?_)
        refine lv_aload_n hx hb dL_law_221 rfl (lv_at hl 1 rfl) ?_
        refine lv_aload_n hx hb dL_law_222 rfl (lv_at hl 3 rfl) ?_
        refine lv_iload_n hx hb dL_law_223 rfl (lv_at hl 0 rfl) ?_
        refine lv_iconst (v := 1) hx hb dL_law_224 (by decide) ?_
        refine lv_iadd hx hb dL_law_225 ?_
        refine tp_i (y := nI (i + 1)) (nI_1 i) ?_
        refine sl_i (k := i + 1) hx hb hX hbl hbA hS (by omega) (by omega) dL_law_226 ?_
        refine cl0_vi ⟨hx, hb, hml, hown, hts⟩ (hMc l D cA cB cZ y tp bb zz wa fs fm) (cwV 1 hts gLM_waiting rfl rfl rfl (by decide +kernel) ⟨Nat.le_of_ble_eq_true rfl, Nat.le_of_ble_eq_true rfl⟩) (ci := 3) (q0 := 0) rfl rfl hN hK hP hD hS hA [10, 11, 12, 13, 14, 15, 16] [0, 1, 2, 3, 4, 5, 6, 7, 8, 9] [0, 1, 2, 3, 4, 5, 6, 7, 8, 9, 10, 11, 12, 13, 14, 15, 16] (xw cA x len t tr v vr c0 r0 c1 r1 fr u2) (xw cA x len t tr v vr c0 r0 c1 r1 fr u2 ++ mw cA cB cZ y len tp bb zz wa fs fm nu2) [.int r] rfl rfl rfl rfl (by decide) rfl rfl rfl hl.1 rfl (Nat.le_of_ble_eq_true rfl) dL_law_227 ⟨Nat.le_of_ble_eq_true rfl, Nat.le_of_ble_eq_true rfl⟩ (fun H locs hP hD hS => ?_)
        refine lv_icmp_eq (tgt := 258) hx hb dL_law_230 (by decide) (fun _ => ?_) (fun cc => absurd (rfl) cc)
        exact next u2 nu2 H locs ls hR2 hP hD hS hl
      · refine lv_tableIn (tgt := 235) hx hb dL_law_42 (by decide) (by decide) rfl (by decide) ?_
        refine lv_aload_n hx hb dL_law_235 rfl (lv_at hl 2 rfl) ?_
        refine lv_aload_n hx hb dL_law_236 rfl (lv_at hl 3 rfl) ?_
        refine lv_iload_n hx hb dL_law_237 rfl (lv_at hl 0 rfl) ?_
        refine lv_iconst (v := 1) hx hb dL_law_238 (by decide) ?_
        refine lv_iadd hx hb dL_law_239 ?_
        refine tp_i (y := nI (i + 1)) (nI_1 i) ?_
        refine sl_i (k := i + 1) hx hb hX hbl hbA hS (by omega) (by omega) dL_law_240 ?_
        obtain ⟨r, u2, nu2, hXc, hMc, hR2⟩ := st_count hR (xs (i + 1))
        refine cl0_vi ⟨hx, hb, hml, hown, htsL⟩ (hXc l D cA x t tr v vr c0 r0 c1 r1 fr) (cwV 1 htsL gL_law_X2_count rfl rfl rfl (by decide +kernel) ⟨Nat.le_of_ble_eq_true rfl, Nat.le_of_ble_eq_true rfl⟩) (ci := 2) (q0 := 0) rfl rfl hN hK1 hP hD hS hA [0, 1, 2, 3, 4, 5, 6, 7, 8, 9] [10, 11, 12, 13, 14, 15, 16] [7, 8, 9, 10, 11, 12, 13, 14, 15, 16, 0, 1, 2, 3, 4, 5, 6] (mw cA cB cZ y len tp bb zz wa fs fm nu) (xw cA x len t tr v vr c0 r0 c1 r1 fr u2 ++ mw cA cB cZ y len tp bb zz wa fs fm nu) [] rfl rfl rfl rfl (by decide) rfl rfl rfl hl.1 rfl (Nat.le_of_ble_eq_true rfl) dL_law_241 ⟨Nat.le_of_ble_eq_true rfl, Nat.le_of_ble_eq_true rfl⟩ (fun H locs hP hD hS => ?_)
        refine lv_aload_n hx hb dL_law_244 rfl (lv_at hl 1 rfl) ?_
        refine lv_aload_n hx hb dL_law_245 rfl (lv_at hl 3 rfl) ?_
        refine lv_iload_n hx hb dL_law_246 rfl (lv_at hl 0 rfl) ?_
        refine lv_iconst (v := 1) hx hb dL_law_247 (by decide) ?_
        refine lv_iadd hx hb dL_law_248 ?_
        refine tp_i (y := nI (i + 1)) (nI_1 i) ?_
        refine sl_i (k := i + 1) hx hb hX hbl hbA hS (by omega) (by omega) dL_law_249 ?_
        refine cl0_vi ⟨hx, hb, hml, hown, hts⟩ (hMc l D cA cB cZ y tp bb zz wa fs fm) (cwV 1 hts gLM_count rfl rfl rfl (by decide +kernel) ⟨Nat.le_of_ble_eq_true rfl, Nat.le_of_ble_eq_true rfl⟩) (ci := 3) (q0 := 0) rfl rfl hN hK hP hD hS hA [10, 11, 12, 13, 14, 15, 16] [0, 1, 2, 3, 4, 5, 6, 7, 8, 9] [0, 1, 2, 3, 4, 5, 6, 7, 8, 9, 10, 11, 12, 13, 14, 15, 16] (xw cA x len t tr v vr c0 r0 c1 r1 fr u2) (xw cA x len t tr v vr c0 r0 c1 r1 fr u2 ++ mw cA cB cZ y len tp bb zz wa fs fm nu2) [.int r] rfl rfl rfl rfl (by decide) rfl rfl rfl hl.1 rfl (Nat.le_of_ble_eq_true rfl) dL_law_250 ⟨Nat.le_of_ble_eq_true rfl, Nat.le_of_ble_eq_true rfl⟩ (fun H locs hP hD hS => ?_)
        refine lv_icmp_eq (tgt := 258) hx hb dL_law_253 (by decide) (fun _ => ?_) (fun cc => absurd (rfl) cc)
        exact next u2 nu2 H locs ls hR2 hP hD hS hl
      · refine lv_tableOut (tgt := 258) hx hb dL_law_42 (Or.inr (by decide)) (by decide) ?_
        exact next u nu H locs ls hR hP hD hS hl
      · refine lv_tableOut (tgt := 258) hx hb dL_law_42 (Or.inr (by decide)) (by decide) ?_
        exact next u nu H locs ls hR hP hD hS hl
