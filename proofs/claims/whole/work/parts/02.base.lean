-- MY OWN WRAPPERS: entry, exit, calls, arrays: a method's world is a list of cells ws; the classes are vwCl
/-- the private fields that nest mates read -/
def nw (U : State) : Prop := va_Nw (.fieldLinkNest RX2 63 "DownFrames$Bytes" "size" "I" "DownFrames") U ∧ va_Nw (.fieldLinkNest RX2 71 "DownFrames$Channel" "size" "I" "DownFrames") U ∧ va_Nw (.fieldLinkNest RX1 22 "DownFrames$Bytes" "size" "I" "DownFrames") U
theorem nw.same {u U : State} (h : u.vm = U.vm) (hn : nw u) : nw U := ⟨va_Nw.same rfl h hn.1, va_Nw.same rfl h hn.2.1, va_Nw.same rfl h hn.2.2⟩
theorem nw.warm {s U : State} (hW : s.WarmedH U.vm) (hn : nw s) : nw U := ⟨va_Nw.warmF hW hn.1, va_Nw.warmF hW hn.2.1, va_Nw.warmF hW hn.2.2⟩
def wP (D : va_G) (ty : List (ClassId × FieldType)) (ws : va_W) (sz : Nat) (U : State) : Prop := U.heap.size = sz ∧ va_P D vwCl ws U.heap ∧ va_K D vwCl ty U ∧ va_D (fun _ => True) ws ∧ nw U
def wQ (D : va_G) (ty : List (ClassId × FieldType)) (A : Nat → Prop) (ws : va_W) (t : State) : Prop := va_P D vwCl ws t.heap ∧ va_K D vwCl ty t ∧ va_D A ws
/-- contracts: void, int, a reference or null -/
def MV {S : Type} (l : Launch) (y : MethodName) (Ts : List Cond) (rm : Room) (av : List Value) (D : va_G) (ty : List (ClassId × FieldType)) (ws : va_W) (post : S → Prop) (w1 : S → va_W) (mc ms : Nat) : Prop :=
  ∀ sz : Nat, Met l y Ts rm (va_Pc av (wP D ty ws sz)) (va_Qv post (fun u => wQ D ty (va_A ws sz) (w1 u)) (va_A ws sz)) mc ms (va_A ws sz)
def MI {S : Type} (l : Launch) (y : MethodName) (Ts : List Cond) (rm : Room) (av : List Value) (D : va_G) (ty : List (ClassId × FieldType)) (ws : va_W) (post : Int32 → S → Prop) (w1 : S → va_W) (mc ms : Nat) : Prop :=
  ∀ sz : Nat, Met l y Ts rm (va_Pc av (wP D ty ws sz)) (va_Qi post (fun u => wQ D ty (va_A ws sz) (w1 u)) (va_A ws sz)) mc ms (va_A ws sz)
def MQq {S : Type} (l : Launch) (y : MethodName) (Ts : List Cond) (rm : Room) (av : List Value) (D : va_G) (ty : List (ClassId × FieldType)) (ws : va_W) (post : Option Nat → S → Prop) (w1 : S → va_W) (mc ms : Nat) : Prop :=
  ∀ sz : Nat, Met l y Ts rm (va_Pc av (wP D ty ws sz)) (va_Qq post (fun u => wQ D ty (va_A ws sz) (w1 u)) (va_A ws sz)) mc ms (va_A ws sz)
/-- the same with one known end -/
abbrev MV0 (l : Launch) (y : MethodName) (Ts : List Cond) (rm : Room) (av : List Value) (D : va_G) (ty : List (ClassId × FieldType)) (ws : va_W) (w1 : va_W) : Prop := MV (S := Unit) l y Ts rm av D ty ws (fun _ => True) (fun _ => w1) 0 0
abbrev MI0 (l : Launch) (y : MethodName) (Ts : List Cond) (rm : Room) (av : List Value) (D : va_G) (ty : List (ClassId × FieldType)) (ws : va_W) (r : Int32) (w1 : va_W) : Prop := MI (S := Unit) l y Ts rm av D ty ws (fun x _ => x = r) (fun _ => w1) 0 0
abbrev MQ0 (l : Launch) (y : MethodName) (Ts : List Cond) (rm : Room) (av : List Value) (D : va_G) (ty : List (ClassId × FieldType)) (ws : va_W) (r : Option Nat) (w1 : va_W) : Prop := MQq (S := Unit) l y Ts rm av D ty ws (fun x _ => x = r) (fun _ => w1) 0 0
theorem wP_blind {D : va_G} {ty : List (ClassId × FieldType)} {ws : va_W} {sz : Nat} {av : List Value} : FrameBlind (va_Pc av (wP D ty ws sz)) := fun a U g mk q => by
  obtain ⟨q0, q1, qP, qK, qD, qN⟩ := q
  exact ⟨q0, q1, qP, va_K.moved (u := U) (U := U.calling g mk a) (Vm.Alike.refl U.vm) qK, qD, nw.same (u := U) (U := U.calling g mk a) rfl qN⟩
theorem wb_P {D : va_G} {cl : List vw_C} {ws ws' : va_W} {H : Heap} (h : va_P D cl ws H) (is : List Nat) (hs : is.map (fun i => ws[i]?) = ws'.map some) : va_P D cl ws' H := by
  intro k q hk
  have h1 : (is.map (fun i => ws[i]?))[k]? = some (some q) := by rw [hs, List.getElem?_map, hk]; rfl
  rw [List.getElem?_map] at h1
  cases hi : is[k]? with
  | none => rw [hi] at h1; cases h1
  | some i => rw [hi] at h1; exact h i q (Option.some.inj h1)
theorem mt_in {l : Launch} {y : MethodName} {Ts ws' : List Cond} {rm : Room} {cc : ByteArray} {nL : Nat} {ret : Option FieldType} {D : va_G} {ty : List (ClassId × FieldType)} {ws : va_W} {sz : Nat} {av : List Value} {Qc : (Nat → Prop) → Array Value → State → Outcome → State → Prop} {mc ms : Nat}
    (hy : plainName y.cls = true) (hw : Ts = Cond.code y cc nL ret :: ws') (hn : (lg_sl av).length ≤ nL)
    (body : ∀ (p : Program) (e : Env) (s : State) (m : MethodId) (below : List Frame) (meth : Method) (c : Code) (A : Nat → Prop) (ls : Array Slot), p.tables.exec = Jvm.exec → c.code = cc → meth.sig.returnType = ret → (∀ w ∈ Ts, w.before av.toArray s = true) → s.vm.findClass y.cls = some m.cls → c.maxLocals = nL → meth.locks = false → meth.name = y.name → nw s → va_K D vwCl ty s → (∀ q : Nat, s.heap.size ≤ q → A q) → va_P D vwCl ws s.heap → va_D A ws → va_S A s.heap s.heap [] → lv_has ls nL (lv_args 0 av) →
      W p l e rm s m av.toArray below meth c s.heap [] 0 0 (MQ below (Qc A) av.toArray s mc ms A) (F0 m 0 ls [])) :
    Met l y Ts rm (va_Pc av (wP D ty ws sz)) (Qc (va_A ws sz)) mc ms (va_A ws sz) := by
  refine Met.ofW (cc := cc) (maxL := nL) (ret := ret) hy hw ?_
  intro p e s m args below meth c s₁ B hml hv
  obtain ⟨rfl, hsz, hP, hK, hD0, hN⟩ := hv
  rw [lg_entry_eq]
  exact body p e s m below meth c (va_A ws sz) _ B.exec B.bytes B.returns (atoms_spec (ws := Ts) B.pre) (findClass_of_methodNamed B.named) hml B.notSynchronized (name_of_methodNamed B.named B.method).1 hN hK (fun q h => Or.inr (by rw [← hsz]; exact h)) hP (hD0.self (sz := sz)) va_S.rf (lv_entry av hn)
section EX
variable {p : Program} {l : Launch} {e : Env} {R : Room} {s : State} {m : MethodId} {args : Array Value} {below : List Frame} {meth : Method} {c : Code} {H : Heap} {locs : List Loc} {cells slots : Nat} {Q : State → Prop}
variable {cc : ByteArray} {pc : Nat} {ls : Array Slot} {rest : List Value} {D : va_G} {A : Nat → Prop} {ty : List (ClassId × FieldType)} {ws : va_W} {H0 : Heap}
theorem ex_v {S : Type} {post : S → Prop} {w1 : S → va_W} (hx : p.tables.exec = Jvm.exec) (hb : c.code = cc) (hr : meth.sig.returnType = none) (hlocks : meth.locks = false) (hK : va_K D vwCl ty s) (hS : va_S A s.heap H locs) (u : S) (hu : post u) (hP : va_P D vwCl (w1 u) H) (hD : va_D A (w1 u)) (hd : decode cc pc = .ok (.return_, 1)) :
    W p l e R s m args below meth c H locs cells slots (MQ below (va_Qv post (fun u => wQ D ty A (w1 u)) A) args s cells slots A) (F0 m pc ls []) :=
  W.vret hx hb hr (fun t ht hW => ⟨⟨u, rfl, hu, by rw [ht]; exact hP, va_K.moved hW.alike hK, hD⟩, hS.F ht⟩) hS.2.2 hd hlocks
theorem ex_i {S : Type} {post : Int32 → S → Prop} {w1 : S → va_W} {v : Int32} (hx : p.tables.exec = Jvm.exec) (hb : c.code = cc) (hr : meth.sig.returnType = some .int) (hlocks : meth.locks = false) (hK : va_K D vwCl ty s) (hS : va_S A s.heap H locs) (u : S) (hu : post v u) (hP : va_P D vwCl (w1 u) H) (hD : va_D A (w1 u)) (hd : decode cc pc = .ok (.ireturn, 1)) :
    W p l e R s m args below meth c H locs cells slots (MQ below (va_Qi post (fun u => wQ D ty A (w1 u)) A) args s cells slots A) (F0 m pc ls [.int v]) :=
  W.iret hx hb hr (fun t ht hW => ⟨⟨v, u, rfl, hu, by rw [ht]; exact hP, va_K.moved hW.alike hK, hD⟩, hS.F ht⟩) hS.2.2 hd hlocks
theorem ex_z {S : Type} {post : Int32 → S → Prop} {w1 : S → va_W} {v : Int32} (hx : p.tables.exec = Jvm.exec) (hb : c.code = cc) (hr : meth.sig.returnType = some .boolean) (hv : v = 0 ∨ v = 1) (hlocks : meth.locks = false) (hK : va_K D vwCl ty s) (hS : va_S A s.heap H locs) (u : S) (hu : post v u) (hP : va_P D vwCl (w1 u) H) (hD : va_D A (w1 u)) (hd : decode cc pc = .ok (.ireturn, 1)) :
    W p l e R s m args below meth c H locs cells slots (MQ below (va_Qi post (fun u => wQ D ty A (w1 u)) A) args s cells slots A) (F0 m pc ls [.int v]) :=
  W.zret hx hb hr (by rcases hv with rfl | rfl <;> rfl) (fun t ht hW => ⟨⟨v, u, rfl, hu, by rw [ht]; exact hP, va_K.moved hW.alike hK, hD⟩, hS.F ht⟩) hS.2.2 hd hlocks
theorem ex_q {S : Type} {post : Option Nat → S → Prop} {w1 : S → va_W} {v : Option Nat} {nm : String} (hx : p.tables.exec = Jvm.exec) (hb : c.code = cc) (hr : meth.sig.returnType = some (.object nm)) (hlocks : meth.locks = false) (hK : va_K D vwCl ty s) (hS : va_S A s.heap H locs) (u : S) (hu : post v u) (hP : va_P D vwCl (w1 u) H) (hD : va_D A (w1 u)) (hd : decode cc pc = .ok (.areturn, 1)) :
    W p l e R s m args below meth c H locs cells slots (MQ below (va_Qq post (fun u => wQ D ty A (w1 u)) A) args s cells slots A) (F0 m pc ls [va_rf v]) :=
  W.aret hx hb hr (Or.inl ⟨nm, rfl⟩) (va_rf_or v) (fun t ht hW => ⟨⟨v, u, rfl, hu, by rw [ht]; exact hP, va_K.moved hW.alike hK, hD⟩, hS.F ht⟩) hS.2.2 hd hlocks
theorem tp_i {x y : Int32} (h : x = y) (k : W p l e R s m args below meth c H locs cells slots Q (F0 m pc ls (.int y :: rest))) : W p l e R s m args below meth c H locs cells slots Q (F0 m pc ls (.int x :: rest)) := by subst h; exact k
theorem tp_2 {x y : Int32} {z : Value} (h : x = y) (k : W p l e R s m args below meth c H locs cells slots Q (F0 m pc ls (z :: .int y :: rest))) : W p l e R s m args below meth c H locs cells slots Q (F0 m pc ls (z :: .int x :: rest)) := by subst h; exact k
theorem tp_l {x y : Int64} (h : x = y) (k : W p l e R s m args below meth c H locs cells slots Q (F0 m pc ls (.long y :: rest))) : W p l e R s m args below meth c H locs cells slots Q (F0 m pc ls (.long x :: rest)) := by subst h; exact k
/-- an array's element at a known place -/
theorem al_i {a : Nat} (hx : p.tables.exec = Jvm.exec) (hb : c.code = cc) (hK : va_K D vwCl ty s) (hP : va_P D vwCl ws H) (q0 t0 : Nat) {cA : ClassId} {n k : Nat} {f : Nat → Int32} (ha : ws[q0]? = some (a, .inl (cA, n, .inl f))) (ht : ty[t0]? = some (cA, .int)) (hk : k < n) (hn : n < 2 ^ 31) (hdg : decode cc pc = .ok (.iaload, 1))
    (kk : W p l e R s m args below meth c H locs cells slots Q (F0 m (pc + 1) ls (.int (f k) :: rest))) : W p l e R s m args below meth c H locs cells slots Q (F0 m pc ls (.int (nI k) :: .ref a :: rest)) := by
  refine va_iald hx hb hK hP q0 t0 ha ht (vp_in_nI hk hn) hdg ?_
  rw [nI_clamp (by omega)]
  exact kk
theorem as_i {a : Nat} (hx : p.tables.exec = Jvm.exec) (hb : c.code = cc) (hK : va_K D vwCl ty s) (hP : va_P D vwCl ws H) (hD : va_D A ws) (hS : va_S A H0 H locs) (q0 t0 : Nat) {cA : ClassId} {n k : Nat} {f : Nat → Int32} {x : Int32} (ha : ws[q0]? = some (a, .inl (cA, n, .inl f))) (ht : ty[t0]? = some (cA, .int)) (hk : k < n) (hn : n < 2 ^ 31) (hdg : decode cc pc = .ok (.iastore, 1))
    (kk : ∀ (H1 : Heap) (locs1 : List Loc), va_P D vwCl (ws.set q0 (a, .inl (cA, n, .inl (upd f k x)))) H1 → va_D A (ws.set q0 (a, .inl (cA, n, .inl (upd f k x)))) → va_S A H0 H1 locs1 → W p l e R s m args below meth c H1 locs1 cells slots Q (F0 m (pc + 1) ls rest)) : W p l e R s m args below meth c H locs cells slots Q (F0 m pc ls (.int x :: .int (nI k) :: .ref a :: rest)) := by
  refine va_iast hx hb hK hP hD hS q0 t0 ha ht (vp_in_nI hk hn) hdg (fun H1 locs1 h1 h2 h3 => ?_)
  rw [nI_clamp (by omega)] at h1 h2
  exact kk H1 locs1 h1 h2 h3
/-- a new int array: its class is the one that is known -/
theorem nw_i (hx : p.tables.exec = Jvm.exec) (hb : c.code = cc) (harr : (Cond.arrayClass .int).before args s = true) (hK : va_K D vwCl ty s) (t0 : Nat) {cA : ClassId} (ht : ty[t0]? = some (cA, .int)) (hP : va_P D vwCl ws H) (hD : va_D A ws) (hS : va_S A H0 H locs) (hA : ∀ q, H0.size ≤ q → A q) {n : Nat} (hn : n < 2 ^ 27) (hcells : cells + 1 ≤ R.cells) (hslots : slots + n ≤ R.slots) (hdg : decode cc pc = .ok (.newarray .int, 2))
    (kk : ∀ (q : Nat) (H1 : Heap), va_P D vwCl (ws ++ [(q, .inl (cA, n, .inl (fun _ => 0)))]) H1 → va_D A (ws ++ [(q, .inl (cA, n, .inl (fun _ => 0)))]) → va_S A H0 H1 locs → W p l e R s m args below meth c H1 locs (cells + 1) (slots + n) Q (F0 m (pc + 2) ls (.ref q :: rest))) : W p l e R s m args below meth c H locs cells slots Q (F0 m pc ls (.int (nI n) :: rest)) := by
  refine va_newa (atype := .int) (a0 := (n, .inl (fun _ => 0))) hx hb harr (ty := .int) rfl hK hP hD hS hA (fun cA => rfl) (nI_pos (by omega)) (nI_clamp (by omega)) (show n * 4 ≤ 536870912 by omega) hcells hslots hdg (fun q cB H1 hK1 hP1 hD1 hS1 => ?_)
  have e1 : s.vm.findClass ("[" ++ FieldType.int.toString) = some cA := (hK.2 t0 _ ht).2
  have e2 : s.vm.findClass ("[" ++ FieldType.int.toString) = some cB := (hK1.2 ty.length (cB, .int) (by simp)).2
  have e3 : cB = cA := Option.some.inj (e2.symm.trans e1)
  subst e3
  exact kk q H1 hP1 hD1 hS1
end EX
theorem mt_v {l : Launch} {y : MethodName} {Ts ws' : List Cond} {rm : Room} {cc : ByteArray} {nL : Nat} {D : va_G} {ty : List (ClassId × FieldType)} {ws : va_W} {av : List Value} {mc ms : Nat} {S : Type} {post : S → Prop} {w1 : S → va_W}
    (hy : plainName y.cls = true) (hw : Ts = Cond.code y cc nL none :: ws') (hn : (lg_sl av).length ≤ nL) 
    (body : ∀ (p : Program) (e : Env) (s : State) (m : MethodId) (below : List Frame) (meth : Method) (c : Code) (A : Nat → Prop) (ls : Array Slot) (Q : State → Prop), p.tables.exec = Jvm.exec → c.code = cc → (∀ w ∈ Ts, w.before av.toArray s = true) → s.vm.findClass y.cls = some m.cls → c.maxLocals = nL → meth.name = y.name → nw s → va_K D vwCl ty s → (∀ q : Nat, s.heap.size ≤ q → A q) → va_P D vwCl ws s.heap → va_D A ws → va_S A s.heap s.heap [] → lv_has ls nL (lv_args 0 av) → (∀ (H : Heap) (locs : List Loc) (ls : Array Slot) (pc : Nat) (u : S), va_S A s.heap H locs → post u → va_P D vwCl (w1 u) H → va_D A (w1 u) → decode cc pc = .ok (.return_, 1) → W p l e rm s m av.toArray below meth c H locs mc ms Q (F0 m pc ls [])) →
      W p l e rm s m av.toArray below meth c s.heap [] 0 0 Q (F0 m 0 ls [])) : MV l y Ts rm av D ty ws post w1 mc ms := by
  intro sz
  refine mt_in (Qc := fun A => va_Qv post (fun u => wQ D ty A (w1 u)) A) hy hw hn ?_
  intro p e s m below meth c A ls hx hb hr hts hown hml hlocks hin hN hK hA hP hD hS hl
  exact body p e s m below meth c A ls _ hx hb hts hown hml hin hN hK hA hP hD hS hl (fun H locs ls pc u h1 h2 h3 h4 h5 => ex_v hx hb hr hlocks hK h1 u h2 h3 h4 h5)
theorem mt_i {l : Launch} {y : MethodName} {Ts ws' : List Cond} {rm : Room} {cc : ByteArray} {nL : Nat} {D : va_G} {ty : List (ClassId × FieldType)} {ws : va_W} {av : List Value} {mc ms : Nat} {S : Type} {post : Int32 → S → Prop} {w1 : S → va_W}
    (hy : plainName y.cls = true) (hw : Ts = Cond.code y cc nL (some .int) :: ws') (hn : (lg_sl av).length ≤ nL) 
    (body : ∀ (p : Program) (e : Env) (s : State) (m : MethodId) (below : List Frame) (meth : Method) (c : Code) (A : Nat → Prop) (ls : Array Slot) (Q : State → Prop), p.tables.exec = Jvm.exec → c.code = cc → (∀ w ∈ Ts, w.before av.toArray s = true) → s.vm.findClass y.cls = some m.cls → c.maxLocals = nL → meth.name = y.name → nw s → va_K D vwCl ty s → (∀ q : Nat, s.heap.size ≤ q → A q) → va_P D vwCl ws s.heap → va_D A ws → va_S A s.heap s.heap [] → lv_has ls nL (lv_args 0 av) → (∀ (H : Heap) (locs : List Loc) (ls : Array Slot) (pc : Nat) (v : Int32) (u : S), va_S A s.heap H locs → post v u → va_P D vwCl (w1 u) H → va_D A (w1 u) → decode cc pc = .ok (.ireturn, 1) → W p l e rm s m av.toArray below meth c H locs mc ms Q (F0 m pc ls [.int v])) →
      W p l e rm s m av.toArray below meth c s.heap [] 0 0 Q (F0 m 0 ls [])) : MI l y Ts rm av D ty ws post w1 mc ms := by
  intro sz
  refine mt_in (Qc := fun A => va_Qi post (fun u => wQ D ty A (w1 u)) A) hy hw hn ?_
  intro p e s m below meth c A ls hx hb hr hts hown hml hlocks hin hN hK hA hP hD hS hl
  exact body p e s m below meth c A ls _ hx hb hts hown hml hin hN hK hA hP hD hS hl (fun H locs ls pc v u h1 h2 h3 h4 h5 => ex_i hx hb hr hlocks hK h1 u h2 h3 h4 h5)
theorem mt_z {l : Launch} {y : MethodName} {Ts ws' : List Cond} {rm : Room} {cc : ByteArray} {nL : Nat} {D : va_G} {ty : List (ClassId × FieldType)} {ws : va_W} {av : List Value} {mc ms : Nat} {S : Type} {post : Int32 → S → Prop} {w1 : S → va_W}
    (hy : plainName y.cls = true) (hw : Ts = Cond.code y cc nL (some .boolean) :: ws') (hn : (lg_sl av).length ≤ nL) (hz : ∀ v u, post v u → v = 0 ∨ v = 1) 
    (body : ∀ (p : Program) (e : Env) (s : State) (m : MethodId) (below : List Frame) (meth : Method) (c : Code) (A : Nat → Prop) (ls : Array Slot) (Q : State → Prop), p.tables.exec = Jvm.exec → c.code = cc → (∀ w ∈ Ts, w.before av.toArray s = true) → s.vm.findClass y.cls = some m.cls → c.maxLocals = nL → meth.name = y.name → nw s → va_K D vwCl ty s → (∀ q : Nat, s.heap.size ≤ q → A q) → va_P D vwCl ws s.heap → va_D A ws → va_S A s.heap s.heap [] → lv_has ls nL (lv_args 0 av) → (∀ (H : Heap) (locs : List Loc) (ls : Array Slot) (pc : Nat) (v : Int32) (u : S), va_S A s.heap H locs → post v u → va_P D vwCl (w1 u) H → va_D A (w1 u) → decode cc pc = .ok (.ireturn, 1) → W p l e rm s m av.toArray below meth c H locs mc ms Q (F0 m pc ls [.int v])) →
      W p l e rm s m av.toArray below meth c s.heap [] 0 0 Q (F0 m 0 ls [])) : MI l y Ts rm av D ty ws post w1 mc ms := by
  intro sz
  refine mt_in (Qc := fun A => va_Qi post (fun u => wQ D ty A (w1 u)) A) hy hw hn ?_
  intro p e s m below meth c A ls hx hb hr hts hown hml hlocks hin hN hK hA hP hD hS hl
  exact body p e s m below meth c A ls _ hx hb hts hown hml hin hN hK hA hP hD hS hl (fun H locs ls pc v u h1 h2 h3 h4 h5 => ex_z hx hb hr (hz v u h2) hlocks hK h1 u h2 h3 h4 h5)
theorem mt_q {l : Launch} {y : MethodName} {Ts ws' : List Cond} {rm : Room} {cc : ByteArray} {nL : Nat} {nm : String} {D : va_G} {ty : List (ClassId × FieldType)} {ws : va_W} {av : List Value} {mc ms : Nat} {S : Type} {post : Option Nat → S → Prop} {w1 : S → va_W}
    (hy : plainName y.cls = true) (hw : Ts = Cond.code y cc nL (some (.object nm)) :: ws') (hn : (lg_sl av).length ≤ nL) 
    (body : ∀ (p : Program) (e : Env) (s : State) (m : MethodId) (below : List Frame) (meth : Method) (c : Code) (A : Nat → Prop) (ls : Array Slot) (Q : State → Prop), p.tables.exec = Jvm.exec → c.code = cc → (∀ w ∈ Ts, w.before av.toArray s = true) → s.vm.findClass y.cls = some m.cls → c.maxLocals = nL → meth.name = y.name → nw s → va_K D vwCl ty s → (∀ q : Nat, s.heap.size ≤ q → A q) → va_P D vwCl ws s.heap → va_D A ws → va_S A s.heap s.heap [] → lv_has ls nL (lv_args 0 av) → (∀ (H : Heap) (locs : List Loc) (ls : Array Slot) (pc : Nat) (v : Option Nat) (u : S), va_S A s.heap H locs → post v u → va_P D vwCl (w1 u) H → va_D A (w1 u) → decode cc pc = .ok (.areturn, 1) → W p l e rm s m av.toArray below meth c H locs mc ms Q (F0 m pc ls [va_rf v])) →
      W p l e rm s m av.toArray below meth c s.heap [] 0 0 Q (F0 m 0 ls [])) : MQq l y Ts rm av D ty ws post w1 mc ms := by
  intro sz
  refine mt_in (Qc := fun A => va_Qq post (fun u => wQ D ty A (w1 u)) A) hy hw hn ?_
  intro p e s m below meth c A ls hx hb hr hts hown hml hlocks hin hN hK hA hP hD hS hl
  exact body p e s m below meth c A ls _ hx hb hts hown hml hin hN hK hA hP hD hS hl (fun H locs ls pc v u h1 h2 h3 h4 h5 => ex_q hx hb hr hlocks hK h1 u h2 h3 h4 h5)
section CL
variable {p : Program} {l : Launch} {e : Env} {R : Room} {s : State} {m : MethodId} {args : Array Value} {below : List Frame} {meth : Method} {c : Code} {H : Heap} {locs : List Loc} {cells slots : Nat} {Q : State → Prop}
variable {cc : ByteArray} {pc : Nat} {ls : Array Slot} {st0 : List Value} {D : va_G} {A : Nat → Prop} {tyc : List (ClassId × FieldType)} {ws wc : va_W} {H0 : Heap} {mc ms n nL maxL index : Nat} {y : MethodName} {bytes : ByteArray} {ret : Option FieldType} {wsc Ts : List Cond} {rm : Room} {own C : String} {b : Nat} {As : List Value} {S : Type} {w1 : S → va_W}
theorem cl_vv {post : S → Prop} (F : CallFix p m c cc nL s args Ts own) (hM : MV l y wsc rm (.ref b :: As) D tyc wc post w1 mc ms) (cw : CallW R s args own C index y bytes maxL ret wsc rm mc ms n) {ci q0 N : Nat} {T : u_T} {fs : List Value} (hc : vwCl[ci]? = some (C, T, N)) (hq : wc[q0]? = some (b, .inr (ci, fs))) (hN : nw s) (hK : va_K D vwCl tyc s) (hP : va_P D vwCl ws H) (hD : va_D A ws) (hS : va_S A H0 H locs) (hA : ∀ q, H0.size ≤ q → A q) (isC isR isB : List Nat) (wr : va_W) (w2 : S → va_W) (rest : List Value) (hC : isC.map (fun i => ws[i]?) = wc.map some) (hnc : va_nd isC = true) (hR : isR.map (fun i => ws[i]?) = wr.map some) (hn : va_nd isR = true) (hdis : ∀ i ∈ isR, i ∉ isC) (hB : ∀ u, isB.map (fun i => (wr ++ w1 u)[i]?) = (w2 u).map some) (hnb : va_nd isB = true)
    (hlen : As.length = n) (hls : ls.size = nL) (hst : st0 = As.reverse ++ .ref b :: rest) (hroom : (rest.map fun v => v.category).sum ≤ 8) (hdg : decode cc pc = .ok (.invokevirtual index, 3)) (hf : cells + mc ≤ R.cells ∧ slots + ms ≤ R.slots)
    (kk : ∀ (u : S) (H1 : Heap) (locs1 : List Loc), post u → va_P D vwCl (w2 u) H1 → va_D A (w2 u) → va_S A H0 H1 locs1 → W p l e R s m args below meth c H1 locs1 (cells + mc) (slots + ms) Q (F0 m (pc + 3) ls rest)) : W p l e R s m args below meth c H locs cells slots Q (F0 m pc ls st0) := by
  have hPc : va_P D vwCl wc H := wb_P hP isC hC
  have hDc := hD.sub isC hnc hC
  have hFc := va_free (wc := wc) hD hS hA isC hC
  refine va_callv (va_runV (As := As) (rest := rest) F (hM H.size) cw ⟨wP_blind, va_recv hK hPc hc hq, fun U hU hW => ⟨rfl, by rw [hU], by rw [hU]; exact hPc, va_K.moved hW.alike hK, hDc.weaken (fun _ _ _ _ => trivial), nw.warm hW hN⟩⟩ rfl hlen hls hst (lv_room hroom) hdg hf) hS (fun q _ h => hFc q h) hFc (fun u t H1 locs1 ht hvm hw hB1 hz1 hk1 hS1 => ?_)
  obtain ⟨hP1, hK1, hD1⟩ := hB1
  rw [ht] at hP1
  obtain ⟨hP2, hD2⟩ := va_join hP hD isC isR hC hR hn hdis hk1 hFc hP1 hD1
  exact kk u H1 locs1 hw (wb_P hP2 isB (hB u)) (hD2.sub isB hnb (hB u)) hS1
theorem cl_vi {post : Int32 → S → Prop} (F : CallFix p m c cc nL s args Ts own) (hM : MI l y wsc rm (.ref b :: As) D tyc wc post w1 mc ms) (cw : CallW R s args own C index y bytes maxL ret wsc rm mc ms n) {ci q0 N : Nat} {T : u_T} {fs : List Value} (hc : vwCl[ci]? = some (C, T, N)) (hq : wc[q0]? = some (b, .inr (ci, fs))) (hN : nw s) (hK : va_K D vwCl tyc s) (hP : va_P D vwCl ws H) (hD : va_D A ws) (hS : va_S A H0 H locs) (hA : ∀ q, H0.size ≤ q → A q) (isC isR isB : List Nat) (wr : va_W) (w2 : S → va_W) (rest : List Value) (hC : isC.map (fun i => ws[i]?) = wc.map some) (hnc : va_nd isC = true) (hR : isR.map (fun i => ws[i]?) = wr.map some) (hn : va_nd isR = true) (hdis : ∀ i ∈ isR, i ∉ isC) (hB : ∀ u, isB.map (fun i => (wr ++ w1 u)[i]?) = (w2 u).map some) (hnb : va_nd isB = true)
    (hlen : As.length = n) (hls : ls.size = nL) (hst : st0 = As.reverse ++ .ref b :: rest) (hroom : (rest.map fun v => v.category).sum ≤ 8) (hdg : decode cc pc = .ok (.invokevirtual index, 3)) (hf : cells + mc ≤ R.cells ∧ slots + ms ≤ R.slots)
    (kk : ∀ (r : Int32) (u : S) (H1 : Heap) (locs1 : List Loc), post r u → va_P D vwCl (w2 u) H1 → va_D A (w2 u) → va_S A H0 H1 locs1 → W p l e R s m args below meth c H1 locs1 (cells + mc) (slots + ms) Q (F0 m (pc + 3) ls (.int r :: rest))) : W p l e R s m args below meth c H locs cells slots Q (F0 m pc ls st0) := by
  have hPc : va_P D vwCl wc H := wb_P hP isC hC
  have hDc := hD.sub isC hnc hC
  have hFc := va_free (wc := wc) hD hS hA isC hC
  refine va_calli (va_runV (As := As) (rest := rest) F (hM H.size) cw ⟨wP_blind, va_recv hK hPc hc hq, fun U hU hW => ⟨rfl, by rw [hU], by rw [hU]; exact hPc, va_K.moved hW.alike hK, hDc.weaken (fun _ _ _ _ => trivial), nw.warm hW hN⟩⟩ rfl hlen hls hst (lv_room hroom) hdg hf) hS (fun q _ h => hFc q h) hFc (fun r u t H1 locs1 ht hvm hw hB1 hz1 hk1 hS1 => ?_)
  obtain ⟨hP1, hK1, hD1⟩ := hB1
  rw [ht] at hP1
  obtain ⟨hP2, hD2⟩ := va_join hP hD isC isR hC hR hn hdis hk1 hFc hP1 hD1
  exact kk r u H1 locs1 hw (wb_P hP2 isB (hB u)) (hD2.sub isB hnb (hB u)) hS1
theorem cl_vq {post : Option Nat → S → Prop} (F : CallFix p m c cc nL s args Ts own) (hM : MQq l y wsc rm (.ref b :: As) D tyc wc post w1 mc ms) (cw : CallW R s args own C index y bytes maxL ret wsc rm mc ms n) {ci q0 N : Nat} {T : u_T} {fs : List Value} (hc : vwCl[ci]? = some (C, T, N)) (hq : wc[q0]? = some (b, .inr (ci, fs))) (hN : nw s) (hK : va_K D vwCl tyc s) (hP : va_P D vwCl ws H) (hD : va_D A ws) (hS : va_S A H0 H locs) (hA : ∀ q, H0.size ≤ q → A q) (isC isR isB : List Nat) (wr : va_W) (w2 : S → va_W) (rest : List Value) (hC : isC.map (fun i => ws[i]?) = wc.map some) (hnc : va_nd isC = true) (hR : isR.map (fun i => ws[i]?) = wr.map some) (hn : va_nd isR = true) (hdis : ∀ i ∈ isR, i ∉ isC) (hB : ∀ u, isB.map (fun i => (wr ++ w1 u)[i]?) = (w2 u).map some) (hnb : va_nd isB = true)
    (hlen : As.length = n) (hls : ls.size = nL) (hst : st0 = As.reverse ++ .ref b :: rest) (hroom : (rest.map fun v => v.category).sum ≤ 8) (hdg : decode cc pc = .ok (.invokevirtual index, 3)) (hf : cells + mc ≤ R.cells ∧ slots + ms ≤ R.slots)
    (kk : ∀ (r : Option Nat) (u : S) (H1 : Heap) (locs1 : List Loc), post r u → va_P D vwCl (w2 u) H1 → va_D A (w2 u) → va_S A H0 H1 locs1 → W p l e R s m args below meth c H1 locs1 (cells + mc) (slots + ms) Q (F0 m (pc + 3) ls (va_rf r :: rest))) : W p l e R s m args below meth c H locs cells slots Q (F0 m pc ls st0) := by
  have hPc : va_P D vwCl wc H := wb_P hP isC hC
  have hDc := hD.sub isC hnc hC
  have hFc := va_free (wc := wc) hD hS hA isC hC
  refine va_callq (va_runV (As := As) (rest := rest) F (hM H.size) cw ⟨wP_blind, va_recv hK hPc hc hq, fun U hU hW => ⟨rfl, by rw [hU], by rw [hU]; exact hPc, va_K.moved hW.alike hK, hDc.weaken (fun _ _ _ _ => trivial), nw.warm hW hN⟩⟩ rfl hlen hls hst (lv_room hroom) hdg hf) hS (fun q _ h => hFc q h) hFc (fun r u t H1 locs1 ht hvm hw hB1 hz1 hk1 hS1 => ?_)
  obtain ⟨hP1, hK1, hD1⟩ := hB1
  rw [ht] at hP1
  obtain ⟨hP2, hD2⟩ := va_join hP hD isC isR hC hR hn hdis hk1 hFc hP1 hD1
  exact kk r u H1 locs1 hw (wb_P hP2 isB (hB u)) (hD2.sub isB hnb (hB u)) hS1
theorem cl_sv {post : S → Prop} (F : CallFix p m c cc nL s args Ts own) (hM : MV l y wsc rm As D tyc wc post w1 mc ms) (cw : CallB R s args own index y bytes maxL ret wsc rm mc ms n ∧ (Cond.static y).before args s = true) (hN : nw s) (hK : va_K D vwCl tyc s) (hP : va_P D vwCl ws H) (hD : va_D A ws) (hS : va_S A H0 H locs) (hA : ∀ q, H0.size ≤ q → A q) (isC isR isB : List Nat) (wr : va_W) (w2 : S → va_W) (rest : List Value) (hC : isC.map (fun i => ws[i]?) = wc.map some) (hnc : va_nd isC = true) (hR : isR.map (fun i => ws[i]?) = wr.map some) (hn : va_nd isR = true) (hdis : ∀ i ∈ isR, i ∉ isC) (hB : ∀ u, isB.map (fun i => (wr ++ w1 u)[i]?) = (w2 u).map some) (hnb : va_nd isB = true)
    (hlen : As.length = n) (hls : ls.size = nL) (hst : st0 = As.reverse ++ rest) (hroom : (rest.map fun v => v.category).sum ≤ 8) (hdg : decode cc pc = .ok (.invokestatic index, 3)) (hf : cells + mc ≤ R.cells ∧ slots + ms ≤ R.slots)
    (kk : ∀ (u : S) (H1 : Heap) (locs1 : List Loc), post u → va_P D vwCl (w2 u) H1 → va_D A (w2 u) → va_S A H0 H1 locs1 → W p l e R s m args below meth c H1 locs1 (cells + mc) (slots + ms) Q (F0 m (pc + 3) ls rest)) : W p l e R s m args below meth c H locs cells slots Q (F0 m pc ls st0) := by
  have hPc : va_P D vwCl wc H := wb_P hP isC hC
  have hDc := hD.sub isC hnc hC
  have hFc := va_free (wc := wc) hD hS hA isC hC
  refine va_callv (va_runS (As := As) (rest := rest) F (hM H.size) cw ⟨wP_blind, fun U hU hW => ⟨rfl, by rw [hU], by rw [hU]; exact hPc, va_K.moved hW.alike hK, hDc.weaken (fun _ _ _ _ => trivial), nw.warm hW hN⟩⟩ rfl hlen hls hst (lv_room hroom) hdg hf) hS (fun q _ h => hFc q h) hFc (fun u t H1 locs1 ht hvm hw hB1 hz1 hk1 hS1 => ?_)
  obtain ⟨hP1, hK1, hD1⟩ := hB1
  rw [ht] at hP1
  obtain ⟨hP2, hD2⟩ := va_join hP hD isC isR hC hR hn hdis hk1 hFc hP1 hD1
  exact kk u H1 locs1 hw (wb_P hP2 isB (hB u)) (hD2.sub isB hnb (hB u)) hS1
theorem cl_si {post : Int32 → S → Prop} (F : CallFix p m c cc nL s args Ts own) (hM : MI l y wsc rm As D tyc wc post w1 mc ms) (cw : CallB R s args own index y bytes maxL ret wsc rm mc ms n ∧ (Cond.static y).before args s = true) (hN : nw s) (hK : va_K D vwCl tyc s) (hP : va_P D vwCl ws H) (hD : va_D A ws) (hS : va_S A H0 H locs) (hA : ∀ q, H0.size ≤ q → A q) (isC isR isB : List Nat) (wr : va_W) (w2 : S → va_W) (rest : List Value) (hC : isC.map (fun i => ws[i]?) = wc.map some) (hnc : va_nd isC = true) (hR : isR.map (fun i => ws[i]?) = wr.map some) (hn : va_nd isR = true) (hdis : ∀ i ∈ isR, i ∉ isC) (hB : ∀ u, isB.map (fun i => (wr ++ w1 u)[i]?) = (w2 u).map some) (hnb : va_nd isB = true)
    (hlen : As.length = n) (hls : ls.size = nL) (hst : st0 = As.reverse ++ rest) (hroom : (rest.map fun v => v.category).sum ≤ 8) (hdg : decode cc pc = .ok (.invokestatic index, 3)) (hf : cells + mc ≤ R.cells ∧ slots + ms ≤ R.slots)
    (kk : ∀ (r : Int32) (u : S) (H1 : Heap) (locs1 : List Loc), post r u → va_P D vwCl (w2 u) H1 → va_D A (w2 u) → va_S A H0 H1 locs1 → W p l e R s m args below meth c H1 locs1 (cells + mc) (slots + ms) Q (F0 m (pc + 3) ls (.int r :: rest))) : W p l e R s m args below meth c H locs cells slots Q (F0 m pc ls st0) := by
  have hPc : va_P D vwCl wc H := wb_P hP isC hC
  have hDc := hD.sub isC hnc hC
  have hFc := va_free (wc := wc) hD hS hA isC hC
  refine va_calli (va_runS (As := As) (rest := rest) F (hM H.size) cw ⟨wP_blind, fun U hU hW => ⟨rfl, by rw [hU], by rw [hU]; exact hPc, va_K.moved hW.alike hK, hDc.weaken (fun _ _ _ _ => trivial), nw.warm hW hN⟩⟩ rfl hlen hls hst (lv_room hroom) hdg hf) hS (fun q _ h => hFc q h) hFc (fun r u t H1 locs1 ht hvm hw hB1 hz1 hk1 hS1 => ?_)
  obtain ⟨hP1, hK1, hD1⟩ := hB1
  rw [ht] at hP1
  obtain ⟨hP2, hD2⟩ := va_join hP hD isC isR hC hR hn hdis hk1 hFc hP1 hD1
  exact kk r u H1 locs1 hw (wb_P hP2 isB (hB u)) (hD2.sub isB hnb (hB u)) hS1
theorem cl_iv {post : S → Prop} (F : CallFix p m c cc nL s args Ts own) (hM : MV l y wsc rm (.ref b :: As) D tyc wc post w1 mc ms) (cw : CallB R s args own index y bytes maxL none wsc rm mc ms n ∧ y.name = "<init>" ∧ (Cond.instanceMethod y).before args s = true) (hN : nw s) (hK : va_K D vwCl tyc s) (hP : va_P D vwCl ws H) (hD : va_D A ws) (hS : va_S A H0 H locs) (hA : ∀ q, H0.size ≤ q → A q) (isC isR isB : List Nat) (wr : va_W) (w2 : S → va_W) (rest : List Value) (hC : isC.map (fun i => ws[i]?) = wc.map some) (hnc : va_nd isC = true) (hR : isR.map (fun i => ws[i]?) = wr.map some) (hn : va_nd isR = true) (hdis : ∀ i ∈ isR, i ∉ isC) (hB : ∀ u, isB.map (fun i => (wr ++ w1 u)[i]?) = (w2 u).map some) (hnb : va_nd isB = true)
    (hlen : As.length = n) (hls : ls.size = nL) (hst : st0 = As.reverse ++ .ref b :: rest) (hroom : (rest.map fun v => v.category).sum ≤ 8) (hdg : decode cc pc = .ok (.invokespecial index, 3)) (hf : cells + mc ≤ R.cells ∧ slots + ms ≤ R.slots)
    (kk : ∀ (u : S) (H1 : Heap) (locs1 : List Loc), post u → va_P D vwCl (w2 u) H1 → va_D A (w2 u) → va_S A H0 H1 locs1 → W p l e R s m args below meth c H1 locs1 (cells + mc) (slots + ms) Q (F0 m (pc + 3) ls rest)) : W p l e R s m args below meth c H locs cells slots Q (F0 m pc ls st0) := by
  have hPc : va_P D vwCl wc H := wb_P hP isC hC
  have hDc := hD.sub isC hnc hC
  have hFc := va_free (wc := wc) hD hS hA isC hC
  refine va_callv (va_runI (As := As) (rest := rest) F (hM H.size) cw ⟨wP_blind, fun U hU hW => ⟨rfl, by rw [hU], by rw [hU]; exact hPc, va_K.moved hW.alike hK, hDc.weaken (fun _ _ _ _ => trivial), nw.warm hW hN⟩⟩ rfl hlen hls hst (lv_room hroom) hdg hf) hS (fun q _ h => hFc q h) hFc (fun u t H1 locs1 ht hvm hw hB1 hz1 hk1 hS1 => ?_)
  obtain ⟨hP1, hK1, hD1⟩ := hB1
  rw [ht] at hP1
  obtain ⟨hP2, hD2⟩ := va_join hP hD isC isR hC hR hn hdis hk1 hFc hP1 hD1
  exact kk u H1 locs1 hw (wb_P hP2 isB (hB u)) (hD2.sub isB hnb (hB u)) hS1
theorem cl0_vv {w0 : va_W} (F : CallFix p m c cc nL s args Ts own) (hM : MV0 l y wsc rm (.ref b :: As) D tyc wc w0) (cw : CallW R s args own C index y bytes maxL ret wsc rm 0 0 n) {ci q0 N : Nat} {T : u_T} {fs : List Value} (hc : vwCl[ci]? = some (C, T, N)) (hq : wc[q0]? = some (b, .inr (ci, fs))) (hN : nw s) (hK : va_K D vwCl tyc s) (hP : va_P D vwCl ws H) (hD : va_D A ws) (hS : va_S A H0 H locs) (hA : ∀ q, H0.size ≤ q → A q) (isC isR isB : List Nat) (wr : va_W) (w2 : va_W) (rest : List Value) (hC : isC.map (fun i => ws[i]?) = wc.map some) (hnc : va_nd isC = true) (hR : isR.map (fun i => ws[i]?) = wr.map some) (hn : va_nd isR = true) (hdis : ∀ i ∈ isR, i ∉ isC) (hB : isB.map (fun i => (wr ++ w0)[i]?) = w2.map some) (hnb : va_nd isB = true)
    (hlen : As.length = n) (hls : ls.size = nL) (hst : st0 = As.reverse ++ .ref b :: rest) (hroom : (rest.map fun v => v.category).sum ≤ 8) (hdg : decode cc pc = .ok (.invokevirtual index, 3)) (hf : cells ≤ R.cells ∧ slots ≤ R.slots)
    (kk : ∀ (H1 : Heap) (locs1 : List Loc), va_P D vwCl w2 H1 → va_D A w2 → va_S A H0 H1 locs1 → W p l e R s m args below meth c H1 locs1 cells slots Q (F0 m (pc + 3) ls rest)) : W p l e R s m args below meth c H locs cells slots Q (F0 m pc ls st0) :=
  cl_vv F hM cw hc hq hN hK hP hD hS hA isC isR isB wr (fun _ => w2) rest hC hnc hR hn hdis (fun _ => hB) hnb hlen hls hst hroom hdg hf (fun _ H1 locs1 _ a b c => kk H1 locs1 a b c)
theorem cl0_vi {r : Int32} {w0 : va_W} (F : CallFix p m c cc nL s args Ts own) (hM : MI0 l y wsc rm (.ref b :: As) D tyc wc r w0) (cw : CallW R s args own C index y bytes maxL ret wsc rm 0 0 n) {ci q0 N : Nat} {T : u_T} {fs : List Value} (hc : vwCl[ci]? = some (C, T, N)) (hq : wc[q0]? = some (b, .inr (ci, fs))) (hN : nw s) (hK : va_K D vwCl tyc s) (hP : va_P D vwCl ws H) (hD : va_D A ws) (hS : va_S A H0 H locs) (hA : ∀ q, H0.size ≤ q → A q) (isC isR isB : List Nat) (wr : va_W) (w2 : va_W) (rest : List Value) (hC : isC.map (fun i => ws[i]?) = wc.map some) (hnc : va_nd isC = true) (hR : isR.map (fun i => ws[i]?) = wr.map some) (hn : va_nd isR = true) (hdis : ∀ i ∈ isR, i ∉ isC) (hB : isB.map (fun i => (wr ++ w0)[i]?) = w2.map some) (hnb : va_nd isB = true)
    (hlen : As.length = n) (hls : ls.size = nL) (hst : st0 = As.reverse ++ .ref b :: rest) (hroom : (rest.map fun v => v.category).sum ≤ 8) (hdg : decode cc pc = .ok (.invokevirtual index, 3)) (hf : cells ≤ R.cells ∧ slots ≤ R.slots)
    (kk : ∀ (H1 : Heap) (locs1 : List Loc), va_P D vwCl w2 H1 → va_D A w2 → va_S A H0 H1 locs1 → W p l e R s m args below meth c H1 locs1 cells slots Q (F0 m (pc + 3) ls (.int r :: rest))) : W p l e R s m args below meth c H locs cells slots Q (F0 m pc ls st0) :=
  cl_vi F hM cw hc hq hN hK hP hD hS hA isC isR isB wr (fun _ => w2) rest hC hnc hR hn hdis (fun _ => hB) hnb hlen hls hst hroom hdg hf (fun _ _ H1 locs1 h a b c => by subst h; exact kk H1 locs1 a b c)
theorem cl0_vq {r : Option Nat} {w0 : va_W} (F : CallFix p m c cc nL s args Ts own) (hM : MQ0 l y wsc rm (.ref b :: As) D tyc wc r w0) (cw : CallW R s args own C index y bytes maxL ret wsc rm 0 0 n) {ci q0 N : Nat} {T : u_T} {fs : List Value} (hc : vwCl[ci]? = some (C, T, N)) (hq : wc[q0]? = some (b, .inr (ci, fs))) (hN : nw s) (hK : va_K D vwCl tyc s) (hP : va_P D vwCl ws H) (hD : va_D A ws) (hS : va_S A H0 H locs) (hA : ∀ q, H0.size ≤ q → A q) (isC isR isB : List Nat) (wr : va_W) (w2 : va_W) (rest : List Value) (hC : isC.map (fun i => ws[i]?) = wc.map some) (hnc : va_nd isC = true) (hR : isR.map (fun i => ws[i]?) = wr.map some) (hn : va_nd isR = true) (hdis : ∀ i ∈ isR, i ∉ isC) (hB : isB.map (fun i => (wr ++ w0)[i]?) = w2.map some) (hnb : va_nd isB = true)
    (hlen : As.length = n) (hls : ls.size = nL) (hst : st0 = As.reverse ++ .ref b :: rest) (hroom : (rest.map fun v => v.category).sum ≤ 8) (hdg : decode cc pc = .ok (.invokevirtual index, 3)) (hf : cells ≤ R.cells ∧ slots ≤ R.slots)
    (kk : ∀ (H1 : Heap) (locs1 : List Loc), va_P D vwCl w2 H1 → va_D A w2 → va_S A H0 H1 locs1 → W p l e R s m args below meth c H1 locs1 cells slots Q (F0 m (pc + 3) ls (va_rf r :: rest))) : W p l e R s m args below meth c H locs cells slots Q (F0 m pc ls st0) :=
  cl_vq F hM cw hc hq hN hK hP hD hS hA isC isR isB wr (fun _ => w2) rest hC hnc hR hn hdis (fun _ => hB) hnb hlen hls hst hroom hdg hf (fun _ _ H1 locs1 h a b c => by subst h; exact kk H1 locs1 a b c)
theorem cl0_sv {w0 : va_W} (F : CallFix p m c cc nL s args Ts own) (hM : MV0 l y wsc rm As D tyc wc w0) (cw : CallB R s args own index y bytes maxL ret wsc rm 0 0 n ∧ (Cond.static y).before args s = true) (hN : nw s) (hK : va_K D vwCl tyc s) (hP : va_P D vwCl ws H) (hD : va_D A ws) (hS : va_S A H0 H locs) (hA : ∀ q, H0.size ≤ q → A q) (isC isR isB : List Nat) (wr : va_W) (w2 : va_W) (rest : List Value) (hC : isC.map (fun i => ws[i]?) = wc.map some) (hnc : va_nd isC = true) (hR : isR.map (fun i => ws[i]?) = wr.map some) (hn : va_nd isR = true) (hdis : ∀ i ∈ isR, i ∉ isC) (hB : isB.map (fun i => (wr ++ w0)[i]?) = w2.map some) (hnb : va_nd isB = true)
    (hlen : As.length = n) (hls : ls.size = nL) (hst : st0 = As.reverse ++ rest) (hroom : (rest.map fun v => v.category).sum ≤ 8) (hdg : decode cc pc = .ok (.invokestatic index, 3)) (hf : cells ≤ R.cells ∧ slots ≤ R.slots)
    (kk : ∀ (H1 : Heap) (locs1 : List Loc), va_P D vwCl w2 H1 → va_D A w2 → va_S A H0 H1 locs1 → W p l e R s m args below meth c H1 locs1 cells slots Q (F0 m (pc + 3) ls rest)) : W p l e R s m args below meth c H locs cells slots Q (F0 m pc ls st0) :=
  cl_sv F hM cw hN hK hP hD hS hA isC isR isB wr (fun _ => w2) rest hC hnc hR hn hdis (fun _ => hB) hnb hlen hls hst hroom hdg hf (fun _ H1 locs1 _ a b c => kk H1 locs1 a b c)
theorem cl0_si {r : Int32} {w0 : va_W} (F : CallFix p m c cc nL s args Ts own) (hM : MI0 l y wsc rm As D tyc wc r w0) (cw : CallB R s args own index y bytes maxL ret wsc rm 0 0 n ∧ (Cond.static y).before args s = true) (hN : nw s) (hK : va_K D vwCl tyc s) (hP : va_P D vwCl ws H) (hD : va_D A ws) (hS : va_S A H0 H locs) (hA : ∀ q, H0.size ≤ q → A q) (isC isR isB : List Nat) (wr : va_W) (w2 : va_W) (rest : List Value) (hC : isC.map (fun i => ws[i]?) = wc.map some) (hnc : va_nd isC = true) (hR : isR.map (fun i => ws[i]?) = wr.map some) (hn : va_nd isR = true) (hdis : ∀ i ∈ isR, i ∉ isC) (hB : isB.map (fun i => (wr ++ w0)[i]?) = w2.map some) (hnb : va_nd isB = true)
    (hlen : As.length = n) (hls : ls.size = nL) (hst : st0 = As.reverse ++ rest) (hroom : (rest.map fun v => v.category).sum ≤ 8) (hdg : decode cc pc = .ok (.invokestatic index, 3)) (hf : cells ≤ R.cells ∧ slots ≤ R.slots)
    (kk : ∀ (H1 : Heap) (locs1 : List Loc), va_P D vwCl w2 H1 → va_D A w2 → va_S A H0 H1 locs1 → W p l e R s m args below meth c H1 locs1 cells slots Q (F0 m (pc + 3) ls (.int r :: rest))) : W p l e R s m args below meth c H locs cells slots Q (F0 m pc ls st0) :=
  cl_si F hM cw hN hK hP hD hS hA isC isR isB wr (fun _ => w2) rest hC hnc hR hn hdis (fun _ => hB) hnb hlen hls hst hroom hdg hf (fun _ _ H1 locs1 h a b c => by subst h; exact kk H1 locs1 a b c)
theorem cl0_vR {a : Nat} {w0 : va_W} (F : CallFix p m c cc nL s args Ts own) (hM : MQ0 l y wsc rm (.ref b :: As) D tyc wc (some a) w0) (cw : CallW R s args own C index y bytes maxL ret wsc rm 0 0 n) {ci q0 N : Nat} {T : u_T} {fs : List Value} (hc : vwCl[ci]? = some (C, T, N)) (hq : wc[q0]? = some (b, .inr (ci, fs))) (hN : nw s) (hK : va_K D vwCl tyc s) (hP : va_P D vwCl ws H) (hD : va_D A ws) (hS : va_S A H0 H locs) (hA : ∀ q, H0.size ≤ q → A q) (isC isR isB : List Nat) (wr : va_W) (w2 : va_W) (rest : List Value) (hC : isC.map (fun i => ws[i]?) = wc.map some) (hnc : va_nd isC = true) (hR : isR.map (fun i => ws[i]?) = wr.map some) (hn : va_nd isR = true) (hdis : ∀ i ∈ isR, i ∉ isC) (hB : isB.map (fun i => (wr ++ w0)[i]?) = w2.map some) (hnb : va_nd isB = true)
    (hlen : As.length = n) (hls : ls.size = nL) (hst : st0 = As.reverse ++ .ref b :: rest) (hroom : (rest.map fun v => v.category).sum ≤ 8) (hdg : decode cc pc = .ok (.invokevirtual index, 3)) (hf : cells ≤ R.cells ∧ slots ≤ R.slots)
    (kk : ∀ (H1 : Heap) (locs1 : List Loc), va_P D vwCl w2 H1 → va_D A w2 → va_S A H0 H1 locs1 → W p l e R s m args below meth c H1 locs1 cells slots Q (F0 m (pc + 3) ls (.ref a :: rest))) : W p l e R s m args below meth c H locs cells slots Q (F0 m pc ls st0) :=
  cl0_vq F hM cw hc hq hN hK hP hD hS hA isC isR isB wr w2 rest hC hnc hR hn hdis hB hnb hlen hls hst hroom hdg hf kk
theorem cl0_vN {w0 : va_W} (F : CallFix p m c cc nL s args Ts own) (hM : MQ0 l y wsc rm (.ref b :: As) D tyc wc none w0) (cw : CallW R s args own C index y bytes maxL ret wsc rm 0 0 n) {ci q0 N : Nat} {T : u_T} {fs : List Value} (hc : vwCl[ci]? = some (C, T, N)) (hq : wc[q0]? = some (b, .inr (ci, fs))) (hN : nw s) (hK : va_K D vwCl tyc s) (hP : va_P D vwCl ws H) (hD : va_D A ws) (hS : va_S A H0 H locs) (hA : ∀ q, H0.size ≤ q → A q) (isC isR isB : List Nat) (wr : va_W) (w2 : va_W) (rest : List Value) (hC : isC.map (fun i => ws[i]?) = wc.map some) (hnc : va_nd isC = true) (hR : isR.map (fun i => ws[i]?) = wr.map some) (hn : va_nd isR = true) (hdis : ∀ i ∈ isR, i ∉ isC) (hB : isB.map (fun i => (wr ++ w0)[i]?) = w2.map some) (hnb : va_nd isB = true)
    (hlen : As.length = n) (hls : ls.size = nL) (hst : st0 = As.reverse ++ .ref b :: rest) (hroom : (rest.map fun v => v.category).sum ≤ 8) (hdg : decode cc pc = .ok (.invokevirtual index, 3)) (hf : cells ≤ R.cells ∧ slots ≤ R.slots)
    (kk : ∀ (H1 : Heap) (locs1 : List Loc), va_P D vwCl w2 H1 → va_D A w2 → va_S A H0 H1 locs1 → W p l e R s m args below meth c H1 locs1 cells slots Q (F0 m (pc + 3) ls (.null :: rest))) : W p l e R s m args below meth c H locs cells slots Q (F0 m pc ls st0) :=
  cl0_vq F hM cw hc hq hN hK hP hD hS hA isC isR isB wr w2 rest hC hnc hR hn hdis hB hnb hlen hls hst hroom hdg hf kk
end CL
/-- THE FRAME RULE for contracts: a contract over some of a world's cells is one over the world -/
theorem fr_i {l : Launch} {y : MethodName} {Ts : List Cond} {rm : Room} {av : List Value} {D : va_G} {ty : List (ClassId × FieldType)} {ws wc wr : va_W} {mc ms : Nat} {S0 S : Type} {post0 : Int32 → S0 → Prop} {w0 : S0 → va_W} {post : Int32 → S → Prop} {w1 : S → va_W}
    (hM : MI l y Ts rm av D ty wc post0 w0 mc ms) (isC isR : List Nat) (hC : isC.map (fun i => ws[i]?) = wc.map some) (hnc : va_nd isC = true) (hR : isR.map (fun i => ws[i]?) = wr.map some) (hn : va_nd isR = true) (hdis : ∀ i ∈ isR, i ∉ isC)
    (hp : ∀ r u0, post0 r u0 → ∃ (u : S) (isB : List Nat), post r u ∧ isB.map (fun i => (wr ++ w0 u0)[i]?) = (w1 u).map some ∧ va_nd isB = true) : MI l y Ts rm av D ty ws post w1 mc ms := by
  intro sz p e ha hc hk s m args below hf happ hv _
  obtain ⟨rfl, hsz, hP, hK, hD, hN⟩ := hv
  subst hsz
  have hD9 : va_D (va_A ws s.heap.size) ws := hD.self
  have hF : ∀ q, va_A wc s.heap.size q → va_A ws s.heap.size q := va_free (wc := wc) (H0 := s.heap) (H := s.heap) (locs := []) hD9 va_S.rf (fun q h => Or.inr h) isC hC
  obtain ⟨n, o, h1, h2, h3, ⟨⟨r, u0, ho, hpo, hP1, hK1, hD1⟩, hz, hst⟩, L, hFE, hL⟩ := hM s.heap.size p e ha hc hk s m av.toArray below hf happ ⟨rfl, rfl, wb_P hP isC hC, hK, hD.sub isC hnc hC, hN⟩ trivial
  obtain ⟨u, isB, hu, hB, hnb⟩ := hp r u0 hpo
  obtain ⟨hP2, hD2⟩ := va_join hP hD9 isC isR hC hR hn hdis hst hF hP1 hD1
  exact ⟨n, o, h1, h2, h3, ⟨⟨r, u, ho, hu, wb_P hP2 isB hB, hK1, hD2.sub isB hnb hB⟩, hz, fun q a b => hst q a (fun z => b (hF q z))⟩, L, hFE, fun q hq => hF _ (hL q hq)⟩
