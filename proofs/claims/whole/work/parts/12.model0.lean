abbrev cX3_leave : ByteArray := prog_5_method_10_code
def yX3_leave : MethodName := ⟨RX3, "leave", "(II)V"⟩
abbrev cX3_byteAt : ByteArray := prog_5_method_12_code
def yX3_byteAt : MethodName := ⟨RX3, "byteAt", "(I)I"⟩
abbrev cX3_waiting : ByteArray := prog_5_method_13_code
def yX3_waiting : MethodName := ⟨RX3, "waiting", "(I)I"⟩
abbrev cX3_count : ByteArray := prog_5_method_14_code
def yX3_count : MethodName := ⟨RX3, "count", "(I)I"⟩
theorem dX3_leave_0 : decode cX3_leave 0 = .ok (.aload_n 0, 1) := by decide +kernel
theorem dX3_leave_1 : decode cX3_leave 1 = .ok (.getfield 20, 3) := by decide +kernel
theorem dX3_leave_4 : decode cX3_leave 4 = .ok (.iload_n 1, 1) := by decide +kernel
theorem dX3_leave_5 : decode cX3_leave 5 = .ok (.dup2, 1) := by decide +kernel
theorem dX3_leave_6 : decode cX3_leave 6 = .ok (.iaload, 1) := by decide +kernel
theorem dX3_leave_7 : decode cX3_leave 7 = .ok (.iload_n 2, 1) := by decide +kernel
theorem dX3_leave_8 : decode cX3_leave 8 = .ok (.isub, 1) := by decide +kernel
theorem dX3_leave_9 : decode cX3_leave 9 = .ok (.iastore, 1) := by decide +kernel
theorem dX3_leave_10 : decode cX3_leave 10 = .ok (.sipush 4200, 3) := by decide +kernel
theorem dX3_leave_13 : decode cX3_leave 13 = .ok (.iload_n 1, 1) := by decide +kernel
theorem dX3_leave_14 : decode cX3_leave 14 = .ok (.imul, 1) := by decide +kernel
theorem dX3_leave_15 : decode cX3_leave 15 = .ok (.istore_n 3, 1) := by decide +kernel
theorem dX3_leave_16 : decode cX3_leave 16 = .ok (.iload_n 3, 1) := by decide +kernel
theorem dX3_leave_17 : decode cX3_leave 17 = .ok (.sipush 4200, 3) := by decide +kernel
theorem dX3_leave_20 : decode cX3_leave 20 = .ok (.iload_n 1, 1) := by decide +kernel
theorem dX3_leave_21 : decode cX3_leave 21 = .ok (.imul, 1) := by decide +kernel
theorem dX3_leave_22 : decode cX3_leave 22 = .ok (.aload_n 0, 1) := by decide +kernel
theorem dX3_leave_23 : decode cX3_leave 23 = .ok (.getfield 20, 3) := by decide +kernel
theorem dX3_leave_26 : decode cX3_leave 26 = .ok (.iload_n 1, 1) := by decide +kernel
theorem dX3_leave_27 : decode cX3_leave 27 = .ok (.iaload, 1) := by decide +kernel
theorem dX3_leave_28 : decode cX3_leave 28 = .ok (.iadd, 1) := by decide +kernel
theorem dX3_leave_29 : decode cX3_leave 29 = .ok (.if_icmp .ge 37, 3) := by decide +kernel
theorem dX3_leave_32 : decode cX3_leave 32 = .ok (.aload_n 0, 1) := by decide +kernel
theorem dX3_leave_33 : decode cX3_leave 33 = .ok (.getfield 13, 3) := by decide +kernel
theorem dX3_leave_36 : decode cX3_leave 36 = .ok (.iload_n 3, 1) := by decide +kernel
theorem dX3_leave_37 : decode cX3_leave 37 = .ok (.aload_n 0, 1) := by decide +kernel
theorem dX3_leave_38 : decode cX3_leave 38 = .ok (.getfield 13, 3) := by decide +kernel
theorem dX3_leave_41 : decode cX3_leave 41 = .ok (.iload_n 3, 1) := by decide +kernel
theorem dX3_leave_42 : decode cX3_leave 42 = .ok (.iload_n 2, 1) := by decide +kernel
theorem dX3_leave_43 : decode cX3_leave 43 = .ok (.iadd, 1) := by decide +kernel
theorem dX3_leave_44 : decode cX3_leave 44 = .ok (.baload, 1) := by decide +kernel
theorem dX3_leave_45 : decode cX3_leave 45 = .ok (.bastore, 1) := by decide +kernel
theorem dX3_leave_46 : decode cX3_leave 46 = .ok (.aload_n 0, 1) := by decide +kernel
theorem dX3_leave_47 : decode cX3_leave 47 = .ok (.getfield 16, 3) := by decide +kernel
theorem dX3_leave_50 : decode cX3_leave 50 = .ok (.iload_n 3, 1) := by decide +kernel
theorem dX3_leave_51 : decode cX3_leave 51 = .ok (.aload_n 0, 1) := by decide +kernel
theorem dX3_leave_52 : decode cX3_leave 52 = .ok (.getfield 16, 3) := by decide +kernel
theorem dX3_leave_55 : decode cX3_leave 55 = .ok (.iload_n 3, 1) := by decide +kernel
theorem dX3_leave_56 : decode cX3_leave 56 = .ok (.iload_n 2, 1) := by decide +kernel
theorem dX3_leave_57 : decode cX3_leave 57 = .ok (.iadd, 1) := by decide +kernel
theorem dX3_leave_58 : decode cX3_leave 58 = .ok (.baload, 1) := by decide +kernel
theorem dX3_leave_59 : decode cX3_leave 59 = .ok (.bastore, 1) := by decide +kernel
theorem dX3_leave_60 : decode cX3_leave 60 = .ok (.iinc 3 1, 3) := by decide +kernel
theorem dX3_leave_63 : decode cX3_leave 63 = .ok (.goto (-47), 3) := by decide +kernel
theorem dX3_leave_66 : decode cX3_leave 66 = .ok (.return_, 1) := by decide +kernel
theorem dX3_byteAt_0 : decode cX3_byteAt 0 = .ok (.aload_n 0, 1) := by decide +kernel
theorem dX3_byteAt_1 : decode cX3_byteAt 1 = .ok (.iconst 0, 1) := by decide +kernel
theorem dX3_byteAt_2 : decode cX3_byteAt 2 = .ok (.putfield 34, 3) := by decide +kernel
theorem dX3_byteAt_5 : decode cX3_byteAt 5 = .ok (.iload_n 1, 1) := by decide +kernel
theorem dX3_byteAt_6 : decode cX3_byteAt 6 = .ok (.ifCond .lt 24, 3) := by decide +kernel
theorem dX3_byteAt_9 : decode cX3_byteAt 9 = .ok (.iload_n 1, 1) := by decide +kernel
theorem dX3_byteAt_10 : decode cX3_byteAt 10 = .ok (.aload_n 0, 1) := by decide +kernel
theorem dX3_byteAt_11 : decode cX3_byteAt 11 = .ok (.getfield 44, 3) := by decide +kernel
theorem dX3_byteAt_14 : decode cX3_byteAt 14 = .ok (.if_icmp .ge 16, 3) := by decide +kernel
theorem dX3_byteAt_17 : decode cX3_byteAt 17 = .ok (.aload_n 0, 1) := by decide +kernel
theorem dX3_byteAt_18 : decode cX3_byteAt 18 = .ok (.getfield 27, 3) := by decide +kernel
theorem dX3_byteAt_21 : decode cX3_byteAt 21 = .ok (.iload_n 1, 1) := by decide +kernel
theorem dX3_byteAt_22 : decode cX3_byteAt 22 = .ok (.baload, 1) := by decide +kernel
theorem dX3_byteAt_23 : decode cX3_byteAt 23 = .ok (.sipush 255, 3) := by decide +kernel
theorem dX3_byteAt_26 : decode cX3_byteAt 26 = .ok (.iand, 1) := by decide +kernel
theorem dX3_byteAt_27 : decode cX3_byteAt 27 = .ok (.goto 4, 3) := by decide +kernel
theorem dX3_byteAt_30 : decode cX3_byteAt 30 = .ok (.iconst (-1), 1) := by decide +kernel
theorem dX3_byteAt_31 : decode cX3_byteAt 31 = .ok (.ireturn, 1) := by decide +kernel
theorem dX3_waiting_0 : decode cX3_waiting 0 = .ok (.aload_n 0, 1) := by decide +kernel
theorem dX3_waiting_1 : decode cX3_waiting 1 = .ok (.iconst 0, 1) := by decide +kernel
theorem dX3_waiting_2 : decode cX3_waiting 2 = .ok (.putfield 34, 3) := by decide +kernel
theorem dX3_waiting_5 : decode cX3_waiting 5 = .ok (.iload_n 1, 1) := by decide +kernel
theorem dX3_waiting_6 : decode cX3_waiting 6 = .ok (.ifCond .eq 8, 3) := by decide +kernel
theorem dX3_waiting_9 : decode cX3_waiting 9 = .ok (.iload_n 1, 1) := by decide +kernel
theorem dX3_waiting_10 : decode cX3_waiting 10 = .ok (.iconst 1, 1) := by decide +kernel
theorem dX3_waiting_11 : decode cX3_waiting 11 = .ok (.if_icmp .ne 12, 3) := by decide +kernel
theorem dX3_waiting_14 : decode cX3_waiting 14 = .ok (.aload_n 0, 1) := by decide +kernel
theorem dX3_waiting_15 : decode cX3_waiting 15 = .ok (.getfield 20, 3) := by decide +kernel
theorem dX3_waiting_18 : decode cX3_waiting 18 = .ok (.iload_n 1, 1) := by decide +kernel
theorem dX3_waiting_19 : decode cX3_waiting 19 = .ok (.iaload, 1) := by decide +kernel
theorem dX3_waiting_20 : decode cX3_waiting 20 = .ok (.goto 4, 3) := by decide +kernel
theorem dX3_waiting_23 : decode cX3_waiting 23 = .ok (.iconst (-1), 1) := by decide +kernel
theorem dX3_waiting_24 : decode cX3_waiting 24 = .ok (.ireturn, 1) := by decide +kernel
theorem dX3_count_0 : decode cX3_count 0 = .ok (.aload_n 0, 1) := by decide +kernel
theorem dX3_count_1 : decode cX3_count 1 = .ok (.iconst 0, 1) := by decide +kernel
theorem dX3_count_2 : decode cX3_count 2 = .ok (.putfield 34, 3) := by decide +kernel
theorem dX3_count_5 : decode cX3_count 5 = .ok (.iload_n 1, 1) := by decide +kernel
theorem dX3_count_6 : decode cX3_count 6 = .ok (.ifCond .lt 17, 3) := by decide +kernel
theorem dX3_count_9 : decode cX3_count 9 = .ok (.iload_n 1, 1) := by decide +kernel
theorem dX3_count_10 : decode cX3_count 10 = .ok (.iconst 4, 1) := by decide +kernel
theorem dX3_count_11 : decode cX3_count 11 = .ok (.if_icmp .ge 12, 3) := by decide +kernel
theorem dX3_count_14 : decode cX3_count 14 = .ok (.aload_n 0, 1) := by decide +kernel
theorem dX3_count_15 : decode cX3_count 15 = .ok (.getfield 24, 3) := by decide +kernel
theorem dX3_count_18 : decode cX3_count 18 = .ok (.iload_n 1, 1) := by decide +kernel
theorem dX3_count_19 : decode cX3_count 19 = .ok (.iaload, 1) := by decide +kernel
theorem dX3_count_20 : decode cX3_count 20 = .ok (.goto 28, 3) := by decide +kernel
theorem dX3_count_23 : decode cX3_count 23 = .ok (.iload_n 1, 1) := by decide +kernel
theorem dX3_count_24 : decode cX3_count 24 = .ok (.iconst 4, 1) := by decide +kernel
theorem dX3_count_25 : decode cX3_count 25 = .ok (.if_icmp .ne 10, 3) := by decide +kernel
theorem dX3_count_28 : decode cX3_count 28 = .ok (.aload_n 0, 1) := by decide +kernel
theorem dX3_count_29 : decode cX3_count 29 = .ok (.getfield 37, 3) := by decide +kernel
theorem dX3_count_32 : decode cX3_count 32 = .ok (.goto 16, 3) := by decide +kernel
theorem dX3_count_35 : decode cX3_count 35 = .ok (.iload_n 1, 1) := by decide +kernel
theorem dX3_count_36 : decode cX3_count 36 = .ok (.iconst 5, 1) := by decide +kernel
theorem dX3_count_37 : decode cX3_count 37 = .ok (.if_icmp .ne 10, 3) := by decide +kernel
theorem dX3_count_40 : decode cX3_count 40 = .ok (.aload_n 0, 1) := by decide +kernel
theorem dX3_count_41 : decode cX3_count 41 = .ok (.getfield 30, 3) := by decide +kernel
theorem dX3_count_44 : decode cX3_count 44 = .ok (.goto 4, 3) := by decide +kernel
theorem dX3_count_47 : decode cX3_count 47 = .ok (.iconst (-1), 1) := by decide +kernel
theorem dX3_count_48 : decode cX3_count 48 = .ok (.ireturn, 1) := by decide +kernel
def wsMall : List Cond := [Cond.methodLink RX3 1 objectInit, Cond.instanceMethod objectInit, Cond.code objectInit ⟨#[0xb1]⟩ 1 none, Cond.arrayClass .byte, Cond.arrayClass .boolean, Cond.arrayClass .int, Cond.fieldLink RX3 7 "DownFramesModel" "tape" "[B", Cond.fieldLink RX3 13 "DownFramesModel" "bytes" "[B", Cond.fieldLink RX3 16 "DownFramesModel" "begins" "[Z", Cond.fieldLink RX3 20 "DownFramesModel" "waits" "[I", Cond.fieldLink RX3 24 "DownFramesModel" "frames" "[I", Cond.fieldLink RX3 27 "DownFramesModel" "frame" "[B", Cond.fieldLink RX3 30 "DownFramesModel" "length" "I", Cond.fieldLink RX3 34 "DownFramesModel" "thrown" "I", Cond.fieldLink RX3 37 "DownFramesModel" "many" "I", Cond.fieldLink RX3 44 "DownFramesModel" "filled" "I", Cond.constant RX3 47 (65535), Cond.constant RX3 48 (65536), Cond.constant RX3 49 (69665), Cond.initialized RX3, Cond.methodLink RX3 40 yX3_wait, Cond.instanceMethod yX3_wait, Cond.selects RX3 yX3_wait yX3_wait, Cond.code yX3_wait cX3_wait 4 none, Cond.methodLink RX3 50 yX3_fills, Cond.instanceMethod yX3_fills, Cond.selects RX3 yX3_fills yX3_fills, Cond.code yX3_fills cX3_fills 5 none, Cond.methodLink RX3 54 yX3_first, Cond.instanceMethod yX3_first, Cond.selects RX3 yX3_first yX3_first, Cond.code yX3_first cX3_first 4 (some .int), Cond.methodLink RX3 58 yX3_add, Cond.instanceMethod yX3_add, Cond.selects RX3 yX3_add yX3_add, Cond.code yX3_add cX3_add 2 none, Cond.methodLink RX3 62 yX3_check, Cond.instanceMethod yX3_check, Cond.selects RX3 yX3_check yX3_check, Cond.code yX3_check cX3_check 4 (some .int), Cond.methodLink RX3 66 yX3_leave, Cond.instanceMethod yX3_leave, Cond.selects RX3 yX3_leave yX3_leave, Cond.code yX3_leave cX3_leave 4 none] ++ wsX30
theorem wsMall_good : wsMall.all goodWord = true := by decide +kernel
def wsM_init : List Cond := .code yX3_init cX3_init 2 none :: wsMall
def wsM_give : List Cond := .code yX3_give cX3_give 5 (some .boolean) :: wsMall
def wsM_wait : List Cond := .code yX3_wait cX3_wait 4 none :: wsMall
def wsM_send : List Cond := .code yX3_send cX3_send 5 (some .int) :: wsMall
def wsM_add : List Cond := .code yX3_add cX3_add 2 none :: wsMall
def wsM_check : List Cond := .code yX3_check cX3_check 4 (some .int) :: wsMall
def wsM_fills : List Cond := .code yX3_fills cX3_fills 5 none :: wsMall
def wsM_first : List Cond := .code yX3_first cX3_first 4 (some .int) :: wsMall
def wsM_leave : List Cond := .code yX3_leave cX3_leave 4 none :: wsMall
def wsM_frame : List Cond := .code yX3_frame cX3_frame 7 (some .int) :: wsMall
def wsM_byteAt : List Cond := .code yX3_byteAt cX3_byteAt 2 (some .int) :: wsMall
def wsM_waiting : List Cond := .code yX3_waiting cX3_waiting 2 (some .int) :: wsMall
def wsM_count : List Cond := .code yX3_count cX3_count 2 (some .int) :: wsMall
theorem gm {a b : Cond} {L : List Cond} (hb : b ∈ wsMall) (hL : ∀ w ∈ L, w ∈ wsMall) : GoodIn (a :: wsMall) (L ++ (b :: wsMall)) := by
  have hs : ∀ w ∈ L ++ (b :: wsMall), w ∈ wsMall := fun w h => (List.mem_append.mp h).elim (hL w) (fun h => (List.mem_cons.mp h).elim (fun e => by rw [e]; exact hb) id)
  exact fun w h => ⟨List.mem_cons_of_mem _ (hs w h), good_of_word (List.all_eq_true.mp wsMall_good w (hs w h))⟩
theorem gM_wait (a : Cond) : GoodIn (a :: wsMall) (wsV RX3 40 RX3 yX3_wait wsM_wait) := gm (List.mem_of_getElem? (i := 23) rfl) (by decide +kernel)
theorem gM_fills (a : Cond) : GoodIn (a :: wsMall) (wsV RX3 50 RX3 yX3_fills wsM_fills) := gm (List.mem_of_getElem? (i := 27) rfl) (by decide +kernel)
theorem gM_first (a : Cond) : GoodIn (a :: wsMall) (wsV RX3 54 RX3 yX3_first wsM_first) := gm (List.mem_of_getElem? (i := 31) rfl) (by decide +kernel)
theorem gM_add (a : Cond) : GoodIn (a :: wsMall) (wsV RX3 58 RX3 yX3_add wsM_add) := gm (List.mem_of_getElem? (i := 35) rfl) (by decide +kernel)
theorem gM_check (a : Cond) : GoodIn (a :: wsMall) (wsV RX3 62 RX3 yX3_check wsM_check) := gm (List.mem_of_getElem? (i := 39) rfl) (by decide +kernel)
theorem gM_leave (a : Cond) : GoodIn (a :: wsMall) (wsV RX3 66 RX3 yX3_leave wsM_leave) := gm (List.mem_of_getElem? (i := 43) rfl) (by decide +kernel)
set_option maxRecDepth 20000 in
theorem gLM_give : GoodIn lw_tbl (wsV RL 27 RX3 yX3_give wsM_give) := goodIn_p _ [220, 23, 228, 236, 240, 244, 248, 255] (by decide +kernel) (by decide +kernel)
set_option maxRecDepth 20000 in
theorem gLM_send : GoodIn lw_tbl (wsV RL 32 RX3 yX3_send wsM_send) := goodIn_p _ [224, 23, 228, 236, 240, 244, 248, 255] (by decide +kernel) (by decide +kernel)
set_option maxRecDepth 20000 in
theorem gLM_frame : GoodIn lw_tbl (wsV RL 36 RX3 yX3_frame wsM_frame) := goodIn_p _ [232, 23, 228, 236, 240, 244, 248, 255] (by decide +kernel) (by decide +kernel)
set_option maxRecDepth 20000 in
theorem gLM_byteAt : GoodIn lw_tbl (wsV RL 40 RX3 yX3_byteAt wsM_byteAt) := goodIn_p _ [259, 23, 228, 236, 240, 244, 248, 255] (by decide +kernel) (by decide +kernel)
set_option maxRecDepth 20000 in
theorem gLM_waiting : GoodIn lw_tbl (wsV RL 44 RX3 yX3_waiting wsM_waiting) := goodIn_p _ [263, 23, 228, 236, 240, 244, 248, 255] (by decide +kernel) (by decide +kernel)
set_option maxRecDepth 20000 in
theorem gLM_count : GoodIn lw_tbl (wsV RL 48 RX3 yX3_count wsM_count) := goodIn_p _ [267, 23, 228, 236, 240, 244, 248, 255] (by decide +kernel) (by decide +kernel)
set_option maxRecDepth 20000 in
theorem gLM_init : GoodIn lw_tbl wsM_init := goodIn_p _ [182, 23, 228, 236, 240, 244, 248, 255] (by decide +kernel) (by decide +kernel)
-- bytes and booleans in arrays
abbrev i8 (x : Int32) : Int32 := x.toInt8.toInt32
abbrev lsa (x : Int64) (y : Int32) : Int64 := x >>> (y.toInt64 &&& 63)
section AB
variable {p : Program} {l : Launch} {e : Env} {R : Room} {s : State} {m : MethodId} {args : Array Value} {below : List Frame} {meth : Method} {c : Code} {H : Heap} {locs : List Loc} {cells slots : Nat} {Q : State → Prop}
variable {cc : ByteArray} {pc : Nat} {ls : Array Slot} {rest : List Value} {D : va_G} {A : Nat → Prop} {ty : List (ClassId × FieldType)} {ws : va_W} {H0 : Heap}
theorem al_b {a : Nat} (hx : p.tables.exec = Jvm.exec) (hb : c.code = cc) (hK : va_K D vwCl ty s) (hP : va_P D vwCl ws H) (q0 t0 : Nat) {cA : ClassId} {n k : Nat} {f : Nat → Int32} (ha : ws[q0]? = some (a, .inl (cA, n, .inl f))) (ht : ty[t0]? = some (cA, .byte)) (hk : k < n) (hn : n < 2 ^ 31) (hdg : decode cc pc = .ok (.baload, 1))
    (kk : W p l e R s m args below meth c H locs cells slots Q (F0 m (pc + 1) ls (.int (f k) :: rest))) : W p l e R s m args below meth c H locs cells slots Q (F0 m pc ls (.int (nI k) :: .ref a :: rest)) := by
  refine va_bald hx hb hK hP q0 t0 ha ht (vp_in_nI hk hn) hdg ?_
  rw [nI_clamp (by omega)]
  exact kk
theorem al_z {a : Nat} (hx : p.tables.exec = Jvm.exec) (hb : c.code = cc) (hK : va_K D vwCl ty s) (hP : va_P D vwCl ws H) (q0 t0 : Nat) {cA : ClassId} {n k : Nat} {f : Nat → Int32} (ha : ws[q0]? = some (a, .inl (cA, n, .inl f))) (ht : ty[t0]? = some (cA, .boolean)) (hk : k < n) (hn : n < 2 ^ 31) (hdg : decode cc pc = .ok (.baload, 1))
    (kk : W p l e R s m args below meth c H locs cells slots Q (F0 m (pc + 1) ls (.int (f k) :: rest))) : W p l e R s m args below meth c H locs cells slots Q (F0 m pc ls (.int (nI k) :: .ref a :: rest)) := by
  refine va_zald hx hb hK hP q0 t0 ha ht (vp_in_nI hk hn) hdg ?_
  rw [nI_clamp (by omega)]
  exact kk
theorem as_b {a : Nat} (hx : p.tables.exec = Jvm.exec) (hb : c.code = cc) (hK : va_K D vwCl ty s) (hP : va_P D vwCl ws H) (hD : va_D A ws) (hS : va_S A H0 H locs) (q0 t0 : Nat) {cA : ClassId} {n k : Nat} {f : Nat → Int32} {x : Int32} (ha : ws[q0]? = some (a, .inl (cA, n, .inl f))) (ht : ty[t0]? = some (cA, .byte)) (hk : k < n) (hn : n < 2 ^ 31) (hdg : decode cc pc = .ok (.bastore, 1))
    (kk : ∀ (H1 : Heap) (locs1 : List Loc), va_P D vwCl (ws.set q0 (a, .inl (cA, n, .inl (upd f k (i8 x))))) H1 → va_D A (ws.set q0 (a, .inl (cA, n, .inl (upd f k (i8 x))))) → va_S A H0 H1 locs1 → W p l e R s m args below meth c H1 locs1 cells slots Q (F0 m (pc + 1) ls rest)) : W p l e R s m args below meth c H locs cells slots Q (F0 m pc ls (.int x :: .int (nI k) :: .ref a :: rest)) := by
  refine va_bast hx hb hK hP hD hS q0 t0 ha ht (vp_in_nI hk hn) hdg (fun H1 locs1 h1 h2 h3 => ?_)
  rw [nI_clamp (by omega)] at h1 h2
  exact kk H1 locs1 h1 h2 h3
/-- the same behind i2b -/
theorem as_b8 {a : Nat} (hx : p.tables.exec = Jvm.exec) (hb : c.code = cc) (hK : va_K D vwCl ty s) (hP : va_P D vwCl ws H) (hD : va_D A ws) (hS : va_S A H0 H locs) (q0 t0 : Nat) {cA : ClassId} {n k : Nat} {f : Nat → Int32} {x : Int32} (ha : ws[q0]? = some (a, .inl (cA, n, .inl f))) (ht : ty[t0]? = some (cA, .byte)) (hk : k < n) (hn : n < 2 ^ 31) (hdg : decode cc pc = .ok (.bastore, 1))
    (kk : ∀ (H1 : Heap) (locs1 : List Loc), va_P D vwCl (ws.set q0 (a, .inl (cA, n, .inl (upd f k (i8 x))))) H1 → va_D A (ws.set q0 (a, .inl (cA, n, .inl (upd f k (i8 x))))) → va_S A H0 H1 locs1 → W p l e R s m args below meth c H1 locs1 cells slots Q (F0 m (pc + 1) ls rest)) : W p l e R s m args below meth c H locs cells slots Q (F0 m pc ls (.int (i8 x) :: .int (nI k) :: .ref a :: rest)) := by
  refine as_b hx hb hK hP hD hS q0 t0 ha ht hk hn hdg (fun H1 locs1 h1 h2 h3 => ?_)
  have e : i8 (i8 x) = i8 x := pk_vb x
  rw [e] at h1 h2
  exact kk H1 locs1 h1 h2 h3
theorem as_z {a : Nat} (hx : p.tables.exec = Jvm.exec) (hb : c.code = cc) (hK : va_K D vwCl ty s) (hP : va_P D vwCl ws H) (hD : va_D A ws) (hS : va_S A H0 H locs) (q0 t0 : Nat) {cA : ClassId} {n k : Nat} {f : Nat → Int32} {x : Int32} (ha : ws[q0]? = some (a, .inl (cA, n, .inl f))) (ht : ty[t0]? = some (cA, .boolean)) (hk : k < n) (hn : n < 2 ^ 31) (hdg : decode cc pc = .ok (.bastore, 1))
    (kk : ∀ (H1 : Heap) (locs1 : List Loc), va_P D vwCl (ws.set q0 (a, .inl (cA, n, .inl (upd f k (x &&& 1))))) H1 → va_D A (ws.set q0 (a, .inl (cA, n, .inl (upd f k (x &&& 1))))) → va_S A H0 H1 locs1 → W p l e R s m args below meth c H1 locs1 cells slots Q (F0 m (pc + 1) ls rest)) : W p l e R s m args below meth c H locs cells slots Q (F0 m pc ls (.int x :: .int (nI k) :: .ref a :: rest)) := by
  refine va_zast hx hb hK hP hD hS q0 t0 ha ht (vp_in_nI hk hn) hdg (fun H1 locs1 h1 h2 h3 => ?_)
  rw [nI_clamp (by omega)] at h1 h2
  exact kk H1 locs1 h1 h2 h3
theorem nw_p {at0 : ArrayType} {ft : FieldType} (hx : p.tables.exec = Jvm.exec) (hb : c.code = cc) (hft : newarray.typeOf at0 = ft) (harr : (Cond.arrayClass (newarray.typeOf at0)).before args s = true) (hdef : defaultValue ft = .int 0) (hkind : ∀ cA, va_RA s cA ft → s.vm.findClass ("[" ++ ft.toString) = some cA) (hK : va_K D vwCl ty s) (t0 : Nat) {cA : ClassId} (ht : ty[t0]? = some (cA, ft)) (hP : va_P D vwCl ws H) (hD : va_D A ws) (hS : va_S A H0 H locs) (hA : ∀ q, H0.size ≤ q → A q) {n : Nat} (hn : n < 2 ^ 27) (hcb : n * componentBytes ft ≤ 536870912) (hcells : cells + 1 ≤ R.cells) (hslots : slots + n ≤ R.slots) (hdg : decode cc pc = .ok (.newarray at0, 2))
    (kk : ∀ (q : Nat) (H1 : Heap), va_P D vwCl (ws ++ [(q, .inl (cA, n, .inl (fun _ => 0)))]) H1 → va_D A (ws ++ [(q, .inl (cA, n, .inl (fun _ => 0)))]) → va_S A H0 H1 locs → W p l e R s m args below meth c H1 locs (cells + 1) (slots + n) Q (F0 m (pc + 2) ls (.ref q :: rest))) : W p l e R s m args below meth c H locs cells slots Q (F0 m pc ls (.int (nI n) :: rest)) := by
  refine va_newa (atype := at0) (a0 := (n, .inl (fun _ => 0))) hx hb harr (ty := ft) hft hK hP hD hS hA (fun cA => by rw [hdef]; rfl) (nI_pos (by omega)) (nI_clamp (by omega)) hcb hcells hslots hdg (fun q cB H1 hK1 hP1 hD1 hS1 => ?_)
  have e1 := hkind _ (hK.2 t0 _ ht).2
  have e2 := hkind _ (hK1.2 ty.length (cB, ft) (by simp)).2
  have e3 : cB = cA := Option.some.inj (e2.symm.trans e1)
  subst e3
  exact kk q H1 hP1 hD1 hS1
end AB
-- pure words of the reference
/-- how many wait, as ints -/
def wI (ww : Nat → Nat) : Nat → Int32 := fun j => nI (ww j)
theorem wI_upd (ww : Nat → Nat) (c k : Nat) : upd (wI ww) c (nI k) = wI (va_up ww c k) := by
  funext j
  unfold wI upd va_up
  by_cases h : j = c
  · subst h; simp
  · simp [h]
def crSM (c : Int32) : Int32 := if 2 * c < 65536 then 2 * c else (2 * c) ^^^ 69665
def crBM : Nat → Int32 → Int32
  | 0, c => c
  | n + 1, c => crBM n (crSM c)
def crcM (f : Nat → Int32) : Nat → Int32
  | 0 => 65535
  | i + 1 => crBM 8 (crcM f i ^^^ ((f i &&& 255) * 256))
def fbM (f : Nat → Int32) (s : Nat) : Nat → Nat → Int32
  | 0, _ => 2047
  | n + 1, i => if f (s + i) = 0 then fbM f s n (i + 1) else nI i
/-- an empty packet's bytes and marks, as the reference writes them -/
def emb (L : Nat) (i : Nat) : Int32 := i8 (if i = 0 then 7 else if i = 1 then 255 else if i = 2 then 192 else if i = 3 then 0 else if i = 4 then nI (L - 7) / 256 else if i = 5 then nI (L - 7) else 85)
def emz (i : Nat) : Int32 := if i = 0 then 1 else 0
theorem emb_85 (L i : Nat) (h : 6 ≤ i) : emb L i = i8 85 := by
  unfold emb
  rw [if_neg (by omega), if_neg (by omega), if_neg (by omega), if_neg (by omega), if_neg (by omega), if_neg (by omega)]
theorem emz_0 (i : Nat) (h : 1 ≤ i) : emz i = 0 := by unfold emz; rw [if_neg (by omega)]
/-- the i-th byte of w -/
def gvm (w : Int64) (i : Nat) : Int32 := i8 (lsa w (56 - (8 * nI i))).toInt32
