section
-- ===== PART A: goes FIRST, ahead of the names: the tables' words, and 'selects' of the private methods out of them =====
/-- a private method of a class that the tables say can be made, by its rows of tables_1 -/
def lw_okq (q : MethodName × Nat) : Prop := (q.1.cls ≠ "java/lang/invoke/MethodHandle" ∧ q.1.cls ≠ "java/lang/invoke/VarHandle") ∧ Cond.instantiable q.1.cls q.2 ∈ tables_1 ∧ Cond.privateMethod q.1 ∈ tables_1 ∧ Cond.instanceMethod q.1 ∈ tables_1
theorem lw_p0 : lw_okq (⟨"DownFrames", "channelOf", "(I)LDownFrames$Channel;"⟩, 6) := ⟨⟨by decide +kernel, by decide +kernel⟩, List.mem_of_getElem? (i := 7) (by decide +kernel), List.mem_of_getElem? (i := 89) (by decide +kernel), List.mem_of_getElem? (i := 90) (by decide +kernel)⟩
theorem lw_p1 : lw_okq (⟨"DownFrames$Channel", "add", "(I)V"⟩, 3) := ⟨⟨by decide +kernel, by decide +kernel⟩, List.mem_of_getElem? (i := 37) (by decide +kernel), List.mem_of_getElem? (i := 109) (by decide +kernel), List.mem_of_getElem? (i := 110) (by decide +kernel)⟩
theorem lw_p2 : lw_okq (⟨"DownFrames", "nextChannel", "()I"⟩, 6) := ⟨⟨by decide +kernel, by decide +kernel⟩, List.mem_of_getElem? (i := 7) (by decide +kernel), List.mem_of_getElem? (i := 121) (by decide +kernel), List.mem_of_getElem? (i := 122) (by decide +kernel)⟩
theorem lw_p3 : lw_okq (⟨"DownFrames$Channel", "addEmptyPacket", "(I)V"⟩, 3) := ⟨⟨by decide +kernel, by decide +kernel⟩, List.mem_of_getElem? (i := 37) (by decide +kernel), List.mem_of_getElem? (i := 130) (by decide +kernel), List.mem_of_getElem? (i := 131) (by decide +kernel)⟩
theorem lw_p4 : lw_okq (⟨"DownFramesModel", "wait", "(IIZ)V"⟩, 10) := ⟨⟨by decide +kernel, by decide +kernel⟩, List.mem_of_getElem? (i := 169) (by decide +kernel), List.mem_of_getElem? (i := 216) (by decide +kernel), List.mem_of_getElem? (i := 217) (by decide +kernel)⟩
theorem lw_p5 : lw_okq (⟨"DownFramesModel", "fills", "(II)V"⟩, 10) := ⟨⟨by decide +kernel, by decide +kernel⟩, List.mem_of_getElem? (i := 169) (by decide +kernel), List.mem_of_getElem? (i := 224) (by decide +kernel), List.mem_of_getElem? (i := 225) (by decide +kernel)⟩
theorem lw_p6 : lw_okq (⟨"DownFramesModel", "first", "(II)I"⟩, 10) := ⟨⟨by decide +kernel, by decide +kernel⟩, List.mem_of_getElem? (i := 169) (by decide +kernel), List.mem_of_getElem? (i := 228) (by decide +kernel), List.mem_of_getElem? (i := 229) (by decide +kernel)⟩
theorem lw_p7 : lw_okq (⟨"DownFramesModel", "add", "(I)V"⟩, 10) := ⟨⟨by decide +kernel, by decide +kernel⟩, List.mem_of_getElem? (i := 169) (by decide +kernel), List.mem_of_getElem? (i := 232) (by decide +kernel), List.mem_of_getElem? (i := 233) (by decide +kernel)⟩
theorem lw_p8 : lw_okq (⟨"DownFramesModel", "check", "()I"⟩, 10) := ⟨⟨by decide +kernel, by decide +kernel⟩, List.mem_of_getElem? (i := 169) (by decide +kernel), List.mem_of_getElem? (i := 236) (by decide +kernel), List.mem_of_getElem? (i := 237) (by decide +kernel)⟩
theorem lw_p9 : lw_okq (⟨"DownFramesModel", "leave", "(II)V"⟩, 10) := ⟨⟨by decide +kernel, by decide +kernel⟩, List.mem_of_getElem? (i := 169) (by decide +kernel), List.mem_of_getElem? (i := 243) (by decide +kernel), List.mem_of_getElem? (i := 244) (by decide +kernel)⟩
def lw_privs_1 : List (MethodName × Nat) := [(⟨"DownFrames", "channelOf", "(I)LDownFrames$Channel;"⟩, 6), (⟨"DownFrames$Channel", "add", "(I)V"⟩, 3), (⟨"DownFrames", "nextChannel", "()I"⟩, 6), (⟨"DownFrames$Channel", "addEmptyPacket", "(I)V"⟩, 3), (⟨"DownFramesModel", "wait", "(IIZ)V"⟩, 10), (⟨"DownFramesModel", "fills", "(II)V"⟩, 10), (⟨"DownFramesModel", "first", "(II)I"⟩, 10), (⟨"DownFramesModel", "add", "(I)V"⟩, 10), (⟨"DownFramesModel", "check", "()I"⟩, 10), (⟨"DownFramesModel", "leave", "(II)V"⟩, 10)]
theorem lw_r1 : ∀ q ∈ lw_privs_1, lw_okq q := List.forall_mem_cons.mpr ⟨lw_p0, List.forall_mem_cons.mpr ⟨lw_p1, List.forall_mem_cons.mpr ⟨lw_p2, List.forall_mem_cons.mpr ⟨lw_p3, List.forall_mem_cons.mpr ⟨lw_p4, List.forall_mem_cons.mpr ⟨lw_p5, List.forall_mem_cons.mpr ⟨lw_p6, List.forall_mem_cons.mpr ⟨lw_p7, List.forall_mem_cons.mpr ⟨lw_p8, List.forall_mem_cons.mpr ⟨lw_p9, fun _ h => absurd h List.not_mem_nil⟩⟩⟩⟩⟩⟩⟩⟩⟩⟩
def lw_privs : List (MethodName × Nat) := lw_privs_1
def lw_tbl : List Cond := k2_sels lw_privs ++ tables_1
theorem lw_privs_ok : ∀ q ∈ lw_privs, lw_okq q := lw_r1
-- ===== end of PART A; then your names; then what follows =====
/-! ===== BEGIN words of one list among another's, by their places ===== -/
theorem goodIn_r {big : List Cond} (ws : List Cond) (ps : List Nat) (hp : ws = ps.filterMap (fun i => big[i]?)) (h : ws.all goodWord = true) : GoodIn big ws := by
  intro w hw
  have h1 := List.all_eq_true.mp h w hw
  rw [hp] at hw
  obtain ⟨i, -, hi⟩ := List.mem_filterMap.mp hw
  have hm : w ∈ big := by first | exact List.mem_of_getElem? hi | exact List.getElem?_mem hi
  exact ⟨hm, good_of_word h1⟩
theorem goodIn_app {big a b : List Cond} (ha : GoodIn big a) (hb : GoodIn big b) : GoodIn big (a ++ b) := fun w h => (List.mem_append.mp h).elim (ha w) (hb w)
theorem goodIn_ca {big a b : List Cond} {c : Cond} (ha : GoodIn big (c :: a)) (hb : GoodIn big b) : GoodIn big (c :: (a ++ b)) := fun w h => (List.mem_cons.mp h).elim (fun e => ha w (List.mem_cons.mpr (Or.inl e))) (fun h => (List.mem_append.mp h).elim (fun h => ha w (List.mem_cons.mpr (Or.inr h))) (hb w))
theorem goodIn_sub {big ws : List Cond} (hm : ∀ w ∈ ws, w ∈ big) (h : ws.all goodWord = true) : GoodIn big ws := fun w hw => ⟨hm w hw, good_of_word (List.all_eq_true.mp h w hw)⟩
/-! ===== END ===== -/

/-! ===== BEGIN printed: names, fields, word lists, decode rows ===== -/
def RX0 : String := "DownFrames$Bytes"
def TX0 : u_T := fun k => match k with
  | 0 => ("DownFrames$Bytes", "row", "[I", true)
  | _ => ("DownFrames$Bytes", "size", "I", false)
def tyX0 : Nat → FieldType := fun k => match k with
  | 0 => .array .int
  | _ => .int
abbrev wsX00 : List Cond := u_ws RX0 TX0 2
theorem nmX0 : ∀ a, a < 2 → ∀ b, b < 2 → a ≠ b → (TX0 a).2.1 ≠ (TX0 b).2.1 := by decide +kernel
theorem tyX0_ok : ∀ k, k < 2 → parseFieldDescriptor (TX0 k).2.2.1 = some (tyX0 k) := by decide +kernel
abbrev cX0_init : ByteArray := prog_2_method_1_code
def yX0_init : MethodName := ⟨RX0, "<init>", "(I)V"⟩
abbrev cX0_room : ByteArray := prog_2_method_2_code
def yX0_room : MethodName := ⟨RX0, "room", "()I"⟩
abbrev cX0_clear : ByteArray := prog_2_method_3_code
def yX0_clear : MethodName := ⟨RX0, "clear", "()V"⟩
abbrev cX0_put8 : ByteArray := prog_2_method_4_code
def yX0_put8 : MethodName := ⟨RX0, "put8", "(I)V"⟩
abbrev cX0_put16 : ByteArray := prog_2_method_5_code
def yX0_put16 : MethodName := ⟨RX0, "put16", "(I)V"⟩
abbrev cX0_at : ByteArray := prog_2_method_6_code
def yX0_at : MethodName := ⟨RX0, "at", "(I)I"⟩
abbrev cX0_check : ByteArray := prog_2_method_7_code
def yX0_check : MethodName := ⟨RX0, "check", "()I"⟩
def RX1 : String := "DownFrames$Channel"
def TX1 : u_T := fun k => match k with
  | 0 => ("DownFrames$Channel", "ring", "[I", true)
  | 1 => ("DownFrames$Channel", "head", "I", false)
  | _ => ("DownFrames$Channel", "size", "I", false)
def tyX1 : Nat → FieldType := fun k => match k with
  | 0 => .array .int
  | 1 => .int
  | _ => .int
abbrev wsX10 : List Cond := u_ws RX1 TX1 3
theorem nmX1 : ∀ a, a < 3 → ∀ b, b < 3 → a ≠ b → (TX1 a).2.1 ≠ (TX1 b).2.1 := by decide +kernel
theorem tyX1_ok : ∀ k, k < 3 → parseFieldDescriptor (TX1 k).2.2.1 = some (tyX1 k) := by decide +kernel
abbrev cX1_init : ByteArray := prog_3_method_1_code
def yX1_init : MethodName := ⟨RX1, "<init>", "()V"⟩
abbrev cX1_room : ByteArray := prog_3_method_2_code
def yX1_room : MethodName := ⟨RX1, "room", "()I"⟩
abbrev cX1_addPacket : ByteArray := prog_3_method_3_code
def yX1_addPacket : MethodName := ⟨RX1, "addPacket", "(LDownFrames$Bytes;)V"⟩
abbrev cX1_fillUpTo : ByteArray := prog_3_method_4_code
def yX1_fillUpTo : MethodName := ⟨RX1, "fillUpTo", "(I)V"⟩
abbrev cX1_firstBegin : ByteArray := prog_3_method_5_code
def yX1_firstBegin : MethodName := ⟨RX1, "firstBegin", "(I)I"⟩
abbrev cX1_take : ByteArray := prog_3_method_6_code
def yX1_take : MethodName := ⟨RX1, "take", "()I"⟩
abbrev cX1_addEmptyPacket : ByteArray := prog_3_method_7_code
def yX1_addEmptyPacket : MethodName := ⟨RX1, "addEmptyPacket", "(I)V"⟩
abbrev cX1_add : ByteArray := prog_3_method_8_code
def yX1_add : MethodName := ⟨RX1, "add", "(I)V"⟩
def RX2 : String := "DownFrames"
def TX2 : u_T := fun k => match k with
  | 0 => ("DownFrames", "length", "I", true)
  | 1 => ("DownFrames", "tape", "LDownFrames$Bytes;", true)
  | 2 => ("DownFrames", "latest", "LDownFrames$Bytes;", true)
  | 3 => ("DownFrames", "channel0", "LDownFrames$Channel;", true)
  | 4 => ("DownFrames", "channel1", "LDownFrames$Channel;", true)
  | _ => ("DownFrames", "frames", "[I", true)
def tyX2 : Nat → FieldType := fun k => match k with
  | 0 => .int
  | 1 => .object "DownFrames$Bytes"
  | 2 => .object "DownFrames$Bytes"
  | 3 => .object "DownFrames$Channel"
  | 4 => .object "DownFrames$Channel"
  | _ => .array .int
abbrev wsX20 : List Cond := u_ws RX2 TX2 6
theorem nmX2 : ∀ a, a < 6 → ∀ b, b < 6 → a ≠ b → (TX2 a).2.1 ≠ (TX2 b).2.1 := by decide +kernel
theorem tyX2_ok : ∀ k, k < 6 → parseFieldDescriptor (TX2 k).2.2.1 = some (tyX2 k) := by decide +kernel
abbrev cX2_init : ByteArray := prog_1_method_1_code
def yX2_init : MethodName := ⟨RX2, "<init>", "(I)V"⟩
abbrev cX2_give : ByteArray := prog_1_method_2_code
def yX2_give : MethodName := ⟨RX2, "give", "(JI)Z"⟩
abbrev cX2_send : ByteArray := prog_1_method_3_code
def yX2_send : MethodName := ⟨RX2, "send", "(I)I"⟩
abbrev cX2_frame : ByteArray := prog_1_method_4_code
def yX2_frame : MethodName := ⟨RX2, "frame", "(I)I"⟩
abbrev cX2_byteAt : ByteArray := prog_1_method_5_code
def yX2_byteAt : MethodName := ⟨RX2, "byteAt", "(I)I"⟩
abbrev cX2_waiting : ByteArray := prog_1_method_6_code
def yX2_waiting : MethodName := ⟨RX2, "waiting", "(I)I"⟩
abbrev cX2_count : ByteArray := prog_1_method_7_code
def yX2_count : MethodName := ⟨RX2, "count", "(I)I"⟩
abbrev cX2_channelOf : ByteArray := prog_1_method_8_code
def yX2_channelOf : MethodName := ⟨RX2, "channelOf", "(I)LDownFrames$Channel;"⟩
abbrev cX2_nextChannel : ByteArray := prog_1_method_9_code
def yX2_nextChannel : MethodName := ⟨RX2, "nextChannel", "()I"⟩
abbrev cX2_holdsPacket : ByteArray := prog_1_method_10_code
def yX2_holdsPacket : MethodName := ⟨RX2, "holdsPacket", "(LDownFrames$Bytes;)Z"⟩
def RX3 : String := "DownFramesModel"
def TX3 : u_T := fun k => match k with
  | 0 => ("DownFramesModel", "thrown", "I", false)
  | 1 => ("DownFramesModel", "length", "I", true)
  | 2 => ("DownFramesModel", "tape", "[B", true)
  | 3 => ("DownFramesModel", "many", "I", false)
  | 4 => ("DownFramesModel", "bytes", "[B", true)
  | 5 => ("DownFramesModel", "begins", "[Z", true)
  | 6 => ("DownFramesModel", "waits", "[I", true)
  | 7 => ("DownFramesModel", "frames", "[I", true)
  | 8 => ("DownFramesModel", "frame", "[B", true)
  | _ => ("DownFramesModel", "filled", "I", false)
def tyX3 : Nat → FieldType := fun k => match k with
  | 0 => .int
  | 1 => .int
  | 2 => .array .byte
  | 3 => .int
  | 4 => .array .byte
  | 5 => .array .boolean
  | 6 => .array .int
  | 7 => .array .int
  | 8 => .array .byte
  | _ => .int
abbrev wsX30 : List Cond := u_ws RX3 TX3 10
theorem nmX3 : ∀ a, a < 10 → ∀ b, b < 10 → a ≠ b → (TX3 a).2.1 ≠ (TX3 b).2.1 := by decide +kernel
theorem tyX3_ok : ∀ k, k < 10 → parseFieldDescriptor (TX3 k).2.2.1 = some (tyX3 k) := by decide +kernel
abbrev cX3_init : ByteArray := prog_5_method_1_code
def yX3_init : MethodName := ⟨RX3, "<init>", "(I)V"⟩
abbrev cX3_give : ByteArray := prog_5_method_3_code
def yX3_give : MethodName := ⟨RX3, "give", "(JI)Z"⟩
abbrev cX3_wait : ByteArray := prog_5_method_4_code
def yX3_wait : MethodName := ⟨RX3, "wait", "(IIZ)V"⟩
abbrev cX3_send : ByteArray := prog_5_method_5_code
def yX3_send : MethodName := ⟨RX3, "send", "(I)I"⟩
abbrev cX3_add : ByteArray := prog_5_method_6_code
def yX3_add : MethodName := ⟨RX3, "add", "(I)V"⟩
abbrev cX3_check : ByteArray := prog_5_method_7_code
def yX3_check : MethodName := ⟨RX3, "check", "()I"⟩
abbrev cX3_fills : ByteArray := prog_5_method_8_code
def yX3_fills : MethodName := ⟨RX3, "fills", "(II)V"⟩
abbrev cX3_first : ByteArray := prog_5_method_9_code
def yX3_first : MethodName := ⟨RX3, "first", "(II)I"⟩
abbrev cX3_frame : ByteArray := prog_5_method_11_code
def yX3_frame : MethodName := ⟨RX3, "frame", "(I)I"⟩
def RJ9 : String := "java/lang/Math"
def TJ9 : u_T := fun k => match k with
  | _ => ("", "", "", false)
def tyJ9 : Nat → FieldType := fun k => match k with
  | _ => .int
abbrev wsJ90 : List Cond := u_ws RJ9 TJ9 0
theorem nmJ9 : ∀ a, a < 0 → ∀ b, b < 0 → a ≠ b → (TJ9 a).2.1 ≠ (TJ9 b).2.1 := by decide +kernel
theorem tyJ9_ok : ∀ k, k < 0 → parseFieldDescriptor (TJ9 k).2.2.1 = some (tyJ9 k) := by decide +kernel
abbrev cJ9_max_7cf53 : ByteArray := prog_6_method_65_code
def yJ9_max_7cf53 : MethodName := ⟨RJ9, "max", "(II)I"⟩
abbrev cJ9_min_7cf53 : ByteArray := prog_6_method_69_code
def yJ9_min_7cf53 : MethodName := ⟨RJ9, "min", "(II)I"⟩
def RL : String := "DownFramesLaw"
abbrev cL_cell : ByteArray := method_2_code
def yL_cell : MethodName := ⟨RL, "cell", "([II)I"⟩
abbrev cL_law : ByteArray := code
def yL_law : MethodName := ⟨RL, "law", "([I)Z"⟩
def wsX0_init : List Cond := .code yX0_init cX0_init 2 none :: ([.methodLink RX0 3 objectInit, .instanceMethod objectInit, .code objectInit ⟨#[0xb1]⟩ 1 none, .arrayClass .int, .fieldLink RX0 9 "DownFrames$Bytes" "row" "[I", .fieldLink RX0 15 "DownFrames$Bytes" "size" "I"] ++ wsX00)
def wsX0_room : List Cond := .code yX0_room cX0_room 1 (some .int) :: ([.fieldLink RX0 9 "DownFrames$Bytes" "row" "[I", .fieldLink RX0 15 "DownFrames$Bytes" "size" "I"] ++ wsX00)
def wsX0_clear : List Cond := .code yX0_clear cX0_clear 1 none :: ([.fieldLink RX0 15 "DownFrames$Bytes" "size" "I"] ++ wsX00)
def wsX0_put8 : List Cond := .code yX0_put8 cX0_put8 2 none :: ([.fieldLink RX0 15 "DownFrames$Bytes" "size" "I", .fieldLink RX0 9 "DownFrames$Bytes" "row" "[I"] ++ wsX00)
def wsX0_put16 : List Cond := .code yX0_put16 cX0_put16 2 none :: ([.methodLink RX0 19 yX0_put8, .instanceMethod yX0_put8, .selects RX0 yX0_put8 yX0_put8, .initialized RX0, .code yX0_put8 cX0_put8 2 none, .fieldLink RX0 15 "DownFrames$Bytes" "size" "I", .fieldLink RX0 9 "DownFrames$Bytes" "row" "[I"] ++ wsX00)
def wsX0_at : List Cond := .code yX0_at cX0_at 2 (some .int) :: ([.fieldLink RX0 15 "DownFrames$Bytes" "size" "I", .fieldLink RX0 9 "DownFrames$Bytes" "row" "[I"] ++ wsX00)
def wsX0_check : List Cond := .code yX0_check cX0_check 4 (some .int) :: ([.constant RX0 23 (65535), .fieldLink RX0 15 "DownFrames$Bytes" "size" "I", .fieldLink RX0 9 "DownFrames$Bytes" "row" "[I", .constant RX0 24 (65536), .constant RX0 25 (69665)] ++ wsX00)
def wsX1_init : List Cond := .code yX1_init cX1_init 1 none :: ([.methodLink RX1 5 objectInit, .instanceMethod objectInit, .code objectInit ⟨#[0xb1]⟩ 1 none, .arrayClass .int, .fieldLink RX1 11 "DownFrames$Channel" "ring" "[I", .fieldLink RX1 15 "DownFrames$Channel" "head" "I", .fieldLink RX1 19 "DownFrames$Channel" "size" "I"] ++ wsX10)
def wsX1_room : List Cond := .code yX1_room cX1_room 1 (some .int) :: ([.fieldLink RX1 19 "DownFrames$Channel" "size" "I"] ++ wsX10)
def wsX1_add : List Cond := .code yX1_add cX1_add 2 none :: ([.fieldLink RX1 19 "DownFrames$Channel" "size" "I", .fieldLink RX1 11 "DownFrames$Channel" "ring" "[I", .fieldLink RX1 15 "DownFrames$Channel" "head" "I"] ++ wsX10)
def wsX1_addPacket : List Cond := .code yX1_addPacket cX1_addPacket 3 none :: ([.methodLink RX1 25 yX0_at, .instanceMethod yX0_at, .selects RX0 yX0_at yX0_at, .initialized RX0, .code yX0_at cX0_at 2 (some .int), .fieldLink RX0 15 "DownFrames$Bytes" "size" "I", .fieldLink RX0 9 "DownFrames$Bytes" "row" "[I", .methodLink RX1 29 yX1_add, .instanceMethod yX1_add, .selects RX1 yX1_add yX1_add, .initialized RX1, .code yX1_add cX1_add 2 none, .fieldLink RX1 19 "DownFrames$Channel" "size" "I", .fieldLink RX1 11 "DownFrames$Channel" "ring" "[I", .fieldLink RX1 15 "DownFrames$Channel" "head" "I"] ++ wsX00 ++ wsX10)
def wsX1_addEmptyPacket : List Cond := .code yX1_addEmptyPacket cX1_addEmptyPacket 4 none :: ([.methodLink RX1 29 yX1_add, .instanceMethod yX1_add, .selects RX1 yX1_add yX1_add, .initialized RX1, .code yX1_add cX1_add 2 none, .fieldLink RX1 19 "DownFrames$Channel" "size" "I", .fieldLink RX1 11 "DownFrames$Channel" "ring" "[I", .fieldLink RX1 15 "DownFrames$Channel" "head" "I"] ++ wsX10)
def wsX1_fillUpTo : List Cond := .code yX1_fillUpTo cX1_fillUpTo 2 none :: ([.fieldLink RX1 19 "DownFrames$Channel" "size" "I", .methodLink RX1 33 Lib.Math.max.name, .static Lib.Math.max.name, .initialized "java/lang/Math", .code Lib.Math.max.name Lib.Math.max.code 2 (some .int), .methodLink RX1 39 yX1_addEmptyPacket, .instanceMethod yX1_addEmptyPacket, .selects RX1 yX1_addEmptyPacket yX1_addEmptyPacket, .initialized RX1, .code yX1_addEmptyPacket cX1_addEmptyPacket 4 none, .methodLink RX1 29 yX1_add, .instanceMethod yX1_add, .selects RX1 yX1_add yX1_add, .code yX1_add cX1_add 2 none, .fieldLink RX1 11 "DownFrames$Channel" "ring" "[I", .fieldLink RX1 15 "DownFrames$Channel" "head" "I"] ++ wsX10)
def wsX1_firstBegin : List Cond := .code yX1_firstBegin cX1_firstBegin 3 (some .int) :: ([.fieldLink RX1 19 "DownFrames$Channel" "size" "I", .fieldLink RX1 11 "DownFrames$Channel" "ring" "[I", .fieldLink RX1 15 "DownFrames$Channel" "head" "I"] ++ wsX10)
def wsX1_take : List Cond := .code yX1_take cX1_take 2 (some .int) :: ([.fieldLink RX1 19 "DownFrames$Channel" "size" "I", .fieldLink RX1 11 "DownFrames$Channel" "ring" "[I", .fieldLink RX1 15 "DownFrames$Channel" "head" "I"] ++ wsX10)
def wsX2_init_r1 : List Cond := [Cond.methodLink RX2 1 objectInit, Cond.instanceMethod objectInit, Cond.code objectInit ⟨#[0xb1]⟩ 1 none, Cond.methodLink RX2 9 Lib.Math.min.name, Cond.static Lib.Math.min.name, Cond.initialized "java/lang/Math", Cond.code Lib.Math.min.name Lib.Math.min.code 2 (some .int), Cond.methodLink RX2 15 Lib.Math.max.name, Cond.static Lib.Math.max.name, Cond.code Lib.Math.max.name Lib.Math.max.code 2 (some .int), Cond.fieldLink RX2 18 "DownFrames" "length" "I", Cond.classLink RX2 22 RX0, Cond.instantiable RX0 2, Cond.initialized RX0, Cond.fieldLink RX2 27 "DownFrames" "tape" "LDownFrames$Bytes;", Cond.fieldLink RX2 31 "DownFrames" "latest" "LDownFrames$Bytes;", Cond.classLink RX2 34 RX1, Cond.instantiable RX1 3, Cond.initialized RX1, Cond.fieldLink RX2 37 "DownFrames" "channel0" "LDownFrames$Channel;", Cond.fieldLink RX2 41 "DownFrames" "channel1" "LDownFrames$Channel;", Cond.arrayClass .int, Cond.fieldLink RX2 44 "DownFrames" "frames" "[I", Cond.methodLink RX2 24 yX0_init]
def wsX2_init_r2 : List Cond := [Cond.instanceMethod yX0_init, Cond.code yX0_init cX0_init 2 none, Cond.methodLink RX0 3 objectInit, Cond.fieldLink RX0 9 "DownFrames$Bytes" "row" "[I", Cond.fieldLink RX0 15 "DownFrames$Bytes" "size" "I", Cond.methodLink RX2 36 yX1_init, Cond.instanceMethod yX1_init, Cond.code yX1_init cX1_init 1 none, Cond.methodLink RX1 5 objectInit, Cond.fieldLink RX1 11 "DownFrames$Channel" "ring" "[I", Cond.fieldLink RX1 15 "DownFrames$Channel" "head" "I", Cond.fieldLink RX1 19 "DownFrames$Channel" "size" "I"]
def wsX2_init : List Cond := .code yX2_init cX2_init 2 none :: ((wsX2_init_r1 ++ wsX2_init_r2) ++ wsX20 ++ wsX00 ++ wsX10)
def wsX2_give : List Cond := .code yX2_give cX2_give 5 (some .boolean) :: ([.fieldLink RX2 27 "DownFrames" "tape" "LDownFrames$Bytes;", .methodLink RX2 48 yX0_room, .instanceMethod yX0_room, .selects RX0 yX0_room yX0_room, .initialized RX0, .code yX0_room cX0_room 1 (some .int), .fieldLink RX0 9 "DownFrames$Bytes" "row" "[I", .fieldLink RX0 15 "DownFrames$Bytes" "size" "I", .methodLink RX2 52 yX0_put8, .instanceMethod yX0_put8, .selects RX0 yX0_put8 yX0_put8, .code yX0_put8 cX0_put8 2 none] ++ wsX20 ++ wsX00)
def wsX2_channelOf : List Cond := .code yX2_channelOf cX2_channelOf 2 (some (.object "DownFrames$Channel")) :: ([.fieldLink RX2 37 "DownFrames" "channel0" "LDownFrames$Channel;", .fieldLink RX2 41 "DownFrames" "channel1" "LDownFrames$Channel;"] ++ wsX20)
def wsX2_holdsPacket : List Cond := .code yX2_holdsPacket cX2_holdsPacket 2 (some .boolean) :: ([.methodLink RX2 94 yX0_at, .instanceMethod yX0_at, .selects RX0 yX0_at yX0_at, .initialized RX0, .code yX0_at cX0_at 2 (some .int), .fieldLink RX0 15 "DownFrames$Bytes" "size" "I", .fieldLink RX0 9 "DownFrames$Bytes" "row" "[I"] ++ wsX00)
def wsX2_send_r1 : List Cond := [Cond.fieldLink RX2 27 "DownFrames" "tape" "LDownFrames$Bytes;", Cond.methodLink RX2 55 yX2_channelOf, Cond.instanceMethod yX2_channelOf, Cond.selects RX2 yX2_channelOf yX2_channelOf, Cond.initialized RX2, Cond.code yX2_channelOf cX2_channelOf 2 (some (.object "DownFrames$Channel")), Cond.fieldLink RX2 37 "DownFrames" "channel0" "LDownFrames$Channel;", Cond.fieldLink RX2 41 "DownFrames" "channel1" "LDownFrames$Channel;", Cond.methodLink RX2 59 yX2_holdsPacket, Cond.static yX2_holdsPacket, Cond.code yX2_holdsPacket cX2_holdsPacket 2 (some .boolean), Cond.methodLink RX2 94 yX0_at, Cond.instanceMethod yX0_at, Cond.selects RX0 yX0_at yX0_at, Cond.initialized RX0, Cond.code yX0_at cX0_at 2 (some .int), Cond.fieldLink RX0 15 "DownFrames$Bytes" "size" "I", Cond.fieldLink RX0 9 "DownFrames$Bytes" "row" "[I", Cond.methodLink RX2 66 yX1_room, Cond.instanceMethod yX1_room, Cond.selects RX1 yX1_room yX1_room, Cond.initialized RX1, Cond.code yX1_room cX1_room 1 (some .int), Cond.fieldLink RX1 19 "DownFrames$Channel" "size" "I"]
def wsX2_send_r2 : List Cond := [Cond.methodLink RX2 67 yX1_addPacket, Cond.instanceMethod yX1_addPacket, Cond.selects RX1 yX1_addPacket yX1_addPacket, Cond.code yX1_addPacket cX1_addPacket 3 none, Cond.methodLink RX1 25 yX0_at, Cond.methodLink RX1 29 yX1_add, Cond.instanceMethod yX1_add, Cond.selects RX1 yX1_add yX1_add, Cond.code yX1_add cX1_add 2 none, Cond.fieldLink RX1 11 "DownFrames$Channel" "ring" "[I", Cond.fieldLink RX1 15 "DownFrames$Channel" "head" "I", Cond.methodLink RX2 72 yX0_clear, Cond.instanceMethod yX0_clear, Cond.selects RX0 yX0_clear yX0_clear, Cond.code yX0_clear cX0_clear 1 none]
def wsX2_send : List Cond := .code yX2_send cX2_send 4 (some .int) :: ((wsX2_send_r1 ++ wsX2_send_r2) ++ wsX20 ++ wsX00 ++ wsX10)
def wsX2_nextChannel : List Cond := .code yX2_nextChannel cX2_nextChannel 1 (some .int) :: ([.fieldLink RX2 37 "DownFrames" "channel0" "LDownFrames$Channel;", .fieldLink RX2 41 "DownFrames" "channel1" "LDownFrames$Channel;"] ++ wsX20 ++ wsX10)
def wsX2_frame_r1 : List Cond := [Cond.fieldLink RX2 18 "DownFrames" "length" "I", Cond.fieldLink RX2 31 "DownFrames" "latest" "LDownFrames$Bytes;", Cond.fieldLink RX2 44 "DownFrames" "frames" "[I", Cond.methodLink RX2 75 yX2_nextChannel, Cond.instanceMethod yX2_nextChannel, Cond.selects RX2 yX2_nextChannel yX2_nextChannel, Cond.initialized RX2, Cond.code yX2_nextChannel cX2_nextChannel 1 (some .int), Cond.fieldLink RX2 37 "DownFrames" "channel0" "LDownFrames$Channel;", Cond.fieldLink RX2 41 "DownFrames" "channel1" "LDownFrames$Channel;", Cond.methodLink RX2 55 yX2_channelOf, Cond.instanceMethod yX2_channelOf, Cond.selects RX2 yX2_channelOf yX2_channelOf, Cond.code yX2_channelOf cX2_channelOf 2 (some (.object "DownFrames$Channel")), Cond.methodLink RX2 78 yX1_fillUpTo, Cond.instanceMethod yX1_fillUpTo, Cond.selects RX1 yX1_fillUpTo yX1_fillUpTo, Cond.initialized RX1, Cond.code yX1_fillUpTo cX1_fillUpTo 2 none, Cond.fieldLink RX1 19 "DownFrames$Channel" "size" "I", Cond.methodLink RX1 33 Lib.Math.max.name, Cond.static Lib.Math.max.name, Cond.initialized "java/lang/Math", Cond.code Lib.Math.max.name Lib.Math.max.code 2 (some .int)]
def wsX2_frame_r2 : List Cond := [Cond.methodLink RX1 39 yX1_addEmptyPacket, Cond.instanceMethod yX1_addEmptyPacket, Cond.selects RX1 yX1_addEmptyPacket yX1_addEmptyPacket, Cond.code yX1_addEmptyPacket cX1_addEmptyPacket 4 none, Cond.methodLink RX1 29 yX1_add, Cond.instanceMethod yX1_add, Cond.selects RX1 yX1_add yX1_add, Cond.code yX1_add cX1_add 2 none, Cond.fieldLink RX1 11 "DownFrames$Channel" "ring" "[I", Cond.fieldLink RX1 15 "DownFrames$Channel" "head" "I", Cond.methodLink RX2 72 yX0_clear, Cond.instanceMethod yX0_clear, Cond.selects RX0 yX0_clear yX0_clear, Cond.initialized RX0, Cond.code yX0_clear cX0_clear 1 none, Cond.fieldLink RX0 15 "DownFrames$Bytes" "size" "I", Cond.methodLink RX2 81 yX0_put16, Cond.instanceMethod yX0_put16, Cond.selects RX0 yX0_put16 yX0_put16, Cond.code yX0_put16 cX0_put16 2 none, Cond.methodLink RX0 19 yX0_put8, Cond.instanceMethod yX0_put8, Cond.selects RX0 yX0_put8 yX0_put8, Cond.code yX0_put8 cX0_put8 2 none]
def wsX2_frame_r3 : List Cond := [Cond.fieldLink RX0 9 "DownFrames$Bytes" "row" "[I", Cond.methodLink RX2 52 yX0_put8, Cond.methodLink RX2 84 yX1_firstBegin, Cond.instanceMethod yX1_firstBegin, Cond.selects RX1 yX1_firstBegin yX1_firstBegin, Cond.code yX1_firstBegin cX1_firstBegin 3 (some .int), Cond.methodLink RX2 88 yX1_take, Cond.instanceMethod yX1_take, Cond.selects RX1 yX1_take yX1_take, Cond.code yX1_take cX1_take 2 (some .int), Cond.methodLink RX2 91 yX0_check, Cond.instanceMethod yX0_check, Cond.selects RX0 yX0_check yX0_check, Cond.code yX0_check cX0_check 4 (some .int), Cond.constant RX0 23 (65535), Cond.constant RX0 24 (65536), Cond.constant RX0 25 (69665)]
def wsX2_frame : List Cond := .code yX2_frame cX2_frame 7 (some .int) :: ((wsX2_frame_r1 ++ (wsX2_frame_r2 ++ wsX2_frame_r3)) ++ wsX20 ++ wsX10 ++ wsX00)
def wsX2_byteAt : List Cond := .code yX2_byteAt cX2_byteAt 2 (some .int) :: ([.fieldLink RX2 31 "DownFrames" "latest" "LDownFrames$Bytes;", .methodLink RX2 94 yX0_at, .instanceMethod yX0_at, .selects RX0 yX0_at yX0_at, .initialized RX0, .code yX0_at cX0_at 2 (some .int), .fieldLink RX0 15 "DownFrames$Bytes" "size" "I", .fieldLink RX0 9 "DownFrames$Bytes" "row" "[I"] ++ wsX20 ++ wsX00)
def wsX2_waiting : List Cond := .code yX2_waiting cX2_waiting 3 (some .int) :: ([.methodLink RX2 55 yX2_channelOf, .instanceMethod yX2_channelOf, .selects RX2 yX2_channelOf yX2_channelOf, .initialized RX2, .code yX2_channelOf cX2_channelOf 2 (some (.object "DownFrames$Channel")), .fieldLink RX2 37 "DownFrames" "channel0" "LDownFrames$Channel;", .fieldLink RX2 41 "DownFrames" "channel1" "LDownFrames$Channel;"] ++ wsX10 ++ wsX20)
def wsX2_count : List Cond := .code yX2_count cX2_count 2 (some .int) :: ([.fieldLink RX2 44 "DownFrames" "frames" "[I", .fieldLink RX2 27 "DownFrames" "tape" "LDownFrames$Bytes;", .fieldLink RX2 18 "DownFrames" "length" "I"] ++ wsX20 ++ wsX00)
def wsX3_init : List Cond := .code yX3_init cX3_init 2 none :: ([.methodLink RX3 1 objectInit, .instanceMethod objectInit, .code objectInit ⟨#[0xb1]⟩ 1 none, .arrayClass .byte, .fieldLink RX3 7 "DownFramesModel" "tape" "[B", .fieldLink RX3 13 "DownFramesModel" "bytes" "[B", .arrayClass .boolean, .fieldLink RX3 16 "DownFramesModel" "begins" "[Z", .arrayClass .int, .fieldLink RX3 20 "DownFramesModel" "waits" "[I", .fieldLink RX3 24 "DownFramesModel" "frames" "[I", .fieldLink RX3 27 "DownFramesModel" "frame" "[B", .fieldLink RX3 30 "DownFramesModel" "length" "I"] ++ wsX30)
def wsX3_give : List Cond := .code yX3_give cX3_give 5 (some .boolean) :: ([.fieldLink RX3 34 "DownFramesModel" "thrown" "I", .fieldLink RX3 37 "DownFramesModel" "many" "I", .fieldLink RX3 7 "DownFramesModel" "tape" "[B"] ++ wsX30)
def wsX3_wait : List Cond := .code yX3_wait cX3_wait 4 none :: ([.fieldLink RX3 13 "DownFramesModel" "bytes" "[B", .fieldLink RX3 20 "DownFramesModel" "waits" "[I", .fieldLink RX3 16 "DownFramesModel" "begins" "[Z"] ++ wsX30)
def wsX3_send : List Cond := .code yX3_send cX3_send 5 (some .int) :: ([.fieldLink RX3 34 "DownFramesModel" "thrown" "I", .fieldLink RX3 37 "DownFramesModel" "many" "I", .fieldLink RX3 7 "DownFramesModel" "tape" "[B", .fieldLink RX3 20 "DownFramesModel" "waits" "[I", .methodLink RX3 40 yX3_wait, .instanceMethod yX3_wait, .selects RX3 yX3_wait yX3_wait, .initialized RX3, .code yX3_wait cX3_wait 4 none, .fieldLink RX3 13 "DownFramesModel" "bytes" "[B", .fieldLink RX3 16 "DownFramesModel" "begins" "[Z"] ++ wsX30)
def wsX3_add : List Cond := .code yX3_add cX3_add 2 none :: ([.fieldLink RX3 27 "DownFramesModel" "frame" "[B", .fieldLink RX3 44 "DownFramesModel" "filled" "I"] ++ wsX30)
def wsX3_check : List Cond := .code yX3_check cX3_check 4 (some .int) :: ([.constant RX3 47 (65535), .fieldLink RX3 44 "DownFramesModel" "filled" "I", .fieldLink RX3 27 "DownFramesModel" "frame" "[B"] ++ wsX30)
def wsX3_fills : List Cond := .code yX3_fills cX3_fills 5 none :: ([.methodLink RX3 40 yX3_wait, .instanceMethod yX3_wait, .selects RX3 yX3_wait yX3_wait, .initialized RX3, .code yX3_wait cX3_wait 4 none, .fieldLink RX3 13 "DownFramesModel" "bytes" "[B", .fieldLink RX3 20 "DownFramesModel" "waits" "[I", .fieldLink RX3 16 "DownFramesModel" "begins" "[Z"] ++ wsX30)
def wsX3_first : List Cond := .code yX3_first cX3_first 4 (some .int) :: ([.fieldLink RX3 16 "DownFramesModel" "begins" "[Z"] ++ wsX30)
def wsX3_frame_r1 : List Cond := [Cond.fieldLink RX3 34 "DownFramesModel" "thrown" "I", Cond.fieldLink RX3 20 "DownFramesModel" "waits" "[I", Cond.fieldLink RX3 30 "DownFramesModel" "length" "I", Cond.fieldLink RX3 44 "DownFramesModel" "filled" "I", Cond.fieldLink RX3 24 "DownFramesModel" "frames" "[I", Cond.fieldLink RX3 13 "DownFramesModel" "bytes" "[B", Cond.methodLink RX3 50 yX3_fills, Cond.instanceMethod yX3_fills, Cond.selects RX3 yX3_fills yX3_fills, Cond.initialized RX3, Cond.code yX3_fills cX3_fills 5 none, Cond.methodLink RX3 40 yX3_wait, Cond.instanceMethod yX3_wait, Cond.selects RX3 yX3_wait yX3_wait, Cond.code yX3_wait cX3_wait 4 none, Cond.fieldLink RX3 16 "DownFramesModel" "begins" "[Z", Cond.methodLink RX3 54 yX3_first, Cond.instanceMethod yX3_first, Cond.selects RX3 yX3_first yX3_first, Cond.code yX3_first cX3_first 4 (some .int), Cond.methodLink RX3 58 yX3_add, Cond.instanceMethod yX3_add, Cond.selects RX3 yX3_add yX3_add, Cond.code yX3_add cX3_add 2 none]
def wsX3_frame_r2 : List Cond := [Cond.fieldLink RX3 27 "DownFramesModel" "frame" "[B", Cond.methodLink RX3 62 yX3_check, Cond.instanceMethod yX3_check, Cond.selects RX3 yX3_check yX3_check, Cond.code yX3_check cX3_check 4 (some .int), Cond.constant RX3 47 (65535)]
def wsX3_frame : List Cond := .code yX3_frame cX3_frame 7 (some .int) :: ((wsX3_frame_r1 ++ wsX3_frame_r2) ++ wsX30)
def wsJ9_max_7cf53 : List Cond := .code yJ9_max_7cf53 cJ9_max_7cf53 2 (some .int) :: ([])
def wsJ9_min_7cf53 : List Cond := .code yJ9_min_7cf53 cJ9_min_7cf53 2 (some .int) :: ([])
def wsL_cell : List Cond := .code yL_cell cL_cell 2 (some .int) :: ([])
def wsL_law_r1 : List Cond := [Cond.classLink RL 7 RX2, Cond.instantiable RX2 6, Cond.initialized RX2, Cond.classLink RL 18 RX3, Cond.instantiable RX3 10, Cond.initialized RX3, Cond.methodLink RL 9 yL_cell, Cond.static yL_cell, Cond.initialized RL, Cond.code yL_cell cL_cell 2 (some .int), Cond.methodLink RL 15 yX2_init, Cond.instanceMethod yX2_init, Cond.code yX2_init cX2_init 2 none, Cond.methodLink RX2 1 objectInit, Cond.instanceMethod objectInit, Cond.code objectInit ⟨#[0xb1]⟩ 1 none, Cond.methodLink RX2 9 Lib.Math.min.name, Cond.static Lib.Math.min.name, Cond.initialized "java/lang/Math", Cond.code Lib.Math.min.name Lib.Math.min.code 2 (some .int), Cond.methodLink RX2 15 Lib.Math.max.name, Cond.static Lib.Math.max.name, Cond.code Lib.Math.max.name Lib.Math.max.code 2 (some .int), Cond.fieldLink RX2 18 "DownFrames" "length" "I"]
def wsL_law_r2 : List Cond := [Cond.classLink RX2 22 RX0, Cond.instantiable RX0 2, Cond.initialized RX0, Cond.fieldLink RX2 27 "DownFrames" "tape" "LDownFrames$Bytes;", Cond.fieldLink RX2 31 "DownFrames" "latest" "LDownFrames$Bytes;", Cond.classLink RX2 34 RX1, Cond.instantiable RX1 3, Cond.initialized RX1, Cond.fieldLink RX2 37 "DownFrames" "channel0" "LDownFrames$Channel;", Cond.fieldLink RX2 41 "DownFrames" "channel1" "LDownFrames$Channel;", Cond.arrayClass .int, Cond.fieldLink RX2 44 "DownFrames" "frames" "[I", Cond.methodLink RX2 24 yX0_init, Cond.instanceMethod yX0_init, Cond.code yX0_init cX0_init 2 none, Cond.methodLink RX0 3 objectInit, Cond.fieldLink RX0 9 "DownFrames$Bytes" "row" "[I", Cond.fieldLink RX0 15 "DownFrames$Bytes" "size" "I", Cond.methodLink RX2 36 yX1_init, Cond.instanceMethod yX1_init, Cond.code yX1_init cX1_init 1 none, Cond.methodLink RX1 5 objectInit, Cond.fieldLink RX1 11 "DownFrames$Channel" "ring" "[I", Cond.fieldLink RX1 15 "DownFrames$Channel" "head" "I"]
def wsL_law_r3 : List Cond := [Cond.fieldLink RX1 19 "DownFrames$Channel" "size" "I", Cond.methodLink RL 20 yX3_init, Cond.instanceMethod yX3_init, Cond.code yX3_init cX3_init 2 none, Cond.methodLink RX3 1 objectInit, Cond.arrayClass .byte, Cond.fieldLink RX3 7 "DownFramesModel" "tape" "[B", Cond.fieldLink RX3 13 "DownFramesModel" "bytes" "[B", Cond.arrayClass .boolean, Cond.fieldLink RX3 16 "DownFramesModel" "begins" "[Z", Cond.fieldLink RX3 20 "DownFramesModel" "waits" "[I", Cond.fieldLink RX3 24 "DownFramesModel" "frames" "[I", Cond.fieldLink RX3 27 "DownFramesModel" "frame" "[B", Cond.fieldLink RX3 30 "DownFramesModel" "length" "I", Cond.methodLink RL 23 yX2_give, Cond.instanceMethod yX2_give, Cond.selects RX2 yX2_give yX2_give, Cond.code yX2_give cX2_give 5 (some .boolean), Cond.methodLink RX2 48 yX0_room, Cond.instanceMethod yX0_room, Cond.selects RX0 yX0_room yX0_room, Cond.code yX0_room cX0_room 1 (some .int), Cond.methodLink RX2 52 yX0_put8, Cond.instanceMethod yX0_put8]
def wsL_law_r4 : List Cond := [Cond.selects RX0 yX0_put8 yX0_put8, Cond.code yX0_put8 cX0_put8 2 none, Cond.methodLink RL 27 yX3_give, Cond.instanceMethod yX3_give, Cond.selects RX3 yX3_give yX3_give, Cond.code yX3_give cX3_give 5 (some .boolean), Cond.fieldLink RX3 34 "DownFramesModel" "thrown" "I", Cond.fieldLink RX3 37 "DownFramesModel" "many" "I", Cond.methodLink RL 28 yX2_send, Cond.instanceMethod yX2_send, Cond.selects RX2 yX2_send yX2_send, Cond.code yX2_send cX2_send 4 (some .int), Cond.methodLink RX2 55 yX2_channelOf, Cond.instanceMethod yX2_channelOf, Cond.selects RX2 yX2_channelOf yX2_channelOf, Cond.code yX2_channelOf cX2_channelOf 2 (some (.object "DownFrames$Channel")), Cond.methodLink RX2 59 yX2_holdsPacket, Cond.static yX2_holdsPacket, Cond.code yX2_holdsPacket cX2_holdsPacket 2 (some .boolean), Cond.methodLink RX2 94 yX0_at, Cond.instanceMethod yX0_at, Cond.selects RX0 yX0_at yX0_at, Cond.code yX0_at cX0_at 2 (some .int), Cond.methodLink RX2 66 yX1_room]
def wsL_law_r5 : List Cond := [Cond.instanceMethod yX1_room, Cond.selects RX1 yX1_room yX1_room, Cond.code yX1_room cX1_room 1 (some .int), Cond.methodLink RX2 67 yX1_addPacket, Cond.instanceMethod yX1_addPacket, Cond.selects RX1 yX1_addPacket yX1_addPacket, Cond.code yX1_addPacket cX1_addPacket 3 none, Cond.methodLink RX1 25 yX0_at, Cond.methodLink RX1 29 yX1_add, Cond.instanceMethod yX1_add, Cond.selects RX1 yX1_add yX1_add, Cond.code yX1_add cX1_add 2 none, Cond.methodLink RX2 72 yX0_clear, Cond.instanceMethod yX0_clear, Cond.selects RX0 yX0_clear yX0_clear, Cond.code yX0_clear cX0_clear 1 none, Cond.methodLink RL 32 yX3_send, Cond.instanceMethod yX3_send, Cond.selects RX3 yX3_send yX3_send, Cond.code yX3_send cX3_send 5 (some .int), Cond.methodLink RX3 40 yX3_wait, Cond.instanceMethod yX3_wait, Cond.selects RX3 yX3_wait yX3_wait, Cond.code yX3_wait cX3_wait 4 none]
def wsL_law_r6 : List Cond := [Cond.methodLink RL 33 yX2_frame, Cond.instanceMethod yX2_frame, Cond.selects RX2 yX2_frame yX2_frame, Cond.code yX2_frame cX2_frame 7 (some .int), Cond.methodLink RX2 75 yX2_nextChannel, Cond.instanceMethod yX2_nextChannel, Cond.selects RX2 yX2_nextChannel yX2_nextChannel, Cond.code yX2_nextChannel cX2_nextChannel 1 (some .int), Cond.methodLink RX2 78 yX1_fillUpTo, Cond.instanceMethod yX1_fillUpTo, Cond.selects RX1 yX1_fillUpTo yX1_fillUpTo, Cond.code yX1_fillUpTo cX1_fillUpTo 2 none, Cond.methodLink RX1 33 Lib.Math.max.name, Cond.methodLink RX1 39 yX1_addEmptyPacket, Cond.instanceMethod yX1_addEmptyPacket, Cond.selects RX1 yX1_addEmptyPacket yX1_addEmptyPacket, Cond.code yX1_addEmptyPacket cX1_addEmptyPacket 4 none, Cond.methodLink RX2 81 yX0_put16, Cond.instanceMethod yX0_put16, Cond.selects RX0 yX0_put16 yX0_put16, Cond.code yX0_put16 cX0_put16 2 none, Cond.methodLink RX0 19 yX0_put8, Cond.methodLink RX2 84 yX1_firstBegin, Cond.instanceMethod yX1_firstBegin]
def wsL_law_r7 : List Cond := [Cond.selects RX1 yX1_firstBegin yX1_firstBegin, Cond.code yX1_firstBegin cX1_firstBegin 3 (some .int), Cond.methodLink RX2 88 yX1_take, Cond.instanceMethod yX1_take, Cond.selects RX1 yX1_take yX1_take, Cond.code yX1_take cX1_take 2 (some .int), Cond.methodLink RX2 91 yX0_check, Cond.instanceMethod yX0_check, Cond.selects RX0 yX0_check yX0_check, Cond.code yX0_check cX0_check 4 (some .int), Cond.constant RX0 23 (65535), Cond.constant RX0 24 (65536), Cond.constant RX0 25 (69665), Cond.methodLink RL 36 yX3_frame, Cond.instanceMethod yX3_frame, Cond.selects RX3 yX3_frame yX3_frame, Cond.code yX3_frame cX3_frame 7 (some .int), Cond.fieldLink RX3 44 "DownFramesModel" "filled" "I", Cond.methodLink RX3 50 yX3_fills, Cond.instanceMethod yX3_fills, Cond.selects RX3 yX3_fills yX3_fills, Cond.code yX3_fills cX3_fills 5 none, Cond.methodLink RX3 54 yX3_first, Cond.instanceMethod yX3_first]
def wsL_law_r8 : List Cond := [Cond.selects RX3 yX3_first yX3_first, Cond.code yX3_first cX3_first 4 (some .int), Cond.methodLink RX3 58 yX3_add, Cond.instanceMethod yX3_add, Cond.selects RX3 yX3_add yX3_add, Cond.code yX3_add cX3_add 2 none, Cond.methodLink RX3 62 yX3_check, Cond.instanceMethod yX3_check, Cond.selects RX3 yX3_check yX3_check, Cond.code yX3_check cX3_check 4 (some .int), Cond.constant RX3 47 (65535), Cond.methodLink RL 37 yX2_byteAt, Cond.instanceMethod yX2_byteAt, Cond.selects RX2 yX2_byteAt yX2_byteAt, Cond.code yX2_byteAt cX2_byteAt 2 (some .int), Cond.methodLink RL 41 yX2_waiting, Cond.instanceMethod yX2_waiting, Cond.selects RX2 yX2_waiting yX2_waiting, Cond.code yX2_waiting cX2_waiting 3 (some .int), Cond.methodLink RL 45 yX2_count, Cond.instanceMethod yX2_count, Cond.selects RX2 yX2_count yX2_count, Cond.code yX2_count cX2_count 2 (some .int)]
def wsL_law : List Cond := (wsL_law_r1 ++ (wsL_law_r2 ++ (wsL_law_r3 ++ (wsL_law_r4 ++ (wsL_law_r5 ++ (wsL_law_r6 ++ (wsL_law_r7 ++ wsL_law_r8))))))) ++ wsX20 ++ wsX30 ++ wsX00 ++ wsX10 ++ ([] : List Cond)
set_option maxRecDepth 20000 in
theorem wsL_law_in : ∀ w ∈ wsL_law, w ∈ lw_tbl := fun w h => (goodIn_p wsL_law [177, 20, 23, 26, 29, 34, 50, 182, 85, 89, 93, 220, 97, 101, 104, 108, 112, 116, 121, 125, 224, 228, 129, 133, 137, 142, 146, 151, 155, 159, 232, 236, 240, 244, 248, 166, 170, 174] (by decide +kernel) (by decide +kernel) w h).1
theorem inlX0 : ∀ w ∈ wsX00, w ∈ wsL_law := fun _ h => List.mem_append_left _ (List.mem_append_left _ (List.mem_append_right _ h))
theorem inX0 : ∀ w ∈ wsX00, w ∈ lw_tbl := fun w h => wsL_law_in w (inlX0 w h)
theorem inlX1 : ∀ w ∈ wsX10, w ∈ wsL_law := fun _ h => List.mem_append_left _ (List.mem_append_right _ h)
theorem inX1 : ∀ w ∈ wsX10, w ∈ lw_tbl := fun w h => wsL_law_in w (inlX1 w h)
theorem inlX2 : ∀ w ∈ wsX20, w ∈ wsL_law := fun _ h => List.mem_append_left _ (List.mem_append_left _ (List.mem_append_left _ (List.mem_append_left _ (List.mem_append_right _ h))))
theorem inX2 : ∀ w ∈ wsX20, w ∈ lw_tbl := fun w h => wsL_law_in w (inlX2 w h)
theorem inlX3 : ∀ w ∈ wsX30, w ∈ wsL_law := fun _ h => List.mem_append_left _ (List.mem_append_left _ (List.mem_append_left _ (List.mem_append_right _ h)))
theorem inX3 : ∀ w ∈ wsX30, w ∈ lw_tbl := fun w h => wsL_law_in w (inlX3 w h)
theorem inJ9 : ∀ w ∈ wsJ90, w ∈ lw_tbl := by decide +kernel
theorem dX0_init_0 : decode cX0_init 0 = .ok (.aload_n 0, 1) := by decide +kernel
theorem dX0_init_1 : decode cX0_init 1 = .ok (.invokespecial 3, 3) := by decide +kernel
theorem dX0_init_4 : decode cX0_init 4 = .ok (.aload_n 0, 1) := by decide +kernel
theorem dX0_init_5 : decode cX0_init 5 = .ok (.iload_n 1, 1) := by decide +kernel
theorem dX0_init_6 : decode cX0_init 6 = .ok (.newarray .int, 2) := by decide +kernel
theorem dX0_init_8 : decode cX0_init 8 = .ok (.putfield 9, 3) := by decide +kernel
theorem dX0_init_11 : decode cX0_init 11 = .ok (.aload_n 0, 1) := by decide +kernel
theorem dX0_init_12 : decode cX0_init 12 = .ok (.iconst 0, 1) := by decide +kernel
theorem dX0_init_13 : decode cX0_init 13 = .ok (.putfield 15, 3) := by decide +kernel
theorem dX0_init_16 : decode cX0_init 16 = .ok (.return_, 1) := by decide +kernel
theorem dX0_room_0 : decode cX0_room 0 = .ok (.aload_n 0, 1) := by decide +kernel
theorem dX0_room_1 : decode cX0_room 1 = .ok (.getfield 9, 3) := by decide +kernel
theorem dX0_room_4 : decode cX0_room 4 = .ok (.arraylength, 1) := by decide +kernel
theorem dX0_room_5 : decode cX0_room 5 = .ok (.aload_n 0, 1) := by decide +kernel
theorem dX0_room_6 : decode cX0_room 6 = .ok (.getfield 15, 3) := by decide +kernel
theorem dX0_room_9 : decode cX0_room 9 = .ok (.isub, 1) := by decide +kernel
theorem dX0_room_10 : decode cX0_room 10 = .ok (.ireturn, 1) := by decide +kernel
theorem dX0_clear_0 : decode cX0_clear 0 = .ok (.aload_n 0, 1) := by decide +kernel
theorem dX0_clear_1 : decode cX0_clear 1 = .ok (.iconst 0, 1) := by decide +kernel
theorem dX0_clear_2 : decode cX0_clear 2 = .ok (.putfield 15, 3) := by decide +kernel
theorem dX0_clear_5 : decode cX0_clear 5 = .ok (.return_, 1) := by decide +kernel
theorem dX0_put8_0 : decode cX0_put8 0 = .ok (.aload_n 0, 1) := by decide +kernel
theorem dX0_put8_1 : decode cX0_put8 1 = .ok (.getfield 15, 3) := by decide +kernel
theorem dX0_put8_4 : decode cX0_put8 4 = .ok (.aload_n 0, 1) := by decide +kernel
theorem dX0_put8_5 : decode cX0_put8 5 = .ok (.getfield 9, 3) := by decide +kernel
theorem dX0_put8_8 : decode cX0_put8 8 = .ok (.arraylength, 1) := by decide +kernel
theorem dX0_put8_9 : decode cX0_put8 9 = .ok (.if_icmp .ge 27, 3) := by decide +kernel
theorem dX0_put8_12 : decode cX0_put8 12 = .ok (.aload_n 0, 1) := by decide +kernel
theorem dX0_put8_13 : decode cX0_put8 13 = .ok (.getfield 9, 3) := by decide +kernel
theorem dX0_put8_16 : decode cX0_put8 16 = .ok (.aload_n 0, 1) := by decide +kernel
theorem dX0_put8_17 : decode cX0_put8 17 = .ok (.getfield 15, 3) := by decide +kernel
theorem dX0_put8_20 : decode cX0_put8 20 = .ok (.iload_n 1, 1) := by decide +kernel
theorem dX0_put8_21 : decode cX0_put8 21 = .ok (.sipush 255, 3) := by decide +kernel
theorem dX0_put8_24 : decode cX0_put8 24 = .ok (.iand, 1) := by decide +kernel
theorem dX0_put8_25 : decode cX0_put8 25 = .ok (.iastore, 1) := by decide +kernel
theorem dX0_put8_26 : decode cX0_put8 26 = .ok (.aload_n 0, 1) := by decide +kernel
theorem dX0_put8_27 : decode cX0_put8 27 = .ok (.dup, 1) := by decide +kernel
theorem dX0_put8_28 : decode cX0_put8 28 = .ok (.getfield 15, 3) := by decide +kernel
theorem dX0_put8_31 : decode cX0_put8 31 = .ok (.iconst 1, 1) := by decide +kernel
theorem dX0_put8_32 : decode cX0_put8 32 = .ok (.iadd, 1) := by decide +kernel
theorem dX0_put8_33 : decode cX0_put8 33 = .ok (.putfield 15, 3) := by decide +kernel
theorem dX0_put8_36 : decode cX0_put8 36 = .ok (.return_, 1) := by decide +kernel
set_option maxRecDepth 20000 in
theorem ggX0_put16_X0_put8 : GoodIn wsX0_put16 wsX0_put8 := goodIn_r _ [5, 6, 7, 8, 9] (by decide +kernel) (by decide +kernel)
set_option maxRecDepth 20000 in
theorem gX0_put16_X0_put8 : GoodIn wsX0_put16 (wsV RX0 19 RX0 yX0_put8 wsX0_put8) := goodIn_app (goodIn_of _ (by decide +kernel)) ggX0_put16_X0_put8
theorem dX0_put16_0 : decode cX0_put16 0 = .ok (.aload_n 0, 1) := by decide +kernel
theorem dX0_put16_1 : decode cX0_put16 1 = .ok (.iload_n 1, 1) := by decide +kernel
theorem dX0_put16_2 : decode cX0_put16 2 = .ok (.bipush 8, 2) := by decide +kernel
theorem dX0_put16_4 : decode cX0_put16 4 = .ok (.iushr, 1) := by decide +kernel
theorem dX0_put16_5 : decode cX0_put16 5 = .ok (.invokevirtual 19, 3) := by decide +kernel
theorem dX0_put16_8 : decode cX0_put16 8 = .ok (.aload_n 0, 1) := by decide +kernel
theorem dX0_put16_9 : decode cX0_put16 9 = .ok (.iload_n 1, 1) := by decide +kernel
theorem dX0_put16_10 : decode cX0_put16 10 = .ok (.invokevirtual 19, 3) := by decide +kernel
theorem dX0_put16_13 : decode cX0_put16 13 = .ok (.return_, 1) := by decide +kernel
theorem dX0_at_0 : decode cX0_at 0 = .ok (.iload_n 1, 1) := by decide +kernel
theorem dX0_at_1 : decode cX0_at 1 = .ok (.ifCond .lt 20, 3) := by decide +kernel
theorem dX0_at_4 : decode cX0_at 4 = .ok (.iload_n 1, 1) := by decide +kernel
theorem dX0_at_5 : decode cX0_at 5 = .ok (.aload_n 0, 1) := by decide +kernel
theorem dX0_at_6 : decode cX0_at 6 = .ok (.getfield 15, 3) := by decide +kernel
theorem dX0_at_9 : decode cX0_at 9 = .ok (.if_icmp .ge 12, 3) := by decide +kernel
theorem dX0_at_12 : decode cX0_at 12 = .ok (.aload_n 0, 1) := by decide +kernel
theorem dX0_at_13 : decode cX0_at 13 = .ok (.getfield 9, 3) := by decide +kernel
theorem dX0_at_16 : decode cX0_at 16 = .ok (.iload_n 1, 1) := by decide +kernel
theorem dX0_at_17 : decode cX0_at 17 = .ok (.iaload, 1) := by decide +kernel
theorem dX0_at_18 : decode cX0_at 18 = .ok (.goto 4, 3) := by decide +kernel
theorem dX0_at_21 : decode cX0_at 21 = .ok (.iconst (-1), 1) := by decide +kernel
theorem dX0_at_22 : decode cX0_at 22 = .ok (.ireturn, 1) := by decide +kernel
theorem dX0_check_0 : decode cX0_check 0 = .ok (.ldc 23, 2) := by decide +kernel
theorem dX0_check_2 : decode cX0_check 2 = .ok (.istore_n 1, 1) := by decide +kernel
theorem dX0_check_3 : decode cX0_check 3 = .ok (.iconst 0, 1) := by decide +kernel
theorem dX0_check_4 : decode cX0_check 4 = .ok (.istore_n 2, 1) := by decide +kernel
theorem dX0_check_5 : decode cX0_check 5 = .ok (.iload_n 2, 1) := by decide +kernel
theorem dX0_check_6 : decode cX0_check 6 = .ok (.aload_n 0, 1) := by decide +kernel
theorem dX0_check_7 : decode cX0_check 7 = .ok (.getfield 15, 3) := by decide +kernel
theorem dX0_check_10 : decode cX0_check 10 = .ok (.if_icmp .ge 51, 3) := by decide +kernel
theorem dX0_check_13 : decode cX0_check 13 = .ok (.iload_n 1, 1) := by decide +kernel
theorem dX0_check_14 : decode cX0_check 14 = .ok (.aload_n 0, 1) := by decide +kernel
theorem dX0_check_15 : decode cX0_check 15 = .ok (.getfield 9, 3) := by decide +kernel
theorem dX0_check_18 : decode cX0_check 18 = .ok (.iload_n 2, 1) := by decide +kernel
theorem dX0_check_19 : decode cX0_check 19 = .ok (.iaload, 1) := by decide +kernel
theorem dX0_check_20 : decode cX0_check 20 = .ok (.sipush 256, 3) := by decide +kernel
theorem dX0_check_23 : decode cX0_check 23 = .ok (.imul, 1) := by decide +kernel
theorem dX0_check_24 : decode cX0_check 24 = .ok (.ixor, 1) := by decide +kernel
theorem dX0_check_25 : decode cX0_check 25 = .ok (.istore_n 1, 1) := by decide +kernel
theorem dX0_check_26 : decode cX0_check 26 = .ok (.iconst 0, 1) := by decide +kernel
theorem dX0_check_27 : decode cX0_check 27 = .ok (.istore_n 3, 1) := by decide +kernel
theorem dX0_check_28 : decode cX0_check 28 = .ok (.iload_n 3, 1) := by decide +kernel
theorem dX0_check_29 : decode cX0_check 29 = .ok (.bipush 8, 2) := by decide +kernel
theorem dX0_check_31 : decode cX0_check 31 = .ok (.if_icmp .ge 24, 3) := by decide +kernel
theorem dX0_check_34 : decode cX0_check 34 = .ok (.iload_n 1, 1) := by decide +kernel
theorem dX0_check_35 : decode cX0_check 35 = .ok (.iconst 2, 1) := by decide +kernel
theorem dX0_check_36 : decode cX0_check 36 = .ok (.imul, 1) := by decide +kernel
theorem dX0_check_37 : decode cX0_check 37 = .ok (.istore_n 1, 1) := by decide +kernel
theorem dX0_check_38 : decode cX0_check 38 = .ok (.iload_n 1, 1) := by decide +kernel
theorem dX0_check_39 : decode cX0_check 39 = .ok (.ldc 24, 2) := by decide +kernel
theorem dX0_check_41 : decode cX0_check 41 = .ok (.if_icmp .lt 8, 3) := by decide +kernel
theorem dX0_check_44 : decode cX0_check 44 = .ok (.iload_n 1, 1) := by decide +kernel
theorem dX0_check_45 : decode cX0_check 45 = .ok (.ldc 25, 2) := by decide +kernel
theorem dX0_check_47 : decode cX0_check 47 = .ok (.ixor, 1) := by decide +kernel
theorem dX0_check_48 : decode cX0_check 48 = .ok (.istore_n 1, 1) := by decide +kernel
theorem dX0_check_49 : decode cX0_check 49 = .ok (.iinc 3 1, 3) := by decide +kernel
theorem dX0_check_52 : decode cX0_check 52 = .ok (.goto (-24), 3) := by decide +kernel
theorem dX0_check_55 : decode cX0_check 55 = .ok (.iinc 2 1, 3) := by decide +kernel
theorem dX0_check_58 : decode cX0_check 58 = .ok (.goto (-53), 3) := by decide +kernel
theorem dX0_check_61 : decode cX0_check 61 = .ok (.iload_n 1, 1) := by decide +kernel
theorem dX0_check_62 : decode cX0_check 62 = .ok (.ireturn, 1) := by decide +kernel
theorem dX1_init_0 : decode cX1_init 0 = .ok (.aload_n 0, 1) := by decide +kernel
theorem dX1_init_1 : decode cX1_init 1 = .ok (.invokespecial 5, 3) := by decide +kernel
theorem dX1_init_4 : decode cX1_init 4 = .ok (.aload_n 0, 1) := by decide +kernel
theorem dX1_init_5 : decode cX1_init 5 = .ok (.sipush 4096, 3) := by decide +kernel
theorem dX1_init_8 : decode cX1_init 8 = .ok (.newarray .int, 2) := by decide +kernel
theorem dX1_init_10 : decode cX1_init 10 = .ok (.putfield 11, 3) := by decide +kernel
theorem dX1_init_13 : decode cX1_init 13 = .ok (.aload_n 0, 1) := by decide +kernel
theorem dX1_init_14 : decode cX1_init 14 = .ok (.iconst 0, 1) := by decide +kernel
theorem dX1_init_15 : decode cX1_init 15 = .ok (.putfield 15, 3) := by decide +kernel
theorem dX1_init_18 : decode cX1_init 18 = .ok (.aload_n 0, 1) := by decide +kernel
theorem dX1_init_19 : decode cX1_init 19 = .ok (.iconst 0, 1) := by decide +kernel
theorem dX1_init_20 : decode cX1_init 20 = .ok (.putfield 19, 3) := by decide +kernel
theorem dX1_init_23 : decode cX1_init 23 = .ok (.return_, 1) := by decide +kernel
theorem dX1_room_0 : decode cX1_room 0 = .ok (.sipush 4096, 3) := by decide +kernel
theorem dX1_room_3 : decode cX1_room 3 = .ok (.aload_n 0, 1) := by decide +kernel
theorem dX1_room_4 : decode cX1_room 4 = .ok (.getfield 19, 3) := by decide +kernel
theorem dX1_room_7 : decode cX1_room 7 = .ok (.isub, 1) := by decide +kernel
theorem dX1_room_8 : decode cX1_room 8 = .ok (.ireturn, 1) := by decide +kernel
set_option maxRecDepth 20000 in
theorem ggX1_addPacket_X0_at : GoodIn wsX1_addPacket wsX0_at := goodIn_r _ [5, 6, 7, 16, 17] (by decide +kernel) (by decide +kernel)
set_option maxRecDepth 20000 in
theorem gX1_addPacket_X0_at : GoodIn wsX1_addPacket (wsV RX1 25 RX0 yX0_at wsX0_at) := goodIn_app (goodIn_of _ (by decide +kernel)) ggX1_addPacket_X0_at
set_option maxRecDepth 20000 in
theorem ggX1_addPacket_X1_add : GoodIn wsX1_addPacket wsX1_add := goodIn_r _ [12, 13, 14, 15, 18, 19, 20] (by decide +kernel) (by decide +kernel)
set_option maxRecDepth 20000 in
theorem gX1_addPacket_X1_add : GoodIn wsX1_addPacket (wsV RX1 29 RX1 yX1_add wsX1_add) := goodIn_app (goodIn_of _ (by decide +kernel)) ggX1_addPacket_X1_add
theorem dX1_addPacket_0 : decode cX1_addPacket 0 = .ok (.iconst 0, 1) := by decide +kernel
theorem dX1_addPacket_1 : decode cX1_addPacket 1 = .ok (.istore_n 2, 1) := by decide +kernel
theorem dX1_addPacket_2 : decode cX1_addPacket 2 = .ok (.iload_n 2, 1) := by decide +kernel
theorem dX1_addPacket_3 : decode cX1_addPacket 3 = .ok (.aload_n 1, 1) := by decide +kernel
theorem dX1_addPacket_4 : decode cX1_addPacket 4 = .ok (.getfield 22, 3) := by decide +kernel
theorem dX1_addPacket_7 : decode cX1_addPacket 7 = .ok (.if_icmp .ge 34, 3) := by decide +kernel
theorem dX1_addPacket_10 : decode cX1_addPacket 10 = .ok (.aload_n 0, 1) := by decide +kernel
theorem dX1_addPacket_11 : decode cX1_addPacket 11 = .ok (.iload_n 2, 1) := by decide +kernel
theorem dX1_addPacket_12 : decode cX1_addPacket 12 = .ok (.ifCond .ne 15, 3) := by decide +kernel
theorem dX1_addPacket_15 : decode cX1_addPacket 15 = .ok (.sipush 256, 3) := by decide +kernel
theorem dX1_addPacket_18 : decode cX1_addPacket 18 = .ok (.aload_n 1, 1) := by decide +kernel
theorem dX1_addPacket_19 : decode cX1_addPacket 19 = .ok (.iload_n 2, 1) := by decide +kernel
theorem dX1_addPacket_20 : decode cX1_addPacket 20 = .ok (.invokevirtual 25, 3) := by decide +kernel
theorem dX1_addPacket_23 : decode cX1_addPacket 23 = .ok (.ior, 1) := by decide +kernel
theorem dX1_addPacket_24 : decode cX1_addPacket 24 = .ok (.goto 8, 3) := by decide +kernel
theorem dX1_addPacket_27 : decode cX1_addPacket 27 = .ok (.aload_n 1, 1) := by decide +kernel
theorem dX1_addPacket_28 : decode cX1_addPacket 28 = .ok (.iload_n 2, 1) := by decide +kernel
theorem dX1_addPacket_29 : decode cX1_addPacket 29 = .ok (.invokevirtual 25, 3) := by decide +kernel
theorem dX1_addPacket_32 : decode cX1_addPacket 32 = .ok (.invokevirtual 29, 3) := by decide +kernel
theorem dX1_addPacket_35 : decode cX1_addPacket 35 = .ok (.iinc 2 1, 3) := by decide +kernel
theorem dX1_addPacket_38 : decode cX1_addPacket 38 = .ok (.goto (-36), 3) := by decide +kernel
theorem dX1_addPacket_41 : decode cX1_addPacket 41 = .ok (.return_, 1) := by decide +kernel
set_option maxRecDepth 20000 in
theorem ggX1_fillUpTo_X1_addEmptyPacket : GoodIn wsX1_fillUpTo wsX1_addEmptyPacket := goodIn_r _ [10, 11, 12, 13, 9, 14, 1, 15, 16, 17, 18, 19] (by decide +kernel) (by decide +kernel)
set_option maxRecDepth 20000 in
theorem gX1_fillUpTo_X1_addEmptyPacket : GoodIn wsX1_fillUpTo (wsV RX1 39 RX1 yX1_addEmptyPacket wsX1_addEmptyPacket) := goodIn_app (goodIn_of _ (by decide +kernel)) ggX1_fillUpTo_X1_addEmptyPacket
theorem dX1_fillUpTo_0 : decode cX1_fillUpTo 0 = .ok (.aload_n 0, 1) := by decide +kernel
theorem dX1_fillUpTo_1 : decode cX1_fillUpTo 1 = .ok (.getfield 19, 3) := by decide +kernel
theorem dX1_fillUpTo_4 : decode cX1_fillUpTo 4 = .ok (.iload_n 1, 1) := by decide +kernel
theorem dX1_fillUpTo_5 : decode cX1_fillUpTo 5 = .ok (.if_icmp .ge 18, 3) := by decide +kernel
theorem dX1_fillUpTo_8 : decode cX1_fillUpTo 8 = .ok (.aload_n 0, 1) := by decide +kernel
theorem dX1_fillUpTo_9 : decode cX1_fillUpTo 9 = .ok (.iload_n 1, 1) := by decide +kernel
theorem dX1_fillUpTo_10 : decode cX1_fillUpTo 10 = .ok (.aload_n 0, 1) := by decide +kernel
theorem dX1_fillUpTo_11 : decode cX1_fillUpTo 11 = .ok (.getfield 19, 3) := by decide +kernel
theorem dX1_fillUpTo_14 : decode cX1_fillUpTo 14 = .ok (.isub, 1) := by decide +kernel
theorem dX1_fillUpTo_15 : decode cX1_fillUpTo 15 = .ok (.bipush 7, 2) := by decide +kernel
theorem dX1_fillUpTo_17 : decode cX1_fillUpTo 17 = .ok (.invokestatic 33, 3) := by decide +kernel
theorem dX1_fillUpTo_20 : decode cX1_fillUpTo 20 = .ok (.invokevirtual 39, 3) := by decide +kernel
theorem dX1_fillUpTo_23 : decode cX1_fillUpTo 23 = .ok (.return_, 1) := by decide +kernel
theorem dX1_firstBegin_0 : decode cX1_firstBegin 0 = .ok (.iconst 0, 1) := by decide +kernel
theorem dX1_firstBegin_1 : decode cX1_firstBegin 1 = .ok (.istore_n 2, 1) := by decide +kernel
theorem dX1_firstBegin_2 : decode cX1_firstBegin 2 = .ok (.iload_n 2, 1) := by decide +kernel
theorem dX1_firstBegin_3 : decode cX1_firstBegin 3 = .ok (.iload_n 1, 1) := by decide +kernel
theorem dX1_firstBegin_4 : decode cX1_firstBegin 4 = .ok (.if_icmp .ge 41, 3) := by decide +kernel
theorem dX1_firstBegin_7 : decode cX1_firstBegin 7 = .ok (.iload_n 2, 1) := by decide +kernel
theorem dX1_firstBegin_8 : decode cX1_firstBegin 8 = .ok (.aload_n 0, 1) := by decide +kernel
theorem dX1_firstBegin_9 : decode cX1_firstBegin 9 = .ok (.getfield 19, 3) := by decide +kernel
theorem dX1_firstBegin_12 : decode cX1_firstBegin 12 = .ok (.if_icmp .ge 33, 3) := by decide +kernel
theorem dX1_firstBegin_15 : decode cX1_firstBegin 15 = .ok (.aload_n 0, 1) := by decide +kernel
theorem dX1_firstBegin_16 : decode cX1_firstBegin 16 = .ok (.getfield 11, 3) := by decide +kernel
theorem dX1_firstBegin_19 : decode cX1_firstBegin 19 = .ok (.aload_n 0, 1) := by decide +kernel
theorem dX1_firstBegin_20 : decode cX1_firstBegin 20 = .ok (.getfield 15, 3) := by decide +kernel
theorem dX1_firstBegin_23 : decode cX1_firstBegin 23 = .ok (.iload_n 2, 1) := by decide +kernel
theorem dX1_firstBegin_24 : decode cX1_firstBegin 24 = .ok (.iadd, 1) := by decide +kernel
theorem dX1_firstBegin_25 : decode cX1_firstBegin 25 = .ok (.sipush 4095, 3) := by decide +kernel
theorem dX1_firstBegin_28 : decode cX1_firstBegin 28 = .ok (.iand, 1) := by decide +kernel
theorem dX1_firstBegin_29 : decode cX1_firstBegin 29 = .ok (.iaload, 1) := by decide +kernel
theorem dX1_firstBegin_30 : decode cX1_firstBegin 30 = .ok (.sipush 256, 3) := by decide +kernel
theorem dX1_firstBegin_33 : decode cX1_firstBegin 33 = .ok (.iand, 1) := by decide +kernel
theorem dX1_firstBegin_34 : decode cX1_firstBegin 34 = .ok (.ifCond .eq 5, 3) := by decide +kernel
theorem dX1_firstBegin_37 : decode cX1_firstBegin 37 = .ok (.iload_n 2, 1) := by decide +kernel
theorem dX1_firstBegin_38 : decode cX1_firstBegin 38 = .ok (.ireturn, 1) := by decide +kernel
theorem dX1_firstBegin_39 : decode cX1_firstBegin 39 = .ok (.iinc 2 1, 3) := by decide +kernel
theorem dX1_firstBegin_42 : decode cX1_firstBegin 42 = .ok (.goto (-40), 3) := by decide +kernel
theorem dX1_firstBegin_45 : decode cX1_firstBegin 45 = .ok (.sipush 2047, 3) := by decide +kernel
theorem dX1_firstBegin_48 : decode cX1_firstBegin 48 = .ok (.ireturn, 1) := by decide +kernel
theorem dX1_take_0 : decode cX1_take 0 = .ok (.aload_n 0, 1) := by decide +kernel
theorem dX1_take_1 : decode cX1_take 1 = .ok (.getfield 19, 3) := by decide +kernel
theorem dX1_take_4 : decode cX1_take 4 = .ok (.ifCond .ne 6, 3) := by decide +kernel
theorem dX1_take_7 : decode cX1_take 7 = .ok (.bipush 85, 2) := by decide +kernel
theorem dX1_take_9 : decode cX1_take 9 = .ok (.ireturn, 1) := by decide +kernel
theorem dX1_take_10 : decode cX1_take 10 = .ok (.aload_n 0, 1) := by decide +kernel
theorem dX1_take_11 : decode cX1_take 11 = .ok (.getfield 11, 3) := by decide +kernel
theorem dX1_take_14 : decode cX1_take 14 = .ok (.aload_n 0, 1) := by decide +kernel
theorem dX1_take_15 : decode cX1_take 15 = .ok (.getfield 15, 3) := by decide +kernel
theorem dX1_take_18 : decode cX1_take 18 = .ok (.sipush 4095, 3) := by decide +kernel
theorem dX1_take_21 : decode cX1_take 21 = .ok (.iand, 1) := by decide +kernel
theorem dX1_take_22 : decode cX1_take 22 = .ok (.iaload, 1) := by decide +kernel
theorem dX1_take_23 : decode cX1_take 23 = .ok (.sipush 255, 3) := by decide +kernel
theorem dX1_take_26 : decode cX1_take 26 = .ok (.iand, 1) := by decide +kernel
theorem dX1_take_27 : decode cX1_take 27 = .ok (.istore_n 1, 1) := by decide +kernel
theorem dX1_take_28 : decode cX1_take 28 = .ok (.aload_n 0, 1) := by decide +kernel
theorem dX1_take_29 : decode cX1_take 29 = .ok (.aload_n 0, 1) := by decide +kernel
theorem dX1_take_30 : decode cX1_take 30 = .ok (.getfield 15, 3) := by decide +kernel
theorem dX1_take_33 : decode cX1_take 33 = .ok (.iconst 1, 1) := by decide +kernel
theorem dX1_take_34 : decode cX1_take 34 = .ok (.iadd, 1) := by decide +kernel
theorem dX1_take_35 : decode cX1_take 35 = .ok (.sipush 4095, 3) := by decide +kernel
theorem dX1_take_38 : decode cX1_take 38 = .ok (.iand, 1) := by decide +kernel
theorem dX1_take_39 : decode cX1_take 39 = .ok (.putfield 15, 3) := by decide +kernel
theorem dX1_take_42 : decode cX1_take 42 = .ok (.aload_n 0, 1) := by decide +kernel
theorem dX1_take_43 : decode cX1_take 43 = .ok (.dup, 1) := by decide +kernel
theorem dX1_take_44 : decode cX1_take 44 = .ok (.getfield 19, 3) := by decide +kernel
theorem dX1_take_47 : decode cX1_take 47 = .ok (.iconst 1, 1) := by decide +kernel
theorem dX1_take_48 : decode cX1_take 48 = .ok (.isub, 1) := by decide +kernel
theorem dX1_take_49 : decode cX1_take 49 = .ok (.putfield 19, 3) := by decide +kernel
theorem dX1_take_52 : decode cX1_take 52 = .ok (.iload_n 1, 1) := by decide +kernel
theorem dX1_take_53 : decode cX1_take 53 = .ok (.ireturn, 1) := by decide +kernel
set_option maxRecDepth 20000 in
theorem ggX1_addEmptyPacket_X1_add : GoodIn wsX1_addEmptyPacket wsX1_add := goodIn_r _ [5, 6, 7, 8, 9, 10, 11] (by decide +kernel) (by decide +kernel)
set_option maxRecDepth 20000 in
theorem gX1_addEmptyPacket_X1_add : GoodIn wsX1_addEmptyPacket (wsV RX1 29 RX1 yX1_add wsX1_add) := goodIn_app (goodIn_of _ (by decide +kernel)) ggX1_addEmptyPacket_X1_add
theorem dX1_addEmptyPacket_0 : decode cX1_addEmptyPacket 0 = .ok (.aload_n 0, 1) := by decide +kernel
theorem dX1_addEmptyPacket_1 : decode cX1_addEmptyPacket 1 = .ok (.sipush 263, 3) := by decide +kernel
theorem dX1_addEmptyPacket_4 : decode cX1_addEmptyPacket 4 = .ok (.invokevirtual 29, 3) := by decide +kernel
theorem dX1_addEmptyPacket_7 : decode cX1_addEmptyPacket 7 = .ok (.aload_n 0, 1) := by decide +kernel
theorem dX1_addEmptyPacket_8 : decode cX1_addEmptyPacket 8 = .ok (.sipush 255, 3) := by decide +kernel
theorem dX1_addEmptyPacket_11 : decode cX1_addEmptyPacket 11 = .ok (.invokevirtual 29, 3) := by decide +kernel
theorem dX1_addEmptyPacket_14 : decode cX1_addEmptyPacket 14 = .ok (.aload_n 0, 1) := by decide +kernel
theorem dX1_addEmptyPacket_15 : decode cX1_addEmptyPacket 15 = .ok (.sipush 192, 3) := by decide +kernel
theorem dX1_addEmptyPacket_18 : decode cX1_addEmptyPacket 18 = .ok (.invokevirtual 29, 3) := by decide +kernel
theorem dX1_addEmptyPacket_21 : decode cX1_addEmptyPacket 21 = .ok (.aload_n 0, 1) := by decide +kernel
theorem dX1_addEmptyPacket_22 : decode cX1_addEmptyPacket 22 = .ok (.iconst 0, 1) := by decide +kernel
theorem dX1_addEmptyPacket_23 : decode cX1_addEmptyPacket 23 = .ok (.invokevirtual 29, 3) := by decide +kernel
theorem dX1_addEmptyPacket_26 : decode cX1_addEmptyPacket 26 = .ok (.iload_n 1, 1) := by decide +kernel
theorem dX1_addEmptyPacket_27 : decode cX1_addEmptyPacket 27 = .ok (.bipush 6, 2) := by decide +kernel
theorem dX1_addEmptyPacket_29 : decode cX1_addEmptyPacket 29 = .ok (.isub, 1) := by decide +kernel
theorem dX1_addEmptyPacket_30 : decode cX1_addEmptyPacket 30 = .ok (.istore_n 2, 1) := by decide +kernel
theorem dX1_addEmptyPacket_31 : decode cX1_addEmptyPacket 31 = .ok (.aload_n 0, 1) := by decide +kernel
theorem dX1_addEmptyPacket_32 : decode cX1_addEmptyPacket 32 = .ok (.iload_n 2, 1) := by decide +kernel
theorem dX1_addEmptyPacket_33 : decode cX1_addEmptyPacket 33 = .ok (.iconst 1, 1) := by decide +kernel
theorem dX1_addEmptyPacket_34 : decode cX1_addEmptyPacket 34 = .ok (.isub, 1) := by decide +kernel
theorem dX1_addEmptyPacket_35 : decode cX1_addEmptyPacket 35 = .ok (.bipush 8, 2) := by decide +kernel
theorem dX1_addEmptyPacket_37 : decode cX1_addEmptyPacket 37 = .ok (.iushr, 1) := by decide +kernel
theorem dX1_addEmptyPacket_38 : decode cX1_addEmptyPacket 38 = .ok (.sipush 255, 3) := by decide +kernel
theorem dX1_addEmptyPacket_41 : decode cX1_addEmptyPacket 41 = .ok (.iand, 1) := by decide +kernel
theorem dX1_addEmptyPacket_42 : decode cX1_addEmptyPacket 42 = .ok (.invokevirtual 29, 3) := by decide +kernel
theorem dX1_addEmptyPacket_45 : decode cX1_addEmptyPacket 45 = .ok (.aload_n 0, 1) := by decide +kernel
theorem dX1_addEmptyPacket_46 : decode cX1_addEmptyPacket 46 = .ok (.iload_n 2, 1) := by decide +kernel
theorem dX1_addEmptyPacket_47 : decode cX1_addEmptyPacket 47 = .ok (.iconst 1, 1) := by decide +kernel
theorem dX1_addEmptyPacket_48 : decode cX1_addEmptyPacket 48 = .ok (.isub, 1) := by decide +kernel
theorem dX1_addEmptyPacket_49 : decode cX1_addEmptyPacket 49 = .ok (.sipush 255, 3) := by decide +kernel
theorem dX1_addEmptyPacket_52 : decode cX1_addEmptyPacket 52 = .ok (.iand, 1) := by decide +kernel
theorem dX1_addEmptyPacket_53 : decode cX1_addEmptyPacket 53 = .ok (.invokevirtual 29, 3) := by decide +kernel
theorem dX1_addEmptyPacket_56 : decode cX1_addEmptyPacket 56 = .ok (.iconst 0, 1) := by decide +kernel
theorem dX1_addEmptyPacket_57 : decode cX1_addEmptyPacket 57 = .ok (.istore_n 3, 1) := by decide +kernel
theorem dX1_addEmptyPacket_58 : decode cX1_addEmptyPacket 58 = .ok (.iload_n 3, 1) := by decide +kernel
theorem dX1_addEmptyPacket_59 : decode cX1_addEmptyPacket 59 = .ok (.iload_n 2, 1) := by decide +kernel
theorem dX1_addEmptyPacket_60 : decode cX1_addEmptyPacket 60 = .ok (.if_icmp .ge 15, 3) := by decide +kernel
theorem dX1_addEmptyPacket_63 : decode cX1_addEmptyPacket 63 = .ok (.aload_n 0, 1) := by decide +kernel
theorem dX1_addEmptyPacket_64 : decode cX1_addEmptyPacket 64 = .ok (.bipush 85, 2) := by decide +kernel
theorem dX1_addEmptyPacket_66 : decode cX1_addEmptyPacket 66 = .ok (.invokevirtual 29, 3) := by decide +kernel
theorem dX1_addEmptyPacket_69 : decode cX1_addEmptyPacket 69 = .ok (.iinc 3 1, 3) := by decide +kernel
theorem dX1_addEmptyPacket_72 : decode cX1_addEmptyPacket 72 = .ok (.goto (-14), 3) := by decide +kernel
theorem dX1_addEmptyPacket_75 : decode cX1_addEmptyPacket 75 = .ok (.return_, 1) := by decide +kernel
theorem dX1_add_0 : decode cX1_add 0 = .ok (.aload_n 0, 1) := by decide +kernel
theorem dX1_add_1 : decode cX1_add 1 = .ok (.getfield 19, 3) := by decide +kernel
theorem dX1_add_4 : decode cX1_add 4 = .ok (.sipush 4096, 3) := by decide +kernel
theorem dX1_add_7 : decode cX1_add 7 = .ok (.if_icmp .ge 32, 3) := by decide +kernel
theorem dX1_add_10 : decode cX1_add 10 = .ok (.aload_n 0, 1) := by decide +kernel
theorem dX1_add_11 : decode cX1_add 11 = .ok (.getfield 11, 3) := by decide +kernel
theorem dX1_add_14 : decode cX1_add 14 = .ok (.aload_n 0, 1) := by decide +kernel
theorem dX1_add_15 : decode cX1_add 15 = .ok (.getfield 15, 3) := by decide +kernel
theorem dX1_add_18 : decode cX1_add 18 = .ok (.aload_n 0, 1) := by decide +kernel
theorem dX1_add_19 : decode cX1_add 19 = .ok (.getfield 19, 3) := by decide +kernel
theorem dX1_add_22 : decode cX1_add 22 = .ok (.iadd, 1) := by decide +kernel
theorem dX1_add_23 : decode cX1_add 23 = .ok (.sipush 4095, 3) := by decide +kernel
theorem dX1_add_26 : decode cX1_add 26 = .ok (.iand, 1) := by decide +kernel
theorem dX1_add_27 : decode cX1_add 27 = .ok (.iload_n 1, 1) := by decide +kernel
theorem dX1_add_28 : decode cX1_add 28 = .ok (.iastore, 1) := by decide +kernel
theorem dX1_add_29 : decode cX1_add 29 = .ok (.aload_n 0, 1) := by decide +kernel
theorem dX1_add_30 : decode cX1_add 30 = .ok (.dup, 1) := by decide +kernel
theorem dX1_add_31 : decode cX1_add 31 = .ok (.getfield 19, 3) := by decide +kernel
theorem dX1_add_34 : decode cX1_add 34 = .ok (.iconst 1, 1) := by decide +kernel
theorem dX1_add_35 : decode cX1_add 35 = .ok (.iadd, 1) := by decide +kernel
theorem dX1_add_36 : decode cX1_add 36 = .ok (.putfield 19, 3) := by decide +kernel
theorem dX1_add_39 : decode cX1_add 39 = .ok (.return_, 1) := by decide +kernel
set_option maxRecDepth 20000 in
theorem ggX2_init_X0_init : GoodIn wsX2_init wsX0_init := goodIn_r _ [26, 27, 2, 3, 22, 28, 29, 43, 44] (by decide +kernel) (by decide +kernel)
set_option maxRecDepth 20000 in
theorem gX2_init_X0_init : GoodIn wsX2_init (wsX0_init) := ggX2_init_X0_init
set_option maxRecDepth 20000 in
theorem ggX2_init_X1_init : GoodIn wsX2_init wsX1_init := goodIn_r _ [32, 33, 2, 3, 22, 34, 35, 36, 45, 46, 47] (by decide +kernel) (by decide +kernel)
set_option maxRecDepth 20000 in
theorem gX2_init_X1_init : GoodIn wsX2_init (wsX1_init) := ggX2_init_X1_init
theorem dX2_init_0 : decode cX2_init 0 = .ok (.aload_n 0, 1) := by decide +kernel
theorem dX2_init_1 : decode cX2_init 1 = .ok (.invokespecial 1, 3) := by decide +kernel
theorem dX2_init_4 : decode cX2_init 4 = .ok (.aload_n 0, 1) := by decide +kernel
theorem dX2_init_5 : decode cX2_init 5 = .ok (.bipush 64, 2) := by decide +kernel
theorem dX2_init_7 : decode cX2_init 7 = .ok (.sipush 256, 3) := by decide +kernel
theorem dX2_init_10 : decode cX2_init 10 = .ok (.iload_n 1, 1) := by decide +kernel
theorem dX2_init_11 : decode cX2_init 11 = .ok (.invokestatic 9, 3) := by decide +kernel
theorem dX2_init_14 : decode cX2_init 14 = .ok (.invokestatic 15, 3) := by decide +kernel
theorem dX2_init_17 : decode cX2_init 17 = .ok (.putfield 18, 3) := by decide +kernel
theorem dX2_init_20 : decode cX2_init 20 = .ok (.aload_n 0, 1) := by decide +kernel
theorem dX2_init_21 : decode cX2_init 21 = .ok (.new 22, 3) := by decide +kernel
theorem dX2_init_24 : decode cX2_init 24 = .ok (.dup, 1) := by decide +kernel
theorem dX2_init_25 : decode cX2_init 25 = .ok (.sipush 1024, 3) := by decide +kernel
theorem dX2_init_28 : decode cX2_init 28 = .ok (.invokespecial 24, 3) := by decide +kernel
theorem dX2_init_31 : decode cX2_init 31 = .ok (.putfield 27, 3) := by decide +kernel
theorem dX2_init_34 : decode cX2_init 34 = .ok (.aload_n 0, 1) := by decide +kernel
theorem dX2_init_35 : decode cX2_init 35 = .ok (.new 22, 3) := by decide +kernel
theorem dX2_init_38 : decode cX2_init 38 = .ok (.dup, 1) := by decide +kernel
theorem dX2_init_39 : decode cX2_init 39 = .ok (.aload_n 0, 1) := by decide +kernel
theorem dX2_init_40 : decode cX2_init 40 = .ok (.getfield 18, 3) := by decide +kernel
theorem dX2_init_43 : decode cX2_init 43 = .ok (.invokespecial 24, 3) := by decide +kernel
theorem dX2_init_46 : decode cX2_init 46 = .ok (.putfield 31, 3) := by decide +kernel
theorem dX2_init_49 : decode cX2_init 49 = .ok (.aload_n 0, 1) := by decide +kernel
theorem dX2_init_50 : decode cX2_init 50 = .ok (.new 34, 3) := by decide +kernel
theorem dX2_init_53 : decode cX2_init 53 = .ok (.dup, 1) := by decide +kernel
theorem dX2_init_54 : decode cX2_init 54 = .ok (.invokespecial 36, 3) := by decide +kernel
theorem dX2_init_57 : decode cX2_init 57 = .ok (.putfield 37, 3) := by decide +kernel
theorem dX2_init_60 : decode cX2_init 60 = .ok (.aload_n 0, 1) := by decide +kernel
theorem dX2_init_61 : decode cX2_init 61 = .ok (.new 34, 3) := by decide +kernel
theorem dX2_init_64 : decode cX2_init 64 = .ok (.dup, 1) := by decide +kernel
theorem dX2_init_65 : decode cX2_init 65 = .ok (.invokespecial 36, 3) := by decide +kernel
theorem dX2_init_68 : decode cX2_init 68 = .ok (.putfield 41, 3) := by decide +kernel
theorem dX2_init_71 : decode cX2_init 71 = .ok (.aload_n 0, 1) := by decide +kernel
theorem dX2_init_72 : decode cX2_init 72 = .ok (.iconst 4, 1) := by decide +kernel
theorem dX2_init_73 : decode cX2_init 73 = .ok (.newarray .int, 2) := by decide +kernel
theorem dX2_init_75 : decode cX2_init 75 = .ok (.putfield 44, 3) := by decide +kernel
theorem dX2_init_78 : decode cX2_init 78 = .ok (.return_, 1) := by decide +kernel
set_option maxRecDepth 20000 in
theorem ggX2_give_X0_room : GoodIn wsX2_give wsX0_room := goodIn_r _ [6, 7, 8, 19, 20] (by decide +kernel) (by decide +kernel)
set_option maxRecDepth 20000 in
theorem gX2_give_X0_room : GoodIn wsX2_give (wsV RX2 48 RX0 yX0_room wsX0_room) := goodIn_app (goodIn_of _ (by decide +kernel)) ggX2_give_X0_room
set_option maxRecDepth 20000 in
theorem ggX2_give_X0_put8 : GoodIn wsX2_give wsX0_put8 := goodIn_r _ [12, 8, 7, 19, 20] (by decide +kernel) (by decide +kernel)
set_option maxRecDepth 20000 in
theorem gX2_give_X0_put8 : GoodIn wsX2_give (wsV RX2 52 RX0 yX0_put8 wsX0_put8) := goodIn_app (goodIn_of _ (by decide +kernel)) ggX2_give_X0_put8
theorem dX2_give_0 : decode cX2_give 0 = .ok (.iload_n 3, 1) := by decide +kernel
theorem dX2_give_1 : decode cX2_give 1 = .ok (.iconst 1, 1) := by decide +kernel
theorem dX2_give_2 : decode cX2_give 2 = .ok (.if_icmp .lt 20, 3) := by decide +kernel
theorem dX2_give_5 : decode cX2_give 5 = .ok (.iload_n 3, 1) := by decide +kernel
theorem dX2_give_6 : decode cX2_give 6 = .ok (.bipush 8, 2) := by decide +kernel
theorem dX2_give_8 : decode cX2_give 8 = .ok (.if_icmp .gt 14, 3) := by decide +kernel
theorem dX2_give_11 : decode cX2_give 11 = .ok (.iload_n 3, 1) := by decide +kernel
theorem dX2_give_12 : decode cX2_give 12 = .ok (.aload_n 0, 1) := by decide +kernel
theorem dX2_give_13 : decode cX2_give 13 = .ok (.getfield 27, 3) := by decide +kernel
theorem dX2_give_16 : decode cX2_give 16 = .ok (.invokevirtual 48, 3) := by decide +kernel
theorem dX2_give_19 : decode cX2_give 19 = .ok (.if_icmp .le 5, 3) := by decide +kernel
theorem dX2_give_22 : decode cX2_give 22 = .ok (.iconst 0, 1) := by decide +kernel
theorem dX2_give_23 : decode cX2_give 23 = .ok (.ireturn, 1) := by decide +kernel
theorem dX2_give_24 : decode cX2_give 24 = .ok (.iconst 0, 1) := by decide +kernel
theorem dX2_give_25 : decode cX2_give 25 = .ok (.istore 4, 2) := by decide +kernel
theorem dX2_give_27 : decode cX2_give 27 = .ok (.iload 4, 2) := by decide +kernel
theorem dX2_give_29 : decode cX2_give 29 = .ok (.iload_n 3, 1) := by decide +kernel
theorem dX2_give_30 : decode cX2_give 30 = .ok (.if_icmp .ge 27, 3) := by decide +kernel
theorem dX2_give_33 : decode cX2_give 33 = .ok (.aload_n 0, 1) := by decide +kernel
theorem dX2_give_34 : decode cX2_give 34 = .ok (.getfield 27, 3) := by decide +kernel
theorem dX2_give_37 : decode cX2_give 37 = .ok (.lload_n 1, 1) := by decide +kernel
theorem dX2_give_38 : decode cX2_give 38 = .ok (.bipush 56, 2) := by decide +kernel
theorem dX2_give_40 : decode cX2_give 40 = .ok (.bipush 8, 2) := by decide +kernel
theorem dX2_give_42 : decode cX2_give 42 = .ok (.iload 4, 2) := by decide +kernel
theorem dX2_give_44 : decode cX2_give 44 = .ok (.imul, 1) := by decide +kernel
theorem dX2_give_45 : decode cX2_give 45 = .ok (.isub, 1) := by decide +kernel
theorem dX2_give_46 : decode cX2_give 46 = .ok (.lushr, 1) := by decide +kernel
theorem dX2_give_47 : decode cX2_give 47 = .ok (.l2i, 1) := by decide +kernel
theorem dX2_give_48 : decode cX2_give 48 = .ok (.invokevirtual 52, 3) := by decide +kernel
theorem dX2_give_51 : decode cX2_give 51 = .ok (.iinc 4 1, 3) := by decide +kernel
theorem dX2_give_54 : decode cX2_give 54 = .ok (.goto (-27), 3) := by decide +kernel
theorem dX2_give_57 : decode cX2_give 57 = .ok (.iconst 1, 1) := by decide +kernel
theorem dX2_give_58 : decode cX2_give 58 = .ok (.ireturn, 1) := by decide +kernel
set_option maxRecDepth 20000 in
theorem ggX2_send_X2_channelOf : GoodIn wsX2_send wsX2_channelOf := goodIn_r _ [6, 7, 8, 40, 41, 42, 43, 44, 45] (by decide +kernel) (by decide +kernel)
set_option maxRecDepth 20000 in
theorem gX2_send_X2_channelOf : GoodIn wsX2_send (wsV RX2 55 RX2 yX2_channelOf wsX2_channelOf) := goodIn_app (goodIn_of _ (by decide +kernel)) ggX2_send_X2_channelOf
set_option maxRecDepth 20000 in
theorem ggX2_send_X2_holdsPacket : GoodIn wsX2_send wsX2_holdsPacket := goodIn_r _ [11, 12, 13, 14, 15, 16, 17, 18, 46, 47] (by decide +kernel) (by decide +kernel)
set_option maxRecDepth 20000 in
theorem gX2_send_X2_holdsPacket : GoodIn wsX2_send (va_wsS RX2 59 yX2_holdsPacket wsX2_holdsPacket) := goodIn_app (goodIn_of _ (by decide +kernel)) ggX2_send_X2_holdsPacket
set_option maxRecDepth 20000 in
theorem ggX2_send_X1_room : GoodIn wsX2_send wsX1_room := goodIn_r _ [23, 24, 48, 49, 50] (by decide +kernel) (by decide +kernel)
set_option maxRecDepth 20000 in
theorem gX2_send_X1_room : GoodIn wsX2_send (wsV RX2 66 RX1 yX1_room wsX1_room) := goodIn_app (goodIn_of _ (by decide +kernel)) ggX2_send_X1_room
set_option maxRecDepth 20000 in
theorem ggX2_send_X1_addPacket : GoodIn wsX2_send wsX1_addPacket := goodIn_r _ [28, 29, 13, 14, 15, 16, 17, 18, 30, 31, 32, 22, 33, 24, 34, 35, 46, 47, 48, 49, 50] (by decide +kernel) (by decide +kernel)
set_option maxRecDepth 20000 in
theorem gX2_send_X1_addPacket : GoodIn wsX2_send (wsV RX2 67 RX1 yX1_addPacket wsX1_addPacket) := goodIn_app (goodIn_of _ (by decide +kernel)) ggX2_send_X1_addPacket
set_option maxRecDepth 20000 in
theorem ggX2_send_X0_clear : GoodIn wsX2_send wsX0_clear := goodIn_r _ [39, 17, 46, 47] (by decide +kernel) (by decide +kernel)
set_option maxRecDepth 20000 in
theorem gX2_send_X0_clear : GoodIn wsX2_send (wsV RX2 72 RX0 yX0_clear wsX0_clear) := goodIn_app (goodIn_of _ (by decide +kernel)) ggX2_send_X0_clear
theorem dX2_send_0 : decode cX2_send 0 = .ok (.iconst (-1), 1) := by decide +kernel
theorem dX2_send_1 : decode cX2_send 1 = .ok (.istore_n 2, 1) := by decide +kernel
theorem dX2_send_2 : decode cX2_send 2 = .ok (.aload_n 0, 1) := by decide +kernel
theorem dX2_send_3 : decode cX2_send 3 = .ok (.iload_n 1, 1) := by decide +kernel
theorem dX2_send_4 : decode cX2_send 4 = .ok (.invokevirtual 55, 3) := by decide +kernel
theorem dX2_send_7 : decode cX2_send 7 = .ok (.astore_n 3, 1) := by decide +kernel
theorem dX2_send_8 : decode cX2_send 8 = .ok (.aload_n 3, 1) := by decide +kernel
theorem dX2_send_9 : decode cX2_send 9 = .ok (.ifnull 40, 3) := by decide +kernel
theorem dX2_send_12 : decode cX2_send 12 = .ok (.aload_n 0, 1) := by decide +kernel
theorem dX2_send_13 : decode cX2_send 13 = .ok (.getfield 27, 3) := by decide +kernel
theorem dX2_send_16 : decode cX2_send 16 = .ok (.invokestatic 59, 3) := by decide +kernel
theorem dX2_send_19 : decode cX2_send 19 = .ok (.ifCond .eq 30, 3) := by decide +kernel
theorem dX2_send_22 : decode cX2_send 22 = .ok (.aload_n 0, 1) := by decide +kernel
theorem dX2_send_23 : decode cX2_send 23 = .ok (.getfield 27, 3) := by decide +kernel
theorem dX2_send_26 : decode cX2_send 26 = .ok (.getfield 63, 3) := by decide +kernel
theorem dX2_send_29 : decode cX2_send 29 = .ok (.aload_n 3, 1) := by decide +kernel
theorem dX2_send_30 : decode cX2_send 30 = .ok (.invokevirtual 66, 3) := by decide +kernel
theorem dX2_send_33 : decode cX2_send 33 = .ok (.if_icmp .gt 16, 3) := by decide +kernel
theorem dX2_send_36 : decode cX2_send 36 = .ok (.aload_n 3, 1) := by decide +kernel
theorem dX2_send_37 : decode cX2_send 37 = .ok (.aload_n 0, 1) := by decide +kernel
theorem dX2_send_38 : decode cX2_send 38 = .ok (.getfield 27, 3) := by decide +kernel
theorem dX2_send_41 : decode cX2_send 41 = .ok (.invokevirtual 67, 3) := by decide +kernel
theorem dX2_send_44 : decode cX2_send 44 = .ok (.aload_n 3, 1) := by decide +kernel
theorem dX2_send_45 : decode cX2_send 45 = .ok (.getfield 71, 3) := by decide +kernel
theorem dX2_send_48 : decode cX2_send 48 = .ok (.istore_n 2, 1) := by decide +kernel
theorem dX2_send_49 : decode cX2_send 49 = .ok (.aload_n 0, 1) := by decide +kernel
theorem dX2_send_50 : decode cX2_send 50 = .ok (.getfield 27, 3) := by decide +kernel
theorem dX2_send_53 : decode cX2_send 53 = .ok (.invokevirtual 72, 3) := by decide +kernel
theorem dX2_send_56 : decode cX2_send 56 = .ok (.iload_n 2, 1) := by decide +kernel
theorem dX2_send_57 : decode cX2_send 57 = .ok (.ireturn, 1) := by decide +kernel
set_option maxRecDepth 20000 in
theorem ggX2_frame_X2_nextChannel : GoodIn wsX2_frame wsX2_nextChannel := goodIn_r _ [8, 9, 10, 66, 67, 68, 69, 70, 71, 72, 73, 74] (by decide +kernel) (by decide +kernel)
set_option maxRecDepth 20000 in
theorem gX2_frame_X2_nextChannel : GoodIn wsX2_frame (wsV RX2 75 RX2 yX2_nextChannel wsX2_nextChannel) := goodIn_app (goodIn_of _ (by decide +kernel)) ggX2_frame_X2_nextChannel
set_option maxRecDepth 20000 in
theorem ggX2_frame_X2_channelOf : GoodIn wsX2_frame wsX2_channelOf := goodIn_r _ [14, 9, 10, 66, 67, 68, 69, 70, 71] (by decide +kernel) (by decide +kernel)
set_option maxRecDepth 20000 in
theorem gX2_frame_X2_channelOf : GoodIn wsX2_frame (wsV RX2 55 RX2 yX2_channelOf wsX2_channelOf) := goodIn_app (goodIn_of _ (by decide +kernel)) ggX2_frame_X2_channelOf
set_option maxRecDepth 20000 in
theorem ggX2_frame_X1_fillUpTo : GoodIn wsX2_frame wsX1_fillUpTo := goodIn_r _ [19, 20, 21, 22, 23, 24, 25, 26, 27, 18, 28, 29, 30, 31, 32, 33, 34, 72, 73, 74] (by decide +kernel) (by decide +kernel)
set_option maxRecDepth 20000 in
theorem gX2_frame_X1_fillUpTo : GoodIn wsX2_frame (wsV RX2 78 RX1 yX1_fillUpTo wsX1_fillUpTo) := goodIn_app (goodIn_of _ (by decide +kernel)) ggX2_frame_X1_fillUpTo
set_option maxRecDepth 20000 in
theorem ggX2_frame_X0_clear : GoodIn wsX2_frame wsX0_clear := goodIn_r _ [39, 40, 75, 76] (by decide +kernel) (by decide +kernel)
set_option maxRecDepth 20000 in
theorem gX2_frame_X0_clear : GoodIn wsX2_frame (wsV RX2 72 RX0 yX0_clear wsX0_clear) := goodIn_app (goodIn_of _ (by decide +kernel)) ggX2_frame_X0_clear
set_option maxRecDepth 20000 in
theorem ggX2_frame_X0_put16 : GoodIn wsX2_frame wsX0_put16 := goodIn_r _ [44, 45, 46, 47, 38, 48, 40, 49, 75, 76] (by decide +kernel) (by decide +kernel)
set_option maxRecDepth 20000 in
theorem gX2_frame_X0_put16 : GoodIn wsX2_frame (wsV RX2 81 RX0 yX0_put16 wsX0_put16) := goodIn_app (goodIn_of _ (by decide +kernel)) ggX2_frame_X0_put16
set_option maxRecDepth 20000 in
theorem ggX2_frame_X0_put8 : GoodIn wsX2_frame wsX0_put8 := goodIn_r _ [48, 40, 49, 75, 76] (by decide +kernel) (by decide +kernel)
set_option maxRecDepth 20000 in
theorem gX2_frame_X0_put8 : GoodIn wsX2_frame (wsV RX2 52 RX0 yX0_put8 wsX0_put8) := goodIn_app (goodIn_of _ (by decide +kernel)) ggX2_frame_X0_put8
set_option maxRecDepth 20000 in
theorem ggX2_frame_X1_firstBegin : GoodIn wsX2_frame wsX1_firstBegin := goodIn_r _ [54, 20, 33, 34, 72, 73, 74] (by decide +kernel) (by decide +kernel)
set_option maxRecDepth 20000 in
theorem gX2_frame_X1_firstBegin : GoodIn wsX2_frame (wsV RX2 84 RX1 yX1_firstBegin wsX1_firstBegin) := goodIn_app (goodIn_of _ (by decide +kernel)) ggX2_frame_X1_firstBegin
set_option maxRecDepth 20000 in
theorem ggX2_frame_X1_take : GoodIn wsX2_frame wsX1_take := goodIn_r _ [58, 20, 33, 34, 72, 73, 74] (by decide +kernel) (by decide +kernel)
set_option maxRecDepth 20000 in
theorem gX2_frame_X1_take : GoodIn wsX2_frame (wsV RX2 88 RX1 yX1_take wsX1_take) := goodIn_app (goodIn_of _ (by decide +kernel)) ggX2_frame_X1_take
set_option maxRecDepth 20000 in
theorem ggX2_frame_X0_check : GoodIn wsX2_frame wsX0_check := goodIn_r _ [62, 63, 40, 49, 64, 65, 75, 76] (by decide +kernel) (by decide +kernel)
set_option maxRecDepth 20000 in
theorem gX2_frame_X0_check : GoodIn wsX2_frame (wsV RX2 91 RX0 yX0_check wsX0_check) := goodIn_app (goodIn_of _ (by decide +kernel)) ggX2_frame_X0_check
theorem dX2_frame_0 : decode cX2_frame 0 = .ok (.aload_n 0, 1) := by decide +kernel
theorem dX2_frame_1 : decode cX2_frame 1 = .ok (.invokevirtual 75, 3) := by decide +kernel
theorem dX2_frame_4 : decode cX2_frame 4 = .ok (.istore_n 2, 1) := by decide +kernel
theorem dX2_frame_5 : decode cX2_frame 5 = .ok (.iload_n 2, 1) := by decide +kernel
theorem dX2_frame_6 : decode cX2_frame 6 = .ok (.bipush 7, 2) := by decide +kernel
theorem dX2_frame_8 : decode cX2_frame 8 = .ok (.if_icmp .ne 7, 3) := by decide +kernel
theorem dX2_frame_11 : decode cX2_frame 11 = .ok (.iconst 3, 1) := by decide +kernel
theorem dX2_frame_12 : decode cX2_frame 12 = .ok (.goto 6, 3) := by decide +kernel
theorem dX2_frame_15 : decode cX2_frame 15 = .ok (.iload_n 2, 1) := by decide +kernel
theorem dX2_frame_16 : decode cX2_frame 16 = .ok (.iconst 1, 1) := by decide +kernel
theorem dX2_frame_17 : decode cX2_frame 17 = .ok (.iadd, 1) := by decide +kernel
theorem dX2_frame_18 : decode cX2_frame 18 = .ok (.istore_n 3, 1) := by decide +kernel
theorem dX2_frame_19 : decode cX2_frame 19 = .ok (.aload_n 0, 1) := by decide +kernel
theorem dX2_frame_20 : decode cX2_frame 20 = .ok (.iload_n 2, 1) := by decide +kernel
theorem dX2_frame_21 : decode cX2_frame 21 = .ok (.invokevirtual 55, 3) := by decide +kernel
theorem dX2_frame_24 : decode cX2_frame 24 = .ok (.astore 4, 2) := by decide +kernel
theorem dX2_frame_26 : decode cX2_frame 26 = .ok (.aload_n 0, 1) := by decide +kernel
theorem dX2_frame_27 : decode cX2_frame 27 = .ok (.getfield 18, 3) := by decide +kernel
theorem dX2_frame_30 : decode cX2_frame 30 = .ok (.bipush 12, 2) := by decide +kernel
theorem dX2_frame_32 : decode cX2_frame 32 = .ok (.isub, 1) := by decide +kernel
theorem dX2_frame_33 : decode cX2_frame 33 = .ok (.istore 5, 2) := by decide +kernel
theorem dX2_frame_35 : decode cX2_frame 35 = .ok (.aload 4, 2) := by decide +kernel
theorem dX2_frame_37 : decode cX2_frame 37 = .ok (.ifnull 10, 3) := by decide +kernel
theorem dX2_frame_40 : decode cX2_frame 40 = .ok (.aload 4, 2) := by decide +kernel
theorem dX2_frame_42 : decode cX2_frame 42 = .ok (.iload 5, 2) := by decide +kernel
theorem dX2_frame_44 : decode cX2_frame 44 = .ok (.invokevirtual 78, 3) := by decide +kernel
theorem dX2_frame_47 : decode cX2_frame 47 = .ok (.aload_n 0, 1) := by decide +kernel
theorem dX2_frame_48 : decode cX2_frame 48 = .ok (.getfield 31, 3) := by decide +kernel
theorem dX2_frame_51 : decode cX2_frame 51 = .ok (.invokevirtual 72, 3) := by decide +kernel
theorem dX2_frame_54 : decode cX2_frame 54 = .ok (.aload_n 0, 1) := by decide +kernel
theorem dX2_frame_55 : decode cX2_frame 55 = .ok (.getfield 31, 3) := by decide +kernel
theorem dX2_frame_58 : decode cX2_frame 58 = .ok (.sipush 5536, 3) := by decide +kernel
theorem dX2_frame_61 : decode cX2_frame 61 = .ok (.iload_n 2, 1) := by decide +kernel
theorem dX2_frame_62 : decode cX2_frame 62 = .ok (.iconst 1, 1) := by decide +kernel
theorem dX2_frame_63 : decode cX2_frame 63 = .ok (.ishl, 1) := by decide +kernel
theorem dX2_frame_64 : decode cX2_frame 64 = .ok (.ior, 1) := by decide +kernel
theorem dX2_frame_65 : decode cX2_frame 65 = .ok (.iconst 1, 1) := by decide +kernel
theorem dX2_frame_66 : decode cX2_frame 66 = .ok (.ior, 1) := by decide +kernel
theorem dX2_frame_67 : decode cX2_frame 67 = .ok (.invokevirtual 81, 3) := by decide +kernel
theorem dX2_frame_70 : decode cX2_frame 70 = .ok (.aload_n 0, 1) := by decide +kernel
theorem dX2_frame_71 : decode cX2_frame 71 = .ok (.getfield 31, 3) := by decide +kernel
theorem dX2_frame_74 : decode cX2_frame 74 = .ok (.aload_n 0, 1) := by decide +kernel
theorem dX2_frame_75 : decode cX2_frame 75 = .ok (.getfield 44, 3) := by decide +kernel
theorem dX2_frame_78 : decode cX2_frame 78 = .ok (.iconst 0, 1) := by decide +kernel
theorem dX2_frame_79 : decode cX2_frame 79 = .ok (.iaload, 1) := by decide +kernel
theorem dX2_frame_80 : decode cX2_frame 80 = .ok (.invokevirtual 52, 3) := by decide +kernel
theorem dX2_frame_83 : decode cX2_frame 83 = .ok (.aload_n 0, 1) := by decide +kernel
theorem dX2_frame_84 : decode cX2_frame 84 = .ok (.getfield 31, 3) := by decide +kernel
theorem dX2_frame_87 : decode cX2_frame 87 = .ok (.aload_n 0, 1) := by decide +kernel
theorem dX2_frame_88 : decode cX2_frame 88 = .ok (.getfield 44, 3) := by decide +kernel
theorem dX2_frame_91 : decode cX2_frame 91 = .ok (.iload_n 3, 1) := by decide +kernel
theorem dX2_frame_92 : decode cX2_frame 92 = .ok (.iaload, 1) := by decide +kernel
theorem dX2_frame_93 : decode cX2_frame 93 = .ok (.invokevirtual 52, 3) := by decide +kernel
theorem dX2_frame_96 : decode cX2_frame 96 = .ok (.aload_n 0, 1) := by decide +kernel
theorem dX2_frame_97 : decode cX2_frame 97 = .ok (.getfield 31, 3) := by decide +kernel
theorem dX2_frame_100 : decode cX2_frame 100 = .ok (.sipush 6144, 3) := by decide +kernel
theorem dX2_frame_103 : decode cX2_frame 103 = .ok (.aload 4, 2) := by decide +kernel
theorem dX2_frame_105 : decode cX2_frame 105 = .ok (.ifnonnull 9, 3) := by decide +kernel
theorem dX2_frame_108 : decode cX2_frame 108 = .ok (.sipush 2046, 3) := by decide +kernel
theorem dX2_frame_111 : decode cX2_frame 111 = .ok (.goto 10, 3) := by decide +kernel
theorem dX2_frame_114 : decode cX2_frame 114 = .ok (.aload 4, 2) := by decide +kernel
theorem dX2_frame_116 : decode cX2_frame 116 = .ok (.iload 5, 2) := by decide +kernel
theorem dX2_frame_118 : decode cX2_frame 118 = .ok (.invokevirtual 84, 3) := by decide +kernel
theorem dX2_frame_121 : decode cX2_frame 121 = .ok (.ior, 1) := by decide +kernel
theorem dX2_frame_122 : decode cX2_frame 122 = .ok (.invokevirtual 81, 3) := by decide +kernel
theorem dX2_frame_125 : decode cX2_frame 125 = .ok (.iconst 0, 1) := by decide +kernel
theorem dX2_frame_126 : decode cX2_frame 126 = .ok (.istore 6, 2) := by decide +kernel
theorem dX2_frame_128 : decode cX2_frame 128 = .ok (.iload 6, 2) := by decide +kernel
theorem dX2_frame_130 : decode cX2_frame 130 = .ok (.iload 5, 2) := by decide +kernel
theorem dX2_frame_132 : decode cX2_frame 132 = .ok (.if_icmp .ge 31, 3) := by decide +kernel
theorem dX2_frame_135 : decode cX2_frame 135 = .ok (.aload_n 0, 1) := by decide +kernel
theorem dX2_frame_136 : decode cX2_frame 136 = .ok (.getfield 31, 3) := by decide +kernel
theorem dX2_frame_139 : decode cX2_frame 139 = .ok (.aload 4, 2) := by decide +kernel
theorem dX2_frame_141 : decode cX2_frame 141 = .ok (.ifnonnull 8, 3) := by decide +kernel
theorem dX2_frame_144 : decode cX2_frame 144 = .ok (.bipush 85, 2) := by decide +kernel
theorem dX2_frame_146 : decode cX2_frame 146 = .ok (.goto 8, 3) := by decide +kernel
theorem dX2_frame_149 : decode cX2_frame 149 = .ok (.aload 4, 2) := by decide +kernel
theorem dX2_frame_151 : decode cX2_frame 151 = .ok (.invokevirtual 88, 3) := by decide +kernel
theorem dX2_frame_154 : decode cX2_frame 154 = .ok (.invokevirtual 52, 3) := by decide +kernel
theorem dX2_frame_157 : decode cX2_frame 157 = .ok (.iinc 6 1, 3) := by decide +kernel
theorem dX2_frame_160 : decode cX2_frame 160 = .ok (.goto (-32), 3) := by decide +kernel
theorem dX2_frame_163 : decode cX2_frame 163 = .ok (.aload_n 0, 1) := by decide +kernel
theorem dX2_frame_164 : decode cX2_frame 164 = .ok (.getfield 31, 3) := by decide +kernel
theorem dX2_frame_167 : decode cX2_frame 167 = .ok (.iload_n 1, 1) := by decide +kernel
theorem dX2_frame_168 : decode cX2_frame 168 = .ok (.bipush 16, 2) := by decide +kernel
theorem dX2_frame_170 : decode cX2_frame 170 = .ok (.iushr, 1) := by decide +kernel
theorem dX2_frame_171 : decode cX2_frame 171 = .ok (.invokevirtual 81, 3) := by decide +kernel
theorem dX2_frame_174 : decode cX2_frame 174 = .ok (.aload_n 0, 1) := by decide +kernel
theorem dX2_frame_175 : decode cX2_frame 175 = .ok (.getfield 31, 3) := by decide +kernel
theorem dX2_frame_178 : decode cX2_frame 178 = .ok (.iload_n 1, 1) := by decide +kernel
theorem dX2_frame_179 : decode cX2_frame 179 = .ok (.invokevirtual 81, 3) := by decide +kernel
theorem dX2_frame_182 : decode cX2_frame 182 = .ok (.aload_n 0, 1) := by decide +kernel
theorem dX2_frame_183 : decode cX2_frame 183 = .ok (.getfield 31, 3) := by decide +kernel
theorem dX2_frame_186 : decode cX2_frame 186 = .ok (.aload_n 0, 1) := by decide +kernel
theorem dX2_frame_187 : decode cX2_frame 187 = .ok (.getfield 31, 3) := by decide +kernel
theorem dX2_frame_190 : decode cX2_frame 190 = .ok (.invokevirtual 91, 3) := by decide +kernel
theorem dX2_frame_193 : decode cX2_frame 193 = .ok (.invokevirtual 81, 3) := by decide +kernel
theorem dX2_frame_196 : decode cX2_frame 196 = .ok (.aload_n 0, 1) := by decide +kernel
theorem dX2_frame_197 : decode cX2_frame 197 = .ok (.getfield 44, 3) := by decide +kernel
theorem dX2_frame_200 : decode cX2_frame 200 = .ok (.iconst 0, 1) := by decide +kernel
theorem dX2_frame_201 : decode cX2_frame 201 = .ok (.dup2, 1) := by decide +kernel
theorem dX2_frame_202 : decode cX2_frame 202 = .ok (.iaload, 1) := by decide +kernel
theorem dX2_frame_203 : decode cX2_frame 203 = .ok (.iconst 1, 1) := by decide +kernel
theorem dX2_frame_204 : decode cX2_frame 204 = .ok (.iadd, 1) := by decide +kernel
theorem dX2_frame_205 : decode cX2_frame 205 = .ok (.iastore, 1) := by decide +kernel
theorem dX2_frame_206 : decode cX2_frame 206 = .ok (.aload_n 0, 1) := by decide +kernel
theorem dX2_frame_207 : decode cX2_frame 207 = .ok (.getfield 44, 3) := by decide +kernel
theorem dX2_frame_210 : decode cX2_frame 210 = .ok (.iload_n 3, 1) := by decide +kernel
theorem dX2_frame_211 : decode cX2_frame 211 = .ok (.dup2, 1) := by decide +kernel
theorem dX2_frame_212 : decode cX2_frame 212 = .ok (.iaload, 1) := by decide +kernel
theorem dX2_frame_213 : decode cX2_frame 213 = .ok (.iconst 1, 1) := by decide +kernel
theorem dX2_frame_214 : decode cX2_frame 214 = .ok (.iadd, 1) := by decide +kernel
theorem dX2_frame_215 : decode cX2_frame 215 = .ok (.iastore, 1) := by decide +kernel
theorem dX2_frame_216 : decode cX2_frame 216 = .ok (.iload_n 2, 1) := by decide +kernel
theorem dX2_frame_217 : decode cX2_frame 217 = .ok (.ireturn, 1) := by decide +kernel
set_option maxRecDepth 20000 in
theorem ggX2_byteAt_X0_at : GoodIn wsX2_byteAt wsX0_at := goodIn_r _ [6, 7, 8, 15, 16] (by decide +kernel) (by decide +kernel)
set_option maxRecDepth 20000 in
theorem gX2_byteAt_X0_at : GoodIn wsX2_byteAt (wsV RX2 94 RX0 yX0_at wsX0_at) := goodIn_app (goodIn_of _ (by decide +kernel)) ggX2_byteAt_X0_at
theorem dX2_byteAt_0 : decode cX2_byteAt 0 = .ok (.aload_n 0, 1) := by decide +kernel
theorem dX2_byteAt_1 : decode cX2_byteAt 1 = .ok (.getfield 31, 3) := by decide +kernel
theorem dX2_byteAt_4 : decode cX2_byteAt 4 = .ok (.iload_n 1, 1) := by decide +kernel
theorem dX2_byteAt_5 : decode cX2_byteAt 5 = .ok (.invokevirtual 94, 3) := by decide +kernel
theorem dX2_byteAt_8 : decode cX2_byteAt 8 = .ok (.ireturn, 1) := by decide +kernel
set_option maxRecDepth 20000 in
theorem ggX2_waiting_X2_channelOf : GoodIn wsX2_waiting wsX2_channelOf := goodIn_r _ [5, 6, 7, 11, 12, 13, 14, 15, 16] (by decide +kernel) (by decide +kernel)
set_option maxRecDepth 20000 in
theorem gX2_waiting_X2_channelOf : GoodIn wsX2_waiting (wsV RX2 55 RX2 yX2_channelOf wsX2_channelOf) := goodIn_app (goodIn_of _ (by decide +kernel)) ggX2_waiting_X2_channelOf
theorem dX2_waiting_0 : decode cX2_waiting 0 = .ok (.aload_n 0, 1) := by decide +kernel
theorem dX2_waiting_1 : decode cX2_waiting 1 = .ok (.iload_n 1, 1) := by decide +kernel
theorem dX2_waiting_2 : decode cX2_waiting 2 = .ok (.invokevirtual 55, 3) := by decide +kernel
theorem dX2_waiting_5 : decode cX2_waiting 5 = .ok (.astore_n 2, 1) := by decide +kernel
theorem dX2_waiting_6 : decode cX2_waiting 6 = .ok (.aload_n 2, 1) := by decide +kernel
theorem dX2_waiting_7 : decode cX2_waiting 7 = .ok (.ifnonnull 7, 3) := by decide +kernel
theorem dX2_waiting_10 : decode cX2_waiting 10 = .ok (.iconst (-1), 1) := by decide +kernel
theorem dX2_waiting_11 : decode cX2_waiting 11 = .ok (.goto 7, 3) := by decide +kernel
theorem dX2_waiting_14 : decode cX2_waiting 14 = .ok (.aload_n 2, 1) := by decide +kernel
theorem dX2_waiting_15 : decode cX2_waiting 15 = .ok (.getfield 71, 3) := by decide +kernel
theorem dX2_waiting_18 : decode cX2_waiting 18 = .ok (.ireturn, 1) := by decide +kernel
theorem dX2_count_0 : decode cX2_count 0 = .ok (.iload_n 1, 1) := by decide +kernel
theorem dX2_count_1 : decode cX2_count 1 = .ok (.ifCond .lt 15, 3) := by decide +kernel
theorem dX2_count_4 : decode cX2_count 4 = .ok (.iload_n 1, 1) := by decide +kernel
theorem dX2_count_5 : decode cX2_count 5 = .ok (.iconst 3, 1) := by decide +kernel
theorem dX2_count_6 : decode cX2_count 6 = .ok (.if_icmp .gt 10, 3) := by decide +kernel
theorem dX2_count_9 : decode cX2_count 9 = .ok (.aload_n 0, 1) := by decide +kernel
theorem dX2_count_10 : decode cX2_count 10 = .ok (.getfield 44, 3) := by decide +kernel
theorem dX2_count_13 : decode cX2_count 13 = .ok (.iload_n 1, 1) := by decide +kernel
theorem dX2_count_14 : decode cX2_count 14 = .ok (.iaload, 1) := by decide +kernel
theorem dX2_count_15 : decode cX2_count 15 = .ok (.ireturn, 1) := by decide +kernel
theorem dX2_count_16 : decode cX2_count 16 = .ok (.iload_n 1, 1) := by decide +kernel
theorem dX2_count_17 : decode cX2_count 17 = .ok (.iconst 4, 1) := by decide +kernel
theorem dX2_count_18 : decode cX2_count 18 = .ok (.if_icmp .ne 11, 3) := by decide +kernel
theorem dX2_count_21 : decode cX2_count 21 = .ok (.aload_n 0, 1) := by decide +kernel
theorem dX2_count_22 : decode cX2_count 22 = .ok (.getfield 27, 3) := by decide +kernel
theorem dX2_count_25 : decode cX2_count 25 = .ok (.getfield 63, 3) := by decide +kernel
theorem dX2_count_28 : decode cX2_count 28 = .ok (.ireturn, 1) := by decide +kernel
theorem dX2_count_29 : decode cX2_count 29 = .ok (.iload_n 1, 1) := by decide +kernel
theorem dX2_count_30 : decode cX2_count 30 = .ok (.iconst 5, 1) := by decide +kernel
theorem dX2_count_31 : decode cX2_count 31 = .ok (.if_icmp .ne 10, 3) := by decide +kernel
theorem dX2_count_34 : decode cX2_count 34 = .ok (.aload_n 0, 1) := by decide +kernel
theorem dX2_count_35 : decode cX2_count 35 = .ok (.getfield 18, 3) := by decide +kernel
theorem dX2_count_38 : decode cX2_count 38 = .ok (.goto 4, 3) := by decide +kernel
theorem dX2_count_41 : decode cX2_count 41 = .ok (.iconst (-1), 1) := by decide +kernel
theorem dX2_count_42 : decode cX2_count 42 = .ok (.ireturn, 1) := by decide +kernel
theorem dX2_channelOf_0 : decode cX2_channelOf 0 = .ok (.iload_n 1, 1) := by decide +kernel
theorem dX2_channelOf_1 : decode cX2_channelOf 1 = .ok (.ifCond .ne 8, 3) := by decide +kernel
theorem dX2_channelOf_4 : decode cX2_channelOf 4 = .ok (.aload_n 0, 1) := by decide +kernel
theorem dX2_channelOf_5 : decode cX2_channelOf 5 = .ok (.getfield 37, 3) := by decide +kernel
theorem dX2_channelOf_8 : decode cX2_channelOf 8 = .ok (.areturn, 1) := by decide +kernel
theorem dX2_channelOf_9 : decode cX2_channelOf 9 = .ok (.iload_n 1, 1) := by decide +kernel
theorem dX2_channelOf_10 : decode cX2_channelOf 10 = .ok (.iconst 1, 1) := by decide +kernel
theorem dX2_channelOf_11 : decode cX2_channelOf 11 = .ok (.if_icmp .ne 10, 3) := by decide +kernel
theorem dX2_channelOf_14 : decode cX2_channelOf 14 = .ok (.aload_n 0, 1) := by decide +kernel
theorem dX2_channelOf_15 : decode cX2_channelOf 15 = .ok (.getfield 41, 3) := by decide +kernel
theorem dX2_channelOf_18 : decode cX2_channelOf 18 = .ok (.goto 4, 3) := by decide +kernel
theorem dX2_channelOf_21 : decode cX2_channelOf 21 = .ok (.aconst_null, 1) := by decide +kernel
theorem dX2_channelOf_22 : decode cX2_channelOf 22 = .ok (.areturn, 1) := by decide +kernel
theorem dX2_nextChannel_0 : decode cX2_nextChannel 0 = .ok (.aload_n 0, 1) := by decide +kernel
theorem dX2_nextChannel_1 : decode cX2_nextChannel 1 = .ok (.getfield 37, 3) := by decide +kernel
theorem dX2_nextChannel_4 : decode cX2_nextChannel 4 = .ok (.getfield 71, 3) := by decide +kernel
theorem dX2_nextChannel_7 : decode cX2_nextChannel 7 = .ok (.ifCond .le 5, 3) := by decide +kernel
theorem dX2_nextChannel_10 : decode cX2_nextChannel 10 = .ok (.iconst 0, 1) := by decide +kernel
theorem dX2_nextChannel_11 : decode cX2_nextChannel 11 = .ok (.ireturn, 1) := by decide +kernel
theorem dX2_nextChannel_12 : decode cX2_nextChannel 12 = .ok (.aload_n 0, 1) := by decide +kernel
theorem dX2_nextChannel_13 : decode cX2_nextChannel 13 = .ok (.getfield 41, 3) := by decide +kernel
theorem dX2_nextChannel_16 : decode cX2_nextChannel 16 = .ok (.getfield 71, 3) := by decide +kernel
theorem dX2_nextChannel_19 : decode cX2_nextChannel 19 = .ok (.ifCond .le 7, 3) := by decide +kernel
theorem dX2_nextChannel_22 : decode cX2_nextChannel 22 = .ok (.iconst 1, 1) := by decide +kernel
theorem dX2_nextChannel_23 : decode cX2_nextChannel 23 = .ok (.goto 5, 3) := by decide +kernel
theorem dX2_nextChannel_26 : decode cX2_nextChannel 26 = .ok (.bipush 7, 2) := by decide +kernel
theorem dX2_nextChannel_28 : decode cX2_nextChannel 28 = .ok (.ireturn, 1) := by decide +kernel
set_option maxRecDepth 20000 in
theorem ggX2_holdsPacket_X0_at : GoodIn wsX2_holdsPacket wsX0_at := goodIn_r _ [5, 6, 7, 8, 9] (by decide +kernel) (by decide +kernel)
set_option maxRecDepth 20000 in
theorem gX2_holdsPacket_X0_at : GoodIn wsX2_holdsPacket (wsV RX2 94 RX0 yX0_at wsX0_at) := goodIn_app (goodIn_of _ (by decide +kernel)) ggX2_holdsPacket_X0_at
theorem dX2_holdsPacket_0 : decode cX2_holdsPacket 0 = .ok (.aload_n 0, 1) := by decide +kernel
theorem dX2_holdsPacket_1 : decode cX2_holdsPacket 1 = .ok (.getfield 63, 3) := by decide +kernel
theorem dX2_holdsPacket_4 : decode cX2_holdsPacket 4 = .ok (.bipush 7, 2) := by decide +kernel
theorem dX2_holdsPacket_6 : decode cX2_holdsPacket 6 = .ok (.if_icmp .ge 5, 3) := by decide +kernel
theorem dX2_holdsPacket_9 : decode cX2_holdsPacket 9 = .ok (.iconst 0, 1) := by decide +kernel
theorem dX2_holdsPacket_10 : decode cX2_holdsPacket 10 = .ok (.ireturn, 1) := by decide +kernel
theorem dX2_holdsPacket_11 : decode cX2_holdsPacket 11 = .ok (.aload_n 0, 1) := by decide +kernel
theorem dX2_holdsPacket_12 : decode cX2_holdsPacket 12 = .ok (.iconst 4, 1) := by decide +kernel
theorem dX2_holdsPacket_13 : decode cX2_holdsPacket 13 = .ok (.invokevirtual 94, 3) := by decide +kernel
theorem dX2_holdsPacket_16 : decode cX2_holdsPacket 16 = .ok (.sipush 256, 3) := by decide +kernel
theorem dX2_holdsPacket_19 : decode cX2_holdsPacket 19 = .ok (.imul, 1) := by decide +kernel
theorem dX2_holdsPacket_20 : decode cX2_holdsPacket 20 = .ok (.aload_n 0, 1) := by decide +kernel
theorem dX2_holdsPacket_21 : decode cX2_holdsPacket 21 = .ok (.iconst 5, 1) := by decide +kernel
theorem dX2_holdsPacket_22 : decode cX2_holdsPacket 22 = .ok (.invokevirtual 94, 3) := by decide +kernel
theorem dX2_holdsPacket_25 : decode cX2_holdsPacket 25 = .ok (.iadd, 1) := by decide +kernel
theorem dX2_holdsPacket_26 : decode cX2_holdsPacket 26 = .ok (.iconst 1, 1) := by decide +kernel
theorem dX2_holdsPacket_27 : decode cX2_holdsPacket 27 = .ok (.iadd, 1) := by decide +kernel
theorem dX2_holdsPacket_28 : decode cX2_holdsPacket 28 = .ok (.istore_n 1, 1) := by decide +kernel
theorem dX2_holdsPacket_29 : decode cX2_holdsPacket 29 = .ok (.aload_n 0, 1) := by decide +kernel
theorem dX2_holdsPacket_30 : decode cX2_holdsPacket 30 = .ok (.getfield 63, 3) := by decide +kernel
theorem dX2_holdsPacket_33 : decode cX2_holdsPacket 33 = .ok (.bipush 6, 2) := by decide +kernel
theorem dX2_holdsPacket_35 : decode cX2_holdsPacket 35 = .ok (.iload_n 1, 1) := by decide +kernel
theorem dX2_holdsPacket_36 : decode cX2_holdsPacket 36 = .ok (.iadd, 1) := by decide +kernel
theorem dX2_holdsPacket_37 : decode cX2_holdsPacket 37 = .ok (.if_icmp .ne 7, 3) := by decide +kernel
theorem dX2_holdsPacket_40 : decode cX2_holdsPacket 40 = .ok (.iconst 1, 1) := by decide +kernel
theorem dX2_holdsPacket_41 : decode cX2_holdsPacket 41 = .ok (.goto 4, 3) := by decide +kernel
theorem dX2_holdsPacket_44 : decode cX2_holdsPacket 44 = .ok (.iconst 0, 1) := by decide +kernel
theorem dX2_holdsPacket_45 : decode cX2_holdsPacket 45 = .ok (.ireturn, 1) := by decide +kernel
theorem dX3_init_0 : decode cX3_init 0 = .ok (.aload_n 0, 1) := by decide +kernel
theorem dX3_init_1 : decode cX3_init 1 = .ok (.invokespecial 1, 3) := by decide +kernel
theorem dX3_init_4 : decode cX3_init 4 = .ok (.aload_n 0, 1) := by decide +kernel
theorem dX3_init_5 : decode cX3_init 5 = .ok (.sipush 1024, 3) := by decide +kernel
theorem dX3_init_8 : decode cX3_init 8 = .ok (.newarray .byte, 2) := by decide +kernel
theorem dX3_init_10 : decode cX3_init 10 = .ok (.putfield 7, 3) := by decide +kernel
theorem dX3_init_13 : decode cX3_init 13 = .ok (.aload_n 0, 1) := by decide +kernel
theorem dX3_init_14 : decode cX3_init 14 = .ok (.sipush 8400, 3) := by decide +kernel
theorem dX3_init_17 : decode cX3_init 17 = .ok (.newarray .byte, 2) := by decide +kernel
theorem dX3_init_19 : decode cX3_init 19 = .ok (.putfield 13, 3) := by decide +kernel
theorem dX3_init_22 : decode cX3_init 22 = .ok (.aload_n 0, 1) := by decide +kernel
theorem dX3_init_23 : decode cX3_init 23 = .ok (.sipush 8400, 3) := by decide +kernel
theorem dX3_init_26 : decode cX3_init 26 = .ok (.newarray .boolean, 2) := by decide +kernel
theorem dX3_init_28 : decode cX3_init 28 = .ok (.putfield 16, 3) := by decide +kernel
theorem dX3_init_31 : decode cX3_init 31 = .ok (.aload_n 0, 1) := by decide +kernel
theorem dX3_init_32 : decode cX3_init 32 = .ok (.iconst 2, 1) := by decide +kernel
theorem dX3_init_33 : decode cX3_init 33 = .ok (.newarray .int, 2) := by decide +kernel
theorem dX3_init_35 : decode cX3_init 35 = .ok (.putfield 20, 3) := by decide +kernel
theorem dX3_init_38 : decode cX3_init 38 = .ok (.aload_n 0, 1) := by decide +kernel
theorem dX3_init_39 : decode cX3_init 39 = .ok (.iconst 4, 1) := by decide +kernel
theorem dX3_init_40 : decode cX3_init 40 = .ok (.newarray .int, 2) := by decide +kernel
theorem dX3_init_42 : decode cX3_init 42 = .ok (.putfield 24, 3) := by decide +kernel
theorem dX3_init_45 : decode cX3_init 45 = .ok (.aload_n 0, 1) := by decide +kernel
theorem dX3_init_46 : decode cX3_init 46 = .ok (.sipush 256, 3) := by decide +kernel
theorem dX3_init_49 : decode cX3_init 49 = .ok (.newarray .byte, 2) := by decide +kernel
theorem dX3_init_51 : decode cX3_init 51 = .ok (.putfield 27, 3) := by decide +kernel
theorem dX3_init_54 : decode cX3_init 54 = .ok (.aload_n 0, 1) := by decide +kernel
theorem dX3_init_55 : decode cX3_init 55 = .ok (.iload_n 1, 1) := by decide +kernel
theorem dX3_init_56 : decode cX3_init 56 = .ok (.bipush 64, 2) := by decide +kernel
theorem dX3_init_58 : decode cX3_init 58 = .ok (.if_icmp .ge 8, 3) := by decide +kernel
theorem dX3_init_61 : decode cX3_init 61 = .ok (.bipush 64, 2) := by decide +kernel
theorem dX3_init_63 : decode cX3_init 63 = .ok (.goto 17, 3) := by decide +kernel
theorem dX3_init_66 : decode cX3_init 66 = .ok (.iload_n 1, 1) := by decide +kernel
theorem dX3_init_67 : decode cX3_init 67 = .ok (.sipush 256, 3) := by decide +kernel
theorem dX3_init_70 : decode cX3_init 70 = .ok (.if_icmp .le 9, 3) := by decide +kernel
theorem dX3_init_73 : decode cX3_init 73 = .ok (.sipush 256, 3) := by decide +kernel
theorem dX3_init_76 : decode cX3_init 76 = .ok (.goto 4, 3) := by decide +kernel
theorem dX3_init_79 : decode cX3_init 79 = .ok (.iload_n 1, 1) := by decide +kernel
theorem dX3_init_80 : decode cX3_init 80 = .ok (.putfield 30, 3) := by decide +kernel
theorem dX3_init_83 : decode cX3_init 83 = .ok (.return_, 1) := by decide +kernel
theorem dX3_give_0 : decode cX3_give 0 = .ok (.aload_n 0, 1) := by decide +kernel
theorem dX3_give_1 : decode cX3_give 1 = .ok (.iconst 0, 1) := by decide +kernel
theorem dX3_give_2 : decode cX3_give 2 = .ok (.putfield 34, 3) := by decide +kernel
theorem dX3_give_5 : decode cX3_give 5 = .ok (.iload_n 3, 1) := by decide +kernel
theorem dX3_give_6 : decode cX3_give 6 = .ok (.iconst 1, 1) := by decide +kernel
theorem dX3_give_7 : decode cX3_give 7 = .ok (.if_icmp .lt 21, 3) := by decide +kernel
theorem dX3_give_10 : decode cX3_give 10 = .ok (.iload_n 3, 1) := by decide +kernel
theorem dX3_give_11 : decode cX3_give 11 = .ok (.bipush 8, 2) := by decide +kernel
theorem dX3_give_13 : decode cX3_give 13 = .ok (.if_icmp .gt 15, 3) := by decide +kernel
theorem dX3_give_16 : decode cX3_give 16 = .ok (.aload_n 0, 1) := by decide +kernel
theorem dX3_give_17 : decode cX3_give 17 = .ok (.getfield 37, 3) := by decide +kernel
theorem dX3_give_20 : decode cX3_give 20 = .ok (.sipush 1024, 3) := by decide +kernel
theorem dX3_give_23 : decode cX3_give 23 = .ok (.iload_n 3, 1) := by decide +kernel
theorem dX3_give_24 : decode cX3_give 24 = .ok (.isub, 1) := by decide +kernel
theorem dX3_give_25 : decode cX3_give 25 = .ok (.if_icmp .le 5, 3) := by decide +kernel
theorem dX3_give_28 : decode cX3_give 28 = .ok (.iconst 0, 1) := by decide +kernel
theorem dX3_give_29 : decode cX3_give 29 = .ok (.ireturn, 1) := by decide +kernel
theorem dX3_give_30 : decode cX3_give 30 = .ok (.iconst 0, 1) := by decide +kernel
theorem dX3_give_31 : decode cX3_give 31 = .ok (.istore 4, 2) := by decide +kernel
theorem dX3_give_33 : decode cX3_give 33 = .ok (.iload 4, 2) := by decide +kernel
theorem dX3_give_35 : decode cX3_give 35 = .ok (.iload_n 3, 1) := by decide +kernel
theorem dX3_give_36 : decode cX3_give 36 = .ok (.if_icmp .ge 33, 3) := by decide +kernel
theorem dX3_give_39 : decode cX3_give 39 = .ok (.aload_n 0, 1) := by decide +kernel
theorem dX3_give_40 : decode cX3_give 40 = .ok (.getfield 7, 3) := by decide +kernel
theorem dX3_give_43 : decode cX3_give 43 = .ok (.aload_n 0, 1) := by decide +kernel
theorem dX3_give_44 : decode cX3_give 44 = .ok (.getfield 37, 3) := by decide +kernel
theorem dX3_give_47 : decode cX3_give 47 = .ok (.iload 4, 2) := by decide +kernel
theorem dX3_give_49 : decode cX3_give 49 = .ok (.iadd, 1) := by decide +kernel
theorem dX3_give_50 : decode cX3_give 50 = .ok (.lload_n 1, 1) := by decide +kernel
theorem dX3_give_51 : decode cX3_give 51 = .ok (.bipush 56, 2) := by decide +kernel
theorem dX3_give_53 : decode cX3_give 53 = .ok (.bipush 8, 2) := by decide +kernel
theorem dX3_give_55 : decode cX3_give 55 = .ok (.iload 4, 2) := by decide +kernel
theorem dX3_give_57 : decode cX3_give 57 = .ok (.imul, 1) := by decide +kernel
theorem dX3_give_58 : decode cX3_give 58 = .ok (.isub, 1) := by decide +kernel
theorem dX3_give_59 : decode cX3_give 59 = .ok (.lshr, 1) := by decide +kernel
theorem dX3_give_60 : decode cX3_give 60 = .ok (.l2i, 1) := by decide +kernel
theorem dX3_give_61 : decode cX3_give 61 = .ok (.i2b, 1) := by decide +kernel
theorem dX3_give_62 : decode cX3_give 62 = .ok (.bastore, 1) := by decide +kernel
theorem dX3_give_63 : decode cX3_give 63 = .ok (.iinc 4 1, 3) := by decide +kernel
theorem dX3_give_66 : decode cX3_give 66 = .ok (.goto (-33), 3) := by decide +kernel
theorem dX3_give_69 : decode cX3_give 69 = .ok (.aload_n 0, 1) := by decide +kernel
theorem dX3_give_70 : decode cX3_give 70 = .ok (.dup, 1) := by decide +kernel
theorem dX3_give_71 : decode cX3_give 71 = .ok (.getfield 37, 3) := by decide +kernel
theorem dX3_give_74 : decode cX3_give 74 = .ok (.iload_n 3, 1) := by decide +kernel
theorem dX3_give_75 : decode cX3_give 75 = .ok (.iadd, 1) := by decide +kernel
theorem dX3_give_76 : decode cX3_give 76 = .ok (.putfield 37, 3) := by decide +kernel
theorem dX3_give_79 : decode cX3_give 79 = .ok (.iconst 1, 1) := by decide +kernel
theorem dX3_give_80 : decode cX3_give 80 = .ok (.ireturn, 1) := by decide +kernel
theorem dX3_wait_0 : decode cX3_wait 0 = .ok (.aload_n 0, 1) := by decide +kernel
theorem dX3_wait_1 : decode cX3_wait 1 = .ok (.getfield 13, 3) := by decide +kernel
theorem dX3_wait_4 : decode cX3_wait 4 = .ok (.sipush 4200, 3) := by decide +kernel
theorem dX3_wait_7 : decode cX3_wait 7 = .ok (.iload_n 1, 1) := by decide +kernel
theorem dX3_wait_8 : decode cX3_wait 8 = .ok (.imul, 1) := by decide +kernel
theorem dX3_wait_9 : decode cX3_wait 9 = .ok (.aload_n 0, 1) := by decide +kernel
theorem dX3_wait_10 : decode cX3_wait 10 = .ok (.getfield 20, 3) := by decide +kernel
theorem dX3_wait_13 : decode cX3_wait 13 = .ok (.iload_n 1, 1) := by decide +kernel
theorem dX3_wait_14 : decode cX3_wait 14 = .ok (.iaload, 1) := by decide +kernel
theorem dX3_wait_15 : decode cX3_wait 15 = .ok (.iadd, 1) := by decide +kernel
theorem dX3_wait_16 : decode cX3_wait 16 = .ok (.iload_n 2, 1) := by decide +kernel
theorem dX3_wait_17 : decode cX3_wait 17 = .ok (.i2b, 1) := by decide +kernel
theorem dX3_wait_18 : decode cX3_wait 18 = .ok (.bastore, 1) := by decide +kernel
theorem dX3_wait_19 : decode cX3_wait 19 = .ok (.aload_n 0, 1) := by decide +kernel
theorem dX3_wait_20 : decode cX3_wait 20 = .ok (.getfield 16, 3) := by decide +kernel
theorem dX3_wait_23 : decode cX3_wait 23 = .ok (.sipush 4200, 3) := by decide +kernel
theorem dX3_wait_26 : decode cX3_wait 26 = .ok (.iload_n 1, 1) := by decide +kernel
theorem dX3_wait_27 : decode cX3_wait 27 = .ok (.imul, 1) := by decide +kernel
theorem dX3_wait_28 : decode cX3_wait 28 = .ok (.aload_n 0, 1) := by decide +kernel
theorem dX3_wait_29 : decode cX3_wait 29 = .ok (.getfield 20, 3) := by decide +kernel
theorem dX3_wait_32 : decode cX3_wait 32 = .ok (.iload_n 1, 1) := by decide +kernel
theorem dX3_wait_33 : decode cX3_wait 33 = .ok (.iaload, 1) := by decide +kernel
theorem dX3_wait_34 : decode cX3_wait 34 = .ok (.iadd, 1) := by decide +kernel
theorem dX3_wait_35 : decode cX3_wait 35 = .ok (.iload_n 3, 1) := by decide +kernel
theorem dX3_wait_36 : decode cX3_wait 36 = .ok (.bastore, 1) := by decide +kernel
theorem dX3_wait_37 : decode cX3_wait 37 = .ok (.aload_n 0, 1) := by decide +kernel
theorem dX3_wait_38 : decode cX3_wait 38 = .ok (.getfield 20, 3) := by decide +kernel
theorem dX3_wait_41 : decode cX3_wait 41 = .ok (.iload_n 1, 1) := by decide +kernel
theorem dX3_wait_42 : decode cX3_wait 42 = .ok (.dup2, 1) := by decide +kernel
theorem dX3_wait_43 : decode cX3_wait 43 = .ok (.iaload, 1) := by decide +kernel
theorem dX3_wait_44 : decode cX3_wait 44 = .ok (.iconst 1, 1) := by decide +kernel
theorem dX3_wait_45 : decode cX3_wait 45 = .ok (.iadd, 1) := by decide +kernel
theorem dX3_wait_46 : decode cX3_wait 46 = .ok (.iastore, 1) := by decide +kernel
theorem dX3_wait_47 : decode cX3_wait 47 = .ok (.return_, 1) := by decide +kernel
set_option maxRecDepth 20000 in
theorem ggX3_send_X3_wait : GoodIn wsX3_send wsX3_wait := goodIn_r _ [9, 10, 4, 11, 12, 13, 14, 15, 16, 17, 18, 19, 20, 21] (by decide +kernel) (by decide +kernel)
set_option maxRecDepth 20000 in
theorem gX3_send_X3_wait : GoodIn wsX3_send (wsV RX3 40 RX3 yX3_wait wsX3_wait) := goodIn_app (goodIn_of _ (by decide +kernel)) ggX3_send_X3_wait
theorem dX3_send_0 : decode cX3_send 0 = .ok (.aload_n 0, 1) := by decide +kernel
theorem dX3_send_1 : decode cX3_send 1 = .ok (.iconst 0, 1) := by decide +kernel
theorem dX3_send_2 : decode cX3_send 2 = .ok (.putfield 34, 3) := by decide +kernel
theorem dX3_send_5 : decode cX3_send 5 = .ok (.aload_n 0, 1) := by decide +kernel
theorem dX3_send_6 : decode cX3_send 6 = .ok (.getfield 37, 3) := by decide +kernel
theorem dX3_send_9 : decode cX3_send 9 = .ok (.istore_n 2, 1) := by decide +kernel
theorem dX3_send_10 : decode cX3_send 10 = .ok (.aload_n 0, 1) := by decide +kernel
theorem dX3_send_11 : decode cX3_send 11 = .ok (.iconst 0, 1) := by decide +kernel
theorem dX3_send_12 : decode cX3_send 12 = .ok (.putfield 37, 3) := by decide +kernel
theorem dX3_send_15 : decode cX3_send 15 = .ok (.iload_n 2, 1) := by decide +kernel
theorem dX3_send_16 : decode cX3_send 16 = .ok (.bipush 6, 2) := by decide +kernel
theorem dX3_send_18 : decode cX3_send 18 = .ok (.if_icmp .le 39, 3) := by decide +kernel
theorem dX3_send_21 : decode cX3_send 21 = .ok (.iload_n 2, 1) := by decide +kernel
theorem dX3_send_22 : decode cX3_send 22 = .ok (.bipush 7, 2) := by decide +kernel
theorem dX3_send_24 : decode cX3_send 24 = .ok (.sipush 256, 3) := by decide +kernel
theorem dX3_send_27 : decode cX3_send 27 = .ok (.aload_n 0, 1) := by decide +kernel
theorem dX3_send_28 : decode cX3_send 28 = .ok (.getfield 7, 3) := by decide +kernel
theorem dX3_send_31 : decode cX3_send 31 = .ok (.iconst 4, 1) := by decide +kernel
theorem dX3_send_32 : decode cX3_send 32 = .ok (.baload, 1) := by decide +kernel
theorem dX3_send_33 : decode cX3_send 33 = .ok (.sipush 255, 3) := by decide +kernel
theorem dX3_send_36 : decode cX3_send 36 = .ok (.iand, 1) := by decide +kernel
theorem dX3_send_37 : decode cX3_send 37 = .ok (.imul, 1) := by decide +kernel
theorem dX3_send_38 : decode cX3_send 38 = .ok (.iadd, 1) := by decide +kernel
theorem dX3_send_39 : decode cX3_send 39 = .ok (.aload_n 0, 1) := by decide +kernel
theorem dX3_send_40 : decode cX3_send 40 = .ok (.getfield 7, 3) := by decide +kernel
theorem dX3_send_43 : decode cX3_send 43 = .ok (.iconst 5, 1) := by decide +kernel
theorem dX3_send_44 : decode cX3_send 44 = .ok (.baload, 1) := by decide +kernel
theorem dX3_send_45 : decode cX3_send 45 = .ok (.sipush 255, 3) := by decide +kernel
theorem dX3_send_48 : decode cX3_send 48 = .ok (.iand, 1) := by decide +kernel
theorem dX3_send_49 : decode cX3_send 49 = .ok (.iadd, 1) := by decide +kernel
theorem dX3_send_50 : decode cX3_send 50 = .ok (.if_icmp .ne 7, 3) := by decide +kernel
theorem dX3_send_53 : decode cX3_send 53 = .ok (.iconst 1, 1) := by decide +kernel
theorem dX3_send_54 : decode cX3_send 54 = .ok (.goto 4, 3) := by decide +kernel
theorem dX3_send_57 : decode cX3_send 57 = .ok (.iconst 0, 1) := by decide +kernel
theorem dX3_send_58 : decode cX3_send 58 = .ok (.istore_n 3, 1) := by decide +kernel
theorem dX3_send_59 : decode cX3_send 59 = .ok (.iload_n 1, 1) := by decide +kernel
theorem dX3_send_60 : decode cX3_send 60 = .ok (.ifCond .lt 26, 3) := by decide +kernel
theorem dX3_send_63 : decode cX3_send 63 = .ok (.iload_n 1, 1) := by decide +kernel
theorem dX3_send_64 : decode cX3_send 64 = .ok (.iconst 1, 1) := by decide +kernel
theorem dX3_send_65 : decode cX3_send 65 = .ok (.if_icmp .gt 21, 3) := by decide +kernel
theorem dX3_send_68 : decode cX3_send 68 = .ok (.iload_n 3, 1) := by decide +kernel
theorem dX3_send_69 : decode cX3_send 69 = .ok (.ifCond .eq 17, 3) := by decide +kernel
theorem dX3_send_72 : decode cX3_send 72 = .ok (.aload_n 0, 1) := by decide +kernel
theorem dX3_send_73 : decode cX3_send 73 = .ok (.getfield 20, 3) := by decide +kernel
theorem dX3_send_76 : decode cX3_send 76 = .ok (.iload_n 1, 1) := by decide +kernel
theorem dX3_send_77 : decode cX3_send 77 = .ok (.iaload, 1) := by decide +kernel
theorem dX3_send_78 : decode cX3_send 78 = .ok (.iload_n 2, 1) := by decide +kernel
theorem dX3_send_79 : decode cX3_send 79 = .ok (.iadd, 1) := by decide +kernel
theorem dX3_send_80 : decode cX3_send 80 = .ok (.sipush 4096, 3) := by decide +kernel
theorem dX3_send_83 : decode cX3_send 83 = .ok (.if_icmp .le 5, 3) := by decide +kernel
theorem dX3_send_86 : decode cX3_send 86 = .ok (.iconst (-1), 1) := by decide +kernel
theorem dX3_send_87 : decode cX3_send 87 = .ok (.ireturn, 1) := by decide +kernel
theorem dX3_send_88 : decode cX3_send 88 = .ok (.iconst 0, 1) := by decide +kernel
theorem dX3_send_89 : decode cX3_send 89 = .ok (.istore 4, 2) := by decide +kernel
theorem dX3_send_91 : decode cX3_send 91 = .ok (.iload 4, 2) := by decide +kernel
theorem dX3_send_93 : decode cX3_send 93 = .ok (.iload_n 2, 1) := by decide +kernel
theorem dX3_send_94 : decode cX3_send 94 = .ok (.if_icmp .ge 31, 3) := by decide +kernel
theorem dX3_send_97 : decode cX3_send 97 = .ok (.aload_n 0, 1) := by decide +kernel
theorem dX3_send_98 : decode cX3_send 98 = .ok (.iload_n 1, 1) := by decide +kernel
theorem dX3_send_99 : decode cX3_send 99 = .ok (.aload_n 0, 1) := by decide +kernel
theorem dX3_send_100 : decode cX3_send 100 = .ok (.getfield 7, 3) := by decide +kernel
theorem dX3_send_103 : decode cX3_send 103 = .ok (.iload 4, 2) := by decide +kernel
theorem dX3_send_105 : decode cX3_send 105 = .ok (.baload, 1) := by decide +kernel
theorem dX3_send_106 : decode cX3_send 106 = .ok (.iload 4, 2) := by decide +kernel
theorem dX3_send_108 : decode cX3_send 108 = .ok (.ifCond .ne 7, 3) := by decide +kernel
theorem dX3_send_111 : decode cX3_send 111 = .ok (.iconst 1, 1) := by decide +kernel
theorem dX3_send_112 : decode cX3_send 112 = .ok (.goto 4, 3) := by decide +kernel
theorem dX3_send_115 : decode cX3_send 115 = .ok (.iconst 0, 1) := by decide +kernel
theorem dX3_send_116 : decode cX3_send 116 = .ok (.invokevirtual 40, 3) := by decide +kernel
theorem dX3_send_119 : decode cX3_send 119 = .ok (.iinc 4 1, 3) := by decide +kernel
theorem dX3_send_122 : decode cX3_send 122 = .ok (.goto (-31), 3) := by decide +kernel
theorem dX3_send_125 : decode cX3_send 125 = .ok (.aload_n 0, 1) := by decide +kernel
theorem dX3_send_126 : decode cX3_send 126 = .ok (.getfield 20, 3) := by decide +kernel
theorem dX3_send_129 : decode cX3_send 129 = .ok (.iload_n 1, 1) := by decide +kernel
theorem dX3_send_130 : decode cX3_send 130 = .ok (.iaload, 1) := by decide +kernel
theorem dX3_send_131 : decode cX3_send 131 = .ok (.ireturn, 1) := by decide +kernel
theorem dX3_add_0 : decode cX3_add 0 = .ok (.aload_n 0, 1) := by decide +kernel
theorem dX3_add_1 : decode cX3_add 1 = .ok (.getfield 27, 3) := by decide +kernel
theorem dX3_add_4 : decode cX3_add 4 = .ok (.aload_n 0, 1) := by decide +kernel
theorem dX3_add_5 : decode cX3_add 5 = .ok (.getfield 44, 3) := by decide +kernel
theorem dX3_add_8 : decode cX3_add 8 = .ok (.iload_n 1, 1) := by decide +kernel
theorem dX3_add_9 : decode cX3_add 9 = .ok (.i2b, 1) := by decide +kernel
theorem dX3_add_10 : decode cX3_add 10 = .ok (.bastore, 1) := by decide +kernel
theorem dX3_add_11 : decode cX3_add 11 = .ok (.aload_n 0, 1) := by decide +kernel
theorem dX3_add_12 : decode cX3_add 12 = .ok (.dup, 1) := by decide +kernel
theorem dX3_add_13 : decode cX3_add 13 = .ok (.getfield 44, 3) := by decide +kernel
theorem dX3_add_16 : decode cX3_add 16 = .ok (.iconst 1, 1) := by decide +kernel
theorem dX3_add_17 : decode cX3_add 17 = .ok (.iadd, 1) := by decide +kernel
theorem dX3_add_18 : decode cX3_add 18 = .ok (.putfield 44, 3) := by decide +kernel
theorem dX3_add_21 : decode cX3_add 21 = .ok (.return_, 1) := by decide +kernel
theorem dX3_check_0 : decode cX3_check 0 = .ok (.ldc 47, 2) := by decide +kernel
theorem dX3_check_2 : decode cX3_check 2 = .ok (.istore_n 1, 1) := by decide +kernel
theorem dX3_check_3 : decode cX3_check 3 = .ok (.iconst 0, 1) := by decide +kernel
theorem dX3_check_4 : decode cX3_check 4 = .ok (.istore_n 2, 1) := by decide +kernel
theorem dX3_check_5 : decode cX3_check 5 = .ok (.iload_n 2, 1) := by decide +kernel
theorem dX3_check_6 : decode cX3_check 6 = .ok (.aload_n 0, 1) := by decide +kernel
theorem dX3_check_7 : decode cX3_check 7 = .ok (.getfield 44, 3) := by decide +kernel
theorem dX3_check_10 : decode cX3_check 10 = .ok (.if_icmp .ge 59, 3) := by decide +kernel
theorem dX3_check_13 : decode cX3_check 13 = .ok (.iload_n 1, 1) := by decide +kernel
theorem dX3_check_14 : decode cX3_check 14 = .ok (.aload_n 0, 1) := by decide +kernel
theorem dX3_check_15 : decode cX3_check 15 = .ok (.getfield 27, 3) := by decide +kernel
theorem dX3_check_18 : decode cX3_check 18 = .ok (.iload_n 2, 1) := by decide +kernel
theorem dX3_check_19 : decode cX3_check 19 = .ok (.baload, 1) := by decide +kernel
theorem dX3_check_20 : decode cX3_check 20 = .ok (.sipush 255, 3) := by decide +kernel
theorem dX3_check_23 : decode cX3_check 23 = .ok (.iand, 1) := by decide +kernel
theorem dX3_check_24 : decode cX3_check 24 = .ok (.sipush 256, 3) := by decide +kernel
theorem dX3_check_27 : decode cX3_check 27 = .ok (.imul, 1) := by decide +kernel
theorem dX3_check_28 : decode cX3_check 28 = .ok (.ixor, 1) := by decide +kernel
theorem dX3_check_29 : decode cX3_check 29 = .ok (.istore_n 1, 1) := by decide +kernel
theorem dX3_check_30 : decode cX3_check 30 = .ok (.iconst 0, 1) := by decide +kernel
theorem dX3_check_31 : decode cX3_check 31 = .ok (.istore_n 3, 1) := by decide +kernel
theorem dX3_check_32 : decode cX3_check 32 = .ok (.iload_n 3, 1) := by decide +kernel
theorem dX3_check_33 : decode cX3_check 33 = .ok (.bipush 8, 2) := by decide +kernel
theorem dX3_check_35 : decode cX3_check 35 = .ok (.if_icmp .ge 28, 3) := by decide +kernel
theorem dX3_check_38 : decode cX3_check 38 = .ok (.iconst 2, 1) := by decide +kernel
theorem dX3_check_39 : decode cX3_check 39 = .ok (.iload_n 1, 1) := by decide +kernel
theorem dX3_check_40 : decode cX3_check 40 = .ok (.imul, 1) := by decide +kernel
theorem dX3_check_41 : decode cX3_check 41 = .ok (.istore_n 1, 1) := by decide +kernel
theorem dX3_check_42 : decode cX3_check 42 = .ok (.iload_n 1, 1) := by decide +kernel
theorem dX3_check_43 : decode cX3_check 43 = .ok (.ldc 48, 2) := by decide +kernel
theorem dX3_check_45 : decode cX3_check 45 = .ok (.if_icmp .lt 10, 3) := by decide +kernel
theorem dX3_check_48 : decode cX3_check 48 = .ok (.iload_n 1, 1) := by decide +kernel
theorem dX3_check_49 : decode cX3_check 49 = .ok (.ldc 49, 2) := by decide +kernel
theorem dX3_check_51 : decode cX3_check 51 = .ok (.ixor, 1) := by decide +kernel
theorem dX3_check_52 : decode cX3_check 52 = .ok (.goto 4, 3) := by decide +kernel
theorem dX3_check_55 : decode cX3_check 55 = .ok (.iload_n 1, 1) := by decide +kernel
theorem dX3_check_56 : decode cX3_check 56 = .ok (.istore_n 1, 1) := by decide +kernel
theorem dX3_check_57 : decode cX3_check 57 = .ok (.iinc 3 1, 3) := by decide +kernel
theorem dX3_check_60 : decode cX3_check 60 = .ok (.goto (-28), 3) := by decide +kernel
theorem dX3_check_63 : decode cX3_check 63 = .ok (.iinc 2 1, 3) := by decide +kernel
theorem dX3_check_66 : decode cX3_check 66 = .ok (.goto (-61), 3) := by decide +kernel
theorem dX3_check_69 : decode cX3_check 69 = .ok (.iload_n 1, 1) := by decide +kernel
theorem dX3_check_70 : decode cX3_check 70 = .ok (.ireturn, 1) := by decide +kernel
set_option maxRecDepth 20000 in
theorem ggX3_fills_X3_wait : GoodIn wsX3_fills wsX3_wait := goodIn_r _ [5, 6, 7, 8, 9, 10, 11, 12, 13, 14, 15, 16, 17, 18] (by decide +kernel) (by decide +kernel)
set_option maxRecDepth 20000 in
theorem gX3_fills_X3_wait : GoodIn wsX3_fills (wsV RX3 40 RX3 yX3_wait wsX3_wait) := goodIn_app (goodIn_of _ (by decide +kernel)) ggX3_fills_X3_wait
theorem dX3_fills_0 : decode cX3_fills 0 = .ok (.iload_n 2, 1) := by decide +kernel
theorem dX3_fills_1 : decode cX3_fills 1 = .ok (.bipush 7, 2) := by decide +kernel
theorem dX3_fills_3 : decode cX3_fills 3 = .ok (.isub, 1) := by decide +kernel
theorem dX3_fills_4 : decode cX3_fills 4 = .ok (.istore_n 3, 1) := by decide +kernel
theorem dX3_fills_5 : decode cX3_fills 5 = .ok (.aload_n 0, 1) := by decide +kernel
theorem dX3_fills_6 : decode cX3_fills 6 = .ok (.iload_n 1, 1) := by decide +kernel
theorem dX3_fills_7 : decode cX3_fills 7 = .ok (.bipush 7, 2) := by decide +kernel
theorem dX3_fills_9 : decode cX3_fills 9 = .ok (.iconst 1, 1) := by decide +kernel
theorem dX3_fills_10 : decode cX3_fills 10 = .ok (.invokevirtual 40, 3) := by decide +kernel
theorem dX3_fills_13 : decode cX3_fills 13 = .ok (.aload_n 0, 1) := by decide +kernel
theorem dX3_fills_14 : decode cX3_fills 14 = .ok (.iload_n 1, 1) := by decide +kernel
theorem dX3_fills_15 : decode cX3_fills 15 = .ok (.sipush 255, 3) := by decide +kernel
theorem dX3_fills_18 : decode cX3_fills 18 = .ok (.iconst 0, 1) := by decide +kernel
theorem dX3_fills_19 : decode cX3_fills 19 = .ok (.invokevirtual 40, 3) := by decide +kernel
theorem dX3_fills_22 : decode cX3_fills 22 = .ok (.aload_n 0, 1) := by decide +kernel
theorem dX3_fills_23 : decode cX3_fills 23 = .ok (.iload_n 1, 1) := by decide +kernel
theorem dX3_fills_24 : decode cX3_fills 24 = .ok (.sipush 192, 3) := by decide +kernel
theorem dX3_fills_27 : decode cX3_fills 27 = .ok (.iconst 0, 1) := by decide +kernel
theorem dX3_fills_28 : decode cX3_fills 28 = .ok (.invokevirtual 40, 3) := by decide +kernel
theorem dX3_fills_31 : decode cX3_fills 31 = .ok (.aload_n 0, 1) := by decide +kernel
theorem dX3_fills_32 : decode cX3_fills 32 = .ok (.iload_n 1, 1) := by decide +kernel
theorem dX3_fills_33 : decode cX3_fills 33 = .ok (.iconst 0, 1) := by decide +kernel
theorem dX3_fills_34 : decode cX3_fills 34 = .ok (.iconst 0, 1) := by decide +kernel
theorem dX3_fills_35 : decode cX3_fills 35 = .ok (.invokevirtual 40, 3) := by decide +kernel
theorem dX3_fills_38 : decode cX3_fills 38 = .ok (.aload_n 0, 1) := by decide +kernel
theorem dX3_fills_39 : decode cX3_fills 39 = .ok (.iload_n 1, 1) := by decide +kernel
theorem dX3_fills_40 : decode cX3_fills 40 = .ok (.iload_n 3, 1) := by decide +kernel
theorem dX3_fills_41 : decode cX3_fills 41 = .ok (.sipush 256, 3) := by decide +kernel
theorem dX3_fills_44 : decode cX3_fills 44 = .ok (.idiv, 1) := by decide +kernel
theorem dX3_fills_45 : decode cX3_fills 45 = .ok (.iconst 0, 1) := by decide +kernel
theorem dX3_fills_46 : decode cX3_fills 46 = .ok (.invokevirtual 40, 3) := by decide +kernel
theorem dX3_fills_49 : decode cX3_fills 49 = .ok (.aload_n 0, 1) := by decide +kernel
theorem dX3_fills_50 : decode cX3_fills 50 = .ok (.iload_n 1, 1) := by decide +kernel
theorem dX3_fills_51 : decode cX3_fills 51 = .ok (.iload_n 3, 1) := by decide +kernel
theorem dX3_fills_52 : decode cX3_fills 52 = .ok (.iconst 0, 1) := by decide +kernel
theorem dX3_fills_53 : decode cX3_fills 53 = .ok (.invokevirtual 40, 3) := by decide +kernel
theorem dX3_fills_56 : decode cX3_fills 56 = .ok (.bipush 6, 2) := by decide +kernel
theorem dX3_fills_58 : decode cX3_fills 58 = .ok (.istore 4, 2) := by decide +kernel
theorem dX3_fills_60 : decode cX3_fills 60 = .ok (.iload 4, 2) := by decide +kernel
theorem dX3_fills_62 : decode cX3_fills 62 = .ok (.iload_n 2, 1) := by decide +kernel
theorem dX3_fills_63 : decode cX3_fills 63 = .ok (.if_icmp .ge 17, 3) := by decide +kernel
theorem dX3_fills_66 : decode cX3_fills 66 = .ok (.aload_n 0, 1) := by decide +kernel
theorem dX3_fills_67 : decode cX3_fills 67 = .ok (.iload_n 1, 1) := by decide +kernel
theorem dX3_fills_68 : decode cX3_fills 68 = .ok (.bipush 85, 2) := by decide +kernel
theorem dX3_fills_70 : decode cX3_fills 70 = .ok (.iconst 0, 1) := by decide +kernel
theorem dX3_fills_71 : decode cX3_fills 71 = .ok (.invokevirtual 40, 3) := by decide +kernel
theorem dX3_fills_74 : decode cX3_fills 74 = .ok (.iinc 4 1, 3) := by decide +kernel
theorem dX3_fills_77 : decode cX3_fills 77 = .ok (.goto (-17), 3) := by decide +kernel
theorem dX3_fills_80 : decode cX3_fills 80 = .ok (.return_, 1) := by decide +kernel
theorem dX3_first_0 : decode cX3_first 0 = .ok (.iconst 0, 1) := by decide +kernel
theorem dX3_first_1 : decode cX3_first 1 = .ok (.istore_n 3, 1) := by decide +kernel
theorem dX3_first_2 : decode cX3_first 2 = .ok (.iload_n 3, 1) := by decide +kernel
theorem dX3_first_3 : decode cX3_first 3 = .ok (.iload_n 2, 1) := by decide +kernel
theorem dX3_first_4 : decode cX3_first 4 = .ok (.if_icmp .ge 24, 3) := by decide +kernel
theorem dX3_first_7 : decode cX3_first 7 = .ok (.aload_n 0, 1) := by decide +kernel
theorem dX3_first_8 : decode cX3_first 8 = .ok (.getfield 16, 3) := by decide +kernel
theorem dX3_first_11 : decode cX3_first 11 = .ok (.sipush 4200, 3) := by decide +kernel
theorem dX3_first_14 : decode cX3_first 14 = .ok (.iload_n 1, 1) := by decide +kernel
theorem dX3_first_15 : decode cX3_first 15 = .ok (.imul, 1) := by decide +kernel
theorem dX3_first_16 : decode cX3_first 16 = .ok (.iload_n 3, 1) := by decide +kernel
theorem dX3_first_17 : decode cX3_first 17 = .ok (.iadd, 1) := by decide +kernel
theorem dX3_first_18 : decode cX3_first 18 = .ok (.baload, 1) := by decide +kernel
theorem dX3_first_19 : decode cX3_first 19 = .ok (.ifCond .ne 9, 3) := by decide +kernel
theorem dX3_first_22 : decode cX3_first 22 = .ok (.iinc 3 1, 3) := by decide +kernel
theorem dX3_first_25 : decode cX3_first 25 = .ok (.goto (-23), 3) := by decide +kernel
theorem dX3_first_28 : decode cX3_first 28 = .ok (.iload_n 3, 1) := by decide +kernel
theorem dX3_first_29 : decode cX3_first 29 = .ok (.iload_n 2, 1) := by decide +kernel
theorem dX3_first_30 : decode cX3_first 30 = .ok (.if_icmp .ge 7, 3) := by decide +kernel
theorem dX3_first_33 : decode cX3_first 33 = .ok (.iload_n 3, 1) := by decide +kernel
theorem dX3_first_34 : decode cX3_first 34 = .ok (.goto 6, 3) := by decide +kernel
theorem dX3_first_37 : decode cX3_first 37 = .ok (.sipush 2047, 3) := by decide +kernel
theorem dX3_first_40 : decode cX3_first 40 = .ok (.ireturn, 1) := by decide +kernel
set_option maxRecDepth 20000 in
theorem ggX3_frame_X3_fills : GoodIn wsX3_frame wsX3_fills := goodIn_r _ [11, 12, 13, 14, 10, 15, 6, 2, 16, 31, 32, 33, 34, 35, 36, 37, 38, 39, 40] (by decide +kernel) (by decide +kernel)
set_option maxRecDepth 20000 in
theorem gX3_frame_X3_fills : GoodIn wsX3_frame (wsV RX3 50 RX3 yX3_fills wsX3_fills) := goodIn_app (goodIn_of _ (by decide +kernel)) ggX3_frame_X3_fills
set_option maxRecDepth 20000 in
theorem ggX3_frame_X3_first : GoodIn wsX3_frame wsX3_first := goodIn_r _ [20, 16, 31, 32, 33, 34, 35, 36, 37, 38, 39, 40] (by decide +kernel) (by decide +kernel)
set_option maxRecDepth 20000 in
theorem gX3_frame_X3_first : GoodIn wsX3_frame (wsV RX3 54 RX3 yX3_first wsX3_first) := goodIn_app (goodIn_of _ (by decide +kernel)) ggX3_frame_X3_first
set_option maxRecDepth 20000 in
theorem ggX3_frame_X3_add : GoodIn wsX3_frame wsX3_add := goodIn_r _ [24, 25, 4, 31, 32, 33, 34, 35, 36, 37, 38, 39, 40] (by decide +kernel) (by decide +kernel)
set_option maxRecDepth 20000 in
theorem gX3_frame_X3_add : GoodIn wsX3_frame (wsV RX3 58 RX3 yX3_add wsX3_add) := goodIn_app (goodIn_of _ (by decide +kernel)) ggX3_frame_X3_add
set_option maxRecDepth 20000 in
theorem ggX3_frame_X3_check : GoodIn wsX3_frame wsX3_check := goodIn_r _ [29, 30, 4, 25, 31, 32, 33, 34, 35, 36, 37, 38, 39, 40] (by decide +kernel) (by decide +kernel)
set_option maxRecDepth 20000 in
theorem gX3_frame_X3_check : GoodIn wsX3_frame (wsV RX3 62 RX3 yX3_check wsX3_check) := goodIn_app (goodIn_of _ (by decide +kernel)) ggX3_frame_X3_check
theorem dX3_frame_0 : decode cX3_frame 0 = .ok (.aload_n 0, 1) := by decide +kernel
theorem dX3_frame_1 : decode cX3_frame 1 = .ok (.iconst 0, 1) := by decide +kernel
theorem dX3_frame_2 : decode cX3_frame 2 = .ok (.putfield 34, 3) := by decide +kernel
theorem dX3_frame_5 : decode cX3_frame 5 = .ok (.aload_n 0, 1) := by decide +kernel
theorem dX3_frame_6 : decode cX3_frame 6 = .ok (.getfield 20, 3) := by decide +kernel
theorem dX3_frame_9 : decode cX3_frame 9 = .ok (.iconst 0, 1) := by decide +kernel
theorem dX3_frame_10 : decode cX3_frame 10 = .ok (.iaload, 1) := by decide +kernel
theorem dX3_frame_11 : decode cX3_frame 11 = .ok (.ifCond .le 7, 3) := by decide +kernel
theorem dX3_frame_14 : decode cX3_frame 14 = .ok (.iconst 0, 1) := by decide +kernel
theorem dX3_frame_15 : decode cX3_frame 15 = .ok (.goto 17, 3) := by decide +kernel
theorem dX3_frame_18 : decode cX3_frame 18 = .ok (.aload_n 0, 1) := by decide +kernel
theorem dX3_frame_19 : decode cX3_frame 19 = .ok (.getfield 20, 3) := by decide +kernel
theorem dX3_frame_22 : decode cX3_frame 22 = .ok (.iconst 1, 1) := by decide +kernel
theorem dX3_frame_23 : decode cX3_frame 23 = .ok (.iaload, 1) := by decide +kernel
theorem dX3_frame_24 : decode cX3_frame 24 = .ok (.ifCond .le 7, 3) := by decide +kernel
theorem dX3_frame_27 : decode cX3_frame 27 = .ok (.iconst 1, 1) := by decide +kernel
theorem dX3_frame_28 : decode cX3_frame 28 = .ok (.goto 4, 3) := by decide +kernel
theorem dX3_frame_31 : decode cX3_frame 31 = .ok (.iconst 2, 1) := by decide +kernel
theorem dX3_frame_32 : decode cX3_frame 32 = .ok (.istore_n 2, 1) := by decide +kernel
theorem dX3_frame_33 : decode cX3_frame 33 = .ok (.iload_n 2, 1) := by decide +kernel
theorem dX3_frame_34 : decode cX3_frame 34 = .ok (.iconst 2, 1) := by decide +kernel
theorem dX3_frame_35 : decode cX3_frame 35 = .ok (.if_icmp .ne 8, 3) := by decide +kernel
theorem dX3_frame_38 : decode cX3_frame 38 = .ok (.bipush 7, 2) := by decide +kernel
theorem dX3_frame_40 : decode cX3_frame 40 = .ok (.goto 4, 3) := by decide +kernel
theorem dX3_frame_43 : decode cX3_frame 43 = .ok (.iload_n 2, 1) := by decide +kernel
theorem dX3_frame_44 : decode cX3_frame 44 = .ok (.istore_n 3, 1) := by decide +kernel
theorem dX3_frame_45 : decode cX3_frame 45 = .ok (.aload_n 0, 1) := by decide +kernel
theorem dX3_frame_46 : decode cX3_frame 46 = .ok (.getfield 30, 3) := by decide +kernel
theorem dX3_frame_49 : decode cX3_frame 49 = .ok (.bipush 12, 2) := by decide +kernel
theorem dX3_frame_51 : decode cX3_frame 51 = .ok (.isub, 1) := by decide +kernel
theorem dX3_frame_52 : decode cX3_frame 52 = .ok (.istore 4, 2) := by decide +kernel
theorem dX3_frame_54 : decode cX3_frame 54 = .ok (.iload_n 2, 1) := by decide +kernel
theorem dX3_frame_55 : decode cX3_frame 55 = .ok (.iconst 2, 1) := by decide +kernel
theorem dX3_frame_56 : decode cX3_frame 56 = .ok (.if_icmp .ge 47, 3) := by decide +kernel
theorem dX3_frame_59 : decode cX3_frame 59 = .ok (.aload_n 0, 1) := by decide +kernel
theorem dX3_frame_60 : decode cX3_frame 60 = .ok (.getfield 20, 3) := by decide +kernel
theorem dX3_frame_63 : decode cX3_frame 63 = .ok (.iload_n 2, 1) := by decide +kernel
theorem dX3_frame_64 : decode cX3_frame 64 = .ok (.iaload, 1) := by decide +kernel
theorem dX3_frame_65 : decode cX3_frame 65 = .ok (.iload 4, 2) := by decide +kernel
theorem dX3_frame_67 : decode cX3_frame 67 = .ok (.if_icmp .ge 36, 3) := by decide +kernel
theorem dX3_frame_70 : decode cX3_frame 70 = .ok (.aload_n 0, 1) := by decide +kernel
theorem dX3_frame_71 : decode cX3_frame 71 = .ok (.iload_n 2, 1) := by decide +kernel
theorem dX3_frame_72 : decode cX3_frame 72 = .ok (.iload 4, 2) := by decide +kernel
theorem dX3_frame_74 : decode cX3_frame 74 = .ok (.aload_n 0, 1) := by decide +kernel
theorem dX3_frame_75 : decode cX3_frame 75 = .ok (.getfield 20, 3) := by decide +kernel
theorem dX3_frame_78 : decode cX3_frame 78 = .ok (.iload_n 2, 1) := by decide +kernel
theorem dX3_frame_79 : decode cX3_frame 79 = .ok (.iaload, 1) := by decide +kernel
theorem dX3_frame_80 : decode cX3_frame 80 = .ok (.isub, 1) := by decide +kernel
theorem dX3_frame_81 : decode cX3_frame 81 = .ok (.bipush 7, 2) := by decide +kernel
theorem dX3_frame_83 : decode cX3_frame 83 = .ok (.if_icmp .le 15, 3) := by decide +kernel
theorem dX3_frame_86 : decode cX3_frame 86 = .ok (.iload 4, 2) := by decide +kernel
theorem dX3_frame_88 : decode cX3_frame 88 = .ok (.aload_n 0, 1) := by decide +kernel
theorem dX3_frame_89 : decode cX3_frame 89 = .ok (.getfield 20, 3) := by decide +kernel
theorem dX3_frame_92 : decode cX3_frame 92 = .ok (.iload_n 2, 1) := by decide +kernel
theorem dX3_frame_93 : decode cX3_frame 93 = .ok (.iaload, 1) := by decide +kernel
theorem dX3_frame_94 : decode cX3_frame 94 = .ok (.isub, 1) := by decide +kernel
theorem dX3_frame_95 : decode cX3_frame 95 = .ok (.goto 5, 3) := by decide +kernel
theorem dX3_frame_98 : decode cX3_frame 98 = .ok (.bipush 7, 2) := by decide +kernel
theorem dX3_frame_100 : decode cX3_frame 100 = .ok (.invokevirtual 50, 3) := by decide +kernel
theorem dX3_frame_103 : decode cX3_frame 103 = .ok (.iload_n 2, 1) := by decide +kernel
theorem dX3_frame_104 : decode cX3_frame 104 = .ok (.iconst 2, 1) := by decide +kernel
theorem dX3_frame_105 : decode cX3_frame 105 = .ok (.if_icmp .ne 9, 3) := by decide +kernel
theorem dX3_frame_108 : decode cX3_frame 108 = .ok (.sipush 2046, 3) := by decide +kernel
theorem dX3_frame_111 : decode cX3_frame 111 = .ok (.goto 10, 3) := by decide +kernel
theorem dX3_frame_114 : decode cX3_frame 114 = .ok (.aload_n 0, 1) := by decide +kernel
theorem dX3_frame_115 : decode cX3_frame 115 = .ok (.iload_n 2, 1) := by decide +kernel
theorem dX3_frame_116 : decode cX3_frame 116 = .ok (.iload 4, 2) := by decide +kernel
theorem dX3_frame_118 : decode cX3_frame 118 = .ok (.invokevirtual 54, 3) := by decide +kernel
theorem dX3_frame_121 : decode cX3_frame 121 = .ok (.istore 5, 2) := by decide +kernel
theorem dX3_frame_123 : decode cX3_frame 123 = .ok (.aload_n 0, 1) := by decide +kernel
theorem dX3_frame_124 : decode cX3_frame 124 = .ok (.iconst 0, 1) := by decide +kernel
theorem dX3_frame_125 : decode cX3_frame 125 = .ok (.putfield 44, 3) := by decide +kernel
theorem dX3_frame_128 : decode cX3_frame 128 = .ok (.aload_n 0, 1) := by decide +kernel
theorem dX3_frame_129 : decode cX3_frame 129 = .ok (.bipush 21, 2) := by decide +kernel
theorem dX3_frame_131 : decode cX3_frame 131 = .ok (.invokevirtual 58, 3) := by decide +kernel
theorem dX3_frame_134 : decode cX3_frame 134 = .ok (.aload_n 0, 1) := by decide +kernel
theorem dX3_frame_135 : decode cX3_frame 135 = .ok (.sipush 160, 3) := by decide +kernel
theorem dX3_frame_138 : decode cX3_frame 138 = .ok (.iconst 2, 1) := by decide +kernel
theorem dX3_frame_139 : decode cX3_frame 139 = .ok (.iload_n 3, 1) := by decide +kernel
theorem dX3_frame_140 : decode cX3_frame 140 = .ok (.imul, 1) := by decide +kernel
theorem dX3_frame_141 : decode cX3_frame 141 = .ok (.iadd, 1) := by decide +kernel
theorem dX3_frame_142 : decode cX3_frame 142 = .ok (.iconst 1, 1) := by decide +kernel
theorem dX3_frame_143 : decode cX3_frame 143 = .ok (.iadd, 1) := by decide +kernel
theorem dX3_frame_144 : decode cX3_frame 144 = .ok (.invokevirtual 58, 3) := by decide +kernel
theorem dX3_frame_147 : decode cX3_frame 147 = .ok (.aload_n 0, 1) := by decide +kernel
theorem dX3_frame_148 : decode cX3_frame 148 = .ok (.aload_n 0, 1) := by decide +kernel
theorem dX3_frame_149 : decode cX3_frame 149 = .ok (.getfield 24, 3) := by decide +kernel
theorem dX3_frame_152 : decode cX3_frame 152 = .ok (.iconst 0, 1) := by decide +kernel
theorem dX3_frame_153 : decode cX3_frame 153 = .ok (.iaload, 1) := by decide +kernel
theorem dX3_frame_154 : decode cX3_frame 154 = .ok (.invokevirtual 58, 3) := by decide +kernel
theorem dX3_frame_157 : decode cX3_frame 157 = .ok (.aload_n 0, 1) := by decide +kernel
theorem dX3_frame_158 : decode cX3_frame 158 = .ok (.aload_n 0, 1) := by decide +kernel
theorem dX3_frame_159 : decode cX3_frame 159 = .ok (.getfield 24, 3) := by decide +kernel
theorem dX3_frame_162 : decode cX3_frame 162 = .ok (.iconst 1, 1) := by decide +kernel
theorem dX3_frame_163 : decode cX3_frame 163 = .ok (.iload_n 2, 1) := by decide +kernel
theorem dX3_frame_164 : decode cX3_frame 164 = .ok (.iadd, 1) := by decide +kernel
theorem dX3_frame_165 : decode cX3_frame 165 = .ok (.iaload, 1) := by decide +kernel
theorem dX3_frame_166 : decode cX3_frame 166 = .ok (.invokevirtual 58, 3) := by decide +kernel
theorem dX3_frame_169 : decode cX3_frame 169 = .ok (.aload_n 0, 1) := by decide +kernel
theorem dX3_frame_170 : decode cX3_frame 170 = .ok (.bipush 24, 2) := by decide +kernel
theorem dX3_frame_172 : decode cX3_frame 172 = .ok (.iload 5, 2) := by decide +kernel
theorem dX3_frame_174 : decode cX3_frame 174 = .ok (.sipush 256, 3) := by decide +kernel
theorem dX3_frame_177 : decode cX3_frame 177 = .ok (.idiv, 1) := by decide +kernel
theorem dX3_frame_178 : decode cX3_frame 178 = .ok (.iadd, 1) := by decide +kernel
theorem dX3_frame_179 : decode cX3_frame 179 = .ok (.invokevirtual 58, 3) := by decide +kernel
theorem dX3_frame_182 : decode cX3_frame 182 = .ok (.aload_n 0, 1) := by decide +kernel
theorem dX3_frame_183 : decode cX3_frame 183 = .ok (.iload 5, 2) := by decide +kernel
theorem dX3_frame_185 : decode cX3_frame 185 = .ok (.invokevirtual 58, 3) := by decide +kernel
theorem dX3_frame_188 : decode cX3_frame 188 = .ok (.iconst 0, 1) := by decide +kernel
theorem dX3_frame_189 : decode cX3_frame 189 = .ok (.istore 6, 2) := by decide +kernel
theorem dX3_frame_191 : decode cX3_frame 191 = .ok (.iload 6, 2) := by decide +kernel
theorem dX3_frame_193 : decode cX3_frame 193 = .ok (.iload 4, 2) := by decide +kernel
theorem dX3_frame_195 : decode cX3_frame 195 = .ok (.if_icmp .ge 36, 3) := by decide +kernel
theorem dX3_frame_198 : decode cX3_frame 198 = .ok (.aload_n 0, 1) := by decide +kernel
theorem dX3_frame_199 : decode cX3_frame 199 = .ok (.iload_n 2, 1) := by decide +kernel
theorem dX3_frame_200 : decode cX3_frame 200 = .ok (.iconst 2, 1) := by decide +kernel
theorem dX3_frame_201 : decode cX3_frame 201 = .ok (.if_icmp .ne 8, 3) := by decide +kernel
theorem dX3_frame_204 : decode cX3_frame 204 = .ok (.bipush 85, 2) := by decide +kernel
theorem dX3_frame_206 : decode cX3_frame 206 = .ok (.goto 16, 3) := by decide +kernel
theorem dX3_frame_209 : decode cX3_frame 209 = .ok (.aload_n 0, 1) := by decide +kernel
theorem dX3_frame_210 : decode cX3_frame 210 = .ok (.getfield 13, 3) := by decide +kernel
theorem dX3_frame_213 : decode cX3_frame 213 = .ok (.sipush 4200, 3) := by decide +kernel
theorem dX3_frame_216 : decode cX3_frame 216 = .ok (.iload_n 2, 1) := by decide +kernel
theorem dX3_frame_217 : decode cX3_frame 217 = .ok (.imul, 1) := by decide +kernel
theorem dX3_frame_218 : decode cX3_frame 218 = .ok (.iload 6, 2) := by decide +kernel
theorem dX3_frame_220 : decode cX3_frame 220 = .ok (.iadd, 1) := by decide +kernel
theorem dX3_frame_221 : decode cX3_frame 221 = .ok (.baload, 1) := by decide +kernel
theorem dX3_frame_222 : decode cX3_frame 222 = .ok (.invokevirtual 58, 3) := by decide +kernel
theorem dX3_frame_225 : decode cX3_frame 225 = .ok (.iinc 6 1, 3) := by decide +kernel
theorem dX3_frame_228 : decode cX3_frame 228 = .ok (.goto (-37), 3) := by decide +kernel
theorem dX3_frame_231 : decode cX3_frame 231 = .ok (.bipush 24, 2) := by decide +kernel
theorem dX3_frame_233 : decode cX3_frame 233 = .ok (.istore 6, 2) := by decide +kernel
theorem dX3_frame_235 : decode cX3_frame 235 = .ok (.iload 6, 2) := by decide +kernel
theorem dX3_frame_237 : decode cX3_frame 237 = .ok (.ifCond .lt 17, 3) := by decide +kernel
theorem dX3_frame_240 : decode cX3_frame 240 = .ok (.aload_n 0, 1) := by decide +kernel
theorem dX3_frame_241 : decode cX3_frame 241 = .ok (.iload_n 1, 1) := by decide +kernel
theorem dX3_frame_242 : decode cX3_frame 242 = .ok (.iload 6, 2) := by decide +kernel
theorem dX3_frame_244 : decode cX3_frame 244 = .ok (.ishr, 1) := by decide +kernel
theorem dX3_frame_245 : decode cX3_frame 245 = .ok (.invokevirtual 58, 3) := by decide +kernel
theorem dX3_frame_248 : decode cX3_frame 248 = .ok (.iinc 6 (-8), 3) := by decide +kernel
theorem dX3_frame_251 : decode cX3_frame 251 = .ok (.goto (-16), 3) := by decide +kernel
theorem dX3_frame_254 : decode cX3_frame 254 = .ok (.aload_n 0, 1) := by decide +kernel
theorem dX3_frame_255 : decode cX3_frame 255 = .ok (.invokevirtual 62, 3) := by decide +kernel
theorem dX3_frame_258 : decode cX3_frame 258 = .ok (.istore 6, 2) := by decide +kernel
theorem dX3_frame_260 : decode cX3_frame 260 = .ok (.aload_n 0, 1) := by decide +kernel
theorem dX3_frame_261 : decode cX3_frame 261 = .ok (.iload 6, 2) := by decide +kernel
theorem dX3_frame_263 : decode cX3_frame 263 = .ok (.sipush 256, 3) := by decide +kernel
theorem dX3_frame_266 : decode cX3_frame 266 = .ok (.idiv, 1) := by decide +kernel
theorem dX3_frame_267 : decode cX3_frame 267 = .ok (.invokevirtual 58, 3) := by decide +kernel
theorem dX3_frame_270 : decode cX3_frame 270 = .ok (.aload_n 0, 1) := by decide +kernel
theorem dX3_frame_271 : decode cX3_frame 271 = .ok (.iload 6, 2) := by decide +kernel
theorem dX3_frame_273 : decode cX3_frame 273 = .ok (.invokevirtual 58, 3) := by decide +kernel
theorem dX3_frame_276 : decode cX3_frame 276 = .ok (.iload_n 2, 1) := by decide +kernel
theorem dX3_frame_277 : decode cX3_frame 277 = .ok (.iconst 2, 1) := by decide +kernel
theorem dX3_frame_278 : decode cX3_frame 278 = .ok (.if_icmp .ge 10, 3) := by decide +kernel
theorem dX3_frame_281 : decode cX3_frame 281 = .ok (.aload_n 0, 1) := by decide +kernel
theorem dX3_frame_282 : decode cX3_frame 282 = .ok (.iload_n 2, 1) := by decide +kernel
theorem dX3_frame_283 : decode cX3_frame 283 = .ok (.iload 4, 2) := by decide +kernel
theorem dX3_frame_285 : decode cX3_frame 285 = .ok (.invokevirtual 66, 3) := by decide +kernel
theorem dX3_frame_288 : decode cX3_frame 288 = .ok (.aload_n 0, 1) := by decide +kernel
theorem dX3_frame_289 : decode cX3_frame 289 = .ok (.getfield 24, 3) := by decide +kernel
theorem dX3_frame_292 : decode cX3_frame 292 = .ok (.iconst 0, 1) := by decide +kernel
theorem dX3_frame_293 : decode cX3_frame 293 = .ok (.dup2, 1) := by decide +kernel
theorem dX3_frame_294 : decode cX3_frame 294 = .ok (.iaload, 1) := by decide +kernel
theorem dX3_frame_295 : decode cX3_frame 295 = .ok (.iconst 1, 1) := by decide +kernel
theorem dX3_frame_296 : decode cX3_frame 296 = .ok (.iadd, 1) := by decide +kernel
theorem dX3_frame_297 : decode cX3_frame 297 = .ok (.iastore, 1) := by decide +kernel
theorem dX3_frame_298 : decode cX3_frame 298 = .ok (.aload_n 0, 1) := by decide +kernel
theorem dX3_frame_299 : decode cX3_frame 299 = .ok (.getfield 24, 3) := by decide +kernel
theorem dX3_frame_302 : decode cX3_frame 302 = .ok (.iconst 1, 1) := by decide +kernel
theorem dX3_frame_303 : decode cX3_frame 303 = .ok (.iload_n 2, 1) := by decide +kernel
theorem dX3_frame_304 : decode cX3_frame 304 = .ok (.iadd, 1) := by decide +kernel
theorem dX3_frame_305 : decode cX3_frame 305 = .ok (.dup2, 1) := by decide +kernel
theorem dX3_frame_306 : decode cX3_frame 306 = .ok (.iaload, 1) := by decide +kernel
theorem dX3_frame_307 : decode cX3_frame 307 = .ok (.iconst 1, 1) := by decide +kernel
theorem dX3_frame_308 : decode cX3_frame 308 = .ok (.iadd, 1) := by decide +kernel
theorem dX3_frame_309 : decode cX3_frame 309 = .ok (.iastore, 1) := by decide +kernel
theorem dX3_frame_310 : decode cX3_frame 310 = .ok (.iload_n 3, 1) := by decide +kernel
theorem dX3_frame_311 : decode cX3_frame 311 = .ok (.ireturn, 1) := by decide +kernel
theorem dJ9_max_7cf53_0 : decode cJ9_max_7cf53 0 = .ok (.iload_n 0, 1) := by decide +kernel
theorem dJ9_max_7cf53_1 : decode cJ9_max_7cf53 1 = .ok (.iload_n 1, 1) := by decide +kernel
theorem dJ9_max_7cf53_2 : decode cJ9_max_7cf53 2 = .ok (.if_icmp .lt 7, 3) := by decide +kernel
theorem dJ9_max_7cf53_5 : decode cJ9_max_7cf53 5 = .ok (.iload_n 0, 1) := by decide +kernel
theorem dJ9_max_7cf53_6 : decode cJ9_max_7cf53 6 = .ok (.goto 4, 3) := by decide +kernel
theorem dJ9_max_7cf53_9 : decode cJ9_max_7cf53 9 = .ok (.iload_n 1, 1) := by decide +kernel
theorem dJ9_max_7cf53_10 : decode cJ9_max_7cf53 10 = .ok (.ireturn, 1) := by decide +kernel
theorem dJ9_min_7cf53_0 : decode cJ9_min_7cf53 0 = .ok (.iload_n 0, 1) := by decide +kernel
theorem dJ9_min_7cf53_1 : decode cJ9_min_7cf53 1 = .ok (.iload_n 1, 1) := by decide +kernel
theorem dJ9_min_7cf53_2 : decode cJ9_min_7cf53 2 = .ok (.if_icmp .gt 7, 3) := by decide +kernel
theorem dJ9_min_7cf53_5 : decode cJ9_min_7cf53 5 = .ok (.iload_n 0, 1) := by decide +kernel
theorem dJ9_min_7cf53_6 : decode cJ9_min_7cf53 6 = .ok (.goto 4, 3) := by decide +kernel
theorem dJ9_min_7cf53_9 : decode cJ9_min_7cf53 9 = .ok (.iload_n 1, 1) := by decide +kernel
theorem dJ9_min_7cf53_10 : decode cJ9_min_7cf53 10 = .ok (.ireturn, 1) := by decide +kernel
theorem dL_cell_0 : decode cL_cell 0 = .ok (.iload_n 1, 1) := by decide +kernel
theorem dL_cell_1 : decode cL_cell 1 = .ok (.aload_n 0, 1) := by decide +kernel
theorem dL_cell_2 : decode cL_cell 2 = .ok (.arraylength, 1) := by decide +kernel
theorem dL_cell_3 : decode cL_cell 3 = .ok (.if_icmp .ge 9, 3) := by decide +kernel
theorem dL_cell_6 : decode cL_cell 6 = .ok (.aload_n 0, 1) := by decide +kernel
theorem dL_cell_7 : decode cL_cell 7 = .ok (.iload_n 1, 1) := by decide +kernel
theorem dL_cell_8 : decode cL_cell 8 = .ok (.iaload, 1) := by decide +kernel
theorem dL_cell_9 : decode cL_cell 9 = .ok (.goto 4, 3) := by decide +kernel
theorem dL_cell_12 : decode cL_cell 12 = .ok (.iconst 0, 1) := by decide +kernel
theorem dL_cell_13 : decode cL_cell 13 = .ok (.ireturn, 1) := by decide +kernel
set_option maxRecDepth 20000 in
theorem ggL_law_L_cell : GoodIn wsL_law wsL_cell := goodIn_r _ [9] (by decide +kernel) (by decide +kernel)
set_option maxRecDepth 20000 in
theorem gL_law_L_cell : GoodIn wsL_law (va_wsS RL 9 yL_cell wsL_cell) := goodIn_app (goodIn_of _ (by decide +kernel)) ggL_law_L_cell
set_option maxRecDepth 20000 in
theorem ggL_law_X2_init : GoodIn wsL_law wsX2_init := goodIn_r _ [12, 13, 14, 15, 16, 17, 18, 19, 20, 21, 22, 23, 24, 25, 26, 27, 28, 29, 30, 31, 32, 33, 34, 35, 36, 37, 38, 39, 40, 41, 42, 43, 44, 45, 46, 47, 48, 191, 192, 193, 194, 195, 196, 207, 208, 209, 210, 211] (by decide +kernel) (by decide +kernel)
set_option maxRecDepth 20000 in
theorem gL_law_X2_init : GoodIn wsL_law (wsX2_init) := ggL_law_X2_init
set_option maxRecDepth 20000 in
theorem ggL_law_X3_init : GoodIn wsL_law wsX3_init := goodIn_r _ [51, 52, 14, 15, 53, 54, 55, 56, 57, 34, 58, 59, 60, 61, 197, 198, 199, 200, 201, 202, 203, 204, 205, 206] (by decide +kernel) (by decide +kernel)
set_option maxRecDepth 20000 in
theorem gL_law_X3_init : GoodIn wsL_law (wsX3_init) := ggL_law_X3_init
set_option maxRecDepth 20000 in
theorem ggL_law_X2_give : GoodIn wsL_law wsX2_give := goodIn_r _ [65, 27, 66, 67, 68, 26, 69, 40, 41, 70, 71, 72, 73, 191, 192, 193, 194, 195, 196, 207, 208] (by decide +kernel) (by decide +kernel)
set_option maxRecDepth 20000 in
theorem gL_law_X2_give : GoodIn wsL_law (wsV RL 23 RX2 yX2_give wsX2_give) := goodIn_app (goodIn_of _ (by decide +kernel)) ggL_law_X2_give
set_option maxRecDepth 20000 in
theorem ggL_law_X3_give : GoodIn wsL_law wsX3_give := goodIn_r _ [77, 78, 79, 54, 197, 198, 199, 200, 201, 202, 203, 204, 205, 206] (by decide +kernel) (by decide +kernel)
set_option maxRecDepth 20000 in
theorem gL_law_X3_give : GoodIn wsL_law (wsV RL 27 RX3 yX3_give wsX3_give) := goodIn_app (goodIn_of _ (by decide +kernel)) ggL_law_X3_give
set_option maxRecDepth 20000 in
theorem ggL_law_X2_send : GoodIn wsL_law wsX2_send := goodIn_r _ [83, 27, 84, 85, 86, 2, 87, 32, 33, 88, 89, 90, 91, 92, 93, 26, 94, 41, 40, 95, 96, 97, 31, 98, 48, 99, 100, 101, 102, 103, 104, 105, 106, 107, 46, 47, 108, 109, 110, 111, 191, 192, 193, 194, 195, 196, 207, 208, 209, 210, 211] (by decide +kernel) (by decide +kernel)
set_option maxRecDepth 20000 in
theorem gL_law_X2_send : GoodIn wsL_law (wsV RL 28 RX2 yX2_send wsX2_send) := goodIn_app (goodIn_of _ (by decide +kernel)) ggL_law_X2_send
set_option maxRecDepth 20000 in
theorem ggL_law_X3_send : GoodIn wsL_law wsX3_send := goodIn_r _ [115, 78, 79, 54, 58, 116, 117, 118, 5, 119, 55, 57, 197, 198, 199, 200, 201, 202, 203, 204, 205, 206] (by decide +kernel) (by decide +kernel)
set_option maxRecDepth 20000 in
theorem gL_law_X3_send : GoodIn wsL_law (wsV RL 32 RX3 yX3_send wsX3_send) := goodIn_app (goodIn_of _ (by decide +kernel)) ggL_law_X3_send
set_option maxRecDepth 20000 in
theorem ggL_law_X2_frame : GoodIn wsL_law wsX2_frame := goodIn_r _ [123, 23, 28, 35, 124, 125, 126, 2, 127, 32, 33, 84, 85, 86, 87, 128, 129, 130, 31, 131, 48, 132, 21, 18, 22, 133, 134, 135, 136, 104, 105, 106, 107, 46, 47, 108, 109, 110, 26, 111, 41, 137, 138, 139, 140, 141, 71, 72, 73, 40, 70, 142, 143, 144, 145, 146, 147, 148, 149, 150, 151, 152, 153, 154, 155, 156, 191, 192, 193, 194, 195, 196, 209, 210, 211, 207, 208] (by decide +kernel) (by decide +kernel)
set_option maxRecDepth 20000 in
theorem gL_law_X2_frame : GoodIn wsL_law (wsV RL 33 RX2 yX2_frame wsX2_frame) := goodIn_app (goodIn_of _ (by decide +kernel)) ggL_law_X2_frame
set_option maxRecDepth 20000 in
theorem ggL_law_X3_frame : GoodIn wsL_law wsX3_frame := goodIn_r _ [160, 78, 58, 61, 161, 59, 55, 162, 163, 164, 5, 165, 116, 117, 118, 119, 57, 166, 167, 168, 169, 170, 171, 172, 173, 60, 174, 175, 176, 177, 178, 197, 198, 199, 200, 201, 202, 203, 204, 205, 206] (by decide +kernel) (by decide +kernel)
set_option maxRecDepth 20000 in
theorem gL_law_X3_frame : GoodIn wsL_law (wsV RL 36 RX3 yX3_frame wsX3_frame) := goodIn_app (goodIn_of _ (by decide +kernel)) ggL_law_X3_frame
set_option maxRecDepth 20000 in
theorem ggL_law_X2_byteAt : GoodIn wsL_law wsX2_byteAt := goodIn_r _ [182, 28, 91, 92, 93, 26, 94, 41, 40, 191, 192, 193, 194, 195, 196, 207, 208] (by decide +kernel) (by decide +kernel)
set_option maxRecDepth 20000 in
theorem gL_law_X2_byteAt : GoodIn wsL_law (wsV RL 37 RX2 yX2_byteAt wsX2_byteAt) := goodIn_app (goodIn_of _ (by decide +kernel)) ggL_law_X2_byteAt
set_option maxRecDepth 20000 in
theorem ggL_law_X2_waiting : GoodIn wsL_law wsX2_waiting := goodIn_r _ [186, 84, 85, 86, 2, 87, 32, 33, 209, 210, 211, 191, 192, 193, 194, 195, 196] (by decide +kernel) (by decide +kernel)
set_option maxRecDepth 20000 in
theorem gL_law_X2_waiting : GoodIn wsL_law (wsV RL 41 RX2 yX2_waiting wsX2_waiting) := goodIn_app (goodIn_of _ (by decide +kernel)) ggL_law_X2_waiting
set_option maxRecDepth 20000 in
theorem ggL_law_X2_count : GoodIn wsL_law wsX2_count := goodIn_r _ [190, 35, 27, 23, 191, 192, 193, 194, 195, 196, 207, 208] (by decide +kernel) (by decide +kernel)
set_option maxRecDepth 20000 in
theorem gL_law_X2_count : GoodIn wsL_law (wsV RL 45 RX2 yX2_count wsX2_count) := goodIn_app (goodIn_of _ (by decide +kernel)) ggL_law_X2_count
theorem dL_law_0 : decode cL_law 0 = .ok (.new 7, 3) := by decide +kernel
theorem dL_law_3 : decode cL_law 3 = .ok (.dup, 1) := by decide +kernel
theorem dL_law_4 : decode cL_law 4 = .ok (.aload_n 0, 1) := by decide +kernel
theorem dL_law_5 : decode cL_law 5 = .ok (.iconst 0, 1) := by decide +kernel
theorem dL_law_6 : decode cL_law 6 = .ok (.invokestatic 9, 3) := by decide +kernel
theorem dL_law_9 : decode cL_law 9 = .ok (.invokespecial 15, 3) := by decide +kernel
theorem dL_law_12 : decode cL_law 12 = .ok (.astore_n 1, 1) := by decide +kernel
theorem dL_law_13 : decode cL_law 13 = .ok (.new 18, 3) := by decide +kernel
theorem dL_law_16 : decode cL_law 16 = .ok (.dup, 1) := by decide +kernel
theorem dL_law_17 : decode cL_law 17 = .ok (.aload_n 0, 1) := by decide +kernel
theorem dL_law_18 : decode cL_law 18 = .ok (.iconst 0, 1) := by decide +kernel
theorem dL_law_19 : decode cL_law 19 = .ok (.invokestatic 9, 3) := by decide +kernel
theorem dL_law_22 : decode cL_law 22 = .ok (.invokespecial 20, 3) := by decide +kernel
theorem dL_law_25 : decode cL_law 25 = .ok (.astore_n 2, 1) := by decide +kernel
theorem dL_law_26 : decode cL_law 26 = .ok (.iconst 1, 1) := by decide +kernel
theorem dL_law_27 : decode cL_law 27 = .ok (.istore_n 3, 1) := by decide +kernel
theorem dL_law_28 : decode cL_law 28 = .ok (.iload_n 3, 1) := by decide +kernel
theorem dL_law_29 : decode cL_law 29 = .ok (.aload_n 0, 1) := by decide +kernel
theorem dL_law_30 : decode cL_law 30 = .ok (.arraylength, 1) := by decide +kernel
theorem dL_law_31 : decode cL_law 31 = .ok (.iconst 4, 1) := by decide +kernel
theorem dL_law_32 : decode cL_law 32 = .ok (.isub, 1) := by decide +kernel
theorem dL_law_33 : decode cL_law 33 = .ok (.if_icmp .gt 231, 3) := by decide +kernel
theorem dL_law_36 : decode cL_law 36 = .ok (.aload_n 0, 1) := by decide +kernel
theorem dL_law_37 : decode cL_law 37 = .ok (.iload_n 3, 1) := by decide +kernel
theorem dL_law_38 : decode cL_law 38 = .ok (.iaload, 1) := by decide +kernel
theorem dL_law_39 : decode cL_law 39 = .ok (.bipush 7, 2) := by decide +kernel
theorem dL_law_41 : decode cL_law 41 = .ok (.iand, 1) := by decide +kernel
theorem dL_law_42 : decode cL_law 42 = .ok (.tableswitch 216 0 5 #[38, 101, 124, 147, 170, 193], 38) := by decide +kernel
theorem dL_law_80 : decode cL_law 80 = .ok (.aload_n 1, 1) := by decide +kernel
theorem dL_law_81 : decode cL_law 81 = .ok (.aload_n 0, 1) := by decide +kernel
theorem dL_law_82 : decode cL_law 82 = .ok (.iload_n 3, 1) := by decide +kernel
theorem dL_law_83 : decode cL_law 83 = .ok (.iconst 1, 1) := by decide +kernel
theorem dL_law_84 : decode cL_law 84 = .ok (.iadd, 1) := by decide +kernel
theorem dL_law_85 : decode cL_law 85 = .ok (.iaload, 1) := by decide +kernel
theorem dL_law_86 : decode cL_law 86 = .ok (.i2l, 1) := by decide +kernel
theorem dL_law_87 : decode cL_law 87 = .ok (.bipush 32, 2) := by decide +kernel
theorem dL_law_89 : decode cL_law 89 = .ok (.lshl, 1) := by decide +kernel
theorem dL_law_90 : decode cL_law 90 = .ok (.aload_n 0, 1) := by decide +kernel
theorem dL_law_91 : decode cL_law 91 = .ok (.iload_n 3, 1) := by decide +kernel
theorem dL_law_92 : decode cL_law 92 = .ok (.iconst 2, 1) := by decide +kernel
theorem dL_law_93 : decode cL_law 93 = .ok (.iadd, 1) := by decide +kernel
theorem dL_law_94 : decode cL_law 94 = .ok (.iaload, 1) := by decide +kernel
theorem dL_law_95 : decode cL_law 95 = .ok (.i2l, 1) := by decide +kernel
theorem dL_law_96 : decode cL_law 96 = .ok (.ldc2_w 21, 3) := by decide +kernel
theorem dL_law_99 : decode cL_law 99 = .ok (.land, 1) := by decide +kernel
theorem dL_law_100 : decode cL_law 100 = .ok (.lor, 1) := by decide +kernel
theorem dL_law_101 : decode cL_law 101 = .ok (.aload_n 0, 1) := by decide +kernel
theorem dL_law_102 : decode cL_law 102 = .ok (.iload_n 3, 1) := by decide +kernel
theorem dL_law_103 : decode cL_law 103 = .ok (.iconst 3, 1) := by decide +kernel
theorem dL_law_104 : decode cL_law 104 = .ok (.iadd, 1) := by decide +kernel
theorem dL_law_105 : decode cL_law 105 = .ok (.iaload, 1) := by decide +kernel
theorem dL_law_106 : decode cL_law 106 = .ok (.invokevirtual 23, 3) := by decide +kernel
theorem dL_law_109 : decode cL_law 109 = .ok (.aload_n 2, 1) := by decide +kernel
theorem dL_law_110 : decode cL_law 110 = .ok (.aload_n 0, 1) := by decide +kernel
theorem dL_law_111 : decode cL_law 111 = .ok (.iload_n 3, 1) := by decide +kernel
theorem dL_law_112 : decode cL_law 112 = .ok (.iconst 1, 1) := by decide +kernel
theorem dL_law_113 : decode cL_law 113 = .ok (.iadd, 1) := by decide +kernel
theorem dL_law_114 : decode cL_law 114 = .ok (.iaload, 1) := by decide +kernel
theorem dL_law_115 : decode cL_law 115 = .ok (.i2l, 1) := by decide +kernel
theorem dL_law_116 : decode cL_law 116 = .ok (.bipush 32, 2) := by decide +kernel
theorem dL_law_118 : decode cL_law 118 = .ok (.lshl, 1) := by decide +kernel
theorem dL_law_119 : decode cL_law 119 = .ok (.aload_n 0, 1) := by decide +kernel
theorem dL_law_120 : decode cL_law 120 = .ok (.iload_n 3, 1) := by decide +kernel
theorem dL_law_121 : decode cL_law 121 = .ok (.iconst 2, 1) := by decide +kernel
theorem dL_law_122 : decode cL_law 122 = .ok (.iadd, 1) := by decide +kernel
theorem dL_law_123 : decode cL_law 123 = .ok (.iaload, 1) := by decide +kernel
theorem dL_law_124 : decode cL_law 124 = .ok (.i2l, 1) := by decide +kernel
theorem dL_law_125 : decode cL_law 125 = .ok (.ldc2_w 21, 3) := by decide +kernel
theorem dL_law_128 : decode cL_law 128 = .ok (.land, 1) := by decide +kernel
theorem dL_law_129 : decode cL_law 129 = .ok (.lor, 1) := by decide +kernel
theorem dL_law_130 : decode cL_law 130 = .ok (.aload_n 0, 1) := by decide +kernel
theorem dL_law_131 : decode cL_law 131 = .ok (.iload_n 3, 1) := by decide +kernel
theorem dL_law_132 : decode cL_law 132 = .ok (.iconst 3, 1) := by decide +kernel
theorem dL_law_133 : decode cL_law 133 = .ok (.iadd, 1) := by decide +kernel
theorem dL_law_134 : decode cL_law 134 = .ok (.iaload, 1) := by decide +kernel
theorem dL_law_135 : decode cL_law 135 = .ok (.invokevirtual 27, 3) := by decide +kernel
theorem dL_law_138 : decode cL_law 138 = .ok (.if_icmp .eq 120, 3) := by decide +kernel
theorem dL_law_141 : decode cL_law 141 = .ok (.iconst 0, 1) := by decide +kernel
theorem dL_law_142 : decode cL_law 142 = .ok (.ireturn, 1) := by decide +kernel
theorem dL_law_143 : decode cL_law 143 = .ok (.aload_n 1, 1) := by decide +kernel
theorem dL_law_144 : decode cL_law 144 = .ok (.aload_n 0, 1) := by decide +kernel
theorem dL_law_145 : decode cL_law 145 = .ok (.iload_n 3, 1) := by decide +kernel
theorem dL_law_146 : decode cL_law 146 = .ok (.iconst 1, 1) := by decide +kernel
theorem dL_law_147 : decode cL_law 147 = .ok (.iadd, 1) := by decide +kernel
theorem dL_law_148 : decode cL_law 148 = .ok (.iaload, 1) := by decide +kernel
theorem dL_law_149 : decode cL_law 149 = .ok (.invokevirtual 28, 3) := by decide +kernel
theorem dL_law_152 : decode cL_law 152 = .ok (.aload_n 2, 1) := by decide +kernel
theorem dL_law_153 : decode cL_law 153 = .ok (.aload_n 0, 1) := by decide +kernel
theorem dL_law_154 : decode cL_law 154 = .ok (.iload_n 3, 1) := by decide +kernel
theorem dL_law_155 : decode cL_law 155 = .ok (.iconst 1, 1) := by decide +kernel
theorem dL_law_156 : decode cL_law 156 = .ok (.iadd, 1) := by decide +kernel
theorem dL_law_157 : decode cL_law 157 = .ok (.iaload, 1) := by decide +kernel
theorem dL_law_158 : decode cL_law 158 = .ok (.invokevirtual 32, 3) := by decide +kernel
theorem dL_law_161 : decode cL_law 161 = .ok (.if_icmp .eq 97, 3) := by decide +kernel
theorem dL_law_164 : decode cL_law 164 = .ok (.iconst 0, 1) := by decide +kernel
theorem dL_law_165 : decode cL_law 165 = .ok (.ireturn, 1) := by decide +kernel
theorem dL_law_166 : decode cL_law 166 = .ok (.aload_n 1, 1) := by decide +kernel
theorem dL_law_167 : decode cL_law 167 = .ok (.aload_n 0, 1) := by decide +kernel
theorem dL_law_168 : decode cL_law 168 = .ok (.iload_n 3, 1) := by decide +kernel
theorem dL_law_169 : decode cL_law 169 = .ok (.iconst 1, 1) := by decide +kernel
theorem dL_law_170 : decode cL_law 170 = .ok (.iadd, 1) := by decide +kernel
theorem dL_law_171 : decode cL_law 171 = .ok (.iaload, 1) := by decide +kernel
theorem dL_law_172 : decode cL_law 172 = .ok (.invokevirtual 33, 3) := by decide +kernel
theorem dL_law_175 : decode cL_law 175 = .ok (.aload_n 2, 1) := by decide +kernel
theorem dL_law_176 : decode cL_law 176 = .ok (.aload_n 0, 1) := by decide +kernel
theorem dL_law_177 : decode cL_law 177 = .ok (.iload_n 3, 1) := by decide +kernel
theorem dL_law_178 : decode cL_law 178 = .ok (.iconst 1, 1) := by decide +kernel
theorem dL_law_179 : decode cL_law 179 = .ok (.iadd, 1) := by decide +kernel
theorem dL_law_180 : decode cL_law 180 = .ok (.iaload, 1) := by decide +kernel
theorem dL_law_181 : decode cL_law 181 = .ok (.invokevirtual 36, 3) := by decide +kernel
theorem dL_law_184 : decode cL_law 184 = .ok (.if_icmp .eq 74, 3) := by decide +kernel
theorem dL_law_187 : decode cL_law 187 = .ok (.iconst 0, 1) := by decide +kernel
theorem dL_law_188 : decode cL_law 188 = .ok (.ireturn, 1) := by decide +kernel
theorem dL_law_189 : decode cL_law 189 = .ok (.aload_n 1, 1) := by decide +kernel
theorem dL_law_190 : decode cL_law 190 = .ok (.aload_n 0, 1) := by decide +kernel
theorem dL_law_191 : decode cL_law 191 = .ok (.iload_n 3, 1) := by decide +kernel
theorem dL_law_192 : decode cL_law 192 = .ok (.iconst 1, 1) := by decide +kernel
theorem dL_law_193 : decode cL_law 193 = .ok (.iadd, 1) := by decide +kernel
theorem dL_law_194 : decode cL_law 194 = .ok (.iaload, 1) := by decide +kernel
theorem dL_law_195 : decode cL_law 195 = .ok (.invokevirtual 37, 3) := by decide +kernel
theorem dL_law_198 : decode cL_law 198 = .ok (.aload_n 2, 1) := by decide +kernel
theorem dL_law_199 : decode cL_law 199 = .ok (.aload_n 0, 1) := by decide +kernel
theorem dL_law_200 : decode cL_law 200 = .ok (.iload_n 3, 1) := by decide +kernel
theorem dL_law_201 : decode cL_law 201 = .ok (.iconst 1, 1) := by decide +kernel
theorem dL_law_202 : decode cL_law 202 = .ok (.iadd, 1) := by decide +kernel
theorem dL_law_203 : decode cL_law 203 = .ok (.iaload, 1) := by decide +kernel
theorem dL_law_204 : decode cL_law 204 = .ok (.invokevirtual 40, 3) := by decide +kernel
theorem dL_law_207 : decode cL_law 207 = .ok (.if_icmp .eq 51, 3) := by decide +kernel
theorem dL_law_210 : decode cL_law 210 = .ok (.iconst 0, 1) := by decide +kernel
theorem dL_law_211 : decode cL_law 211 = .ok (.ireturn, 1) := by decide +kernel
theorem dL_law_212 : decode cL_law 212 = .ok (.aload_n 1, 1) := by decide +kernel
theorem dL_law_213 : decode cL_law 213 = .ok (.aload_n 0, 1) := by decide +kernel
theorem dL_law_214 : decode cL_law 214 = .ok (.iload_n 3, 1) := by decide +kernel
theorem dL_law_215 : decode cL_law 215 = .ok (.iconst 1, 1) := by decide +kernel
theorem dL_law_216 : decode cL_law 216 = .ok (.iadd, 1) := by decide +kernel
theorem dL_law_217 : decode cL_law 217 = .ok (.iaload, 1) := by decide +kernel
theorem dL_law_218 : decode cL_law 218 = .ok (.invokevirtual 41, 3) := by decide +kernel
theorem dL_law_221 : decode cL_law 221 = .ok (.aload_n 2, 1) := by decide +kernel
theorem dL_law_222 : decode cL_law 222 = .ok (.aload_n 0, 1) := by decide +kernel
theorem dL_law_223 : decode cL_law 223 = .ok (.iload_n 3, 1) := by decide +kernel
theorem dL_law_224 : decode cL_law 224 = .ok (.iconst 1, 1) := by decide +kernel
theorem dL_law_225 : decode cL_law 225 = .ok (.iadd, 1) := by decide +kernel
theorem dL_law_226 : decode cL_law 226 = .ok (.iaload, 1) := by decide +kernel
theorem dL_law_227 : decode cL_law 227 = .ok (.invokevirtual 44, 3) := by decide +kernel
theorem dL_law_230 : decode cL_law 230 = .ok (.if_icmp .eq 28, 3) := by decide +kernel
theorem dL_law_233 : decode cL_law 233 = .ok (.iconst 0, 1) := by decide +kernel
theorem dL_law_234 : decode cL_law 234 = .ok (.ireturn, 1) := by decide +kernel
theorem dL_law_235 : decode cL_law 235 = .ok (.aload_n 1, 1) := by decide +kernel
theorem dL_law_236 : decode cL_law 236 = .ok (.aload_n 0, 1) := by decide +kernel
theorem dL_law_237 : decode cL_law 237 = .ok (.iload_n 3, 1) := by decide +kernel
theorem dL_law_238 : decode cL_law 238 = .ok (.iconst 1, 1) := by decide +kernel
theorem dL_law_239 : decode cL_law 239 = .ok (.iadd, 1) := by decide +kernel
theorem dL_law_240 : decode cL_law 240 = .ok (.iaload, 1) := by decide +kernel
theorem dL_law_241 : decode cL_law 241 = .ok (.invokevirtual 45, 3) := by decide +kernel
theorem dL_law_244 : decode cL_law 244 = .ok (.aload_n 2, 1) := by decide +kernel
theorem dL_law_245 : decode cL_law 245 = .ok (.aload_n 0, 1) := by decide +kernel
theorem dL_law_246 : decode cL_law 246 = .ok (.iload_n 3, 1) := by decide +kernel
theorem dL_law_247 : decode cL_law 247 = .ok (.iconst 1, 1) := by decide +kernel
theorem dL_law_248 : decode cL_law 248 = .ok (.iadd, 1) := by decide +kernel
theorem dL_law_249 : decode cL_law 249 = .ok (.iaload, 1) := by decide +kernel
theorem dL_law_250 : decode cL_law 250 = .ok (.invokevirtual 48, 3) := by decide +kernel
theorem dL_law_253 : decode cL_law 253 = .ok (.if_icmp .eq 5, 3) := by decide +kernel
theorem dL_law_256 : decode cL_law 256 = .ok (.iconst 0, 1) := by decide +kernel
theorem dL_law_257 : decode cL_law 257 = .ok (.ireturn, 1) := by decide +kernel
theorem dL_law_258 : decode cL_law 258 = .ok (.iinc 3 4, 3) := by decide +kernel
theorem dL_law_261 : decode cL_law 261 = .ok (.goto (-233), 3) := by decide +kernel
theorem dL_law_264 : decode cL_law 264 = .ok (.iconst 1, 1) := by decide +kernel
theorem dL_law_265 : decode cL_law 265 = .ok (.ireturn, 1) := by decide +kernel
abbrev vwCl : List vw_C := [(RX0, TX0, 2), (RX1, TX1, 3), (RX2, TX2, 6), (RX3, TX3, 10)]
/-! END printed: names -/
end
section
-- MY OWN WRAPPERS: entry, exit, calls, arrays: a method's world is a list of cells ws; the classes are vwCl
/-- the private fields that nest mates read -/
def nw (U : State) : Prop := va_Nw (.fieldLinkNest RX2 63 "DownFrames$Bytes" "size" "I" "DownFrames") U ∧ va_Nw (.fieldLinkNest RX2 71 "DownFrames$Channel" "size" "I" "DownFrames") U ∧ va_Nw (.fieldLinkNest RX1 22 "DownFrames$Bytes" "size" "I" "DownFrames") U
theorem nw.same {u U : State} (h : u.vm = U.vm) (hn : nw u) : nw U := ⟨va_Nw.same rfl h hn.1, va_Nw.same rfl h hn.2.1, va_Nw.same rfl h hn.2.2⟩
theorem nw.warm {s U : State} (hW : s.WarmedH U.vm) (hn : nw s) : nw U := ⟨va_Nw.warmF hW hn.1, va_Nw.warmF hW hn.2.1, va_Nw.warmF hW hn.2.2⟩
def wP (D : va_G) (ty : List (ClassId × FieldType)) (ws : va_W) (sz : Nat) (U : State) : Prop := U.heap.size = sz ∧ va_P D vwCl ws U.heap ∧ va_K D vwCl ty U ∧ va_D (fun _ => True) ws ∧ nw U
def wQ (D : va_G) (ty : List (ClassId × FieldType)) (A : Nat → Prop) (ws : va_W) (t : State) : Prop := va_P D vwCl ws t.heap ∧ va_K D vwCl ty t ∧ va_D A ws
/-- contracts: void, int, a reference or null -/
def MV {S : Type} (l : Launch) (y : MethodName) (Ts : List Cond) (rm : Room) (av : List Value) (D : va_G) (ty : List (ClassId × FieldType)) (ws : va_W) (post : S → Prop) (w1 : S → va_W) (mc ms : Nat) : Prop :=
  ∀ sz : Nat, Met l y Ts rm (va_Pc av (wP D ty ws sz)) (va_Qv post (fun u => wQ D ty (va_A ws sz) (w1 u)) (va_A ws sz)) mc ms (va_A ws sz)
def MI {S : Type} (l : Launch) (y : MethodName) (Ts : List Cond) (rm : Room) (av : List Value) (D : va_G) (ty : List (ClassId × FieldType)) (ws : va_W) (post : Int32 → S → Prop) (w1 : S → va_W) (mc ms : Nat) : Prop :=
  ∀ sz : Nat, Met l y Ts rm (va_Pc av (wP D ty ws sz)) (va_Qi post (fun u => wQ D ty (va_A ws sz) (w1 u)) (va_A ws sz)) mc ms (va_A ws sz)
def MQq {S : Type} (l : Launch) (y : MethodName) (Ts : List Cond) (rm : Room) (av : List Value) (D : va_G) (ty : List (ClassId × FieldType)) (ws : va_W) (post : Option Nat → S → Prop) (w1 : S → va_W) (mc ms : Nat) : Prop :=
  ∀ sz : Nat, Met l y Ts rm (va_Pc av (wP D ty ws sz)) (va_Qq post (fun u => wQ D ty (va_A ws sz) (w1 u)) (va_A ws sz)) mc ms (va_A ws sz)
/-- the same with one known end -/
abbrev MV0 (l : Launch) (y : MethodName) (Ts : List Cond) (rm : Room) (av : List Value) (D : va_G) (ty : List (ClassId × FieldType)) (ws : va_W) (w1 : va_W) : Prop := MV (S := Unit) l y Ts rm av D ty ws (fun _ => True) (fun _ => w1) 0 0
abbrev MI0 (l : Launch) (y : MethodName) (Ts : List Cond) (rm : Room) (av : List Value) (D : va_G) (ty : List (ClassId × FieldType)) (ws : va_W) (r : Int32) (w1 : va_W) : Prop := MI (S := Unit) l y Ts rm av D ty ws (fun x _ => x = r) (fun _ => w1) 0 0
abbrev MQ0 (l : Launch) (y : MethodName) (Ts : List Cond) (rm : Room) (av : List Value) (D : va_G) (ty : List (ClassId × FieldType)) (ws : va_W) (r : Option Nat) (w1 : va_W) : Prop := MQq (S := Unit) l y Ts rm av D ty ws (fun x _ => x = r) (fun _ => w1) 0 0
theorem wP_blind {D : va_G} {ty : List (ClassId × FieldType)} {ws : va_W} {sz : Nat} {av : List Value} : FrameBlind (va_Pc av (wP D ty ws sz)) := fun a U g mk q => by
  obtain ⟨q0, q1, qP, qK, qD, qN⟩ := q
  exact ⟨q0, q1, qP, va_K.moved (u := U) (U := U.calling g mk a) (Vm.Alike.refl U.vm) qK, qD, nw.same (u := U) (U := U.calling g mk a) rfl qN⟩
theorem wb_P {D : va_G} {cl : List vw_C} {ws ws' : va_W} {H : Heap} (h : va_P D cl ws H) (is : List Nat) (hs : is.map (fun i => ws[i]?) = ws'.map some) : va_P D cl ws' H := by
  intro k q hk
  have h1 : (is.map (fun i => ws[i]?))[k]? = some (some q) := by rw [hs, List.getElem?_map, hk]; rfl
  rw [List.getElem?_map] at h1
  cases hi : is[k]? with
  | none => rw [hi] at h1; cases h1
  | some i => rw [hi] at h1; exact h i q (Option.some.inj h1)
theorem mt_in {l : Launch} {y : MethodName} {Ts ws' : List Cond} {rm : Room} {cc : ByteArray} {nL : Nat} {ret : Option FieldType} {D : va_G} {ty : List (ClassId × FieldType)} {ws : va_W} {sz : Nat} {av : List Value} {Qc : (Nat → Prop) → Array Value → State → Outcome → State → Prop} {mc ms : Nat}
    (hy : plainName y.cls = true) (hw : Ts = Cond.code y cc nL ret :: ws') (hn : (lg_sl av).length ≤ nL)
    (body : ∀ (p : Program) (e : Env) (s : State) (m : MethodId) (below : List Frame) (meth : Method) (c : Code) (A : Nat → Prop) (ls : Array Slot), p.tables.exec = Jvm.exec → c.code = cc → meth.sig.returnType = ret → (∀ w ∈ Ts, w.before av.toArray s = true) → s.vm.findClass y.cls = some m.cls → c.maxLocals = nL → meth.locks = false → meth.name = y.name → nw s → va_K D vwCl ty s → (∀ q : Nat, s.heap.size ≤ q → A q) → va_P D vwCl ws s.heap → va_D A ws → va_S A s.heap s.heap [] → lv_has ls nL (lv_args 0 av) →
      W p l e rm s m av.toArray below meth c s.heap [] 0 0 (MQ below (Qc A) av.toArray s mc ms A) (F0 m 0 ls [])) :
    Met l y Ts rm (va_Pc av (wP D ty ws sz)) (Qc (va_A ws sz)) mc ms (va_A ws sz) := by
  refine Met.ofW (cc := cc) (maxL := nL) (ret := ret) hy hw ?_
  intro p e s m args below meth c s₁ B hml hv
  obtain ⟨rfl, hsz, hP, hK, hD0, hN⟩ := hv
  rw [lg_entry_eq]
  exact body p e s m below meth c (va_A ws sz) _ B.exec B.bytes B.returns (atoms_spec (ws := Ts) B.pre) (findClass_of_methodNamed B.named) hml B.notSynchronized (name_of_methodNamed B.named B.method).1 hN hK (fun q h => Or.inr (by rw [← hsz]; exact h)) hP (hD0.self (sz := sz)) va_S.rf (lv_entry av hn)
section EX
variable {p : Program} {l : Launch} {e : Env} {R : Room} {s : State} {m : MethodId} {args : Array Value} {below : List Frame} {meth : Method} {c : Code} {H : Heap} {locs : List Loc} {cells slots : Nat} {Q : State → Prop}
variable {cc : ByteArray} {pc : Nat} {ls : Array Slot} {rest : List Value} {D : va_G} {A : Nat → Prop} {ty : List (ClassId × FieldType)} {ws : va_W} {H0 : Heap}
theorem ex_v {S : Type} {post : S → Prop} {w1 : S → va_W} (hx : p.tables.exec = Jvm.exec) (hb : c.code = cc) (hr : meth.sig.returnType = none) (hlocks : meth.locks = false) (hK : va_K D vwCl ty s) (hS : va_S A s.heap H locs) (u : S) (hu : post u) (hP : va_P D vwCl (w1 u) H) (hD : va_D A (w1 u)) (hd : decode cc pc = .ok (.return_, 1)) :
    W p l e R s m args below meth c H locs cells slots (MQ below (va_Qv post (fun u => wQ D ty A (w1 u)) A) args s cells slots A) (F0 m pc ls []) :=
  W.vret hx hb hr (fun t ht hW => ⟨⟨u, rfl, hu, by rw [ht]; exact hP, va_K.moved hW.alike hK, hD⟩, hS.F ht⟩) hS.2.2 hd hlocks
theorem ex_i {S : Type} {post : Int32 → S → Prop} {w1 : S → va_W} {v : Int32} (hx : p.tables.exec = Jvm.exec) (hb : c.code = cc) (hr : meth.sig.returnType = some .int) (hlocks : meth.locks = false) (hK : va_K D vwCl ty s) (hS : va_S A s.heap H locs) (u : S) (hu : post v u) (hP : va_P D vwCl (w1 u) H) (hD : va_D A (w1 u)) (hd : decode cc pc = .ok (.ireturn, 1)) :
    W p l e R s m args below meth c H locs cells slots (MQ below (va_Qi post (fun u => wQ D ty A (w1 u)) A) args s cells slots A) (F0 m pc ls [.int v]) :=
  W.iret hx hb hr (fun t ht hW => ⟨⟨v, u, rfl, hu, by rw [ht]; exact hP, va_K.moved hW.alike hK, hD⟩, hS.F ht⟩) hS.2.2 hd hlocks
theorem ex_z {S : Type} {post : Int32 → S → Prop} {w1 : S → va_W} {v : Int32} (hx : p.tables.exec = Jvm.exec) (hb : c.code = cc) (hr : meth.sig.returnType = some .boolean) (hv : v = 0 ∨ v = 1) (hlocks : meth.locks = false) (hK : va_K D vwCl ty s) (hS : va_S A s.heap H locs) (u : S) (hu : post v u) (hP : va_P D vwCl (w1 u) H) (hD : va_D A (w1 u)) (hd : decode cc pc = .ok (.ireturn, 1)) :
    W p l e R s m args below meth c H locs cells slots (MQ below (va_Qi post (fun u => wQ D ty A (w1 u)) A) args s cells slots A) (F0 m pc ls [.int v]) :=
  W.zret hx hb hr (by rcases hv with rfl | rfl <;> rfl) (fun t ht hW => ⟨⟨v, u, rfl, hu, by rw [ht]; exact hP, va_K.moved hW.alike hK, hD⟩, hS.F ht⟩) hS.2.2 hd hlocks
theorem ex_q {S : Type} {post : Option Nat → S → Prop} {w1 : S → va_W} {v : Option Nat} {nm : String} (hx : p.tables.exec = Jvm.exec) (hb : c.code = cc) (hr : meth.sig.returnType = some (.object nm)) (hlocks : meth.locks = false) (hK : va_K D vwCl ty s) (hS : va_S A s.heap H locs) (u : S) (hu : post v u) (hP : va_P D vwCl (w1 u) H) (hD : va_D A (w1 u)) (hd : decode cc pc = .ok (.areturn, 1)) :
    W p l e R s m args below meth c H locs cells slots (MQ below (va_Qq post (fun u => wQ D ty A (w1 u)) A) args s cells slots A) (F0 m pc ls [va_rf v]) :=
  W.aret hx hb hr (Or.inl ⟨nm, rfl⟩) (va_rf_or v) (fun t ht hW => ⟨⟨v, u, rfl, hu, by rw [ht]; exact hP, va_K.moved hW.alike hK, hD⟩, hS.F ht⟩) hS.2.2 hd hlocks
theorem tp_i {x y : Int32} (h : x = y) (k : W p l e R s m args below meth c H locs cells slots Q (F0 m pc ls (.int y :: rest))) : W p l e R s m args below meth c H locs cells slots Q (F0 m pc ls (.int x :: rest)) := by subst h; exact k
theorem tp_2 {x y : Int32} {z : Value} (h : x = y) (k : W p l e R s m args below meth c H locs cells slots Q (F0 m pc ls (z :: .int y :: rest))) : W p l e R s m args below meth c H locs cells slots Q (F0 m pc ls (z :: .int x :: rest)) := by subst h; exact k
theorem tp_l {x y : Int64} (h : x = y) (k : W p l e R s m args below meth c H locs cells slots Q (F0 m pc ls (.long y :: rest))) : W p l e R s m args below meth c H locs cells slots Q (F0 m pc ls (.long x :: rest)) := by subst h; exact k
/-- an array's element at a known place -/
theorem al_i {a : Nat} (hx : p.tables.exec = Jvm.exec) (hb : c.code = cc) (hK : va_K D vwCl ty s) (hP : va_P D vwCl ws H) (q0 t0 : Nat) {cA : ClassId} {n k : Nat} {f : Nat → Int32} (ha : ws[q0]? = some (a, .inl (cA, n, .inl f))) (ht : ty[t0]? = some (cA, .int)) (hk : k < n) (hn : n < 2 ^ 31) (hdg : decode cc pc = .ok (.iaload, 1))
    (kk : W p l e R s m args below meth c H locs cells slots Q (F0 m (pc + 1) ls (.int (f k) :: rest))) : W p l e R s m args below meth c H locs cells slots Q (F0 m pc ls (.int (nI k) :: .ref a :: rest)) := by
  refine va_iald hx hb hK hP q0 t0 ha ht (vp_in_nI hk hn) hdg ?_
  rw [nI_clamp (by omega)]
  exact kk
theorem as_i {a : Nat} (hx : p.tables.exec = Jvm.exec) (hb : c.code = cc) (hK : va_K D vwCl ty s) (hP : va_P D vwCl ws H) (hD : va_D A ws) (hS : va_S A H0 H locs) (q0 t0 : Nat) {cA : ClassId} {n k : Nat} {f : Nat → Int32} {x : Int32} (ha : ws[q0]? = some (a, .inl (cA, n, .inl f))) (ht : ty[t0]? = some (cA, .int)) (hk : k < n) (hn : n < 2 ^ 31) (hdg : decode cc pc = .ok (.iastore, 1))
    (kk : ∀ (H1 : Heap) (locs1 : List Loc), va_P D vwCl (ws.set q0 (a, .inl (cA, n, .inl (upd f k x)))) H1 → va_D A (ws.set q0 (a, .inl (cA, n, .inl (upd f k x)))) → va_S A H0 H1 locs1 → W p l e R s m args below meth c H1 locs1 cells slots Q (F0 m (pc + 1) ls rest)) : W p l e R s m args below meth c H locs cells slots Q (F0 m pc ls (.int x :: .int (nI k) :: .ref a :: rest)) := by
  refine va_iast hx hb hK hP hD hS q0 t0 ha ht (vp_in_nI hk hn) hdg (fun H1 locs1 h1 h2 h3 => ?_)
  rw [nI_clamp (by omega)] at h1 h2
  exact kk H1 locs1 h1 h2 h3
/-- a new int array: its class is the one that is known -/
theorem nw_i (hx : p.tables.exec = Jvm.exec) (hb : c.code = cc) (harr : (Cond.arrayClass .int).before args s = true) (hK : va_K D vwCl ty s) (t0 : Nat) {cA : ClassId} (ht : ty[t0]? = some (cA, .int)) (hP : va_P D vwCl ws H) (hD : va_D A ws) (hS : va_S A H0 H locs) (hA : ∀ q, H0.size ≤ q → A q) {n : Nat} (hn : n < 2 ^ 27) (hcells : cells + 1 ≤ R.cells) (hslots : slots + n ≤ R.slots) (hdg : decode cc pc = .ok (.newarray .int, 2))
    (kk : ∀ (q : Nat) (H1 : Heap), va_P D vwCl (ws ++ [(q, .inl (cA, n, .inl (fun _ => 0)))]) H1 → va_D A (ws ++ [(q, .inl (cA, n, .inl (fun _ => 0)))]) → va_S A H0 H1 locs → W p l e R s m args below meth c H1 locs (cells + 1) (slots + n) Q (F0 m (pc + 2) ls (.ref q :: rest))) : W p l e R s m args below meth c H locs cells slots Q (F0 m pc ls (.int (nI n) :: rest)) := by
  refine va_newa (atype := .int) (a0 := (n, .inl (fun _ => 0))) hx hb harr (ty := .int) rfl hK hP hD hS hA (fun cA => rfl) (nI_pos (by omega)) (nI_clamp (by omega)) (show n * 4 ≤ 536870912 by omega) hcells hslots hdg (fun q cB H1 hK1 hP1 hD1 hS1 => ?_)
  have e1 : s.vm.findClass ("[" ++ FieldType.int.toString) = some cA := (hK.2 t0 _ ht).2
  have e2 : s.vm.findClass ("[" ++ FieldType.int.toString) = some cB := (hK1.2 ty.length (cB, .int) (by simp)).2
  have e3 : cB = cA := Option.some.inj (e2.symm.trans e1)
  subst e3
  exact kk q H1 hP1 hD1 hS1
end EX
theorem mt_v {l : Launch} {y : MethodName} {Ts ws' : List Cond} {rm : Room} {cc : ByteArray} {nL : Nat} {D : va_G} {ty : List (ClassId × FieldType)} {ws : va_W} {av : List Value} {mc ms : Nat} {S : Type} {post : S → Prop} {w1 : S → va_W}
    (hy : plainName y.cls = true) (hw : Ts = Cond.code y cc nL none :: ws') (hn : (lg_sl av).length ≤ nL) 
    (body : ∀ (p : Program) (e : Env) (s : State) (m : MethodId) (below : List Frame) (meth : Method) (c : Code) (A : Nat → Prop) (ls : Array Slot) (Q : State → Prop), p.tables.exec = Jvm.exec → c.code = cc → (∀ w ∈ Ts, w.before av.toArray s = true) → s.vm.findClass y.cls = some m.cls → c.maxLocals = nL → meth.name = y.name → nw s → va_K D vwCl ty s → (∀ q : Nat, s.heap.size ≤ q → A q) → va_P D vwCl ws s.heap → va_D A ws → va_S A s.heap s.heap [] → lv_has ls nL (lv_args 0 av) → (∀ (H : Heap) (locs : List Loc) (ls : Array Slot) (pc : Nat) (u : S), va_S A s.heap H locs → post u → va_P D vwCl (w1 u) H → va_D A (w1 u) → decode cc pc = .ok (.return_, 1) → W p l e rm s m av.toArray below meth c H locs mc ms Q (F0 m pc ls [])) →
      W p l e rm s m av.toArray below meth c s.heap [] 0 0 Q (F0 m 0 ls [])) : MV l y Ts rm av D ty ws post w1 mc ms := by
  intro sz
  refine mt_in (Qc := fun A => va_Qv post (fun u => wQ D ty A (w1 u)) A) hy hw hn ?_
  intro p e s m below meth c A ls hx hb hr hts hown hml hlocks hin hN hK hA hP hD hS hl
  exact body p e s m below meth c A ls _ hx hb hts hown hml hin hN hK hA hP hD hS hl (fun H locs ls pc u h1 h2 h3 h4 h5 => ex_v hx hb hr hlocks hK h1 u h2 h3 h4 h5)
theorem mt_i {l : Launch} {y : MethodName} {Ts ws' : List Cond} {rm : Room} {cc : ByteArray} {nL : Nat} {D : va_G} {ty : List (ClassId × FieldType)} {ws : va_W} {av : List Value} {mc ms : Nat} {S : Type} {post : Int32 → S → Prop} {w1 : S → va_W}
    (hy : plainName y.cls = true) (hw : Ts = Cond.code y cc nL (some .int) :: ws') (hn : (lg_sl av).length ≤ nL) 
    (body : ∀ (p : Program) (e : Env) (s : State) (m : MethodId) (below : List Frame) (meth : Method) (c : Code) (A : Nat → Prop) (ls : Array Slot) (Q : State → Prop), p.tables.exec = Jvm.exec → c.code = cc → (∀ w ∈ Ts, w.before av.toArray s = true) → s.vm.findClass y.cls = some m.cls → c.maxLocals = nL → meth.name = y.name → nw s → va_K D vwCl ty s → (∀ q : Nat, s.heap.size ≤ q → A q) → va_P D vwCl ws s.heap → va_D A ws → va_S A s.heap s.heap [] → lv_has ls nL (lv_args 0 av) → (∀ (H : Heap) (locs : List Loc) (ls : Array Slot) (pc : Nat) (v : Int32) (u : S), va_S A s.heap H locs → post v u → va_P D vwCl (w1 u) H → va_D A (w1 u) → decode cc pc = .ok (.ireturn, 1) → W p l e rm s m av.toArray below meth c H locs mc ms Q (F0 m pc ls [.int v])) →
      W p l e rm s m av.toArray below meth c s.heap [] 0 0 Q (F0 m 0 ls [])) : MI l y Ts rm av D ty ws post w1 mc ms := by
  intro sz
  refine mt_in (Qc := fun A => va_Qi post (fun u => wQ D ty A (w1 u)) A) hy hw hn ?_
  intro p e s m below meth c A ls hx hb hr hts hown hml hlocks hin hN hK hA hP hD hS hl
  exact body p e s m below meth c A ls _ hx hb hts hown hml hin hN hK hA hP hD hS hl (fun H locs ls pc v u h1 h2 h3 h4 h5 => ex_i hx hb hr hlocks hK h1 u h2 h3 h4 h5)
theorem mt_z {l : Launch} {y : MethodName} {Ts ws' : List Cond} {rm : Room} {cc : ByteArray} {nL : Nat} {D : va_G} {ty : List (ClassId × FieldType)} {ws : va_W} {av : List Value} {mc ms : Nat} {S : Type} {post : Int32 → S → Prop} {w1 : S → va_W}
    (hy : plainName y.cls = true) (hw : Ts = Cond.code y cc nL (some .boolean) :: ws') (hn : (lg_sl av).length ≤ nL) (hz : ∀ v u, post v u → v = 0 ∨ v = 1) 
    (body : ∀ (p : Program) (e : Env) (s : State) (m : MethodId) (below : List Frame) (meth : Method) (c : Code) (A : Nat → Prop) (ls : Array Slot) (Q : State → Prop), p.tables.exec = Jvm.exec → c.code = cc → (∀ w ∈ Ts, w.before av.toArray s = true) → s.vm.findClass y.cls = some m.cls → c.maxLocals = nL → meth.name = y.name → nw s → va_K D vwCl ty s → (∀ q : Nat, s.heap.size ≤ q → A q) → va_P D vwCl ws s.heap → va_D A ws → va_S A s.heap s.heap [] → lv_has ls nL (lv_args 0 av) → (∀ (H : Heap) (locs : List Loc) (ls : Array Slot) (pc : Nat) (v : Int32) (u : S), va_S A s.heap H locs → post v u → va_P D vwCl (w1 u) H → va_D A (w1 u) → decode cc pc = .ok (.ireturn, 1) → W p l e rm s m av.toArray below meth c H locs mc ms Q (F0 m pc ls [.int v])) →
      W p l e rm s m av.toArray below meth c s.heap [] 0 0 Q (F0 m 0 ls [])) : MI l y Ts rm av D ty ws post w1 mc ms := by
  intro sz
  refine mt_in (Qc := fun A => va_Qi post (fun u => wQ D ty A (w1 u)) A) hy hw hn ?_
  intro p e s m below meth c A ls hx hb hr hts hown hml hlocks hin hN hK hA hP hD hS hl
  exact body p e s m below meth c A ls _ hx hb hts hown hml hin hN hK hA hP hD hS hl (fun H locs ls pc v u h1 h2 h3 h4 h5 => ex_z hx hb hr (hz v u h2) hlocks hK h1 u h2 h3 h4 h5)
theorem mt_q {l : Launch} {y : MethodName} {Ts ws' : List Cond} {rm : Room} {cc : ByteArray} {nL : Nat} {nm : String} {D : va_G} {ty : List (ClassId × FieldType)} {ws : va_W} {av : List Value} {mc ms : Nat} {S : Type} {post : Option Nat → S → Prop} {w1 : S → va_W}
    (hy : plainName y.cls = true) (hw : Ts = Cond.code y cc nL (some (.object nm)) :: ws') (hn : (lg_sl av).length ≤ nL) 
    (body : ∀ (p : Program) (e : Env) (s : State) (m : MethodId) (below : List Frame) (meth : Method) (c : Code) (A : Nat → Prop) (ls : Array Slot) (Q : State → Prop), p.tables.exec = Jvm.exec → c.code = cc → (∀ w ∈ Ts, w.before av.toArray s = true) → s.vm.findClass y.cls = some m.cls → c.maxLocals = nL → meth.name = y.name → nw s → va_K D vwCl ty s → (∀ q : Nat, s.heap.size ≤ q → A q) → va_P D vwCl ws s.heap → va_D A ws → va_S A s.heap s.heap [] → lv_has ls nL (lv_args 0 av) → (∀ (H : Heap) (locs : List Loc) (ls : Array Slot) (pc : Nat) (v : Option Nat) (u : S), va_S A s.heap H locs → post v u → va_P D vwCl (w1 u) H → va_D A (w1 u) → decode cc pc = .ok (.areturn, 1) → W p l e rm s m av.toArray below meth c H locs mc ms Q (F0 m pc ls [va_rf v])) →
      W p l e rm s m av.toArray below meth c s.heap [] 0 0 Q (F0 m 0 ls [])) : MQq l y Ts rm av D ty ws post w1 mc ms := by
  intro sz
  refine mt_in (Qc := fun A => va_Qq post (fun u => wQ D ty A (w1 u)) A) hy hw hn ?_
  intro p e s m below meth c A ls hx hb hr hts hown hml hlocks hin hN hK hA hP hD hS hl
  exact body p e s m below meth c A ls _ hx hb hts hown hml hin hN hK hA hP hD hS hl (fun H locs ls pc v u h1 h2 h3 h4 h5 => ex_q hx hb hr hlocks hK h1 u h2 h3 h4 h5)
section CL
variable {p : Program} {l : Launch} {e : Env} {R : Room} {s : State} {m : MethodId} {args : Array Value} {below : List Frame} {meth : Method} {c : Code} {H : Heap} {locs : List Loc} {cells slots : Nat} {Q : State → Prop}
variable {cc : ByteArray} {pc : Nat} {ls : Array Slot} {st0 : List Value} {D : va_G} {A : Nat → Prop} {tyc : List (ClassId × FieldType)} {ws wc : va_W} {H0 : Heap} {mc ms n nL maxL index : Nat} {y : MethodName} {bytes : ByteArray} {ret : Option FieldType} {wsc Ts : List Cond} {rm : Room} {own C : String} {b : Nat} {As : List Value} {S : Type} {w1 : S → va_W}
theorem cl_vv {post : S → Prop} (F : CallFix p m c cc nL s args Ts own) (hM : MV l y wsc rm (.ref b :: As) D tyc wc post w1 mc ms) (cw : CallW R s args own C index y bytes maxL ret wsc rm mc ms n) {ci q0 N : Nat} {T : u_T} {fs : List Value} (hc : vwCl[ci]? = some (C, T, N)) (hq : wc[q0]? = some (b, .inr (ci, fs))) (hN : nw s) (hK : va_K D vwCl tyc s) (hP : va_P D vwCl ws H) (hD : va_D A ws) (hS : va_S A H0 H locs) (hA : ∀ q, H0.size ≤ q → A q) (isC isR isB : List Nat) (wr : va_W) (w2 : S → va_W) (rest : List Value) (hC : isC.map (fun i => ws[i]?) = wc.map some) (hnc : va_nd isC = true) (hR : isR.map (fun i => ws[i]?) = wr.map some) (hn : va_nd isR = true) (hdis : ∀ i ∈ isR, i ∉ isC) (hB : ∀ u, isB.map (fun i => (wr ++ w1 u)[i]?) = (w2 u).map some) (hnb : va_nd isB = true)
    (hlen : As.length = n) (hls : ls.size = nL) (hst : st0 = As.reverse ++ .ref b :: rest) (hroom : (rest.map fun v => v.category).sum ≤ 8) (hdg : decode cc pc = .ok (.invokevirtual index, 3)) (hf : cells + mc ≤ R.cells ∧ slots + ms ≤ R.slots)
    (kk : ∀ (u : S) (H1 : Heap) (locs1 : List Loc), post u → va_P D vwCl (w2 u) H1 → va_D A (w2 u) → va_S A H0 H1 locs1 → W p l e R s m args below meth c H1 locs1 (cells + mc) (slots + ms) Q (F0 m (pc + 3) ls rest)) : W p l e R s m args below meth c H locs cells slots Q (F0 m pc ls st0) := by
  have hPc : va_P D vwCl wc H := wb_P hP isC hC
  have hDc := hD.sub isC hnc hC
  have hFc := va_free (wc := wc) hD hS hA isC hC
  refine va_callv (va_runV (As := As) (rest := rest) F (hM H.size) cw ⟨wP_blind, va_recv hK hPc hc hq, fun U hU hW => ⟨rfl, by rw [hU], by rw [hU]; exact hPc, va_K.moved hW.alike hK, hDc.weaken (fun _ _ _ _ => trivial), nw.warm hW hN⟩⟩ rfl hlen hls hst (lv_room hroom) hdg hf) hS (fun q _ h => hFc q h) hFc (fun u t H1 locs1 ht hvm hw hB1 hz1 hk1 hS1 => ?_)
  obtain ⟨hP1, hK1, hD1⟩ := hB1
  rw [ht] at hP1
  obtain ⟨hP2, hD2⟩ := va_join hP hD isC isR hC hR hn hdis hk1 hFc hP1 hD1
  exact kk u H1 locs1 hw (wb_P hP2 isB (hB u)) (hD2.sub isB hnb (hB u)) hS1
theorem cl_vi {post : Int32 → S → Prop} (F : CallFix p m c cc nL s args Ts own) (hM : MI l y wsc rm (.ref b :: As) D tyc wc post w1 mc ms) (cw : CallW R s args own C index y bytes maxL ret wsc rm mc ms n) {ci q0 N : Nat} {T : u_T} {fs : List Value} (hc : vwCl[ci]? = some (C, T, N)) (hq : wc[q0]? = some (b, .inr (ci, fs))) (hN : nw s) (hK : va_K D vwCl tyc s) (hP : va_P D vwCl ws H) (hD : va_D A ws) (hS : va_S A H0 H locs) (hA : ∀ q, H0.size ≤ q → A q) (isC isR isB : List Nat) (wr : va_W) (w2 : S → va_W) (rest : List Value) (hC : isC.map (fun i => ws[i]?) = wc.map some) (hnc : va_nd isC = true) (hR : isR.map (fun i => ws[i]?) = wr.map some) (hn : va_nd isR = true) (hdis : ∀ i ∈ isR, i ∉ isC) (hB : ∀ u, isB.map (fun i => (wr ++ w1 u)[i]?) = (w2 u).map some) (hnb : va_nd isB = true)
    (hlen : As.length = n) (hls : ls.size = nL) (hst : st0 = As.reverse ++ .ref b :: rest) (hroom : (rest.map fun v => v.category).sum ≤ 8) (hdg : decode cc pc = .ok (.invokevirtual index, 3)) (hf : cells + mc ≤ R.cells ∧ slots + ms ≤ R.slots)
    (kk : ∀ (r : Int32) (u : S) (H1 : Heap) (locs1 : List Loc), post r u → va_P D vwCl (w2 u) H1 → va_D A (w2 u) → va_S A H0 H1 locs1 → W p l e R s m args below meth c H1 locs1 (cells + mc) (slots + ms) Q (F0 m (pc + 3) ls (.int r :: rest))) : W p l e R s m args below meth c H locs cells slots Q (F0 m pc ls st0) := by
  have hPc : va_P D vwCl wc H := wb_P hP isC hC
  have hDc := hD.sub isC hnc hC
  have hFc := va_free (wc := wc) hD hS hA isC hC
  refine va_calli (va_runV (As := As) (rest := rest) F (hM H.size) cw ⟨wP_blind, va_recv hK hPc hc hq, fun U hU hW => ⟨rfl, by rw [hU], by rw [hU]; exact hPc, va_K.moved hW.alike hK, hDc.weaken (fun _ _ _ _ => trivial), nw.warm hW hN⟩⟩ rfl hlen hls hst (lv_room hroom) hdg hf) hS (fun q _ h => hFc q h) hFc (fun r u t H1 locs1 ht hvm hw hB1 hz1 hk1 hS1 => ?_)
  obtain ⟨hP1, hK1, hD1⟩ := hB1
  rw [ht] at hP1
  obtain ⟨hP2, hD2⟩ := va_join hP hD isC isR hC hR hn hdis hk1 hFc hP1 hD1
  exact kk r u H1 locs1 hw (wb_P hP2 isB (hB u)) (hD2.sub isB hnb (hB u)) hS1
theorem cl_vq {post : Option Nat → S → Prop} (F : CallFix p m c cc nL s args Ts own) (hM : MQq l y wsc rm (.ref b :: As) D tyc wc post w1 mc ms) (cw : CallW R s args own C index y bytes maxL ret wsc rm mc ms n) {ci q0 N : Nat} {T : u_T} {fs : List Value} (hc : vwCl[ci]? = some (C, T, N)) (hq : wc[q0]? = some (b, .inr (ci, fs))) (hN : nw s) (hK : va_K D vwCl tyc s) (hP : va_P D vwCl ws H) (hD : va_D A ws) (hS : va_S A H0 H locs) (hA : ∀ q, H0.size ≤ q → A q) (isC isR isB : List Nat) (wr : va_W) (w2 : S → va_W) (rest : List Value) (hC : isC.map (fun i => ws[i]?) = wc.map some) (hnc : va_nd isC = true) (hR : isR.map (fun i => ws[i]?) = wr.map some) (hn : va_nd isR = true) (hdis : ∀ i ∈ isR, i ∉ isC) (hB : ∀ u, isB.map (fun i => (wr ++ w1 u)[i]?) = (w2 u).map some) (hnb : va_nd isB = true)
    (hlen : As.length = n) (hls : ls.size = nL) (hst : st0 = As.reverse ++ .ref b :: rest) (hroom : (rest.map fun v => v.category).sum ≤ 8) (hdg : decode cc pc = .ok (.invokevirtual index, 3)) (hf : cells + mc ≤ R.cells ∧ slots + ms ≤ R.slots)
    (kk : ∀ (r : Option Nat) (u : S) (H1 : Heap) (locs1 : List Loc), post r u → va_P D vwCl (w2 u) H1 → va_D A (w2 u) → va_S A H0 H1 locs1 → W p l e R s m args below meth c H1 locs1 (cells + mc) (slots + ms) Q (F0 m (pc + 3) ls (va_rf r :: rest))) : W p l e R s m args below meth c H locs cells slots Q (F0 m pc ls st0) := by
  have hPc : va_P D vwCl wc H := wb_P hP isC hC
  have hDc := hD.sub isC hnc hC
  have hFc := va_free (wc := wc) hD hS hA isC hC
  refine va_callq (va_runV (As := As) (rest := rest) F (hM H.size) cw ⟨wP_blind, va_recv hK hPc hc hq, fun U hU hW => ⟨rfl, by rw [hU], by rw [hU]; exact hPc, va_K.moved hW.alike hK, hDc.weaken (fun _ _ _ _ => trivial), nw.warm hW hN⟩⟩ rfl hlen hls hst (lv_room hroom) hdg hf) hS (fun q _ h => hFc q h) hFc (fun r u t H1 locs1 ht hvm hw hB1 hz1 hk1 hS1 => ?_)
  obtain ⟨hP1, hK1, hD1⟩ := hB1
  rw [ht] at hP1
  obtain ⟨hP2, hD2⟩ := va_join hP hD isC isR hC hR hn hdis hk1 hFc hP1 hD1
  exact kk r u H1 locs1 hw (wb_P hP2 isB (hB u)) (hD2.sub isB hnb (hB u)) hS1
theorem cl_sv {post : S → Prop} (F : CallFix p m c cc nL s args Ts own) (hM : MV l y wsc rm As D tyc wc post w1 mc ms) (cw : CallB R s args own index y bytes maxL ret wsc rm mc ms n ∧ (Cond.static y).before args s = true) (hN : nw s) (hK : va_K D vwCl tyc s) (hP : va_P D vwCl ws H) (hD : va_D A ws) (hS : va_S A H0 H locs) (hA : ∀ q, H0.size ≤ q → A q) (isC isR isB : List Nat) (wr : va_W) (w2 : S → va_W) (rest : List Value) (hC : isC.map (fun i => ws[i]?) = wc.map some) (hnc : va_nd isC = true) (hR : isR.map (fun i => ws[i]?) = wr.map some) (hn : va_nd isR = true) (hdis : ∀ i ∈ isR, i ∉ isC) (hB : ∀ u, isB.map (fun i => (wr ++ w1 u)[i]?) = (w2 u).map some) (hnb : va_nd isB = true)
    (hlen : As.length = n) (hls : ls.size = nL) (hst : st0 = As.reverse ++ rest) (hroom : (rest.map fun v => v.category).sum ≤ 8) (hdg : decode cc pc = .ok (.invokestatic index, 3)) (hf : cells + mc ≤ R.cells ∧ slots + ms ≤ R.slots)
    (kk : ∀ (u : S) (H1 : Heap) (locs1 : List Loc), post u → va_P D vwCl (w2 u) H1 → va_D A (w2 u) → va_S A H0 H1 locs1 → W p l e R s m args below meth c H1 locs1 (cells + mc) (slots + ms) Q (F0 m (pc + 3) ls rest)) : W p l e R s m args below meth c H locs cells slots Q (F0 m pc ls st0) := by
  have hPc : va_P D vwCl wc H := wb_P hP isC hC
  have hDc := hD.sub isC hnc hC
  have hFc := va_free (wc := wc) hD hS hA isC hC
  refine va_callv (va_runS (As := As) (rest := rest) F (hM H.size) cw ⟨wP_blind, fun U hU hW => ⟨rfl, by rw [hU], by rw [hU]; exact hPc, va_K.moved hW.alike hK, hDc.weaken (fun _ _ _ _ => trivial), nw.warm hW hN⟩⟩ rfl hlen hls hst (lv_room hroom) hdg hf) hS (fun q _ h => hFc q h) hFc (fun u t H1 locs1 ht hvm hw hB1 hz1 hk1 hS1 => ?_)
  obtain ⟨hP1, hK1, hD1⟩ := hB1
  rw [ht] at hP1
  obtain ⟨hP2, hD2⟩ := va_join hP hD isC isR hC hR hn hdis hk1 hFc hP1 hD1
  exact kk u H1 locs1 hw (wb_P hP2 isB (hB u)) (hD2.sub isB hnb (hB u)) hS1
theorem cl_si {post : Int32 → S → Prop} (F : CallFix p m c cc nL s args Ts own) (hM : MI l y wsc rm As D tyc wc post w1 mc ms) (cw : CallB R s args own index y bytes maxL ret wsc rm mc ms n ∧ (Cond.static y).before args s = true) (hN : nw s) (hK : va_K D vwCl tyc s) (hP : va_P D vwCl ws H) (hD : va_D A ws) (hS : va_S A H0 H locs) (hA : ∀ q, H0.size ≤ q → A q) (isC isR isB : List Nat) (wr : va_W) (w2 : S → va_W) (rest : List Value) (hC : isC.map (fun i => ws[i]?) = wc.map some) (hnc : va_nd isC = true) (hR : isR.map (fun i => ws[i]?) = wr.map some) (hn : va_nd isR = true) (hdis : ∀ i ∈ isR, i ∉ isC) (hB : ∀ u, isB.map (fun i => (wr ++ w1 u)[i]?) = (w2 u).map some) (hnb : va_nd isB = true)
    (hlen : As.length = n) (hls : ls.size = nL) (hst : st0 = As.reverse ++ rest) (hroom : (rest.map fun v => v.category).sum ≤ 8) (hdg : decode cc pc = .ok (.invokestatic index, 3)) (hf : cells + mc ≤ R.cells ∧ slots + ms ≤ R.slots)
    (kk : ∀ (r : Int32) (u : S) (H1 : Heap) (locs1 : List Loc), post r u → va_P D vwCl (w2 u) H1 → va_D A (w2 u) → va_S A H0 H1 locs1 → W p l e R s m args below meth c H1 locs1 (cells + mc) (slots + ms) Q (F0 m (pc + 3) ls (.int r :: rest))) : W p l e R s m args below meth c H locs cells slots Q (F0 m pc ls st0) := by
  have hPc : va_P D vwCl wc H := wb_P hP isC hC
  have hDc := hD.sub isC hnc hC
  have hFc := va_free (wc := wc) hD hS hA isC hC
  refine va_calli (va_runS (As := As) (rest := rest) F (hM H.size) cw ⟨wP_blind, fun U hU hW => ⟨rfl, by rw [hU], by rw [hU]; exact hPc, va_K.moved hW.alike hK, hDc.weaken (fun _ _ _ _ => trivial), nw.warm hW hN⟩⟩ rfl hlen hls hst (lv_room hroom) hdg hf) hS (fun q _ h => hFc q h) hFc (fun r u t H1 locs1 ht hvm hw hB1 hz1 hk1 hS1 => ?_)
  obtain ⟨hP1, hK1, hD1⟩ := hB1
  rw [ht] at hP1
  obtain ⟨hP2, hD2⟩ := va_join hP hD isC isR hC hR hn hdis hk1 hFc hP1 hD1
  exact kk r u H1 locs1 hw (wb_P hP2 isB (hB u)) (hD2.sub isB hnb (hB u)) hS1
theorem cl_iv {post : S → Prop} (F : CallFix p m c cc nL s args Ts own) (hM : MV l y wsc rm (.ref b :: As) D tyc wc post w1 mc ms) (cw : CallB R s args own index y bytes maxL none wsc rm mc ms n ∧ y.name = "<init>" ∧ (Cond.instanceMethod y).before args s = true) (hN : nw s) (hK : va_K D vwCl tyc s) (hP : va_P D vwCl ws H) (hD : va_D A ws) (hS : va_S A H0 H locs) (hA : ∀ q, H0.size ≤ q → A q) (isC isR isB : List Nat) (wr : va_W) (w2 : S → va_W) (rest : List Value) (hC : isC.map (fun i => ws[i]?) = wc.map some) (hnc : va_nd isC = true) (hR : isR.map (fun i => ws[i]?) = wr.map some) (hn : va_nd isR = true) (hdis : ∀ i ∈ isR, i ∉ isC) (hB : ∀ u, isB.map (fun i => (wr ++ w1 u)[i]?) = (w2 u).map some) (hnb : va_nd isB = true)
    (hlen : As.length = n) (hls : ls.size = nL) (hst : st0 = As.reverse ++ .ref b :: rest) (hroom : (rest.map fun v => v.category).sum ≤ 8) (hdg : decode cc pc = .ok (.invokespecial index, 3)) (hf : cells + mc ≤ R.cells ∧ slots + ms ≤ R.slots)
    (kk : ∀ (u : S) (H1 : Heap) (locs1 : List Loc), post u → va_P D vwCl (w2 u) H1 → va_D A (w2 u) → va_S A H0 H1 locs1 → W p l e R s m args below meth c H1 locs1 (cells + mc) (slots + ms) Q (F0 m (pc + 3) ls rest)) : W p l e R s m args below meth c H locs cells slots Q (F0 m pc ls st0) := by
  have hPc : va_P D vwCl wc H := wb_P hP isC hC
  have hDc := hD.sub isC hnc hC
  have hFc := va_free (wc := wc) hD hS hA isC hC
  refine va_callv (va_runI (As := As) (rest := rest) F (hM H.size) cw ⟨wP_blind, fun U hU hW => ⟨rfl, by rw [hU], by rw [hU]; exact hPc, va_K.moved hW.alike hK, hDc.weaken (fun _ _ _ _ => trivial), nw.warm hW hN⟩⟩ rfl hlen hls hst (lv_room hroom) hdg hf) hS (fun q _ h => hFc q h) hFc (fun u t H1 locs1 ht hvm hw hB1 hz1 hk1 hS1 => ?_)
  obtain ⟨hP1, hK1, hD1⟩ := hB1
  rw [ht] at hP1
  obtain ⟨hP2, hD2⟩ := va_join hP hD isC isR hC hR hn hdis hk1 hFc hP1 hD1
  exact kk u H1 locs1 hw (wb_P hP2 isB (hB u)) (hD2.sub isB hnb (hB u)) hS1
theorem cl0_vv {w0 : va_W} (F : CallFix p m c cc nL s args Ts own) (hM : MV0 l y wsc rm (.ref b :: As) D tyc wc w0) (cw : CallW R s args own C index y bytes maxL ret wsc rm 0 0 n) {ci q0 N : Nat} {T : u_T} {fs : List Value} (hc : vwCl[ci]? = some (C, T, N)) (hq : wc[q0]? = some (b, .inr (ci, fs))) (hN : nw s) (hK : va_K D vwCl tyc s) (hP : va_P D vwCl ws H) (hD : va_D A ws) (hS : va_S A H0 H locs) (hA : ∀ q, H0.size ≤ q → A q) (isC isR isB : List Nat) (wr : va_W) (w2 : va_W) (rest : List Value) (hC : isC.map (fun i => ws[i]?) = wc.map some) (hnc : va_nd isC = true) (hR : isR.map (fun i => ws[i]?) = wr.map some) (hn : va_nd isR = true) (hdis : ∀ i ∈ isR, i ∉ isC) (hB : isB.map (fun i => (wr ++ w0)[i]?) = w2.map some) (hnb : va_nd isB = true)
    (hlen : As.length = n) (hls : ls.size = nL) (hst : st0 = As.reverse ++ .ref b :: rest) (hroom : (rest.map fun v => v.category).sum ≤ 8) (hdg : decode cc pc = .ok (.invokevirtual index, 3)) (hf : cells ≤ R.cells ∧ slots ≤ R.slots)
    (kk : ∀ (H1 : Heap) (locs1 : List Loc), va_P D vwCl w2 H1 → va_D A w2 → va_S A H0 H1 locs1 → W p l e R s m args below meth c H1 locs1 cells slots Q (F0 m (pc + 3) ls rest)) : W p l e R s m args below meth c H locs cells slots Q (F0 m pc ls st0) :=
  cl_vv F hM cw hc hq hN hK hP hD hS hA isC isR isB wr (fun _ => w2) rest hC hnc hR hn hdis (fun _ => hB) hnb hlen hls hst hroom hdg hf (fun _ H1 locs1 _ a b c => kk H1 locs1 a b c)
theorem cl0_vi {r : Int32} {w0 : va_W} (F : CallFix p m c cc nL s args Ts own) (hM : MI0 l y wsc rm (.ref b :: As) D tyc wc r w0) (cw : CallW R s args own C index y bytes maxL ret wsc rm 0 0 n) {ci q0 N : Nat} {T : u_T} {fs : List Value} (hc : vwCl[ci]? = some (C, T, N)) (hq : wc[q0]? = some (b, .inr (ci, fs))) (hN : nw s) (hK : va_K D vwCl tyc s) (hP : va_P D vwCl ws H) (hD : va_D A ws) (hS : va_S A H0 H locs) (hA : ∀ q, H0.size ≤ q → A q) (isC isR isB : List Nat) (wr : va_W) (w2 : va_W) (rest : List Value) (hC : isC.map (fun i => ws[i]?) = wc.map some) (hnc : va_nd isC = true) (hR : isR.map (fun i => ws[i]?) = wr.map some) (hn : va_nd isR = true) (hdis : ∀ i ∈ isR, i ∉ isC) (hB : isB.map (fun i => (wr ++ w0)[i]?) = w2.map some) (hnb : va_nd isB = true)
    (hlen : As.length = n) (hls : ls.size = nL) (hst : st0 = As.reverse ++ .ref b :: rest) (hroom : (rest.map fun v => v.category).sum ≤ 8) (hdg : decode cc pc = .ok (.invokevirtual index, 3)) (hf : cells ≤ R.cells ∧ slots ≤ R.slots)
    (kk : ∀ (H1 : Heap) (locs1 : List Loc), va_P D vwCl w2 H1 → va_D A w2 → va_S A H0 H1 locs1 → W p l e R s m args below meth c H1 locs1 cells slots Q (F0 m (pc + 3) ls (.int r :: rest))) : W p l e R s m args below meth c H locs cells slots Q (F0 m pc ls st0) :=
  cl_vi F hM cw hc hq hN hK hP hD hS hA isC isR isB wr (fun _ => w2) rest hC hnc hR hn hdis (fun _ => hB) hnb hlen hls hst hroom hdg hf (fun _ _ H1 locs1 h a b c => by subst h; exact kk H1 locs1 a b c)
theorem cl0_vq {r : Option Nat} {w0 : va_W} (F : CallFix p m c cc nL s args Ts own) (hM : MQ0 l y wsc rm (.ref b :: As) D tyc wc r w0) (cw : CallW R s args own C index y bytes maxL ret wsc rm 0 0 n) {ci q0 N : Nat} {T : u_T} {fs : List Value} (hc : vwCl[ci]? = some (C, T, N)) (hq : wc[q0]? = some (b, .inr (ci, fs))) (hN : nw s) (hK : va_K D vwCl tyc s) (hP : va_P D vwCl ws H) (hD : va_D A ws) (hS : va_S A H0 H locs) (hA : ∀ q, H0.size ≤ q → A q) (isC isR isB : List Nat) (wr : va_W) (w2 : va_W) (rest : List Value) (hC : isC.map (fun i => ws[i]?) = wc.map some) (hnc : va_nd isC = true) (hR : isR.map (fun i => ws[i]?) = wr.map some) (hn : va_nd isR = true) (hdis : ∀ i ∈ isR, i ∉ isC) (hB : isB.map (fun i => (wr ++ w0)[i]?) = w2.map some) (hnb : va_nd isB = true)
    (hlen : As.length = n) (hls : ls.size = nL) (hst : st0 = As.reverse ++ .ref b :: rest) (hroom : (rest.map fun v => v.category).sum ≤ 8) (hdg : decode cc pc = .ok (.invokevirtual index, 3)) (hf : cells ≤ R.cells ∧ slots ≤ R.slots)
    (kk : ∀ (H1 : Heap) (locs1 : List Loc), va_P D vwCl w2 H1 → va_D A w2 → va_S A H0 H1 locs1 → W p l e R s m args below meth c H1 locs1 cells slots Q (F0 m (pc + 3) ls (va_rf r :: rest))) : W p l e R s m args below meth c H locs cells slots Q (F0 m pc ls st0) :=
  cl_vq F hM cw hc hq hN hK hP hD hS hA isC isR isB wr (fun _ => w2) rest hC hnc hR hn hdis (fun _ => hB) hnb hlen hls hst hroom hdg hf (fun _ _ H1 locs1 h a b c => by subst h; exact kk H1 locs1 a b c)
theorem cl0_sv {w0 : va_W} (F : CallFix p m c cc nL s args Ts own) (hM : MV0 l y wsc rm As D tyc wc w0) (cw : CallB R s args own index y bytes maxL ret wsc rm 0 0 n ∧ (Cond.static y).before args s = true) (hN : nw s) (hK : va_K D vwCl tyc s) (hP : va_P D vwCl ws H) (hD : va_D A ws) (hS : va_S A H0 H locs) (hA : ∀ q, H0.size ≤ q → A q) (isC isR isB : List Nat) (wr : va_W) (w2 : va_W) (rest : List Value) (hC : isC.map (fun i => ws[i]?) = wc.map some) (hnc : va_nd isC = true) (hR : isR.map (fun i => ws[i]?) = wr.map some) (hn : va_nd isR = true) (hdis : ∀ i ∈ isR, i ∉ isC) (hB : isB.map (fun i => (wr ++ w0)[i]?) = w2.map some) (hnb : va_nd isB = true)
    (hlen : As.length = n) (hls : ls.size = nL) (hst : st0 = As.reverse ++ rest) (hroom : (rest.map fun v => v.category).sum ≤ 8) (hdg : decode cc pc = .ok (.invokestatic index, 3)) (hf : cells ≤ R.cells ∧ slots ≤ R.slots)
    (kk : ∀ (H1 : Heap) (locs1 : List Loc), va_P D vwCl w2 H1 → va_D A w2 → va_S A H0 H1 locs1 → W p l e R s m args below meth c H1 locs1 cells slots Q (F0 m (pc + 3) ls rest)) : W p l e R s m args below meth c H locs cells slots Q (F0 m pc ls st0) :=
  cl_sv F hM cw hN hK hP hD hS hA isC isR isB wr (fun _ => w2) rest hC hnc hR hn hdis (fun _ => hB) hnb hlen hls hst hroom hdg hf (fun _ H1 locs1 _ a b c => kk H1 locs1 a b c)
theorem cl0_si {r : Int32} {w0 : va_W} (F : CallFix p m c cc nL s args Ts own) (hM : MI0 l y wsc rm As D tyc wc r w0) (cw : CallB R s args own index y bytes maxL ret wsc rm 0 0 n ∧ (Cond.static y).before args s = true) (hN : nw s) (hK : va_K D vwCl tyc s) (hP : va_P D vwCl ws H) (hD : va_D A ws) (hS : va_S A H0 H locs) (hA : ∀ q, H0.size ≤ q → A q) (isC isR isB : List Nat) (wr : va_W) (w2 : va_W) (rest : List Value) (hC : isC.map (fun i => ws[i]?) = wc.map some) (hnc : va_nd isC = true) (hR : isR.map (fun i => ws[i]?) = wr.map some) (hn : va_nd isR = true) (hdis : ∀ i ∈ isR, i ∉ isC) (hB : isB.map (fun i => (wr ++ w0)[i]?) = w2.map some) (hnb : va_nd isB = true)
    (hlen : As.length = n) (hls : ls.size = nL) (hst : st0 = As.reverse ++ rest) (hroom : (rest.map fun v => v.category).sum ≤ 8) (hdg : decode cc pc = .ok (.invokestatic index, 3)) (hf : cells ≤ R.cells ∧ slots ≤ R.slots)
    (kk : ∀ (H1 : Heap) (locs1 : List Loc), va_P D vwCl w2 H1 → va_D A w2 → va_S A H0 H1 locs1 → W p l e R s m args below meth c H1 locs1 cells slots Q (F0 m (pc + 3) ls (.int r :: rest))) : W p l e R s m args below meth c H locs cells slots Q (F0 m pc ls st0) :=
  cl_si F hM cw hN hK hP hD hS hA isC isR isB wr (fun _ => w2) rest hC hnc hR hn hdis (fun _ => hB) hnb hlen hls hst hroom hdg hf (fun _ _ H1 locs1 h a b c => by subst h; exact kk H1 locs1 a b c)
theorem cl0_vR {a : Nat} {w0 : va_W} (F : CallFix p m c cc nL s args Ts own) (hM : MQ0 l y wsc rm (.ref b :: As) D tyc wc (some a) w0) (cw : CallW R s args own C index y bytes maxL ret wsc rm 0 0 n) {ci q0 N : Nat} {T : u_T} {fs : List Value} (hc : vwCl[ci]? = some (C, T, N)) (hq : wc[q0]? = some (b, .inr (ci, fs))) (hN : nw s) (hK : va_K D vwCl tyc s) (hP : va_P D vwCl ws H) (hD : va_D A ws) (hS : va_S A H0 H locs) (hA : ∀ q, H0.size ≤ q → A q) (isC isR isB : List Nat) (wr : va_W) (w2 : va_W) (rest : List Value) (hC : isC.map (fun i => ws[i]?) = wc.map some) (hnc : va_nd isC = true) (hR : isR.map (fun i => ws[i]?) = wr.map some) (hn : va_nd isR = true) (hdis : ∀ i ∈ isR, i ∉ isC) (hB : isB.map (fun i => (wr ++ w0)[i]?) = w2.map some) (hnb : va_nd isB = true)
    (hlen : As.length = n) (hls : ls.size = nL) (hst : st0 = As.reverse ++ .ref b :: rest) (hroom : (rest.map fun v => v.category).sum ≤ 8) (hdg : decode cc pc = .ok (.invokevirtual index, 3)) (hf : cells ≤ R.cells ∧ slots ≤ R.slots)
    (kk : ∀ (H1 : Heap) (locs1 : List Loc), va_P D vwCl w2 H1 → va_D A w2 → va_S A H0 H1 locs1 → W p l e R s m args below meth c H1 locs1 cells slots Q (F0 m (pc + 3) ls (.ref a :: rest))) : W p l e R s m args below meth c H locs cells slots Q (F0 m pc ls st0) :=
  cl0_vq F hM cw hc hq hN hK hP hD hS hA isC isR isB wr w2 rest hC hnc hR hn hdis hB hnb hlen hls hst hroom hdg hf kk
theorem cl0_vN {w0 : va_W} (F : CallFix p m c cc nL s args Ts own) (hM : MQ0 l y wsc rm (.ref b :: As) D tyc wc none w0) (cw : CallW R s args own C index y bytes maxL ret wsc rm 0 0 n) {ci q0 N : Nat} {T : u_T} {fs : List Value} (hc : vwCl[ci]? = some (C, T, N)) (hq : wc[q0]? = some (b, .inr (ci, fs))) (hN : nw s) (hK : va_K D vwCl tyc s) (hP : va_P D vwCl ws H) (hD : va_D A ws) (hS : va_S A H0 H locs) (hA : ∀ q, H0.size ≤ q → A q) (isC isR isB : List Nat) (wr : va_W) (w2 : va_W) (rest : List Value) (hC : isC.map (fun i => ws[i]?) = wc.map some) (hnc : va_nd isC = true) (hR : isR.map (fun i => ws[i]?) = wr.map some) (hn : va_nd isR = true) (hdis : ∀ i ∈ isR, i ∉ isC) (hB : isB.map (fun i => (wr ++ w0)[i]?) = w2.map some) (hnb : va_nd isB = true)
    (hlen : As.length = n) (hls : ls.size = nL) (hst : st0 = As.reverse ++ .ref b :: rest) (hroom : (rest.map fun v => v.category).sum ≤ 8) (hdg : decode cc pc = .ok (.invokevirtual index, 3)) (hf : cells ≤ R.cells ∧ slots ≤ R.slots)
    (kk : ∀ (H1 : Heap) (locs1 : List Loc), va_P D vwCl w2 H1 → va_D A w2 → va_S A H0 H1 locs1 → W p l e R s m args below meth c H1 locs1 cells slots Q (F0 m (pc + 3) ls (.null :: rest))) : W p l e R s m args below meth c H locs cells slots Q (F0 m pc ls st0) :=
  cl0_vq F hM cw hc hq hN hK hP hD hS hA isC isR isB wr w2 rest hC hnc hR hn hdis hB hnb hlen hls hst hroom hdg hf kk
end CL
/-- THE FRAME RULE for contracts: a contract over some of a world's cells is one over the world -/
theorem fr_i {l : Launch} {y : MethodName} {Ts : List Cond} {rm : Room} {av : List Value} {D : va_G} {ty : List (ClassId × FieldType)} {ws wc wr : va_W} {mc ms : Nat} {S0 S : Type} {post0 : Int32 → S0 → Prop} {w0 : S0 → va_W} {post : Int32 → S → Prop} {w1 : S → va_W}
    (hM : MI l y Ts rm av D ty wc post0 w0 mc ms) (isC isR : List Nat) (hC : isC.map (fun i => ws[i]?) = wc.map some) (hnc : va_nd isC = true) (hR : isR.map (fun i => ws[i]?) = wr.map some) (hn : va_nd isR = true) (hdis : ∀ i ∈ isR, i ∉ isC)
    (hp : ∀ r u0, post0 r u0 → ∃ (u : S) (isB : List Nat), post r u ∧ isB.map (fun i => (wr ++ w0 u0)[i]?) = (w1 u).map some ∧ va_nd isB = true) : MI l y Ts rm av D ty ws post w1 mc ms := by
  intro sz p e ha hc hk s m args below hf happ hv _
  obtain ⟨rfl, hsz, hP, hK, hD, hN⟩ := hv
  subst hsz
  have hD9 : va_D (va_A ws s.heap.size) ws := hD.self
  have hF : ∀ q, va_A wc s.heap.size q → va_A ws s.heap.size q := va_free (wc := wc) (H0 := s.heap) (H := s.heap) (locs := []) hD9 va_S.rf (fun q h => Or.inr h) isC hC
  obtain ⟨n, o, h1, h2, h3, ⟨⟨r, u0, ho, hpo, hP1, hK1, hD1⟩, hz, hst⟩, L, hFE, hL⟩ := hM s.heap.size p e ha hc hk s m av.toArray below hf happ ⟨rfl, rfl, wb_P hP isC hC, hK, hD.sub isC hnc hC, hN⟩ trivial
  obtain ⟨u, isB, hu, hB, hnb⟩ := hp r u0 hpo
  obtain ⟨hP2, hD2⟩ := va_join hP hD9 isC isR hC hR hn hdis hst hF hP1 hD1
  exact ⟨n, o, h1, h2, h3, ⟨⟨r, u, ho, hu, wb_P hP2 isB hB, hK1, hD2.sub isB hnb hB⟩, hz, fun q a b => hst q a (fun z => b (hF q z))⟩, L, hFE, fun q hq => hF _ (hL q hq)⟩
end
section
-- PURE WORDS: what the class's numbers are
abbrev ush (x y : Int32) : Int32 := (x.toUInt32 >>> (y.toUInt32 &&& Int32.toUInt32 31)).toInt32
abbrev lsh (x : Int64) (y : Int32) : Int64 := (x.toUInt64 >>> (y.toInt64.toUInt64 &&& Int64.toUInt64 63)).toInt64
abbrev lsl (x : Int64) (y : Int32) : Int64 := x <<< (y.toInt64 &&& 63)
/-- what stands at a place, or -1 -/
def at_v (f : Nat → Int32) (k : Nat) (x : Int32) : Int32 := if ¬ x < 0 ∧ ¬ nI k ≤ x then f x.toNatClampNeg else -1
theorem at_val {f : Nat → Int32} {k j : Nat} (hj : j < 2 ^ 31) (c1 : ¬ nI j < 0) (c2 : ¬ nI k ≤ nI j) : f j = at_v f k (nI j) := by
  unfold at_v
  rw [if_pos ⟨c1, c2⟩, nI_clamp hj]
/-- THE CHECK: a bit, n bits, k bytes -/
def crS (c : Int32) : Int32 := if c * 2 < 65536 then c * 2 else (c * 2) ^^^ 69665
def crB : Nat → Int32 → Int32
  | 0, c => c
  | n + 1, c => crB n (crS c)
def crc (f : Nat → Int32) : Nat → Int32
  | 0 => 65535
  | i + 1 => crB 8 (crc f i ^^^ (f i * 256))
/-- m numbers g 0 .. written into a ring of 4096 from the place s on -/
def rwr (f : Nat → Int32) (s : Nat) (g : Nat → Int32) : Nat → Nat → Int32
  | 0 => f
  | m + 1 => upd (rwr f s g m) ((s + m) % 4096) (g m)
/-- a packet's bytes with the mark at its first -/
def mkd (p : Nat → Int32) (i : Nat) : Int32 := if i = 0 then 256 ||| p 0 else p i
/-- an empty packet of L bytes, marked -/
def emp (L : Nat) (i : Nat) : Int32 := if i = 0 then 263 else if i = 1 then 255 else if i = 2 then 192 else if i = 3 then 0 else if i = 4 then ush (nI (L - 6) - 1) 8 &&& 255 else if i = 5 then (nI (L - 6) - 1) &&& 255 else 85
/-- the first marked one among the next n, from the i-th on -/
def fbS (f : Nat → Int32) (hd : Nat) : Nat → Nat → Int32
  | 0, _ => 2047
  | n + 1, i => if f ((hd + i) % 4096) &&& 256 = 0 then fbS f hd n (i + 1) else nI i
theorem m12 (h k : Nat) (hh : h + k < 2 ^ 32) : (nI h + nI k) &&& 4095 = nI ((h + k) % 4096) := by
  rw [nI_add]; exact pk_andN hh 12 (by decide)
theorem m12' (h : Nat) (hh : h < 4096) : nI h &&& 4095 = nI h := by
  rw [pk_andN (by omega) 12 (by decide), Nat.mod_eq_of_lt (by omega)]
theorem emp_85 (L i : Nat) (h : 6 ≤ i) : emp L i = 85 := by
  unfold emp
  rw [if_neg (by omega), if_neg (by omega), if_neg (by omega), if_neg (by omega), if_neg (by omega), if_neg (by omega)]
theorem mx_nat {a b : Nat} (ha : a < 2 ^ 31) (hb : b < 2 ^ 31) : (if nI a < nI b then nI b else nI a) = nI (max a b) := by
  by_cases h : a < b
  · rw [if_pos (nI_lt h hb), Nat.max_eq_right (by omega)]
  · rw [if_neg (nI_nlt (by omega) ha), Nat.max_eq_left (by omega)]
/-- m numbers written from the place s on -/
def lwr (f : Nat → Int32) (s : Nat) (g : Nat → Int32) : Nat → Nat → Int32
  | 0 => f
  | m + 1 => upd (lwr f s g m) (s + m) (g m)
/-- filling up to a: how many wait then, and the ring -/
def filK (k a : Nat) : Nat := if k < a then k + max (a - k) 7 else k
def filF (f : Nat → Int32) (hd k a : Nat) : Nat → Int32 := if k < a then rwr f (hd + k) (emp (max (a - k) 7)) (max (a - k) 7) else f
theorem filK_ge (k a : Nat) : a ≤ filK k a := by unfold filK; split <;> omega
theorem filK_le (k a : Nat) (hk : k ≤ 4096) (ha : a ≤ 4000) : filK k a ≤ 4096 := by unfold filK; split <;> omega
/-- is the tape a packet -/
def hpk (g : Nat → Int32) (bk : Nat) : Int32 := if bk < 7 then 0 else if nI bk = 6 + (((g 4 * 256) + g 5) + 1) then 1 else 0
/-- LENGTH -/
def clI (x : Int32) : Int32 := if 64 < (if x < 256 then x else 256) then (if x < 256 then x else 256) else 64
def clN (x : Int32) : Nat := (clI x).toNatClampNeg
theorem clI_nat (x : Int32) : clI x = nI (clN x) ∧ 64 ≤ clN x ∧ clN x ≤ 256 := by
  have h : ∃ j : Nat, 64 ≤ j ∧ j ≤ 256 ∧ clI x = nI j := by
    unfold clI
    by_cases h1 : x < 256
    · rw [if_pos h1]
      by_cases h2 : 64 < x
      · rw [if_pos h2]
        have a1 : x.toInt < 256 := Int32.lt_iff_toInt_lt.mp h1
        have a2 : 64 < x.toInt := Int32.lt_iff_toInt_lt.mp h2
        obtain ⟨j, hj, rfl⟩ := nI_of (x := x) (fun q => by have a3 := Int32.lt_iff_toInt_lt.mp q; have a4 : (0 : Int32).toInt = 0 := rfl; omega)
        rw [nI_toInt hj] at a1 a2
        exact ⟨j, by omega, by omega, rfl⟩
      · rw [if_neg h2]
        exact ⟨64, by decide, by decide, rfl⟩
    · rw [if_neg h1, if_pos (by decide)]
      exact ⟨256, by decide, by decide, rfl⟩
  obtain ⟨j, h1, h2, h3⟩ := h
  have e : clN x = j := by unfold clN; rw [h3]; exact nI_clamp (by omega)
  rw [e]
  exact ⟨h3, h1, h2⟩
/-- the i-th of the highest bytes of w -/
def gvb (w : Int64) (i : Nat) : Int32 := (lsh w (56 - (8 * nI i))).toInt32 &&& 255
/-- the first two bytes as a number -/
def hdw (c : Int32) : Int32 := (5536 ||| (c <<< ((1 : Int32) &&& 31))) ||| 1
/-- a frame's bytes: the first six; the field; the word; the check -/
def frA (vf nf : Nat → Int32) (c : Int32) (kd : Nat) (fst : Int32) : Nat → Int32 :=
  upd (upd (upd (upd (upd (upd vf 0 (ush (hdw c) 8 &&& 255)) 1 ((hdw c) &&& 255)) 2 (nf 0 &&& 255)) 3 (nf kd &&& 255)) 4 (ush (6144 ||| fst) 8 &&& 255)) 5 ((6144 ||| fst) &&& 255)
def frW (vf : Nat → Int32) (a : Nat) (word : Int32) : Nat → Int32 :=
  upd (upd (upd (upd vf (6 + a) (ush (ush word 16) 8 &&& 255)) (6 + a + 1) ((ush word 16) &&& 255)) (6 + a + 2) (ush word 8 &&& 255)) (6 + a + 2 + 1) (word &&& 255)
def frC (vf : Nat → Int32) (a : Nat) : Nat → Int32 :=
  upd (upd vf (6 + a + 4) (ush (crc vf (6 + a + 4)) 8 &&& 255)) (6 + a + 4 + 1) ((crc vf (6 + a + 4)) &&& 255)
def frL (vf nf : Nat → Int32) (c : Int32) (kd : Nat) (fst : Int32) (g : Nat → Int32) (a : Nat) (word : Int32) : Nat → Int32 := frC (frW (lwr (frA vf nf c kd fst) 6 g a) a word) a
def cnt2 (nf : Nat → Int32) (kd : Nat) : Nat → Int32 := upd (upd nf 0 (nf 0 + 1)) kd ((upd nf 0 (nf 0 + 1)) kd + 1)
/-- the field's bytes out of a ring -/
def gfl (F : Nat → Int32) (hd : Nat) (i : Nat) : Int32 := (F ((hd + i) % 4096) &&& 255) &&& 255
theorem lwr_in {f g : Nat → Int32} {s i : Nat} : ∀ {m : Nat}, i < m → lwr f s g m (s + i) = g i
  | 0, h => absurd h (Nat.not_lt_zero _)
  | m + 1, h => by
    show upd (lwr f s g m) (s + m) (g m) (s + i) = g i
    by_cases e : i = m
    · subst e; exact pk_us
    · rw [pk_un (by omega)]; exact lwr_in (by omega)
theorem lwr_out {f g : Nat → Int32} {s j : Nat} : ∀ {m : Nat}, j < s ∨ s + m ≤ j → lwr f s g m j = f j
  | 0, _ => rfl
  | m + 1, h => by
    show upd (lwr f s g m) (s + m) (g m) j = f j
    rw [pk_un (by omega)]; exact lwr_out (by omega)
theorem rwr_in {f g : Nat → Int32} {s i : Nat} : ∀ {m : Nat}, i < m → m ≤ 4096 → rwr f s g m ((s + i) % 4096) = g i
  | 0, h, _ => absurd h (Nat.not_lt_zero _)
  | m + 1, h, hm => by
    show upd (rwr f s g m) ((s + m) % 4096) (g m) ((s + i) % 4096) = g i
    by_cases e : i = m
    · subst e; exact pk_us
    · rw [pk_un (by omega)]; exact rwr_in (by omega) (by omega)
theorem rwr_out {f g : Nat → Int32} {s p : Nat} : ∀ {m : Nat}, (∀ i, i < m → (s + i) % 4096 ≠ p) → rwr f s g m p = f p
  | 0, _ => rfl
  | m + 1, h => by
    show upd (rwr f s g m) ((s + m) % 4096) (g m) p = f p
    rw [pk_un (fun q => h m (by omega) q.symm)]; exact rwr_out (fun i hi => h i (by omega))
theorem rq_lo {f g : Nat → Int32} {hd k m i : Nat} (hi : i < k) (hm : k + m ≤ 4096) : rwr f (hd + k) g m ((hd + i) % 4096) = f ((hd + i) % 4096) := rwr_out (fun j hj => by omega)
theorem rq_hi {f g : Nat → Int32} {hd k m i : Nat} (hi : i < m) (hm : m ≤ 4096) : rwr f (hd + k) g m ((hd + (k + i)) % 4096) = g i := by
  rw [← Nat.add_assoc]; exact rwr_in hi hm
end
section
set_option maxHeartbeats 4000000 in
set_option maxRecDepth 100000 in
/-- Bytes(room) -/
theorem c_by_init (l : Launch) (D : va_G) (cA : ClassId) (h n N : Nat) (hn : n < 2 ^ 27) (hN : n ≤ N) : MV (S := Nat) l yX0_init wsX0_init { frames := 1, cells := 1, slots := N, locals := 12 } [.ref h, .int (nI n)] D [(cA, .int)] [(h, .inr (0, [.null, .int 0]))] (fun _ => True) (fun r => [(h, .inr (0, [.ref r, .int (nI 0)])), (r, .inl (cA, n, .inl (fun _ => 0)))]) 1 N := by
  refine mt_v (by decide) rfl (Nat.le_of_ble_eq_true rfl) ?_
  intro p e s m below meth c A ls Q hx hb hts hown hml hin hN hK hA hP hD hS hl hex
  have hown : s.vm.findClass RX0 = some m.cls := hown
  have hl : lv_has ls 2 [(0, .ref h), (1, .int (nI n))] := hl
  have iX0 : ∀ w ∈ wsX00, w ∈ wsX0_init := by decide +kernel
  have la := hts (.arrayClass .int) (by decide +kernel)
  have lk15 := hts (.fieldLink RX0 15 "DownFrames$Bytes" "size" "I") (by decide +kernel)
  have lk9 := hts (.fieldLink RX0 9 "DownFrames$Bytes" "row" "[I") (by decide +kernel)
  have lo1 := hts (.methodLink RX0 3 objectInit) (by decide +kernel)
  have lo2 := hts (.instanceMethod objectInit) (by decide +kernel)
  have lo3 : (Cond.code objectInit ⟨#[0xb1]⟩ 1 none).before _ s = true := hts _ (List.mem_of_getElem? (i := 3) rfl)
  refine lv_aload_n hx hb dX0_init_0 rfl (lv_at hl 0 rfl) ?_
  refine W.objInit hx hb hown lo1 lo2 lo3 rfl (by rw [hml]; exact hl.1) rfl dX0_init_1 (Nat.le_of_ble_eq_true rfl) (Nat.le_of_ble_eq_true rfl) ?_
  refine W.eq (g2 := F0 m 4 ls []) rfl ?_
  refine lv_aload_n hx hb dX0_init_4 rfl (lv_at hl 0 rfl) ?_
  refine lv_iload_n hx hb dX0_init_5 rfl (lv_at hl 1 rfl) ?_
  refine nw_i (n := n) hx hb la hK 0 rfl hP hD hS hA (by omega) (Nat.le_of_ble_eq_true rfl) (by show 0 + n ≤ N; omega) dX0_init_6 (fun r H hP hD hS => ?_)
  have hP : va_P D vwCl [(h, .inr (0, [.null, .int 0])), (r, .inl (cA, n, .inl (fun _ => 0)))] H := hP
  have hD : va_D A [(h, .inr (0, [.null, .int 0])), (r, .inl (cA, n, .inl (fun _ => 0)))] := hD
  refine va_putF (D := D) (ci := 0) (v := .ref r) (ty := (.array .int)) hx hb hts iX0 tyX0 tyX0_ok nmX0 hown hK hP hD hS 0 rfl rfl 0 (by decide) lk9 (fun _ h => h) rfl hin rfl (by decide +kernel) rfl rfl (Nat.le_of_ble_eq_true rfl) dX0_init_8 (fun H locs hP hD hS => ?_)
  have hP : va_P D vwCl [(h, .inr (0, [.ref r, .int 0])), (r, .inl (cA, n, .inl (fun _ => 0)))] H := hP
  have hD : va_D A [(h, .inr (0, [.ref r, .int 0])), (r, .inl (cA, n, .inl (fun _ => 0)))] := hD
  refine lv_aload_n hx hb dX0_init_11 rfl (lv_at hl 0 rfl) ?_
  refine lv_iconst (v := 0) hx hb dX0_init_12 (by decide) ?_
  refine va_put (D := D) (ci := 0) (v := .int 0) (ty := (.int)) hx hb hts iX0 tyX0 tyX0_ok nmX0 hown hK hP hD hS 0 rfl rfl 1 (by decide) lk15 (fun _ h => h) rfl (by decide +kernel) rfl rfl (Nat.le_of_ble_eq_true rfl) dX0_init_13 (fun H locs hP hD hS => ?_)
  have hP : va_P D vwCl [(h, .inr (0, [.ref r, .int 0])), (r, .inl (cA, n, .inl (fun _ => 0)))] H := hP
  have hD : va_D A [(h, .inr (0, [.ref r, .int 0])), (r, .inl (cA, n, .inl (fun _ => 0)))] := hD
  have hP : va_P D vwCl [(h, .inr (0, [.ref r, .int (nI 0)])), (r, .inl (cA, n, .inl (fun _ => 0)))] H := hP
  have hD : va_D A [(h, .inr (0, [.ref r, .int (nI 0)])), (r, .inl (cA, n, .inl (fun _ => 0)))] := hD
  refine W.widen (k := 1) (n := N) (by omega) (by omega) ?_
  exact hex _ _ _ _ r hS (trivial) hP hD dX0_init_16

set_option maxHeartbeats 4000000 in
set_option maxRecDepth 100000 in
/-- room() -/
theorem c_by_room (l : Launch) (D : va_G) (cA : ClassId) (h r n : Nat) (f : Nat → Int32) (k : Nat) (hk : k ≤ n) : MI0 l yX0_room wsX0_room { frames := 0, cells := 0, slots := 0, locals := 0 } [.ref h] D [(cA, .int)] [(h, .inr (0, [.ref r, .int (nI k)])), (r, .inl (cA, n, .inl f))] (nI (n - k)) [(h, .inr (0, [.ref r, .int (nI k)])), (r, .inl (cA, n, .inl f))] := by
  refine mt_i (by decide) rfl (Nat.le_of_ble_eq_true rfl) ?_
  intro p e s m below meth c A ls Q hx hb hts hown hml hin hN hK hA hP hD hS hl hex
  have hown : s.vm.findClass RX0 = some m.cls := hown
  have hl : lv_has ls 1 [(0, .ref h)] := hl
  have iX0 : ∀ w ∈ wsX00, w ∈ wsX0_room := by decide +kernel
  have lk15 := hts (.fieldLink RX0 15 "DownFrames$Bytes" "size" "I") (by decide +kernel)
  have lk9 := hts (.fieldLink RX0 9 "DownFrames$Bytes" "row" "[I") (by decide +kernel)
  refine lv_aload_n hx hb dX0_room_0 rfl (lv_at hl 0 rfl) ?_
  refine va_get (D := D) (ci := 0) (v := .ref r) hx hb hts iX0 hown hK hP 0 rfl rfl 0 (by decide) lk9 (fun _ h => h) rfl dX0_room_1 ?_
  refine va_alen hx hb hK hP 1 0 rfl rfl (v := nI n) rfl dX0_room_4 ?_
  refine lv_aload_n hx hb dX0_room_5 rfl (lv_at hl 0 rfl) ?_
  refine va_get (D := D) (ci := 0) (v := .int (nI k)) hx hb hts iX0 hown hK hP 0 rfl rfl 1 (by decide) lk15 (fun _ h => h) rfl dX0_room_6 ?_
  refine lv_isub hx hb dX0_room_9 ?_
  refine tp_i (y := nI (n - k)) (pk_sub hk) ?_
  exact hex _ _ _ _ _ () hS (rfl) hP hD dX0_room_10

set_option maxHeartbeats 4000000 in
set_option maxRecDepth 100000 in
/-- clear() -/
theorem c_by_clear (l : Launch) (D : va_G) (cA : ClassId) (h r n : Nat) (f : Nat → Int32) (k : Nat) : MV0 l yX0_clear wsX0_clear { frames := 0, cells := 0, slots := 0, locals := 0 } [.ref h] D [(cA, .int)] [(h, .inr (0, [.ref r, .int (nI k)])), (r, .inl (cA, n, .inl f))] [(h, .inr (0, [.ref r, .int (nI 0)])), (r, .inl (cA, n, .inl f))] := by
  refine mt_v (by decide) rfl (Nat.le_of_ble_eq_true rfl) ?_
  intro p e s m below meth c A ls Q hx hb hts hown hml hin hN hK hA hP hD hS hl hex
  have hown : s.vm.findClass RX0 = some m.cls := hown
  have hl : lv_has ls 1 [(0, .ref h)] := hl
  have iX0 : ∀ w ∈ wsX00, w ∈ wsX0_clear := by decide +kernel
  have lk15 := hts (.fieldLink RX0 15 "DownFrames$Bytes" "size" "I") (by decide +kernel)
  refine lv_aload_n hx hb dX0_clear_0 rfl (lv_at hl 0 rfl) ?_
  refine lv_iconst (v := 0) hx hb dX0_clear_1 (by decide) ?_
  refine va_put (D := D) (ci := 0) (v := .int 0) (ty := (.int)) hx hb hts iX0 tyX0 tyX0_ok nmX0 hown hK hP hD hS 0 rfl rfl 1 (by decide) lk15 (fun _ h => h) rfl (by decide +kernel) rfl rfl (Nat.le_of_ble_eq_true rfl) dX0_clear_2 (fun H locs hP hD hS => ?_)
  have hP : va_P D vwCl [(h, .inr (0, [.ref r, .int 0])), (r, .inl (cA, n, .inl f))] H := hP
  have hD : va_D A [(h, .inr (0, [.ref r, .int 0])), (r, .inl (cA, n, .inl f))] := hD
  have hP : va_P D vwCl [(h, .inr (0, [.ref r, .int (nI 0)])), (r, .inl (cA, n, .inl f))] H := hP
  have hD : va_D A [(h, .inr (0, [.ref r, .int (nI 0)])), (r, .inl (cA, n, .inl f))] := hD
  exact hex _ _ _ _ () hS (trivial) hP hD dX0_clear_5

set_option maxHeartbeats 4000000 in
set_option maxRecDepth 100000 in
/-- put8(x) -/
theorem c_by_put8 (l : Launch) (D : va_G) (cA : ClassId) (h r n : Nat) (f : Nat → Int32) (k : Nat) (x : Int32) (hk : k < n) (hn : n < 2 ^ 31) : MV0 l yX0_put8 wsX0_put8 { frames := 0, cells := 0, slots := 0, locals := 0 } [.ref h, .int x] D [(cA, .int)] [(h, .inr (0, [.ref r, .int (nI k)])), (r, .inl (cA, n, .inl f))] [(h, .inr (0, [.ref r, .int (nI (k + 1))])), (r, .inl (cA, n, .inl (upd f k (x &&& 255))))] := by
  refine mt_v (by decide) rfl (Nat.le_of_ble_eq_true rfl) ?_
  intro p e s m below meth c A ls Q hx hb hts hown hml hin hN hK hA hP hD hS hl hex
  have hown : s.vm.findClass RX0 = some m.cls := hown
  have hl : lv_has ls 2 [(0, .ref h), (1, .int x)] := hl
  have iX0 : ∀ w ∈ wsX00, w ∈ wsX0_put8 := by decide +kernel
  have lk15 := hts (.fieldLink RX0 15 "DownFrames$Bytes" "size" "I") (by decide +kernel)
  have lk9 := hts (.fieldLink RX0 9 "DownFrames$Bytes" "row" "[I") (by decide +kernel)
  refine lv_aload_n hx hb dX0_put8_0 rfl (lv_at hl 0 rfl) ?_
  refine va_get (D := D) (ci := 0) (v := .int (nI k)) hx hb hts iX0 hown hK hP 0 rfl rfl 1 (by decide) lk15 (fun _ h => h) rfl dX0_put8_1 ?_
  refine lv_aload_n hx hb dX0_put8_4 rfl (lv_at hl 0 rfl) ?_
  refine va_get (D := D) (ci := 0) (v := .ref r) hx hb hts iX0 hown hK hP 0 rfl rfl 0 (by decide) lk9 (fun _ h => h) rfl dX0_put8_5 ?_
  refine va_alen hx hb hK hP 1 0 rfl rfl (v := nI n) rfl dX0_put8_8 ?_
  refine lv_icmp_ge (tgt := 36) hx hb dX0_put8_9 (by decide) (fun cc => absurd cc (nI_ge hk hn)) (fun _ => ?_)
  refine lv_aload_n hx hb dX0_put8_12 rfl (lv_at hl 0 rfl) ?_
  refine va_get (D := D) (ci := 0) (v := .ref r) hx hb hts iX0 hown hK hP 0 rfl rfl 0 (by decide) lk9 (fun _ h => h) rfl dX0_put8_13 ?_
  refine lv_aload_n hx hb dX0_put8_16 rfl (lv_at hl 0 rfl) ?_
  refine va_get (D := D) (ci := 0) (v := .int (nI k)) hx hb hts iX0 hown hK hP 0 rfl rfl 1 (by decide) lk15 (fun _ h => h) rfl dX0_put8_17 ?_
  refine lv_iload_n hx hb dX0_put8_20 rfl (lv_at hl 1 rfl) ?_
  refine lv_sipush (v := 255) hx hb dX0_put8_21 (by decide +kernel) ?_
  refine lv_iand hx hb dX0_put8_24 ?_
  refine as_i (k := k) (x := (x &&& 255)) hx hb hK hP hD hS 1 0 rfl rfl (hk) (hn) dX0_put8_25 (fun H locs hP hD hS => ?_)
  have hP : va_P D vwCl [(h, .inr (0, [.ref r, .int (nI k)])), (r, .inl (cA, n, .inl (upd f k (x &&& 255))))] H := hP
  have hD : va_D A [(h, .inr (0, [.ref r, .int (nI k)])), (r, .inl (cA, n, .inl (upd f k (x &&& 255))))] := hD
  refine lv_aload_n hx hb dX0_put8_26 rfl (lv_at hl 0 rfl) ?_
  refine lv_dup hx hb dX0_put8_27 rfl ?_
  refine va_get (D := D) (ci := 0) (v := .int (nI k)) hx hb hts iX0 hown hK hP 0 rfl rfl 1 (by decide) lk15 (fun _ h => h) rfl dX0_put8_28 ?_
  refine lv_iconst (v := 1) hx hb dX0_put8_31 (by decide) ?_
  refine lv_iadd hx hb dX0_put8_32 ?_
  refine tp_i (y := nI (k + 1)) (nI_1 k) ?_
  refine va_put (D := D) (ci := 0) (v := .int (nI (k + 1))) (ty := (.int)) hx hb hts iX0 tyX0 tyX0_ok nmX0 hown hK hP hD hS 0 rfl rfl 1 (by decide) lk15 (fun _ h => h) rfl (by decide +kernel) rfl rfl (Nat.le_of_ble_eq_true rfl) dX0_put8_33 (fun H locs hP hD hS => ?_)
  have hP : va_P D vwCl [(h, .inr (0, [.ref r, .int (nI (k + 1))])), (r, .inl (cA, n, .inl (upd f k (x &&& 255))))] H := hP
  have hD : va_D A [(h, .inr (0, [.ref r, .int (nI (k + 1))])), (r, .inl (cA, n, .inl (upd f k (x &&& 255))))] := hD
  exact hex _ _ _ _ () hS (trivial) hP hD dX0_put8_36

set_option maxHeartbeats 4000000 in
set_option maxRecDepth 100000 in
/-- put16(x) -/
theorem c_by_put16 (l : Launch) (D : va_G) (cA : ClassId) (h r n : Nat) (f : Nat → Int32) (k : Nat) (x : Int32) (hk : k + 1 < n) (hn : n < 2 ^ 31) : MV0 l yX0_put16 wsX0_put16 { frames := 1, cells := 0, slots := 0, locals := 21 } [.ref h, .int x] D [(cA, .int)] [(h, .inr (0, [.ref r, .int (nI k)])), (r, .inl (cA, n, .inl f))] [(h, .inr (0, [.ref r, .int (nI (k + 2))])), (r, .inl (cA, n, .inl (upd (upd f k (ush x 8 &&& 255)) (k + 1) (x &&& 255))))] := by
  refine mt_v (by decide) rfl (Nat.le_of_ble_eq_true rfl) ?_
  intro p e s m below meth c A ls Q hx hb hts hown hml hin hN hK hA hP hD hS hl hex
  have hown : s.vm.findClass RX0 = some m.cls := hown
  have hl : lv_has ls 2 [(0, .ref h), (1, .int x)] := hl
  refine lv_aload_n hx hb dX0_put16_0 rfl (lv_at hl 0 rfl) ?_
  refine lv_iload_n hx hb dX0_put16_1 rfl (lv_at hl 1 rfl) ?_
  refine lv_bipush (v := 8) hx hb dX0_put16_2 (by decide +kernel) ?_
  refine lv_iushr (v := ush x 8) hx hb dX0_put16_4 rfl ?_
  refine cl0_vv ⟨hx, hb, hml, hown, hts⟩ (c_by_put8 l D cA h r n f k (ush x 8) (by omega) hn) (cwV 1 hts gX0_put16_X0_put8 rfl rfl rfl (by decide +kernel) ⟨Nat.le_of_ble_eq_true rfl, Nat.le_of_ble_eq_true rfl⟩) (ci := 0) (q0 := 0) rfl rfl hN hK hP hD hS hA [0, 1] [] [0, 1] [] [(h, .inr (0, [.ref r, .int (nI (k + 1))])), (r, .inl (cA, n, .inl (upd f k (ush x 8 &&& 255))))] [] rfl rfl rfl rfl (by decide) rfl rfl rfl hl.1 rfl (Nat.le_of_ble_eq_true rfl) dX0_put16_5 ⟨Nat.le_of_ble_eq_true rfl, Nat.le_of_ble_eq_true rfl⟩ (fun H locs hP hD hS => ?_)
  refine lv_aload_n hx hb dX0_put16_8 rfl (lv_at hl 0 rfl) ?_
  refine lv_iload_n hx hb dX0_put16_9 rfl (lv_at hl 1 rfl) ?_
  refine cl0_vv ⟨hx, hb, hml, hown, hts⟩ (c_by_put8 l D cA h r n (upd f k (ush x 8 &&& 255)) (k + 1) x hk hn) (cwV 1 hts gX0_put16_X0_put8 rfl rfl rfl (by decide +kernel) ⟨Nat.le_of_ble_eq_true rfl, Nat.le_of_ble_eq_true rfl⟩) (ci := 0) (q0 := 0) rfl rfl hN hK hP hD hS hA [0, 1] [] [0, 1] [] [(h, .inr (0, [.ref r, .int (nI (k + 2))])), (r, .inl (cA, n, .inl (upd (upd f k (ush x 8 &&& 255)) (k + 1) (x &&& 255))))] [] rfl rfl rfl rfl (by decide) rfl rfl rfl hl.1 rfl (Nat.le_of_ble_eq_true rfl) dX0_put16_10 ⟨Nat.le_of_ble_eq_true rfl, Nat.le_of_ble_eq_true rfl⟩ (fun H locs hP hD hS => ?_)
  exact hex _ _ _ _ () hS (trivial) hP hD dX0_put16_13

set_option maxHeartbeats 4000000 in
set_option maxRecDepth 100000 in
/-- at(x) -/
theorem c_by_at (l : Launch) (D : va_G) (cA : ClassId) (h r n : Nat) (f : Nat → Int32) (k : Nat) (x : Int32) (hk : k ≤ n) (hn : n < 2 ^ 31) : MI0 l yX0_at wsX0_at { frames := 0, cells := 0, slots := 0, locals := 0 } [.ref h, .int x] D [(cA, .int)] [(h, .inr (0, [.ref r, .int (nI k)])), (r, .inl (cA, n, .inl f))] (at_v f k x) [(h, .inr (0, [.ref r, .int (nI k)])), (r, .inl (cA, n, .inl f))] := by
  refine mt_i (by decide) rfl (Nat.le_of_ble_eq_true rfl) ?_
  intro p e s m below meth c A ls Q hx hb hts hown hml hin hN hK hA hP hD hS hl hex
  have hown : s.vm.findClass RX0 = some m.cls := hown
  have hl : lv_has ls 2 [(0, .ref h), (1, .int x)] := hl
  have iX0 : ∀ w ∈ wsX00, w ∈ wsX0_at := by decide +kernel
  have lk15 := hts (.fieldLink RX0 15 "DownFrames$Bytes" "size" "I") (by decide +kernel)
  have lk9 := hts (.fieldLink RX0 9 "DownFrames$Bytes" "row" "[I") (by decide +kernel)
  refine lv_iload_n hx hb dX0_at_0 rfl (lv_at hl 1 rfl) ?_
  refine lv_if_lt (tgt := 21) hx hb dX0_at_1 (by decide) (fun c1 => ?_) (fun c1 => ?_)
  · refine lv_iconst (v := (-1)) hx hb dX0_at_21 (by decide) ?_
    exact hex _ _ _ _ _ () hS ((if_neg (fun q => q.1 c1)).symm) hP hD dX0_at_22
  · refine lv_iload_n hx hb dX0_at_4 rfl (lv_at hl 1 rfl) ?_
    refine lv_aload_n hx hb dX0_at_5 rfl (lv_at hl 0 rfl) ?_
    refine va_get (D := D) (ci := 0) (v := .int (nI k)) hx hb hts iX0 hown hK hP 0 rfl rfl 1 (by decide) lk15 (fun _ h => h) rfl dX0_at_6 ?_
    refine lv_icmp_ge (tgt := 21) hx hb dX0_at_9 (by decide) (fun c2 => ?_) (fun c2 => ?_)
    · refine lv_iconst (v := (-1)) hx hb dX0_at_21 (by decide) ?_
      exact hex _ _ _ _ _ () hS ((if_neg (fun q => q.2 c2)).symm) hP hD dX0_at_22
    · obtain ⟨j, hj, rfl⟩ := nI_of c1
      have hjk : j < k := Nat.not_le.mp (fun q => c2 (nI_le q hj))
      refine lv_aload_n hx hb dX0_at_12 rfl (lv_at hl 0 rfl) ?_
      refine va_get (D := D) (ci := 0) (v := .ref r) hx hb hts iX0 hown hK hP 0 rfl rfl 0 (by decide) lk9 (fun _ h => h) rfl dX0_at_13 ?_
      refine lv_iload_n hx hb dX0_at_16 rfl (lv_at hl 1 rfl) ?_
      refine al_i (k := j) hx hb hK hP 1 0 rfl rfl (by omega) (hn) dX0_at_17 ?_
      refine lv_goto (tgt := 22) hx hb dX0_at_18 (by decide) ?_
      exact hex _ _ _ _ _ () hS (at_val hj c1 c2) hP hD dX0_at_22

set_option maxHeartbeats 4000000 in
set_option maxRecDepth 100000 in
/-- check() -/
theorem c_by_check (l : Launch) (D : va_G) (cA : ClassId) (h r n : Nat) (f : Nat → Int32) (k : Nat) (hk : k ≤ n) (hn : n < 2 ^ 31) : MI0 l yX0_check wsX0_check { frames := 0, cells := 0, slots := 0, locals := 0 } [.ref h] D [(cA, .int)] [(h, .inr (0, [.ref r, .int (nI k)])), (r, .inl (cA, n, .inl f))] (crc f k) [(h, .inr (0, [.ref r, .int (nI k)])), (r, .inl (cA, n, .inl f))] := by
  refine mt_i (by decide) rfl (Nat.le_of_ble_eq_true rfl) ?_
  intro p e s m below meth c A ls Q hx hb hts hown hml hin hN hK hA hP hD hS hl hex
  have hown : s.vm.findClass RX0 = some m.cls := hown
  have hl : lv_has ls 4 [(0, .ref h)] := hl
  have iX0 : ∀ w ∈ wsX00, w ∈ wsX0_check := by decide +kernel
  have k23 := hts (.constant RX0 23 65535) (by decide +kernel)
  have k24 := hts (.constant RX0 24 65536) (by decide +kernel)
  have k25 := hts (.constant RX0 25 69665) (by decide +kernel)
  have lk15 := hts (.fieldLink RX0 15 "DownFrames$Bytes" "size" "I") (by decide +kernel)
  have lk9 := hts (.fieldLink RX0 9 "DownFrames$Bytes" "row" "[I") (by decide +kernel)
  refine lv_ldc hx hb hown k23 dX0_check_0 ?_
  refine lv_istore_n (lv' := [(1, .int 65535), (0, .ref h)]) hx hb dX0_check_2 rfl hl (by decide) rfl (fun ls hl => ?_)
  refine lv_iconst (v := 0) hx hb dX0_check_3 (by decide) ?_
  refine lv_istore_n (lv' := [(2, .int 0), (1, .int 65535), (0, .ref h)]) hx hb dX0_check_4 rfl hl (by decide) rfl (fun ls hl => ?_)
  have inner : ∀ (q i : Nat) (x : Int32) (ls : Array Slot), q ≤ 8 → lv_has ls 4 [(3, .int (nI (8 - q))), (1, .int x), (2, .int (nI i)), (0, .ref h)] → (∀ ls : Array Slot, lv_has ls 4 [(1, .int (crB q x)), (2, .int (nI i)), (0, .ref h)] → W p l e ({ frames := 0, cells := 0, slots := 0, locals := 0 } : Room) s m ([.ref h] : List Value).toArray below meth c s.heap [] 0 0 Q (F0 m 55 ls [])) → W p l e ({ frames := 0, cells := 0, slots := 0, locals := 0 } : Room) s m ([.ref h] : List Value).toArray below meth c s.heap [] 0 0 Q (F0 m 28 ls []) := by
    intro q
    induction q with
    | zero =>
      intro i x ls hq hl k
      refine lv_iload_n hx hb dX0_check_28 rfl (lv_at hl 0 rfl) ?_
      refine lv_bipush (v := 8) hx hb dX0_check_29 (by decide +kernel) ?_
      refine lv_icmp_ge (tgt := 55) hx hb dX0_check_31 (by decide) (fun _ => ?_) (fun cc => absurd (by decide) cc)
      exact k ls (lv_sub hl [1, 2, 3] rfl)
    | succ q ih =>
      intro i x ls hq hl k
      refine lv_iload_n hx hb dX0_check_28 rfl (lv_at hl 0 rfl) ?_
      refine lv_bipush (v := 8) hx hb dX0_check_29 (by decide +kernel) ?_
      refine lv_icmp_ge (tgt := 55) hx hb dX0_check_31 (by decide) (fun cc => absurd cc (nI_ge (b := 8) (by omega) (by decide))) (fun _ => ?_)
      refine lv_iload_n hx hb dX0_check_34 rfl (lv_at hl 1 rfl) ?_
      refine lv_iconst (v := 2) hx hb dX0_check_35 (by decide) ?_
      refine lv_imul hx hb dX0_check_36 ?_
      refine lv_istore_n (lv' := [(1, .int (x * 2)), (3, .int (nI (8 - (q + 1)))), (2, .int (nI i)), (0, .ref h)]) hx hb dX0_check_37 rfl hl (by decide) rfl (fun ls hl => ?_)
      refine lv_iload_n hx hb dX0_check_38 rfl (lv_at hl 0 rfl) ?_
      refine lv_ldc hx hb hown k24 dX0_check_39 ?_
      refine lv_icmp_lt (tgt := 49) hx hb dX0_check_41 (by decide) (fun c1 => ?_) (fun c1 => ?_)
      · refine lv_iinc (v := nI (8 - q)) (lv' := [(3, .int (nI (8 - q))), (1, .int (x * 2)), (2, .int (nI i)), (0, .ref h)]) hx hb dX0_check_49 hl (k := 1) rfl (by rw [show 8 - q = 8 - (q + 1) + 1 by omega]; exact nI_1 _) (by decide) rfl (fun ls hl => ?_)
        refine lv_goto (tgt := 28) hx hb dX0_check_52 (by decide) ?_
        have e : crB q (x * 2) = crB (q + 1) x := by simp only [crB, crS]; rw [if_pos c1]
        exact ih i (x * 2) ls (by omega) (lv_sub hl [0, 1, 2, 3] rfl) (fun ls hl => k ls (by rw [← e]; exact hl))
      · refine lv_iload_n hx hb dX0_check_44 rfl (lv_at hl 0 rfl) ?_
        refine lv_ldc hx hb hown k25 dX0_check_45 ?_
        refine lv_ixor hx hb dX0_check_47 ?_
        refine lv_istore_n (lv' := [(1, .int ((x * 2) ^^^ 69665)), (3, .int (nI (8 - (q + 1)))), (2, .int (nI i)), (0, .ref h)]) hx hb dX0_check_48 rfl hl (by decide) rfl (fun ls hl => ?_)
        refine lv_iinc (v := nI (8 - q)) (lv' := [(3, .int (nI (8 - q))), (1, .int ((x * 2) ^^^ 69665)), (2, .int (nI i)), (0, .ref h)]) hx hb dX0_check_49 hl (k := 1) rfl (by rw [show 8 - q = 8 - (q + 1) + 1 by omega]; exact nI_1 _) (by decide) rfl (fun ls hl => ?_)
        refine lv_goto (tgt := 28) hx hb dX0_check_52 (by decide) ?_
        have e : crB q ((x * 2) ^^^ 69665) = crB (q + 1) x := by simp only [crB, crS]; rw [if_neg c1]
        exact ih i ((x * 2) ^^^ 69665) ls (by omega) (lv_sub hl [0, 1, 2, 3] rfl) (fun ls hl => k ls (by rw [← e]; exact hl))
  have outer : ∀ (d i : Nat) (ls : Array Slot), i + d = k → lv_has ls 4 [(2, .int (nI i)), (1, .int (crc f i)), (0, .ref h)] → W p l e ({ frames := 0, cells := 0, slots := 0, locals := 0 } : Room) s m ([.ref h] : List Value).toArray below meth c s.heap [] 0 0 Q (F0 m 5 ls []) := by
    intro d
    induction d with
    | zero =>
      intro i ls hi hl
      have hi : i = k := hi
      subst hi
      refine lv_iload_n hx hb dX0_check_5 rfl (lv_at hl 0 rfl) ?_
      refine lv_aload_n hx hb dX0_check_6 rfl (lv_at hl 2 rfl) ?_
      refine va_get (D := D) (ci := 0) (v := .int (nI i)) hx hb hts iX0 hown hK hP 0 rfl rfl 1 (by decide) lk15 (fun _ h => h) rfl dX0_check_7 ?_
      refine lv_icmp_ge (tgt := 61) hx hb dX0_check_10 (by decide) (fun _ => ?_) (fun cc => absurd (nI_le (Nat.le_refl _) (by omega)) cc)
      refine lv_iload_n hx hb dX0_check_61 rfl (lv_at hl 1 rfl) ?_
      exact hex _ _ _ _ _ () hS (rfl) hP hD dX0_check_62
    | succ d ih =>
      intro i ls hi hl
      refine lv_iload_n hx hb dX0_check_5 rfl (lv_at hl 0 rfl) ?_
      refine lv_aload_n hx hb dX0_check_6 rfl (lv_at hl 2 rfl) ?_
      refine va_get (D := D) (ci := 0) (v := .int (nI k)) hx hb hts iX0 hown hK hP 0 rfl rfl 1 (by decide) lk15 (fun _ h => h) rfl dX0_check_7 ?_
      refine lv_icmp_ge (tgt := 61) hx hb dX0_check_10 (by decide) (fun cc => absurd cc (nI_ge (by omega) (by omega))) (fun _ => ?_)
      refine lv_iload_n hx hb dX0_check_13 rfl (lv_at hl 1 rfl) ?_
      refine lv_aload_n hx hb dX0_check_14 rfl (lv_at hl 2 rfl) ?_
      refine va_get (D := D) (ci := 0) (v := .ref r) hx hb hts iX0 hown hK hP 0 rfl rfl 0 (by decide) lk9 (fun _ h => h) rfl dX0_check_15 ?_
      refine lv_iload_n hx hb dX0_check_18 rfl (lv_at hl 0 rfl) ?_
      refine al_i (k := i) hx hb hK hP 1 0 rfl rfl (by omega) (hn) dX0_check_19 ?_
      refine lv_sipush (v := 256) hx hb dX0_check_20 (by decide +kernel) ?_
      refine lv_imul hx hb dX0_check_23 ?_
      refine lv_ixor hx hb dX0_check_24 ?_
      refine lv_istore_n (lv' := [(1, .int ((crc f i) ^^^ ((f i) * 256))), (2, .int (nI i)), (0, .ref h)]) hx hb dX0_check_25 rfl hl (by decide) rfl (fun ls hl => ?_)
      refine lv_iconst (v := 0) hx hb dX0_check_26 (by decide) ?_
      refine lv_istore_n (lv' := [(3, .int 0), (1, .int ((crc f i) ^^^ ((f i) * 256))), (2, .int (nI i)), (0, .ref h)]) hx hb dX0_check_27 rfl hl (by decide) rfl (fun ls hl => ?_)
      refine inner 8 i _ ls (by decide) (lv_sub hl [0, 1, 2, 3] rfl) (fun ls hl => ?_)
      refine lv_iinc (v := nI (i + 1)) (lv' := [(2, .int (nI (i + 1))), (1, .int (crc f (i + 1))), (0, .ref h)]) hx hb dX0_check_55 hl (k := 1) rfl (nI_1 _) (by decide) rfl (fun ls hl => ?_)
      refine lv_goto (tgt := 5) hx hb dX0_check_58 (by decide) ?_
      exact ih (i + 1) ls (by omega) (lv_sub hl [0, 1, 2] rfl)
  exact outer k 0 ls (by omega) (lv_sub hl [0, 1, 2] rfl)
end
section
set_option maxHeartbeats 4000000 in
set_option maxRecDepth 100000 in
/-- Channel() -/
theorem c_ch_init (l : Launch) (D : va_G) (cA : ClassId) (h : Nat) : MV (S := Nat) l yX1_init wsX1_init { frames := 1, cells := 1, slots := 4096, locals := 12 } [.ref h] D [(cA, .int)] [(h, .inr (1, [.null, .int 0, .int 0]))] (fun _ => True) (fun r => [(h, .inr (1, [.ref r, .int (nI 0), .int (nI 0)])), (r, .inl (cA, 4096, .inl (fun _ => 0)))]) 1 4096 := by
  refine mt_v (by decide) rfl (Nat.le_of_ble_eq_true rfl) ?_
  intro p e s m below meth c A ls Q hx hb hts hown hml hin hN hK hA hP hD hS hl hex
  have hown : s.vm.findClass RX1 = some m.cls := hown
  have hl : lv_has ls 1 [(0, .ref h)] := hl
  have iX1 : ∀ w ∈ wsX10, w ∈ wsX1_init := by decide +kernel
  have la := hts (.arrayClass .int) (by decide +kernel)
  have lk11 := hts (.fieldLink RX1 11 "DownFrames$Channel" "ring" "[I") (by decide +kernel)
  have lk15 := hts (.fieldLink RX1 15 "DownFrames$Channel" "head" "I") (by decide +kernel)
  have lk19 := hts (.fieldLink RX1 19 "DownFrames$Channel" "size" "I") (by decide +kernel)
  have lo1 := hts (.methodLink RX1 5 objectInit) (by decide +kernel)
  have lo2 := hts (.instanceMethod objectInit) (by decide +kernel)
  have lo3 : (Cond.code objectInit ⟨#[0xb1]⟩ 1 none).before _ s = true := hts _ (List.mem_of_getElem? (i := 3) rfl)
  refine lv_aload_n hx hb dX1_init_0 rfl (lv_at hl 0 rfl) ?_
  refine W.objInit hx hb hown lo1 lo2 lo3 rfl (by rw [hml]; exact hl.1) rfl dX1_init_1 (Nat.le_of_ble_eq_true rfl) (Nat.le_of_ble_eq_true rfl) ?_
  refine W.eq (g2 := F0 m 4 ls []) rfl ?_
  refine lv_aload_n hx hb dX1_init_4 rfl (lv_at hl 0 rfl) ?_
  refine lv_sipush (v := 4096) hx hb dX1_init_5 (by decide +kernel) ?_
  refine nw_i (n := 4096) hx hb la hK 0 rfl hP hD hS hA (by decide) (Nat.le_of_ble_eq_true rfl) (Nat.le_of_ble_eq_true rfl) dX1_init_8 (fun r H hP hD hS => ?_)
  have hP : va_P D vwCl [(h, .inr (1, [.null, .int 0, .int 0])), (r, .inl (cA, 4096, .inl (fun _ => 0)))] H := hP
  have hD : va_D A [(h, .inr (1, [.null, .int 0, .int 0])), (r, .inl (cA, 4096, .inl (fun _ => 0)))] := hD
  refine va_putF (D := D) (ci := 1) (v := .ref r) (ty := (.array .int)) hx hb hts iX1 tyX1 tyX1_ok nmX1 hown hK hP hD hS 0 rfl rfl 0 (by decide) lk11 (fun _ h => h) rfl hin rfl (by decide +kernel) rfl rfl (Nat.le_of_ble_eq_true rfl) dX1_init_10 (fun H locs hP hD hS => ?_)
  have hP : va_P D vwCl [(h, .inr (1, [.ref r, .int 0, .int 0])), (r, .inl (cA, 4096, .inl (fun _ => 0)))] H := hP
  have hD : va_D A [(h, .inr (1, [.ref r, .int 0, .int 0])), (r, .inl (cA, 4096, .inl (fun _ => 0)))] := hD
  refine lv_aload_n hx hb dX1_init_13 rfl (lv_at hl 0 rfl) ?_
  refine lv_iconst (v := 0) hx hb dX1_init_14 (by decide) ?_
  refine va_put (D := D) (ci := 1) (v := .int 0) (ty := (.int)) hx hb hts iX1 tyX1 tyX1_ok nmX1 hown hK hP hD hS 0 rfl rfl 1 (by decide) lk15 (fun _ h => h) rfl (by decide +kernel) rfl rfl (Nat.le_of_ble_eq_true rfl) dX1_init_15 (fun H locs hP hD hS => ?_)
  have hP : va_P D vwCl [(h, .inr (1, [.ref r, .int 0, .int 0])), (r, .inl (cA, 4096, .inl (fun _ => 0)))] H := hP
  have hD : va_D A [(h, .inr (1, [.ref r, .int 0, .int 0])), (r, .inl (cA, 4096, .inl (fun _ => 0)))] := hD
  refine lv_aload_n hx hb dX1_init_18 rfl (lv_at hl 0 rfl) ?_
  refine lv_iconst (v := 0) hx hb dX1_init_19 (by decide) ?_
  refine va_put (D := D) (ci := 1) (v := .int 0) (ty := (.int)) hx hb hts iX1 tyX1 tyX1_ok nmX1 hown hK hP hD hS 0 rfl rfl 2 (by decide) lk19 (fun _ h => h) rfl (by decide +kernel) rfl rfl (Nat.le_of_ble_eq_true rfl) dX1_init_20 (fun H locs hP hD hS => ?_)
  have hP : va_P D vwCl [(h, .inr (1, [.ref r, .int 0, .int 0])), (r, .inl (cA, 4096, .inl (fun _ => 0)))] H := hP
  have hD : va_D A [(h, .inr (1, [.ref r, .int 0, .int 0])), (r, .inl (cA, 4096, .inl (fun _ => 0)))] := hD
  have hP : va_P D vwCl [(h, .inr (1, [.ref r, .int (nI 0), .int (nI 0)])), (r, .inl (cA, 4096, .inl (fun _ => 0)))] H := hP
  have hD : va_D A [(h, .inr (1, [.ref r, .int (nI 0), .int (nI 0)])), (r, .inl (cA, 4096, .inl (fun _ => 0)))] := hD
  refine W.widen (k := 1) (n := 4096) (by omega) (by omega) ?_
  exact hex _ _ _ _ r hS (trivial) hP hD dX1_init_23

set_option maxHeartbeats 4000000 in
set_option maxRecDepth 100000 in
/-- room() -/
theorem c_ch_room (l : Launch) (D : va_G) (cA : ClassId) (h r : Nat) (f : Nat → Int32) (hd k : Nat) (hk : k ≤ 4096) : MI0 l yX1_room wsX1_room { frames := 0, cells := 0, slots := 0, locals := 0 } [.ref h] D [(cA, .int)] [(h, .inr (1, [.ref r, .int (nI hd), .int (nI k)])), (r, .inl (cA, 4096, .inl f))] (nI (4096 - k)) [(h, .inr (1, [.ref r, .int (nI hd), .int (nI k)])), (r, .inl (cA, 4096, .inl f))] := by
  refine mt_i (by decide) rfl (Nat.le_of_ble_eq_true rfl) ?_
  intro p e s m below meth c A ls Q hx hb hts hown hml hin hN hK hA hP hD hS hl hex
  have hown : s.vm.findClass RX1 = some m.cls := hown
  have hl : lv_has ls 1 [(0, .ref h)] := hl
  have iX1 : ∀ w ∈ wsX10, w ∈ wsX1_room := by decide +kernel
  have lk19 := hts (.fieldLink RX1 19 "DownFrames$Channel" "size" "I") (by decide +kernel)
  refine lv_sipush (v := 4096) hx hb dX1_room_0 (by decide +kernel) ?_
  refine lv_aload_n hx hb dX1_room_3 rfl (lv_at hl 0 rfl) ?_
  refine va_get (D := D) (ci := 1) (v := .int (nI k)) hx hb hts iX1 hown hK hP 0 rfl rfl 2 (by decide) lk19 (fun _ h => h) rfl dX1_room_4 ?_
  refine lv_isub hx hb dX1_room_7 ?_
  refine tp_i (y := nI (4096 - k)) (pk_sub (a := 4096) hk) ?_
  exact hex _ _ _ _ _ () hS (rfl) hP hD dX1_room_8

set_option maxHeartbeats 4000000 in
set_option maxRecDepth 100000 in
/-- add(x) -/
theorem c_ch_add (l : Launch) (D : va_G) (cA : ClassId) (h r : Nat) (f : Nat → Int32) (hd k : Nat) (x : Int32) (hh : hd < 4096) (hk : k < 4096) : MV0 l yX1_add wsX1_add { frames := 0, cells := 0, slots := 0, locals := 0 } [.ref h, .int x] D [(cA, .int)] [(h, .inr (1, [.ref r, .int (nI hd), .int (nI k)])), (r, .inl (cA, 4096, .inl f))] [(h, .inr (1, [.ref r, .int (nI hd), .int (nI (k + 1))])), (r, .inl (cA, 4096, .inl (upd f ((hd + k) % 4096) x)))] := by
  refine mt_v (by decide) rfl (Nat.le_of_ble_eq_true rfl) ?_
  intro p e s m below meth c A ls Q hx hb hts hown hml hin hN hK hA hP hD hS hl hex
  have hown : s.vm.findClass RX1 = some m.cls := hown
  have hl : lv_has ls 2 [(0, .ref h), (1, .int x)] := hl
  have iX1 : ∀ w ∈ wsX10, w ∈ wsX1_add := by decide +kernel
  have lk11 := hts (.fieldLink RX1 11 "DownFrames$Channel" "ring" "[I") (by decide +kernel)
  have lk15 := hts (.fieldLink RX1 15 "DownFrames$Channel" "head" "I") (by decide +kernel)
  have lk19 := hts (.fieldLink RX1 19 "DownFrames$Channel" "size" "I") (by decide +kernel)
  refine lv_aload_n hx hb dX1_add_0 rfl (lv_at hl 0 rfl) ?_
  refine va_get (D := D) (ci := 1) (v := .int (nI k)) hx hb hts iX1 hown hK hP 0 rfl rfl 2 (by decide) lk19 (fun _ h => h) rfl dX1_add_1 ?_
  refine lv_sipush (v := 4096) hx hb dX1_add_4 (by decide +kernel) ?_
  refine lv_icmp_ge (tgt := 39) hx hb dX1_add_7 (by decide) (fun cc => absurd cc (nI_ge (b := 4096) hk (by decide))) (fun _ => ?_)
  refine lv_aload_n hx hb dX1_add_10 rfl (lv_at hl 0 rfl) ?_
  refine va_get (D := D) (ci := 1) (v := .ref r) hx hb hts iX1 hown hK hP 0 rfl rfl 0 (by decide) lk11 (fun _ h => h) rfl dX1_add_11 ?_
  refine lv_aload_n hx hb dX1_add_14 rfl (lv_at hl 0 rfl) ?_
  refine va_get (D := D) (ci := 1) (v := .int (nI hd)) hx hb hts iX1 hown hK hP 0 rfl rfl 1 (by decide) lk15 (fun _ h => h) rfl dX1_add_15 ?_
  refine lv_aload_n hx hb dX1_add_18 rfl (lv_at hl 0 rfl) ?_
  refine va_get (D := D) (ci := 1) (v := .int (nI k)) hx hb hts iX1 hown hK hP 0 rfl rfl 2 (by decide) lk19 (fun _ h => h) rfl dX1_add_19 ?_
  refine lv_iadd hx hb dX1_add_22 ?_
  refine lv_sipush (v := 4095) hx hb dX1_add_23 (by decide +kernel) ?_
  refine lv_iand hx hb dX1_add_26 ?_
  refine tp_i (y := nI ((hd + k) % 4096)) (m12 hd k (by omega)) ?_
  refine lv_iload_n hx hb dX1_add_27 rfl (lv_at hl 1 rfl) ?_
  refine as_i (k := ((hd + k) % 4096)) (x := x) hx hb hK hP hD hS 1 0 rfl rfl (Nat.mod_lt _ (by decide)) (by decide) dX1_add_28 (fun H locs hP hD hS => ?_)
  have hP : va_P D vwCl [(h, .inr (1, [.ref r, .int (nI hd), .int (nI k)])), (r, .inl (cA, 4096, .inl (upd f ((hd + k) % 4096) x)))] H := hP
  have hD : va_D A [(h, .inr (1, [.ref r, .int (nI hd), .int (nI k)])), (r, .inl (cA, 4096, .inl (upd f ((hd + k) % 4096) x)))] := hD
  refine lv_aload_n hx hb dX1_add_29 rfl (lv_at hl 0 rfl) ?_
  refine lv_dup hx hb dX1_add_30 rfl ?_
  refine va_get (D := D) (ci := 1) (v := .int (nI k)) hx hb hts iX1 hown hK hP 0 rfl rfl 2 (by decide) lk19 (fun _ h => h) rfl dX1_add_31 ?_
  refine lv_iconst (v := 1) hx hb dX1_add_34 (by decide) ?_
  refine lv_iadd hx hb dX1_add_35 ?_
  refine tp_i (y := nI (k + 1)) (nI_1 k) ?_
  refine va_put (D := D) (ci := 1) (v := .int (nI (k + 1))) (ty := (.int)) hx hb hts iX1 tyX1 tyX1_ok nmX1 hown hK hP hD hS 0 rfl rfl 2 (by decide) lk19 (fun _ h => h) rfl (by decide +kernel) rfl rfl (Nat.le_of_ble_eq_true rfl) dX1_add_36 (fun H locs hP hD hS => ?_)
  have hP : va_P D vwCl [(h, .inr (1, [.ref r, .int (nI hd), .int (nI (k + 1))])), (r, .inl (cA, 4096, .inl (upd f ((hd + k) % 4096) x)))] H := hP
  have hD : va_D A [(h, .inr (1, [.ref r, .int (nI hd), .int (nI (k + 1))])), (r, .inl (cA, 4096, .inl (upd f ((hd + k) % 4096) x)))] := hD
  exact hex _ _ _ _ () hS (trivial) hP hD dX1_add_39

set_option maxHeartbeats 4000000 in
set_option maxRecDepth 100000 in
/-- addPacket(bytes) -/
theorem c_ch_addPacket (l : Launch) (D : va_G) (cA : ClassId) (h r : Nat) (f : Nat → Int32) (hd k : Nat) (b br bn : Nat) (g : Nat → Int32) (bk : Nat) (hh : hd < 4096) (hk : k + bk ≤ 4096) (hbk : bk ≤ bn) (hbn : bn < 2 ^ 31) : MV0 l yX1_addPacket wsX1_addPacket { frames := 1, cells := 0, slots := 0, locals := 21 } [.ref h, .ref b] D [(cA, .int)] [(h, .inr (1, [.ref r, .int (nI hd), .int (nI k)])), (r, .inl (cA, 4096, .inl f)), (b, .inr (0, [.ref br, .int (nI bk)])), (br, .inl (cA, bn, .inl g))] [(h, .inr (1, [.ref r, .int (nI hd), .int (nI (k + bk))])), (r, .inl (cA, 4096, .inl (rwr f (hd + k) (mkd g) bk))), (b, .inr (0, [.ref br, .int (nI bk)])), (br, .inl (cA, bn, .inl g))] := by
  refine mt_v (by decide) rfl (Nat.le_of_ble_eq_true rfl) ?_
  intro p e s m below meth c A ls Q hx hb hts hown hml hin hN hK hA hP hD hS hl hex
  have hown : s.vm.findClass RX1 = some m.cls := hown
  have hl : lv_has ls 3 [(0, .ref h), (1, .ref b)] := hl
  have iX0 : ∀ w ∈ wsX00, w ∈ wsX1_addPacket := by decide +kernel
  have lk22 : (Cond.fieldLinkNest RX1 22 "DownFrames$Bytes" "size" "I" "DownFrames").before ([.ref h, .ref b] : List Value).toArray s = true := va_Nw.use rfl hN.2.2
  refine lv_iconst (v := 0) hx hb dX1_addPacket_0 (by decide) ?_
  refine lv_istore_n (lv' := [(2, .int 0), (0, .ref h), (1, .ref b)]) hx hb dX1_addPacket_1 rfl hl (by decide) rfl (fun ls hl => ?_)
  have loop : ∀ (d i : Nat) (H : Heap) (locs : List Loc) (ls : Array Slot), i + d = bk → va_P D vwCl [(h, .inr (1, [.ref r, .int (nI hd), .int (nI (k + i))])), (r, .inl (cA, 4096, .inl (rwr f (hd + k) (mkd g) i))), (b, .inr (0, [.ref br, .int (nI bk)])), (br, .inl (cA, bn, .inl g))] H → va_D A [(h, .inr (1, [.ref r, .int (nI hd), .int (nI (k + i))])), (r, .inl (cA, 4096, .inl (rwr f (hd + k) (mkd g) i))), (b, .inr (0, [.ref br, .int (nI bk)])), (br, .inl (cA, bn, .inl g))] → va_S A s.heap H locs → lv_has ls 3 [(2, .int (nI i)), (0, .ref h), (1, .ref b)] → W p l e ({ frames := 1, cells := 0, slots := 0, locals := 21 } : Room) s m ([.ref h, .ref b] : List Value).toArray below meth c H locs 0 0 Q (F0 m 2 ls []) := by
    intro d
    induction d with
    | zero =>
      intro i H locs ls hi hP hD hS hl
      have hi : i = bk := hi
      subst hi
      refine lv_iload_n hx hb dX1_addPacket_2 rfl (lv_at hl 0 rfl) ?_
      refine lv_aload_n hx hb dX1_addPacket_3 rfl (lv_at hl 2 rfl) ?_
      refine va_getN (D := D) (ci := 0) (v := .int (nI i)) hx hb hts iX0 hown hK hP 2 rfl rfl 1 (by decide) lk22 (fun _ h => h) rfl dX1_addPacket_4 ?_
      refine lv_icmp_ge (tgt := 41) hx hb dX1_addPacket_7 (by decide) (fun _ => ?_) (fun cc => absurd (nI_le (Nat.le_refl _) (by omega)) cc)
      exact hex _ _ _ _ () hS (trivial) hP hD dX1_addPacket_41
    | succ d ih =>
      intro i H locs ls hi hP hD hS hl
      refine lv_iload_n hx hb dX1_addPacket_2 rfl (lv_at hl 0 rfl) ?_
      refine lv_aload_n hx hb dX1_addPacket_3 rfl (lv_at hl 2 rfl) ?_
      refine va_getN (D := D) (ci := 0) (v := .int (nI bk)) hx hb hts iX0 hown hK hP 2 rfl rfl 1 (by decide) lk22 (fun _ h => h) rfl dX1_addPacket_4 ?_
      refine lv_icmp_ge (tgt := 41) hx hb dX1_addPacket_7 (by decide) (fun cc => absurd cc (nI_ge (by omega) (by omega))) (fun _ => ?_)
      refine lv_aload_n hx hb dX1_addPacket_10 rfl (lv_at hl 1 rfl) ?_
      refine lv_iload_n hx hb dX1_addPacket_11 rfl (lv_at hl 0 rfl) ?_
      refine lv_if_ne (tgt := 27) hx hb dX1_addPacket_12 (by decide) (fun c1 => ?_) (fun c1 => ?_)
      · refine lv_aload_n hx hb dX1_addPacket_27 rfl (lv_at hl 2 rfl) ?_
        refine lv_iload_n hx hb dX1_addPacket_28 rfl (lv_at hl 0 rfl) ?_
        refine cl0_vi ⟨hx, hb, hml, hown, hts⟩ (c_by_at l D cA b br bn g bk (nI i) hbk hbn) (cwV 1 hts gX1_addPacket_X0_at rfl rfl rfl (by decide +kernel) ⟨Nat.le_of_ble_eq_true rfl, Nat.le_of_ble_eq_true rfl⟩) (ci := 0) (q0 := 0) rfl rfl hN hK hP hD hS hA [2, 3] [0, 1] [0, 1, 2, 3] [(h, .inr (1, [.ref r, .int (nI hd), .int (nI (k + i))])), (r, .inl (cA, 4096, .inl (rwr f (hd + k) (mkd g) i)))] [(h, .inr (1, [.ref r, .int (nI hd), .int (nI (k + i))])), (r, .inl (cA, 4096, .inl (rwr f (hd + k) (mkd g) i))), (b, .inr (0, [.ref br, .int (nI bk)])), (br, .inl (cA, bn, .inl g))] [.ref h] rfl rfl rfl rfl (by decide) rfl rfl rfl hl.1 rfl (Nat.le_of_ble_eq_true rfl) dX1_addPacket_29 ⟨Nat.le_of_ble_eq_true rfl, Nat.le_of_ble_eq_true rfl⟩ (fun H locs hP hD hS => ?_)
        refine tp_i (y := g i) ((at_val (by omega) (nI_pos (by omega)) (nI_ge (by omega) (by omega))).symm) ?_
        refine cl0_vv ⟨hx, hb, hml, hown, hts⟩ (c_ch_add l D cA h r (rwr f (hd + k) (mkd g) i) hd (k + i) (g i) hh (by omega)) (cwV 1 hts gX1_addPacket_X1_add rfl rfl rfl (by decide +kernel) ⟨Nat.le_of_ble_eq_true rfl, Nat.le_of_ble_eq_true rfl⟩) (ci := 1) (q0 := 0) rfl rfl hN hK hP hD hS hA [0, 1] [2, 3] [2, 3, 0, 1] [(b, .inr (0, [.ref br, .int (nI bk)])), (br, .inl (cA, bn, .inl g))] [(h, .inr (1, [.ref r, .int (nI hd), .int (nI (k + i + 1))])), (r, .inl (cA, 4096, .inl (upd (rwr f (hd + k) (mkd g) i) ((hd + (k + i)) % 4096) (g i)))), (b, .inr (0, [.ref br, .int (nI bk)])), (br, .inl (cA, bn, .inl g))] [] rfl rfl rfl rfl (by decide) rfl rfl rfl hl.1 rfl (Nat.le_of_ble_eq_true rfl) dX1_addPacket_32 ⟨Nat.le_of_ble_eq_true rfl, Nat.le_of_ble_eq_true rfl⟩ (fun H locs hP hD hS => ?_)
        refine lv_iinc (v := nI (i + 1)) (lv' := [(2, .int (nI (i + 1))), (0, .ref h), (1, .ref b)]) hx hb dX1_addPacket_35 hl (k := 0) rfl (nI_1 _) (by decide) rfl (fun ls hl => ?_)
        refine lv_goto (tgt := 2) hx hb dX1_addPacket_38 (by decide) ?_
        have ef : upd (rwr f (hd + k) (mkd g) i) ((hd + (k + i)) % 4096) (g i) = rwr f (hd + k) (mkd g) (i + 1) := by simp only [rwr]; rw [Nat.add_assoc]; congr 1; unfold mkd; rw [if_neg (fun q => c1 (by rw [q]; rfl))]
        rw [ef] at hP hD
        exact ih (i + 1) H locs ls (by omega) hP hD hS (lv_sub hl [0, 1, 2] rfl)
      · have hi0 : i = 0 := by rcases Nat.eq_zero_or_pos i with q | q; exact q; exact absurd c1 (nI_ne0 q (by omega))
        refine lv_sipush (v := 256) hx hb dX1_addPacket_15 (by decide +kernel) ?_
        refine lv_aload_n hx hb dX1_addPacket_18 rfl (lv_at hl 2 rfl) ?_
        refine lv_iload_n hx hb dX1_addPacket_19 rfl (lv_at hl 0 rfl) ?_
        refine cl0_vi ⟨hx, hb, hml, hown, hts⟩ (c_by_at l D cA b br bn g bk (nI i) hbk hbn) (cwV 1 hts gX1_addPacket_X0_at rfl rfl rfl (by decide +kernel) ⟨Nat.le_of_ble_eq_true rfl, Nat.le_of_ble_eq_true rfl⟩) (ci := 0) (q0 := 0) rfl rfl hN hK hP hD hS hA [2, 3] [0, 1] [0, 1, 2, 3] [(h, .inr (1, [.ref r, .int (nI hd), .int (nI (k + i))])), (r, .inl (cA, 4096, .inl (rwr f (hd + k) (mkd g) i)))] [(h, .inr (1, [.ref r, .int (nI hd), .int (nI (k + i))])), (r, .inl (cA, 4096, .inl (rwr f (hd + k) (mkd g) i))), (b, .inr (0, [.ref br, .int (nI bk)])), (br, .inl (cA, bn, .inl g))] [.int 256, .ref h] rfl rfl rfl rfl (by decide) rfl rfl rfl hl.1 rfl (Nat.le_of_ble_eq_true rfl) dX1_addPacket_20 ⟨Nat.le_of_ble_eq_true rfl, Nat.le_of_ble_eq_true rfl⟩ (fun H locs hP hD hS => ?_)
        refine tp_i (y := g i) ((at_val (by omega) (nI_pos (by omega)) (nI_ge (by omega) (by omega))).symm) ?_
        refine lv_ior hx hb dX1_addPacket_23 ?_
        refine lv_goto (tgt := 32) hx hb dX1_addPacket_24 (by decide) ?_
        refine cl0_vv ⟨hx, hb, hml, hown, hts⟩ (c_ch_add l D cA h r (rwr f (hd + k) (mkd g) i) hd (k + i) (256 ||| (g i)) hh (by omega)) (cwV 1 hts gX1_addPacket_X1_add rfl rfl rfl (by decide +kernel) ⟨Nat.le_of_ble_eq_true rfl, Nat.le_of_ble_eq_true rfl⟩) (ci := 1) (q0 := 0) rfl rfl hN hK hP hD hS hA [0, 1] [2, 3] [2, 3, 0, 1] [(b, .inr (0, [.ref br, .int (nI bk)])), (br, .inl (cA, bn, .inl g))] [(h, .inr (1, [.ref r, .int (nI hd), .int (nI (k + i + 1))])), (r, .inl (cA, 4096, .inl (upd (rwr f (hd + k) (mkd g) i) ((hd + (k + i)) % 4096) (256 ||| (g i))))), (b, .inr (0, [.ref br, .int (nI bk)])), (br, .inl (cA, bn, .inl g))] [] rfl rfl rfl rfl (by decide) rfl rfl rfl hl.1 rfl (Nat.le_of_ble_eq_true rfl) dX1_addPacket_32 ⟨Nat.le_of_ble_eq_true rfl, Nat.le_of_ble_eq_true rfl⟩ (fun H locs hP hD hS => ?_)
        refine lv_iinc (v := nI (i + 1)) (lv' := [(2, .int (nI (i + 1))), (0, .ref h), (1, .ref b)]) hx hb dX1_addPacket_35 hl (k := 0) rfl (nI_1 _) (by decide) rfl (fun ls hl => ?_)
        refine lv_goto (tgt := 2) hx hb dX1_addPacket_38 (by decide) ?_
        have ef : upd (rwr f (hd + k) (mkd g) i) ((hd + (k + i)) % 4096) (256 ||| (g i)) = rwr f (hd + k) (mkd g) (i + 1) := by simp only [rwr]; rw [Nat.add_assoc]; congr 1; unfold mkd; rw [if_pos hi0, hi0]
        rw [ef] at hP hD
        exact ih (i + 1) H locs ls (by omega) hP hD hS (lv_sub hl [0, 1, 2] rfl)
  exact loop bk 0 s.heap [] ls (by omega) hP hD hS (lv_sub hl [0, 1, 2] rfl)

set_option maxHeartbeats 4000000 in
set_option maxRecDepth 100000 in
/-- firstBegin(a) -/
theorem c_ch_first (l : Launch) (D : va_G) (cA : ClassId) (h r : Nat) (f : Nat → Int32) (hd k : Nat) (a : Nat) (hh : hd < 4096) (ha : a ≤ k) (hk : k ≤ 4096) : MI0 l yX1_firstBegin wsX1_firstBegin { frames := 0, cells := 0, slots := 0, locals := 0 } [.ref h, .int (nI a)] D [(cA, .int)] [(h, .inr (1, [.ref r, .int (nI hd), .int (nI k)])), (r, .inl (cA, 4096, .inl f))] (fbS f hd a 0) [(h, .inr (1, [.ref r, .int (nI hd), .int (nI k)])), (r, .inl (cA, 4096, .inl f))] := by
  refine mt_i (by decide) rfl (Nat.le_of_ble_eq_true rfl) ?_
  intro p e s m below meth c A ls Q hx hb hts hown hml hin hN hK hA hP hD hS hl hex
  have hown : s.vm.findClass RX1 = some m.cls := hown
  have hl : lv_has ls 3 [(0, .ref h), (1, .int (nI a))] := hl
  have iX1 : ∀ w ∈ wsX10, w ∈ wsX1_firstBegin := by decide +kernel
  have lk11 := hts (.fieldLink RX1 11 "DownFrames$Channel" "ring" "[I") (by decide +kernel)
  have lk15 := hts (.fieldLink RX1 15 "DownFrames$Channel" "head" "I") (by decide +kernel)
  have lk19 := hts (.fieldLink RX1 19 "DownFrames$Channel" "size" "I") (by decide +kernel)
  refine lv_iconst (v := 0) hx hb dX1_firstBegin_0 (by decide) ?_
  refine lv_istore_n (lv' := [(2, .int 0), (0, .ref h), (1, .int (nI a))]) hx hb dX1_firstBegin_1 rfl hl (by decide) rfl (fun ls hl => ?_)
  have loop : ∀ (d i : Nat) (ls : Array Slot), i + d = a → fbS f hd d i = fbS f hd a 0 → lv_has ls 3 [(2, .int (nI i)), (0, .ref h), (1, .int (nI a))] → W p l e ({ frames := 0, cells := 0, slots := 0, locals := 0 } : Room) s m ([.ref h, .int (nI a)] : List Value).toArray below meth c s.heap [] 0 0 Q (F0 m 2 ls []) := by
    intro d
    induction d with
    | zero =>
      intro i ls hi he hl
      refine lv_iload_n hx hb dX1_firstBegin_2 rfl (lv_at hl 0 rfl) ?_
      refine lv_iload_n hx hb dX1_firstBegin_3 rfl (lv_at hl 2 rfl) ?_
      refine lv_icmp_ge (tgt := 45) hx hb dX1_firstBegin_4 (by decide) (fun _ => ?_) (fun cc => absurd (nI_le (by omega) (by omega)) cc)
      refine lv_sipush (v := 2047) hx hb dX1_firstBegin_45 (by decide +kernel) ?_
      exact hex _ _ _ _ _ () hS (he) hP hD dX1_firstBegin_48
    | succ d ih =>
      intro i ls hi he hl
      refine lv_iload_n hx hb dX1_firstBegin_2 rfl (lv_at hl 0 rfl) ?_
      refine lv_iload_n hx hb dX1_firstBegin_3 rfl (lv_at hl 2 rfl) ?_
      refine lv_icmp_ge (tgt := 45) hx hb dX1_firstBegin_4 (by decide) (fun cc => absurd cc (nI_ge (by omega) (by omega))) (fun _ => ?_)
      refine lv_iload_n hx hb dX1_firstBegin_7 rfl (lv_at hl 0 rfl) ?_
      refine lv_aload_n hx hb dX1_firstBegin_8 rfl (lv_at hl 1 rfl) ?_
      refine va_get (D := D) (ci := 1) (v := .int (nI k)) hx hb hts iX1 hown hK hP 0 rfl rfl 2 (by decide) lk19 (fun _ h => h) rfl dX1_firstBegin_9 ?_
      refine lv_icmp_ge (tgt := 45) hx hb dX1_firstBegin_12 (by decide) (fun cc => absurd cc (nI_ge (by omega) (by omega))) (fun _ => ?_)
      refine lv_aload_n hx hb dX1_firstBegin_15 rfl (lv_at hl 1 rfl) ?_
      refine va_get (D := D) (ci := 1) (v := .ref r) hx hb hts iX1 hown hK hP 0 rfl rfl 0 (by decide) lk11 (fun _ h => h) rfl dX1_firstBegin_16 ?_
      refine lv_aload_n hx hb dX1_firstBegin_19 rfl (lv_at hl 1 rfl) ?_
      refine va_get (D := D) (ci := 1) (v := .int (nI hd)) hx hb hts iX1 hown hK hP 0 rfl rfl 1 (by decide) lk15 (fun _ h => h) rfl dX1_firstBegin_20 ?_
      refine lv_iload_n hx hb dX1_firstBegin_23 rfl (lv_at hl 0 rfl) ?_
      refine lv_iadd hx hb dX1_firstBegin_24 ?_
      refine lv_sipush (v := 4095) hx hb dX1_firstBegin_25 (by decide +kernel) ?_
      refine lv_iand hx hb dX1_firstBegin_28 ?_
      refine tp_i (y := nI ((hd + i) % 4096)) (m12 hd i (by omega)) ?_
      refine al_i (k := ((hd + i) % 4096)) hx hb hK hP 1 0 rfl rfl (Nat.mod_lt _ (by decide)) (by decide) dX1_firstBegin_29 ?_
      refine lv_sipush (v := 256) hx hb dX1_firstBegin_30 (by decide +kernel) ?_
      refine lv_iand hx hb dX1_firstBegin_33 ?_
      refine lv_if_eq (tgt := 39) hx hb dX1_firstBegin_34 (by decide) (fun c1 => ?_) (fun c1 => ?_)
      · refine lv_iinc (v := nI (i + 1)) (lv' := [(2, .int (nI (i + 1))), (0, .ref h), (1, .int (nI a))]) hx hb dX1_firstBegin_39 hl (k := 0) rfl (nI_1 _) (by decide) rfl (fun ls hl => ?_)
        refine lv_goto (tgt := 2) hx hb dX1_firstBegin_42 (by decide) ?_
        exact ih (i + 1) ls (by omega) (by rw [← he]; simp only [fbS]; rw [if_pos c1]) (lv_sub hl [0, 1, 2] rfl)
      · refine lv_iload_n hx hb dX1_firstBegin_37 rfl (lv_at hl 0 rfl) ?_
        exact hex _ _ _ _ _ () hS (by rw [← he]; simp only [fbS]; rw [if_neg c1]) hP hD dX1_firstBegin_38
  exact loop a 0 ls (by omega) rfl (lv_sub hl [0, 1, 2] rfl)

set_option maxHeartbeats 4000000 in
set_option maxRecDepth 100000 in
/-- take() -/
theorem c_ch_take (l : Launch) (D : va_G) (cA : ClassId) (h r : Nat) (f : Nat → Int32) (hd k : Nat) (hh : hd < 4096) (hk : k < 4096) : MI0 l yX1_take wsX1_take { frames := 0, cells := 0, slots := 0, locals := 0 } [.ref h] D [(cA, .int)] [(h, .inr (1, [.ref r, .int (nI hd), .int (nI (k + 1))])), (r, .inl (cA, 4096, .inl f))] (f hd &&& 255) [(h, .inr (1, [.ref r, .int (nI ((hd + 1) % 4096)), .int (nI k)])), (r, .inl (cA, 4096, .inl f))] := by
  refine mt_i (by decide) rfl (Nat.le_of_ble_eq_true rfl) ?_
  intro p e s m below meth c A ls Q hx hb hts hown hml hin hN hK hA hP hD hS hl hex
  have hown : s.vm.findClass RX1 = some m.cls := hown
  have hl : lv_has ls 2 [(0, .ref h)] := hl
  have iX1 : ∀ w ∈ wsX10, w ∈ wsX1_take := by decide +kernel
  have lk11 := hts (.fieldLink RX1 11 "DownFrames$Channel" "ring" "[I") (by decide +kernel)
  have lk15 := hts (.fieldLink RX1 15 "DownFrames$Channel" "head" "I") (by decide +kernel)
  have lk19 := hts (.fieldLink RX1 19 "DownFrames$Channel" "size" "I") (by decide +kernel)
  refine lv_aload_n hx hb dX1_take_0 rfl (lv_at hl 0 rfl) ?_
  refine va_get (D := D) (ci := 1) (v := .int (nI (k + 1))) hx hb hts iX1 hown hK hP 0 rfl rfl 2 (by decide) lk19 (fun _ h => h) rfl dX1_take_1 ?_
  refine lv_if_ne (tgt := 10) hx hb dX1_take_4 (by decide) (fun _ => ?_) (fun cc => absurd cc (nI_ne0 (by omega) (by omega)))
  refine lv_aload_n hx hb dX1_take_10 rfl (lv_at hl 0 rfl) ?_
  refine va_get (D := D) (ci := 1) (v := .ref r) hx hb hts iX1 hown hK hP 0 rfl rfl 0 (by decide) lk11 (fun _ h => h) rfl dX1_take_11 ?_
  refine lv_aload_n hx hb dX1_take_14 rfl (lv_at hl 0 rfl) ?_
  refine va_get (D := D) (ci := 1) (v := .int (nI hd)) hx hb hts iX1 hown hK hP 0 rfl rfl 1 (by decide) lk15 (fun _ h => h) rfl dX1_take_15 ?_
  refine lv_sipush (v := 4095) hx hb dX1_take_18 (by decide +kernel) ?_
  refine lv_iand hx hb dX1_take_21 ?_
  refine tp_i (y := nI hd) (m12' hd hh) ?_
  refine al_i (k := hd) hx hb hK hP 1 0 rfl rfl (hh) (by decide) dX1_take_22 ?_
  refine lv_sipush (v := 255) hx hb dX1_take_23 (by decide +kernel) ?_
  refine lv_iand hx hb dX1_take_26 ?_
  refine lv_istore_n (lv' := [(1, .int ((f hd) &&& 255)), (0, .ref h)]) hx hb dX1_take_27 rfl hl (by decide) rfl (fun ls hl => ?_)
  refine lv_aload_n hx hb dX1_take_28 rfl (lv_at hl 1 rfl) ?_
  refine lv_aload_n hx hb dX1_take_29 rfl (lv_at hl 1 rfl) ?_
  refine va_get (D := D) (ci := 1) (v := .int (nI hd)) hx hb hts iX1 hown hK hP 0 rfl rfl 1 (by decide) lk15 (fun _ h => h) rfl dX1_take_30 ?_
  refine lv_iconst (v := 1) hx hb dX1_take_33 (by decide) ?_
  refine lv_iadd hx hb dX1_take_34 ?_
  refine lv_sipush (v := 4095) hx hb dX1_take_35 (by decide +kernel) ?_
  refine lv_iand hx hb dX1_take_38 ?_
  refine tp_i (y := nI ((hd + 1) % 4096)) (m12 hd 1 (by omega)) ?_
  refine va_put (D := D) (ci := 1) (v := .int (nI ((hd + 1) % 4096))) (ty := (.int)) hx hb hts iX1 tyX1 tyX1_ok nmX1 hown hK hP hD hS 0 rfl rfl 1 (by decide) lk15 (fun _ h => h) rfl (by decide +kernel) rfl rfl (Nat.le_of_ble_eq_true rfl) dX1_take_39 (fun H locs hP hD hS => ?_)
  have hP : va_P D vwCl [(h, .inr (1, [.ref r, .int (nI ((hd + 1) % 4096)), .int (nI (k + 1))])), (r, .inl (cA, 4096, .inl f))] H := hP
  have hD : va_D A [(h, .inr (1, [.ref r, .int (nI ((hd + 1) % 4096)), .int (nI (k + 1))])), (r, .inl (cA, 4096, .inl f))] := hD
  refine lv_aload_n hx hb dX1_take_42 rfl (lv_at hl 1 rfl) ?_
  refine lv_dup hx hb dX1_take_43 rfl ?_
  refine va_get (D := D) (ci := 1) (v := .int (nI (k + 1))) hx hb hts iX1 hown hK hP 0 rfl rfl 2 (by decide) lk19 (fun _ h => h) rfl dX1_take_44 ?_
  refine lv_iconst (v := 1) hx hb dX1_take_47 (by decide) ?_
  refine lv_isub hx hb dX1_take_48 ?_
  refine tp_i (y := nI k) (nI_pred k) ?_
  refine va_put (D := D) (ci := 1) (v := .int (nI k)) (ty := (.int)) hx hb hts iX1 tyX1 tyX1_ok nmX1 hown hK hP hD hS 0 rfl rfl 2 (by decide) lk19 (fun _ h => h) rfl (by decide +kernel) rfl rfl (Nat.le_of_ble_eq_true rfl) dX1_take_49 (fun H locs hP hD hS => ?_)
  have hP : va_P D vwCl [(h, .inr (1, [.ref r, .int (nI ((hd + 1) % 4096)), .int (nI k)])), (r, .inl (cA, 4096, .inl f))] H := hP
  have hD : va_D A [(h, .inr (1, [.ref r, .int (nI ((hd + 1) % 4096)), .int (nI k)])), (r, .inl (cA, 4096, .inl f))] := hD
  refine lv_iload_n hx hb dX1_take_52 rfl (lv_at hl 0 rfl) ?_
  exact hex _ _ _ _ _ () hS (rfl) hP hD dX1_take_53

set_option maxHeartbeats 4000000 in
set_option maxRecDepth 100000 in
/-- addEmptyPacket(L) -/
theorem c_ch_empty (l : Launch) (D : va_G) (cA : ClassId) (h r : Nat) (f : Nat → Int32) (hd k : Nat) (L : Nat) (hh : hd < 4096) (hL : 7 ≤ L) (hk : k + L ≤ 4096) : MV0 l yX1_addEmptyPacket wsX1_addEmptyPacket { frames := 1, cells := 0, slots := 0, locals := 21 } [.ref h, .int (nI L)] D [(cA, .int)] [(h, .inr (1, [.ref r, .int (nI hd), .int (nI k)])), (r, .inl (cA, 4096, .inl f))] [(h, .inr (1, [.ref r, .int (nI hd), .int (nI (k + L))])), (r, .inl (cA, 4096, .inl (rwr f (hd + k) (emp L) L)))] := by
  refine mt_v (by decide) rfl (Nat.le_of_ble_eq_true rfl) ?_
  intro p e s m below meth c A ls Q hx hb hts hown hml hin hN hK hA hP hD hS hl hex
  have hown : s.vm.findClass RX1 = some m.cls := hown
  have hl : lv_has ls 4 [(0, .ref h), (1, .int (nI L))] := hl
  have hP : va_P D vwCl [(h, .inr (1, [.ref r, .int (nI hd), .int (nI (k + 0))])), (r, .inl (cA, 4096, .inl (rwr f (hd + k) (emp L) 0)))] s.heap := hP
  have hD : va_D A [(h, .inr (1, [.ref r, .int (nI hd), .int (nI (k + 0))])), (r, .inl (cA, 4096, .inl (rwr f (hd + k) (emp L) 0)))] := hD
  refine lv_aload_n hx hb dX1_addEmptyPacket_0 rfl (lv_at hl 0 rfl) ?_
  refine lv_sipush (v := 263) hx hb dX1_addEmptyPacket_1 (by decide +kernel) ?_
  refine cl0_vv ⟨hx, hb, hml, hown, hts⟩ (c_ch_add l D cA h r (rwr f (hd + k) (emp L) 0) hd (k + 0) 263 hh (by omega)) (cwV 1 hts gX1_addEmptyPacket_X1_add rfl rfl rfl (by decide +kernel) ⟨Nat.le_of_ble_eq_true rfl, Nat.le_of_ble_eq_true rfl⟩) (ci := 1) (q0 := 0) rfl rfl hN hK hP hD hS hA [0, 1] [] [0, 1] [] [(h, .inr (1, [.ref r, .int (nI hd), .int (nI (k + 0 + 1))])), (r, .inl (cA, 4096, .inl (upd (rwr f (hd + k) (emp L) 0) ((hd + (k + 0)) % 4096) 263)))] [] rfl rfl rfl rfl (by decide) rfl rfl rfl hl.1 rfl (Nat.le_of_ble_eq_true rfl) dX1_addEmptyPacket_4 ⟨Nat.le_of_ble_eq_true rfl, Nat.le_of_ble_eq_true rfl⟩ (fun H locs hP hD hS => ?_)
  have ef : upd (rwr f (hd + k) (emp L) 0) ((hd + (k + 0)) % 4096) 263 = rwr f (hd + k) (emp L) (1) := by simp only [rwr]; rw [Nat.add_assoc]; rfl
  rw [ef] at hP hD
  have hP : va_P D vwCl [(h, .inr (1, [.ref r, .int (nI hd), .int (nI (k + 1))])), (r, .inl (cA, 4096, .inl (rwr f (hd + k) (emp L) 1)))] H := hP
  have hD : va_D A [(h, .inr (1, [.ref r, .int (nI hd), .int (nI (k + 1))])), (r, .inl (cA, 4096, .inl (rwr f (hd + k) (emp L) 1)))] := hD
  refine lv_aload_n hx hb dX1_addEmptyPacket_7 rfl (lv_at hl 0 rfl) ?_
  refine lv_sipush (v := 255) hx hb dX1_addEmptyPacket_8 (by decide +kernel) ?_
  refine cl0_vv ⟨hx, hb, hml, hown, hts⟩ (c_ch_add l D cA h r (rwr f (hd + k) (emp L) 1) hd (k + 1) 255 hh (by omega)) (cwV 1 hts gX1_addEmptyPacket_X1_add rfl rfl rfl (by decide +kernel) ⟨Nat.le_of_ble_eq_true rfl, Nat.le_of_ble_eq_true rfl⟩) (ci := 1) (q0 := 0) rfl rfl hN hK hP hD hS hA [0, 1] [] [0, 1] [] [(h, .inr (1, [.ref r, .int (nI hd), .int (nI (k + 1 + 1))])), (r, .inl (cA, 4096, .inl (upd (rwr f (hd + k) (emp L) 1) ((hd + (k + 1)) % 4096) 255)))] [] rfl rfl rfl rfl (by decide) rfl rfl rfl hl.1 rfl (Nat.le_of_ble_eq_true rfl) dX1_addEmptyPacket_11 ⟨Nat.le_of_ble_eq_true rfl, Nat.le_of_ble_eq_true rfl⟩ (fun H locs hP hD hS => ?_)
  have ef : upd (rwr f (hd + k) (emp L) 1) ((hd + (k + 1)) % 4096) 255 = rwr f (hd + k) (emp L) (2) := by simp only [rwr]; rw [Nat.add_assoc]; rfl
  rw [ef] at hP hD
  have hP : va_P D vwCl [(h, .inr (1, [.ref r, .int (nI hd), .int (nI (k + 2))])), (r, .inl (cA, 4096, .inl (rwr f (hd + k) (emp L) 2)))] H := hP
  have hD : va_D A [(h, .inr (1, [.ref r, .int (nI hd), .int (nI (k + 2))])), (r, .inl (cA, 4096, .inl (rwr f (hd + k) (emp L) 2)))] := hD
  refine lv_aload_n hx hb dX1_addEmptyPacket_14 rfl (lv_at hl 0 rfl) ?_
  refine lv_sipush (v := 192) hx hb dX1_addEmptyPacket_15 (by decide +kernel) ?_
  refine cl0_vv ⟨hx, hb, hml, hown, hts⟩ (c_ch_add l D cA h r (rwr f (hd + k) (emp L) 2) hd (k + 2) 192 hh (by omega)) (cwV 1 hts gX1_addEmptyPacket_X1_add rfl rfl rfl (by decide +kernel) ⟨Nat.le_of_ble_eq_true rfl, Nat.le_of_ble_eq_true rfl⟩) (ci := 1) (q0 := 0) rfl rfl hN hK hP hD hS hA [0, 1] [] [0, 1] [] [(h, .inr (1, [.ref r, .int (nI hd), .int (nI (k + 2 + 1))])), (r, .inl (cA, 4096, .inl (upd (rwr f (hd + k) (emp L) 2) ((hd + (k + 2)) % 4096) 192)))] [] rfl rfl rfl rfl (by decide) rfl rfl rfl hl.1 rfl (Nat.le_of_ble_eq_true rfl) dX1_addEmptyPacket_18 ⟨Nat.le_of_ble_eq_true rfl, Nat.le_of_ble_eq_true rfl⟩ (fun H locs hP hD hS => ?_)
  have ef : upd (rwr f (hd + k) (emp L) 2) ((hd + (k + 2)) % 4096) 192 = rwr f (hd + k) (emp L) (3) := by simp only [rwr]; rw [Nat.add_assoc]; rfl
  rw [ef] at hP hD
  have hP : va_P D vwCl [(h, .inr (1, [.ref r, .int (nI hd), .int (nI (k + 3))])), (r, .inl (cA, 4096, .inl (rwr f (hd + k) (emp L) 3)))] H := hP
  have hD : va_D A [(h, .inr (1, [.ref r, .int (nI hd), .int (nI (k + 3))])), (r, .inl (cA, 4096, .inl (rwr f (hd + k) (emp L) 3)))] := hD
  refine lv_aload_n hx hb dX1_addEmptyPacket_21 rfl (lv_at hl 0 rfl) ?_
  refine lv_iconst (v := 0) hx hb dX1_addEmptyPacket_22 (by decide) ?_
  refine cl0_vv ⟨hx, hb, hml, hown, hts⟩ (c_ch_add l D cA h r (rwr f (hd + k) (emp L) 3) hd (k + 3) 0 hh (by omega)) (cwV 1 hts gX1_addEmptyPacket_X1_add rfl rfl rfl (by decide +kernel) ⟨Nat.le_of_ble_eq_true rfl, Nat.le_of_ble_eq_true rfl⟩) (ci := 1) (q0 := 0) rfl rfl hN hK hP hD hS hA [0, 1] [] [0, 1] [] [(h, .inr (1, [.ref r, .int (nI hd), .int (nI (k + 3 + 1))])), (r, .inl (cA, 4096, .inl (upd (rwr f (hd + k) (emp L) 3) ((hd + (k + 3)) % 4096) 0)))] [] rfl rfl rfl rfl (by decide) rfl rfl rfl hl.1 rfl (Nat.le_of_ble_eq_true rfl) dX1_addEmptyPacket_23 ⟨Nat.le_of_ble_eq_true rfl, Nat.le_of_ble_eq_true rfl⟩ (fun H locs hP hD hS => ?_)
  have ef : upd (rwr f (hd + k) (emp L) 3) ((hd + (k + 3)) % 4096) 0 = rwr f (hd + k) (emp L) (4) := by simp only [rwr]; rw [Nat.add_assoc]; rfl
  rw [ef] at hP hD
  have hP : va_P D vwCl [(h, .inr (1, [.ref r, .int (nI hd), .int (nI (k + 4))])), (r, .inl (cA, 4096, .inl (rwr f (hd + k) (emp L) 4)))] H := hP
  have hD : va_D A [(h, .inr (1, [.ref r, .int (nI hd), .int (nI (k + 4))])), (r, .inl (cA, 4096, .inl (rwr f (hd + k) (emp L) 4)))] := hD
  refine lv_iload_n hx hb dX1_addEmptyPacket_26 rfl (lv_at hl 1 rfl) ?_
  refine lv_bipush (v := 6) hx hb dX1_addEmptyPacket_27 (by decide +kernel) ?_
  refine lv_isub hx hb dX1_addEmptyPacket_29 ?_
  refine tp_i (y := nI (L - 6)) (pk_sub (b := 6) (by omega)) ?_
  refine lv_istore_n (lv' := [(2, .int (nI (L - 6))), (0, .ref h), (1, .int (nI L))]) hx hb dX1_addEmptyPacket_30 rfl hl (by decide) rfl (fun ls hl => ?_)
  refine lv_aload_n hx hb dX1_addEmptyPacket_31 rfl (lv_at hl 1 rfl) ?_
  refine lv_iload_n hx hb dX1_addEmptyPacket_32 rfl (lv_at hl 0 rfl) ?_
  refine lv_iconst (v := 1) hx hb dX1_addEmptyPacket_33 (by decide) ?_
  refine lv_isub hx hb dX1_addEmptyPacket_34 ?_
  refine lv_bipush (v := 8) hx hb dX1_addEmptyPacket_35 (by decide +kernel) ?_
  refine lv_iushr (v := ush ((nI (L - 6)) - 1) 8) hx hb dX1_addEmptyPacket_37 rfl ?_
  refine lv_sipush (v := 255) hx hb dX1_addEmptyPacket_38 (by decide +kernel) ?_
  refine lv_iand hx hb dX1_addEmptyPacket_41 ?_
  refine cl0_vv ⟨hx, hb, hml, hown, hts⟩ (c_ch_add l D cA h r (rwr f (hd + k) (emp L) 4) hd (k + 4) ((ush ((nI (L - 6)) - 1) 8) &&& 255) hh (by omega)) (cwV 1 hts gX1_addEmptyPacket_X1_add rfl rfl rfl (by decide +kernel) ⟨Nat.le_of_ble_eq_true rfl, Nat.le_of_ble_eq_true rfl⟩) (ci := 1) (q0 := 0) rfl rfl hN hK hP hD hS hA [0, 1] [] [0, 1] [] [(h, .inr (1, [.ref r, .int (nI hd), .int (nI (k + 4 + 1))])), (r, .inl (cA, 4096, .inl (upd (rwr f (hd + k) (emp L) 4) ((hd + (k + 4)) % 4096) ((ush ((nI (L - 6)) - 1) 8) &&& 255))))] [] rfl rfl rfl rfl (by decide) rfl rfl rfl hl.1 rfl (Nat.le_of_ble_eq_true rfl) dX1_addEmptyPacket_42 ⟨Nat.le_of_ble_eq_true rfl, Nat.le_of_ble_eq_true rfl⟩ (fun H locs hP hD hS => ?_)
  have ef : upd (rwr f (hd + k) (emp L) 4) ((hd + (k + 4)) % 4096) ((ush ((nI (L - 6)) - 1) 8) &&& 255) = rwr f (hd + k) (emp L) (5) := by simp only [rwr]; rw [Nat.add_assoc]; rfl
  rw [ef] at hP hD
  have hP : va_P D vwCl [(h, .inr (1, [.ref r, .int (nI hd), .int (nI (k + 5))])), (r, .inl (cA, 4096, .inl (rwr f (hd + k) (emp L) 5)))] H := hP
  have hD : va_D A [(h, .inr (1, [.ref r, .int (nI hd), .int (nI (k + 5))])), (r, .inl (cA, 4096, .inl (rwr f (hd + k) (emp L) 5)))] := hD
  refine lv_aload_n hx hb dX1_addEmptyPacket_45 rfl (lv_at hl 1 rfl) ?_
  refine lv_iload_n hx hb dX1_addEmptyPacket_46 rfl (lv_at hl 0 rfl) ?_
  refine lv_iconst (v := 1) hx hb dX1_addEmptyPacket_47 (by decide) ?_
  refine lv_isub hx hb dX1_addEmptyPacket_48 ?_
  refine lv_sipush (v := 255) hx hb dX1_addEmptyPacket_49 (by decide +kernel) ?_
  refine lv_iand hx hb dX1_addEmptyPacket_52 ?_
  refine cl0_vv ⟨hx, hb, hml, hown, hts⟩ (c_ch_add l D cA h r (rwr f (hd + k) (emp L) 5) hd (k + 5) (((nI (L - 6)) - 1) &&& 255) hh (by omega)) (cwV 1 hts gX1_addEmptyPacket_X1_add rfl rfl rfl (by decide +kernel) ⟨Nat.le_of_ble_eq_true rfl, Nat.le_of_ble_eq_true rfl⟩) (ci := 1) (q0 := 0) rfl rfl hN hK hP hD hS hA [0, 1] [] [0, 1] [] [(h, .inr (1, [.ref r, .int (nI hd), .int (nI (k + 5 + 1))])), (r, .inl (cA, 4096, .inl (upd (rwr f (hd + k) (emp L) 5) ((hd + (k + 5)) % 4096) (((nI (L - 6)) - 1) &&& 255))))] [] rfl rfl rfl rfl (by decide) rfl rfl rfl hl.1 rfl (Nat.le_of_ble_eq_true rfl) dX1_addEmptyPacket_53 ⟨Nat.le_of_ble_eq_true rfl, Nat.le_of_ble_eq_true rfl⟩ (fun H locs hP hD hS => ?_)
  have ef : upd (rwr f (hd + k) (emp L) 5) ((hd + (k + 5)) % 4096) (((nI (L - 6)) - 1) &&& 255) = rwr f (hd + k) (emp L) (6) := by simp only [rwr]; rw [Nat.add_assoc]; rfl
  rw [ef] at hP hD
  have hP : va_P D vwCl [(h, .inr (1, [.ref r, .int (nI hd), .int (nI (k + 6))])), (r, .inl (cA, 4096, .inl (rwr f (hd + k) (emp L) 6)))] H := hP
  have hD : va_D A [(h, .inr (1, [.ref r, .int (nI hd), .int (nI (k + 6))])), (r, .inl (cA, 4096, .inl (rwr f (hd + k) (emp L) 6)))] := hD
  refine lv_iconst (v := 0) hx hb dX1_addEmptyPacket_56 (by decide) ?_
  refine lv_istore_n (lv' := [(3, .int 0), (2, .int (nI (L - 6))), (0, .ref h), (1, .int (nI L))]) hx hb dX1_addEmptyPacket_57 rfl hl (by decide) rfl (fun ls hl => ?_)
  have loop : ∀ (d i : Nat) (H : Heap) (locs : List Loc) (ls : Array Slot), i + d = L - 6 → va_P D vwCl [(h, .inr (1, [.ref r, .int (nI hd), .int (nI (k + (6 + i)))])), (r, .inl (cA, 4096, .inl (rwr f (hd + k) (emp L) (6 + i))))] H → va_D A [(h, .inr (1, [.ref r, .int (nI hd), .int (nI (k + (6 + i)))])), (r, .inl (cA, 4096, .inl (rwr f (hd + k) (emp L) (6 + i))))] → va_S A s.heap H locs → lv_has ls 4 [(3, .int (nI i)), (2, .int (nI (L - 6))), (0, .ref h), (1, .int (nI L))] → W p l e ({ frames := 1, cells := 0, slots := 0, locals := 21 } : Room) s m ([.ref h, .int (nI L)] : List Value).toArray below meth c H locs 0 0 Q (F0 m 58 ls []) := by
    intro d
    induction d with
    | zero =>
      intro i H locs ls hi hP hD hS hl
      have hi : 6 + i = L := by omega
      refine lv_iload_n hx hb dX1_addEmptyPacket_58 rfl (lv_at hl 0 rfl) ?_
      refine lv_iload_n hx hb dX1_addEmptyPacket_59 rfl (lv_at hl 1 rfl) ?_
      refine lv_icmp_ge (tgt := 75) hx hb dX1_addEmptyPacket_60 (by decide) (fun _ => ?_) (fun cc => absurd (nI_le (by omega) (by omega)) cc)
      rw [hi] at hP hD
      exact hex _ _ _ _ () hS (trivial) hP hD dX1_addEmptyPacket_75
    | succ d ih =>
      intro i H locs ls hi hP hD hS hl
      refine lv_iload_n hx hb dX1_addEmptyPacket_58 rfl (lv_at hl 0 rfl) ?_
      refine lv_iload_n hx hb dX1_addEmptyPacket_59 rfl (lv_at hl 1 rfl) ?_
      refine lv_icmp_ge (tgt := 75) hx hb dX1_addEmptyPacket_60 (by decide) (fun cc => absurd cc (nI_ge (by omega) (by omega))) (fun _ => ?_)
      refine lv_aload_n hx hb dX1_addEmptyPacket_63 rfl (lv_at hl 2 rfl) ?_
      refine lv_bipush (v := 85) hx hb dX1_addEmptyPacket_64 (by decide +kernel) ?_
      refine cl0_vv ⟨hx, hb, hml, hown, hts⟩ (c_ch_add l D cA h r (rwr f (hd + k) (emp L) (6 + i)) hd (k + (6 + i)) 85 hh (by omega)) (cwV 1 hts gX1_addEmptyPacket_X1_add rfl rfl rfl (by decide +kernel) ⟨Nat.le_of_ble_eq_true rfl, Nat.le_of_ble_eq_true rfl⟩) (ci := 1) (q0 := 0) rfl rfl hN hK hP hD hS hA [0, 1] [] [0, 1] [] [(h, .inr (1, [.ref r, .int (nI hd), .int (nI (k + (6 + i) + 1))])), (r, .inl (cA, 4096, .inl (upd (rwr f (hd + k) (emp L) (6 + i)) ((hd + (k + (6 + i))) % 4096) 85)))] [] rfl rfl rfl rfl (by decide) rfl rfl rfl hl.1 rfl (Nat.le_of_ble_eq_true rfl) dX1_addEmptyPacket_66 ⟨Nat.le_of_ble_eq_true rfl, Nat.le_of_ble_eq_true rfl⟩ (fun H locs hP hD hS => ?_)
      have ef : upd (rwr f (hd + k) (emp L) (6 + i)) ((hd + (k + (6 + i))) % 4096) 85 = rwr f (hd + k) (emp L) (6 + i + 1) := by simp only [rwr]; rw [Nat.add_assoc]; congr 1; exact (emp_85 L (6 + i) (by omega)).symm
      rw [ef] at hP hD
      refine lv_iinc (v := nI (i + 1)) (lv' := [(3, .int (nI (i + 1))), (2, .int (nI (L - 6))), (0, .ref h), (1, .int (nI L))]) hx hb dX1_addEmptyPacket_69 hl (k := 0) rfl (nI_1 _) (by decide) rfl (fun ls hl => ?_)
      refine lv_goto (tgt := 58) hx hb dX1_addEmptyPacket_72 (by decide) ?_
      exact ih (i + 1) H locs ls (by omega) hP hD hS (lv_sub hl [0, 1, 2, 3] rfl)
  exact loop (L - 6) 0 _ _ ls (by omega) hP hD hS (lv_sub hl [0, 1, 2, 3] rfl)

set_option maxHeartbeats 4000000 in
set_option maxRecDepth 100000 in
/-- fillUpTo(a), enough waits -/
theorem c_ch_fill0 (l : Launch) (D : va_G) (cA : ClassId) (h r : Nat) (f : Nat → Int32) (hd k : Nat) (a : Nat) (ha : a ≤ k) (hk : k ≤ 4096) : MV0 l yX1_fillUpTo wsX1_fillUpTo { frames := 2, cells := 0, slots := 0, locals := 44 } [.ref h, .int (nI a)] D [(cA, .int)] [(h, .inr (1, [.ref r, .int (nI hd), .int (nI k)])), (r, .inl (cA, 4096, .inl f))] [(h, .inr (1, [.ref r, .int (nI hd), .int (nI k)])), (r, .inl (cA, 4096, .inl f))] := by
  refine mt_v (by decide) rfl (Nat.le_of_ble_eq_true rfl) ?_
  intro p e s m below meth c A ls Q hx hb hts hown hml hin hN hK hA hP hD hS hl hex
  have hown : s.vm.findClass RX1 = some m.cls := hown
  have hl : lv_has ls 2 [(0, .ref h), (1, .int (nI a))] := hl
  have iX1 : ∀ w ∈ wsX10, w ∈ wsX1_fillUpTo := by decide +kernel
  have lk19 := hts (.fieldLink RX1 19 "DownFrames$Channel" "size" "I") (by decide +kernel)
  refine lv_aload_n hx hb dX1_fillUpTo_0 rfl (lv_at hl 0 rfl) ?_
  refine va_get (D := D) (ci := 1) (v := .int (nI k)) hx hb hts iX1 hown hK hP 0 rfl rfl 2 (by decide) lk19 (fun _ h => h) rfl dX1_fillUpTo_1 ?_
  refine lv_iload_n hx hb dX1_fillUpTo_4 rfl (lv_at hl 1 rfl) ?_
  refine lv_icmp_ge (tgt := 23) hx hb dX1_fillUpTo_5 (by decide) (fun _ => ?_) (fun cc => absurd (nI_le ha (by omega)) cc)
  exact hex _ _ _ _ () hS (trivial) hP hD dX1_fillUpTo_23

set_option maxHeartbeats 4000000 in
set_option maxRecDepth 100000 in
/-- fillUpTo(a), too little waits -/
theorem c_ch_fill1 (l : Launch) (D : va_G) (cA : ClassId) (h r : Nat) (f : Nat → Int32) (hd k : Nat) (a : Nat) (hh : hd < 4096) (ha : k < a) (hk : a ≤ 4000) : MV0 l yX1_fillUpTo wsX1_fillUpTo { frames := 2, cells := 0, slots := 0, locals := 44 } [.ref h, .int (nI a)] D [(cA, .int)] [(h, .inr (1, [.ref r, .int (nI hd), .int (nI k)])), (r, .inl (cA, 4096, .inl f))] [(h, .inr (1, [.ref r, .int (nI hd), .int (nI (k + max (a - k) 7))])), (r, .inl (cA, 4096, .inl (rwr f (hd + k) (emp (max (a - k) 7)) (max (a - k) 7))))] := by
  refine mt_v (by decide) rfl (Nat.le_of_ble_eq_true rfl) ?_
  intro p e s m below meth c A ls Q hx hb hts hown hml hin hN hK hA hP hD hS hl hex
  have hown : s.vm.findClass RX1 = some m.cls := hown
  have hl : lv_has ls 2 [(0, .ref h), (1, .int (nI a))] := hl
  have iX1 : ∀ w ∈ wsX10, w ∈ wsX1_fillUpTo := by decide +kernel
  have lk19 := hts (.fieldLink RX1 19 "DownFrames$Channel" "size" "I") (by decide +kernel)
  have mx1 := hts (.methodLink RX1 33 Lib.Math.max.name) (by decide +kernel)
  have mx2 := hts (.static Lib.Math.max.name) (by decide +kernel)
  have mx3 := hts (.initialized "java/lang/Math") (by decide +kernel)
  have mx4 : (Cond.code Lib.Math.max.name Lib.Math.max.code 2 (some .int)).before _ s = true := hts _ (List.mem_of_getElem? (i := 5) rfl)
  refine lv_aload_n hx hb dX1_fillUpTo_0 rfl (lv_at hl 0 rfl) ?_
  refine va_get (D := D) (ci := 1) (v := .int (nI k)) hx hb hts iX1 hown hK hP 0 rfl rfl 2 (by decide) lk19 (fun _ h => h) rfl dX1_fillUpTo_1 ?_
  refine lv_iload_n hx hb dX1_fillUpTo_4 rfl (lv_at hl 1 rfl) ?_
  refine lv_icmp_ge (tgt := 23) hx hb dX1_fillUpTo_5 (by decide) (fun cc => absurd cc (nI_ge ha (by omega))) (fun _ => ?_)
  refine lv_aload_n hx hb dX1_fillUpTo_8 rfl (lv_at hl 0 rfl) ?_
  refine lv_iload_n hx hb dX1_fillUpTo_9 rfl (lv_at hl 1 rfl) ?_
  refine lv_aload_n hx hb dX1_fillUpTo_10 rfl (lv_at hl 0 rfl) ?_
  refine va_get (D := D) (ci := 1) (v := .int (nI k)) hx hb hts iX1 hown hK hP 0 rfl rfl 2 (by decide) lk19 (fun _ h => h) rfl dX1_fillUpTo_11 ?_
  refine lv_isub hx hb dX1_fillUpTo_14 ?_
  refine tp_i (y := nI (a - k)) (pk_sub (by omega)) ?_
  refine lv_bipush (v := 7) hx hb dX1_fillUpTo_15 (by decide +kernel) ?_
  refine va_mmax hx hb (by rw [hml]; exact hl.1.symm) hown mx1 mx2 mx3 mx4 (Nat.le_of_ble_eq_true rfl) (Nat.le_of_ble_eq_true rfl) (Nat.le_of_ble_eq_true rfl) (Nat.le_of_ble_eq_true rfl) dX1_fillUpTo_17 ?_
  refine tp_i (y := nI (max (a - k) 7)) (by rw [show (7 : Int32) = nI 7 from rfl]; exact mx_nat (by omega) (by omega)) ?_
  refine cl0_vv ⟨hx, hb, hml, hown, hts⟩ (c_ch_empty l D cA h r f hd k (max (a - k) 7) hh (by omega) (by omega)) (cwV 1 hts gX1_fillUpTo_X1_addEmptyPacket rfl rfl rfl (by decide +kernel) ⟨Nat.le_of_ble_eq_true rfl, Nat.le_of_ble_eq_true rfl⟩) (ci := 1) (q0 := 0) rfl rfl hN hK hP hD hS hA [0, 1] [] [0, 1] [] [(h, .inr (1, [.ref r, .int (nI hd), .int (nI (k + (max (a - k) 7)))])), (r, .inl (cA, 4096, .inl (rwr f (hd + k) (emp (max (a - k) 7)) (max (a - k) 7))))] [] rfl rfl rfl rfl (by decide) rfl rfl rfl hl.1 rfl (Nat.le_of_ble_eq_true rfl) dX1_fillUpTo_20 ⟨Nat.le_of_ble_eq_true rfl, Nat.le_of_ble_eq_true rfl⟩ (fun H locs hP hD hS => ?_)
  exact hex _ _ _ _ () hS (trivial) hP hD dX1_fillUpTo_23

theorem c_ch_fill (l : Launch) (D : va_G) (cA : ClassId) (h r : Nat) (f : Nat → Int32) (hd k : Nat) (a : Nat) (hh : hd < 4096) (hk : k ≤ 4096) (ha : a ≤ 4000) : MV0 l yX1_fillUpTo wsX1_fillUpTo { frames := 2, cells := 0, slots := 0, locals := 44 } [.ref h, .int (nI a)] D [(cA, .int)] [(h, .inr (1, [.ref r, .int (nI hd), .int (nI k)])), (r, .inl (cA, 4096, .inl f))] [(h, .inr (1, [.ref r, .int (nI hd), .int (nI (filK k a))])), (r, .inl (cA, 4096, .inl (filF f hd k a)))] := by
  by_cases q : k < a
  · rw [show filF f hd k a = rwr f (hd + k) (emp (max (a - k) 7)) (max (a - k) 7) from if_pos q, show filK k a = k + max (a - k) 7 from if_pos q]
    exact c_ch_fill1 l D cA h r f hd k a hh q ha
  · rw [show filF f hd k a = f from if_neg q, show filK k a = k from if_neg q]
    exact c_ch_fill0 l D cA h r f hd k a (by omega) hk
end
section
set_option maxHeartbeats 4000000 in
set_option maxRecDepth 100000 in
/-- channelOf -/
theorem c_x_of0 (l : Launch) (D : va_G) (cA : ClassId) (x len t v c0 c1 fr : Nat) : MQ0 l yX2_channelOf wsX2_channelOf { frames := 0, cells := 0, slots := 0, locals := 0 } [.ref x, .int 0] D [(cA, .int)] [(x, .inr (2, [.int (nI len), .ref t, .ref v, .ref c0, .ref c1, .ref fr]))] (some c0) [(x, .inr (2, [.int (nI len), .ref t, .ref v, .ref c0, .ref c1, .ref fr]))] := by
  refine mt_q (by decide) rfl (Nat.le_of_ble_eq_true rfl) ?_
  intro p e s m below meth c A ls Q hx hb hts hown hml hin hN hK hA hP hD hS hl hex
  have hown : s.vm.findClass RX2 = some m.cls := hown
  have hl : lv_has ls 2 [(0, .ref x), (1, .int 0)] := hl
  have iX2 : ∀ w ∈ wsX20, w ∈ wsX2_channelOf := by decide +kernel
  have lk37 := hts (.fieldLink RX2 37 "DownFrames" "channel0" "LDownFrames$Channel;") (by decide +kernel)
  refine lv_iload_n hx hb dX2_channelOf_0 rfl (lv_at hl 1 rfl) ?_
  refine lv_if_ne (tgt := 9) hx hb dX2_channelOf_1 (by decide) (fun cc => absurd (rfl) cc) (fun _ => ?_)
  refine lv_aload_n hx hb dX2_channelOf_4 rfl (lv_at hl 0 rfl) ?_
  refine va_get (D := D) (ci := 2) (v := .ref c0) hx hb hts iX2 hown hK hP 0 rfl rfl 3 (by decide) lk37 (fun _ h => h) rfl dX2_channelOf_5 ?_
  exact hex _ _ _ _ (some c0) () hS (rfl) hP hD dX2_channelOf_8

set_option maxHeartbeats 4000000 in
set_option maxRecDepth 100000 in
/-- channelOf -/
theorem c_x_of1 (l : Launch) (D : va_G) (cA : ClassId) (x len t v c0 c1 fr : Nat) : MQ0 l yX2_channelOf wsX2_channelOf { frames := 0, cells := 0, slots := 0, locals := 0 } [.ref x, .int 1] D [(cA, .int)] [(x, .inr (2, [.int (nI len), .ref t, .ref v, .ref c0, .ref c1, .ref fr]))] (some c1) [(x, .inr (2, [.int (nI len), .ref t, .ref v, .ref c0, .ref c1, .ref fr]))] := by
  refine mt_q (by decide) rfl (Nat.le_of_ble_eq_true rfl) ?_
  intro p e s m below meth c A ls Q hx hb hts hown hml hin hN hK hA hP hD hS hl hex
  have hown : s.vm.findClass RX2 = some m.cls := hown
  have hl : lv_has ls 2 [(0, .ref x), (1, .int 1)] := hl
  have iX2 : ∀ w ∈ wsX20, w ∈ wsX2_channelOf := by decide +kernel
  have lk41 := hts (.fieldLink RX2 41 "DownFrames" "channel1" "LDownFrames$Channel;") (by decide +kernel)
  refine lv_iload_n hx hb dX2_channelOf_0 rfl (lv_at hl 1 rfl) ?_
  refine lv_if_ne (tgt := 9) hx hb dX2_channelOf_1 (by decide) (fun _ => ?_) (fun cc => absurd cc (by decide))
  refine lv_iload_n hx hb dX2_channelOf_9 rfl (lv_at hl 1 rfl) ?_
  refine lv_iconst (v := 1) hx hb dX2_channelOf_10 (by decide) ?_
  refine lv_icmp_ne (tgt := 21) hx hb dX2_channelOf_11 (by decide) (fun cc => absurd (rfl) cc) (fun _ => ?_)
  refine lv_aload_n hx hb dX2_channelOf_14 rfl (lv_at hl 0 rfl) ?_
  refine va_get (D := D) (ci := 2) (v := .ref c1) hx hb hts iX2 hown hK hP 0 rfl rfl 4 (by decide) lk41 (fun _ h => h) rfl dX2_channelOf_15 ?_
  refine lv_goto (tgt := 22) hx hb dX2_channelOf_18 (by decide) ?_
  exact hex _ _ _ _ (some c1) () hS (rfl) hP hD dX2_channelOf_22

set_option maxHeartbeats 4000000 in
set_option maxRecDepth 100000 in
/-- channelOf -/
theorem c_x_ofN (l : Launch) (D : va_G) (cA : ClassId) (x len t v c0 c1 fr : Nat) (z : Int32) (hz0 : ¬ z = 0) (hz1 : ¬ z = 1) : MQ0 l yX2_channelOf wsX2_channelOf { frames := 0, cells := 0, slots := 0, locals := 0 } [.ref x, .int z] D [(cA, .int)] [(x, .inr (2, [.int (nI len), .ref t, .ref v, .ref c0, .ref c1, .ref fr]))] none [(x, .inr (2, [.int (nI len), .ref t, .ref v, .ref c0, .ref c1, .ref fr]))] := by
  refine mt_q (by decide) rfl (Nat.le_of_ble_eq_true rfl) ?_
  intro p e s m below meth c A ls Q hx hb hts hown hml hin hN hK hA hP hD hS hl hex
  have hown : s.vm.findClass RX2 = some m.cls := hown
  have hl : lv_has ls 2 [(0, .ref x), (1, .int z)] := hl
  refine lv_iload_n hx hb dX2_channelOf_0 rfl (lv_at hl 1 rfl) ?_
  refine lv_if_ne (tgt := 9) hx hb dX2_channelOf_1 (by decide) (fun _ => ?_) (fun cc => absurd cc (hz0))
  refine lv_iload_n hx hb dX2_channelOf_9 rfl (lv_at hl 1 rfl) ?_
  refine lv_iconst (v := 1) hx hb dX2_channelOf_10 (by decide) ?_
  refine lv_icmp_ne (tgt := 21) hx hb dX2_channelOf_11 (by decide) (fun _ => ?_) (fun cc => absurd cc (hz1))
  refine lv_null hx hb dX2_channelOf_21 ?_
  exact hex _ _ _ _ none () hS (rfl) hP hD dX2_channelOf_22

set_option maxHeartbeats 4000000 in
set_option maxRecDepth 100000 in
/-- nextChannel -/
theorem c_x_next0 (l : Launch) (D : va_G) (cA : ClassId) (x len t v c0 c1 fr : Nat) (r0 h0 k0 r1 h1 k1 : Nat) (hk : 0 < k0) (hbk : k0 ≤ 4096) : MI0 l yX2_nextChannel wsX2_nextChannel { frames := 0, cells := 0, slots := 0, locals := 0 } [.ref x] D [(cA, .int)] [(x, .inr (2, [.int (nI len), .ref t, .ref v, .ref c0, .ref c1, .ref fr])), (c0, .inr (1, [.ref r0, .int (nI h0), .int (nI k0)])), (c1, .inr (1, [.ref r1, .int (nI h1), .int (nI k1)]))] 0 [(x, .inr (2, [.int (nI len), .ref t, .ref v, .ref c0, .ref c1, .ref fr])), (c0, .inr (1, [.ref r0, .int (nI h0), .int (nI k0)])), (c1, .inr (1, [.ref r1, .int (nI h1), .int (nI k1)]))] := by
  refine mt_i (by decide) rfl (Nat.le_of_ble_eq_true rfl) ?_
  intro p e s m below meth c A ls Q hx hb hts hown hml hin hN hK hA hP hD hS hl hex
  have hown : s.vm.findClass RX2 = some m.cls := hown
  have hl : lv_has ls 1 [(0, .ref x)] := hl
  have iX1 : ∀ w ∈ wsX10, w ∈ wsX2_nextChannel := by decide +kernel
  have iX2 : ∀ w ∈ wsX20, w ∈ wsX2_nextChannel := by decide +kernel
  have lk37 := hts (.fieldLink RX2 37 "DownFrames" "channel0" "LDownFrames$Channel;") (by decide +kernel)
  have lk71 : (Cond.fieldLinkNest RX2 71 "DownFrames$Channel" "size" "I" "DownFrames").before ([.ref x] : List Value).toArray s = true := va_Nw.use rfl hN.2.1
  refine lv_aload_n hx hb dX2_nextChannel_0 rfl (lv_at hl 0 rfl) ?_
  refine va_get (D := D) (ci := 2) (v := .ref c0) hx hb hts iX2 hown hK hP 0 rfl rfl 3 (by decide) lk37 (fun _ h => h) rfl dX2_nextChannel_1 ?_
  refine va_getN (D := D) (ci := 1) (v := .int (nI k0)) hx hb hts iX1 hown hK hP 1 rfl rfl 2 (by decide) lk71 (fun _ h => h) rfl dX2_nextChannel_4 ?_
  refine lv_if_le (tgt := 12) hx hb dX2_nextChannel_7 (by decide) (fun cc => absurd cc (nI_nle hk (by omega))) (fun _ => ?_)
  refine lv_iconst (v := 0) hx hb dX2_nextChannel_10 (by decide) ?_
  exact hex _ _ _ _ _ () hS (rfl) hP hD dX2_nextChannel_11

set_option maxHeartbeats 4000000 in
set_option maxRecDepth 100000 in
/-- nextChannel -/
theorem c_x_next1 (l : Launch) (D : va_G) (cA : ClassId) (x len t v c0 c1 fr : Nat) (r0 h0 k0 r1 h1 k1 : Nat) (he : k0 = 0) (hk : 0 < k1) (hbk : k1 ≤ 4096) : MI0 l yX2_nextChannel wsX2_nextChannel { frames := 0, cells := 0, slots := 0, locals := 0 } [.ref x] D [(cA, .int)] [(x, .inr (2, [.int (nI len), .ref t, .ref v, .ref c0, .ref c1, .ref fr])), (c0, .inr (1, [.ref r0, .int (nI h0), .int (nI k0)])), (c1, .inr (1, [.ref r1, .int (nI h1), .int (nI k1)]))] 1 [(x, .inr (2, [.int (nI len), .ref t, .ref v, .ref c0, .ref c1, .ref fr])), (c0, .inr (1, [.ref r0, .int (nI h0), .int (nI k0)])), (c1, .inr (1, [.ref r1, .int (nI h1), .int (nI k1)]))] := by
  refine mt_i (by decide) rfl (Nat.le_of_ble_eq_true rfl) ?_
  intro p e s m below meth c A ls Q hx hb hts hown hml hin hN hK hA hP hD hS hl hex
  have hown : s.vm.findClass RX2 = some m.cls := hown
  have hl : lv_has ls 1 [(0, .ref x)] := hl
  have iX1 : ∀ w ∈ wsX10, w ∈ wsX2_nextChannel := by decide +kernel
  have iX2 : ∀ w ∈ wsX20, w ∈ wsX2_nextChannel := by decide +kernel
  have lk37 := hts (.fieldLink RX2 37 "DownFrames" "channel0" "LDownFrames$Channel;") (by decide +kernel)
  have lk41 := hts (.fieldLink RX2 41 "DownFrames" "channel1" "LDownFrames$Channel;") (by decide +kernel)
  have lk71 : (Cond.fieldLinkNest RX2 71 "DownFrames$Channel" "size" "I" "DownFrames").before ([.ref x] : List Value).toArray s = true := va_Nw.use rfl hN.2.1
  refine lv_aload_n hx hb dX2_nextChannel_0 rfl (lv_at hl 0 rfl) ?_
  refine va_get (D := D) (ci := 2) (v := .ref c0) hx hb hts iX2 hown hK hP 0 rfl rfl 3 (by decide) lk37 (fun _ h => h) rfl dX2_nextChannel_1 ?_
  refine va_getN (D := D) (ci := 1) (v := .int (nI k0)) hx hb hts iX1 hown hK hP 1 rfl rfl 2 (by decide) lk71 (fun _ h => h) rfl dX2_nextChannel_4 ?_
  refine lv_if_le (tgt := 12) hx hb dX2_nextChannel_7 (by decide) (fun _ => ?_) (fun cc => absurd (by rw [he]; decide) cc)
  refine lv_aload_n hx hb dX2_nextChannel_12 rfl (lv_at hl 0 rfl) ?_
  refine va_get (D := D) (ci := 2) (v := .ref c1) hx hb hts iX2 hown hK hP 0 rfl rfl 4 (by decide) lk41 (fun _ h => h) rfl dX2_nextChannel_13 ?_
  refine va_getN (D := D) (ci := 1) (v := .int (nI k1)) hx hb hts iX1 hown hK hP 2 rfl rfl 2 (by decide) lk71 (fun _ h => h) rfl dX2_nextChannel_16 ?_
  refine lv_if_le (tgt := 26) hx hb dX2_nextChannel_19 (by decide) (fun cc => absurd cc (nI_nle hk (by omega))) (fun _ => ?_)
  refine lv_iconst (v := 1) hx hb dX2_nextChannel_22 (by decide) ?_
  refine lv_goto (tgt := 28) hx hb dX2_nextChannel_23 (by decide) ?_
  exact hex _ _ _ _ _ () hS (rfl) hP hD dX2_nextChannel_28

set_option maxHeartbeats 4000000 in
set_option maxRecDepth 100000 in
/-- nextChannel -/
theorem c_x_next7 (l : Launch) (D : va_G) (cA : ClassId) (x len t v c0 c1 fr : Nat) (r0 h0 k0 r1 h1 k1 : Nat) (he : k0 = 0) (hf : k1 = 0) : MI0 l yX2_nextChannel wsX2_nextChannel { frames := 0, cells := 0, slots := 0, locals := 0 } [.ref x] D [(cA, .int)] [(x, .inr (2, [.int (nI len), .ref t, .ref v, .ref c0, .ref c1, .ref fr])), (c0, .inr (1, [.ref r0, .int (nI h0), .int (nI k0)])), (c1, .inr (1, [.ref r1, .int (nI h1), .int (nI k1)]))] 7 [(x, .inr (2, [.int (nI len), .ref t, .ref v, .ref c0, .ref c1, .ref fr])), (c0, .inr (1, [.ref r0, .int (nI h0), .int (nI k0)])), (c1, .inr (1, [.ref r1, .int (nI h1), .int (nI k1)]))] := by
  refine mt_i (by decide) rfl (Nat.le_of_ble_eq_true rfl) ?_
  intro p e s m below meth c A ls Q hx hb hts hown hml hin hN hK hA hP hD hS hl hex
  have hown : s.vm.findClass RX2 = some m.cls := hown
  have hl : lv_has ls 1 [(0, .ref x)] := hl
  have iX1 : ∀ w ∈ wsX10, w ∈ wsX2_nextChannel := by decide +kernel
  have iX2 : ∀ w ∈ wsX20, w ∈ wsX2_nextChannel := by decide +kernel
  have lk37 := hts (.fieldLink RX2 37 "DownFrames" "channel0" "LDownFrames$Channel;") (by decide +kernel)
  have lk41 := hts (.fieldLink RX2 41 "DownFrames" "channel1" "LDownFrames$Channel;") (by decide +kernel)
  have lk71 : (Cond.fieldLinkNest RX2 71 "DownFrames$Channel" "size" "I" "DownFrames").before ([.ref x] : List Value).toArray s = true := va_Nw.use rfl hN.2.1
  refine lv_aload_n hx hb dX2_nextChannel_0 rfl (lv_at hl 0 rfl) ?_
  refine va_get (D := D) (ci := 2) (v := .ref c0) hx hb hts iX2 hown hK hP 0 rfl rfl 3 (by decide) lk37 (fun _ h => h) rfl dX2_nextChannel_1 ?_
  refine va_getN (D := D) (ci := 1) (v := .int (nI k0)) hx hb hts iX1 hown hK hP 1 rfl rfl 2 (by decide) lk71 (fun _ h => h) rfl dX2_nextChannel_4 ?_
  refine lv_if_le (tgt := 12) hx hb dX2_nextChannel_7 (by decide) (fun _ => ?_) (fun cc => absurd (by rw [he]; decide) cc)
  refine lv_aload_n hx hb dX2_nextChannel_12 rfl (lv_at hl 0 rfl) ?_
  refine va_get (D := D) (ci := 2) (v := .ref c1) hx hb hts iX2 hown hK hP 0 rfl rfl 4 (by decide) lk41 (fun _ h => h) rfl dX2_nextChannel_13 ?_
  refine va_getN (D := D) (ci := 1) (v := .int (nI k1)) hx hb hts iX1 hown hK hP 2 rfl rfl 2 (by decide) lk71 (fun _ h => h) rfl dX2_nextChannel_16 ?_
  refine lv_if_le (tgt := 26) hx hb dX2_nextChannel_19 (by decide) (fun _ => ?_) (fun cc => absurd (by rw [hf]; decide) cc)
  refine lv_bipush (v := 7) hx hb dX2_nextChannel_26 (by decide +kernel) ?_
  exact hex _ _ _ _ _ () hS (rfl) hP hD dX2_nextChannel_28

set_option maxHeartbeats 4000000 in
set_option maxRecDepth 100000 in
/-- holdsPacket -/
theorem c_x_holds (l : Launch) (D : va_G) (cA : ClassId) (h r n : Nat) (f : Nat → Int32) (k : Nat) (hk : k ≤ n) (hn : n < 2 ^ 31) : MI0 l yX2_holdsPacket wsX2_holdsPacket { frames := 1, cells := 0, slots := 0, locals := 21 } [.ref h] D [(cA, .int)] [(h, .inr (0, [.ref r, .int (nI k)])), (r, .inl (cA, n, .inl f))] (hpk f k) [(h, .inr (0, [.ref r, .int (nI k)])), (r, .inl (cA, n, .inl f))] := by
  refine mt_z (by decide) rfl (Nat.le_of_ble_eq_true rfl) (fun v u h => by have h : v = hpk f k := h; rw [h]; unfold hpk; split; exact Or.inl rfl; split; exact Or.inr rfl; exact Or.inl rfl) ?_
  intro p e s m below meth c A ls Q hx hb hts hown hml hin hN hK hA hP hD hS hl hex
  have hown : s.vm.findClass RX2 = some m.cls := hown
  have hl : lv_has ls 2 [(0, .ref h)] := hl
  have iX0 : ∀ w ∈ wsX00, w ∈ wsX2_holdsPacket := by decide +kernel
  have lk63 : (Cond.fieldLinkNest RX2 63 "DownFrames$Bytes" "size" "I" "DownFrames").before ([.ref h] : List Value).toArray s = true := va_Nw.use rfl hN.1
  refine lv_aload_n hx hb dX2_holdsPacket_0 rfl (lv_at hl 0 rfl) ?_
  refine va_getN (D := D) (ci := 0) (v := .int (nI k)) hx hb hts iX0 hown hK hP 0 rfl rfl 1 (by decide) lk63 (fun _ h => h) rfl dX2_holdsPacket_1 ?_
  refine lv_bipush (v := 7) hx hb dX2_holdsPacket_4 (by decide +kernel) ?_
  refine lv_icmp_ge (tgt := 11) hx hb dX2_holdsPacket_6 (by decide) (fun z1 => ?_) (fun z1 => ?_)
  · have h7 : 7 ≤ k := Nat.not_lt.mp (fun q => nI_ge (b := 7) q (by decide) z1)
    refine lv_aload_n hx hb dX2_holdsPacket_11 rfl (lv_at hl 0 rfl) ?_
    refine lv_iconst (v := 4) hx hb dX2_holdsPacket_12 (by decide) ?_
    refine cl0_vi ⟨hx, hb, hml, hown, hts⟩ (c_by_at l D cA h r n f k 4 hk hn) (cwV 1 hts gX2_holdsPacket_X0_at rfl rfl rfl (by decide +kernel) ⟨Nat.le_of_ble_eq_true rfl, Nat.le_of_ble_eq_true rfl⟩) (ci := 0) (q0 := 0) rfl rfl hN hK hP hD hS hA [0, 1] [] [0, 1] [] [(h, .inr (0, [.ref r, .int (nI k)])), (r, .inl (cA, n, .inl f))] [] rfl rfl rfl rfl (by decide) rfl rfl rfl hl.1 rfl (Nat.le_of_ble_eq_true rfl) dX2_holdsPacket_13 ⟨Nat.le_of_ble_eq_true rfl, Nat.le_of_ble_eq_true rfl⟩ (fun H locs hP hD hS => ?_)
    refine tp_i (y := f 4) ((at_val (j := 4) (by decide) (nI_pos (by decide)) (nI_ge (by omega) (by omega))).symm) ?_
    refine lv_sipush (v := 256) hx hb dX2_holdsPacket_16 (by decide +kernel) ?_
    refine lv_imul hx hb dX2_holdsPacket_19 ?_
    refine lv_aload_n hx hb dX2_holdsPacket_20 rfl (lv_at hl 0 rfl) ?_
    refine lv_iconst (v := 5) hx hb dX2_holdsPacket_21 (by decide) ?_
    refine cl0_vi ⟨hx, hb, hml, hown, hts⟩ (c_by_at l D cA h r n f k 5 hk hn) (cwV 1 hts gX2_holdsPacket_X0_at rfl rfl rfl (by decide +kernel) ⟨Nat.le_of_ble_eq_true rfl, Nat.le_of_ble_eq_true rfl⟩) (ci := 0) (q0 := 0) rfl rfl hN hK hP hD hS hA [0, 1] [] [0, 1] [] [(h, .inr (0, [.ref r, .int (nI k)])), (r, .inl (cA, n, .inl f))] [.int ((f 4) * 256)] rfl rfl rfl rfl (by decide) rfl rfl rfl hl.1 rfl (Nat.le_of_ble_eq_true rfl) dX2_holdsPacket_22 ⟨Nat.le_of_ble_eq_true rfl, Nat.le_of_ble_eq_true rfl⟩ (fun H locs hP hD hS => ?_)
    refine tp_i (y := f 5) ((at_val (j := 5) (by decide) (nI_pos (by decide)) (nI_ge (by omega) (by omega))).symm) ?_
    refine lv_iadd hx hb dX2_holdsPacket_25 ?_
    refine lv_iconst (v := 1) hx hb dX2_holdsPacket_26 (by decide) ?_
    refine lv_iadd hx hb dX2_holdsPacket_27 ?_
    refine lv_istore_n (lv' := [(1, .int ((((f 4) * 256) + (f 5)) + 1)), (0, .ref h)]) hx hb dX2_holdsPacket_28 rfl hl (by decide) rfl (fun ls hl => ?_)
    refine lv_aload_n hx hb dX2_holdsPacket_29 rfl (lv_at hl 1 rfl) ?_
    refine va_getN (D := D) (ci := 0) (v := .int (nI k)) hx hb hts iX0 hown hK hP 0 rfl rfl 1 (by decide) lk63 (fun _ h => h) rfl dX2_holdsPacket_30 ?_
    refine lv_bipush (v := 6) hx hb dX2_holdsPacket_33 (by decide +kernel) ?_
    refine lv_iload_n hx hb dX2_holdsPacket_35 rfl (lv_at hl 0 rfl) ?_
    refine lv_iadd hx hb dX2_holdsPacket_36 ?_
    refine lv_icmp_ne (tgt := 44) hx hb dX2_holdsPacket_37 (by decide) (fun z2 => ?_) (fun z2 => ?_)
    · refine lv_iconst (v := 0) hx hb dX2_holdsPacket_44 (by decide) ?_
      exact hex _ _ _ _ _ () hS (by unfold hpk; rw [if_neg (by omega), if_neg z2]) hP hD dX2_holdsPacket_45
    · refine lv_iconst (v := 1) hx hb dX2_holdsPacket_40 (by decide) ?_
      refine lv_goto (tgt := 45) hx hb dX2_holdsPacket_41 (by decide) ?_
      exact hex _ _ _ _ _ () hS (by unfold hpk; rw [if_neg (by omega), if_pos z2]) hP hD dX2_holdsPacket_45
  · refine lv_iconst (v := 0) hx hb dX2_holdsPacket_9 (by decide) ?_
    exact hex _ _ _ _ _ () hS ((if_pos (Nat.not_le.mp (fun q => z1 (nI_le (a := 7) q (by omega))))).symm) hP hD dX2_holdsPacket_10
end
section
set_option maxHeartbeats 4000000 in
set_option maxRecDepth 100000 in
/-- give, refused -/
theorem c_x_give0 (l : Launch) (D : va_G) (cA : ClassId) (x len t v c0 c1 fr : Nat) (tr tk : Nat) (tf : Nat → Int32) (w : Int64) (z : Int32) (hk : tk ≤ 1024) (hz : z < 1 ∨ 8 < z ∨ nI (1024 - tk) < z) : MI0 l yX2_give wsX2_give { frames := 1, cells := 0, slots := 0, locals := 21 } [.ref x, .long w, .int z] D [(cA, .int)] [(x, .inr (2, [.int (nI len), .ref t, .ref v, .ref c0, .ref c1, .ref fr])), (t, .inr (0, [.ref tr, .int (nI tk)])), (tr, .inl (cA, 1024, .inl tf))] 0 [(x, .inr (2, [.int (nI len), .ref t, .ref v, .ref c0, .ref c1, .ref fr])), (t, .inr (0, [.ref tr, .int (nI tk)])), (tr, .inl (cA, 1024, .inl tf))] := by
  refine mt_z (by decide) rfl (Nat.le_of_ble_eq_true rfl) (fun v u h => Or.inl h) ?_
  intro p e s m below meth c A ls Q hx hb hts hown hml hin hN hK hA hP hD hS hl hex
  have hown : s.vm.findClass RX2 = some m.cls := hown
  have hl : lv_has ls 5 [(0, .ref x), (1, .long w), (3, .int z)] := hl
  have iX2 : ∀ w ∈ wsX20, w ∈ wsX2_give := by decide +kernel
  have lk27 := hts (.fieldLink RX2 27 "DownFrames" "tape" "LDownFrames$Bytes;") (by decide +kernel)
  refine lv_iload_n hx hb dX2_give_0 rfl (lv_at hl 2 rfl) ?_
  refine lv_iconst (v := 1) hx hb dX2_give_1 (by decide) ?_
  refine lv_icmp_lt (tgt := 22) hx hb dX2_give_2 (by decide) (fun z1 => ?_) (fun z1 => ?_)
  · refine lv_iconst (v := 0) hx hb dX2_give_22 (by decide) ?_
    exact hex _ _ _ _ _ () hS (rfl) hP hD dX2_give_23
  · refine lv_iload_n hx hb dX2_give_5 rfl (lv_at hl 2 rfl) ?_
    refine lv_bipush (v := 8) hx hb dX2_give_6 (by decide +kernel) ?_
    refine lv_icmp_gt (tgt := 22) hx hb dX2_give_8 (by decide) (fun z2 => ?_) (fun z2 => ?_)
    · refine lv_iconst (v := 0) hx hb dX2_give_22 (by decide) ?_
      exact hex _ _ _ _ _ () hS (rfl) hP hD dX2_give_23
    · refine lv_iload_n hx hb dX2_give_11 rfl (lv_at hl 2 rfl) ?_
      refine lv_aload_n hx hb dX2_give_12 rfl (lv_at hl 0 rfl) ?_
      refine va_get (D := D) (ci := 2) (v := .ref t) hx hb hts iX2 hown hK hP 0 rfl rfl 1 (by decide) lk27 (fun _ h => h) rfl dX2_give_13 ?_
      refine cl0_vi ⟨hx, hb, hml, hown, hts⟩ (c_by_room l D cA t tr 1024 tf tk hk) (cwV 0 hts gX2_give_X0_room rfl rfl rfl (by decide +kernel) ⟨Nat.le_of_ble_eq_true rfl, Nat.le_of_ble_eq_true rfl⟩) (ci := 0) (q0 := 0) rfl rfl hN hK hP hD hS hA [1, 2] [0] [0, 1, 2] [(x, .inr (2, [.int (nI len), .ref t, .ref v, .ref c0, .ref c1, .ref fr]))] [(x, .inr (2, [.int (nI len), .ref t, .ref v, .ref c0, .ref c1, .ref fr])), (t, .inr (0, [.ref tr, .int (nI tk)])), (tr, .inl (cA, 1024, .inl tf))] [.int z] rfl rfl rfl rfl (by decide) rfl rfl rfl hl.1 rfl (Nat.le_of_ble_eq_true rfl) dX2_give_16 ⟨Nat.le_of_ble_eq_true rfl, Nat.le_of_ble_eq_true rfl⟩ (fun H locs hP hD hS => ?_)
      refine lv_icmp_le (tgt := 24) hx hb dX2_give_19 (by decide) (fun z3 => ?_) (fun z3 => ?_)
      · exact absurd hz (fun q => by rcases q with q | q | q; exact z1 q; exact z2 q; exact Int32.not_lt.mpr z3 q)
      · refine lv_iconst (v := 0) hx hb dX2_give_22 (by decide) ?_
        exact hex _ _ _ _ _ () hS (rfl) hP hD dX2_give_23

set_option maxHeartbeats 4000000 in
set_option maxRecDepth 100000 in
/-- give, taken -/
theorem c_x_give1 (l : Launch) (D : va_G) (cA : ClassId) (x len t v c0 c1 fr : Nat) (tr tk : Nat) (tf : Nat → Int32) (w : Int64) (j : Nat) (h1 : 1 ≤ j) (h8 : j ≤ 8) (hj : tk + j ≤ 1024) (hk : tk ≤ 1024) : MI0 l yX2_give wsX2_give { frames := 1, cells := 0, slots := 0, locals := 21 } [.ref x, .long w, .int (nI j)] D [(cA, .int)] [(x, .inr (2, [.int (nI len), .ref t, .ref v, .ref c0, .ref c1, .ref fr])), (t, .inr (0, [.ref tr, .int (nI tk)])), (tr, .inl (cA, 1024, .inl tf))] 1 [(x, .inr (2, [.int (nI len), .ref t, .ref v, .ref c0, .ref c1, .ref fr])), (t, .inr (0, [.ref tr, .int (nI (tk + j))])), (tr, .inl (cA, 1024, .inl (lwr tf tk (gvb w) j)))] := by
  refine mt_z (by decide) rfl (Nat.le_of_ble_eq_true rfl) (fun v u h => Or.inr h) ?_
  intro p e s m below meth c A ls Q hx hb hts hown hml hin hN hK hA hP hD hS hl hex
  have hown : s.vm.findClass RX2 = some m.cls := hown
  have hl : lv_has ls 5 [(0, .ref x), (1, .long w), (3, .int (nI j))] := hl
  have iX2 : ∀ w ∈ wsX20, w ∈ wsX2_give := by decide +kernel
  have lk27 := hts (.fieldLink RX2 27 "DownFrames" "tape" "LDownFrames$Bytes;") (by decide +kernel)
  refine lv_iload_n hx hb dX2_give_0 rfl (lv_at hl 2 rfl) ?_
  refine lv_iconst (v := 1) hx hb dX2_give_1 (by decide) ?_
  refine lv_icmp_lt (tgt := 22) hx hb dX2_give_2 (by decide) (fun cc => absurd cc (nI_nlt (b := 1) h1 (by omega))) (fun _ => ?_)
  refine lv_iload_n hx hb dX2_give_5 rfl (lv_at hl 2 rfl) ?_
  refine lv_bipush (v := 8) hx hb dX2_give_6 (by decide +kernel) ?_
  refine lv_icmp_gt (tgt := 22) hx hb dX2_give_8 (by decide) (fun cc => absurd cc (nI_nlt (a := 8) h8 (by decide))) (fun _ => ?_)
  refine lv_iload_n hx hb dX2_give_11 rfl (lv_at hl 2 rfl) ?_
  refine lv_aload_n hx hb dX2_give_12 rfl (lv_at hl 0 rfl) ?_
  refine va_get (D := D) (ci := 2) (v := .ref t) hx hb hts iX2 hown hK hP 0 rfl rfl 1 (by decide) lk27 (fun _ h => h) rfl dX2_give_13 ?_
  refine cl0_vi ⟨hx, hb, hml, hown, hts⟩ (c_by_room l D cA t tr 1024 tf tk hk) (cwV 0 hts gX2_give_X0_room rfl rfl rfl (by decide +kernel) ⟨Nat.le_of_ble_eq_true rfl, Nat.le_of_ble_eq_true rfl⟩) (ci := 0) (q0 := 0) rfl rfl hN hK hP hD hS hA [1, 2] [0] [0, 1, 2] [(x, .inr (2, [.int (nI len), .ref t, .ref v, .ref c0, .ref c1, .ref fr]))] [(x, .inr (2, [.int (nI len), .ref t, .ref v, .ref c0, .ref c1, .ref fr])), (t, .inr (0, [.ref tr, .int (nI tk)])), (tr, .inl (cA, 1024, .inl tf))] [.int (nI j)] rfl rfl rfl rfl (by decide) rfl rfl rfl hl.1 rfl (Nat.le_of_ble_eq_true rfl) dX2_give_16 ⟨Nat.le_of_ble_eq_true rfl, Nat.le_of_ble_eq_true rfl⟩ (fun H locs hP hD hS => ?_)
  refine lv_icmp_le (tgt := 24) hx hb dX2_give_19 (by decide) (fun _ => ?_) (fun cc => absurd (nI_le (by omega) (by omega)) cc)
  refine lv_iconst (v := 0) hx hb dX2_give_24 (by decide) ?_
  refine lv_istore (lv' := [(4, .int 0), (0, .ref x), (1, .long w), (3, .int (nI j))]) hx hb dX2_give_25 hl (by decide) rfl (fun ls hl => ?_)
  have loop : ∀ (d i : Nat) (H : Heap) (locs : List Loc) (ls : Array Slot), i + d = j → va_P D vwCl [(x, .inr (2, [.int (nI len), .ref t, .ref v, .ref c0, .ref c1, .ref fr])), (t, .inr (0, [.ref tr, .int (nI (tk + i))])), (tr, .inl (cA, 1024, .inl (lwr tf tk (gvb w) i)))] H → va_D A [(x, .inr (2, [.int (nI len), .ref t, .ref v, .ref c0, .ref c1, .ref fr])), (t, .inr (0, [.ref tr, .int (nI (tk + i))])), (tr, .inl (cA, 1024, .inl (lwr tf tk (gvb w) i)))] → va_S A s.heap H locs → lv_has ls 5 [(4, .int (nI i)), (0, .ref x), (1, .long w), (3, .int (nI j))] → W p l e ({ frames := 1, cells := 0, slots := 0, locals := 21 } : Room) s m ([.ref x, .long w, .int (nI j)] : List Value).toArray below meth c H locs 0 0 Q (F0 m 27 ls []) := by
    intro d
    induction d with
    | zero =>
      intro i H locs ls hi hP hD hS hl
      have hi : i = j := hi
      subst hi
      refine lv_iload hx hb dX2_give_27 (lv_at hl 0 rfl) ?_
      refine lv_iload_n hx hb dX2_give_29 rfl (lv_at hl 3 rfl) ?_
      refine lv_icmp_ge (tgt := 57) hx hb dX2_give_30 (by decide) (fun _ => ?_) (fun cc => absurd (nI_le (Nat.le_refl _) (by omega)) cc)
      refine lv_iconst (v := 1) hx hb dX2_give_57 (by decide) ?_
      exact hex _ _ _ _ _ () hS (rfl) hP hD dX2_give_58
    | succ d ih =>
      intro i H locs ls hi hP hD hS hl
      refine lv_iload hx hb dX2_give_27 (lv_at hl 0 rfl) ?_
      refine lv_iload_n hx hb dX2_give_29 rfl (lv_at hl 3 rfl) ?_
      refine lv_icmp_ge (tgt := 57) hx hb dX2_give_30 (by decide) (fun cc => absurd cc (nI_ge (by omega) (by omega))) (fun _ => ?_)
      refine lv_aload_n hx hb dX2_give_33 rfl (lv_at hl 1 rfl) ?_
      refine va_get (D := D) (ci := 2) (v := .ref t) hx hb hts iX2 hown hK hP 0 rfl rfl 1 (by decide) lk27 (fun _ h => h) rfl dX2_give_34 ?_
      refine lv_lload_n hx hb dX2_give_37 rfl (lv_at hl 2 rfl) ?_
      refine lv_bipush (v := 56) hx hb dX2_give_38 (by decide +kernel) ?_
      refine lv_bipush (v := 8) hx hb dX2_give_40 (by decide +kernel) ?_
      refine lv_iload hx hb dX2_give_42 (lv_at hl 0 rfl) ?_
      refine lv_imul hx hb dX2_give_44 ?_
      refine lv_isub hx hb dX2_give_45 ?_
      refine lv_lushr (v := lsh w (56 - (8 * (nI i)))) hx hb dX2_give_46 rfl ?_
      refine lv_l2i (v := ((lsh w (56 - (8 * (nI i))))).toInt32) hx hb dX2_give_47 rfl ?_
      refine cl0_vv ⟨hx, hb, hml, hown, hts⟩ (c_by_put8 l D cA t tr 1024 (lwr tf tk (gvb w) i) (tk + i) ((lsh w (56 - (8 * (nI i)))).toInt32) (by omega) (by decide)) (cwV 1 hts gX2_give_X0_put8 rfl rfl rfl (by decide +kernel) ⟨Nat.le_of_ble_eq_true rfl, Nat.le_of_ble_eq_true rfl⟩) (ci := 0) (q0 := 0) rfl rfl hN hK hP hD hS hA [1, 2] [0] [0, 1, 2] [(x, .inr (2, [.int (nI len), .ref t, .ref v, .ref c0, .ref c1, .ref fr]))] [(x, .inr (2, [.int (nI len), .ref t, .ref v, .ref c0, .ref c1, .ref fr])), (t, .inr (0, [.ref tr, .int (nI (tk + i + 1))])), (tr, .inl (cA, 1024, .inl (upd (lwr tf tk (gvb w) i) (tk + i) (((lsh w (56 - (8 * (nI i)))).toInt32) &&& 255))))] [] rfl rfl rfl rfl (by decide) rfl rfl rfl hl.1 rfl (Nat.le_of_ble_eq_true rfl) dX2_give_48 ⟨Nat.le_of_ble_eq_true rfl, Nat.le_of_ble_eq_true rfl⟩ (fun H locs hP hD hS => ?_)
      refine lv_iinc (v := nI (i + 1)) (lv' := [(4, .int (nI (i + 1))), (0, .ref x), (1, .long w), (3, .int (nI j))]) hx hb dX2_give_51 hl (k := 0) rfl (nI_1 _) (by decide) rfl (fun ls hl => ?_)
      refine lv_goto (tgt := 27) hx hb dX2_give_54 (by decide) ?_
      exact ih (i + 1) H locs ls (by omega) hP hD hS (lv_sub hl [0, 1, 2, 3] rfl)
  exact loop j 0 _ _ ls (by omega) hP hD hS (lv_sub hl [0, 1, 2, 3] rfl)

set_option maxHeartbeats 4000000 in
set_option maxRecDepth 100000 in
/-- send, taken -/
theorem c_x_send0 (l : Launch) (D : va_G) (cA : ClassId) (x len t v c0 c1 fr : Nat) (tr tk : Nat) (tf : Nat → Int32) (r0 h0 k0 : Nat) (f0 : Nat → Int32) (hk : tk ≤ 1024) (hc : k0 ≤ 4096) (hh : h0 < 4096) (hp : hpk tf tk = 1) (hs : k0 + tk ≤ 4096) : MI0 l yX2_send wsX2_send { frames := 2, cells := 0, slots := 0, locals := 43 } [.ref x, .int 0] D [(cA, .int)] [(x, .inr (2, [.int (nI len), .ref t, .ref v, .ref c0, .ref c1, .ref fr])), (t, .inr (0, [.ref tr, .int (nI tk)])), (tr, .inl (cA, 1024, .inl tf)), (c0, .inr (1, [.ref r0, .int (nI h0), .int (nI k0)])), (r0, .inl (cA, 4096, .inl f0))] (nI (k0 + tk)) [(x, .inr (2, [.int (nI len), .ref t, .ref v, .ref c0, .ref c1, .ref fr])), (t, .inr (0, [.ref tr, .int (nI 0)])), (tr, .inl (cA, 1024, .inl tf)), (c0, .inr (1, [.ref r0, .int (nI h0), .int (nI (k0 + tk))])), (r0, .inl (cA, 4096, .inl (rwr f0 (h0 + k0) (mkd tf) tk)))] := by
  refine mt_i (by decide) rfl (Nat.le_of_ble_eq_true rfl) ?_
  intro p e s m below meth c A ls Q hx hb hts hown hml hin hN hK hA hP hD hS hl hex
  have hown : s.vm.findClass RX2 = some m.cls := hown
  have hl : lv_has ls 4 [(0, .ref x), (1, .int 0)] := hl
  have iX0 : ∀ w ∈ wsX00, w ∈ wsX2_send := by decide +kernel
  have iX1 : ∀ w ∈ wsX10, w ∈ wsX2_send := by decide +kernel
  have iX2 : ∀ w ∈ wsX20, w ∈ wsX2_send := by decide +kernel
  have lk27 := hts (.fieldLink RX2 27 "DownFrames" "tape" "LDownFrames$Bytes;") (by decide +kernel)
  have lk63 : (Cond.fieldLinkNest RX2 63 "DownFrames$Bytes" "size" "I" "DownFrames").before ([.ref x, .int 0] : List Value).toArray s = true := va_Nw.use rfl hN.1
  have lk71 : (Cond.fieldLinkNest RX2 71 "DownFrames$Channel" "size" "I" "DownFrames").before ([.ref x, .int 0] : List Value).toArray s = true := va_Nw.use rfl hN.2.1
  refine lv_iconst (v := (-1)) hx hb dX2_send_0 (by decide) ?_
  refine lv_istore_n (lv' := [(2, .int (-1)), (0, .ref x), (1, .int 0)]) hx hb dX2_send_1 rfl hl (by decide) rfl (fun ls hl => ?_)
  refine lv_aload_n hx hb dX2_send_2 rfl (lv_at hl 1 rfl) ?_
  refine lv_iload_n hx hb dX2_send_3 rfl (lv_at hl 2 rfl) ?_
  refine cl0_vR ⟨hx, hb, hml, hown, hts⟩ (c_x_of0 l D cA x len t v c0 c1 fr) (cwV 1 hts gX2_send_X2_channelOf rfl rfl rfl (by decide +kernel) ⟨Nat.le_of_ble_eq_true rfl, Nat.le_of_ble_eq_true rfl⟩) (ci := 2) (q0 := 0) rfl rfl hN hK hP hD hS hA [0] [1, 2, 3, 4] [4, 0, 1, 2, 3] [(t, .inr (0, [.ref tr, .int (nI tk)])), (tr, .inl (cA, 1024, .inl tf)), (c0, .inr (1, [.ref r0, .int (nI h0), .int (nI k0)])), (r0, .inl (cA, 4096, .inl f0))] [(x, .inr (2, [.int (nI len), .ref t, .ref v, .ref c0, .ref c1, .ref fr])), (t, .inr (0, [.ref tr, .int (nI tk)])), (tr, .inl (cA, 1024, .inl tf)), (c0, .inr (1, [.ref r0, .int (nI h0), .int (nI k0)])), (r0, .inl (cA, 4096, .inl f0))] [] rfl rfl rfl rfl (by decide) rfl rfl rfl hl.1 rfl (Nat.le_of_ble_eq_true rfl) dX2_send_4 ⟨Nat.le_of_ble_eq_true rfl, Nat.le_of_ble_eq_true rfl⟩ (fun H locs hP hD hS => ?_)
  refine lv_astore_n (lv' := [(3, .ref c0), (2, .int (-1)), (0, .ref x), (1, .int 0)]) hx hb dX2_send_7 rfl hl (by decide) rfl (fun ls hl => ?_)
  refine lv_aload_n hx hb dX2_send_8 rfl (lv_at hl 0 rfl) ?_
  refine lv_ifnull hx hb dX2_send_9 ?_
  refine lv_aload_n hx hb dX2_send_12 rfl (lv_at hl 2 rfl) ?_
  refine va_get (D := D) (ci := 2) (v := .ref t) hx hb hts iX2 hown hK hP 0 rfl rfl 1 (by decide) lk27 (fun _ h => h) rfl dX2_send_13 ?_
  refine cl0_si ⟨hx, hb, hml, hown, hts⟩ (c_x_holds l D cA t tr 1024 tf tk hk (by decide)) (va_cwS 1 hts gX2_send_X2_holdsPacket rfl rfl rfl (by decide +kernel) ⟨Nat.le_of_ble_eq_true rfl, Nat.le_of_ble_eq_true rfl⟩) hN hK hP hD hS hA [1, 2] [0, 3, 4] [0, 3, 4, 1, 2] [(x, .inr (2, [.int (nI len), .ref t, .ref v, .ref c0, .ref c1, .ref fr])), (c0, .inr (1, [.ref r0, .int (nI h0), .int (nI k0)])), (r0, .inl (cA, 4096, .inl f0))] [(x, .inr (2, [.int (nI len), .ref t, .ref v, .ref c0, .ref c1, .ref fr])), (t, .inr (0, [.ref tr, .int (nI tk)])), (tr, .inl (cA, 1024, .inl tf)), (c0, .inr (1, [.ref r0, .int (nI h0), .int (nI k0)])), (r0, .inl (cA, 4096, .inl f0))] [] rfl rfl rfl rfl (by decide) rfl rfl rfl hl.1 rfl (Nat.le_of_ble_eq_true rfl) dX2_send_16 ⟨Nat.le_of_ble_eq_true rfl, Nat.le_of_ble_eq_true rfl⟩ (fun H locs hP hD hS => ?_)
  refine lv_if_eq (tgt := 49) hx hb dX2_send_19 (by decide) (fun cc => absurd cc (by rw [hp]; decide)) (fun _ => ?_)
  refine lv_aload_n hx hb dX2_send_22 rfl (lv_at hl 2 rfl) ?_
  refine va_get (D := D) (ci := 2) (v := .ref t) hx hb hts iX2 hown hK hP 0 rfl rfl 1 (by decide) lk27 (fun _ h => h) rfl dX2_send_23 ?_
  refine va_getN (D := D) (ci := 0) (v := .int (nI tk)) hx hb hts iX0 hown hK hP 1 rfl rfl 1 (by decide) lk63 (fun _ h => h) rfl dX2_send_26 ?_
  refine lv_aload_n hx hb dX2_send_29 rfl (lv_at hl 0 rfl) ?_
  refine cl0_vi ⟨hx, hb, hml, hown, hts⟩ (c_ch_room l D cA c0 r0 f0 h0 k0 hc) (cwV 0 hts gX2_send_X1_room rfl rfl rfl (by decide +kernel) ⟨Nat.le_of_ble_eq_true rfl, Nat.le_of_ble_eq_true rfl⟩) (ci := 1) (q0 := 0) rfl rfl hN hK hP hD hS hA [3, 4] [0, 1, 2] [0, 1, 2, 3, 4] [(x, .inr (2, [.int (nI len), .ref t, .ref v, .ref c0, .ref c1, .ref fr])), (t, .inr (0, [.ref tr, .int (nI tk)])), (tr, .inl (cA, 1024, .inl tf))] [(x, .inr (2, [.int (nI len), .ref t, .ref v, .ref c0, .ref c1, .ref fr])), (t, .inr (0, [.ref tr, .int (nI tk)])), (tr, .inl (cA, 1024, .inl tf)), (c0, .inr (1, [.ref r0, .int (nI h0), .int (nI k0)])), (r0, .inl (cA, 4096, .inl f0))] [.int (nI tk)] rfl rfl rfl rfl (by decide) rfl rfl rfl hl.1 rfl (Nat.le_of_ble_eq_true rfl) dX2_send_30 ⟨Nat.le_of_ble_eq_true rfl, Nat.le_of_ble_eq_true rfl⟩ (fun H locs hP hD hS => ?_)
  refine lv_icmp_gt (tgt := 49) hx hb dX2_send_33 (by decide) (fun cc => absurd cc (nI_nlt (by omega) (by omega))) (fun _ => ?_)
  refine lv_aload_n hx hb dX2_send_36 rfl (lv_at hl 0 rfl) ?_
  refine lv_aload_n hx hb dX2_send_37 rfl (lv_at hl 2 rfl) ?_
  refine va_get (D := D) (ci := 2) (v := .ref t) hx hb hts iX2 hown hK hP 0 rfl rfl 1 (by decide) lk27 (fun _ h => h) rfl dX2_send_38 ?_
  refine cl0_vv ⟨hx, hb, hml, hown, hts⟩ (c_ch_addPacket l D cA c0 r0 f0 h0 k0 t tr 1024 tf tk hh (by omega) hk (by decide)) (cwV 1 hts gX2_send_X1_addPacket rfl rfl rfl (by decide +kernel) ⟨Nat.le_of_ble_eq_true rfl, Nat.le_of_ble_eq_true rfl⟩) (ci := 1) (q0 := 0) rfl rfl hN hK hP hD hS hA [3, 4, 1, 2] [0] [0, 3, 4, 1, 2] [(x, .inr (2, [.int (nI len), .ref t, .ref v, .ref c0, .ref c1, .ref fr]))] [(x, .inr (2, [.int (nI len), .ref t, .ref v, .ref c0, .ref c1, .ref fr])), (t, .inr (0, [.ref tr, .int (nI tk)])), (tr, .inl (cA, 1024, .inl tf)), (c0, .inr (1, [.ref r0, .int (nI h0), .int (nI (k0 + tk))])), (r0, .inl (cA, 4096, .inl (rwr f0 (h0 + k0) (mkd tf) tk)))] [] rfl rfl rfl rfl (by decide) rfl rfl rfl hl.1 rfl (Nat.le_of_ble_eq_true rfl) dX2_send_41 ⟨Nat.le_of_ble_eq_true rfl, Nat.le_of_ble_eq_true rfl⟩ (fun H locs hP hD hS => ?_)
  refine lv_aload_n hx hb dX2_send_44 rfl (lv_at hl 0 rfl) ?_
  refine va_getN (D := D) (ci := 1) (v := .int (nI (k0 + tk))) hx hb hts iX1 hown hK hP 3 rfl rfl 2 (by decide) lk71 (fun _ h => h) rfl dX2_send_45 ?_
  refine lv_istore_n (lv' := [(2, .int (nI (k0 + tk))), (3, .ref c0), (0, .ref x), (1, .int 0)]) hx hb dX2_send_48 rfl hl (by decide) rfl (fun ls hl => ?_)
  refine lv_aload_n hx hb dX2_send_49 rfl (lv_at hl 2 rfl) ?_
  refine va_get (D := D) (ci := 2) (v := .ref t) hx hb hts iX2 hown hK hP 0 rfl rfl 1 (by decide) lk27 (fun _ h => h) rfl dX2_send_50 ?_
  refine cl0_vv ⟨hx, hb, hml, hown, hts⟩ (c_by_clear l D cA t tr 1024 tf tk) (cwV 0 hts gX2_send_X0_clear rfl rfl rfl (by decide +kernel) ⟨Nat.le_of_ble_eq_true rfl, Nat.le_of_ble_eq_true rfl⟩) (ci := 0) (q0 := 0) rfl rfl hN hK hP hD hS hA [1, 2] [0, 3, 4] [0, 3, 4, 1, 2] [(x, .inr (2, [.int (nI len), .ref t, .ref v, .ref c0, .ref c1, .ref fr])), (c0, .inr (1, [.ref r0, .int (nI h0), .int (nI (k0 + tk))])), (r0, .inl (cA, 4096, .inl (rwr f0 (h0 + k0) (mkd tf) tk)))] [(x, .inr (2, [.int (nI len), .ref t, .ref v, .ref c0, .ref c1, .ref fr])), (t, .inr (0, [.ref tr, .int (nI 0)])), (tr, .inl (cA, 1024, .inl tf)), (c0, .inr (1, [.ref r0, .int (nI h0), .int (nI (k0 + tk))])), (r0, .inl (cA, 4096, .inl (rwr f0 (h0 + k0) (mkd tf) tk)))] [] rfl rfl rfl rfl (by decide) rfl rfl rfl hl.1 rfl (Nat.le_of_ble_eq_true rfl) dX2_send_53 ⟨Nat.le_of_ble_eq_true rfl, Nat.le_of_ble_eq_true rfl⟩ (fun H locs hP hD hS => ?_)
  refine lv_iload_n hx hb dX2_send_56 rfl (lv_at hl 0 rfl) ?_
  exact hex _ _ _ _ _ () hS (rfl) hP hD dX2_send_57

set_option maxHeartbeats 4000000 in
set_option maxRecDepth 100000 in
/-- send, refused -/
theorem c_x_sendB0 (l : Launch) (D : va_G) (cA : ClassId) (x len t v c0 c1 fr : Nat) (tr tk : Nat) (tf : Nat → Int32) (r0 h0 k0 : Nat) (f0 : Nat → Int32) (hk : tk ≤ 1024) (hc : k0 ≤ 4096) (hh : h0 < 4096) (hs : hpk tf tk = 0 ∨ 4096 < k0 + tk) : MI0 l yX2_send wsX2_send { frames := 2, cells := 0, slots := 0, locals := 43 } [.ref x, .int 0] D [(cA, .int)] [(x, .inr (2, [.int (nI len), .ref t, .ref v, .ref c0, .ref c1, .ref fr])), (t, .inr (0, [.ref tr, .int (nI tk)])), (tr, .inl (cA, 1024, .inl tf)), (c0, .inr (1, [.ref r0, .int (nI h0), .int (nI k0)])), (r0, .inl (cA, 4096, .inl f0))] (-1) [(x, .inr (2, [.int (nI len), .ref t, .ref v, .ref c0, .ref c1, .ref fr])), (t, .inr (0, [.ref tr, .int (nI 0)])), (tr, .inl (cA, 1024, .inl tf)), (c0, .inr (1, [.ref r0, .int (nI h0), .int (nI k0)])), (r0, .inl (cA, 4096, .inl f0))] := by
  refine mt_i (by decide) rfl (Nat.le_of_ble_eq_true rfl) ?_
  intro p e s m below meth c A ls Q hx hb hts hown hml hin hN hK hA hP hD hS hl hex
  have hown : s.vm.findClass RX2 = some m.cls := hown
  have hl : lv_has ls 4 [(0, .ref x), (1, .int 0)] := hl
  have iX0 : ∀ w ∈ wsX00, w ∈ wsX2_send := by decide +kernel
  have iX2 : ∀ w ∈ wsX20, w ∈ wsX2_send := by decide +kernel
  have lk27 := hts (.fieldLink RX2 27 "DownFrames" "tape" "LDownFrames$Bytes;") (by decide +kernel)
  have lk63 : (Cond.fieldLinkNest RX2 63 "DownFrames$Bytes" "size" "I" "DownFrames").before ([.ref x, .int 0] : List Value).toArray s = true := va_Nw.use rfl hN.1
  refine lv_iconst (v := (-1)) hx hb dX2_send_0 (by decide) ?_
  refine lv_istore_n (lv' := [(2, .int (-1)), (0, .ref x), (1, .int 0)]) hx hb dX2_send_1 rfl hl (by decide) rfl (fun ls hl => ?_)
  refine lv_aload_n hx hb dX2_send_2 rfl (lv_at hl 1 rfl) ?_
  refine lv_iload_n hx hb dX2_send_3 rfl (lv_at hl 2 rfl) ?_
  refine cl0_vR ⟨hx, hb, hml, hown, hts⟩ (c_x_of0 l D cA x len t v c0 c1 fr) (cwV 1 hts gX2_send_X2_channelOf rfl rfl rfl (by decide +kernel) ⟨Nat.le_of_ble_eq_true rfl, Nat.le_of_ble_eq_true rfl⟩) (ci := 2) (q0 := 0) rfl rfl hN hK hP hD hS hA [0] [1, 2, 3, 4] [4, 0, 1, 2, 3] [(t, .inr (0, [.ref tr, .int (nI tk)])), (tr, .inl (cA, 1024, .inl tf)), (c0, .inr (1, [.ref r0, .int (nI h0), .int (nI k0)])), (r0, .inl (cA, 4096, .inl f0))] [(x, .inr (2, [.int (nI len), .ref t, .ref v, .ref c0, .ref c1, .ref fr])), (t, .inr (0, [.ref tr, .int (nI tk)])), (tr, .inl (cA, 1024, .inl tf)), (c0, .inr (1, [.ref r0, .int (nI h0), .int (nI k0)])), (r0, .inl (cA, 4096, .inl f0))] [] rfl rfl rfl rfl (by decide) rfl rfl rfl hl.1 rfl (Nat.le_of_ble_eq_true rfl) dX2_send_4 ⟨Nat.le_of_ble_eq_true rfl, Nat.le_of_ble_eq_true rfl⟩ (fun H locs hP hD hS => ?_)
  refine lv_astore_n (lv' := [(3, .ref c0), (2, .int (-1)), (0, .ref x), (1, .int 0)]) hx hb dX2_send_7 rfl hl (by decide) rfl (fun ls hl => ?_)
  refine lv_aload_n hx hb dX2_send_8 rfl (lv_at hl 0 rfl) ?_
  refine lv_ifnull hx hb dX2_send_9 ?_
  refine lv_aload_n hx hb dX2_send_12 rfl (lv_at hl 2 rfl) ?_
  refine va_get (D := D) (ci := 2) (v := .ref t) hx hb hts iX2 hown hK hP 0 rfl rfl 1 (by decide) lk27 (fun _ h => h) rfl dX2_send_13 ?_
  refine cl0_si ⟨hx, hb, hml, hown, hts⟩ (c_x_holds l D cA t tr 1024 tf tk hk (by decide)) (va_cwS 1 hts gX2_send_X2_holdsPacket rfl rfl rfl (by decide +kernel) ⟨Nat.le_of_ble_eq_true rfl, Nat.le_of_ble_eq_true rfl⟩) hN hK hP hD hS hA [1, 2] [0, 3, 4] [0, 3, 4, 1, 2] [(x, .inr (2, [.int (nI len), .ref t, .ref v, .ref c0, .ref c1, .ref fr])), (c0, .inr (1, [.ref r0, .int (nI h0), .int (nI k0)])), (r0, .inl (cA, 4096, .inl f0))] [(x, .inr (2, [.int (nI len), .ref t, .ref v, .ref c0, .ref c1, .ref fr])), (t, .inr (0, [.ref tr, .int (nI tk)])), (tr, .inl (cA, 1024, .inl tf)), (c0, .inr (1, [.ref r0, .int (nI h0), .int (nI k0)])), (r0, .inl (cA, 4096, .inl f0))] [] rfl rfl rfl rfl (by decide) rfl rfl rfl hl.1 rfl (Nat.le_of_ble_eq_true rfl) dX2_send_16 ⟨Nat.le_of_ble_eq_true rfl, Nat.le_of_ble_eq_true rfl⟩ (fun H locs hP hD hS => ?_)
  refine lv_if_eq (tgt := 49) hx hb dX2_send_19 (by decide) (fun z1 => ?_) (fun z1 => ?_)
  · refine lv_aload_n hx hb dX2_send_49 rfl (lv_at hl 2 rfl) ?_
    refine va_get (D := D) (ci := 2) (v := .ref t) hx hb hts iX2 hown hK hP 0 rfl rfl 1 (by decide) lk27 (fun _ h => h) rfl dX2_send_50 ?_
    refine cl0_vv ⟨hx, hb, hml, hown, hts⟩ (c_by_clear l D cA t tr 1024 tf tk) (cwV 0 hts gX2_send_X0_clear rfl rfl rfl (by decide +kernel) ⟨Nat.le_of_ble_eq_true rfl, Nat.le_of_ble_eq_true rfl⟩) (ci := 0) (q0 := 0) rfl rfl hN hK hP hD hS hA [1, 2] [0, 3, 4] [0, 3, 4, 1, 2] [(x, .inr (2, [.int (nI len), .ref t, .ref v, .ref c0, .ref c1, .ref fr])), (c0, .inr (1, [.ref r0, .int (nI h0), .int (nI k0)])), (r0, .inl (cA, 4096, .inl f0))] [(x, .inr (2, [.int (nI len), .ref t, .ref v, .ref c0, .ref c1, .ref fr])), (t, .inr (0, [.ref tr, .int (nI 0)])), (tr, .inl (cA, 1024, .inl tf)), (c0, .inr (1, [.ref r0, .int (nI h0), .int (nI k0)])), (r0, .inl (cA, 4096, .inl f0))] [] rfl rfl rfl rfl (by decide) rfl rfl rfl hl.1 rfl (Nat.le_of_ble_eq_true rfl) dX2_send_53 ⟨Nat.le_of_ble_eq_true rfl, Nat.le_of_ble_eq_true rfl⟩ (fun H locs hP hD hS => ?_)
    refine lv_iload_n hx hb dX2_send_56 rfl (lv_at hl 1 rfl) ?_
    exact hex _ _ _ _ _ () hS (rfl) hP hD dX2_send_57
  · refine lv_aload_n hx hb dX2_send_22 rfl (lv_at hl 2 rfl) ?_
    refine va_get (D := D) (ci := 2) (v := .ref t) hx hb hts iX2 hown hK hP 0 rfl rfl 1 (by decide) lk27 (fun _ h => h) rfl dX2_send_23 ?_
    refine va_getN (D := D) (ci := 0) (v := .int (nI tk)) hx hb hts iX0 hown hK hP 1 rfl rfl 1 (by decide) lk63 (fun _ h => h) rfl dX2_send_26 ?_
    refine lv_aload_n hx hb dX2_send_29 rfl (lv_at hl 0 rfl) ?_
    refine cl0_vi ⟨hx, hb, hml, hown, hts⟩ (c_ch_room l D cA c0 r0 f0 h0 k0 hc) (cwV 0 hts gX2_send_X1_room rfl rfl rfl (by decide +kernel) ⟨Nat.le_of_ble_eq_true rfl, Nat.le_of_ble_eq_true rfl⟩) (ci := 1) (q0 := 0) rfl rfl hN hK hP hD hS hA [3, 4] [0, 1, 2] [0, 1, 2, 3, 4] [(x, .inr (2, [.int (nI len), .ref t, .ref v, .ref c0, .ref c1, .ref fr])), (t, .inr (0, [.ref tr, .int (nI tk)])), (tr, .inl (cA, 1024, .inl tf))] [(x, .inr (2, [.int (nI len), .ref t, .ref v, .ref c0, .ref c1, .ref fr])), (t, .inr (0, [.ref tr, .int (nI tk)])), (tr, .inl (cA, 1024, .inl tf)), (c0, .inr (1, [.ref r0, .int (nI h0), .int (nI k0)])), (r0, .inl (cA, 4096, .inl f0))] [.int (nI tk)] rfl rfl rfl rfl (by decide) rfl rfl rfl hl.1 rfl (Nat.le_of_ble_eq_true rfl) dX2_send_30 ⟨Nat.le_of_ble_eq_true rfl, Nat.le_of_ble_eq_true rfl⟩ (fun H locs hP hD hS => ?_)
    refine lv_icmp_gt (tgt := 49) hx hb dX2_send_33 (by decide) (fun z2 => ?_) (fun z2 => ?_)
    · refine lv_aload_n hx hb dX2_send_49 rfl (lv_at hl 2 rfl) ?_
      refine va_get (D := D) (ci := 2) (v := .ref t) hx hb hts iX2 hown hK hP 0 rfl rfl 1 (by decide) lk27 (fun _ h => h) rfl dX2_send_50 ?_
      refine cl0_vv ⟨hx, hb, hml, hown, hts⟩ (c_by_clear l D cA t tr 1024 tf tk) (cwV 0 hts gX2_send_X0_clear rfl rfl rfl (by decide +kernel) ⟨Nat.le_of_ble_eq_true rfl, Nat.le_of_ble_eq_true rfl⟩) (ci := 0) (q0 := 0) rfl rfl hN hK hP hD hS hA [1, 2] [0, 3, 4] [0, 3, 4, 1, 2] [(x, .inr (2, [.int (nI len), .ref t, .ref v, .ref c0, .ref c1, .ref fr])), (c0, .inr (1, [.ref r0, .int (nI h0), .int (nI k0)])), (r0, .inl (cA, 4096, .inl f0))] [(x, .inr (2, [.int (nI len), .ref t, .ref v, .ref c0, .ref c1, .ref fr])), (t, .inr (0, [.ref tr, .int (nI 0)])), (tr, .inl (cA, 1024, .inl tf)), (c0, .inr (1, [.ref r0, .int (nI h0), .int (nI k0)])), (r0, .inl (cA, 4096, .inl f0))] [] rfl rfl rfl rfl (by decide) rfl rfl rfl hl.1 rfl (Nat.le_of_ble_eq_true rfl) dX2_send_53 ⟨Nat.le_of_ble_eq_true rfl, Nat.le_of_ble_eq_true rfl⟩ (fun H locs hP hD hS => ?_)
      refine lv_iload_n hx hb dX2_send_56 rfl (lv_at hl 1 rfl) ?_
      exact hex _ _ _ _ _ () hS (rfl) hP hD dX2_send_57
    · exact absurd hs (fun q => by rcases q with q | q; exact z1 q; exact z2 (nI_lt (by omega) (by omega)))

set_option maxHeartbeats 4000000 in
set_option maxRecDepth 100000 in
/-- send, taken -/
theorem c_x_send1 (l : Launch) (D : va_G) (cA : ClassId) (x len t v c0 c1 fr : Nat) (tr tk : Nat) (tf : Nat → Int32) (r1 h1 k1 : Nat) (f1 : Nat → Int32) (hk : tk ≤ 1024) (hc : k1 ≤ 4096) (hh : h1 < 4096) (hp : hpk tf tk = 1) (hs : k1 + tk ≤ 4096) : MI0 l yX2_send wsX2_send { frames := 2, cells := 0, slots := 0, locals := 43 } [.ref x, .int 1] D [(cA, .int)] [(x, .inr (2, [.int (nI len), .ref t, .ref v, .ref c0, .ref c1, .ref fr])), (t, .inr (0, [.ref tr, .int (nI tk)])), (tr, .inl (cA, 1024, .inl tf)), (c1, .inr (1, [.ref r1, .int (nI h1), .int (nI k1)])), (r1, .inl (cA, 4096, .inl f1))] (nI (k1 + tk)) [(x, .inr (2, [.int (nI len), .ref t, .ref v, .ref c0, .ref c1, .ref fr])), (t, .inr (0, [.ref tr, .int (nI 0)])), (tr, .inl (cA, 1024, .inl tf)), (c1, .inr (1, [.ref r1, .int (nI h1), .int (nI (k1 + tk))])), (r1, .inl (cA, 4096, .inl (rwr f1 (h1 + k1) (mkd tf) tk)))] := by
  refine mt_i (by decide) rfl (Nat.le_of_ble_eq_true rfl) ?_
  intro p e s m below meth c A ls Q hx hb hts hown hml hin hN hK hA hP hD hS hl hex
  have hown : s.vm.findClass RX2 = some m.cls := hown
  have hl : lv_has ls 4 [(0, .ref x), (1, .int 1)] := hl
  have iX0 : ∀ w ∈ wsX00, w ∈ wsX2_send := by decide +kernel
  have iX1 : ∀ w ∈ wsX10, w ∈ wsX2_send := by decide +kernel
  have iX2 : ∀ w ∈ wsX20, w ∈ wsX2_send := by decide +kernel
  have lk27 := hts (.fieldLink RX2 27 "DownFrames" "tape" "LDownFrames$Bytes;") (by decide +kernel)
  have lk63 : (Cond.fieldLinkNest RX2 63 "DownFrames$Bytes" "size" "I" "DownFrames").before ([.ref x, .int 1] : List Value).toArray s = true := va_Nw.use rfl hN.1
  have lk71 : (Cond.fieldLinkNest RX2 71 "DownFrames$Channel" "size" "I" "DownFrames").before ([.ref x, .int 1] : List Value).toArray s = true := va_Nw.use rfl hN.2.1
  refine lv_iconst (v := (-1)) hx hb dX2_send_0 (by decide) ?_
  refine lv_istore_n (lv' := [(2, .int (-1)), (0, .ref x), (1, .int 1)]) hx hb dX2_send_1 rfl hl (by decide) rfl (fun ls hl => ?_)
  refine lv_aload_n hx hb dX2_send_2 rfl (lv_at hl 1 rfl) ?_
  refine lv_iload_n hx hb dX2_send_3 rfl (lv_at hl 2 rfl) ?_
  refine cl0_vR ⟨hx, hb, hml, hown, hts⟩ (c_x_of1 l D cA x len t v c0 c1 fr) (cwV 1 hts gX2_send_X2_channelOf rfl rfl rfl (by decide +kernel) ⟨Nat.le_of_ble_eq_true rfl, Nat.le_of_ble_eq_true rfl⟩) (ci := 2) (q0 := 0) rfl rfl hN hK hP hD hS hA [0] [1, 2, 3, 4] [4, 0, 1, 2, 3] [(t, .inr (0, [.ref tr, .int (nI tk)])), (tr, .inl (cA, 1024, .inl tf)), (c1, .inr (1, [.ref r1, .int (nI h1), .int (nI k1)])), (r1, .inl (cA, 4096, .inl f1))] [(x, .inr (2, [.int (nI len), .ref t, .ref v, .ref c0, .ref c1, .ref fr])), (t, .inr (0, [.ref tr, .int (nI tk)])), (tr, .inl (cA, 1024, .inl tf)), (c1, .inr (1, [.ref r1, .int (nI h1), .int (nI k1)])), (r1, .inl (cA, 4096, .inl f1))] [] rfl rfl rfl rfl (by decide) rfl rfl rfl hl.1 rfl (Nat.le_of_ble_eq_true rfl) dX2_send_4 ⟨Nat.le_of_ble_eq_true rfl, Nat.le_of_ble_eq_true rfl⟩ (fun H locs hP hD hS => ?_)
  refine lv_astore_n (lv' := [(3, .ref c1), (2, .int (-1)), (0, .ref x), (1, .int 1)]) hx hb dX2_send_7 rfl hl (by decide) rfl (fun ls hl => ?_)
  refine lv_aload_n hx hb dX2_send_8 rfl (lv_at hl 0 rfl) ?_
  refine lv_ifnull hx hb dX2_send_9 ?_
  refine lv_aload_n hx hb dX2_send_12 rfl (lv_at hl 2 rfl) ?_
  refine va_get (D := D) (ci := 2) (v := .ref t) hx hb hts iX2 hown hK hP 0 rfl rfl 1 (by decide) lk27 (fun _ h => h) rfl dX2_send_13 ?_
  refine cl0_si ⟨hx, hb, hml, hown, hts⟩ (c_x_holds l D cA t tr 1024 tf tk hk (by decide)) (va_cwS 1 hts gX2_send_X2_holdsPacket rfl rfl rfl (by decide +kernel) ⟨Nat.le_of_ble_eq_true rfl, Nat.le_of_ble_eq_true rfl⟩) hN hK hP hD hS hA [1, 2] [0, 3, 4] [0, 3, 4, 1, 2] [(x, .inr (2, [.int (nI len), .ref t, .ref v, .ref c0, .ref c1, .ref fr])), (c1, .inr (1, [.ref r1, .int (nI h1), .int (nI k1)])), (r1, .inl (cA, 4096, .inl f1))] [(x, .inr (2, [.int (nI len), .ref t, .ref v, .ref c0, .ref c1, .ref fr])), (t, .inr (0, [.ref tr, .int (nI tk)])), (tr, .inl (cA, 1024, .inl tf)), (c1, .inr (1, [.ref r1, .int (nI h1), .int (nI k1)])), (r1, .inl (cA, 4096, .inl f1))] [] rfl rfl rfl rfl (by decide) rfl rfl rfl hl.1 rfl (Nat.le_of_ble_eq_true rfl) dX2_send_16 ⟨Nat.le_of_ble_eq_true rfl, Nat.le_of_ble_eq_true rfl⟩ (fun H locs hP hD hS => ?_)
  refine lv_if_eq (tgt := 49) hx hb dX2_send_19 (by decide) (fun cc => absurd cc (by rw [hp]; decide)) (fun _ => ?_)
  refine lv_aload_n hx hb dX2_send_22 rfl (lv_at hl 2 rfl) ?_
  refine va_get (D := D) (ci := 2) (v := .ref t) hx hb hts iX2 hown hK hP 0 rfl rfl 1 (by decide) lk27 (fun _ h => h) rfl dX2_send_23 ?_
  refine va_getN (D := D) (ci := 0) (v := .int (nI tk)) hx hb hts iX0 hown hK hP 1 rfl rfl 1 (by decide) lk63 (fun _ h => h) rfl dX2_send_26 ?_
  refine lv_aload_n hx hb dX2_send_29 rfl (lv_at hl 0 rfl) ?_
  refine cl0_vi ⟨hx, hb, hml, hown, hts⟩ (c_ch_room l D cA c1 r1 f1 h1 k1 hc) (cwV 0 hts gX2_send_X1_room rfl rfl rfl (by decide +kernel) ⟨Nat.le_of_ble_eq_true rfl, Nat.le_of_ble_eq_true rfl⟩) (ci := 1) (q0 := 0) rfl rfl hN hK hP hD hS hA [3, 4] [0, 1, 2] [0, 1, 2, 3, 4] [(x, .inr (2, [.int (nI len), .ref t, .ref v, .ref c0, .ref c1, .ref fr])), (t, .inr (0, [.ref tr, .int (nI tk)])), (tr, .inl (cA, 1024, .inl tf))] [(x, .inr (2, [.int (nI len), .ref t, .ref v, .ref c0, .ref c1, .ref fr])), (t, .inr (0, [.ref tr, .int (nI tk)])), (tr, .inl (cA, 1024, .inl tf)), (c1, .inr (1, [.ref r1, .int (nI h1), .int (nI k1)])), (r1, .inl (cA, 4096, .inl f1))] [.int (nI tk)] rfl rfl rfl rfl (by decide) rfl rfl rfl hl.1 rfl (Nat.le_of_ble_eq_true rfl) dX2_send_30 ⟨Nat.le_of_ble_eq_true rfl, Nat.le_of_ble_eq_true rfl⟩ (fun H locs hP hD hS => ?_)
  refine lv_icmp_gt (tgt := 49) hx hb dX2_send_33 (by decide) (fun cc => absurd cc (nI_nlt (by omega) (by omega))) (fun _ => ?_)
  refine lv_aload_n hx hb dX2_send_36 rfl (lv_at hl 0 rfl) ?_
  refine lv_aload_n hx hb dX2_send_37 rfl (lv_at hl 2 rfl) ?_
  refine va_get (D := D) (ci := 2) (v := .ref t) hx hb hts iX2 hown hK hP 0 rfl rfl 1 (by decide) lk27 (fun _ h => h) rfl dX2_send_38 ?_
  refine cl0_vv ⟨hx, hb, hml, hown, hts⟩ (c_ch_addPacket l D cA c1 r1 f1 h1 k1 t tr 1024 tf tk hh (by omega) hk (by decide)) (cwV 1 hts gX2_send_X1_addPacket rfl rfl rfl (by decide +kernel) ⟨Nat.le_of_ble_eq_true rfl, Nat.le_of_ble_eq_true rfl⟩) (ci := 1) (q0 := 0) rfl rfl hN hK hP hD hS hA [3, 4, 1, 2] [0] [0, 3, 4, 1, 2] [(x, .inr (2, [.int (nI len), .ref t, .ref v, .ref c0, .ref c1, .ref fr]))] [(x, .inr (2, [.int (nI len), .ref t, .ref v, .ref c0, .ref c1, .ref fr])), (t, .inr (0, [.ref tr, .int (nI tk)])), (tr, .inl (cA, 1024, .inl tf)), (c1, .inr (1, [.ref r1, .int (nI h1), .int (nI (k1 + tk))])), (r1, .inl (cA, 4096, .inl (rwr f1 (h1 + k1) (mkd tf) tk)))] [] rfl rfl rfl rfl (by decide) rfl rfl rfl hl.1 rfl (Nat.le_of_ble_eq_true rfl) dX2_send_41 ⟨Nat.le_of_ble_eq_true rfl, Nat.le_of_ble_eq_true rfl⟩ (fun H locs hP hD hS => ?_)
  refine lv_aload_n hx hb dX2_send_44 rfl (lv_at hl 0 rfl) ?_
  refine va_getN (D := D) (ci := 1) (v := .int (nI (k1 + tk))) hx hb hts iX1 hown hK hP 3 rfl rfl 2 (by decide) lk71 (fun _ h => h) rfl dX2_send_45 ?_
  refine lv_istore_n (lv' := [(2, .int (nI (k1 + tk))), (3, .ref c1), (0, .ref x), (1, .int 1)]) hx hb dX2_send_48 rfl hl (by decide) rfl (fun ls hl => ?_)
  refine lv_aload_n hx hb dX2_send_49 rfl (lv_at hl 2 rfl) ?_
  refine va_get (D := D) (ci := 2) (v := .ref t) hx hb hts iX2 hown hK hP 0 rfl rfl 1 (by decide) lk27 (fun _ h => h) rfl dX2_send_50 ?_
  refine cl0_vv ⟨hx, hb, hml, hown, hts⟩ (c_by_clear l D cA t tr 1024 tf tk) (cwV 0 hts gX2_send_X0_clear rfl rfl rfl (by decide +kernel) ⟨Nat.le_of_ble_eq_true rfl, Nat.le_of_ble_eq_true rfl⟩) (ci := 0) (q0 := 0) rfl rfl hN hK hP hD hS hA [1, 2] [0, 3, 4] [0, 3, 4, 1, 2] [(x, .inr (2, [.int (nI len), .ref t, .ref v, .ref c0, .ref c1, .ref fr])), (c1, .inr (1, [.ref r1, .int (nI h1), .int (nI (k1 + tk))])), (r1, .inl (cA, 4096, .inl (rwr f1 (h1 + k1) (mkd tf) tk)))] [(x, .inr (2, [.int (nI len), .ref t, .ref v, .ref c0, .ref c1, .ref fr])), (t, .inr (0, [.ref tr, .int (nI 0)])), (tr, .inl (cA, 1024, .inl tf)), (c1, .inr (1, [.ref r1, .int (nI h1), .int (nI (k1 + tk))])), (r1, .inl (cA, 4096, .inl (rwr f1 (h1 + k1) (mkd tf) tk)))] [] rfl rfl rfl rfl (by decide) rfl rfl rfl hl.1 rfl (Nat.le_of_ble_eq_true rfl) dX2_send_53 ⟨Nat.le_of_ble_eq_true rfl, Nat.le_of_ble_eq_true rfl⟩ (fun H locs hP hD hS => ?_)
  refine lv_iload_n hx hb dX2_send_56 rfl (lv_at hl 0 rfl) ?_
  exact hex _ _ _ _ _ () hS (rfl) hP hD dX2_send_57

set_option maxHeartbeats 4000000 in
set_option maxRecDepth 100000 in
/-- send, refused -/
theorem c_x_sendB1 (l : Launch) (D : va_G) (cA : ClassId) (x len t v c0 c1 fr : Nat) (tr tk : Nat) (tf : Nat → Int32) (r1 h1 k1 : Nat) (f1 : Nat → Int32) (hk : tk ≤ 1024) (hc : k1 ≤ 4096) (hh : h1 < 4096) (hs : hpk tf tk = 0 ∨ 4096 < k1 + tk) : MI0 l yX2_send wsX2_send { frames := 2, cells := 0, slots := 0, locals := 43 } [.ref x, .int 1] D [(cA, .int)] [(x, .inr (2, [.int (nI len), .ref t, .ref v, .ref c0, .ref c1, .ref fr])), (t, .inr (0, [.ref tr, .int (nI tk)])), (tr, .inl (cA, 1024, .inl tf)), (c1, .inr (1, [.ref r1, .int (nI h1), .int (nI k1)])), (r1, .inl (cA, 4096, .inl f1))] (-1) [(x, .inr (2, [.int (nI len), .ref t, .ref v, .ref c0, .ref c1, .ref fr])), (t, .inr (0, [.ref tr, .int (nI 0)])), (tr, .inl (cA, 1024, .inl tf)), (c1, .inr (1, [.ref r1, .int (nI h1), .int (nI k1)])), (r1, .inl (cA, 4096, .inl f1))] := by
  refine mt_i (by decide) rfl (Nat.le_of_ble_eq_true rfl) ?_
  intro p e s m below meth c A ls Q hx hb hts hown hml hin hN hK hA hP hD hS hl hex
  have hown : s.vm.findClass RX2 = some m.cls := hown
  have hl : lv_has ls 4 [(0, .ref x), (1, .int 1)] := hl
  have iX0 : ∀ w ∈ wsX00, w ∈ wsX2_send := by decide +kernel
  have iX2 : ∀ w ∈ wsX20, w ∈ wsX2_send := by decide +kernel
  have lk27 := hts (.fieldLink RX2 27 "DownFrames" "tape" "LDownFrames$Bytes;") (by decide +kernel)
  have lk63 : (Cond.fieldLinkNest RX2 63 "DownFrames$Bytes" "size" "I" "DownFrames").before ([.ref x, .int 1] : List Value).toArray s = true := va_Nw.use rfl hN.1
  refine lv_iconst (v := (-1)) hx hb dX2_send_0 (by decide) ?_
  refine lv_istore_n (lv' := [(2, .int (-1)), (0, .ref x), (1, .int 1)]) hx hb dX2_send_1 rfl hl (by decide) rfl (fun ls hl => ?_)
  refine lv_aload_n hx hb dX2_send_2 rfl (lv_at hl 1 rfl) ?_
  refine lv_iload_n hx hb dX2_send_3 rfl (lv_at hl 2 rfl) ?_
  refine cl0_vR ⟨hx, hb, hml, hown, hts⟩ (c_x_of1 l D cA x len t v c0 c1 fr) (cwV 1 hts gX2_send_X2_channelOf rfl rfl rfl (by decide +kernel) ⟨Nat.le_of_ble_eq_true rfl, Nat.le_of_ble_eq_true rfl⟩) (ci := 2) (q0 := 0) rfl rfl hN hK hP hD hS hA [0] [1, 2, 3, 4] [4, 0, 1, 2, 3] [(t, .inr (0, [.ref tr, .int (nI tk)])), (tr, .inl (cA, 1024, .inl tf)), (c1, .inr (1, [.ref r1, .int (nI h1), .int (nI k1)])), (r1, .inl (cA, 4096, .inl f1))] [(x, .inr (2, [.int (nI len), .ref t, .ref v, .ref c0, .ref c1, .ref fr])), (t, .inr (0, [.ref tr, .int (nI tk)])), (tr, .inl (cA, 1024, .inl tf)), (c1, .inr (1, [.ref r1, .int (nI h1), .int (nI k1)])), (r1, .inl (cA, 4096, .inl f1))] [] rfl rfl rfl rfl (by decide) rfl rfl rfl hl.1 rfl (Nat.le_of_ble_eq_true rfl) dX2_send_4 ⟨Nat.le_of_ble_eq_true rfl, Nat.le_of_ble_eq_true rfl⟩ (fun H locs hP hD hS => ?_)
  refine lv_astore_n (lv' := [(3, .ref c1), (2, .int (-1)), (0, .ref x), (1, .int 1)]) hx hb dX2_send_7 rfl hl (by decide) rfl (fun ls hl => ?_)
  refine lv_aload_n hx hb dX2_send_8 rfl (lv_at hl 0 rfl) ?_
  refine lv_ifnull hx hb dX2_send_9 ?_
  refine lv_aload_n hx hb dX2_send_12 rfl (lv_at hl 2 rfl) ?_
  refine va_get (D := D) (ci := 2) (v := .ref t) hx hb hts iX2 hown hK hP 0 rfl rfl 1 (by decide) lk27 (fun _ h => h) rfl dX2_send_13 ?_
  refine cl0_si ⟨hx, hb, hml, hown, hts⟩ (c_x_holds l D cA t tr 1024 tf tk hk (by decide)) (va_cwS 1 hts gX2_send_X2_holdsPacket rfl rfl rfl (by decide +kernel) ⟨Nat.le_of_ble_eq_true rfl, Nat.le_of_ble_eq_true rfl⟩) hN hK hP hD hS hA [1, 2] [0, 3, 4] [0, 3, 4, 1, 2] [(x, .inr (2, [.int (nI len), .ref t, .ref v, .ref c0, .ref c1, .ref fr])), (c1, .inr (1, [.ref r1, .int (nI h1), .int (nI k1)])), (r1, .inl (cA, 4096, .inl f1))] [(x, .inr (2, [.int (nI len), .ref t, .ref v, .ref c0, .ref c1, .ref fr])), (t, .inr (0, [.ref tr, .int (nI tk)])), (tr, .inl (cA, 1024, .inl tf)), (c1, .inr (1, [.ref r1, .int (nI h1), .int (nI k1)])), (r1, .inl (cA, 4096, .inl f1))] [] rfl rfl rfl rfl (by decide) rfl rfl rfl hl.1 rfl (Nat.le_of_ble_eq_true rfl) dX2_send_16 ⟨Nat.le_of_ble_eq_true rfl, Nat.le_of_ble_eq_true rfl⟩ (fun H locs hP hD hS => ?_)
  refine lv_if_eq (tgt := 49) hx hb dX2_send_19 (by decide) (fun z1 => ?_) (fun z1 => ?_)
  · refine lv_aload_n hx hb dX2_send_49 rfl (lv_at hl 2 rfl) ?_
    refine va_get (D := D) (ci := 2) (v := .ref t) hx hb hts iX2 hown hK hP 0 rfl rfl 1 (by decide) lk27 (fun _ h => h) rfl dX2_send_50 ?_
    refine cl0_vv ⟨hx, hb, hml, hown, hts⟩ (c_by_clear l D cA t tr 1024 tf tk) (cwV 0 hts gX2_send_X0_clear rfl rfl rfl (by decide +kernel) ⟨Nat.le_of_ble_eq_true rfl, Nat.le_of_ble_eq_true rfl⟩) (ci := 0) (q0 := 0) rfl rfl hN hK hP hD hS hA [1, 2] [0, 3, 4] [0, 3, 4, 1, 2] [(x, .inr (2, [.int (nI len), .ref t, .ref v, .ref c0, .ref c1, .ref fr])), (c1, .inr (1, [.ref r1, .int (nI h1), .int (nI k1)])), (r1, .inl (cA, 4096, .inl f1))] [(x, .inr (2, [.int (nI len), .ref t, .ref v, .ref c0, .ref c1, .ref fr])), (t, .inr (0, [.ref tr, .int (nI 0)])), (tr, .inl (cA, 1024, .inl tf)), (c1, .inr (1, [.ref r1, .int (nI h1), .int (nI k1)])), (r1, .inl (cA, 4096, .inl f1))] [] rfl rfl rfl rfl (by decide) rfl rfl rfl hl.1 rfl (Nat.le_of_ble_eq_true rfl) dX2_send_53 ⟨Nat.le_of_ble_eq_true rfl, Nat.le_of_ble_eq_true rfl⟩ (fun H locs hP hD hS => ?_)
    refine lv_iload_n hx hb dX2_send_56 rfl (lv_at hl 1 rfl) ?_
    exact hex _ _ _ _ _ () hS (rfl) hP hD dX2_send_57
  · refine lv_aload_n hx hb dX2_send_22 rfl (lv_at hl 2 rfl) ?_
    refine va_get (D := D) (ci := 2) (v := .ref t) hx hb hts iX2 hown hK hP 0 rfl rfl 1 (by decide) lk27 (fun _ h => h) rfl dX2_send_23 ?_
    refine va_getN (D := D) (ci := 0) (v := .int (nI tk)) hx hb hts iX0 hown hK hP 1 rfl rfl 1 (by decide) lk63 (fun _ h => h) rfl dX2_send_26 ?_
    refine lv_aload_n hx hb dX2_send_29 rfl (lv_at hl 0 rfl) ?_
    refine cl0_vi ⟨hx, hb, hml, hown, hts⟩ (c_ch_room l D cA c1 r1 f1 h1 k1 hc) (cwV 0 hts gX2_send_X1_room rfl rfl rfl (by decide +kernel) ⟨Nat.le_of_ble_eq_true rfl, Nat.le_of_ble_eq_true rfl⟩) (ci := 1) (q0 := 0) rfl rfl hN hK hP hD hS hA [3, 4] [0, 1, 2] [0, 1, 2, 3, 4] [(x, .inr (2, [.int (nI len), .ref t, .ref v, .ref c0, .ref c1, .ref fr])), (t, .inr (0, [.ref tr, .int (nI tk)])), (tr, .inl (cA, 1024, .inl tf))] [(x, .inr (2, [.int (nI len), .ref t, .ref v, .ref c0, .ref c1, .ref fr])), (t, .inr (0, [.ref tr, .int (nI tk)])), (tr, .inl (cA, 1024, .inl tf)), (c1, .inr (1, [.ref r1, .int (nI h1), .int (nI k1)])), (r1, .inl (cA, 4096, .inl f1))] [.int (nI tk)] rfl rfl rfl rfl (by decide) rfl rfl rfl hl.1 rfl (Nat.le_of_ble_eq_true rfl) dX2_send_30 ⟨Nat.le_of_ble_eq_true rfl, Nat.le_of_ble_eq_true rfl⟩ (fun H locs hP hD hS => ?_)
    refine lv_icmp_gt (tgt := 49) hx hb dX2_send_33 (by decide) (fun z2 => ?_) (fun z2 => ?_)
    · refine lv_aload_n hx hb dX2_send_49 rfl (lv_at hl 2 rfl) ?_
      refine va_get (D := D) (ci := 2) (v := .ref t) hx hb hts iX2 hown hK hP 0 rfl rfl 1 (by decide) lk27 (fun _ h => h) rfl dX2_send_50 ?_
      refine cl0_vv ⟨hx, hb, hml, hown, hts⟩ (c_by_clear l D cA t tr 1024 tf tk) (cwV 0 hts gX2_send_X0_clear rfl rfl rfl (by decide +kernel) ⟨Nat.le_of_ble_eq_true rfl, Nat.le_of_ble_eq_true rfl⟩) (ci := 0) (q0 := 0) rfl rfl hN hK hP hD hS hA [1, 2] [0, 3, 4] [0, 3, 4, 1, 2] [(x, .inr (2, [.int (nI len), .ref t, .ref v, .ref c0, .ref c1, .ref fr])), (c1, .inr (1, [.ref r1, .int (nI h1), .int (nI k1)])), (r1, .inl (cA, 4096, .inl f1))] [(x, .inr (2, [.int (nI len), .ref t, .ref v, .ref c0, .ref c1, .ref fr])), (t, .inr (0, [.ref tr, .int (nI 0)])), (tr, .inl (cA, 1024, .inl tf)), (c1, .inr (1, [.ref r1, .int (nI h1), .int (nI k1)])), (r1, .inl (cA, 4096, .inl f1))] [] rfl rfl rfl rfl (by decide) rfl rfl rfl hl.1 rfl (Nat.le_of_ble_eq_true rfl) dX2_send_53 ⟨Nat.le_of_ble_eq_true rfl, Nat.le_of_ble_eq_true rfl⟩ (fun H locs hP hD hS => ?_)
      refine lv_iload_n hx hb dX2_send_56 rfl (lv_at hl 1 rfl) ?_
      exact hex _ _ _ _ _ () hS (rfl) hP hD dX2_send_57
    · exact absurd hs (fun q => by rcases q with q | q; exact z1 q; exact z2 (nI_lt (by omega) (by omega)))

set_option maxHeartbeats 4000000 in
set_option maxRecDepth 100000 in
/-- send, no channel -/
theorem c_x_sendN (l : Launch) (D : va_G) (cA : ClassId) (x len t v c0 c1 fr : Nat) (tr tk : Nat) (tf : Nat → Int32) (z : Int32) (hz0 : ¬ z = 0) (hz1 : ¬ z = 1) : MI0 l yX2_send wsX2_send { frames := 2, cells := 0, slots := 0, locals := 43 } [.ref x, .int z] D [(cA, .int)] [(x, .inr (2, [.int (nI len), .ref t, .ref v, .ref c0, .ref c1, .ref fr])), (t, .inr (0, [.ref tr, .int (nI tk)])), (tr, .inl (cA, 1024, .inl tf))] (-1) [(x, .inr (2, [.int (nI len), .ref t, .ref v, .ref c0, .ref c1, .ref fr])), (t, .inr (0, [.ref tr, .int (nI 0)])), (tr, .inl (cA, 1024, .inl tf))] := by
  refine mt_i (by decide) rfl (Nat.le_of_ble_eq_true rfl) ?_
  intro p e s m below meth c A ls Q hx hb hts hown hml hin hN hK hA hP hD hS hl hex
  have hown : s.vm.findClass RX2 = some m.cls := hown
  have hl : lv_has ls 4 [(0, .ref x), (1, .int z)] := hl
  have iX2 : ∀ w ∈ wsX20, w ∈ wsX2_send := by decide +kernel
  have lk27 := hts (.fieldLink RX2 27 "DownFrames" "tape" "LDownFrames$Bytes;") (by decide +kernel)
  refine lv_iconst (v := (-1)) hx hb dX2_send_0 (by decide) ?_
  refine lv_istore_n (lv' := [(2, .int (-1)), (0, .ref x), (1, .int z)]) hx hb dX2_send_1 rfl hl (by decide) rfl (fun ls hl => ?_)
  refine lv_aload_n hx hb dX2_send_2 rfl (lv_at hl 1 rfl) ?_
  refine lv_iload_n hx hb dX2_send_3 rfl (lv_at hl 2 rfl) ?_
  refine cl0_vN ⟨hx, hb, hml, hown, hts⟩ (c_x_ofN l D cA x len t v c0 c1 fr z hz0 hz1) (cwV 1 hts gX2_send_X2_channelOf rfl rfl rfl (by decide +kernel) ⟨Nat.le_of_ble_eq_true rfl, Nat.le_of_ble_eq_true rfl⟩) (ci := 2) (q0 := 0) rfl rfl hN hK hP hD hS hA [0] [1, 2] [2, 0, 1] [(t, .inr (0, [.ref tr, .int (nI tk)])), (tr, .inl (cA, 1024, .inl tf))] [(x, .inr (2, [.int (nI len), .ref t, .ref v, .ref c0, .ref c1, .ref fr])), (t, .inr (0, [.ref tr, .int (nI tk)])), (tr, .inl (cA, 1024, .inl tf))] [] rfl rfl rfl rfl (by decide) rfl rfl rfl hl.1 rfl (Nat.le_of_ble_eq_true rfl) dX2_send_4 ⟨Nat.le_of_ble_eq_true rfl, Nat.le_of_ble_eq_true rfl⟩ (fun H locs hP hD hS => ?_)
  refine lv_astore_nN (lv' := [(3, .null), (2, .int (-1)), (0, .ref x), (1, .int z)]) hx hb dX2_send_7 rfl hl (by decide) rfl (fun ls hl => ?_)
  refine lv_aload_nN hx hb dX2_send_8 rfl (lv_at hl 0 rfl) ?_
  refine lv_ifnullN (tgt := 49) hx hb dX2_send_9 (by decide) ?_
  refine lv_aload_n hx hb dX2_send_49 rfl (lv_at hl 2 rfl) ?_
  refine va_get (D := D) (ci := 2) (v := .ref t) hx hb hts iX2 hown hK hP 0 rfl rfl 1 (by decide) lk27 (fun _ h => h) rfl dX2_send_50 ?_
  refine cl0_vv ⟨hx, hb, hml, hown, hts⟩ (c_by_clear l D cA t tr 1024 tf tk) (cwV 0 hts gX2_send_X0_clear rfl rfl rfl (by decide +kernel) ⟨Nat.le_of_ble_eq_true rfl, Nat.le_of_ble_eq_true rfl⟩) (ci := 0) (q0 := 0) rfl rfl hN hK hP hD hS hA [1, 2] [0] [0, 1, 2] [(x, .inr (2, [.int (nI len), .ref t, .ref v, .ref c0, .ref c1, .ref fr]))] [(x, .inr (2, [.int (nI len), .ref t, .ref v, .ref c0, .ref c1, .ref fr])), (t, .inr (0, [.ref tr, .int (nI 0)])), (tr, .inl (cA, 1024, .inl tf))] [] rfl rfl rfl rfl (by decide) rfl rfl rfl hl.1 rfl (Nat.le_of_ble_eq_true rfl) dX2_send_53 ⟨Nat.le_of_ble_eq_true rfl, Nat.le_of_ble_eq_true rfl⟩ (fun H locs hP hD hS => ?_)
  refine lv_iload_n hx hb dX2_send_56 rfl (lv_at hl 1 rfl) ?_
  exact hex _ _ _ _ _ () hS (rfl) hP hD dX2_send_57
end
section
set_option maxHeartbeats 4000000 in
set_option maxRecDepth 100000 in
/-- byteAt -/
theorem c_x_byteAt (l : Launch) (D : va_G) (cA : ClassId) (x len t v c0 c1 fr : Nat) (vr vk : Nat) (vf : Nat → Int32) (z : Int32) (hk : vk ≤ len) (hn : len < 2 ^ 31) : MI0 l yX2_byteAt wsX2_byteAt { frames := 1, cells := 0, slots := 0, locals := 21 } [.ref x, .int z] D [(cA, .int)] [(x, .inr (2, [.int (nI len), .ref t, .ref v, .ref c0, .ref c1, .ref fr])), (v, .inr (0, [.ref vr, .int (nI vk)])), (vr, .inl (cA, len, .inl vf))] (at_v vf vk z) [(x, .inr (2, [.int (nI len), .ref t, .ref v, .ref c0, .ref c1, .ref fr])), (v, .inr (0, [.ref vr, .int (nI vk)])), (vr, .inl (cA, len, .inl vf))] := by
  refine mt_i (by decide) rfl (Nat.le_of_ble_eq_true rfl) ?_
  intro p e s m below meth c A ls Q hx hb hts hown hml hin hN hK hA hP hD hS hl hex
  have hown : s.vm.findClass RX2 = some m.cls := hown
  have hl : lv_has ls 2 [(0, .ref x), (1, .int z)] := hl
  have iX2 : ∀ w ∈ wsX20, w ∈ wsX2_byteAt := by decide +kernel
  have lk31 := hts (.fieldLink RX2 31 "DownFrames" "latest" "LDownFrames$Bytes;") (by decide +kernel)
  refine lv_aload_n hx hb dX2_byteAt_0 rfl (lv_at hl 0 rfl) ?_
  refine va_get (D := D) (ci := 2) (v := .ref v) hx hb hts iX2 hown hK hP 0 rfl rfl 2 (by decide) lk31 (fun _ h => h) rfl dX2_byteAt_1 ?_
  refine lv_iload_n hx hb dX2_byteAt_4 rfl (lv_at hl 1 rfl) ?_
  refine cl0_vi ⟨hx, hb, hml, hown, hts⟩ (c_by_at l D cA v vr len vf vk z hk hn) (cwV 1 hts gX2_byteAt_X0_at rfl rfl rfl (by decide +kernel) ⟨Nat.le_of_ble_eq_true rfl, Nat.le_of_ble_eq_true rfl⟩) (ci := 0) (q0 := 0) rfl rfl hN hK hP hD hS hA [1, 2] [0] [0, 1, 2] [(x, .inr (2, [.int (nI len), .ref t, .ref v, .ref c0, .ref c1, .ref fr]))] [(x, .inr (2, [.int (nI len), .ref t, .ref v, .ref c0, .ref c1, .ref fr])), (v, .inr (0, [.ref vr, .int (nI vk)])), (vr, .inl (cA, len, .inl vf))] [] rfl rfl rfl rfl (by decide) rfl rfl rfl hl.1 rfl (Nat.le_of_ble_eq_true rfl) dX2_byteAt_5 ⟨Nat.le_of_ble_eq_true rfl, Nat.le_of_ble_eq_true rfl⟩ (fun H locs hP hD hS => ?_)
  exact hex _ _ _ _ _ () hS (rfl) hP hD dX2_byteAt_8

set_option maxHeartbeats 4000000 in
set_option maxRecDepth 100000 in
/-- waiting -/
theorem c_x_wait0 (l : Launch) (D : va_G) (cA : ClassId) (x len t v c0 c1 fr : Nat) (r0 h0 k0 : Nat) : MI0 l yX2_waiting wsX2_waiting { frames := 1, cells := 0, slots := 0, locals := 21 } [.ref x, .int 0] D [(cA, .int)] [(x, .inr (2, [.int (nI len), .ref t, .ref v, .ref c0, .ref c1, .ref fr])), (c0, .inr (1, [.ref r0, .int (nI h0), .int (nI k0)]))] (nI k0) [(x, .inr (2, [.int (nI len), .ref t, .ref v, .ref c0, .ref c1, .ref fr])), (c0, .inr (1, [.ref r0, .int (nI h0), .int (nI k0)]))] := by
  refine mt_i (by decide) rfl (Nat.le_of_ble_eq_true rfl) ?_
  intro p e s m below meth c A ls Q hx hb hts hown hml hin hN hK hA hP hD hS hl hex
  have hown : s.vm.findClass RX2 = some m.cls := hown
  have hl : lv_has ls 3 [(0, .ref x), (1, .int 0)] := hl
  have iX1 : ∀ w ∈ wsX10, w ∈ wsX2_waiting := by decide +kernel
  have lk71 : (Cond.fieldLinkNest RX2 71 "DownFrames$Channel" "size" "I" "DownFrames").before ([.ref x, .int 0] : List Value).toArray s = true := va_Nw.use rfl hN.2.1
  refine lv_aload_n hx hb dX2_waiting_0 rfl (lv_at hl 0 rfl) ?_
  refine lv_iload_n hx hb dX2_waiting_1 rfl (lv_at hl 1 rfl) ?_
  refine cl0_vR ⟨hx, hb, hml, hown, hts⟩ (c_x_of0 l D cA x len t v c0 c1 fr) (cwV 1 hts gX2_waiting_X2_channelOf rfl rfl rfl (by decide +kernel) ⟨Nat.le_of_ble_eq_true rfl, Nat.le_of_ble_eq_true rfl⟩) (ci := 2) (q0 := 0) rfl rfl hN hK hP hD hS hA [0] [1] [1, 0] [(c0, .inr (1, [.ref r0, .int (nI h0), .int (nI k0)]))] [(x, .inr (2, [.int (nI len), .ref t, .ref v, .ref c0, .ref c1, .ref fr])), (c0, .inr (1, [.ref r0, .int (nI h0), .int (nI k0)]))] [] rfl rfl rfl rfl (by decide) rfl rfl rfl hl.1 rfl (Nat.le_of_ble_eq_true rfl) dX2_waiting_2 ⟨Nat.le_of_ble_eq_true rfl, Nat.le_of_ble_eq_true rfl⟩ (fun H locs hP hD hS => ?_)
  refine lv_astore_n (lv' := [(2, .ref c0), (0, .ref x), (1, .int 0)]) hx hb dX2_waiting_5 rfl hl (by decide) rfl (fun ls hl => ?_)
  refine lv_aload_n hx hb dX2_waiting_6 rfl (lv_at hl 0 rfl) ?_
  refine lv_ifnonnull (tgt := 14) hx hb dX2_waiting_7 (by decide) ?_
  refine lv_aload_n hx hb dX2_waiting_14 rfl (lv_at hl 0 rfl) ?_
  refine va_getN (D := D) (ci := 1) (v := .int (nI k0)) hx hb hts iX1 hown hK hP 1 rfl rfl 2 (by decide) lk71 (fun _ h => h) rfl dX2_waiting_15 ?_
  exact hex _ _ _ _ _ () hS (rfl) hP hD dX2_waiting_18

set_option maxHeartbeats 4000000 in
set_option maxRecDepth 100000 in
/-- waiting -/
theorem c_x_wait1 (l : Launch) (D : va_G) (cA : ClassId) (x len t v c0 c1 fr : Nat) (r1 h1 k1 : Nat) : MI0 l yX2_waiting wsX2_waiting { frames := 1, cells := 0, slots := 0, locals := 21 } [.ref x, .int 1] D [(cA, .int)] [(x, .inr (2, [.int (nI len), .ref t, .ref v, .ref c0, .ref c1, .ref fr])), (c1, .inr (1, [.ref r1, .int (nI h1), .int (nI k1)]))] (nI k1) [(x, .inr (2, [.int (nI len), .ref t, .ref v, .ref c0, .ref c1, .ref fr])), (c1, .inr (1, [.ref r1, .int (nI h1), .int (nI k1)]))] := by
  refine mt_i (by decide) rfl (Nat.le_of_ble_eq_true rfl) ?_
  intro p e s m below meth c A ls Q hx hb hts hown hml hin hN hK hA hP hD hS hl hex
  have hown : s.vm.findClass RX2 = some m.cls := hown
  have hl : lv_has ls 3 [(0, .ref x), (1, .int 1)] := hl
  have iX1 : ∀ w ∈ wsX10, w ∈ wsX2_waiting := by decide +kernel
  have lk71 : (Cond.fieldLinkNest RX2 71 "DownFrames$Channel" "size" "I" "DownFrames").before ([.ref x, .int 1] : List Value).toArray s = true := va_Nw.use rfl hN.2.1
  refine lv_aload_n hx hb dX2_waiting_0 rfl (lv_at hl 0 rfl) ?_
  refine lv_iload_n hx hb dX2_waiting_1 rfl (lv_at hl 1 rfl) ?_
  refine cl0_vR ⟨hx, hb, hml, hown, hts⟩ (c_x_of1 l D cA x len t v c0 c1 fr) (cwV 1 hts gX2_waiting_X2_channelOf rfl rfl rfl (by decide +kernel) ⟨Nat.le_of_ble_eq_true rfl, Nat.le_of_ble_eq_true rfl⟩) (ci := 2) (q0 := 0) rfl rfl hN hK hP hD hS hA [0] [1] [1, 0] [(c1, .inr (1, [.ref r1, .int (nI h1), .int (nI k1)]))] [(x, .inr (2, [.int (nI len), .ref t, .ref v, .ref c0, .ref c1, .ref fr])), (c1, .inr (1, [.ref r1, .int (nI h1), .int (nI k1)]))] [] rfl rfl rfl rfl (by decide) rfl rfl rfl hl.1 rfl (Nat.le_of_ble_eq_true rfl) dX2_waiting_2 ⟨Nat.le_of_ble_eq_true rfl, Nat.le_of_ble_eq_true rfl⟩ (fun H locs hP hD hS => ?_)
  refine lv_astore_n (lv' := [(2, .ref c1), (0, .ref x), (1, .int 1)]) hx hb dX2_waiting_5 rfl hl (by decide) rfl (fun ls hl => ?_)
  refine lv_aload_n hx hb dX2_waiting_6 rfl (lv_at hl 0 rfl) ?_
  refine lv_ifnonnull (tgt := 14) hx hb dX2_waiting_7 (by decide) ?_
  refine lv_aload_n hx hb dX2_waiting_14 rfl (lv_at hl 0 rfl) ?_
  refine va_getN (D := D) (ci := 1) (v := .int (nI k1)) hx hb hts iX1 hown hK hP 1 rfl rfl 2 (by decide) lk71 (fun _ h => h) rfl dX2_waiting_15 ?_
  exact hex _ _ _ _ _ () hS (rfl) hP hD dX2_waiting_18

set_option maxHeartbeats 4000000 in
set_option maxRecDepth 100000 in
/-- waiting -/
theorem c_x_waitN (l : Launch) (D : va_G) (cA : ClassId) (x len t v c0 c1 fr : Nat) (z : Int32) (hz0 : ¬ z = 0) (hz1 : ¬ z = 1) : MI0 l yX2_waiting wsX2_waiting { frames := 1, cells := 0, slots := 0, locals := 21 } [.ref x, .int z] D [(cA, .int)] [(x, .inr (2, [.int (nI len), .ref t, .ref v, .ref c0, .ref c1, .ref fr]))] (-1) [(x, .inr (2, [.int (nI len), .ref t, .ref v, .ref c0, .ref c1, .ref fr]))] := by
  refine mt_i (by decide) rfl (Nat.le_of_ble_eq_true rfl) ?_
  intro p e s m below meth c A ls Q hx hb hts hown hml hin hN hK hA hP hD hS hl hex
  have hown : s.vm.findClass RX2 = some m.cls := hown
  have hl : lv_has ls 3 [(0, .ref x), (1, .int z)] := hl
  refine lv_aload_n hx hb dX2_waiting_0 rfl (lv_at hl 0 rfl) ?_
  refine lv_iload_n hx hb dX2_waiting_1 rfl (lv_at hl 1 rfl) ?_
  refine cl0_vN ⟨hx, hb, hml, hown, hts⟩ (c_x_ofN l D cA x len t v c0 c1 fr z hz0 hz1) (cwV 1 hts gX2_waiting_X2_channelOf rfl rfl rfl (by decide +kernel) ⟨Nat.le_of_ble_eq_true rfl, Nat.le_of_ble_eq_true rfl⟩) (ci := 2) (q0 := 0) rfl rfl hN hK hP hD hS hA [0] [] [0] [] [(x, .inr (2, [.int (nI len), .ref t, .ref v, .ref c0, .ref c1, .ref fr]))] [] rfl rfl rfl rfl (by decide) rfl rfl rfl hl.1 rfl (Nat.le_of_ble_eq_true rfl) dX2_waiting_2 ⟨Nat.le_of_ble_eq_true rfl, Nat.le_of_ble_eq_true rfl⟩ (fun H locs hP hD hS => ?_)
  refine lv_astore_nN (lv' := [(2, .null), (0, .ref x), (1, .int z)]) hx hb dX2_waiting_5 rfl hl (by decide) rfl (fun ls hl => ?_)
  refine lv_aload_nN hx hb dX2_waiting_6 rfl (lv_at hl 0 rfl) ?_
  refine lv_ifnonnullN hx hb dX2_waiting_7 ?_
  refine lv_iconst (v := (-1)) hx hb dX2_waiting_10 (by decide) ?_
  refine lv_goto (tgt := 18) hx hb dX2_waiting_11 (by decide) ?_
  exact hex _ _ _ _ _ () hS (rfl) hP hD dX2_waiting_18

set_option maxHeartbeats 4000000 in
set_option maxRecDepth 100000 in
/-- count of frames -/
theorem c_x_countF (l : Launch) (D : va_G) (cA : ClassId) (x len t v c0 c1 fr : Nat) (nf : Nat → Int32) (j : Nat) (hj : j < 4) : MI0 l yX2_count wsX2_count { frames := 0, cells := 0, slots := 0, locals := 0 } [.ref x, .int (nI j)] D [(cA, .int)] [(x, .inr (2, [.int (nI len), .ref t, .ref v, .ref c0, .ref c1, .ref fr])), (fr, .inl (cA, 4, .inl nf))] (nf j) [(x, .inr (2, [.int (nI len), .ref t, .ref v, .ref c0, .ref c1, .ref fr])), (fr, .inl (cA, 4, .inl nf))] := by
  refine mt_i (by decide) rfl (Nat.le_of_ble_eq_true rfl) ?_
  intro p e s m below meth c A ls Q hx hb hts hown hml hin hN hK hA hP hD hS hl hex
  have hown : s.vm.findClass RX2 = some m.cls := hown
  have hl : lv_has ls 2 [(0, .ref x), (1, .int (nI j))] := hl
  have iX2 : ∀ w ∈ wsX20, w ∈ wsX2_count := by decide +kernel
  have lk44 := hts (.fieldLink RX2 44 "DownFrames" "frames" "[I") (by decide +kernel)
  refine lv_iload_n hx hb dX2_count_0 rfl (lv_at hl 1 rfl) ?_
  refine lv_if_lt (tgt := 16) hx hb dX2_count_1 (by decide) (fun cc => absurd cc (nI_pos (by omega))) (fun _ => ?_)
  refine lv_iload_n hx hb dX2_count_4 rfl (lv_at hl 1 rfl) ?_
  refine lv_iconst (v := 3) hx hb dX2_count_5 (by decide) ?_
  refine lv_icmp_gt (tgt := 16) hx hb dX2_count_6 (by decide) (fun cc => absurd cc (nI_nlt (a := 3) (by omega) (by decide))) (fun _ => ?_)
  refine lv_aload_n hx hb dX2_count_9 rfl (lv_at hl 0 rfl) ?_
  refine va_get (D := D) (ci := 2) (v := .ref fr) hx hb hts iX2 hown hK hP 0 rfl rfl 5 (by decide) lk44 (fun _ h => h) rfl dX2_count_10 ?_
  refine lv_iload_n hx hb dX2_count_13 rfl (lv_at hl 1 rfl) ?_
  refine al_i (k := j) hx hb hK hP 1 0 rfl rfl (hj) (by decide) dX2_count_14 ?_
  exact hex _ _ _ _ _ () hS (rfl) hP hD dX2_count_15

set_option maxHeartbeats 4000000 in
set_option maxRecDepth 100000 in
/-- count(4) -/
theorem c_x_count4 (l : Launch) (D : va_G) (cA : ClassId) (x len t v c0 c1 fr : Nat) (tr tk : Nat) : MI0 l yX2_count wsX2_count { frames := 0, cells := 0, slots := 0, locals := 0 } [.ref x, .int 4] D [(cA, .int)] [(x, .inr (2, [.int (nI len), .ref t, .ref v, .ref c0, .ref c1, .ref fr])), (t, .inr (0, [.ref tr, .int (nI tk)]))] (nI tk) [(x, .inr (2, [.int (nI len), .ref t, .ref v, .ref c0, .ref c1, .ref fr])), (t, .inr (0, [.ref tr, .int (nI tk)]))] := by
  refine mt_i (by decide) rfl (Nat.le_of_ble_eq_true rfl) ?_
  intro p e s m below meth c A ls Q hx hb hts hown hml hin hN hK hA hP hD hS hl hex
  have hown : s.vm.findClass RX2 = some m.cls := hown
  have hl : lv_has ls 2 [(0, .ref x), (1, .int 4)] := hl
  have iX0 : ∀ w ∈ wsX00, w ∈ wsX2_count := by decide +kernel
  have iX2 : ∀ w ∈ wsX20, w ∈ wsX2_count := by decide +kernel
  have lk27 := hts (.fieldLink RX2 27 "DownFrames" "tape" "LDownFrames$Bytes;") (by decide +kernel)
  have lk63 : (Cond.fieldLinkNest RX2 63 "DownFrames$Bytes" "size" "I" "DownFrames").before ([.ref x, .int 4] : List Value).toArray s = true := va_Nw.use rfl hN.1
  refine lv_iload_n hx hb dX2_count_0 rfl (lv_at hl 1 rfl) ?_
  refine lv_if_lt (tgt := 16) hx hb dX2_count_1 (by decide) (fun cc => absurd cc (by decide)) (fun _ => ?_)
  refine lv_iload_n hx hb dX2_count_4 rfl (lv_at hl 1 rfl) ?_
  refine lv_iconst (v := 3) hx hb dX2_count_5 (by decide) ?_
  refine lv_icmp_gt (tgt := 16) hx hb dX2_count_6 (by decide) (fun _ => ?_) (fun cc => absurd (by decide) cc)
  refine lv_iload_n hx hb dX2_count_16 rfl (lv_at hl 1 rfl) ?_
  refine lv_iconst (v := 4) hx hb dX2_count_17 (by decide) ?_
  refine lv_icmp_ne (tgt := 29) hx hb dX2_count_18 (by decide) (fun cc => absurd (rfl) cc) (fun _ => ?_)
  refine lv_aload_n hx hb dX2_count_21 rfl (lv_at hl 0 rfl) ?_
  refine va_get (D := D) (ci := 2) (v := .ref t) hx hb hts iX2 hown hK hP 0 rfl rfl 1 (by decide) lk27 (fun _ h => h) rfl dX2_count_22 ?_
  refine va_getN (D := D) (ci := 0) (v := .int (nI tk)) hx hb hts iX0 hown hK hP 1 rfl rfl 1 (by decide) lk63 (fun _ h => h) rfl dX2_count_25 ?_
  exact hex _ _ _ _ _ () hS (rfl) hP hD dX2_count_28

set_option maxHeartbeats 4000000 in
set_option maxRecDepth 100000 in
/-- count(5) -/
theorem c_x_count5 (l : Launch) (D : va_G) (cA : ClassId) (x len t v c0 c1 fr : Nat) : MI0 l yX2_count wsX2_count { frames := 0, cells := 0, slots := 0, locals := 0 } [.ref x, .int 5] D [(cA, .int)] [(x, .inr (2, [.int (nI len), .ref t, .ref v, .ref c0, .ref c1, .ref fr]))] (nI len) [(x, .inr (2, [.int (nI len), .ref t, .ref v, .ref c0, .ref c1, .ref fr]))] := by
  refine mt_i (by decide) rfl (Nat.le_of_ble_eq_true rfl) ?_
  intro p e s m below meth c A ls Q hx hb hts hown hml hin hN hK hA hP hD hS hl hex
  have hown : s.vm.findClass RX2 = some m.cls := hown
  have hl : lv_has ls 2 [(0, .ref x), (1, .int 5)] := hl
  have iX2 : ∀ w ∈ wsX20, w ∈ wsX2_count := by decide +kernel
  have lk18 := hts (.fieldLink RX2 18 "DownFrames" "length" "I") (by decide +kernel)
  refine lv_iload_n hx hb dX2_count_0 rfl (lv_at hl 1 rfl) ?_
  refine lv_if_lt (tgt := 16) hx hb dX2_count_1 (by decide) (fun cc => absurd cc (by decide)) (fun _ => ?_)
  refine lv_iload_n hx hb dX2_count_4 rfl (lv_at hl 1 rfl) ?_
  refine lv_iconst (v := 3) hx hb dX2_count_5 (by decide) ?_
  refine lv_icmp_gt (tgt := 16) hx hb dX2_count_6 (by decide) (fun _ => ?_) (fun cc => absurd (by decide) cc)
  refine lv_iload_n hx hb dX2_count_16 rfl (lv_at hl 1 rfl) ?_
  refine lv_iconst (v := 4) hx hb dX2_count_17 (by decide) ?_
  refine lv_icmp_ne (tgt := 29) hx hb dX2_count_18 (by decide) (fun _ => ?_) (fun cc => absurd cc (by decide))
  refine lv_iload_n hx hb dX2_count_29 rfl (lv_at hl 1 rfl) ?_
  refine lv_iconst (v := 5) hx hb dX2_count_30 (by decide) ?_
  refine lv_icmp_ne (tgt := 41) hx hb dX2_count_31 (by decide) (fun cc => absurd (rfl) cc) (fun _ => ?_)
  refine lv_aload_n hx hb dX2_count_34 rfl (lv_at hl 0 rfl) ?_
  refine va_get (D := D) (ci := 2) (v := .int (nI len)) hx hb hts iX2 hown hK hP 0 rfl rfl 0 (by decide) lk18 (fun _ h => h) rfl dX2_count_35 ?_
  refine lv_goto (tgt := 42) hx hb dX2_count_38 (by decide) ?_
  exact hex _ _ _ _ _ () hS (rfl) hP hD dX2_count_42

set_option maxHeartbeats 4000000 in
set_option maxRecDepth 100000 in
/-- count of nothing -/
theorem c_x_countN (l : Launch) (D : va_G) (cA : ClassId) (x len t v c0 c1 fr : Nat) (z : Int32) (hz : z < 0 ∨ 3 < z) (h4 : ¬ z = 4) (h5 : ¬ z = 5) : MI0 l yX2_count wsX2_count { frames := 0, cells := 0, slots := 0, locals := 0 } [.ref x, .int z] D [(cA, .int)] [(x, .inr (2, [.int (nI len), .ref t, .ref v, .ref c0, .ref c1, .ref fr]))] (-1) [(x, .inr (2, [.int (nI len), .ref t, .ref v, .ref c0, .ref c1, .ref fr]))] := by
  refine mt_i (by decide) rfl (Nat.le_of_ble_eq_true rfl) ?_
  intro p e s m below meth c A ls Q hx hb hts hown hml hin hN hK hA hP hD hS hl hex
  have hown : s.vm.findClass RX2 = some m.cls := hown
  have hl : lv_has ls 2 [(0, .ref x), (1, .int z)] := hl
  refine lv_iload_n hx hb dX2_count_0 rfl (lv_at hl 1 rfl) ?_
  refine lv_if_lt (tgt := 16) hx hb dX2_count_1 (by decide) (fun z1 => ?_) (fun z1 => ?_)
  · refine lv_iload_n hx hb dX2_count_16 rfl (lv_at hl 1 rfl) ?_
    refine lv_iconst (v := 4) hx hb dX2_count_17 (by decide) ?_
    refine lv_icmp_ne (tgt := 29) hx hb dX2_count_18 (by decide) (fun _ => ?_) (fun cc => absurd cc (h4))
    refine lv_iload_n hx hb dX2_count_29 rfl (lv_at hl 1 rfl) ?_
    refine lv_iconst (v := 5) hx hb dX2_count_30 (by decide) ?_
    refine lv_icmp_ne (tgt := 41) hx hb dX2_count_31 (by decide) (fun _ => ?_) (fun cc => absurd cc (h5))
    refine lv_iconst (v := (-1)) hx hb dX2_count_41 (by decide) ?_
    exact hex _ _ _ _ _ () hS (rfl) hP hD dX2_count_42
  · refine lv_iload_n hx hb dX2_count_4 rfl (lv_at hl 1 rfl) ?_
    refine lv_iconst (v := 3) hx hb dX2_count_5 (by decide) ?_
    refine lv_icmp_gt (tgt := 16) hx hb dX2_count_6 (by decide) (fun z2 => ?_) (fun z2 => ?_)
    · refine lv_iload_n hx hb dX2_count_16 rfl (lv_at hl 1 rfl) ?_
      refine lv_iconst (v := 4) hx hb dX2_count_17 (by decide) ?_
      refine lv_icmp_ne (tgt := 29) hx hb dX2_count_18 (by decide) (fun _ => ?_) (fun cc => absurd cc (h4))
      refine lv_iload_n hx hb dX2_count_29 rfl (lv_at hl 1 rfl) ?_
      refine lv_iconst (v := 5) hx hb dX2_count_30 (by decide) ?_
      refine lv_icmp_ne (tgt := 41) hx hb dX2_count_31 (by decide) (fun _ => ?_) (fun cc => absurd cc (h5))
      refine lv_iconst (v := (-1)) hx hb dX2_count_41 (by decide) ?_
      exact hex _ _ _ _ _ () hS (rfl) hP hD dX2_count_42
    · exact absurd hz (fun q => by rcases q with q | q; exact z1 q; exact z2 q)
end
section
set_option maxHeartbeats 4000000 in
set_option maxRecDepth 100000 in
/-- frame of channel 0 -/
theorem c_x_frame0 (l : Launch) (D : va_G) (cA : ClassId) (a : Nat) (x len t v c0 c1 fr : Nat) (vr vk : Nat) (vf : Nat → Int32) (r0 h0 k0 : Nat) (f0 : Nat → Int32) (r1 h1 k1 : Nat) (f1 : Nat → Int32) (nf : Nat → Int32) (word : Int32) (hlen : len = a + 12) (hla : len ≤ 256) (hz : 0 < k0) (hk0 : k0 ≤ 4096) (hh : h0 < 4096) : MI0 l yX2_frame wsX2_frame { frames := 3, cells := 0, slots := 0, locals := 90 } [.ref x, .int word] D [(cA, .int)] [(x, .inr (2, [.int (nI len), .ref t, .ref v, .ref c0, .ref c1, .ref fr])), (v, .inr (0, [.ref vr, .int (nI vk)])), (vr, .inl (cA, len, .inl vf)), (c0, .inr (1, [.ref r0, .int (nI h0), .int (nI k0)])), (r0, .inl (cA, 4096, .inl f0)), (c1, .inr (1, [.ref r1, .int (nI h1), .int (nI k1)])), (r1, .inl (cA, 4096, .inl f1)), (fr, .inl (cA, 4, .inl nf))] 0 [(x, .inr (2, [.int (nI len), .ref t, .ref v, .ref c0, .ref c1, .ref fr])), (v, .inr (0, [.ref vr, .int (nI len)])), (vr, .inl (cA, len, .inl (frL vf nf 0 1 (fbS (filF f0 h0 k0 a) h0 a 0) (gfl (filF f0 h0 k0 a) h0) a word))), (c0, .inr (1, [.ref r0, .int (nI ((h0 + a) % 4096)), .int (nI (filK k0 a - a))])), (r0, .inl (cA, 4096, .inl (filF f0 h0 k0 a))), (c1, .inr (1, [.ref r1, .int (nI h1), .int (nI k1)])), (r1, .inl (cA, 4096, .inl f1)), (fr, .inl (cA, 4, .inl (cnt2 nf 1)))] := by
  refine mt_i (by decide) rfl (Nat.le_of_ble_eq_true rfl) ?_
  intro p e s m below meth c A ls Q hx hb hts hown hml hin hN hK hA hP hD hS hl hex
  have hown : s.vm.findClass RX2 = some m.cls := hown
  have hl : lv_has ls 7 [(0, .ref x), (1, .int word)] := hl
  have iX2 : ∀ w ∈ wsX20, w ∈ wsX2_frame := by decide +kernel
  have lk18 := hts (.fieldLink RX2 18 "DownFrames" "length" "I") (by decide +kernel)
  have lk31 := hts (.fieldLink RX2 31 "DownFrames" "latest" "LDownFrames$Bytes;") (by decide +kernel)
  have lk44 := hts (.fieldLink RX2 44 "DownFrames" "frames" "[I") (by decide +kernel)
  obtain ⟨F, hF⟩ : ∃ F, F = filF f0 h0 k0 a := ⟨_, rfl⟩
  obtain ⟨K, hKK⟩ : ∃ K, K = filK k0 a := ⟨_, rfl⟩
  have hKa : a ≤ K := by rw [hKK]; exact filK_ge _ _
  have hKm : K ≤ 4096 := by rw [hKK]; exact filK_le _ _ (by omega) (by omega)
  refine lv_aload_n hx hb dX2_frame_0 rfl (lv_at hl 0 rfl) ?_
  refine cl0_vi ⟨hx, hb, hml, hown, hts⟩ (c_x_next0 l D cA x len t v c0 c1 fr r0 h0 k0 r1 h1 k1 hz hk0) (cwV 0 hts gX2_frame_X2_nextChannel rfl rfl rfl (by decide +kernel) ⟨Nat.le_of_ble_eq_true rfl, Nat.le_of_ble_eq_true rfl⟩) (ci := 2) (q0 := 0) rfl rfl hN hK hP hD hS hA [0, 3, 5] [1, 2, 4, 6, 7] [5, 0, 1, 6, 2, 7, 3, 4] [(v, .inr (0, [.ref vr, .int (nI vk)])), (vr, .inl (cA, len, .inl vf)), (r0, .inl (cA, 4096, .inl f0)), (r1, .inl (cA, 4096, .inl f1)), (fr, .inl (cA, 4, .inl nf))] [(x, .inr (2, [.int (nI len), .ref t, .ref v, .ref c0, .ref c1, .ref fr])), (v, .inr (0, [.ref vr, .int (nI vk)])), (vr, .inl (cA, len, .inl vf)), (c0, .inr (1, [.ref r0, .int (nI h0), .int (nI k0)])), (r0, .inl (cA, 4096, .inl f0)), (c1, .inr (1, [.ref r1, .int (nI h1), .int (nI k1)])), (r1, .inl (cA, 4096, .inl f1)), (fr, .inl (cA, 4, .inl nf))] [] rfl rfl rfl rfl (by decide) rfl rfl rfl hl.1 rfl (Nat.le_of_ble_eq_true rfl) dX2_frame_1 ⟨Nat.le_of_ble_eq_true rfl, Nat.le_of_ble_eq_true rfl⟩ (fun H locs hP hD hS => ?_)
  refine lv_istore_n (lv' := [(2, .int 0), (0, .ref x), (1, .int word)]) hx hb dX2_frame_4 rfl hl (by decide) rfl (fun ls hl => ?_)
  refine lv_iload_n hx hb dX2_frame_5 rfl (lv_at hl 0 rfl) ?_
  refine lv_bipush (v := 7) hx hb dX2_frame_6 (by decide +kernel) ?_
  refine lv_icmp_ne (tgt := 15) hx hb dX2_frame_8 (by decide) (fun _ => ?_) (fun cc => absurd cc (by decide))
  refine lv_iload_n hx hb dX2_frame_15 rfl (lv_at hl 0 rfl) ?_
  refine lv_iconst (v := 1) hx hb dX2_frame_16 (by decide) ?_
  refine lv_iadd hx hb dX2_frame_17 ?_
  refine tp_i (y := nI 1) (by decide) ?_
  refine lv_istore_n (lv' := [(3, .int (nI 1)), (2, .int 0), (0, .ref x), (1, .int word)]) hx hb dX2_frame_18 rfl hl (by decide) rfl (fun ls hl => ?_)
  refine lv_aload_n hx hb dX2_frame_19 rfl (lv_at hl 2 rfl) ?_
  refine lv_iload_n hx hb dX2_frame_20 rfl (lv_at hl 1 rfl) ?_
  refine cl0_vR ⟨hx, hb, hml, hown, hts⟩ (c_x_of0 l D cA x len t v c0 c1 fr) (cwV 1 hts gX2_frame_X2_channelOf rfl rfl rfl (by decide +kernel) ⟨Nat.le_of_ble_eq_true rfl, Nat.le_of_ble_eq_true rfl⟩) (ci := 2) (q0 := 0) rfl rfl hN hK hP hD hS hA [0] [1, 2, 3, 4, 5, 6, 7] [7, 0, 1, 2, 3, 4, 5, 6] [(v, .inr (0, [.ref vr, .int (nI vk)])), (vr, .inl (cA, len, .inl vf)), (c0, .inr (1, [.ref r0, .int (nI h0), .int (nI k0)])), (r0, .inl (cA, 4096, .inl f0)), (c1, .inr (1, [.ref r1, .int (nI h1), .int (nI k1)])), (r1, .inl (cA, 4096, .inl f1)), (fr, .inl (cA, 4, .inl nf))] [(x, .inr (2, [.int (nI len), .ref t, .ref v, .ref c0, .ref c1, .ref fr])), (v, .inr (0, [.ref vr, .int (nI vk)])), (vr, .inl (cA, len, .inl vf)), (c0, .inr (1, [.ref r0, .int (nI h0), .int (nI k0)])), (r0, .inl (cA, 4096, .inl f0)), (c1, .inr (1, [.ref r1, .int (nI h1), .int (nI k1)])), (r1, .inl (cA, 4096, .inl f1)), (fr, .inl (cA, 4, .inl nf))] [] rfl rfl rfl rfl (by decide) rfl rfl rfl hl.1 rfl (Nat.le_of_ble_eq_true rfl) dX2_frame_21 ⟨Nat.le_of_ble_eq_true rfl, Nat.le_of_ble_eq_true rfl⟩ (fun H locs hP hD hS => ?_)
  refine lv_astore (lv' := [(4, .ref c0), (3, .int (nI 1)), (2, .int 0), (0, .ref x), (1, .int word)]) hx hb dX2_frame_24 hl (by decide) rfl (fun ls hl => ?_)
  refine lv_aload_n hx hb dX2_frame_26 rfl (lv_at hl 3 rfl) ?_
  refine va_get (D := D) (ci := 2) (v := .int (nI len)) hx hb hts iX2 hown hK hP 0 rfl rfl 0 (by decide) lk18 (fun _ h => h) rfl dX2_frame_27 ?_
  refine lv_bipush (v := 12) hx hb dX2_frame_30 (by decide +kernel) ?_
  refine lv_isub hx hb dX2_frame_32 ?_
  refine tp_i (y := nI a) (by rw [hlen, show (12 : Int32) = nI 12 from rfl, pk_sub (by omega)]; congr 1) ?_
  refine lv_istore (lv' := [(5, .int (nI a)), (4, .ref c0), (3, .int (nI 1)), (2, .int 0), (0, .ref x), (1, .int word)]) hx hb dX2_frame_33 hl (by decide) rfl (fun ls hl => ?_)
  refine lv_aload hx hb dX2_frame_35 (lv_at hl 1 rfl) ?_
  refine lv_ifnull hx hb dX2_frame_37 ?_
  refine lv_aload hx hb dX2_frame_40 (lv_at hl 1 rfl) ?_
  refine lv_iload hx hb dX2_frame_42 (lv_at hl 0 rfl) ?_
  refine cl0_vv ⟨hx, hb, hml, hown, hts⟩ (c_ch_fill l D cA c0 r0 f0 h0 k0 a hh (by omega) (by omega)) (cwV 1 hts gX2_frame_X1_fillUpTo rfl rfl rfl (by decide +kernel) ⟨Nat.le_of_ble_eq_true rfl, Nat.le_of_ble_eq_true rfl⟩) (ci := 1) (q0 := 0) rfl rfl hN hK hP hD hS hA [3, 4] [0, 1, 2, 5, 6, 7] [0, 1, 2, 6, 7, 3, 4, 5] [(x, .inr (2, [.int (nI len), .ref t, .ref v, .ref c0, .ref c1, .ref fr])), (v, .inr (0, [.ref vr, .int (nI vk)])), (vr, .inl (cA, len, .inl vf)), (c1, .inr (1, [.ref r1, .int (nI h1), .int (nI k1)])), (r1, .inl (cA, 4096, .inl f1)), (fr, .inl (cA, 4, .inl nf))] [(x, .inr (2, [.int (nI len), .ref t, .ref v, .ref c0, .ref c1, .ref fr])), (v, .inr (0, [.ref vr, .int (nI vk)])), (vr, .inl (cA, len, .inl vf)), (c0, .inr (1, [.ref r0, .int (nI h0), .int (nI (filK k0 a))])), (r0, .inl (cA, 4096, .inl (filF f0 h0 k0 a))), (c1, .inr (1, [.ref r1, .int (nI h1), .int (nI k1)])), (r1, .inl (cA, 4096, .inl f1)), (fr, .inl (cA, 4, .inl nf))] [] rfl rfl rfl rfl (by decide) rfl rfl rfl hl.1 rfl (Nat.le_of_ble_eq_true rfl) dX2_frame_44 ⟨Nat.le_of_ble_eq_true rfl, Nat.le_of_ble_eq_true rfl⟩ (fun H locs hP hD hS => ?_)
  rw [← hF, ← hKK] at hP hD
  have hP : va_P D vwCl [(x, .inr (2, [.int (nI len), .ref t, .ref v, .ref c0, .ref c1, .ref fr])), (v, .inr (0, [.ref vr, .int (nI vk)])), (vr, .inl (cA, len, .inl vf)), (c0, .inr (1, [.ref r0, .int (nI h0), .int (nI K)])), (r0, .inl (cA, 4096, .inl F)), (c1, .inr (1, [.ref r1, .int (nI h1), .int (nI k1)])), (r1, .inl (cA, 4096, .inl f1)), (fr, .inl (cA, 4, .inl nf))] H := hP
  have hD : va_D A [(x, .inr (2, [.int (nI len), .ref t, .ref v, .ref c0, .ref c1, .ref fr])), (v, .inr (0, [.ref vr, .int (nI vk)])), (vr, .inl (cA, len, .inl vf)), (c0, .inr (1, [.ref r0, .int (nI h0), .int (nI K)])), (r0, .inl (cA, 4096, .inl F)), (c1, .inr (1, [.ref r1, .int (nI h1), .int (nI k1)])), (r1, .inl (cA, 4096, .inl f1)), (fr, .inl (cA, 4, .inl nf))] := hD
  refine lv_aload_n hx hb dX2_frame_47 rfl (lv_at hl 4 rfl) ?_
  refine va_get (D := D) (ci := 2) (v := .ref v) hx hb hts iX2 hown hK hP 0 rfl rfl 2 (by decide) lk31 (fun _ h => h) rfl dX2_frame_48 ?_
  refine cl0_vv ⟨hx, hb, hml, hown, hts⟩ (c_by_clear l D cA v vr len vf vk) (cwV 0 hts gX2_frame_X0_clear rfl rfl rfl (by decide +kernel) ⟨Nat.le_of_ble_eq_true rfl, Nat.le_of_ble_eq_true rfl⟩) (ci := 0) (q0 := 0) rfl rfl hN hK hP hD hS hA [1, 2] [0, 3, 4, 5, 6, 7] [0, 6, 7, 1, 2, 3, 4, 5] [(x, .inr (2, [.int (nI len), .ref t, .ref v, .ref c0, .ref c1, .ref fr])), (c0, .inr (1, [.ref r0, .int (nI h0), .int (nI K)])), (r0, .inl (cA, 4096, .inl F)), (c1, .inr (1, [.ref r1, .int (nI h1), .int (nI k1)])), (r1, .inl (cA, 4096, .inl f1)), (fr, .inl (cA, 4, .inl nf))] [(x, .inr (2, [.int (nI len), .ref t, .ref v, .ref c0, .ref c1, .ref fr])), (v, .inr (0, [.ref vr, .int (nI 0)])), (vr, .inl (cA, len, .inl vf)), (c0, .inr (1, [.ref r0, .int (nI h0), .int (nI K)])), (r0, .inl (cA, 4096, .inl F)), (c1, .inr (1, [.ref r1, .int (nI h1), .int (nI k1)])), (r1, .inl (cA, 4096, .inl f1)), (fr, .inl (cA, 4, .inl nf))] [] rfl rfl rfl rfl (by decide) rfl rfl rfl hl.1 rfl (Nat.le_of_ble_eq_true rfl) dX2_frame_51 ⟨Nat.le_of_ble_eq_true rfl, Nat.le_of_ble_eq_true rfl⟩ (fun H locs hP hD hS => ?_)
  refine lv_aload_n hx hb dX2_frame_54 rfl (lv_at hl 4 rfl) ?_
  refine va_get (D := D) (ci := 2) (v := .ref v) hx hb hts iX2 hown hK hP 0 rfl rfl 2 (by decide) lk31 (fun _ h => h) rfl dX2_frame_55 ?_
  refine lv_sipush (v := 5536) hx hb dX2_frame_58 (by decide +kernel) ?_
  refine lv_iload_n hx hb dX2_frame_61 rfl (lv_at hl 3 rfl) ?_
  refine lv_iconst (v := 1) hx hb dX2_frame_62 (by decide) ?_
  refine lv_ishl hx hb dX2_frame_63 ?_
  refine lv_ior hx hb dX2_frame_64 ?_
  refine lv_iconst (v := 1) hx hb dX2_frame_65 (by decide) ?_
  refine lv_ior hx hb dX2_frame_66 ?_
  refine tp_i (y := hdw 0) (rfl) ?_
  refine cl0_vv ⟨hx, hb, hml, hown, hts⟩ (c_by_put16 l D cA v vr len vf 0 (hdw 0) (by omega) (by omega)) (cwV 1 hts gX2_frame_X0_put16 rfl rfl rfl (by decide +kernel) ⟨Nat.le_of_ble_eq_true rfl, Nat.le_of_ble_eq_true rfl⟩) (ci := 0) (q0 := 0) rfl rfl hN hK hP hD hS hA [1, 2] [0, 3, 4, 5, 6, 7] [0, 6, 7, 1, 2, 3, 4, 5] [(x, .inr (2, [.int (nI len), .ref t, .ref v, .ref c0, .ref c1, .ref fr])), (c0, .inr (1, [.ref r0, .int (nI h0), .int (nI K)])), (r0, .inl (cA, 4096, .inl F)), (c1, .inr (1, [.ref r1, .int (nI h1), .int (nI k1)])), (r1, .inl (cA, 4096, .inl f1)), (fr, .inl (cA, 4, .inl nf))] [(x, .inr (2, [.int (nI len), .ref t, .ref v, .ref c0, .ref c1, .ref fr])), (v, .inr (0, [.ref vr, .int (nI 2)])), (vr, .inl (cA, len, .inl (upd (upd vf 0 (ush (hdw 0) 8 &&& 255)) 1 ((hdw 0) &&& 255)))), (c0, .inr (1, [.ref r0, .int (nI h0), .int (nI K)])), (r0, .inl (cA, 4096, .inl F)), (c1, .inr (1, [.ref r1, .int (nI h1), .int (nI k1)])), (r1, .inl (cA, 4096, .inl f1)), (fr, .inl (cA, 4, .inl nf))] [] rfl rfl rfl rfl (by decide) rfl rfl rfl hl.1 rfl (Nat.le_of_ble_eq_true rfl) dX2_frame_67 ⟨Nat.le_of_ble_eq_true rfl, Nat.le_of_ble_eq_true rfl⟩ (fun H locs hP hD hS => ?_)
  refine lv_aload_n hx hb dX2_frame_70 rfl (lv_at hl 4 rfl) ?_
  refine va_get (D := D) (ci := 2) (v := .ref v) hx hb hts iX2 hown hK hP 0 rfl rfl 2 (by decide) lk31 (fun _ h => h) rfl dX2_frame_71 ?_
  refine lv_aload_n hx hb dX2_frame_74 rfl (lv_at hl 4 rfl) ?_
  refine va_get (D := D) (ci := 2) (v := .ref fr) hx hb hts iX2 hown hK hP 0 rfl rfl 5 (by decide) lk44 (fun _ h => h) rfl dX2_frame_75 ?_
  refine lv_iconst (v := 0) hx hb dX2_frame_78 (by decide) ?_
  refine tp_i (y := nI 0) (rfl) ?_
  refine al_i (k := 0) hx hb hK hP 7 0 rfl rfl (by decide) (by decide) dX2_frame_79 ?_
  refine cl0_vv ⟨hx, hb, hml, hown, hts⟩ (c_by_put8 l D cA v vr len (upd (upd vf 0 (ush (hdw 0) 8 &&& 255)) 1 ((hdw 0) &&& 255)) 2 (nf 0) (by omega) (by omega)) (cwV 1 hts gX2_frame_X0_put8 rfl rfl rfl (by decide +kernel) ⟨Nat.le_of_ble_eq_true rfl, Nat.le_of_ble_eq_true rfl⟩) (ci := 0) (q0 := 0) rfl rfl hN hK hP hD hS hA [1, 2] [0, 3, 4, 5, 6, 7] [0, 6, 7, 1, 2, 3, 4, 5] [(x, .inr (2, [.int (nI len), .ref t, .ref v, .ref c0, .ref c1, .ref fr])), (c0, .inr (1, [.ref r0, .int (nI h0), .int (nI K)])), (r0, .inl (cA, 4096, .inl F)), (c1, .inr (1, [.ref r1, .int (nI h1), .int (nI k1)])), (r1, .inl (cA, 4096, .inl f1)), (fr, .inl (cA, 4, .inl nf))] [(x, .inr (2, [.int (nI len), .ref t, .ref v, .ref c0, .ref c1, .ref fr])), (v, .inr (0, [.ref vr, .int (nI 3)])), (vr, .inl (cA, len, .inl (upd (upd (upd vf 0 (ush (hdw 0) 8 &&& 255)) 1 ((hdw 0) &&& 255)) 2 ((nf 0) &&& 255)))), (c0, .inr (1, [.ref r0, .int (nI h0), .int (nI K)])), (r0, .inl (cA, 4096, .inl F)), (c1, .inr (1, [.ref r1, .int (nI h1), .int (nI k1)])), (r1, .inl (cA, 4096, .inl f1)), (fr, .inl (cA, 4, .inl nf))] [] rfl rfl rfl rfl (by decide) rfl rfl rfl hl.1 rfl (Nat.le_of_ble_eq_true rfl) dX2_frame_80 ⟨Nat.le_of_ble_eq_true rfl, Nat.le_of_ble_eq_true rfl⟩ (fun H locs hP hD hS => ?_)
  refine lv_aload_n hx hb dX2_frame_83 rfl (lv_at hl 4 rfl) ?_
  refine va_get (D := D) (ci := 2) (v := .ref v) hx hb hts iX2 hown hK hP 0 rfl rfl 2 (by decide) lk31 (fun _ h => h) rfl dX2_frame_84 ?_
  refine lv_aload_n hx hb dX2_frame_87 rfl (lv_at hl 4 rfl) ?_
  refine va_get (D := D) (ci := 2) (v := .ref fr) hx hb hts iX2 hown hK hP 0 rfl rfl 5 (by decide) lk44 (fun _ h => h) rfl dX2_frame_88 ?_
  refine lv_iload_n hx hb dX2_frame_91 rfl (lv_at hl 2 rfl) ?_
  refine al_i (k := 1) hx hb hK hP 7 0 rfl rfl (by decide) (by decide) dX2_frame_92 ?_
  refine cl0_vv ⟨hx, hb, hml, hown, hts⟩ (c_by_put8 l D cA v vr len (upd (upd (upd vf 0 (ush (hdw 0) 8 &&& 255)) 1 ((hdw 0) &&& 255)) 2 ((nf 0) &&& 255)) 3 (nf 1) (by omega) (by omega)) (cwV 1 hts gX2_frame_X0_put8 rfl rfl rfl (by decide +kernel) ⟨Nat.le_of_ble_eq_true rfl, Nat.le_of_ble_eq_true rfl⟩) (ci := 0) (q0 := 0) rfl rfl hN hK hP hD hS hA [1, 2] [0, 3, 4, 5, 6, 7] [0, 6, 7, 1, 2, 3, 4, 5] [(x, .inr (2, [.int (nI len), .ref t, .ref v, .ref c0, .ref c1, .ref fr])), (c0, .inr (1, [.ref r0, .int (nI h0), .int (nI K)])), (r0, .inl (cA, 4096, .inl F)), (c1, .inr (1, [.ref r1, .int (nI h1), .int (nI k1)])), (r1, .inl (cA, 4096, .inl f1)), (fr, .inl (cA, 4, .inl nf))] [(x, .inr (2, [.int (nI len), .ref t, .ref v, .ref c0, .ref c1, .ref fr])), (v, .inr (0, [.ref vr, .int (nI 4)])), (vr, .inl (cA, len, .inl (upd (upd (upd (upd vf 0 (ush (hdw 0) 8 &&& 255)) 1 ((hdw 0) &&& 255)) 2 ((nf 0) &&& 255)) 3 ((nf 1) &&& 255)))), (c0, .inr (1, [.ref r0, .int (nI h0), .int (nI K)])), (r0, .inl (cA, 4096, .inl F)), (c1, .inr (1, [.ref r1, .int (nI h1), .int (nI k1)])), (r1, .inl (cA, 4096, .inl f1)), (fr, .inl (cA, 4, .inl nf))] [] rfl rfl rfl rfl (by decide) rfl rfl rfl hl.1 rfl (Nat.le_of_ble_eq_true rfl) dX2_frame_93 ⟨Nat.le_of_ble_eq_true rfl, Nat.le_of_ble_eq_true rfl⟩ (fun H locs hP hD hS => ?_)
  refine lv_aload_n hx hb dX2_frame_96 rfl (lv_at hl 4 rfl) ?_
  refine va_get (D := D) (ci := 2) (v := .ref v) hx hb hts iX2 hown hK hP 0 rfl rfl 2 (by decide) lk31 (fun _ h => h) rfl dX2_frame_97 ?_
  refine lv_sipush (v := 6144) hx hb dX2_frame_100 (by decide +kernel) ?_
  refine lv_aload hx hb dX2_frame_103 (lv_at hl 1 rfl) ?_
  refine lv_ifnonnull (tgt := 114) hx hb dX2_frame_105 (by decide) ?_
  refine lv_aload hx hb dX2_frame_114 (lv_at hl 1 rfl) ?_
  refine lv_iload hx hb dX2_frame_116 (lv_at hl 0 rfl) ?_
  refine cl0_vi ⟨hx, hb, hml, hown, hts⟩ (c_ch_first l D cA c0 r0 F h0 K a hh hKa hKm) (cwV 1 hts gX2_frame_X1_firstBegin rfl rfl rfl (by decide +kernel) ⟨Nat.le_of_ble_eq_true rfl, Nat.le_of_ble_eq_true rfl⟩) (ci := 1) (q0 := 0) rfl rfl hN hK hP hD hS hA [3, 4] [0, 1, 2, 5, 6, 7] [0, 1, 2, 6, 7, 3, 4, 5] [(x, .inr (2, [.int (nI len), .ref t, .ref v, .ref c0, .ref c1, .ref fr])), (v, .inr (0, [.ref vr, .int (nI 4)])), (vr, .inl (cA, len, .inl (upd (upd (upd (upd vf 0 (ush (hdw 0) 8 &&& 255)) 1 ((hdw 0) &&& 255)) 2 ((nf 0) &&& 255)) 3 ((nf 1) &&& 255)))), (c1, .inr (1, [.ref r1, .int (nI h1), .int (nI k1)])), (r1, .inl (cA, 4096, .inl f1)), (fr, .inl (cA, 4, .inl nf))] [(x, .inr (2, [.int (nI len), .ref t, .ref v, .ref c0, .ref c1, .ref fr])), (v, .inr (0, [.ref vr, .int (nI 4)])), (vr, .inl (cA, len, .inl (upd (upd (upd (upd vf 0 (ush (hdw 0) 8 &&& 255)) 1 ((hdw 0) &&& 255)) 2 ((nf 0) &&& 255)) 3 ((nf 1) &&& 255)))), (c0, .inr (1, [.ref r0, .int (nI h0), .int (nI K)])), (r0, .inl (cA, 4096, .inl F)), (c1, .inr (1, [.ref r1, .int (nI h1), .int (nI k1)])), (r1, .inl (cA, 4096, .inl f1)), (fr, .inl (cA, 4, .inl nf))] [.int 6144, .ref v] rfl rfl rfl rfl (by decide) rfl rfl rfl hl.1 rfl (Nat.le_of_ble_eq_true rfl) dX2_frame_118 ⟨Nat.le_of_ble_eq_true rfl, Nat.le_of_ble_eq_true rfl⟩ (fun H locs hP hD hS => ?_)
  refine lv_ior hx hb dX2_frame_121 ?_
  refine cl0_vv ⟨hx, hb, hml, hown, hts⟩ (c_by_put16 l D cA v vr len (upd (upd (upd (upd vf 0 (ush (hdw 0) 8 &&& 255)) 1 ((hdw 0) &&& 255)) 2 ((nf 0) &&& 255)) 3 ((nf 1) &&& 255)) 4 (6144 ||| (fbS F h0 a 0)) (by omega) (by omega)) (cwV 1 hts gX2_frame_X0_put16 rfl rfl rfl (by decide +kernel) ⟨Nat.le_of_ble_eq_true rfl, Nat.le_of_ble_eq_true rfl⟩) (ci := 0) (q0 := 0) rfl rfl hN hK hP hD hS hA [1, 2] [0, 3, 4, 5, 6, 7] [0, 6, 7, 1, 2, 3, 4, 5] [(x, .inr (2, [.int (nI len), .ref t, .ref v, .ref c0, .ref c1, .ref fr])), (c0, .inr (1, [.ref r0, .int (nI h0), .int (nI K)])), (r0, .inl (cA, 4096, .inl F)), (c1, .inr (1, [.ref r1, .int (nI h1), .int (nI k1)])), (r1, .inl (cA, 4096, .inl f1)), (fr, .inl (cA, 4, .inl nf))] [(x, .inr (2, [.int (nI len), .ref t, .ref v, .ref c0, .ref c1, .ref fr])), (v, .inr (0, [.ref vr, .int (nI 6)])), (vr, .inl (cA, len, .inl (frA vf nf 0 1 (fbS F h0 a 0)))), (c0, .inr (1, [.ref r0, .int (nI h0), .int (nI K)])), (r0, .inl (cA, 4096, .inl F)), (c1, .inr (1, [.ref r1, .int (nI h1), .int (nI k1)])), (r1, .inl (cA, 4096, .inl f1)), (fr, .inl (cA, 4, .inl nf))] [] rfl rfl rfl rfl (by decide) rfl rfl rfl hl.1 rfl (Nat.le_of_ble_eq_true rfl) dX2_frame_122 ⟨Nat.le_of_ble_eq_true rfl, Nat.le_of_ble_eq_true rfl⟩ (fun H locs hP hD hS => ?_)
  refine lv_iconst (v := 0) hx hb dX2_frame_125 (by decide) ?_
  refine lv_istore (lv' := [(6, .int 0), (5, .int (nI a)), (4, .ref c0), (3, .int (nI 1)), (2, .int 0), (0, .ref x), (1, .int word)]) hx hb dX2_frame_126 hl (by decide) rfl (fun ls hl => ?_)
  have loop : ∀ (d j : Nat) (H : Heap) (locs : List Loc) (ls : Array Slot), j + d = a → va_P D vwCl [(x, .inr (2, [.int (nI len), .ref t, .ref v, .ref c0, .ref c1, .ref fr])), (v, .inr (0, [.ref vr, .int (nI (6 + j))])), (vr, .inl (cA, len, .inl (lwr (frA vf nf 0 1 (fbS F h0 a 0)) 6 (gfl F h0) j))), (c0, .inr (1, [.ref r0, .int (nI ((h0 + j) % 4096)), .int (nI (K - j))])), (r0, .inl (cA, 4096, .inl F)), (c1, .inr (1, [.ref r1, .int (nI h1), .int (nI k1)])), (r1, .inl (cA, 4096, .inl f1)), (fr, .inl (cA, 4, .inl nf))] H → va_D A [(x, .inr (2, [.int (nI len), .ref t, .ref v, .ref c0, .ref c1, .ref fr])), (v, .inr (0, [.ref vr, .int (nI (6 + j))])), (vr, .inl (cA, len, .inl (lwr (frA vf nf 0 1 (fbS F h0 a 0)) 6 (gfl F h0) j))), (c0, .inr (1, [.ref r0, .int (nI ((h0 + j) % 4096)), .int (nI (K - j))])), (r0, .inl (cA, 4096, .inl F)), (c1, .inr (1, [.ref r1, .int (nI h1), .int (nI k1)])), (r1, .inl (cA, 4096, .inl f1)), (fr, .inl (cA, 4, .inl nf))] → va_S A s.heap H locs → lv_has ls 7 [(6, .int (nI j)), (5, .int (nI a)), (4, .ref c0), (3, .int (nI 1)), (2, .int 0), (0, .ref x), (1, .int word)] → W p l e ({ frames := 3, cells := 0, slots := 0, locals := 90 } : Room) s m ([.ref x, .int word] : List Value).toArray below meth c H locs 0 0 Q (F0 m 128 ls []) := by
    intro d
    induction d with
    | zero =>
      intro j H locs ls hj hP hD hS hl
      have hj : j = a := hj
      rw [hj] at hP hD hl
      refine lv_iload hx hb dX2_frame_128 (lv_at hl 0 rfl) ?_
      refine lv_iload hx hb dX2_frame_130 (lv_at hl 1 rfl) ?_
      refine lv_icmp_ge (tgt := 163) hx hb dX2_frame_132 (by decide) (fun _ => ?_) (fun cc => absurd (nI_le (Nat.le_refl _) (by omega)) cc)
      refine lv_aload_n hx hb dX2_frame_163 rfl (lv_at hl 5 rfl) ?_
      refine va_get (D := D) (ci := 2) (v := .ref v) hx hb hts iX2 hown hK hP 0 rfl rfl 2 (by decide) lk31 (fun _ h => h) rfl dX2_frame_164 ?_
      refine lv_iload_n hx hb dX2_frame_167 rfl (lv_at hl 6 rfl) ?_
      refine lv_bipush (v := 16) hx hb dX2_frame_168 (by decide +kernel) ?_
      refine lv_iushr (v := ush word 16) hx hb dX2_frame_170 rfl ?_
      refine cl0_vv ⟨hx, hb, hml, hown, hts⟩ (c_by_put16 l D cA v vr len (lwr (frA vf nf 0 1 (fbS F h0 a 0)) 6 (gfl F h0) a) (6 + a) (ush word 16) (by omega) (by omega)) (cwV 1 hts gX2_frame_X0_put16 rfl rfl rfl (by decide +kernel) ⟨Nat.le_of_ble_eq_true rfl, Nat.le_of_ble_eq_true rfl⟩) (ci := 0) (q0 := 0) rfl rfl hN hK hP hD hS hA [1, 2] [0, 3, 4, 5, 6, 7] [0, 6, 7, 1, 2, 3, 4, 5] [(x, .inr (2, [.int (nI len), .ref t, .ref v, .ref c0, .ref c1, .ref fr])), (c0, .inr (1, [.ref r0, .int (nI ((h0 + a) % 4096)), .int (nI (K - a))])), (r0, .inl (cA, 4096, .inl F)), (c1, .inr (1, [.ref r1, .int (nI h1), .int (nI k1)])), (r1, .inl (cA, 4096, .inl f1)), (fr, .inl (cA, 4, .inl nf))] [(x, .inr (2, [.int (nI len), .ref t, .ref v, .ref c0, .ref c1, .ref fr])), (v, .inr (0, [.ref vr, .int (nI (6 + a + 2))])), (vr, .inl (cA, len, .inl (upd (upd (lwr (frA vf nf 0 1 (fbS F h0 a 0)) 6 (gfl F h0) a) (6 + a) (ush (ush word 16) 8 &&& 255)) (6 + a + 1) ((ush word 16) &&& 255)))), (c0, .inr (1, [.ref r0, .int (nI ((h0 + a) % 4096)), .int (nI (K - a))])), (r0, .inl (cA, 4096, .inl F)), (c1, .inr (1, [.ref r1, .int (nI h1), .int (nI k1)])), (r1, .inl (cA, 4096, .inl f1)), (fr, .inl (cA, 4, .inl nf))] [] rfl rfl rfl rfl (by decide) rfl rfl rfl hl.1 rfl (Nat.le_of_ble_eq_true rfl) dX2_frame_171 ⟨Nat.le_of_ble_eq_true rfl, Nat.le_of_ble_eq_true rfl⟩ (fun H locs hP hD hS => ?_)
      refine lv_aload_n hx hb dX2_frame_174 rfl (lv_at hl 5 rfl) ?_
      refine va_get (D := D) (ci := 2) (v := .ref v) hx hb hts iX2 hown hK hP 0 rfl rfl 2 (by decide) lk31 (fun _ h => h) rfl dX2_frame_175 ?_
      refine lv_iload_n hx hb dX2_frame_178 rfl (lv_at hl 6 rfl) ?_
      refine cl0_vv ⟨hx, hb, hml, hown, hts⟩ (c_by_put16 l D cA v vr len (upd (upd (lwr (frA vf nf 0 1 (fbS F h0 a 0)) 6 (gfl F h0) a) (6 + a) (ush (ush word 16) 8 &&& 255)) (6 + a + 1) ((ush word 16) &&& 255)) (6 + a + 2) word (by omega) (by omega)) (cwV 1 hts gX2_frame_X0_put16 rfl rfl rfl (by decide +kernel) ⟨Nat.le_of_ble_eq_true rfl, Nat.le_of_ble_eq_true rfl⟩) (ci := 0) (q0 := 0) rfl rfl hN hK hP hD hS hA [1, 2] [0, 3, 4, 5, 6, 7] [0, 6, 7, 1, 2, 3, 4, 5] [(x, .inr (2, [.int (nI len), .ref t, .ref v, .ref c0, .ref c1, .ref fr])), (c0, .inr (1, [.ref r0, .int (nI ((h0 + a) % 4096)), .int (nI (K - a))])), (r0, .inl (cA, 4096, .inl F)), (c1, .inr (1, [.ref r1, .int (nI h1), .int (nI k1)])), (r1, .inl (cA, 4096, .inl f1)), (fr, .inl (cA, 4, .inl nf))] [(x, .inr (2, [.int (nI len), .ref t, .ref v, .ref c0, .ref c1, .ref fr])), (v, .inr (0, [.ref vr, .int (nI (6 + a + 4))])), (vr, .inl (cA, len, .inl (frW (lwr (frA vf nf 0 1 (fbS F h0 a 0)) 6 (gfl F h0) a) a word))), (c0, .inr (1, [.ref r0, .int (nI ((h0 + a) % 4096)), .int (nI (K - a))])), (r0, .inl (cA, 4096, .inl F)), (c1, .inr (1, [.ref r1, .int (nI h1), .int (nI k1)])), (r1, .inl (cA, 4096, .inl f1)), (fr, .inl (cA, 4, .inl nf))] [] rfl rfl rfl rfl (by decide) rfl rfl rfl hl.1 rfl (Nat.le_of_ble_eq_true rfl) dX2_frame_179 ⟨Nat.le_of_ble_eq_true rfl, Nat.le_of_ble_eq_true rfl⟩ (fun H locs hP hD hS => ?_)
      refine lv_aload_n hx hb dX2_frame_182 rfl (lv_at hl 5 rfl) ?_
      refine va_get (D := D) (ci := 2) (v := .ref v) hx hb hts iX2 hown hK hP 0 rfl rfl 2 (by decide) lk31 (fun _ h => h) rfl dX2_frame_183 ?_
      refine lv_aload_n hx hb dX2_frame_186 rfl (lv_at hl 5 rfl) ?_
      refine va_get (D := D) (ci := 2) (v := .ref v) hx hb hts iX2 hown hK hP 0 rfl rfl 2 (by decide) lk31 (fun _ h => h) rfl dX2_frame_187 ?_
      refine cl0_vi ⟨hx, hb, hml, hown, hts⟩ (c_by_check l D cA v vr len (frW (lwr (frA vf nf 0 1 (fbS F h0 a 0)) 6 (gfl F h0) a) a word) (6 + a + 4) (by omega) (by omega)) (cwV 0 hts gX2_frame_X0_check rfl rfl rfl (by decide +kernel) ⟨Nat.le_of_ble_eq_true rfl, Nat.le_of_ble_eq_true rfl⟩) (ci := 0) (q0 := 0) rfl rfl hN hK hP hD hS hA [1, 2] [0, 3, 4, 5, 6, 7] [0, 6, 7, 1, 2, 3, 4, 5] [(x, .inr (2, [.int (nI len), .ref t, .ref v, .ref c0, .ref c1, .ref fr])), (c0, .inr (1, [.ref r0, .int (nI ((h0 + a) % 4096)), .int (nI (K - a))])), (r0, .inl (cA, 4096, .inl F)), (c1, .inr (1, [.ref r1, .int (nI h1), .int (nI k1)])), (r1, .inl (cA, 4096, .inl f1)), (fr, .inl (cA, 4, .inl nf))] [(x, .inr (2, [.int (nI len), .ref t, .ref v, .ref c0, .ref c1, .ref fr])), (v, .inr (0, [.ref vr, .int (nI (6 + a + 4))])), (vr, .inl (cA, len, .inl (frW (lwr (frA vf nf 0 1 (fbS F h0 a 0)) 6 (gfl F h0) a) a word))), (c0, .inr (1, [.ref r0, .int (nI ((h0 + a) % 4096)), .int (nI (K - a))])), (r0, .inl (cA, 4096, .inl F)), (c1, .inr (1, [.ref r1, .int (nI h1), .int (nI k1)])), (r1, .inl (cA, 4096, .inl f1)), (fr, .inl (cA, 4, .inl nf))] [.ref v] rfl rfl rfl rfl (by decide) rfl rfl rfl hl.1 rfl (Nat.le_of_ble_eq_true rfl) dX2_frame_190 ⟨Nat.le_of_ble_eq_true rfl, Nat.le_of_ble_eq_true rfl⟩ (fun H locs hP hD hS => ?_)
      refine cl0_vv ⟨hx, hb, hml, hown, hts⟩ (c_by_put16 l D cA v vr len (frW (lwr (frA vf nf 0 1 (fbS F h0 a 0)) 6 (gfl F h0) a) a word) (6 + a + 4) (crc (frW (lwr (frA vf nf 0 1 (fbS F h0 a 0)) 6 (gfl F h0) a) a word) (6 + a + 4)) (by omega) (by omega)) (cwV 1 hts gX2_frame_X0_put16 rfl rfl rfl (by decide +kernel) ⟨Nat.le_of_ble_eq_true rfl, Nat.le_of_ble_eq_true rfl⟩) (ci := 0) (q0 := 0) rfl rfl hN hK hP hD hS hA [1, 2] [0, 3, 4, 5, 6, 7] [0, 6, 7, 1, 2, 3, 4, 5] [(x, .inr (2, [.int (nI len), .ref t, .ref v, .ref c0, .ref c1, .ref fr])), (c0, .inr (1, [.ref r0, .int (nI ((h0 + a) % 4096)), .int (nI (K - a))])), (r0, .inl (cA, 4096, .inl F)), (c1, .inr (1, [.ref r1, .int (nI h1), .int (nI k1)])), (r1, .inl (cA, 4096, .inl f1)), (fr, .inl (cA, 4, .inl nf))] [(x, .inr (2, [.int (nI len), .ref t, .ref v, .ref c0, .ref c1, .ref fr])), (v, .inr (0, [.ref vr, .int (nI (6 + a + 6))])), (vr, .inl (cA, len, .inl (frL vf nf 0 1 (fbS F h0 a 0) (gfl F h0) a word))), (c0, .inr (1, [.ref r0, .int (nI ((h0 + a) % 4096)), .int (nI (K - a))])), (r0, .inl (cA, 4096, .inl F)), (c1, .inr (1, [.ref r1, .int (nI h1), .int (nI k1)])), (r1, .inl (cA, 4096, .inl f1)), (fr, .inl (cA, 4, .inl nf))] [] rfl rfl rfl rfl (by decide) rfl rfl rfl hl.1 rfl (Nat.le_of_ble_eq_true rfl) dX2_frame_193 ⟨Nat.le_of_ble_eq_true rfl, Nat.le_of_ble_eq_true rfl⟩ (fun H locs hP hD hS => ?_)
      refine lv_aload_n hx hb dX2_frame_196 rfl (lv_at hl 5 rfl) ?_
      refine va_get (D := D) (ci := 2) (v := .ref fr) hx hb hts iX2 hown hK hP 0 rfl rfl 5 (by decide) lk44 (fun _ h => h) rfl dX2_frame_197 ?_
      refine lv_iconst (v := 0) hx hb dX2_frame_200 (by decide) ?_
      refine tp_i (y := nI 0) (rfl) ?_
      refine lv_dup2_11 hx hb dX2_frame_201 rfl rfl ?_
      refine al_i (k := 0) hx hb hK hP 7 0 rfl rfl (by decide) (by decide) dX2_frame_202 ?_
      refine lv_iconst (v := 1) hx hb dX2_frame_203 (by decide) ?_
      refine lv_iadd hx hb dX2_frame_204 ?_
      refine as_i (k := 0) (x := ((nf 0) + 1)) hx hb hK hP hD hS 7 0 rfl rfl (by decide) (by decide) dX2_frame_205 (fun H locs hP hD hS => ?_)
      have hP : va_P D vwCl [(x, .inr (2, [.int (nI len), .ref t, .ref v, .ref c0, .ref c1, .ref fr])), (v, .inr (0, [.ref vr, .int (nI (6 + a + 6))])), (vr, .inl (cA, len, .inl (frL vf nf 0 1 (fbS F h0 a 0) (gfl F h0) a word))), (c0, .inr (1, [.ref r0, .int (nI ((h0 + a) % 4096)), .int (nI (K - a))])), (r0, .inl (cA, 4096, .inl F)), (c1, .inr (1, [.ref r1, .int (nI h1), .int (nI k1)])), (r1, .inl (cA, 4096, .inl f1)), (fr, .inl (cA, 4, .inl (upd nf 0 ((nf 0) + 1))))] H := hP
      have hD : va_D A [(x, .inr (2, [.int (nI len), .ref t, .ref v, .ref c0, .ref c1, .ref fr])), (v, .inr (0, [.ref vr, .int (nI (6 + a + 6))])), (vr, .inl (cA, len, .inl (frL vf nf 0 1 (fbS F h0 a 0) (gfl F h0) a word))), (c0, .inr (1, [.ref r0, .int (nI ((h0 + a) % 4096)), .int (nI (K - a))])), (r0, .inl (cA, 4096, .inl F)), (c1, .inr (1, [.ref r1, .int (nI h1), .int (nI k1)])), (r1, .inl (cA, 4096, .inl f1)), (fr, .inl (cA, 4, .inl (upd nf 0 ((nf 0) + 1))))] := hD
      refine lv_aload_n hx hb dX2_frame_206 rfl (lv_at hl 5 rfl) ?_
      refine va_get (D := D) (ci := 2) (v := .ref fr) hx hb hts iX2 hown hK hP 0 rfl rfl 5 (by decide) lk44 (fun _ h => h) rfl dX2_frame_207 ?_
      refine lv_iload_n hx hb dX2_frame_210 rfl (lv_at hl 3 rfl) ?_
      refine lv_dup2_11 hx hb dX2_frame_211 rfl rfl ?_
      refine al_i (k := 1) hx hb hK hP 7 0 rfl rfl (by decide) (by decide) dX2_frame_212 ?_
      refine lv_iconst (v := 1) hx hb dX2_frame_213 (by decide) ?_
      refine lv_iadd hx hb dX2_frame_214 ?_
      refine as_i (k := 1) (x := (((upd nf 0 ((nf 0) + 1)) 1) + 1)) hx hb hK hP hD hS 7 0 rfl rfl (by decide) (by decide) dX2_frame_215 (fun H locs hP hD hS => ?_)
      have hP : va_P D vwCl [(x, .inr (2, [.int (nI len), .ref t, .ref v, .ref c0, .ref c1, .ref fr])), (v, .inr (0, [.ref vr, .int (nI (6 + a + 6))])), (vr, .inl (cA, len, .inl (frL vf nf 0 1 (fbS F h0 a 0) (gfl F h0) a word))), (c0, .inr (1, [.ref r0, .int (nI ((h0 + a) % 4096)), .int (nI (K - a))])), (r0, .inl (cA, 4096, .inl F)), (c1, .inr (1, [.ref r1, .int (nI h1), .int (nI k1)])), (r1, .inl (cA, 4096, .inl f1)), (fr, .inl (cA, 4, .inl (upd (upd nf 0 ((nf 0) + 1)) 1 (((upd nf 0 ((nf 0) + 1)) 1) + 1))))] H := hP
      have hD : va_D A [(x, .inr (2, [.int (nI len), .ref t, .ref v, .ref c0, .ref c1, .ref fr])), (v, .inr (0, [.ref vr, .int (nI (6 + a + 6))])), (vr, .inl (cA, len, .inl (frL vf nf 0 1 (fbS F h0 a 0) (gfl F h0) a word))), (c0, .inr (1, [.ref r0, .int (nI ((h0 + a) % 4096)), .int (nI (K - a))])), (r0, .inl (cA, 4096, .inl F)), (c1, .inr (1, [.ref r1, .int (nI h1), .int (nI k1)])), (r1, .inl (cA, 4096, .inl f1)), (fr, .inl (cA, 4, .inl (upd (upd nf 0 ((nf 0) + 1)) 1 (((upd nf 0 ((nf 0) + 1)) 1) + 1))))] := hD
      refine lv_iload_n hx hb dX2_frame_216 rfl (lv_at hl 4 rfl) ?_
      rw [show 6 + a + 6 = len by omega] at hP hD
      subst hF
      subst hKK
      exact hex _ _ _ _ _ () hS (rfl) hP hD dX2_frame_217
    | succ d ih =>
      intro j H locs ls hj hP hD hS hl
      refine lv_iload hx hb dX2_frame_128 (lv_at hl 0 rfl) ?_
      refine lv_iload hx hb dX2_frame_130 (lv_at hl 1 rfl) ?_
      refine lv_icmp_ge (tgt := 163) hx hb dX2_frame_132 (by decide) (fun cc => absurd cc (nI_ge (by omega) (by omega))) (fun _ => ?_)
      refine lv_aload_n hx hb dX2_frame_135 rfl (lv_at hl 5 rfl) ?_
      refine va_get (D := D) (ci := 2) (v := .ref v) hx hb hts iX2 hown hK hP 0 rfl rfl 2 (by decide) lk31 (fun _ h => h) rfl dX2_frame_136 ?_
      refine lv_aload hx hb dX2_frame_139 (lv_at hl 2 rfl) ?_
      refine lv_ifnonnull (tgt := 149) hx hb dX2_frame_141 (by decide) ?_
      refine lv_aload hx hb dX2_frame_149 (lv_at hl 2 rfl) ?_
      rw [show K - j = K - (j + 1) + 1 by omega] at hP hD
      have hP : va_P D vwCl [(x, .inr (2, [.int (nI len), .ref t, .ref v, .ref c0, .ref c1, .ref fr])), (v, .inr (0, [.ref vr, .int (nI (6 + j))])), (vr, .inl (cA, len, .inl (lwr (frA vf nf 0 1 (fbS F h0 a 0)) 6 (gfl F h0) j))), (c0, .inr (1, [.ref r0, .int (nI ((h0 + j) % 4096)), .int (nI (K - (j + 1) + 1))])), (r0, .inl (cA, 4096, .inl F)), (c1, .inr (1, [.ref r1, .int (nI h1), .int (nI k1)])), (r1, .inl (cA, 4096, .inl f1)), (fr, .inl (cA, 4, .inl nf))] H := hP
      have hD : va_D A [(x, .inr (2, [.int (nI len), .ref t, .ref v, .ref c0, .ref c1, .ref fr])), (v, .inr (0, [.ref vr, .int (nI (6 + j))])), (vr, .inl (cA, len, .inl (lwr (frA vf nf 0 1 (fbS F h0 a 0)) 6 (gfl F h0) j))), (c0, .inr (1, [.ref r0, .int (nI ((h0 + j) % 4096)), .int (nI (K - (j + 1) + 1))])), (r0, .inl (cA, 4096, .inl F)), (c1, .inr (1, [.ref r1, .int (nI h1), .int (nI k1)])), (r1, .inl (cA, 4096, .inl f1)), (fr, .inl (cA, 4, .inl nf))] := hD
      refine cl0_vi ⟨hx, hb, hml, hown, hts⟩ (c_ch_take l D cA c0 r0 F ((h0 + j) % 4096) (K - (j + 1)) (Nat.mod_lt _ (by decide)) (by omega)) (cwV 0 hts gX2_frame_X1_take rfl rfl rfl (by decide +kernel) ⟨Nat.le_of_ble_eq_true rfl, Nat.le_of_ble_eq_true rfl⟩) (ci := 1) (q0 := 0) rfl rfl hN hK hP hD hS hA [3, 4] [0, 1, 2, 5, 6, 7] [0, 1, 2, 6, 7, 3, 4, 5] [(x, .inr (2, [.int (nI len), .ref t, .ref v, .ref c0, .ref c1, .ref fr])), (v, .inr (0, [.ref vr, .int (nI (6 + j))])), (vr, .inl (cA, len, .inl (lwr (frA vf nf 0 1 (fbS F h0 a 0)) 6 (gfl F h0) j))), (c1, .inr (1, [.ref r1, .int (nI h1), .int (nI k1)])), (r1, .inl (cA, 4096, .inl f1)), (fr, .inl (cA, 4, .inl nf))] [(x, .inr (2, [.int (nI len), .ref t, .ref v, .ref c0, .ref c1, .ref fr])), (v, .inr (0, [.ref vr, .int (nI (6 + j))])), (vr, .inl (cA, len, .inl (lwr (frA vf nf 0 1 (fbS F h0 a 0)) 6 (gfl F h0) j))), (c0, .inr (1, [.ref r0, .int (nI (((h0 + j) % 4096 + 1) % 4096)), .int (nI (K - (j + 1)))])), (r0, .inl (cA, 4096, .inl F)), (c1, .inr (1, [.ref r1, .int (nI h1), .int (nI k1)])), (r1, .inl (cA, 4096, .inl f1)), (fr, .inl (cA, 4, .inl nf))] [.ref v] rfl rfl rfl rfl (by decide) rfl rfl rfl hl.1 rfl (Nat.le_of_ble_eq_true rfl) dX2_frame_151 ⟨Nat.le_of_ble_eq_true rfl, Nat.le_of_ble_eq_true rfl⟩ (fun H locs hP hD hS => ?_)
      rw [show ((h0 + j) % 4096 + 1) % 4096 = (h0 + (j + 1)) % 4096 by omega] at hP hD
      have hP : va_P D vwCl [(x, .inr (2, [.int (nI len), .ref t, .ref v, .ref c0, .ref c1, .ref fr])), (v, .inr (0, [.ref vr, .int (nI (6 + j))])), (vr, .inl (cA, len, .inl (lwr (frA vf nf 0 1 (fbS F h0 a 0)) 6 (gfl F h0) j))), (c0, .inr (1, [.ref r0, .int (nI ((h0 + (j + 1)) % 4096)), .int (nI (K - (j + 1)))])), (r0, .inl (cA, 4096, .inl F)), (c1, .inr (1, [.ref r1, .int (nI h1), .int (nI k1)])), (r1, .inl (cA, 4096, .inl f1)), (fr, .inl (cA, 4, .inl nf))] H := hP
      have hD : va_D A [(x, .inr (2, [.int (nI len), .ref t, .ref v, .ref c0, .ref c1, .ref fr])), (v, .inr (0, [.ref vr, .int (nI (6 + j))])), (vr, .inl (cA, len, .inl (lwr (frA vf nf 0 1 (fbS F h0 a 0)) 6 (gfl F h0) j))), (c0, .inr (1, [.ref r0, .int (nI ((h0 + (j + 1)) % 4096)), .int (nI (K - (j + 1)))])), (r0, .inl (cA, 4096, .inl F)), (c1, .inr (1, [.ref r1, .int (nI h1), .int (nI k1)])), (r1, .inl (cA, 4096, .inl f1)), (fr, .inl (cA, 4, .inl nf))] := hD
      refine cl0_vv ⟨hx, hb, hml, hown, hts⟩ (c_by_put8 l D cA v vr len (lwr (frA vf nf 0 1 (fbS F h0 a 0)) 6 (gfl F h0) j) (6 + j) ((F ((h0 + j) % 4096)) &&& 255) (by omega) (by omega)) (cwV 1 hts gX2_frame_X0_put8 rfl rfl rfl (by decide +kernel) ⟨Nat.le_of_ble_eq_true rfl, Nat.le_of_ble_eq_true rfl⟩) (ci := 0) (q0 := 0) rfl rfl hN hK hP hD hS hA [1, 2] [0, 3, 4, 5, 6, 7] [0, 6, 7, 1, 2, 3, 4, 5] [(x, .inr (2, [.int (nI len), .ref t, .ref v, .ref c0, .ref c1, .ref fr])), (c0, .inr (1, [.ref r0, .int (nI ((h0 + (j + 1)) % 4096)), .int (nI (K - (j + 1)))])), (r0, .inl (cA, 4096, .inl F)), (c1, .inr (1, [.ref r1, .int (nI h1), .int (nI k1)])), (r1, .inl (cA, 4096, .inl f1)), (fr, .inl (cA, 4, .inl nf))] [(x, .inr (2, [.int (nI len), .ref t, .ref v, .ref c0, .ref c1, .ref fr])), (v, .inr (0, [.ref vr, .int (nI (6 + (j + 1)))])), (vr, .inl (cA, len, .inl (lwr (frA vf nf 0 1 (fbS F h0 a 0)) 6 (gfl F h0) (j + 1)))), (c0, .inr (1, [.ref r0, .int (nI ((h0 + (j + 1)) % 4096)), .int (nI (K - (j + 1)))])), (r0, .inl (cA, 4096, .inl F)), (c1, .inr (1, [.ref r1, .int (nI h1), .int (nI k1)])), (r1, .inl (cA, 4096, .inl f1)), (fr, .inl (cA, 4, .inl nf))] [] rfl rfl rfl rfl (by decide) rfl rfl rfl hl.1 rfl (Nat.le_of_ble_eq_true rfl) dX2_frame_154 ⟨Nat.le_of_ble_eq_true rfl, Nat.le_of_ble_eq_true rfl⟩ (fun H locs hP hD hS => ?_)
      refine lv_iinc (v := nI (j + 1)) (lv' := [(6, .int (nI (j + 1))), (5, .int (nI a)), (4, .ref c0), (3, .int (nI 1)), (2, .int 0), (0, .ref x), (1, .int word)]) hx hb dX2_frame_157 hl (k := 0) rfl (nI_1 _) (by decide) rfl (fun ls hl => ?_)
      refine lv_goto (tgt := 128) hx hb dX2_frame_160 (by decide) ?_
      exact ih (j + 1) H locs ls (by omega) hP hD hS (lv_sub hl [0, 1, 2, 3, 4, 5, 6] rfl)
  have e0 : (h0 + 0) % 4096 = h0 := Nat.mod_eq_of_lt hh
  have hP : va_P D vwCl [(x, .inr (2, [.int (nI len), .ref t, .ref v, .ref c0, .ref c1, .ref fr])), (v, .inr (0, [.ref vr, .int (nI (6 + 0))])), (vr, .inl (cA, len, .inl (lwr (frA vf nf 0 1 (fbS F h0 a 0)) 6 (gfl F h0) 0))), (c0, .inr (1, [.ref r0, .int (nI ((h0 + 0) % 4096)), .int (nI (K - 0))])), (r0, .inl (cA, 4096, .inl F)), (c1, .inr (1, [.ref r1, .int (nI h1), .int (nI k1)])), (r1, .inl (cA, 4096, .inl f1)), (fr, .inl (cA, 4, .inl nf))] H := by rw [e0]; exact hP
  have hD : va_D A [(x, .inr (2, [.int (nI len), .ref t, .ref v, .ref c0, .ref c1, .ref fr])), (v, .inr (0, [.ref vr, .int (nI (6 + 0))])), (vr, .inl (cA, len, .inl (lwr (frA vf nf 0 1 (fbS F h0 a 0)) 6 (gfl F h0) 0))), (c0, .inr (1, [.ref r0, .int (nI ((h0 + 0) % 4096)), .int (nI (K - 0))])), (r0, .inl (cA, 4096, .inl F)), (c1, .inr (1, [.ref r1, .int (nI h1), .int (nI k1)])), (r1, .inl (cA, 4096, .inl f1)), (fr, .inl (cA, 4, .inl nf))] := by rw [e0]; exact hD
  exact loop a 0 _ _ ls (by omega) hP hD hS (lv_sub hl [0, 1, 2, 3, 4, 5, 6] rfl)

set_option maxHeartbeats 4000000 in
set_option maxRecDepth 100000 in
/-- frame of channel 1 -/
theorem c_x_frame1 (l : Launch) (D : va_G) (cA : ClassId) (a : Nat) (x len t v c0 c1 fr : Nat) (vr vk : Nat) (vf : Nat → Int32) (r0 h0 k0 : Nat) (f0 : Nat → Int32) (r1 h1 k1 : Nat) (f1 : Nat → Int32) (nf : Nat → Int32) (word : Int32) (hlen : len = a + 12) (hla : len ≤ 256) (hz : k0 = 0) (hy : 0 < k1) (hk1 : k1 ≤ 4096) (hh : h1 < 4096) : MI0 l yX2_frame wsX2_frame { frames := 3, cells := 0, slots := 0, locals := 90 } [.ref x, .int word] D [(cA, .int)] [(x, .inr (2, [.int (nI len), .ref t, .ref v, .ref c0, .ref c1, .ref fr])), (v, .inr (0, [.ref vr, .int (nI vk)])), (vr, .inl (cA, len, .inl vf)), (c0, .inr (1, [.ref r0, .int (nI h0), .int (nI k0)])), (r0, .inl (cA, 4096, .inl f0)), (c1, .inr (1, [.ref r1, .int (nI h1), .int (nI k1)])), (r1, .inl (cA, 4096, .inl f1)), (fr, .inl (cA, 4, .inl nf))] 1 [(x, .inr (2, [.int (nI len), .ref t, .ref v, .ref c0, .ref c1, .ref fr])), (v, .inr (0, [.ref vr, .int (nI len)])), (vr, .inl (cA, len, .inl (frL vf nf 1 2 (fbS (filF f1 h1 k1 a) h1 a 0) (gfl (filF f1 h1 k1 a) h1) a word))), (c0, .inr (1, [.ref r0, .int (nI h0), .int (nI k0)])), (r0, .inl (cA, 4096, .inl f0)), (c1, .inr (1, [.ref r1, .int (nI ((h1 + a) % 4096)), .int (nI (filK k1 a - a))])), (r1, .inl (cA, 4096, .inl (filF f1 h1 k1 a))), (fr, .inl (cA, 4, .inl (cnt2 nf 2)))] := by
  refine mt_i (by decide) rfl (Nat.le_of_ble_eq_true rfl) ?_
  intro p e s m below meth c A ls Q hx hb hts hown hml hin hN hK hA hP hD hS hl hex
  have hown : s.vm.findClass RX2 = some m.cls := hown
  have hl : lv_has ls 7 [(0, .ref x), (1, .int word)] := hl
  have iX2 : ∀ w ∈ wsX20, w ∈ wsX2_frame := by decide +kernel
  have lk18 := hts (.fieldLink RX2 18 "DownFrames" "length" "I") (by decide +kernel)
  have lk31 := hts (.fieldLink RX2 31 "DownFrames" "latest" "LDownFrames$Bytes;") (by decide +kernel)
  have lk44 := hts (.fieldLink RX2 44 "DownFrames" "frames" "[I") (by decide +kernel)
  obtain ⟨F, hF⟩ : ∃ F, F = filF f1 h1 k1 a := ⟨_, rfl⟩
  obtain ⟨K, hKK⟩ : ∃ K, K = filK k1 a := ⟨_, rfl⟩
  have hKa : a ≤ K := by rw [hKK]; exact filK_ge _ _
  have hKm : K ≤ 4096 := by rw [hKK]; exact filK_le _ _ (by omega) (by omega)
  refine lv_aload_n hx hb dX2_frame_0 rfl (lv_at hl 0 rfl) ?_
  refine cl0_vi ⟨hx, hb, hml, hown, hts⟩ (c_x_next1 l D cA x len t v c0 c1 fr r0 h0 k0 r1 h1 k1 hz hy hk1) (cwV 0 hts gX2_frame_X2_nextChannel rfl rfl rfl (by decide +kernel) ⟨Nat.le_of_ble_eq_true rfl, Nat.le_of_ble_eq_true rfl⟩) (ci := 2) (q0 := 0) rfl rfl hN hK hP hD hS hA [0, 3, 5] [1, 2, 4, 6, 7] [5, 0, 1, 6, 2, 7, 3, 4] [(v, .inr (0, [.ref vr, .int (nI vk)])), (vr, .inl (cA, len, .inl vf)), (r0, .inl (cA, 4096, .inl f0)), (r1, .inl (cA, 4096, .inl f1)), (fr, .inl (cA, 4, .inl nf))] [(x, .inr (2, [.int (nI len), .ref t, .ref v, .ref c0, .ref c1, .ref fr])), (v, .inr (0, [.ref vr, .int (nI vk)])), (vr, .inl (cA, len, .inl vf)), (c0, .inr (1, [.ref r0, .int (nI h0), .int (nI k0)])), (r0, .inl (cA, 4096, .inl f0)), (c1, .inr (1, [.ref r1, .int (nI h1), .int (nI k1)])), (r1, .inl (cA, 4096, .inl f1)), (fr, .inl (cA, 4, .inl nf))] [] rfl rfl rfl rfl (by decide) rfl rfl rfl hl.1 rfl (Nat.le_of_ble_eq_true rfl) dX2_frame_1 ⟨Nat.le_of_ble_eq_true rfl, Nat.le_of_ble_eq_true rfl⟩ (fun H locs hP hD hS => ?_)
  refine lv_istore_n (lv' := [(2, .int 1), (0, .ref x), (1, .int word)]) hx hb dX2_frame_4 rfl hl (by decide) rfl (fun ls hl => ?_)
  refine lv_iload_n hx hb dX2_frame_5 rfl (lv_at hl 0 rfl) ?_
  refine lv_bipush (v := 7) hx hb dX2_frame_6 (by decide +kernel) ?_
  refine lv_icmp_ne (tgt := 15) hx hb dX2_frame_8 (by decide) (fun _ => ?_) (fun cc => absurd cc (by decide))
  refine lv_iload_n hx hb dX2_frame_15 rfl (lv_at hl 0 rfl) ?_
  refine lv_iconst (v := 1) hx hb dX2_frame_16 (by decide) ?_
  refine lv_iadd hx hb dX2_frame_17 ?_
  refine tp_i (y := nI 2) (by decide) ?_
  refine lv_istore_n (lv' := [(3, .int (nI 2)), (2, .int 1), (0, .ref x), (1, .int word)]) hx hb dX2_frame_18 rfl hl (by decide) rfl (fun ls hl => ?_)
  refine lv_aload_n hx hb dX2_frame_19 rfl (lv_at hl 2 rfl) ?_
  refine lv_iload_n hx hb dX2_frame_20 rfl (lv_at hl 1 rfl) ?_
  refine cl0_vR ⟨hx, hb, hml, hown, hts⟩ (c_x_of1 l D cA x len t v c0 c1 fr) (cwV 1 hts gX2_frame_X2_channelOf rfl rfl rfl (by decide +kernel) ⟨Nat.le_of_ble_eq_true rfl, Nat.le_of_ble_eq_true rfl⟩) (ci := 2) (q0 := 0) rfl rfl hN hK hP hD hS hA [0] [1, 2, 3, 4, 5, 6, 7] [7, 0, 1, 2, 3, 4, 5, 6] [(v, .inr (0, [.ref vr, .int (nI vk)])), (vr, .inl (cA, len, .inl vf)), (c0, .inr (1, [.ref r0, .int (nI h0), .int (nI k0)])), (r0, .inl (cA, 4096, .inl f0)), (c1, .inr (1, [.ref r1, .int (nI h1), .int (nI k1)])), (r1, .inl (cA, 4096, .inl f1)), (fr, .inl (cA, 4, .inl nf))] [(x, .inr (2, [.int (nI len), .ref t, .ref v, .ref c0, .ref c1, .ref fr])), (v, .inr (0, [.ref vr, .int (nI vk)])), (vr, .inl (cA, len, .inl vf)), (c0, .inr (1, [.ref r0, .int (nI h0), .int (nI k0)])), (r0, .inl (cA, 4096, .inl f0)), (c1, .inr (1, [.ref r1, .int (nI h1), .int (nI k1)])), (r1, .inl (cA, 4096, .inl f1)), (fr, .inl (cA, 4, .inl nf))] [] rfl rfl rfl rfl (by decide) rfl rfl rfl hl.1 rfl (Nat.le_of_ble_eq_true rfl) dX2_frame_21 ⟨Nat.le_of_ble_eq_true rfl, Nat.le_of_ble_eq_true rfl⟩ (fun H locs hP hD hS => ?_)
  refine lv_astore (lv' := [(4, .ref c1), (3, .int (nI 2)), (2, .int 1), (0, .ref x), (1, .int word)]) hx hb dX2_frame_24 hl (by decide) rfl (fun ls hl => ?_)
  refine lv_aload_n hx hb dX2_frame_26 rfl (lv_at hl 3 rfl) ?_
  refine va_get (D := D) (ci := 2) (v := .int (nI len)) hx hb hts iX2 hown hK hP 0 rfl rfl 0 (by decide) lk18 (fun _ h => h) rfl dX2_frame_27 ?_
  refine lv_bipush (v := 12) hx hb dX2_frame_30 (by decide +kernel) ?_
  refine lv_isub hx hb dX2_frame_32 ?_
  refine tp_i (y := nI a) (by rw [hlen, show (12 : Int32) = nI 12 from rfl, pk_sub (by omega)]; congr 1) ?_
  refine lv_istore (lv' := [(5, .int (nI a)), (4, .ref c1), (3, .int (nI 2)), (2, .int 1), (0, .ref x), (1, .int word)]) hx hb dX2_frame_33 hl (by decide) rfl (fun ls hl => ?_)
  refine lv_aload hx hb dX2_frame_35 (lv_at hl 1 rfl) ?_
  refine lv_ifnull hx hb dX2_frame_37 ?_
  refine lv_aload hx hb dX2_frame_40 (lv_at hl 1 rfl) ?_
  refine lv_iload hx hb dX2_frame_42 (lv_at hl 0 rfl) ?_
  refine cl0_vv ⟨hx, hb, hml, hown, hts⟩ (c_ch_fill l D cA c1 r1 f1 h1 k1 a hh (by omega) (by omega)) (cwV 1 hts gX2_frame_X1_fillUpTo rfl rfl rfl (by decide +kernel) ⟨Nat.le_of_ble_eq_true rfl, Nat.le_of_ble_eq_true rfl⟩) (ci := 1) (q0 := 0) rfl rfl hN hK hP hD hS hA [5, 6] [0, 1, 2, 3, 4, 7] [0, 1, 2, 3, 4, 6, 7, 5] [(x, .inr (2, [.int (nI len), .ref t, .ref v, .ref c0, .ref c1, .ref fr])), (v, .inr (0, [.ref vr, .int (nI vk)])), (vr, .inl (cA, len, .inl vf)), (c0, .inr (1, [.ref r0, .int (nI h0), .int (nI k0)])), (r0, .inl (cA, 4096, .inl f0)), (fr, .inl (cA, 4, .inl nf))] [(x, .inr (2, [.int (nI len), .ref t, .ref v, .ref c0, .ref c1, .ref fr])), (v, .inr (0, [.ref vr, .int (nI vk)])), (vr, .inl (cA, len, .inl vf)), (c0, .inr (1, [.ref r0, .int (nI h0), .int (nI k0)])), (r0, .inl (cA, 4096, .inl f0)), (c1, .inr (1, [.ref r1, .int (nI h1), .int (nI (filK k1 a))])), (r1, .inl (cA, 4096, .inl (filF f1 h1 k1 a))), (fr, .inl (cA, 4, .inl nf))] [] rfl rfl rfl rfl (by decide) rfl rfl rfl hl.1 rfl (Nat.le_of_ble_eq_true rfl) dX2_frame_44 ⟨Nat.le_of_ble_eq_true rfl, Nat.le_of_ble_eq_true rfl⟩ (fun H locs hP hD hS => ?_)
  rw [← hF, ← hKK] at hP hD
  have hP : va_P D vwCl [(x, .inr (2, [.int (nI len), .ref t, .ref v, .ref c0, .ref c1, .ref fr])), (v, .inr (0, [.ref vr, .int (nI vk)])), (vr, .inl (cA, len, .inl vf)), (c0, .inr (1, [.ref r0, .int (nI h0), .int (nI k0)])), (r0, .inl (cA, 4096, .inl f0)), (c1, .inr (1, [.ref r1, .int (nI h1), .int (nI K)])), (r1, .inl (cA, 4096, .inl F)), (fr, .inl (cA, 4, .inl nf))] H := hP
  have hD : va_D A [(x, .inr (2, [.int (nI len), .ref t, .ref v, .ref c0, .ref c1, .ref fr])), (v, .inr (0, [.ref vr, .int (nI vk)])), (vr, .inl (cA, len, .inl vf)), (c0, .inr (1, [.ref r0, .int (nI h0), .int (nI k0)])), (r0, .inl (cA, 4096, .inl f0)), (c1, .inr (1, [.ref r1, .int (nI h1), .int (nI K)])), (r1, .inl (cA, 4096, .inl F)), (fr, .inl (cA, 4, .inl nf))] := hD
  refine lv_aload_n hx hb dX2_frame_47 rfl (lv_at hl 4 rfl) ?_
  refine va_get (D := D) (ci := 2) (v := .ref v) hx hb hts iX2 hown hK hP 0 rfl rfl 2 (by decide) lk31 (fun _ h => h) rfl dX2_frame_48 ?_
  refine cl0_vv ⟨hx, hb, hml, hown, hts⟩ (c_by_clear l D cA v vr len vf vk) (cwV 0 hts gX2_frame_X0_clear rfl rfl rfl (by decide +kernel) ⟨Nat.le_of_ble_eq_true rfl, Nat.le_of_ble_eq_true rfl⟩) (ci := 0) (q0 := 0) rfl rfl hN hK hP hD hS hA [1, 2] [0, 3, 4, 5, 6, 7] [0, 6, 7, 1, 2, 3, 4, 5] [(x, .inr (2, [.int (nI len), .ref t, .ref v, .ref c0, .ref c1, .ref fr])), (c0, .inr (1, [.ref r0, .int (nI h0), .int (nI k0)])), (r0, .inl (cA, 4096, .inl f0)), (c1, .inr (1, [.ref r1, .int (nI h1), .int (nI K)])), (r1, .inl (cA, 4096, .inl F)), (fr, .inl (cA, 4, .inl nf))] [(x, .inr (2, [.int (nI len), .ref t, .ref v, .ref c0, .ref c1, .ref fr])), (v, .inr (0, [.ref vr, .int (nI 0)])), (vr, .inl (cA, len, .inl vf)), (c0, .inr (1, [.ref r0, .int (nI h0), .int (nI k0)])), (r0, .inl (cA, 4096, .inl f0)), (c1, .inr (1, [.ref r1, .int (nI h1), .int (nI K)])), (r1, .inl (cA, 4096, .inl F)), (fr, .inl (cA, 4, .inl nf))] [] rfl rfl rfl rfl (by decide) rfl rfl rfl hl.1 rfl (Nat.le_of_ble_eq_true rfl) dX2_frame_51 ⟨Nat.le_of_ble_eq_true rfl, Nat.le_of_ble_eq_true rfl⟩ (fun H locs hP hD hS => ?_)
  refine lv_aload_n hx hb dX2_frame_54 rfl (lv_at hl 4 rfl) ?_
  refine va_get (D := D) (ci := 2) (v := .ref v) hx hb hts iX2 hown hK hP 0 rfl rfl 2 (by decide) lk31 (fun _ h => h) rfl dX2_frame_55 ?_
  refine lv_sipush (v := 5536) hx hb dX2_frame_58 (by decide +kernel) ?_
  refine lv_iload_n hx hb dX2_frame_61 rfl (lv_at hl 3 rfl) ?_
  refine lv_iconst (v := 1) hx hb dX2_frame_62 (by decide) ?_
  refine lv_ishl hx hb dX2_frame_63 ?_
  refine lv_ior hx hb dX2_frame_64 ?_
  refine lv_iconst (v := 1) hx hb dX2_frame_65 (by decide) ?_
  refine lv_ior hx hb dX2_frame_66 ?_
  refine tp_i (y := hdw 1) (rfl) ?_
  refine cl0_vv ⟨hx, hb, hml, hown, hts⟩ (c_by_put16 l D cA v vr len vf 0 (hdw 1) (by omega) (by omega)) (cwV 1 hts gX2_frame_X0_put16 rfl rfl rfl (by decide +kernel) ⟨Nat.le_of_ble_eq_true rfl, Nat.le_of_ble_eq_true rfl⟩) (ci := 0) (q0 := 0) rfl rfl hN hK hP hD hS hA [1, 2] [0, 3, 4, 5, 6, 7] [0, 6, 7, 1, 2, 3, 4, 5] [(x, .inr (2, [.int (nI len), .ref t, .ref v, .ref c0, .ref c1, .ref fr])), (c0, .inr (1, [.ref r0, .int (nI h0), .int (nI k0)])), (r0, .inl (cA, 4096, .inl f0)), (c1, .inr (1, [.ref r1, .int (nI h1), .int (nI K)])), (r1, .inl (cA, 4096, .inl F)), (fr, .inl (cA, 4, .inl nf))] [(x, .inr (2, [.int (nI len), .ref t, .ref v, .ref c0, .ref c1, .ref fr])), (v, .inr (0, [.ref vr, .int (nI 2)])), (vr, .inl (cA, len, .inl (upd (upd vf 0 (ush (hdw 1) 8 &&& 255)) 1 ((hdw 1) &&& 255)))), (c0, .inr (1, [.ref r0, .int (nI h0), .int (nI k0)])), (r0, .inl (cA, 4096, .inl f0)), (c1, .inr (1, [.ref r1, .int (nI h1), .int (nI K)])), (r1, .inl (cA, 4096, .inl F)), (fr, .inl (cA, 4, .inl nf))] [] rfl rfl rfl rfl (by decide) rfl rfl rfl hl.1 rfl (Nat.le_of_ble_eq_true rfl) dX2_frame_67 ⟨Nat.le_of_ble_eq_true rfl, Nat.le_of_ble_eq_true rfl⟩ (fun H locs hP hD hS => ?_)
  refine lv_aload_n hx hb dX2_frame_70 rfl (lv_at hl 4 rfl) ?_
  refine va_get (D := D) (ci := 2) (v := .ref v) hx hb hts iX2 hown hK hP 0 rfl rfl 2 (by decide) lk31 (fun _ h => h) rfl dX2_frame_71 ?_
  refine lv_aload_n hx hb dX2_frame_74 rfl (lv_at hl 4 rfl) ?_
  refine va_get (D := D) (ci := 2) (v := .ref fr) hx hb hts iX2 hown hK hP 0 rfl rfl 5 (by decide) lk44 (fun _ h => h) rfl dX2_frame_75 ?_
  refine lv_iconst (v := 0) hx hb dX2_frame_78 (by decide) ?_
  refine tp_i (y := nI 0) (rfl) ?_
  refine al_i (k := 0) hx hb hK hP 7 0 rfl rfl (by decide) (by decide) dX2_frame_79 ?_
  refine cl0_vv ⟨hx, hb, hml, hown, hts⟩ (c_by_put8 l D cA v vr len (upd (upd vf 0 (ush (hdw 1) 8 &&& 255)) 1 ((hdw 1) &&& 255)) 2 (nf 0) (by omega) (by omega)) (cwV 1 hts gX2_frame_X0_put8 rfl rfl rfl (by decide +kernel) ⟨Nat.le_of_ble_eq_true rfl, Nat.le_of_ble_eq_true rfl⟩) (ci := 0) (q0 := 0) rfl rfl hN hK hP hD hS hA [1, 2] [0, 3, 4, 5, 6, 7] [0, 6, 7, 1, 2, 3, 4, 5] [(x, .inr (2, [.int (nI len), .ref t, .ref v, .ref c0, .ref c1, .ref fr])), (c0, .inr (1, [.ref r0, .int (nI h0), .int (nI k0)])), (r0, .inl (cA, 4096, .inl f0)), (c1, .inr (1, [.ref r1, .int (nI h1), .int (nI K)])), (r1, .inl (cA, 4096, .inl F)), (fr, .inl (cA, 4, .inl nf))] [(x, .inr (2, [.int (nI len), .ref t, .ref v, .ref c0, .ref c1, .ref fr])), (v, .inr (0, [.ref vr, .int (nI 3)])), (vr, .inl (cA, len, .inl (upd (upd (upd vf 0 (ush (hdw 1) 8 &&& 255)) 1 ((hdw 1) &&& 255)) 2 ((nf 0) &&& 255)))), (c0, .inr (1, [.ref r0, .int (nI h0), .int (nI k0)])), (r0, .inl (cA, 4096, .inl f0)), (c1, .inr (1, [.ref r1, .int (nI h1), .int (nI K)])), (r1, .inl (cA, 4096, .inl F)), (fr, .inl (cA, 4, .inl nf))] [] rfl rfl rfl rfl (by decide) rfl rfl rfl hl.1 rfl (Nat.le_of_ble_eq_true rfl) dX2_frame_80 ⟨Nat.le_of_ble_eq_true rfl, Nat.le_of_ble_eq_true rfl⟩ (fun H locs hP hD hS => ?_)
  refine lv_aload_n hx hb dX2_frame_83 rfl (lv_at hl 4 rfl) ?_
  refine va_get (D := D) (ci := 2) (v := .ref v) hx hb hts iX2 hown hK hP 0 rfl rfl 2 (by decide) lk31 (fun _ h => h) rfl dX2_frame_84 ?_
  refine lv_aload_n hx hb dX2_frame_87 rfl (lv_at hl 4 rfl) ?_
  refine va_get (D := D) (ci := 2) (v := .ref fr) hx hb hts iX2 hown hK hP 0 rfl rfl 5 (by decide) lk44 (fun _ h => h) rfl dX2_frame_88 ?_
  refine lv_iload_n hx hb dX2_frame_91 rfl (lv_at hl 2 rfl) ?_
  refine al_i (k := 2) hx hb hK hP 7 0 rfl rfl (by decide) (by decide) dX2_frame_92 ?_
  refine cl0_vv ⟨hx, hb, hml, hown, hts⟩ (c_by_put8 l D cA v vr len (upd (upd (upd vf 0 (ush (hdw 1) 8 &&& 255)) 1 ((hdw 1) &&& 255)) 2 ((nf 0) &&& 255)) 3 (nf 2) (by omega) (by omega)) (cwV 1 hts gX2_frame_X0_put8 rfl rfl rfl (by decide +kernel) ⟨Nat.le_of_ble_eq_true rfl, Nat.le_of_ble_eq_true rfl⟩) (ci := 0) (q0 := 0) rfl rfl hN hK hP hD hS hA [1, 2] [0, 3, 4, 5, 6, 7] [0, 6, 7, 1, 2, 3, 4, 5] [(x, .inr (2, [.int (nI len), .ref t, .ref v, .ref c0, .ref c1, .ref fr])), (c0, .inr (1, [.ref r0, .int (nI h0), .int (nI k0)])), (r0, .inl (cA, 4096, .inl f0)), (c1, .inr (1, [.ref r1, .int (nI h1), .int (nI K)])), (r1, .inl (cA, 4096, .inl F)), (fr, .inl (cA, 4, .inl nf))] [(x, .inr (2, [.int (nI len), .ref t, .ref v, .ref c0, .ref c1, .ref fr])), (v, .inr (0, [.ref vr, .int (nI 4)])), (vr, .inl (cA, len, .inl (upd (upd (upd (upd vf 0 (ush (hdw 1) 8 &&& 255)) 1 ((hdw 1) &&& 255)) 2 ((nf 0) &&& 255)) 3 ((nf 2) &&& 255)))), (c0, .inr (1, [.ref r0, .int (nI h0), .int (nI k0)])), (r0, .inl (cA, 4096, .inl f0)), (c1, .inr (1, [.ref r1, .int (nI h1), .int (nI K)])), (r1, .inl (cA, 4096, .inl F)), (fr, .inl (cA, 4, .inl nf))] [] rfl rfl rfl rfl (by decide) rfl rfl rfl hl.1 rfl (Nat.le_of_ble_eq_true rfl) dX2_frame_93 ⟨Nat.le_of_ble_eq_true rfl, Nat.le_of_ble_eq_true rfl⟩ (fun H locs hP hD hS => ?_)
  refine lv_aload_n hx hb dX2_frame_96 rfl (lv_at hl 4 rfl) ?_
  refine va_get (D := D) (ci := 2) (v := .ref v) hx hb hts iX2 hown hK hP 0 rfl rfl 2 (by decide) lk31 (fun _ h => h) rfl dX2_frame_97 ?_
  refine lv_sipush (v := 6144) hx hb dX2_frame_100 (by decide +kernel) ?_
  refine lv_aload hx hb dX2_frame_103 (lv_at hl 1 rfl) ?_
  refine lv_ifnonnull (tgt := 114) hx hb dX2_frame_105 (by decide) ?_
  refine lv_aload hx hb dX2_frame_114 (lv_at hl 1 rfl) ?_
  refine lv_iload hx hb dX2_frame_116 (lv_at hl 0 rfl) ?_
  refine cl0_vi ⟨hx, hb, hml, hown, hts⟩ (c_ch_first l D cA c1 r1 F h1 K a hh hKa hKm) (cwV 1 hts gX2_frame_X1_firstBegin rfl rfl rfl (by decide +kernel) ⟨Nat.le_of_ble_eq_true rfl, Nat.le_of_ble_eq_true rfl⟩) (ci := 1) (q0 := 0) rfl rfl hN hK hP hD hS hA [5, 6] [0, 1, 2, 3, 4, 7] [0, 1, 2, 3, 4, 6, 7, 5] [(x, .inr (2, [.int (nI len), .ref t, .ref v, .ref c0, .ref c1, .ref fr])), (v, .inr (0, [.ref vr, .int (nI 4)])), (vr, .inl (cA, len, .inl (upd (upd (upd (upd vf 0 (ush (hdw 1) 8 &&& 255)) 1 ((hdw 1) &&& 255)) 2 ((nf 0) &&& 255)) 3 ((nf 2) &&& 255)))), (c0, .inr (1, [.ref r0, .int (nI h0), .int (nI k0)])), (r0, .inl (cA, 4096, .inl f0)), (fr, .inl (cA, 4, .inl nf))] [(x, .inr (2, [.int (nI len), .ref t, .ref v, .ref c0, .ref c1, .ref fr])), (v, .inr (0, [.ref vr, .int (nI 4)])), (vr, .inl (cA, len, .inl (upd (upd (upd (upd vf 0 (ush (hdw 1) 8 &&& 255)) 1 ((hdw 1) &&& 255)) 2 ((nf 0) &&& 255)) 3 ((nf 2) &&& 255)))), (c0, .inr (1, [.ref r0, .int (nI h0), .int (nI k0)])), (r0, .inl (cA, 4096, .inl f0)), (c1, .inr (1, [.ref r1, .int (nI h1), .int (nI K)])), (r1, .inl (cA, 4096, .inl F)), (fr, .inl (cA, 4, .inl nf))] [.int 6144, .ref v] rfl rfl rfl rfl (by decide) rfl rfl rfl hl.1 rfl (Nat.le_of_ble_eq_true rfl) dX2_frame_118 ⟨Nat.le_of_ble_eq_true rfl, Nat.le_of_ble_eq_true rfl⟩ (fun H locs hP hD hS => ?_)
  refine lv_ior hx hb dX2_frame_121 ?_
  refine cl0_vv ⟨hx, hb, hml, hown, hts⟩ (c_by_put16 l D cA v vr len (upd (upd (upd (upd vf 0 (ush (hdw 1) 8 &&& 255)) 1 ((hdw 1) &&& 255)) 2 ((nf 0) &&& 255)) 3 ((nf 2) &&& 255)) 4 (6144 ||| (fbS F h1 a 0)) (by omega) (by omega)) (cwV 1 hts gX2_frame_X0_put16 rfl rfl rfl (by decide +kernel) ⟨Nat.le_of_ble_eq_true rfl, Nat.le_of_ble_eq_true rfl⟩) (ci := 0) (q0 := 0) rfl rfl hN hK hP hD hS hA [1, 2] [0, 3, 4, 5, 6, 7] [0, 6, 7, 1, 2, 3, 4, 5] [(x, .inr (2, [.int (nI len), .ref t, .ref v, .ref c0, .ref c1, .ref fr])), (c0, .inr (1, [.ref r0, .int (nI h0), .int (nI k0)])), (r0, .inl (cA, 4096, .inl f0)), (c1, .inr (1, [.ref r1, .int (nI h1), .int (nI K)])), (r1, .inl (cA, 4096, .inl F)), (fr, .inl (cA, 4, .inl nf))] [(x, .inr (2, [.int (nI len), .ref t, .ref v, .ref c0, .ref c1, .ref fr])), (v, .inr (0, [.ref vr, .int (nI 6)])), (vr, .inl (cA, len, .inl (frA vf nf 1 2 (fbS F h1 a 0)))), (c0, .inr (1, [.ref r0, .int (nI h0), .int (nI k0)])), (r0, .inl (cA, 4096, .inl f0)), (c1, .inr (1, [.ref r1, .int (nI h1), .int (nI K)])), (r1, .inl (cA, 4096, .inl F)), (fr, .inl (cA, 4, .inl nf))] [] rfl rfl rfl rfl (by decide) rfl rfl rfl hl.1 rfl (Nat.le_of_ble_eq_true rfl) dX2_frame_122 ⟨Nat.le_of_ble_eq_true rfl, Nat.le_of_ble_eq_true rfl⟩ (fun H locs hP hD hS => ?_)
  refine lv_iconst (v := 0) hx hb dX2_frame_125 (by decide) ?_
  refine lv_istore (lv' := [(6, .int 0), (5, .int (nI a)), (4, .ref c1), (3, .int (nI 2)), (2, .int 1), (0, .ref x), (1, .int word)]) hx hb dX2_frame_126 hl (by decide) rfl (fun ls hl => ?_)
  have loop : ∀ (d j : Nat) (H : Heap) (locs : List Loc) (ls : Array Slot), j + d = a → va_P D vwCl [(x, .inr (2, [.int (nI len), .ref t, .ref v, .ref c0, .ref c1, .ref fr])), (v, .inr (0, [.ref vr, .int (nI (6 + j))])), (vr, .inl (cA, len, .inl (lwr (frA vf nf 1 2 (fbS F h1 a 0)) 6 (gfl F h1) j))), (c0, .inr (1, [.ref r0, .int (nI h0), .int (nI k0)])), (r0, .inl (cA, 4096, .inl f0)), (c1, .inr (1, [.ref r1, .int (nI ((h1 + j) % 4096)), .int (nI (K - j))])), (r1, .inl (cA, 4096, .inl F)), (fr, .inl (cA, 4, .inl nf))] H → va_D A [(x, .inr (2, [.int (nI len), .ref t, .ref v, .ref c0, .ref c1, .ref fr])), (v, .inr (0, [.ref vr, .int (nI (6 + j))])), (vr, .inl (cA, len, .inl (lwr (frA vf nf 1 2 (fbS F h1 a 0)) 6 (gfl F h1) j))), (c0, .inr (1, [.ref r0, .int (nI h0), .int (nI k0)])), (r0, .inl (cA, 4096, .inl f0)), (c1, .inr (1, [.ref r1, .int (nI ((h1 + j) % 4096)), .int (nI (K - j))])), (r1, .inl (cA, 4096, .inl F)), (fr, .inl (cA, 4, .inl nf))] → va_S A s.heap H locs → lv_has ls 7 [(6, .int (nI j)), (5, .int (nI a)), (4, .ref c1), (3, .int (nI 2)), (2, .int 1), (0, .ref x), (1, .int word)] → W p l e ({ frames := 3, cells := 0, slots := 0, locals := 90 } : Room) s m ([.ref x, .int word] : List Value).toArray below meth c H locs 0 0 Q (F0 m 128 ls []) := by
    intro d
    induction d with
    | zero =>
      intro j H locs ls hj hP hD hS hl
      have hj : j = a := hj
      rw [hj] at hP hD hl
      refine lv_iload hx hb dX2_frame_128 (lv_at hl 0 rfl) ?_
      refine lv_iload hx hb dX2_frame_130 (lv_at hl 1 rfl) ?_
      refine lv_icmp_ge (tgt := 163) hx hb dX2_frame_132 (by decide) (fun _ => ?_) (fun cc => absurd (nI_le (Nat.le_refl _) (by omega)) cc)
      refine lv_aload_n hx hb dX2_frame_163 rfl (lv_at hl 5 rfl) ?_
      refine va_get (D := D) (ci := 2) (v := .ref v) hx hb hts iX2 hown hK hP 0 rfl rfl 2 (by decide) lk31 (fun _ h => h) rfl dX2_frame_164 ?_
      refine lv_iload_n hx hb dX2_frame_167 rfl (lv_at hl 6 rfl) ?_
      refine lv_bipush (v := 16) hx hb dX2_frame_168 (by decide +kernel) ?_
      refine lv_iushr (v := ush word 16) hx hb dX2_frame_170 rfl ?_
      refine cl0_vv ⟨hx, hb, hml, hown, hts⟩ (c_by_put16 l D cA v vr len (lwr (frA vf nf 1 2 (fbS F h1 a 0)) 6 (gfl F h1) a) (6 + a) (ush word 16) (by omega) (by omega)) (cwV 1 hts gX2_frame_X0_put16 rfl rfl rfl (by decide +kernel) ⟨Nat.le_of_ble_eq_true rfl, Nat.le_of_ble_eq_true rfl⟩) (ci := 0) (q0 := 0) rfl rfl hN hK hP hD hS hA [1, 2] [0, 3, 4, 5, 6, 7] [0, 6, 7, 1, 2, 3, 4, 5] [(x, .inr (2, [.int (nI len), .ref t, .ref v, .ref c0, .ref c1, .ref fr])), (c0, .inr (1, [.ref r0, .int (nI h0), .int (nI k0)])), (r0, .inl (cA, 4096, .inl f0)), (c1, .inr (1, [.ref r1, .int (nI ((h1 + a) % 4096)), .int (nI (K - a))])), (r1, .inl (cA, 4096, .inl F)), (fr, .inl (cA, 4, .inl nf))] [(x, .inr (2, [.int (nI len), .ref t, .ref v, .ref c0, .ref c1, .ref fr])), (v, .inr (0, [.ref vr, .int (nI (6 + a + 2))])), (vr, .inl (cA, len, .inl (upd (upd (lwr (frA vf nf 1 2 (fbS F h1 a 0)) 6 (gfl F h1) a) (6 + a) (ush (ush word 16) 8 &&& 255)) (6 + a + 1) ((ush word 16) &&& 255)))), (c0, .inr (1, [.ref r0, .int (nI h0), .int (nI k0)])), (r0, .inl (cA, 4096, .inl f0)), (c1, .inr (1, [.ref r1, .int (nI ((h1 + a) % 4096)), .int (nI (K - a))])), (r1, .inl (cA, 4096, .inl F)), (fr, .inl (cA, 4, .inl nf))] [] rfl rfl rfl rfl (by decide) rfl rfl rfl hl.1 rfl (Nat.le_of_ble_eq_true rfl) dX2_frame_171 ⟨Nat.le_of_ble_eq_true rfl, Nat.le_of_ble_eq_true rfl⟩ (fun H locs hP hD hS => ?_)
      refine lv_aload_n hx hb dX2_frame_174 rfl (lv_at hl 5 rfl) ?_
      refine va_get (D := D) (ci := 2) (v := .ref v) hx hb hts iX2 hown hK hP 0 rfl rfl 2 (by decide) lk31 (fun _ h => h) rfl dX2_frame_175 ?_
      refine lv_iload_n hx hb dX2_frame_178 rfl (lv_at hl 6 rfl) ?_
      refine cl0_vv ⟨hx, hb, hml, hown, hts⟩ (c_by_put16 l D cA v vr len (upd (upd (lwr (frA vf nf 1 2 (fbS F h1 a 0)) 6 (gfl F h1) a) (6 + a) (ush (ush word 16) 8 &&& 255)) (6 + a + 1) ((ush word 16) &&& 255)) (6 + a + 2) word (by omega) (by omega)) (cwV 1 hts gX2_frame_X0_put16 rfl rfl rfl (by decide +kernel) ⟨Nat.le_of_ble_eq_true rfl, Nat.le_of_ble_eq_true rfl⟩) (ci := 0) (q0 := 0) rfl rfl hN hK hP hD hS hA [1, 2] [0, 3, 4, 5, 6, 7] [0, 6, 7, 1, 2, 3, 4, 5] [(x, .inr (2, [.int (nI len), .ref t, .ref v, .ref c0, .ref c1, .ref fr])), (c0, .inr (1, [.ref r0, .int (nI h0), .int (nI k0)])), (r0, .inl (cA, 4096, .inl f0)), (c1, .inr (1, [.ref r1, .int (nI ((h1 + a) % 4096)), .int (nI (K - a))])), (r1, .inl (cA, 4096, .inl F)), (fr, .inl (cA, 4, .inl nf))] [(x, .inr (2, [.int (nI len), .ref t, .ref v, .ref c0, .ref c1, .ref fr])), (v, .inr (0, [.ref vr, .int (nI (6 + a + 4))])), (vr, .inl (cA, len, .inl (frW (lwr (frA vf nf 1 2 (fbS F h1 a 0)) 6 (gfl F h1) a) a word))), (c0, .inr (1, [.ref r0, .int (nI h0), .int (nI k0)])), (r0, .inl (cA, 4096, .inl f0)), (c1, .inr (1, [.ref r1, .int (nI ((h1 + a) % 4096)), .int (nI (K - a))])), (r1, .inl (cA, 4096, .inl F)), (fr, .inl (cA, 4, .inl nf))] [] rfl rfl rfl rfl (by decide) rfl rfl rfl hl.1 rfl (Nat.le_of_ble_eq_true rfl) dX2_frame_179 ⟨Nat.le_of_ble_eq_true rfl, Nat.le_of_ble_eq_true rfl⟩ (fun H locs hP hD hS => ?_)
      refine lv_aload_n hx hb dX2_frame_182 rfl (lv_at hl 5 rfl) ?_
      refine va_get (D := D) (ci := 2) (v := .ref v) hx hb hts iX2 hown hK hP 0 rfl rfl 2 (by decide) lk31 (fun _ h => h) rfl dX2_frame_183 ?_
      refine lv_aload_n hx hb dX2_frame_186 rfl (lv_at hl 5 rfl) ?_
      refine va_get (D := D) (ci := 2) (v := .ref v) hx hb hts iX2 hown hK hP 0 rfl rfl 2 (by decide) lk31 (fun _ h => h) rfl dX2_frame_187 ?_
      refine cl0_vi ⟨hx, hb, hml, hown, hts⟩ (c_by_check l D cA v vr len (frW (lwr (frA vf nf 1 2 (fbS F h1 a 0)) 6 (gfl F h1) a) a word) (6 + a + 4) (by omega) (by omega)) (cwV 0 hts gX2_frame_X0_check rfl rfl rfl (by decide +kernel) ⟨Nat.le_of_ble_eq_true rfl, Nat.le_of_ble_eq_true rfl⟩) (ci := 0) (q0 := 0) rfl rfl hN hK hP hD hS hA [1, 2] [0, 3, 4, 5, 6, 7] [0, 6, 7, 1, 2, 3, 4, 5] [(x, .inr (2, [.int (nI len), .ref t, .ref v, .ref c0, .ref c1, .ref fr])), (c0, .inr (1, [.ref r0, .int (nI h0), .int (nI k0)])), (r0, .inl (cA, 4096, .inl f0)), (c1, .inr (1, [.ref r1, .int (nI ((h1 + a) % 4096)), .int (nI (K - a))])), (r1, .inl (cA, 4096, .inl F)), (fr, .inl (cA, 4, .inl nf))] [(x, .inr (2, [.int (nI len), .ref t, .ref v, .ref c0, .ref c1, .ref fr])), (v, .inr (0, [.ref vr, .int (nI (6 + a + 4))])), (vr, .inl (cA, len, .inl (frW (lwr (frA vf nf 1 2 (fbS F h1 a 0)) 6 (gfl F h1) a) a word))), (c0, .inr (1, [.ref r0, .int (nI h0), .int (nI k0)])), (r0, .inl (cA, 4096, .inl f0)), (c1, .inr (1, [.ref r1, .int (nI ((h1 + a) % 4096)), .int (nI (K - a))])), (r1, .inl (cA, 4096, .inl F)), (fr, .inl (cA, 4, .inl nf))] [.ref v] rfl rfl rfl rfl (by decide) rfl rfl rfl hl.1 rfl (Nat.le_of_ble_eq_true rfl) dX2_frame_190 ⟨Nat.le_of_ble_eq_true rfl, Nat.le_of_ble_eq_true rfl⟩ (fun H locs hP hD hS => ?_)
      refine cl0_vv ⟨hx, hb, hml, hown, hts⟩ (c_by_put16 l D cA v vr len (frW (lwr (frA vf nf 1 2 (fbS F h1 a 0)) 6 (gfl F h1) a) a word) (6 + a + 4) (crc (frW (lwr (frA vf nf 1 2 (fbS F h1 a 0)) 6 (gfl F h1) a) a word) (6 + a + 4)) (by omega) (by omega)) (cwV 1 hts gX2_frame_X0_put16 rfl rfl rfl (by decide +kernel) ⟨Nat.le_of_ble_eq_true rfl, Nat.le_of_ble_eq_true rfl⟩) (ci := 0) (q0 := 0) rfl rfl hN hK hP hD hS hA [1, 2] [0, 3, 4, 5, 6, 7] [0, 6, 7, 1, 2, 3, 4, 5] [(x, .inr (2, [.int (nI len), .ref t, .ref v, .ref c0, .ref c1, .ref fr])), (c0, .inr (1, [.ref r0, .int (nI h0), .int (nI k0)])), (r0, .inl (cA, 4096, .inl f0)), (c1, .inr (1, [.ref r1, .int (nI ((h1 + a) % 4096)), .int (nI (K - a))])), (r1, .inl (cA, 4096, .inl F)), (fr, .inl (cA, 4, .inl nf))] [(x, .inr (2, [.int (nI len), .ref t, .ref v, .ref c0, .ref c1, .ref fr])), (v, .inr (0, [.ref vr, .int (nI (6 + a + 6))])), (vr, .inl (cA, len, .inl (frL vf nf 1 2 (fbS F h1 a 0) (gfl F h1) a word))), (c0, .inr (1, [.ref r0, .int (nI h0), .int (nI k0)])), (r0, .inl (cA, 4096, .inl f0)), (c1, .inr (1, [.ref r1, .int (nI ((h1 + a) % 4096)), .int (nI (K - a))])), (r1, .inl (cA, 4096, .inl F)), (fr, .inl (cA, 4, .inl nf))] [] rfl rfl rfl rfl (by decide) rfl rfl rfl hl.1 rfl (Nat.le_of_ble_eq_true rfl) dX2_frame_193 ⟨Nat.le_of_ble_eq_true rfl, Nat.le_of_ble_eq_true rfl⟩ (fun H locs hP hD hS => ?_)
      refine lv_aload_n hx hb dX2_frame_196 rfl (lv_at hl 5 rfl) ?_
      refine va_get (D := D) (ci := 2) (v := .ref fr) hx hb hts iX2 hown hK hP 0 rfl rfl 5 (by decide) lk44 (fun _ h => h) rfl dX2_frame_197 ?_
      refine lv_iconst (v := 0) hx hb dX2_frame_200 (by decide) ?_
      refine tp_i (y := nI 0) (rfl) ?_
      refine lv_dup2_11 hx hb dX2_frame_201 rfl rfl ?_
      refine al_i (k := 0) hx hb hK hP 7 0 rfl rfl (by decide) (by decide) dX2_frame_202 ?_
      refine lv_iconst (v := 1) hx hb dX2_frame_203 (by decide) ?_
      refine lv_iadd hx hb dX2_frame_204 ?_
      refine as_i (k := 0) (x := ((nf 0) + 1)) hx hb hK hP hD hS 7 0 rfl rfl (by decide) (by decide) dX2_frame_205 (fun H locs hP hD hS => ?_)
      have hP : va_P D vwCl [(x, .inr (2, [.int (nI len), .ref t, .ref v, .ref c0, .ref c1, .ref fr])), (v, .inr (0, [.ref vr, .int (nI (6 + a + 6))])), (vr, .inl (cA, len, .inl (frL vf nf 1 2 (fbS F h1 a 0) (gfl F h1) a word))), (c0, .inr (1, [.ref r0, .int (nI h0), .int (nI k0)])), (r0, .inl (cA, 4096, .inl f0)), (c1, .inr (1, [.ref r1, .int (nI ((h1 + a) % 4096)), .int (nI (K - a))])), (r1, .inl (cA, 4096, .inl F)), (fr, .inl (cA, 4, .inl (upd nf 0 ((nf 0) + 1))))] H := hP
      have hD : va_D A [(x, .inr (2, [.int (nI len), .ref t, .ref v, .ref c0, .ref c1, .ref fr])), (v, .inr (0, [.ref vr, .int (nI (6 + a + 6))])), (vr, .inl (cA, len, .inl (frL vf nf 1 2 (fbS F h1 a 0) (gfl F h1) a word))), (c0, .inr (1, [.ref r0, .int (nI h0), .int (nI k0)])), (r0, .inl (cA, 4096, .inl f0)), (c1, .inr (1, [.ref r1, .int (nI ((h1 + a) % 4096)), .int (nI (K - a))])), (r1, .inl (cA, 4096, .inl F)), (fr, .inl (cA, 4, .inl (upd nf 0 ((nf 0) + 1))))] := hD
      refine lv_aload_n hx hb dX2_frame_206 rfl (lv_at hl 5 rfl) ?_
      refine va_get (D := D) (ci := 2) (v := .ref fr) hx hb hts iX2 hown hK hP 0 rfl rfl 5 (by decide) lk44 (fun _ h => h) rfl dX2_frame_207 ?_
      refine lv_iload_n hx hb dX2_frame_210 rfl (lv_at hl 3 rfl) ?_
      refine lv_dup2_11 hx hb dX2_frame_211 rfl rfl ?_
      refine al_i (k := 2) hx hb hK hP 7 0 rfl rfl (by decide) (by decide) dX2_frame_212 ?_
      refine lv_iconst (v := 1) hx hb dX2_frame_213 (by decide) ?_
      refine lv_iadd hx hb dX2_frame_214 ?_
      refine as_i (k := 2) (x := (((upd nf 0 ((nf 0) + 1)) 2) + 1)) hx hb hK hP hD hS 7 0 rfl rfl (by decide) (by decide) dX2_frame_215 (fun H locs hP hD hS => ?_)
      have hP : va_P D vwCl [(x, .inr (2, [.int (nI len), .ref t, .ref v, .ref c0, .ref c1, .ref fr])), (v, .inr (0, [.ref vr, .int (nI (6 + a + 6))])), (vr, .inl (cA, len, .inl (frL vf nf 1 2 (fbS F h1 a 0) (gfl F h1) a word))), (c0, .inr (1, [.ref r0, .int (nI h0), .int (nI k0)])), (r0, .inl (cA, 4096, .inl f0)), (c1, .inr (1, [.ref r1, .int (nI ((h1 + a) % 4096)), .int (nI (K - a))])), (r1, .inl (cA, 4096, .inl F)), (fr, .inl (cA, 4, .inl (upd (upd nf 0 ((nf 0) + 1)) 2 (((upd nf 0 ((nf 0) + 1)) 2) + 1))))] H := hP
      have hD : va_D A [(x, .inr (2, [.int (nI len), .ref t, .ref v, .ref c0, .ref c1, .ref fr])), (v, .inr (0, [.ref vr, .int (nI (6 + a + 6))])), (vr, .inl (cA, len, .inl (frL vf nf 1 2 (fbS F h1 a 0) (gfl F h1) a word))), (c0, .inr (1, [.ref r0, .int (nI h0), .int (nI k0)])), (r0, .inl (cA, 4096, .inl f0)), (c1, .inr (1, [.ref r1, .int (nI ((h1 + a) % 4096)), .int (nI (K - a))])), (r1, .inl (cA, 4096, .inl F)), (fr, .inl (cA, 4, .inl (upd (upd nf 0 ((nf 0) + 1)) 2 (((upd nf 0 ((nf 0) + 1)) 2) + 1))))] := hD
      refine lv_iload_n hx hb dX2_frame_216 rfl (lv_at hl 4 rfl) ?_
      rw [show 6 + a + 6 = len by omega] at hP hD
      subst hF
      subst hKK
      exact hex _ _ _ _ _ () hS (rfl) hP hD dX2_frame_217
    | succ d ih =>
      intro j H locs ls hj hP hD hS hl
      refine lv_iload hx hb dX2_frame_128 (lv_at hl 0 rfl) ?_
      refine lv_iload hx hb dX2_frame_130 (lv_at hl 1 rfl) ?_
      refine lv_icmp_ge (tgt := 163) hx hb dX2_frame_132 (by decide) (fun cc => absurd cc (nI_ge (by omega) (by omega))) (fun _ => ?_)
      refine lv_aload_n hx hb dX2_frame_135 rfl (lv_at hl 5 rfl) ?_
      refine va_get (D := D) (ci := 2) (v := .ref v) hx hb hts iX2 hown hK hP 0 rfl rfl 2 (by decide) lk31 (fun _ h => h) rfl dX2_frame_136 ?_
      refine lv_aload hx hb dX2_frame_139 (lv_at hl 2 rfl) ?_
      refine lv_ifnonnull (tgt := 149) hx hb dX2_frame_141 (by decide) ?_
      refine lv_aload hx hb dX2_frame_149 (lv_at hl 2 rfl) ?_
      rw [show K - j = K - (j + 1) + 1 by omega] at hP hD
      have hP : va_P D vwCl [(x, .inr (2, [.int (nI len), .ref t, .ref v, .ref c0, .ref c1, .ref fr])), (v, .inr (0, [.ref vr, .int (nI (6 + j))])), (vr, .inl (cA, len, .inl (lwr (frA vf nf 1 2 (fbS F h1 a 0)) 6 (gfl F h1) j))), (c0, .inr (1, [.ref r0, .int (nI h0), .int (nI k0)])), (r0, .inl (cA, 4096, .inl f0)), (c1, .inr (1, [.ref r1, .int (nI ((h1 + j) % 4096)), .int (nI (K - (j + 1) + 1))])), (r1, .inl (cA, 4096, .inl F)), (fr, .inl (cA, 4, .inl nf))] H := hP
      have hD : va_D A [(x, .inr (2, [.int (nI len), .ref t, .ref v, .ref c0, .ref c1, .ref fr])), (v, .inr (0, [.ref vr, .int (nI (6 + j))])), (vr, .inl (cA, len, .inl (lwr (frA vf nf 1 2 (fbS F h1 a 0)) 6 (gfl F h1) j))), (c0, .inr (1, [.ref r0, .int (nI h0), .int (nI k0)])), (r0, .inl (cA, 4096, .inl f0)), (c1, .inr (1, [.ref r1, .int (nI ((h1 + j) % 4096)), .int (nI (K - (j + 1) + 1))])), (r1, .inl (cA, 4096, .inl F)), (fr, .inl (cA, 4, .inl nf))] := hD
      refine cl0_vi ⟨hx, hb, hml, hown, hts⟩ (c_ch_take l D cA c1 r1 F ((h1 + j) % 4096) (K - (j + 1)) (Nat.mod_lt _ (by decide)) (by omega)) (cwV 0 hts gX2_frame_X1_take rfl rfl rfl (by decide +kernel) ⟨Nat.le_of_ble_eq_true rfl, Nat.le_of_ble_eq_true rfl⟩) (ci := 1) (q0 := 0) rfl rfl hN hK hP hD hS hA [5, 6] [0, 1, 2, 3, 4, 7] [0, 1, 2, 3, 4, 6, 7, 5] [(x, .inr (2, [.int (nI len), .ref t, .ref v, .ref c0, .ref c1, .ref fr])), (v, .inr (0, [.ref vr, .int (nI (6 + j))])), (vr, .inl (cA, len, .inl (lwr (frA vf nf 1 2 (fbS F h1 a 0)) 6 (gfl F h1) j))), (c0, .inr (1, [.ref r0, .int (nI h0), .int (nI k0)])), (r0, .inl (cA, 4096, .inl f0)), (fr, .inl (cA, 4, .inl nf))] [(x, .inr (2, [.int (nI len), .ref t, .ref v, .ref c0, .ref c1, .ref fr])), (v, .inr (0, [.ref vr, .int (nI (6 + j))])), (vr, .inl (cA, len, .inl (lwr (frA vf nf 1 2 (fbS F h1 a 0)) 6 (gfl F h1) j))), (c0, .inr (1, [.ref r0, .int (nI h0), .int (nI k0)])), (r0, .inl (cA, 4096, .inl f0)), (c1, .inr (1, [.ref r1, .int (nI (((h1 + j) % 4096 + 1) % 4096)), .int (nI (K - (j + 1)))])), (r1, .inl (cA, 4096, .inl F)), (fr, .inl (cA, 4, .inl nf))] [.ref v] rfl rfl rfl rfl (by decide) rfl rfl rfl hl.1 rfl (Nat.le_of_ble_eq_true rfl) dX2_frame_151 ⟨Nat.le_of_ble_eq_true rfl, Nat.le_of_ble_eq_true rfl⟩ (fun H locs hP hD hS => ?_)
      rw [show ((h1 + j) % 4096 + 1) % 4096 = (h1 + (j + 1)) % 4096 by omega] at hP hD
      have hP : va_P D vwCl [(x, .inr (2, [.int (nI len), .ref t, .ref v, .ref c0, .ref c1, .ref fr])), (v, .inr (0, [.ref vr, .int (nI (6 + j))])), (vr, .inl (cA, len, .inl (lwr (frA vf nf 1 2 (fbS F h1 a 0)) 6 (gfl F h1) j))), (c0, .inr (1, [.ref r0, .int (nI h0), .int (nI k0)])), (r0, .inl (cA, 4096, .inl f0)), (c1, .inr (1, [.ref r1, .int (nI ((h1 + (j + 1)) % 4096)), .int (nI (K - (j + 1)))])), (r1, .inl (cA, 4096, .inl F)), (fr, .inl (cA, 4, .inl nf))] H := hP
      have hD : va_D A [(x, .inr (2, [.int (nI len), .ref t, .ref v, .ref c0, .ref c1, .ref fr])), (v, .inr (0, [.ref vr, .int (nI (6 + j))])), (vr, .inl (cA, len, .inl (lwr (frA vf nf 1 2 (fbS F h1 a 0)) 6 (gfl F h1) j))), (c0, .inr (1, [.ref r0, .int (nI h0), .int (nI k0)])), (r0, .inl (cA, 4096, .inl f0)), (c1, .inr (1, [.ref r1, .int (nI ((h1 + (j + 1)) % 4096)), .int (nI (K - (j + 1)))])), (r1, .inl (cA, 4096, .inl F)), (fr, .inl (cA, 4, .inl nf))] := hD
      refine cl0_vv ⟨hx, hb, hml, hown, hts⟩ (c_by_put8 l D cA v vr len (lwr (frA vf nf 1 2 (fbS F h1 a 0)) 6 (gfl F h1) j) (6 + j) ((F ((h1 + j) % 4096)) &&& 255) (by omega) (by omega)) (cwV 1 hts gX2_frame_X0_put8 rfl rfl rfl (by decide +kernel) ⟨Nat.le_of_ble_eq_true rfl, Nat.le_of_ble_eq_true rfl⟩) (ci := 0) (q0 := 0) rfl rfl hN hK hP hD hS hA [1, 2] [0, 3, 4, 5, 6, 7] [0, 6, 7, 1, 2, 3, 4, 5] [(x, .inr (2, [.int (nI len), .ref t, .ref v, .ref c0, .ref c1, .ref fr])), (c0, .inr (1, [.ref r0, .int (nI h0), .int (nI k0)])), (r0, .inl (cA, 4096, .inl f0)), (c1, .inr (1, [.ref r1, .int (nI ((h1 + (j + 1)) % 4096)), .int (nI (K - (j + 1)))])), (r1, .inl (cA, 4096, .inl F)), (fr, .inl (cA, 4, .inl nf))] [(x, .inr (2, [.int (nI len), .ref t, .ref v, .ref c0, .ref c1, .ref fr])), (v, .inr (0, [.ref vr, .int (nI (6 + (j + 1)))])), (vr, .inl (cA, len, .inl (lwr (frA vf nf 1 2 (fbS F h1 a 0)) 6 (gfl F h1) (j + 1)))), (c0, .inr (1, [.ref r0, .int (nI h0), .int (nI k0)])), (r0, .inl (cA, 4096, .inl f0)), (c1, .inr (1, [.ref r1, .int (nI ((h1 + (j + 1)) % 4096)), .int (nI (K - (j + 1)))])), (r1, .inl (cA, 4096, .inl F)), (fr, .inl (cA, 4, .inl nf))] [] rfl rfl rfl rfl (by decide) rfl rfl rfl hl.1 rfl (Nat.le_of_ble_eq_true rfl) dX2_frame_154 ⟨Nat.le_of_ble_eq_true rfl, Nat.le_of_ble_eq_true rfl⟩ (fun H locs hP hD hS => ?_)
      refine lv_iinc (v := nI (j + 1)) (lv' := [(6, .int (nI (j + 1))), (5, .int (nI a)), (4, .ref c1), (3, .int (nI 2)), (2, .int 1), (0, .ref x), (1, .int word)]) hx hb dX2_frame_157 hl (k := 0) rfl (nI_1 _) (by decide) rfl (fun ls hl => ?_)
      refine lv_goto (tgt := 128) hx hb dX2_frame_160 (by decide) ?_
      exact ih (j + 1) H locs ls (by omega) hP hD hS (lv_sub hl [0, 1, 2, 3, 4, 5, 6] rfl)
  have e0 : (h1 + 0) % 4096 = h1 := Nat.mod_eq_of_lt hh
  have hP : va_P D vwCl [(x, .inr (2, [.int (nI len), .ref t, .ref v, .ref c0, .ref c1, .ref fr])), (v, .inr (0, [.ref vr, .int (nI (6 + 0))])), (vr, .inl (cA, len, .inl (lwr (frA vf nf 1 2 (fbS F h1 a 0)) 6 (gfl F h1) 0))), (c0, .inr (1, [.ref r0, .int (nI h0), .int (nI k0)])), (r0, .inl (cA, 4096, .inl f0)), (c1, .inr (1, [.ref r1, .int (nI ((h1 + 0) % 4096)), .int (nI (K - 0))])), (r1, .inl (cA, 4096, .inl F)), (fr, .inl (cA, 4, .inl nf))] H := by rw [e0]; exact hP
  have hD : va_D A [(x, .inr (2, [.int (nI len), .ref t, .ref v, .ref c0, .ref c1, .ref fr])), (v, .inr (0, [.ref vr, .int (nI (6 + 0))])), (vr, .inl (cA, len, .inl (lwr (frA vf nf 1 2 (fbS F h1 a 0)) 6 (gfl F h1) 0))), (c0, .inr (1, [.ref r0, .int (nI h0), .int (nI k0)])), (r0, .inl (cA, 4096, .inl f0)), (c1, .inr (1, [.ref r1, .int (nI ((h1 + 0) % 4096)), .int (nI (K - 0))])), (r1, .inl (cA, 4096, .inl F)), (fr, .inl (cA, 4, .inl nf))] := by rw [e0]; exact hD
  exact loop a 0 _ _ ls (by omega) hP hD hS (lv_sub hl [0, 1, 2, 3, 4, 5, 6] rfl)

set_option maxHeartbeats 4000000 in
set_option maxRecDepth 100000 in
/-- frame of channel 7 -/
theorem c_x_frame7 (l : Launch) (D : va_G) (cA : ClassId) (a : Nat) (x len t v c0 c1 fr : Nat) (vr vk : Nat) (vf : Nat → Int32) (r0 h0 k0 : Nat) (f0 : Nat → Int32) (r1 h1 k1 : Nat) (f1 : Nat → Int32) (nf : Nat → Int32) (word : Int32) (hlen : len = a + 12) (hla : len ≤ 256) (hz : k0 = 0) (hy : k1 = 0) : MI0 l yX2_frame wsX2_frame { frames := 3, cells := 0, slots := 0, locals := 90 } [.ref x, .int word] D [(cA, .int)] [(x, .inr (2, [.int (nI len), .ref t, .ref v, .ref c0, .ref c1, .ref fr])), (v, .inr (0, [.ref vr, .int (nI vk)])), (vr, .inl (cA, len, .inl vf)), (c0, .inr (1, [.ref r0, .int (nI h0), .int (nI k0)])), (r0, .inl (cA, 4096, .inl f0)), (c1, .inr (1, [.ref r1, .int (nI h1), .int (nI k1)])), (r1, .inl (cA, 4096, .inl f1)), (fr, .inl (cA, 4, .inl nf))] 7 [(x, .inr (2, [.int (nI len), .ref t, .ref v, .ref c0, .ref c1, .ref fr])), (v, .inr (0, [.ref vr, .int (nI len)])), (vr, .inl (cA, len, .inl (frL vf nf 7 3 2046 (fun _ => 85 &&& 255) a word))), (c0, .inr (1, [.ref r0, .int (nI h0), .int (nI k0)])), (r0, .inl (cA, 4096, .inl f0)), (c1, .inr (1, [.ref r1, .int (nI h1), .int (nI k1)])), (r1, .inl (cA, 4096, .inl f1)), (fr, .inl (cA, 4, .inl (cnt2 nf 3)))] := by
  refine mt_i (by decide) rfl (Nat.le_of_ble_eq_true rfl) ?_
  intro p e s m below meth c A ls Q hx hb hts hown hml hin hN hK hA hP hD hS hl hex
  have hown : s.vm.findClass RX2 = some m.cls := hown
  have hl : lv_has ls 7 [(0, .ref x), (1, .int word)] := hl
  have iX2 : ∀ w ∈ wsX20, w ∈ wsX2_frame := by decide +kernel
  have lk18 := hts (.fieldLink RX2 18 "DownFrames" "length" "I") (by decide +kernel)
  have lk31 := hts (.fieldLink RX2 31 "DownFrames" "latest" "LDownFrames$Bytes;") (by decide +kernel)
  have lk44 := hts (.fieldLink RX2 44 "DownFrames" "frames" "[I") (by decide +kernel)
  refine lv_aload_n hx hb dX2_frame_0 rfl (lv_at hl 0 rfl) ?_
  refine cl0_vi ⟨hx, hb, hml, hown, hts⟩ (c_x_next7 l D cA x len t v c0 c1 fr r0 h0 k0 r1 h1 k1 hz hy) (cwV 0 hts gX2_frame_X2_nextChannel rfl rfl rfl (by decide +kernel) ⟨Nat.le_of_ble_eq_true rfl, Nat.le_of_ble_eq_true rfl⟩) (ci := 2) (q0 := 0) rfl rfl hN hK hP hD hS hA [0, 3, 5] [1, 2, 4, 6, 7] [5, 0, 1, 6, 2, 7, 3, 4] [(v, .inr (0, [.ref vr, .int (nI vk)])), (vr, .inl (cA, len, .inl vf)), (r0, .inl (cA, 4096, .inl f0)), (r1, .inl (cA, 4096, .inl f1)), (fr, .inl (cA, 4, .inl nf))] [(x, .inr (2, [.int (nI len), .ref t, .ref v, .ref c0, .ref c1, .ref fr])), (v, .inr (0, [.ref vr, .int (nI vk)])), (vr, .inl (cA, len, .inl vf)), (c0, .inr (1, [.ref r0, .int (nI h0), .int (nI k0)])), (r0, .inl (cA, 4096, .inl f0)), (c1, .inr (1, [.ref r1, .int (nI h1), .int (nI k1)])), (r1, .inl (cA, 4096, .inl f1)), (fr, .inl (cA, 4, .inl nf))] [] rfl rfl rfl rfl (by decide) rfl rfl rfl hl.1 rfl (Nat.le_of_ble_eq_true rfl) dX2_frame_1 ⟨Nat.le_of_ble_eq_true rfl, Nat.le_of_ble_eq_true rfl⟩ (fun H locs hP hD hS => ?_)
  refine lv_istore_n (lv' := [(2, .int 7), (0, .ref x), (1, .int word)]) hx hb dX2_frame_4 rfl hl (by decide) rfl (fun ls hl => ?_)
  refine lv_iload_n hx hb dX2_frame_5 rfl (lv_at hl 0 rfl) ?_
  refine lv_bipush (v := 7) hx hb dX2_frame_6 (by decide +kernel) ?_
  refine lv_icmp_ne (tgt := 15) hx hb dX2_frame_8 (by decide) (fun cc => absurd (rfl) cc) (fun _ => ?_)
  refine lv_iconst (v := 3) hx hb dX2_frame_11 (by decide) ?_
  refine lv_goto (tgt := 18) hx hb dX2_frame_12 (by decide) ?_
  refine tp_i (y := nI 3) (rfl) ?_
  refine lv_istore_n (lv' := [(3, .int (nI 3)), (2, .int 7), (0, .ref x), (1, .int word)]) hx hb dX2_frame_18 rfl hl (by decide) rfl (fun ls hl => ?_)
  refine lv_aload_n hx hb dX2_frame_19 rfl (lv_at hl 2 rfl) ?_
  refine lv_iload_n hx hb dX2_frame_20 rfl (lv_at hl 1 rfl) ?_
  refine cl0_vN ⟨hx, hb, hml, hown, hts⟩ (c_x_ofN l D cA x len t v c0 c1 fr 7 (by decide) (by decide)) (cwV 1 hts gX2_frame_X2_channelOf rfl rfl rfl (by decide +kernel) ⟨Nat.le_of_ble_eq_true rfl, Nat.le_of_ble_eq_true rfl⟩) (ci := 2) (q0 := 0) rfl rfl hN hK hP hD hS hA [0] [1, 2, 3, 4, 5, 6, 7] [7, 0, 1, 2, 3, 4, 5, 6] [(v, .inr (0, [.ref vr, .int (nI vk)])), (vr, .inl (cA, len, .inl vf)), (c0, .inr (1, [.ref r0, .int (nI h0), .int (nI k0)])), (r0, .inl (cA, 4096, .inl f0)), (c1, .inr (1, [.ref r1, .int (nI h1), .int (nI k1)])), (r1, .inl (cA, 4096, .inl f1)), (fr, .inl (cA, 4, .inl nf))] [(x, .inr (2, [.int (nI len), .ref t, .ref v, .ref c0, .ref c1, .ref fr])), (v, .inr (0, [.ref vr, .int (nI vk)])), (vr, .inl (cA, len, .inl vf)), (c0, .inr (1, [.ref r0, .int (nI h0), .int (nI k0)])), (r0, .inl (cA, 4096, .inl f0)), (c1, .inr (1, [.ref r1, .int (nI h1), .int (nI k1)])), (r1, .inl (cA, 4096, .inl f1)), (fr, .inl (cA, 4, .inl nf))] [] rfl rfl rfl rfl (by decide) rfl rfl rfl hl.1 rfl (Nat.le_of_ble_eq_true rfl) dX2_frame_21 ⟨Nat.le_of_ble_eq_true rfl, Nat.le_of_ble_eq_true rfl⟩ (fun H locs hP hD hS => ?_)
  refine lv_astoreN (lv' := [(4, .null), (3, .int (nI 3)), (2, .int 7), (0, .ref x), (1, .int word)]) hx hb dX2_frame_24 hl (by decide) rfl (fun ls hl => ?_)
  refine lv_aload_n hx hb dX2_frame_26 rfl (lv_at hl 3 rfl) ?_
  refine va_get (D := D) (ci := 2) (v := .int (nI len)) hx hb hts iX2 hown hK hP 0 rfl rfl 0 (by decide) lk18 (fun _ h => h) rfl dX2_frame_27 ?_
  refine lv_bipush (v := 12) hx hb dX2_frame_30 (by decide +kernel) ?_
  refine lv_isub hx hb dX2_frame_32 ?_
  refine tp_i (y := nI a) (by rw [hlen, show (12 : Int32) = nI 12 from rfl, pk_sub (by omega)]; congr 1) ?_
  refine lv_istore (lv' := [(5, .int (nI a)), (4, .null), (3, .int (nI 3)), (2, .int 7), (0, .ref x), (1, .int word)]) hx hb dX2_frame_33 hl (by decide) rfl (fun ls hl => ?_)
  refine lv_aloadN hx hb dX2_frame_35 (lv_at hl 1 rfl) ?_
  refine lv_ifnullN (tgt := 47) hx hb dX2_frame_37 (by decide) ?_
  refine lv_aload_n hx hb dX2_frame_47 rfl (lv_at hl 4 rfl) ?_
  refine va_get (D := D) (ci := 2) (v := .ref v) hx hb hts iX2 hown hK hP 0 rfl rfl 2 (by decide) lk31 (fun _ h => h) rfl dX2_frame_48 ?_
  refine cl0_vv ⟨hx, hb, hml, hown, hts⟩ (c_by_clear l D cA v vr len vf vk) (cwV 0 hts gX2_frame_X0_clear rfl rfl rfl (by decide +kernel) ⟨Nat.le_of_ble_eq_true rfl, Nat.le_of_ble_eq_true rfl⟩) (ci := 0) (q0 := 0) rfl rfl hN hK hP hD hS hA [1, 2] [0, 3, 4, 5, 6, 7] [0, 6, 7, 1, 2, 3, 4, 5] [(x, .inr (2, [.int (nI len), .ref t, .ref v, .ref c0, .ref c1, .ref fr])), (c0, .inr (1, [.ref r0, .int (nI h0), .int (nI k0)])), (r0, .inl (cA, 4096, .inl f0)), (c1, .inr (1, [.ref r1, .int (nI h1), .int (nI k1)])), (r1, .inl (cA, 4096, .inl f1)), (fr, .inl (cA, 4, .inl nf))] [(x, .inr (2, [.int (nI len), .ref t, .ref v, .ref c0, .ref c1, .ref fr])), (v, .inr (0, [.ref vr, .int (nI 0)])), (vr, .inl (cA, len, .inl vf)), (c0, .inr (1, [.ref r0, .int (nI h0), .int (nI k0)])), (r0, .inl (cA, 4096, .inl f0)), (c1, .inr (1, [.ref r1, .int (nI h1), .int (nI k1)])), (r1, .inl (cA, 4096, .inl f1)), (fr, .inl (cA, 4, .inl nf))] [] rfl rfl rfl rfl (by decide) rfl rfl rfl hl.1 rfl (Nat.le_of_ble_eq_true rfl) dX2_frame_51 ⟨Nat.le_of_ble_eq_true rfl, Nat.le_of_ble_eq_true rfl⟩ (fun H locs hP hD hS => ?_)
  refine lv_aload_n hx hb dX2_frame_54 rfl (lv_at hl 4 rfl) ?_
  refine va_get (D := D) (ci := 2) (v := .ref v) hx hb hts iX2 hown hK hP 0 rfl rfl 2 (by decide) lk31 (fun _ h => h) rfl dX2_frame_55 ?_
  refine lv_sipush (v := 5536) hx hb dX2_frame_58 (by decide +kernel) ?_
  refine lv_iload_n hx hb dX2_frame_61 rfl (lv_at hl 3 rfl) ?_
  refine lv_iconst (v := 1) hx hb dX2_frame_62 (by decide) ?_
  refine lv_ishl hx hb dX2_frame_63 ?_
  refine lv_ior hx hb dX2_frame_64 ?_
  refine lv_iconst (v := 1) hx hb dX2_frame_65 (by decide) ?_
  refine lv_ior hx hb dX2_frame_66 ?_
  refine tp_i (y := hdw 7) (rfl) ?_
  refine cl0_vv ⟨hx, hb, hml, hown, hts⟩ (c_by_put16 l D cA v vr len vf 0 (hdw 7) (by omega) (by omega)) (cwV 1 hts gX2_frame_X0_put16 rfl rfl rfl (by decide +kernel) ⟨Nat.le_of_ble_eq_true rfl, Nat.le_of_ble_eq_true rfl⟩) (ci := 0) (q0 := 0) rfl rfl hN hK hP hD hS hA [1, 2] [0, 3, 4, 5, 6, 7] [0, 6, 7, 1, 2, 3, 4, 5] [(x, .inr (2, [.int (nI len), .ref t, .ref v, .ref c0, .ref c1, .ref fr])), (c0, .inr (1, [.ref r0, .int (nI h0), .int (nI k0)])), (r0, .inl (cA, 4096, .inl f0)), (c1, .inr (1, [.ref r1, .int (nI h1), .int (nI k1)])), (r1, .inl (cA, 4096, .inl f1)), (fr, .inl (cA, 4, .inl nf))] [(x, .inr (2, [.int (nI len), .ref t, .ref v, .ref c0, .ref c1, .ref fr])), (v, .inr (0, [.ref vr, .int (nI 2)])), (vr, .inl (cA, len, .inl (upd (upd vf 0 (ush (hdw 7) 8 &&& 255)) 1 ((hdw 7) &&& 255)))), (c0, .inr (1, [.ref r0, .int (nI h0), .int (nI k0)])), (r0, .inl (cA, 4096, .inl f0)), (c1, .inr (1, [.ref r1, .int (nI h1), .int (nI k1)])), (r1, .inl (cA, 4096, .inl f1)), (fr, .inl (cA, 4, .inl nf))] [] rfl rfl rfl rfl (by decide) rfl rfl rfl hl.1 rfl (Nat.le_of_ble_eq_true rfl) dX2_frame_67 ⟨Nat.le_of_ble_eq_true rfl, Nat.le_of_ble_eq_true rfl⟩ (fun H locs hP hD hS => ?_)
  refine lv_aload_n hx hb dX2_frame_70 rfl (lv_at hl 4 rfl) ?_
  refine va_get (D := D) (ci := 2) (v := .ref v) hx hb hts iX2 hown hK hP 0 rfl rfl 2 (by decide) lk31 (fun _ h => h) rfl dX2_frame_71 ?_
  refine lv_aload_n hx hb dX2_frame_74 rfl (lv_at hl 4 rfl) ?_
  refine va_get (D := D) (ci := 2) (v := .ref fr) hx hb hts iX2 hown hK hP 0 rfl rfl 5 (by decide) lk44 (fun _ h => h) rfl dX2_frame_75 ?_
  refine lv_iconst (v := 0) hx hb dX2_frame_78 (by decide) ?_
  refine tp_i (y := nI 0) (rfl) ?_
  refine al_i (k := 0) hx hb hK hP 7 0 rfl rfl (by decide) (by decide) dX2_frame_79 ?_
  refine cl0_vv ⟨hx, hb, hml, hown, hts⟩ (c_by_put8 l D cA v vr len (upd (upd vf 0 (ush (hdw 7) 8 &&& 255)) 1 ((hdw 7) &&& 255)) 2 (nf 0) (by omega) (by omega)) (cwV 1 hts gX2_frame_X0_put8 rfl rfl rfl (by decide +kernel) ⟨Nat.le_of_ble_eq_true rfl, Nat.le_of_ble_eq_true rfl⟩) (ci := 0) (q0 := 0) rfl rfl hN hK hP hD hS hA [1, 2] [0, 3, 4, 5, 6, 7] [0, 6, 7, 1, 2, 3, 4, 5] [(x, .inr (2, [.int (nI len), .ref t, .ref v, .ref c0, .ref c1, .ref fr])), (c0, .inr (1, [.ref r0, .int (nI h0), .int (nI k0)])), (r0, .inl (cA, 4096, .inl f0)), (c1, .inr (1, [.ref r1, .int (nI h1), .int (nI k1)])), (r1, .inl (cA, 4096, .inl f1)), (fr, .inl (cA, 4, .inl nf))] [(x, .inr (2, [.int (nI len), .ref t, .ref v, .ref c0, .ref c1, .ref fr])), (v, .inr (0, [.ref vr, .int (nI 3)])), (vr, .inl (cA, len, .inl (upd (upd (upd vf 0 (ush (hdw 7) 8 &&& 255)) 1 ((hdw 7) &&& 255)) 2 ((nf 0) &&& 255)))), (c0, .inr (1, [.ref r0, .int (nI h0), .int (nI k0)])), (r0, .inl (cA, 4096, .inl f0)), (c1, .inr (1, [.ref r1, .int (nI h1), .int (nI k1)])), (r1, .inl (cA, 4096, .inl f1)), (fr, .inl (cA, 4, .inl nf))] [] rfl rfl rfl rfl (by decide) rfl rfl rfl hl.1 rfl (Nat.le_of_ble_eq_true rfl) dX2_frame_80 ⟨Nat.le_of_ble_eq_true rfl, Nat.le_of_ble_eq_true rfl⟩ (fun H locs hP hD hS => ?_)
  refine lv_aload_n hx hb dX2_frame_83 rfl (lv_at hl 4 rfl) ?_
  refine va_get (D := D) (ci := 2) (v := .ref v) hx hb hts iX2 hown hK hP 0 rfl rfl 2 (by decide) lk31 (fun _ h => h) rfl dX2_frame_84 ?_
  refine lv_aload_n hx hb dX2_frame_87 rfl (lv_at hl 4 rfl) ?_
  refine va_get (D := D) (ci := 2) (v := .ref fr) hx hb hts iX2 hown hK hP 0 rfl rfl 5 (by decide) lk44 (fun _ h => h) rfl dX2_frame_88 ?_
  refine lv_iload_n hx hb dX2_frame_91 rfl (lv_at hl 2 rfl) ?_
  refine al_i (k := 3) hx hb hK hP 7 0 rfl rfl (by decide) (by decide) dX2_frame_92 ?_
  refine cl0_vv ⟨hx, hb, hml, hown, hts⟩ (c_by_put8 l D cA v vr len (upd (upd (upd vf 0 (ush (hdw 7) 8 &&& 255)) 1 ((hdw 7) &&& 255)) 2 ((nf 0) &&& 255)) 3 (nf 3) (by omega) (by omega)) (cwV 1 hts gX2_frame_X0_put8 rfl rfl rfl (by decide +kernel) ⟨Nat.le_of_ble_eq_true rfl, Nat.le_of_ble_eq_true rfl⟩) (ci := 0) (q0 := 0) rfl rfl hN hK hP hD hS hA [1, 2] [0, 3, 4, 5, 6, 7] [0, 6, 7, 1, 2, 3, 4, 5] [(x, .inr (2, [.int (nI len), .ref t, .ref v, .ref c0, .ref c1, .ref fr])), (c0, .inr (1, [.ref r0, .int (nI h0), .int (nI k0)])), (r0, .inl (cA, 4096, .inl f0)), (c1, .inr (1, [.ref r1, .int (nI h1), .int (nI k1)])), (r1, .inl (cA, 4096, .inl f1)), (fr, .inl (cA, 4, .inl nf))] [(x, .inr (2, [.int (nI len), .ref t, .ref v, .ref c0, .ref c1, .ref fr])), (v, .inr (0, [.ref vr, .int (nI 4)])), (vr, .inl (cA, len, .inl (upd (upd (upd (upd vf 0 (ush (hdw 7) 8 &&& 255)) 1 ((hdw 7) &&& 255)) 2 ((nf 0) &&& 255)) 3 ((nf 3) &&& 255)))), (c0, .inr (1, [.ref r0, .int (nI h0), .int (nI k0)])), (r0, .inl (cA, 4096, .inl f0)), (c1, .inr (1, [.ref r1, .int (nI h1), .int (nI k1)])), (r1, .inl (cA, 4096, .inl f1)), (fr, .inl (cA, 4, .inl nf))] [] rfl rfl rfl rfl (by decide) rfl rfl rfl hl.1 rfl (Nat.le_of_ble_eq_true rfl) dX2_frame_93 ⟨Nat.le_of_ble_eq_true rfl, Nat.le_of_ble_eq_true rfl⟩ (fun H locs hP hD hS => ?_)
  refine lv_aload_n hx hb dX2_frame_96 rfl (lv_at hl 4 rfl) ?_
  refine va_get (D := D) (ci := 2) (v := .ref v) hx hb hts iX2 hown hK hP 0 rfl rfl 2 (by decide) lk31 (fun _ h => h) rfl dX2_frame_97 ?_
  refine lv_sipush (v := 6144) hx hb dX2_frame_100 (by decide +kernel) ?_
  refine lv_aloadN hx hb dX2_frame_103 (lv_at hl 1 rfl) ?_
  refine lv_ifnonnullN hx hb dX2_frame_105 ?_
  refine lv_sipush (v := 2046) hx hb dX2_frame_108 (by decide +kernel) ?_
  refine lv_goto (tgt := 121) hx hb dX2_frame_111 (by decide) ?_
  refine lv_ior hx hb dX2_frame_121 ?_
  refine cl0_vv ⟨hx, hb, hml, hown, hts⟩ (c_by_put16 l D cA v vr len (upd (upd (upd (upd vf 0 (ush (hdw 7) 8 &&& 255)) 1 ((hdw 7) &&& 255)) 2 ((nf 0) &&& 255)) 3 ((nf 3) &&& 255)) 4 (6144 ||| 2046) (by omega) (by omega)) (cwV 1 hts gX2_frame_X0_put16 rfl rfl rfl (by decide +kernel) ⟨Nat.le_of_ble_eq_true rfl, Nat.le_of_ble_eq_true rfl⟩) (ci := 0) (q0 := 0) rfl rfl hN hK hP hD hS hA [1, 2] [0, 3, 4, 5, 6, 7] [0, 6, 7, 1, 2, 3, 4, 5] [(x, .inr (2, [.int (nI len), .ref t, .ref v, .ref c0, .ref c1, .ref fr])), (c0, .inr (1, [.ref r0, .int (nI h0), .int (nI k0)])), (r0, .inl (cA, 4096, .inl f0)), (c1, .inr (1, [.ref r1, .int (nI h1), .int (nI k1)])), (r1, .inl (cA, 4096, .inl f1)), (fr, .inl (cA, 4, .inl nf))] [(x, .inr (2, [.int (nI len), .ref t, .ref v, .ref c0, .ref c1, .ref fr])), (v, .inr (0, [.ref vr, .int (nI 6)])), (vr, .inl (cA, len, .inl (frA vf nf 7 3 2046))), (c0, .inr (1, [.ref r0, .int (nI h0), .int (nI k0)])), (r0, .inl (cA, 4096, .inl f0)), (c1, .inr (1, [.ref r1, .int (nI h1), .int (nI k1)])), (r1, .inl (cA, 4096, .inl f1)), (fr, .inl (cA, 4, .inl nf))] [] rfl rfl rfl rfl (by decide) rfl rfl rfl hl.1 rfl (Nat.le_of_ble_eq_true rfl) dX2_frame_122 ⟨Nat.le_of_ble_eq_true rfl, Nat.le_of_ble_eq_true rfl⟩ (fun H locs hP hD hS => ?_)
  refine lv_iconst (v := 0) hx hb dX2_frame_125 (by decide) ?_
  refine lv_istore (lv' := [(6, .int 0), (5, .int (nI a)), (4, .null), (3, .int (nI 3)), (2, .int 7), (0, .ref x), (1, .int word)]) hx hb dX2_frame_126 hl (by decide) rfl (fun ls hl => ?_)
  have loop : ∀ (d j : Nat) (H : Heap) (locs : List Loc) (ls : Array Slot), j + d = a → va_P D vwCl [(x, .inr (2, [.int (nI len), .ref t, .ref v, .ref c0, .ref c1, .ref fr])), (v, .inr (0, [.ref vr, .int (nI (6 + j))])), (vr, .inl (cA, len, .inl (lwr (frA vf nf 7 3 2046) 6 (fun _ => 85 &&& 255) j))), (c0, .inr (1, [.ref r0, .int (nI h0), .int (nI k0)])), (r0, .inl (cA, 4096, .inl f0)), (c1, .inr (1, [.ref r1, .int (nI h1), .int (nI k1)])), (r1, .inl (cA, 4096, .inl f1)), (fr, .inl (cA, 4, .inl nf))] H → va_D A [(x, .inr (2, [.int (nI len), .ref t, .ref v, .ref c0, .ref c1, .ref fr])), (v, .inr (0, [.ref vr, .int (nI (6 + j))])), (vr, .inl (cA, len, .inl (lwr (frA vf nf 7 3 2046) 6 (fun _ => 85 &&& 255) j))), (c0, .inr (1, [.ref r0, .int (nI h0), .int (nI k0)])), (r0, .inl (cA, 4096, .inl f0)), (c1, .inr (1, [.ref r1, .int (nI h1), .int (nI k1)])), (r1, .inl (cA, 4096, .inl f1)), (fr, .inl (cA, 4, .inl nf))] → va_S A s.heap H locs → lv_has ls 7 [(6, .int (nI j)), (5, .int (nI a)), (4, .null), (3, .int (nI 3)), (2, .int 7), (0, .ref x), (1, .int word)] → W p l e ({ frames := 3, cells := 0, slots := 0, locals := 90 } : Room) s m ([.ref x, .int word] : List Value).toArray below meth c H locs 0 0 Q (F0 m 128 ls []) := by
    intro d
    induction d with
    | zero =>
      intro j H locs ls hj hP hD hS hl
      have hj : j = a := hj
      rw [hj] at hP hD hl
      refine lv_iload hx hb dX2_frame_128 (lv_at hl 0 rfl) ?_
      refine lv_iload hx hb dX2_frame_130 (lv_at hl 1 rfl) ?_
      refine lv_icmp_ge (tgt := 163) hx hb dX2_frame_132 (by decide) (fun _ => ?_) (fun cc => absurd (nI_le (Nat.le_refl _) (by omega)) cc)
      refine lv_aload_n hx hb dX2_frame_163 rfl (lv_at hl 5 rfl) ?_
      refine va_get (D := D) (ci := 2) (v := .ref v) hx hb hts iX2 hown hK hP 0 rfl rfl 2 (by decide) lk31 (fun _ h => h) rfl dX2_frame_164 ?_
      refine lv_iload_n hx hb dX2_frame_167 rfl (lv_at hl 6 rfl) ?_
      refine lv_bipush (v := 16) hx hb dX2_frame_168 (by decide +kernel) ?_
      refine lv_iushr (v := ush word 16) hx hb dX2_frame_170 rfl ?_
      refine cl0_vv ⟨hx, hb, hml, hown, hts⟩ (c_by_put16 l D cA v vr len (lwr (frA vf nf 7 3 2046) 6 (fun _ => 85 &&& 255) a) (6 + a) (ush word 16) (by omega) (by omega)) (cwV 1 hts gX2_frame_X0_put16 rfl rfl rfl (by decide +kernel) ⟨Nat.le_of_ble_eq_true rfl, Nat.le_of_ble_eq_true rfl⟩) (ci := 0) (q0 := 0) rfl rfl hN hK hP hD hS hA [1, 2] [0, 3, 4, 5, 6, 7] [0, 6, 7, 1, 2, 3, 4, 5] [(x, .inr (2, [.int (nI len), .ref t, .ref v, .ref c0, .ref c1, .ref fr])), (c0, .inr (1, [.ref r0, .int (nI h0), .int (nI k0)])), (r0, .inl (cA, 4096, .inl f0)), (c1, .inr (1, [.ref r1, .int (nI h1), .int (nI k1)])), (r1, .inl (cA, 4096, .inl f1)), (fr, .inl (cA, 4, .inl nf))] [(x, .inr (2, [.int (nI len), .ref t, .ref v, .ref c0, .ref c1, .ref fr])), (v, .inr (0, [.ref vr, .int (nI (6 + a + 2))])), (vr, .inl (cA, len, .inl (upd (upd (lwr (frA vf nf 7 3 2046) 6 (fun _ => 85 &&& 255) a) (6 + a) (ush (ush word 16) 8 &&& 255)) (6 + a + 1) ((ush word 16) &&& 255)))), (c0, .inr (1, [.ref r0, .int (nI h0), .int (nI k0)])), (r0, .inl (cA, 4096, .inl f0)), (c1, .inr (1, [.ref r1, .int (nI h1), .int (nI k1)])), (r1, .inl (cA, 4096, .inl f1)), (fr, .inl (cA, 4, .inl nf))] [] rfl rfl rfl rfl (by decide) rfl rfl rfl hl.1 rfl (Nat.le_of_ble_eq_true rfl) dX2_frame_171 ⟨Nat.le_of_ble_eq_true rfl, Nat.le_of_ble_eq_true rfl⟩ (fun H locs hP hD hS => ?_)
      refine lv_aload_n hx hb dX2_frame_174 rfl (lv_at hl 5 rfl) ?_
      refine va_get (D := D) (ci := 2) (v := .ref v) hx hb hts iX2 hown hK hP 0 rfl rfl 2 (by decide) lk31 (fun _ h => h) rfl dX2_frame_175 ?_
      refine lv_iload_n hx hb dX2_frame_178 rfl (lv_at hl 6 rfl) ?_
      refine cl0_vv ⟨hx, hb, hml, hown, hts⟩ (c_by_put16 l D cA v vr len (upd (upd (lwr (frA vf nf 7 3 2046) 6 (fun _ => 85 &&& 255) a) (6 + a) (ush (ush word 16) 8 &&& 255)) (6 + a + 1) ((ush word 16) &&& 255)) (6 + a + 2) word (by omega) (by omega)) (cwV 1 hts gX2_frame_X0_put16 rfl rfl rfl (by decide +kernel) ⟨Nat.le_of_ble_eq_true rfl, Nat.le_of_ble_eq_true rfl⟩) (ci := 0) (q0 := 0) rfl rfl hN hK hP hD hS hA [1, 2] [0, 3, 4, 5, 6, 7] [0, 6, 7, 1, 2, 3, 4, 5] [(x, .inr (2, [.int (nI len), .ref t, .ref v, .ref c0, .ref c1, .ref fr])), (c0, .inr (1, [.ref r0, .int (nI h0), .int (nI k0)])), (r0, .inl (cA, 4096, .inl f0)), (c1, .inr (1, [.ref r1, .int (nI h1), .int (nI k1)])), (r1, .inl (cA, 4096, .inl f1)), (fr, .inl (cA, 4, .inl nf))] [(x, .inr (2, [.int (nI len), .ref t, .ref v, .ref c0, .ref c1, .ref fr])), (v, .inr (0, [.ref vr, .int (nI (6 + a + 4))])), (vr, .inl (cA, len, .inl (frW (lwr (frA vf nf 7 3 2046) 6 (fun _ => 85 &&& 255) a) a word))), (c0, .inr (1, [.ref r0, .int (nI h0), .int (nI k0)])), (r0, .inl (cA, 4096, .inl f0)), (c1, .inr (1, [.ref r1, .int (nI h1), .int (nI k1)])), (r1, .inl (cA, 4096, .inl f1)), (fr, .inl (cA, 4, .inl nf))] [] rfl rfl rfl rfl (by decide) rfl rfl rfl hl.1 rfl (Nat.le_of_ble_eq_true rfl) dX2_frame_179 ⟨Nat.le_of_ble_eq_true rfl, Nat.le_of_ble_eq_true rfl⟩ (fun H locs hP hD hS => ?_)
      refine lv_aload_n hx hb dX2_frame_182 rfl (lv_at hl 5 rfl) ?_
      refine va_get (D := D) (ci := 2) (v := .ref v) hx hb hts iX2 hown hK hP 0 rfl rfl 2 (by decide) lk31 (fun _ h => h) rfl dX2_frame_183 ?_
      refine lv_aload_n hx hb dX2_frame_186 rfl (lv_at hl 5 rfl) ?_
      refine va_get (D := D) (ci := 2) (v := .ref v) hx hb hts iX2 hown hK hP 0 rfl rfl 2 (by decide) lk31 (fun _ h => h) rfl dX2_frame_187 ?_
      refine cl0_vi ⟨hx, hb, hml, hown, hts⟩ (c_by_check l D cA v vr len (frW (lwr (frA vf nf 7 3 2046) 6 (fun _ => 85 &&& 255) a) a word) (6 + a + 4) (by omega) (by omega)) (cwV 0 hts gX2_frame_X0_check rfl rfl rfl (by decide +kernel) ⟨Nat.le_of_ble_eq_true rfl, Nat.le_of_ble_eq_true rfl⟩) (ci := 0) (q0 := 0) rfl rfl hN hK hP hD hS hA [1, 2] [0, 3, 4, 5, 6, 7] [0, 6, 7, 1, 2, 3, 4, 5] [(x, .inr (2, [.int (nI len), .ref t, .ref v, .ref c0, .ref c1, .ref fr])), (c0, .inr (1, [.ref r0, .int (nI h0), .int (nI k0)])), (r0, .inl (cA, 4096, .inl f0)), (c1, .inr (1, [.ref r1, .int (nI h1), .int (nI k1)])), (r1, .inl (cA, 4096, .inl f1)), (fr, .inl (cA, 4, .inl nf))] [(x, .inr (2, [.int (nI len), .ref t, .ref v, .ref c0, .ref c1, .ref fr])), (v, .inr (0, [.ref vr, .int (nI (6 + a + 4))])), (vr, .inl (cA, len, .inl (frW (lwr (frA vf nf 7 3 2046) 6 (fun _ => 85 &&& 255) a) a word))), (c0, .inr (1, [.ref r0, .int (nI h0), .int (nI k0)])), (r0, .inl (cA, 4096, .inl f0)), (c1, .inr (1, [.ref r1, .int (nI h1), .int (nI k1)])), (r1, .inl (cA, 4096, .inl f1)), (fr, .inl (cA, 4, .inl nf))] [.ref v] rfl rfl rfl rfl (by decide) rfl rfl rfl hl.1 rfl (Nat.le_of_ble_eq_true rfl) dX2_frame_190 ⟨Nat.le_of_ble_eq_true rfl, Nat.le_of_ble_eq_true rfl⟩ (fun H locs hP hD hS => ?_)
      refine cl0_vv ⟨hx, hb, hml, hown, hts⟩ (c_by_put16 l D cA v vr len (frW (lwr (frA vf nf 7 3 2046) 6 (fun _ => 85 &&& 255) a) a word) (6 + a + 4) (crc (frW (lwr (frA vf nf 7 3 2046) 6 (fun _ => 85 &&& 255) a) a word) (6 + a + 4)) (by omega) (by omega)) (cwV 1 hts gX2_frame_X0_put16 rfl rfl rfl (by decide +kernel) ⟨Nat.le_of_ble_eq_true rfl, Nat.le_of_ble_eq_true rfl⟩) (ci := 0) (q0 := 0) rfl rfl hN hK hP hD hS hA [1, 2] [0, 3, 4, 5, 6, 7] [0, 6, 7, 1, 2, 3, 4, 5] [(x, .inr (2, [.int (nI len), .ref t, .ref v, .ref c0, .ref c1, .ref fr])), (c0, .inr (1, [.ref r0, .int (nI h0), .int (nI k0)])), (r0, .inl (cA, 4096, .inl f0)), (c1, .inr (1, [.ref r1, .int (nI h1), .int (nI k1)])), (r1, .inl (cA, 4096, .inl f1)), (fr, .inl (cA, 4, .inl nf))] [(x, .inr (2, [.int (nI len), .ref t, .ref v, .ref c0, .ref c1, .ref fr])), (v, .inr (0, [.ref vr, .int (nI (6 + a + 6))])), (vr, .inl (cA, len, .inl (frL vf nf 7 3 2046 (fun _ => 85 &&& 255) a word))), (c0, .inr (1, [.ref r0, .int (nI h0), .int (nI k0)])), (r0, .inl (cA, 4096, .inl f0)), (c1, .inr (1, [.ref r1, .int (nI h1), .int (nI k1)])), (r1, .inl (cA, 4096, .inl f1)), (fr, .inl (cA, 4, .inl nf))] [] rfl rfl rfl rfl (by decide) rfl rfl rfl hl.1 rfl (Nat.le_of_ble_eq_true rfl) dX2_frame_193 ⟨Nat.le_of_ble_eq_true rfl, Nat.le_of_ble_eq_true rfl⟩ (fun H locs hP hD hS => ?_)
      refine lv_aload_n hx hb dX2_frame_196 rfl (lv_at hl 5 rfl) ?_
      refine va_get (D := D) (ci := 2) (v := .ref fr) hx hb hts iX2 hown hK hP 0 rfl rfl 5 (by decide) lk44 (fun _ h => h) rfl dX2_frame_197 ?_
      refine lv_iconst (v := 0) hx hb dX2_frame_200 (by decide) ?_
      refine tp_i (y := nI 0) (rfl) ?_
      refine lv_dup2_11 hx hb dX2_frame_201 rfl rfl ?_
      refine al_i (k := 0) hx hb hK hP 7 0 rfl rfl (by decide) (by decide) dX2_frame_202 ?_
      refine lv_iconst (v := 1) hx hb dX2_frame_203 (by decide) ?_
      refine lv_iadd hx hb dX2_frame_204 ?_
      refine as_i (k := 0) (x := ((nf 0) + 1)) hx hb hK hP hD hS 7 0 rfl rfl (by decide) (by decide) dX2_frame_205 (fun H locs hP hD hS => ?_)
      have hP : va_P D vwCl [(x, .inr (2, [.int (nI len), .ref t, .ref v, .ref c0, .ref c1, .ref fr])), (v, .inr (0, [.ref vr, .int (nI (6 + a + 6))])), (vr, .inl (cA, len, .inl (frL vf nf 7 3 2046 (fun _ => 85 &&& 255) a word))), (c0, .inr (1, [.ref r0, .int (nI h0), .int (nI k0)])), (r0, .inl (cA, 4096, .inl f0)), (c1, .inr (1, [.ref r1, .int (nI h1), .int (nI k1)])), (r1, .inl (cA, 4096, .inl f1)), (fr, .inl (cA, 4, .inl (upd nf 0 ((nf 0) + 1))))] H := hP
      have hD : va_D A [(x, .inr (2, [.int (nI len), .ref t, .ref v, .ref c0, .ref c1, .ref fr])), (v, .inr (0, [.ref vr, .int (nI (6 + a + 6))])), (vr, .inl (cA, len, .inl (frL vf nf 7 3 2046 (fun _ => 85 &&& 255) a word))), (c0, .inr (1, [.ref r0, .int (nI h0), .int (nI k0)])), (r0, .inl (cA, 4096, .inl f0)), (c1, .inr (1, [.ref r1, .int (nI h1), .int (nI k1)])), (r1, .inl (cA, 4096, .inl f1)), (fr, .inl (cA, 4, .inl (upd nf 0 ((nf 0) + 1))))] := hD
      refine lv_aload_n hx hb dX2_frame_206 rfl (lv_at hl 5 rfl) ?_
      refine va_get (D := D) (ci := 2) (v := .ref fr) hx hb hts iX2 hown hK hP 0 rfl rfl 5 (by decide) lk44 (fun _ h => h) rfl dX2_frame_207 ?_
      refine lv_iload_n hx hb dX2_frame_210 rfl (lv_at hl 3 rfl) ?_
      refine lv_dup2_11 hx hb dX2_frame_211 rfl rfl ?_
      refine al_i (k := 3) hx hb hK hP 7 0 rfl rfl (by decide) (by decide) dX2_frame_212 ?_
      refine lv_iconst (v := 1) hx hb dX2_frame_213 (by decide) ?_
      refine lv_iadd hx hb dX2_frame_214 ?_
      refine as_i (k := 3) (x := (((upd nf 0 ((nf 0) + 1)) 3) + 1)) hx hb hK hP hD hS 7 0 rfl rfl (by decide) (by decide) dX2_frame_215 (fun H locs hP hD hS => ?_)
      have hP : va_P D vwCl [(x, .inr (2, [.int (nI len), .ref t, .ref v, .ref c0, .ref c1, .ref fr])), (v, .inr (0, [.ref vr, .int (nI (6 + a + 6))])), (vr, .inl (cA, len, .inl (frL vf nf 7 3 2046 (fun _ => 85 &&& 255) a word))), (c0, .inr (1, [.ref r0, .int (nI h0), .int (nI k0)])), (r0, .inl (cA, 4096, .inl f0)), (c1, .inr (1, [.ref r1, .int (nI h1), .int (nI k1)])), (r1, .inl (cA, 4096, .inl f1)), (fr, .inl (cA, 4, .inl (upd (upd nf 0 ((nf 0) + 1)) 3 (((upd nf 0 ((nf 0) + 1)) 3) + 1))))] H := hP
      have hD : va_D A [(x, .inr (2, [.int (nI len), .ref t, .ref v, .ref c0, .ref c1, .ref fr])), (v, .inr (0, [.ref vr, .int (nI (6 + a + 6))])), (vr, .inl (cA, len, .inl (frL vf nf 7 3 2046 (fun _ => 85 &&& 255) a word))), (c0, .inr (1, [.ref r0, .int (nI h0), .int (nI k0)])), (r0, .inl (cA, 4096, .inl f0)), (c1, .inr (1, [.ref r1, .int (nI h1), .int (nI k1)])), (r1, .inl (cA, 4096, .inl f1)), (fr, .inl (cA, 4, .inl (upd (upd nf 0 ((nf 0) + 1)) 3 (((upd nf 0 ((nf 0) + 1)) 3) + 1))))] := hD
      refine lv_iload_n hx hb dX2_frame_216 rfl (lv_at hl 4 rfl) ?_
      rw [show 6 + a + 6 = len by omega] at hP hD
      exact hex _ _ _ _ _ () hS (rfl) hP hD dX2_frame_217
    | succ d ih =>
      intro j H locs ls hj hP hD hS hl
      refine lv_iload hx hb dX2_frame_128 (lv_at hl 0 rfl) ?_
      refine lv_iload hx hb dX2_frame_130 (lv_at hl 1 rfl) ?_
      refine lv_icmp_ge (tgt := 163) hx hb dX2_frame_132 (by decide) (fun cc => absurd cc (nI_ge (by omega) (by omega))) (fun _ => ?_)
      refine lv_aload_n hx hb dX2_frame_135 rfl (lv_at hl 5 rfl) ?_
      refine va_get (D := D) (ci := 2) (v := .ref v) hx hb hts iX2 hown hK hP 0 rfl rfl 2 (by decide) lk31 (fun _ h => h) rfl dX2_frame_136 ?_
      refine lv_aloadN hx hb dX2_frame_139 (lv_at hl 2 rfl) ?_
      refine lv_ifnonnullN hx hb dX2_frame_141 ?_
      refine lv_bipush (v := 85) hx hb dX2_frame_144 (by decide +kernel) ?_
      refine lv_goto (tgt := 154) hx hb dX2_frame_146 (by decide) ?_
      refine cl0_vv ⟨hx, hb, hml, hown, hts⟩ (c_by_put8 l D cA v vr len (lwr (frA vf nf 7 3 2046) 6 (fun _ => 85 &&& 255) j) (6 + j) 85 (by omega) (by omega)) (cwV 1 hts gX2_frame_X0_put8 rfl rfl rfl (by decide +kernel) ⟨Nat.le_of_ble_eq_true rfl, Nat.le_of_ble_eq_true rfl⟩) (ci := 0) (q0 := 0) rfl rfl hN hK hP hD hS hA [1, 2] [0, 3, 4, 5, 6, 7] [0, 6, 7, 1, 2, 3, 4, 5] [(x, .inr (2, [.int (nI len), .ref t, .ref v, .ref c0, .ref c1, .ref fr])), (c0, .inr (1, [.ref r0, .int (nI h0), .int (nI k0)])), (r0, .inl (cA, 4096, .inl f0)), (c1, .inr (1, [.ref r1, .int (nI h1), .int (nI k1)])), (r1, .inl (cA, 4096, .inl f1)), (fr, .inl (cA, 4, .inl nf))] [(x, .inr (2, [.int (nI len), .ref t, .ref v, .ref c0, .ref c1, .ref fr])), (v, .inr (0, [.ref vr, .int (nI (6 + (j + 1)))])), (vr, .inl (cA, len, .inl (lwr (frA vf nf 7 3 2046) 6 (fun _ => 85 &&& 255) (j + 1)))), (c0, .inr (1, [.ref r0, .int (nI h0), .int (nI k0)])), (r0, .inl (cA, 4096, .inl f0)), (c1, .inr (1, [.ref r1, .int (nI h1), .int (nI k1)])), (r1, .inl (cA, 4096, .inl f1)), (fr, .inl (cA, 4, .inl nf))] [] rfl rfl rfl rfl (by decide) rfl rfl rfl hl.1 rfl (Nat.le_of_ble_eq_true rfl) dX2_frame_154 ⟨Nat.le_of_ble_eq_true rfl, Nat.le_of_ble_eq_true rfl⟩ (fun H locs hP hD hS => ?_)
      refine lv_iinc (v := nI (j + 1)) (lv' := [(6, .int (nI (j + 1))), (5, .int (nI a)), (4, .null), (3, .int (nI 3)), (2, .int 7), (0, .ref x), (1, .int word)]) hx hb dX2_frame_157 hl (k := 0) rfl (nI_1 _) (by decide) rfl (fun ls hl => ?_)
      refine lv_goto (tgt := 128) hx hb dX2_frame_160 (by decide) ?_
      exact ih (j + 1) H locs ls (by omega) hP hD hS (lv_sub hl [0, 1, 2, 3, 4, 5, 6] rfl)
  exact loop a 0 _ _ ls (by omega) hP hD hS (lv_sub hl [0, 1, 2, 3, 4, 5, 6] rfl)
end
section
set_option maxHeartbeats 4000000 in
set_option maxRecDepth 100000 in
/-- DownFrames(length) -/
theorem c_x_init (l : Launch) (D : va_G) (cA : ClassId) (x : Nat) (z : Int32) : MV (S := Nat × Nat × Nat × Nat × Nat × Nat × Nat × Nat × Nat) l yX2_init wsX2_init { frames := 2, cells := 9, slots := 9486, locals := 40 } [.ref x, .int z] D [(cA, .int)] [(x, .inr (2, [.int 0, .null, .null, .null, .null, .null]))] (fun _ => True) (fun u => [(x, .inr (2, [.int (nI (clN z)), .ref (u.1), .ref (u.2.2.1), .ref (u.2.2.2.2.1), .ref (u.2.2.2.2.2.2.1), .ref (u.2.2.2.2.2.2.2.2)])), ((u.1), .inr (0, [.ref (u.2.1), .int (nI 0)])), ((u.2.1), .inl (cA, 1024, .inl (fun _ => 0))), ((u.2.2.1), .inr (0, [.ref (u.2.2.2.1), .int (nI 0)])), ((u.2.2.2.1), .inl (cA, clN z, .inl (fun _ => 0))), ((u.2.2.2.2.1), .inr (1, [.ref (u.2.2.2.2.2.1), .int (nI 0), .int (nI 0)])), ((u.2.2.2.2.2.1), .inl (cA, 4096, .inl (fun _ => 0))), ((u.2.2.2.2.2.2.1), .inr (1, [.ref (u.2.2.2.2.2.2.2.1), .int (nI 0), .int (nI 0)])), ((u.2.2.2.2.2.2.2.1), .inl (cA, 4096, .inl (fun _ => 0))), ((u.2.2.2.2.2.2.2.2), .inl (cA, 4, .inl (fun _ => 0)))]) 9 9486 := by
  refine mt_v (by decide) rfl (Nat.le_of_ble_eq_true rfl) ?_
  intro p e s m below meth c A ls Q hx hb hts hown hml hin hN hK hA hP hD hS hl hex
  have hown : s.vm.findClass RX2 = some m.cls := hown
  have hl : lv_has ls 2 [(0, .ref x), (1, .int z)] := hl
  have iX0 : ∀ w ∈ wsX00, w ∈ wsX2_init := by decide +kernel
  have iX1 : ∀ w ∈ wsX10, w ∈ wsX2_init := by decide +kernel
  have iX2 : ∀ w ∈ wsX20, w ∈ wsX2_init := by decide +kernel
  have imX0 := hts (.instanceMethod yX0_init) (by decide +kernel)
  have imX1 := hts (.instanceMethod yX1_init) (by decide +kernel)
  have la := hts (.arrayClass .int) (by decide +kernel)
  have lk18 := hts (.fieldLink RX2 18 "DownFrames" "length" "I") (by decide +kernel)
  have lk27 := hts (.fieldLink RX2 27 "DownFrames" "tape" "LDownFrames$Bytes;") (by decide +kernel)
  have lk31 := hts (.fieldLink RX2 31 "DownFrames" "latest" "LDownFrames$Bytes;") (by decide +kernel)
  have lk37 := hts (.fieldLink RX2 37 "DownFrames" "channel0" "LDownFrames$Channel;") (by decide +kernel)
  have lk41 := hts (.fieldLink RX2 41 "DownFrames" "channel1" "LDownFrames$Channel;") (by decide +kernel)
  have lk44 := hts (.fieldLink RX2 44 "DownFrames" "frames" "[I") (by decide +kernel)
  have lo1 := hts (.methodLink RX2 1 objectInit) (by decide +kernel)
  have lo2 := hts (.instanceMethod objectInit) (by decide +kernel)
  have lo3 : (Cond.code objectInit ⟨#[0xb1]⟩ 1 none).before _ s = true := hts _ (List.mem_of_getElem? (i := 3) rfl)
  have ml24 := hts (.methodLink RX2 24 yX0_init) (by decide +kernel)
  have ml36 := hts (.methodLink RX2 36 yX1_init) (by decide +kernel)
  have mn1 := hts (.methodLink RX2 9 Lib.Math.min.name) (by decide +kernel)
  have mn2 := hts (.static Lib.Math.min.name) (by decide +kernel)
  have mn4 : (Cond.code Lib.Math.min.name Lib.Math.min.code 2 (some .int)).before _ s = true := hts _ (List.mem_of_getElem? (i := 7) rfl)
  have mx1 := hts (.methodLink RX2 15 Lib.Math.max.name) (by decide +kernel)
  have mx2 := hts (.static Lib.Math.max.name) (by decide +kernel)
  have mx4 : (Cond.code Lib.Math.max.name Lib.Math.max.code 2 (some .int)).before _ s = true := hts _ (List.mem_of_getElem? (i := 10) rfl)
  have mz := hts (.initialized "java/lang/Math") (by decide +kernel)
  have niX0 := hts (.instantiable RX0 2) (by decide +kernel)
  have niX1 := hts (.instantiable RX1 3) (by decide +kernel)
  have nl22 := hts (.classLink RX2 22 RX0) (by decide +kernel)
  have nl34 := hts (.classLink RX2 34 RX1) (by decide +kernel)
  have nzX0 := hts (.initialized RX0) (by decide +kernel)
  have nzX1 := hts (.initialized RX1) (by decide +kernel)
  obtain ⟨e1, e2, e3⟩ := clI_nat z
  obtain ⟨len, hlen⟩ : ∃ n, n = clN z := ⟨_, rfl⟩
  rw [← hlen] at e1 e2 e3
  refine lv_aload_n hx hb dX2_init_0 rfl (lv_at hl 0 rfl) ?_
  refine W.objInit hx hb hown lo1 lo2 lo3 rfl (by rw [hml]; exact hl.1) rfl dX2_init_1 (Nat.le_of_ble_eq_true rfl) (Nat.le_of_ble_eq_true rfl) ?_
  refine W.eq (g2 := F0 m 4 ls []) rfl ?_
  refine lv_aload_n hx hb dX2_init_4 rfl (lv_at hl 0 rfl) ?_
  refine lv_bipush (v := 64) hx hb dX2_init_5 (by decide +kernel) ?_
  refine lv_sipush (v := 256) hx hb dX2_init_7 (by decide +kernel) ?_
  refine lv_iload_n hx hb dX2_init_10 rfl (lv_at hl 1 rfl) ?_
  refine va_mmin hx hb (by rw [hml]; exact hl.1.symm) hown mn1 mn2 mz mn4 (Nat.le_of_ble_eq_true rfl) (Nat.le_of_ble_eq_true rfl) (Nat.le_of_ble_eq_true rfl) (Nat.le_of_ble_eq_true rfl) dX2_init_11 ?_
  refine va_mmax hx hb (by rw [hml]; exact hl.1.symm) hown mx1 mx2 mz mx4 (Nat.le_of_ble_eq_true rfl) (Nat.le_of_ble_eq_true rfl) (Nat.le_of_ble_eq_true rfl) (Nat.le_of_ble_eq_true rfl) dX2_init_14 ?_
  refine tp_i (y := nI len) (e1) ?_
  refine va_putF (D := D) (ci := 2) (v := .int (nI len)) (ty := (.int)) hx hb hts iX2 tyX2 tyX2_ok nmX2 hown hK hP hD hS 0 rfl rfl 0 (by decide) lk18 (fun _ h => h) rfl hin rfl (by decide +kernel) rfl rfl (Nat.le_of_ble_eq_true rfl) dX2_init_17 (fun H locs hP hD hS => ?_)
  have hP : va_P D vwCl [(x, .inr (2, [.int (nI len), .null, .null, .null, .null, .null]))] H := hP
  have hD : va_D A [(x, .inr (2, [.int (nI len), .null, .null, .null, .null, .null]))] := hD
  refine lv_aload_n hx hb dX2_init_20 rfl (lv_at hl 0 rfl) ?_
  refine va_new (ci := 0) (fs := [.null, .int 0]) (C := RX0) (N := 2) hx hb hts iX0 tyX0 tyX0_ok hown nl22 niX0 nzX0 hK hP hD hS hA rfl (fun j hj => by rcases (show j = 0 ∨ j = 1 by omega) with rfl | rfl <;> rfl) (Nat.le_of_ble_eq_true rfl) (Nat.le_of_ble_eq_true rfl) dX2_init_21 (fun t H hP hD hS => ?_)
  have hP : va_P D vwCl [(x, .inr (2, [.int (nI len), .null, .null, .null, .null, .null])), (t, .inr (0, [.null, .int 0]))] H := hP
  have hD : va_D A [(x, .inr (2, [.int (nI len), .null, .null, .null, .null, .null])), (t, .inr (0, [.null, .int 0]))] := hD
  refine lv_dup hx hb dX2_init_24 rfl ?_
  refine lv_sipush (v := 1024) hx hb dX2_init_25 (by decide +kernel) ?_
  refine tp_i (y := nI 1024) (rfl) ?_
  refine cl_iv (S := Nat) ⟨hx, hb, hml, hown, hts⟩ (c_by_init l D cA t 1024 1024 (by decide) (Nat.le_refl _)) (cwI 1 hts gX2_init_X0_init rfl rfl rfl nzX0 ml24 imX0 rfl (by decide +kernel) ⟨Nat.le_of_ble_eq_true rfl, Nat.le_of_ble_eq_true rfl⟩) hN hK hP hD hS hA [1] [0] [0, 1, 2] [(x, .inr (2, [.int (nI len), .null, .null, .null, .null, .null]))] (fun tr => [(x, .inr (2, [.int (nI len), .null, .null, .null, .null, .null])), (t, .inr (0, [.ref tr, .int (nI 0)])), (tr, .inl (cA, 1024, .inl (fun _ => 0)))]) [.ref t, .ref x] rfl rfl rfl rfl (by decide) (fun _ => rfl) rfl rfl hl.1 rfl (Nat.le_of_ble_eq_true rfl) dX2_init_28 ⟨Nat.le_of_ble_eq_true rfl, Nat.le_of_ble_eq_true rfl⟩ (fun tr H locs _ hP hD hS => ?_)
  have hP : va_P D vwCl [(x, .inr (2, [.int (nI len), .null, .null, .null, .null, .null])), (t, .inr (0, [.ref tr, .int (nI 0)])), (tr, .inl (cA, 1024, .inl (fun _ => 0)))] H := hP
  have hD : va_D A [(x, .inr (2, [.int (nI len), .null, .null, .null, .null, .null])), (t, .inr (0, [.ref tr, .int (nI 0)])), (tr, .inl (cA, 1024, .inl (fun _ => 0)))] := hD
  refine va_putF (D := D) (ci := 2) (v := .ref t) (ty := (.object "DownFrames$Bytes")) hx hb hts iX2 tyX2 tyX2_ok nmX2 hown hK hP hD hS 0 rfl rfl 1 (by decide) lk27 (fun _ h => h) rfl hin rfl (by decide +kernel) rfl rfl (Nat.le_of_ble_eq_true rfl) dX2_init_31 (fun H locs hP hD hS => ?_)
  have hP : va_P D vwCl [(x, .inr (2, [.int (nI len), .ref t, .null, .null, .null, .null])), (t, .inr (0, [.ref tr, .int (nI 0)])), (tr, .inl (cA, 1024, .inl (fun _ => 0)))] H := hP
  have hD : va_D A [(x, .inr (2, [.int (nI len), .ref t, .null, .null, .null, .null])), (t, .inr (0, [.ref tr, .int (nI 0)])), (tr, .inl (cA, 1024, .inl (fun _ => 0)))] := hD
  refine lv_aload_n hx hb dX2_init_34 rfl (lv_at hl 0 rfl) ?_
  refine va_new (ci := 0) (fs := [.null, .int 0]) (C := RX0) (N := 2) hx hb hts iX0 tyX0 tyX0_ok hown nl22 niX0 nzX0 hK hP hD hS hA rfl (fun j hj => by rcases (show j = 0 ∨ j = 1 by omega) with rfl | rfl <;> rfl) (Nat.le_of_ble_eq_true rfl) (Nat.le_of_ble_eq_true rfl) dX2_init_35 (fun v H hP hD hS => ?_)
  have hP : va_P D vwCl [(x, .inr (2, [.int (nI len), .ref t, .null, .null, .null, .null])), (t, .inr (0, [.ref tr, .int (nI 0)])), (tr, .inl (cA, 1024, .inl (fun _ => 0))), (v, .inr (0, [.null, .int 0]))] H := hP
  have hD : va_D A [(x, .inr (2, [.int (nI len), .ref t, .null, .null, .null, .null])), (t, .inr (0, [.ref tr, .int (nI 0)])), (tr, .inl (cA, 1024, .inl (fun _ => 0))), (v, .inr (0, [.null, .int 0]))] := hD
  refine lv_dup hx hb dX2_init_38 rfl ?_
  refine lv_aload_n hx hb dX2_init_39 rfl (lv_at hl 0 rfl) ?_
  refine va_get (D := D) (ci := 2) (v := .int (nI len)) hx hb hts iX2 hown hK hP 0 rfl rfl 0 (by decide) lk18 (fun _ h => h) rfl dX2_init_40 ?_
  refine cl_iv (S := Nat) ⟨hx, hb, hml, hown, hts⟩ (c_by_init l D cA v len 256 (by omega) e3) (cwI 1 hts gX2_init_X0_init rfl rfl rfl nzX0 ml24 imX0 rfl (by decide +kernel) ⟨Nat.le_of_ble_eq_true rfl, Nat.le_of_ble_eq_true rfl⟩) hN hK hP hD hS hA [3] [0, 1, 2] [0, 1, 2, 3, 4] [(x, .inr (2, [.int (nI len), .ref t, .null, .null, .null, .null])), (t, .inr (0, [.ref tr, .int (nI 0)])), (tr, .inl (cA, 1024, .inl (fun _ => 0)))] (fun vr => [(x, .inr (2, [.int (nI len), .ref t, .null, .null, .null, .null])), (t, .inr (0, [.ref tr, .int (nI 0)])), (tr, .inl (cA, 1024, .inl (fun _ => 0))), (v, .inr (0, [.ref vr, .int (nI 0)])), (vr, .inl (cA, len, .inl (fun _ => 0)))]) [.ref v, .ref x] rfl rfl rfl rfl (by decide) (fun _ => rfl) rfl rfl hl.1 rfl (Nat.le_of_ble_eq_true rfl) dX2_init_43 ⟨Nat.le_of_ble_eq_true rfl, Nat.le_of_ble_eq_true rfl⟩ (fun vr H locs _ hP hD hS => ?_)
  have hP : va_P D vwCl [(x, .inr (2, [.int (nI len), .ref t, .null, .null, .null, .null])), (t, .inr (0, [.ref tr, .int (nI 0)])), (tr, .inl (cA, 1024, .inl (fun _ => 0))), (v, .inr (0, [.ref vr, .int (nI 0)])), (vr, .inl (cA, len, .inl (fun _ => 0)))] H := hP
  have hD : va_D A [(x, .inr (2, [.int (nI len), .ref t, .null, .null, .null, .null])), (t, .inr (0, [.ref tr, .int (nI 0)])), (tr, .inl (cA, 1024, .inl (fun _ => 0))), (v, .inr (0, [.ref vr, .int (nI 0)])), (vr, .inl (cA, len, .inl (fun _ => 0)))] := hD
  refine va_putF (D := D) (ci := 2) (v := .ref v) (ty := (.object "DownFrames$Bytes")) hx hb hts iX2 tyX2 tyX2_ok nmX2 hown hK hP hD hS 0 rfl rfl 2 (by decide) lk31 (fun _ h => h) rfl hin rfl (by decide +kernel) rfl rfl (Nat.le_of_ble_eq_true rfl) dX2_init_46 (fun H locs hP hD hS => ?_)
  have hP : va_P D vwCl [(x, .inr (2, [.int (nI len), .ref t, .ref v, .null, .null, .null])), (t, .inr (0, [.ref tr, .int (nI 0)])), (tr, .inl (cA, 1024, .inl (fun _ => 0))), (v, .inr (0, [.ref vr, .int (nI 0)])), (vr, .inl (cA, len, .inl (fun _ => 0)))] H := hP
  have hD : va_D A [(x, .inr (2, [.int (nI len), .ref t, .ref v, .null, .null, .null])), (t, .inr (0, [.ref tr, .int (nI 0)])), (tr, .inl (cA, 1024, .inl (fun _ => 0))), (v, .inr (0, [.ref vr, .int (nI 0)])), (vr, .inl (cA, len, .inl (fun _ => 0)))] := hD
  refine lv_aload_n hx hb dX2_init_49 rfl (lv_at hl 0 rfl) ?_
  refine va_new (ci := 1) (fs := [.null, .int 0, .int 0]) (C := RX1) (N := 3) hx hb hts iX1 tyX1 tyX1_ok hown nl34 niX1 nzX1 hK hP hD hS hA rfl (fun j hj => by rcases (show j = 0 ∨ j = 1 ∨ j = 2 by omega) with rfl | rfl | rfl <;> rfl) (Nat.le_of_ble_eq_true rfl) (Nat.le_of_ble_eq_true rfl) dX2_init_50 (fun c0 H hP hD hS => ?_)
  have hP : va_P D vwCl [(x, .inr (2, [.int (nI len), .ref t, .ref v, .null, .null, .null])), (t, .inr (0, [.ref tr, .int (nI 0)])), (tr, .inl (cA, 1024, .inl (fun _ => 0))), (v, .inr (0, [.ref vr, .int (nI 0)])), (vr, .inl (cA, len, .inl (fun _ => 0))), (c0, .inr (1, [.null, .int 0, .int 0]))] H := hP
  have hD : va_D A [(x, .inr (2, [.int (nI len), .ref t, .ref v, .null, .null, .null])), (t, .inr (0, [.ref tr, .int (nI 0)])), (tr, .inl (cA, 1024, .inl (fun _ => 0))), (v, .inr (0, [.ref vr, .int (nI 0)])), (vr, .inl (cA, len, .inl (fun _ => 0))), (c0, .inr (1, [.null, .int 0, .int 0]))] := hD
  refine lv_dup hx hb dX2_init_53 rfl ?_
  refine cl_iv (S := Nat) ⟨hx, hb, hml, hown, hts⟩ (c_ch_init l D cA c0) (cwI 0 hts gX2_init_X1_init rfl rfl rfl nzX1 ml36 imX1 rfl (by decide +kernel) ⟨Nat.le_of_ble_eq_true rfl, Nat.le_of_ble_eq_true rfl⟩) hN hK hP hD hS hA [5] [0, 1, 2, 3, 4] [0, 1, 2, 3, 4, 5, 6] [(x, .inr (2, [.int (nI len), .ref t, .ref v, .null, .null, .null])), (t, .inr (0, [.ref tr, .int (nI 0)])), (tr, .inl (cA, 1024, .inl (fun _ => 0))), (v, .inr (0, [.ref vr, .int (nI 0)])), (vr, .inl (cA, len, .inl (fun _ => 0)))] (fun r0 => [(x, .inr (2, [.int (nI len), .ref t, .ref v, .null, .null, .null])), (t, .inr (0, [.ref tr, .int (nI 0)])), (tr, .inl (cA, 1024, .inl (fun _ => 0))), (v, .inr (0, [.ref vr, .int (nI 0)])), (vr, .inl (cA, len, .inl (fun _ => 0))), (c0, .inr (1, [.ref r0, .int (nI 0), .int (nI 0)])), (r0, .inl (cA, 4096, .inl (fun _ => 0)))]) [.ref c0, .ref x] rfl rfl rfl rfl (by decide) (fun _ => rfl) rfl rfl hl.1 rfl (Nat.le_of_ble_eq_true rfl) dX2_init_54 ⟨Nat.le_of_ble_eq_true rfl, Nat.le_of_ble_eq_true rfl⟩ (fun r0 H locs _ hP hD hS => ?_)
  have hP : va_P D vwCl [(x, .inr (2, [.int (nI len), .ref t, .ref v, .null, .null, .null])), (t, .inr (0, [.ref tr, .int (nI 0)])), (tr, .inl (cA, 1024, .inl (fun _ => 0))), (v, .inr (0, [.ref vr, .int (nI 0)])), (vr, .inl (cA, len, .inl (fun _ => 0))), (c0, .inr (1, [.ref r0, .int (nI 0), .int (nI 0)])), (r0, .inl (cA, 4096, .inl (fun _ => 0)))] H := hP
  have hD : va_D A [(x, .inr (2, [.int (nI len), .ref t, .ref v, .null, .null, .null])), (t, .inr (0, [.ref tr, .int (nI 0)])), (tr, .inl (cA, 1024, .inl (fun _ => 0))), (v, .inr (0, [.ref vr, .int (nI 0)])), (vr, .inl (cA, len, .inl (fun _ => 0))), (c0, .inr (1, [.ref r0, .int (nI 0), .int (nI 0)])), (r0, .inl (cA, 4096, .inl (fun _ => 0)))] := hD
  refine va_putF (D := D) (ci := 2) (v := .ref c0) (ty := (.object "DownFrames$Channel")) hx hb hts iX2 tyX2 tyX2_ok nmX2 hown hK hP hD hS 0 rfl rfl 3 (by decide) lk37 (fun _ h => h) rfl hin rfl (by decide +kernel) rfl rfl (Nat.le_of_ble_eq_true rfl) dX2_init_57 (fun H locs hP hD hS => ?_)
  have hP : va_P D vwCl [(x, .inr (2, [.int (nI len), .ref t, .ref v, .ref c0, .null, .null])), (t, .inr (0, [.ref tr, .int (nI 0)])), (tr, .inl (cA, 1024, .inl (fun _ => 0))), (v, .inr (0, [.ref vr, .int (nI 0)])), (vr, .inl (cA, len, .inl (fun _ => 0))), (c0, .inr (1, [.ref r0, .int (nI 0), .int (nI 0)])), (r0, .inl (cA, 4096, .inl (fun _ => 0)))] H := hP
  have hD : va_D A [(x, .inr (2, [.int (nI len), .ref t, .ref v, .ref c0, .null, .null])), (t, .inr (0, [.ref tr, .int (nI 0)])), (tr, .inl (cA, 1024, .inl (fun _ => 0))), (v, .inr (0, [.ref vr, .int (nI 0)])), (vr, .inl (cA, len, .inl (fun _ => 0))), (c0, .inr (1, [.ref r0, .int (nI 0), .int (nI 0)])), (r0, .inl (cA, 4096, .inl (fun _ => 0)))] := hD
  refine lv_aload_n hx hb dX2_init_60 rfl (lv_at hl 0 rfl) ?_
  refine va_new (ci := 1) (fs := [.null, .int 0, .int 0]) (C := RX1) (N := 3) hx hb hts iX1 tyX1 tyX1_ok hown nl34 niX1 nzX1 hK hP hD hS hA rfl (fun j hj => by rcases (show j = 0 ∨ j = 1 ∨ j = 2 by omega) with rfl | rfl | rfl <;> rfl) (Nat.le_of_ble_eq_true rfl) (Nat.le_of_ble_eq_true rfl) dX2_init_61 (fun c1 H hP hD hS => ?_)
  have hP : va_P D vwCl [(x, .inr (2, [.int (nI len), .ref t, .ref v, .ref c0, .null, .null])), (t, .inr (0, [.ref tr, .int (nI 0)])), (tr, .inl (cA, 1024, .inl (fun _ => 0))), (v, .inr (0, [.ref vr, .int (nI 0)])), (vr, .inl (cA, len, .inl (fun _ => 0))), (c0, .inr (1, [.ref r0, .int (nI 0), .int (nI 0)])), (r0, .inl (cA, 4096, .inl (fun _ => 0))), (c1, .inr (1, [.null, .int 0, .int 0]))] H := hP
  have hD : va_D A [(x, .inr (2, [.int (nI len), .ref t, .ref v, .ref c0, .null, .null])), (t, .inr (0, [.ref tr, .int (nI 0)])), (tr, .inl (cA, 1024, .inl (fun _ => 0))), (v, .inr (0, [.ref vr, .int (nI 0)])), (vr, .inl (cA, len, .inl (fun _ => 0))), (c0, .inr (1, [.ref r0, .int (nI 0), .int (nI 0)])), (r0, .inl (cA, 4096, .inl (fun _ => 0))), (c1, .inr (1, [.null, .int 0, .int 0]))] := hD
  refine lv_dup hx hb dX2_init_64 rfl ?_
  refine cl_iv (S := Nat) ⟨hx, hb, hml, hown, hts⟩ (c_ch_init l D cA c1) (cwI 0 hts gX2_init_X1_init rfl rfl rfl nzX1 ml36 imX1 rfl (by decide +kernel) ⟨Nat.le_of_ble_eq_true rfl, Nat.le_of_ble_eq_true rfl⟩) hN hK hP hD hS hA [7] [0, 1, 2, 3, 4, 5, 6] [0, 1, 2, 3, 4, 5, 6, 7, 8] [(x, .inr (2, [.int (nI len), .ref t, .ref v, .ref c0, .null, .null])), (t, .inr (0, [.ref tr, .int (nI 0)])), (tr, .inl (cA, 1024, .inl (fun _ => 0))), (v, .inr (0, [.ref vr, .int (nI 0)])), (vr, .inl (cA, len, .inl (fun _ => 0))), (c0, .inr (1, [.ref r0, .int (nI 0), .int (nI 0)])), (r0, .inl (cA, 4096, .inl (fun _ => 0)))] (fun r1 => [(x, .inr (2, [.int (nI len), .ref t, .ref v, .ref c0, .null, .null])), (t, .inr (0, [.ref tr, .int (nI 0)])), (tr, .inl (cA, 1024, .inl (fun _ => 0))), (v, .inr (0, [.ref vr, .int (nI 0)])), (vr, .inl (cA, len, .inl (fun _ => 0))), (c0, .inr (1, [.ref r0, .int (nI 0), .int (nI 0)])), (r0, .inl (cA, 4096, .inl (fun _ => 0))), (c1, .inr (1, [.ref r1, .int (nI 0), .int (nI 0)])), (r1, .inl (cA, 4096, .inl (fun _ => 0)))]) [.ref c1, .ref x] rfl rfl rfl rfl (by decide) (fun _ => rfl) rfl rfl hl.1 rfl (Nat.le_of_ble_eq_true rfl) dX2_init_65 ⟨Nat.le_of_ble_eq_true rfl, Nat.le_of_ble_eq_true rfl⟩ (fun r1 H locs _ hP hD hS => ?_)
  have hP : va_P D vwCl [(x, .inr (2, [.int (nI len), .ref t, .ref v, .ref c0, .null, .null])), (t, .inr (0, [.ref tr, .int (nI 0)])), (tr, .inl (cA, 1024, .inl (fun _ => 0))), (v, .inr (0, [.ref vr, .int (nI 0)])), (vr, .inl (cA, len, .inl (fun _ => 0))), (c0, .inr (1, [.ref r0, .int (nI 0), .int (nI 0)])), (r0, .inl (cA, 4096, .inl (fun _ => 0))), (c1, .inr (1, [.ref r1, .int (nI 0), .int (nI 0)])), (r1, .inl (cA, 4096, .inl (fun _ => 0)))] H := hP
  have hD : va_D A [(x, .inr (2, [.int (nI len), .ref t, .ref v, .ref c0, .null, .null])), (t, .inr (0, [.ref tr, .int (nI 0)])), (tr, .inl (cA, 1024, .inl (fun _ => 0))), (v, .inr (0, [.ref vr, .int (nI 0)])), (vr, .inl (cA, len, .inl (fun _ => 0))), (c0, .inr (1, [.ref r0, .int (nI 0), .int (nI 0)])), (r0, .inl (cA, 4096, .inl (fun _ => 0))), (c1, .inr (1, [.ref r1, .int (nI 0), .int (nI 0)])), (r1, .inl (cA, 4096, .inl (fun _ => 0)))] := hD
  refine va_putF (D := D) (ci := 2) (v := .ref c1) (ty := (.object "DownFrames$Channel")) hx hb hts iX2 tyX2 tyX2_ok nmX2 hown hK hP hD hS 0 rfl rfl 4 (by decide) lk41 (fun _ h => h) rfl hin rfl (by decide +kernel) rfl rfl (Nat.le_of_ble_eq_true rfl) dX2_init_68 (fun H locs hP hD hS => ?_)
  have hP : va_P D vwCl [(x, .inr (2, [.int (nI len), .ref t, .ref v, .ref c0, .ref c1, .null])), (t, .inr (0, [.ref tr, .int (nI 0)])), (tr, .inl (cA, 1024, .inl (fun _ => 0))), (v, .inr (0, [.ref vr, .int (nI 0)])), (vr, .inl (cA, len, .inl (fun _ => 0))), (c0, .inr (1, [.ref r0, .int (nI 0), .int (nI 0)])), (r0, .inl (cA, 4096, .inl (fun _ => 0))), (c1, .inr (1, [.ref r1, .int (nI 0), .int (nI 0)])), (r1, .inl (cA, 4096, .inl (fun _ => 0)))] H := hP
  have hD : va_D A [(x, .inr (2, [.int (nI len), .ref t, .ref v, .ref c0, .ref c1, .null])), (t, .inr (0, [.ref tr, .int (nI 0)])), (tr, .inl (cA, 1024, .inl (fun _ => 0))), (v, .inr (0, [.ref vr, .int (nI 0)])), (vr, .inl (cA, len, .inl (fun _ => 0))), (c0, .inr (1, [.ref r0, .int (nI 0), .int (nI 0)])), (r0, .inl (cA, 4096, .inl (fun _ => 0))), (c1, .inr (1, [.ref r1, .int (nI 0), .int (nI 0)])), (r1, .inl (cA, 4096, .inl (fun _ => 0)))] := hD
  refine lv_aload_n hx hb dX2_init_71 rfl (lv_at hl 0 rfl) ?_
  refine lv_iconst (v := 4) hx hb dX2_init_72 (by decide) ?_
  refine tp_i (y := nI 4) (rfl) ?_
  refine nw_i (n := 4) hx hb la hK 0 rfl hP hD hS hA (by decide) (Nat.le_of_ble_eq_true rfl) (Nat.le_of_ble_eq_true rfl) dX2_init_73 (fun fr H hP hD hS => ?_)
  have hP : va_P D vwCl [(x, .inr (2, [.int (nI len), .ref t, .ref v, .ref c0, .ref c1, .null])), (t, .inr (0, [.ref tr, .int (nI 0)])), (tr, .inl (cA, 1024, .inl (fun _ => 0))), (v, .inr (0, [.ref vr, .int (nI 0)])), (vr, .inl (cA, len, .inl (fun _ => 0))), (c0, .inr (1, [.ref r0, .int (nI 0), .int (nI 0)])), (r0, .inl (cA, 4096, .inl (fun _ => 0))), (c1, .inr (1, [.ref r1, .int (nI 0), .int (nI 0)])), (r1, .inl (cA, 4096, .inl (fun _ => 0))), (fr, .inl (cA, 4, .inl (fun _ => 0)))] H := hP
  have hD : va_D A [(x, .inr (2, [.int (nI len), .ref t, .ref v, .ref c0, .ref c1, .null])), (t, .inr (0, [.ref tr, .int (nI 0)])), (tr, .inl (cA, 1024, .inl (fun _ => 0))), (v, .inr (0, [.ref vr, .int (nI 0)])), (vr, .inl (cA, len, .inl (fun _ => 0))), (c0, .inr (1, [.ref r0, .int (nI 0), .int (nI 0)])), (r0, .inl (cA, 4096, .inl (fun _ => 0))), (c1, .inr (1, [.ref r1, .int (nI 0), .int (nI 0)])), (r1, .inl (cA, 4096, .inl (fun _ => 0))), (fr, .inl (cA, 4, .inl (fun _ => 0)))] := hD
  refine va_putF (D := D) (ci := 2) (v := .ref fr) (ty := (.array .int)) hx hb hts iX2 tyX2 tyX2_ok nmX2 hown hK hP hD hS 0 rfl rfl 5 (by decide) lk44 (fun _ h => h) rfl hin rfl (by decide +kernel) rfl rfl (Nat.le_of_ble_eq_true rfl) dX2_init_75 (fun H locs hP hD hS => ?_)
  have hP : va_P D vwCl [(x, .inr (2, [.int (nI len), .ref t, .ref v, .ref c0, .ref c1, .ref fr])), (t, .inr (0, [.ref tr, .int (nI 0)])), (tr, .inl (cA, 1024, .inl (fun _ => 0))), (v, .inr (0, [.ref vr, .int (nI 0)])), (vr, .inl (cA, len, .inl (fun _ => 0))), (c0, .inr (1, [.ref r0, .int (nI 0), .int (nI 0)])), (r0, .inl (cA, 4096, .inl (fun _ => 0))), (c1, .inr (1, [.ref r1, .int (nI 0), .int (nI 0)])), (r1, .inl (cA, 4096, .inl (fun _ => 0))), (fr, .inl (cA, 4, .inl (fun _ => 0)))] H := hP
  have hD : va_D A [(x, .inr (2, [.int (nI len), .ref t, .ref v, .ref c0, .ref c1, .ref fr])), (t, .inr (0, [.ref tr, .int (nI 0)])), (tr, .inl (cA, 1024, .inl (fun _ => 0))), (v, .inr (0, [.ref vr, .int (nI 0)])), (vr, .inl (cA, len, .inl (fun _ => 0))), (c0, .inr (1, [.ref r0, .int (nI 0), .int (nI 0)])), (r0, .inl (cA, 4096, .inl (fun _ => 0))), (c1, .inr (1, [.ref r1, .int (nI 0), .int (nI 0)])), (r1, .inl (cA, 4096, .inl (fun _ => 0))), (fr, .inl (cA, 4, .inl (fun _ => 0)))] := hD
  subst hlen
  exact hex _ _ _ _ (t, tr, v, vr, c0, r0, c1, r1, fr) hS (trivial) hP hD dX2_init_78
end
section
abbrev cX3_leave : ByteArray := prog_5_method_10_code
def yX3_leave : MethodName := ⟨RX3, "leave", "(II)V"⟩
abbrev cX3_byteAt : ByteArray := prog_5_method_12_code
def yX3_byteAt : MethodName := ⟨RX3, "byteAt", "(I)I"⟩
abbrev cX3_waiting : ByteArray := prog_5_method_13_code
def yX3_waiting : MethodName := ⟨RX3, "waiting", "(I)I"⟩
abbrev cX3_count : ByteArray := prog_5_method_14_code
def yX3_count : MethodName := ⟨RX3, "count", "(I)I"⟩
theorem dX3_leave_0 : decode cX3_leave 0 = .ok (.aload_n 0, 1) := by decide +kernel
theorem dX3_leave_1 : decode cX3_leave 1 = .ok (.getfield 20, 3) := by decide +kernel
theorem dX3_leave_4 : decode cX3_leave 4 = .ok (.iload_n 1, 1) := by decide +kernel
theorem dX3_leave_5 : decode cX3_leave 5 = .ok (.dup2, 1) := by decide +kernel
theorem dX3_leave_6 : decode cX3_leave 6 = .ok (.iaload, 1) := by decide +kernel
theorem dX3_leave_7 : decode cX3_leave 7 = .ok (.iload_n 2, 1) := by decide +kernel
theorem dX3_leave_8 : decode cX3_leave 8 = .ok (.isub, 1) := by decide +kernel
theorem dX3_leave_9 : decode cX3_leave 9 = .ok (.iastore, 1) := by decide +kernel
theorem dX3_leave_10 : decode cX3_leave 10 = .ok (.sipush 4200, 3) := by decide +kernel
theorem dX3_leave_13 : decode cX3_leave 13 = .ok (.iload_n 1, 1) := by decide +kernel
theorem dX3_leave_14 : decode cX3_leave 14 = .ok (.imul, 1) := by decide +kernel
theorem dX3_leave_15 : decode cX3_leave 15 = .ok (.istore_n 3, 1) := by decide +kernel
theorem dX3_leave_16 : decode cX3_leave 16 = .ok (.iload_n 3, 1) := by decide +kernel
theorem dX3_leave_17 : decode cX3_leave 17 = .ok (.sipush 4200, 3) := by decide +kernel
theorem dX3_leave_20 : decode cX3_leave 20 = .ok (.iload_n 1, 1) := by decide +kernel
theorem dX3_leave_21 : decode cX3_leave 21 = .ok (.imul, 1) := by decide +kernel
theorem dX3_leave_22 : decode cX3_leave 22 = .ok (.aload_n 0, 1) := by decide +kernel
theorem dX3_leave_23 : decode cX3_leave 23 = .ok (.getfield 20, 3) := by decide +kernel
theorem dX3_leave_26 : decode cX3_leave 26 = .ok (.iload_n 1, 1) := by decide +kernel
theorem dX3_leave_27 : decode cX3_leave 27 = .ok (.iaload, 1) := by decide +kernel
theorem dX3_leave_28 : decode cX3_leave 28 = .ok (.iadd, 1) := by decide +kernel
theorem dX3_leave_29 : decode cX3_leave 29 = .ok (.if_icmp .ge 37, 3) := by decide +kernel
theorem dX3_leave_32 : decode cX3_leave 32 = .ok (.aload_n 0, 1) := by decide +kernel
theorem dX3_leave_33 : decode cX3_leave 33 = .ok (.getfield 13, 3) := by decide +kernel
theorem dX3_leave_36 : decode cX3_leave 36 = .ok (.iload_n 3, 1) := by decide +kernel
theorem dX3_leave_37 : decode cX3_leave 37 = .ok (.aload_n 0, 1) := by decide +kernel
theorem dX3_leave_38 : decode cX3_leave 38 = .ok (.getfield 13, 3) := by decide +kernel
theorem dX3_leave_41 : decode cX3_leave 41 = .ok (.iload_n 3, 1) := by decide +kernel
theorem dX3_leave_42 : decode cX3_leave 42 = .ok (.iload_n 2, 1) := by decide +kernel
theorem dX3_leave_43 : decode cX3_leave 43 = .ok (.iadd, 1) := by decide +kernel
theorem dX3_leave_44 : decode cX3_leave 44 = .ok (.baload, 1) := by decide +kernel
theorem dX3_leave_45 : decode cX3_leave 45 = .ok (.bastore, 1) := by decide +kernel
theorem dX3_leave_46 : decode cX3_leave 46 = .ok (.aload_n 0, 1) := by decide +kernel
theorem dX3_leave_47 : decode cX3_leave 47 = .ok (.getfield 16, 3) := by decide +kernel
theorem dX3_leave_50 : decode cX3_leave 50 = .ok (.iload_n 3, 1) := by decide +kernel
theorem dX3_leave_51 : decode cX3_leave 51 = .ok (.aload_n 0, 1) := by decide +kernel
theorem dX3_leave_52 : decode cX3_leave 52 = .ok (.getfield 16, 3) := by decide +kernel
theorem dX3_leave_55 : decode cX3_leave 55 = .ok (.iload_n 3, 1) := by decide +kernel
theorem dX3_leave_56 : decode cX3_leave 56 = .ok (.iload_n 2, 1) := by decide +kernel
theorem dX3_leave_57 : decode cX3_leave 57 = .ok (.iadd, 1) := by decide +kernel
theorem dX3_leave_58 : decode cX3_leave 58 = .ok (.baload, 1) := by decide +kernel
theorem dX3_leave_59 : decode cX3_leave 59 = .ok (.bastore, 1) := by decide +kernel
theorem dX3_leave_60 : decode cX3_leave 60 = .ok (.iinc 3 1, 3) := by decide +kernel
theorem dX3_leave_63 : decode cX3_leave 63 = .ok (.goto (-47), 3) := by decide +kernel
theorem dX3_leave_66 : decode cX3_leave 66 = .ok (.return_, 1) := by decide +kernel
theorem dX3_byteAt_0 : decode cX3_byteAt 0 = .ok (.aload_n 0, 1) := by decide +kernel
theorem dX3_byteAt_1 : decode cX3_byteAt 1 = .ok (.iconst 0, 1) := by decide +kernel
theorem dX3_byteAt_2 : decode cX3_byteAt 2 = .ok (.putfield 34, 3) := by decide +kernel
theorem dX3_byteAt_5 : decode cX3_byteAt 5 = .ok (.iload_n 1, 1) := by decide +kernel
theorem dX3_byteAt_6 : decode cX3_byteAt 6 = .ok (.ifCond .lt 24, 3) := by decide +kernel
theorem dX3_byteAt_9 : decode cX3_byteAt 9 = .ok (.iload_n 1, 1) := by decide +kernel
theorem dX3_byteAt_10 : decode cX3_byteAt 10 = .ok (.aload_n 0, 1) := by decide +kernel
theorem dX3_byteAt_11 : decode cX3_byteAt 11 = .ok (.getfield 44, 3) := by decide +kernel
theorem dX3_byteAt_14 : decode cX3_byteAt 14 = .ok (.if_icmp .ge 16, 3) := by decide +kernel
theorem dX3_byteAt_17 : decode cX3_byteAt 17 = .ok (.aload_n 0, 1) := by decide +kernel
theorem dX3_byteAt_18 : decode cX3_byteAt 18 = .ok (.getfield 27, 3) := by decide +kernel
theorem dX3_byteAt_21 : decode cX3_byteAt 21 = .ok (.iload_n 1, 1) := by decide +kernel
theorem dX3_byteAt_22 : decode cX3_byteAt 22 = .ok (.baload, 1) := by decide +kernel
theorem dX3_byteAt_23 : decode cX3_byteAt 23 = .ok (.sipush 255, 3) := by decide +kernel
theorem dX3_byteAt_26 : decode cX3_byteAt 26 = .ok (.iand, 1) := by decide +kernel
theorem dX3_byteAt_27 : decode cX3_byteAt 27 = .ok (.goto 4, 3) := by decide +kernel
theorem dX3_byteAt_30 : decode cX3_byteAt 30 = .ok (.iconst (-1), 1) := by decide +kernel
theorem dX3_byteAt_31 : decode cX3_byteAt 31 = .ok (.ireturn, 1) := by decide +kernel
theorem dX3_waiting_0 : decode cX3_waiting 0 = .ok (.aload_n 0, 1) := by decide +kernel
theorem dX3_waiting_1 : decode cX3_waiting 1 = .ok (.iconst 0, 1) := by decide +kernel
theorem dX3_waiting_2 : decode cX3_waiting 2 = .ok (.putfield 34, 3) := by decide +kernel
theorem dX3_waiting_5 : decode cX3_waiting 5 = .ok (.iload_n 1, 1) := by decide +kernel
theorem dX3_waiting_6 : decode cX3_waiting 6 = .ok (.ifCond .eq 8, 3) := by decide +kernel
theorem dX3_waiting_9 : decode cX3_waiting 9 = .ok (.iload_n 1, 1) := by decide +kernel
theorem dX3_waiting_10 : decode cX3_waiting 10 = .ok (.iconst 1, 1) := by decide +kernel
theorem dX3_waiting_11 : decode cX3_waiting 11 = .ok (.if_icmp .ne 12, 3) := by decide +kernel
theorem dX3_waiting_14 : decode cX3_waiting 14 = .ok (.aload_n 0, 1) := by decide +kernel
theorem dX3_waiting_15 : decode cX3_waiting 15 = .ok (.getfield 20, 3) := by decide +kernel
theorem dX3_waiting_18 : decode cX3_waiting 18 = .ok (.iload_n 1, 1) := by decide +kernel
theorem dX3_waiting_19 : decode cX3_waiting 19 = .ok (.iaload, 1) := by decide +kernel
theorem dX3_waiting_20 : decode cX3_waiting 20 = .ok (.goto 4, 3) := by decide +kernel
theorem dX3_waiting_23 : decode cX3_waiting 23 = .ok (.iconst (-1), 1) := by decide +kernel
theorem dX3_waiting_24 : decode cX3_waiting 24 = .ok (.ireturn, 1) := by decide +kernel
theorem dX3_count_0 : decode cX3_count 0 = .ok (.aload_n 0, 1) := by decide +kernel
theorem dX3_count_1 : decode cX3_count 1 = .ok (.iconst 0, 1) := by decide +kernel
theorem dX3_count_2 : decode cX3_count 2 = .ok (.putfield 34, 3) := by decide +kernel
theorem dX3_count_5 : decode cX3_count 5 = .ok (.iload_n 1, 1) := by decide +kernel
theorem dX3_count_6 : decode cX3_count 6 = .ok (.ifCond .lt 17, 3) := by decide +kernel
theorem dX3_count_9 : decode cX3_count 9 = .ok (.iload_n 1, 1) := by decide +kernel
theorem dX3_count_10 : decode cX3_count 10 = .ok (.iconst 4, 1) := by decide +kernel
theorem dX3_count_11 : decode cX3_count 11 = .ok (.if_icmp .ge 12, 3) := by decide +kernel
theorem dX3_count_14 : decode cX3_count 14 = .ok (.aload_n 0, 1) := by decide +kernel
theorem dX3_count_15 : decode cX3_count 15 = .ok (.getfield 24, 3) := by decide +kernel
theorem dX3_count_18 : decode cX3_count 18 = .ok (.iload_n 1, 1) := by decide +kernel
theorem dX3_count_19 : decode cX3_count 19 = .ok (.iaload, 1) := by decide +kernel
theorem dX3_count_20 : decode cX3_count 20 = .ok (.goto 28, 3) := by decide +kernel
theorem dX3_count_23 : decode cX3_count 23 = .ok (.iload_n 1, 1) := by decide +kernel
theorem dX3_count_24 : decode cX3_count 24 = .ok (.iconst 4, 1) := by decide +kernel
theorem dX3_count_25 : decode cX3_count 25 = .ok (.if_icmp .ne 10, 3) := by decide +kernel
theorem dX3_count_28 : decode cX3_count 28 = .ok (.aload_n 0, 1) := by decide +kernel
theorem dX3_count_29 : decode cX3_count 29 = .ok (.getfield 37, 3) := by decide +kernel
theorem dX3_count_32 : decode cX3_count 32 = .ok (.goto 16, 3) := by decide +kernel
theorem dX3_count_35 : decode cX3_count 35 = .ok (.iload_n 1, 1) := by decide +kernel
theorem dX3_count_36 : decode cX3_count 36 = .ok (.iconst 5, 1) := by decide +kernel
theorem dX3_count_37 : decode cX3_count 37 = .ok (.if_icmp .ne 10, 3) := by decide +kernel
theorem dX3_count_40 : decode cX3_count 40 = .ok (.aload_n 0, 1) := by decide +kernel
theorem dX3_count_41 : decode cX3_count 41 = .ok (.getfield 30, 3) := by decide +kernel
theorem dX3_count_44 : decode cX3_count 44 = .ok (.goto 4, 3) := by decide +kernel
theorem dX3_count_47 : decode cX3_count 47 = .ok (.iconst (-1), 1) := by decide +kernel
theorem dX3_count_48 : decode cX3_count 48 = .ok (.ireturn, 1) := by decide +kernel
def wsMall : List Cond := [Cond.methodLink RX3 1 objectInit, Cond.instanceMethod objectInit, Cond.code objectInit ⟨#[0xb1]⟩ 1 none, Cond.arrayClass .byte, Cond.arrayClass .boolean, Cond.arrayClass .int, Cond.fieldLink RX3 7 "DownFramesModel" "tape" "[B", Cond.fieldLink RX3 13 "DownFramesModel" "bytes" "[B", Cond.fieldLink RX3 16 "DownFramesModel" "begins" "[Z", Cond.fieldLink RX3 20 "DownFramesModel" "waits" "[I", Cond.fieldLink RX3 24 "DownFramesModel" "frames" "[I", Cond.fieldLink RX3 27 "DownFramesModel" "frame" "[B", Cond.fieldLink RX3 30 "DownFramesModel" "length" "I", Cond.fieldLink RX3 34 "DownFramesModel" "thrown" "I", Cond.fieldLink RX3 37 "DownFramesModel" "many" "I", Cond.fieldLink RX3 44 "DownFramesModel" "filled" "I", Cond.constant RX3 47 (65535), Cond.constant RX3 48 (65536), Cond.constant RX3 49 (69665), Cond.initialized RX3, Cond.methodLink RX3 40 yX3_wait, Cond.instanceMethod yX3_wait, Cond.selects RX3 yX3_wait yX3_wait, Cond.code yX3_wait cX3_wait 4 none, Cond.methodLink RX3 50 yX3_fills, Cond.instanceMethod yX3_fills, Cond.selects RX3 yX3_fills yX3_fills, Cond.code yX3_fills cX3_fills 5 none, Cond.methodLink RX3 54 yX3_first, Cond.instanceMethod yX3_first, Cond.selects RX3 yX3_first yX3_first, Cond.code yX3_first cX3_first 4 (some .int), Cond.methodLink RX3 58 yX3_add, Cond.instanceMethod yX3_add, Cond.selects RX3 yX3_add yX3_add, Cond.code yX3_add cX3_add 2 none, Cond.methodLink RX3 62 yX3_check, Cond.instanceMethod yX3_check, Cond.selects RX3 yX3_check yX3_check, Cond.code yX3_check cX3_check 4 (some .int), Cond.methodLink RX3 66 yX3_leave, Cond.instanceMethod yX3_leave, Cond.selects RX3 yX3_leave yX3_leave, Cond.code yX3_leave cX3_leave 4 none] ++ wsX30
theorem wsMall_good : wsMall.all goodWord = true := by decide +kernel
def wsM_init : List Cond := .code yX3_init cX3_init 2 none :: wsMall
def wsM_give : List Cond := .code yX3_give cX3_give 5 (some .boolean) :: wsMall
def wsM_wait : List Cond := .code yX3_wait cX3_wait 4 none :: wsMall
def wsM_send : List Cond := .code yX3_send cX3_send 5 (some .int) :: wsMall
def wsM_add : List Cond := .code yX3_add cX3_add 2 none :: wsMall
def wsM_check : List Cond := .code yX3_check cX3_check 4 (some .int) :: wsMall
def wsM_fills : List Cond := .code yX3_fills cX3_fills 5 none :: wsMall
def wsM_first : List Cond := .code yX3_first cX3_first 4 (some .int) :: wsMall
def wsM_leave : List Cond := .code yX3_leave cX3_leave 4 none :: wsMall
def wsM_frame : List Cond := .code yX3_frame cX3_frame 7 (some .int) :: wsMall
def wsM_byteAt : List Cond := .code yX3_byteAt cX3_byteAt 2 (some .int) :: wsMall
def wsM_waiting : List Cond := .code yX3_waiting cX3_waiting 2 (some .int) :: wsMall
def wsM_count : List Cond := .code yX3_count cX3_count 2 (some .int) :: wsMall
theorem gm {a b : Cond} {L : List Cond} (hb : b ∈ wsMall) (hL : ∀ w ∈ L, w ∈ wsMall) : GoodIn (a :: wsMall) (L ++ (b :: wsMall)) := by
  have hs : ∀ w ∈ L ++ (b :: wsMall), w ∈ wsMall := fun w h => (List.mem_append.mp h).elim (hL w) (fun h => (List.mem_cons.mp h).elim (fun e => by rw [e]; exact hb) id)
  exact fun w h => ⟨List.mem_cons_of_mem _ (hs w h), good_of_word (List.all_eq_true.mp wsMall_good w (hs w h))⟩
theorem gM_wait (a : Cond) : GoodIn (a :: wsMall) (wsV RX3 40 RX3 yX3_wait wsM_wait) := gm (List.mem_of_getElem? (i := 23) rfl) (by decide +kernel)
theorem gM_fills (a : Cond) : GoodIn (a :: wsMall) (wsV RX3 50 RX3 yX3_fills wsM_fills) := gm (List.mem_of_getElem? (i := 27) rfl) (by decide +kernel)
theorem gM_first (a : Cond) : GoodIn (a :: wsMall) (wsV RX3 54 RX3 yX3_first wsM_first) := gm (List.mem_of_getElem? (i := 31) rfl) (by decide +kernel)
theorem gM_add (a : Cond) : GoodIn (a :: wsMall) (wsV RX3 58 RX3 yX3_add wsM_add) := gm (List.mem_of_getElem? (i := 35) rfl) (by decide +kernel)
theorem gM_check (a : Cond) : GoodIn (a :: wsMall) (wsV RX3 62 RX3 yX3_check wsM_check) := gm (List.mem_of_getElem? (i := 39) rfl) (by decide +kernel)
theorem gM_leave (a : Cond) : GoodIn (a :: wsMall) (wsV RX3 66 RX3 yX3_leave wsM_leave) := gm (List.mem_of_getElem? (i := 43) rfl) (by decide +kernel)
set_option maxRecDepth 20000 in
theorem gLM_give : GoodIn lw_tbl (wsV RL 27 RX3 yX3_give wsM_give) := goodIn_p _ [220, 23, 228, 236, 240, 244, 248, 255] (by decide +kernel) (by decide +kernel)
set_option maxRecDepth 20000 in
theorem gLM_send : GoodIn lw_tbl (wsV RL 32 RX3 yX3_send wsM_send) := goodIn_p _ [224, 23, 228, 236, 240, 244, 248, 255] (by decide +kernel) (by decide +kernel)
set_option maxRecDepth 20000 in
theorem gLM_frame : GoodIn lw_tbl (wsV RL 36 RX3 yX3_frame wsM_frame) := goodIn_p _ [232, 23, 228, 236, 240, 244, 248, 255] (by decide +kernel) (by decide +kernel)
set_option maxRecDepth 20000 in
theorem gLM_byteAt : GoodIn lw_tbl (wsV RL 40 RX3 yX3_byteAt wsM_byteAt) := goodIn_p _ [259, 23, 228, 236, 240, 244, 248, 255] (by decide +kernel) (by decide +kernel)
set_option maxRecDepth 20000 in
theorem gLM_waiting : GoodIn lw_tbl (wsV RL 44 RX3 yX3_waiting wsM_waiting) := goodIn_p _ [263, 23, 228, 236, 240, 244, 248, 255] (by decide +kernel) (by decide +kernel)
set_option maxRecDepth 20000 in
theorem gLM_count : GoodIn lw_tbl (wsV RL 48 RX3 yX3_count wsM_count) := goodIn_p _ [267, 23, 228, 236, 240, 244, 248, 255] (by decide +kernel) (by decide +kernel)
set_option maxRecDepth 20000 in
theorem gLM_init : GoodIn lw_tbl wsM_init := goodIn_p _ [182, 23, 228, 236, 240, 244, 248, 255] (by decide +kernel) (by decide +kernel)
-- bytes and booleans in arrays
abbrev i8 (x : Int32) : Int32 := x.toInt8.toInt32
abbrev lsa (x : Int64) (y : Int32) : Int64 := x >>> (y.toInt64 &&& 63)
section AB
variable {p : Program} {l : Launch} {e : Env} {R : Room} {s : State} {m : MethodId} {args : Array Value} {below : List Frame} {meth : Method} {c : Code} {H : Heap} {locs : List Loc} {cells slots : Nat} {Q : State → Prop}
variable {cc : ByteArray} {pc : Nat} {ls : Array Slot} {rest : List Value} {D : va_G} {A : Nat → Prop} {ty : List (ClassId × FieldType)} {ws : va_W} {H0 : Heap}
theorem al_b {a : Nat} (hx : p.tables.exec = Jvm.exec) (hb : c.code = cc) (hK : va_K D vwCl ty s) (hP : va_P D vwCl ws H) (q0 t0 : Nat) {cA : ClassId} {n k : Nat} {f : Nat → Int32} (ha : ws[q0]? = some (a, .inl (cA, n, .inl f))) (ht : ty[t0]? = some (cA, .byte)) (hk : k < n) (hn : n < 2 ^ 31) (hdg : decode cc pc = .ok (.baload, 1))
    (kk : W p l e R s m args below meth c H locs cells slots Q (F0 m (pc + 1) ls (.int (f k) :: rest))) : W p l e R s m args below meth c H locs cells slots Q (F0 m pc ls (.int (nI k) :: .ref a :: rest)) := by
  refine va_bald hx hb hK hP q0 t0 ha ht (vp_in_nI hk hn) hdg ?_
  rw [nI_clamp (by omega)]
  exact kk
theorem al_z {a : Nat} (hx : p.tables.exec = Jvm.exec) (hb : c.code = cc) (hK : va_K D vwCl ty s) (hP : va_P D vwCl ws H) (q0 t0 : Nat) {cA : ClassId} {n k : Nat} {f : Nat → Int32} (ha : ws[q0]? = some (a, .inl (cA, n, .inl f))) (ht : ty[t0]? = some (cA, .boolean)) (hk : k < n) (hn : n < 2 ^ 31) (hdg : decode cc pc = .ok (.baload, 1))
    (kk : W p l e R s m args below meth c H locs cells slots Q (F0 m (pc + 1) ls (.int (f k) :: rest))) : W p l e R s m args below meth c H locs cells slots Q (F0 m pc ls (.int (nI k) :: .ref a :: rest)) := by
  refine va_zald hx hb hK hP q0 t0 ha ht (vp_in_nI hk hn) hdg ?_
  rw [nI_clamp (by omega)]
  exact kk
theorem as_b {a : Nat} (hx : p.tables.exec = Jvm.exec) (hb : c.code = cc) (hK : va_K D vwCl ty s) (hP : va_P D vwCl ws H) (hD : va_D A ws) (hS : va_S A H0 H locs) (q0 t0 : Nat) {cA : ClassId} {n k : Nat} {f : Nat → Int32} {x : Int32} (ha : ws[q0]? = some (a, .inl (cA, n, .inl f))) (ht : ty[t0]? = some (cA, .byte)) (hk : k < n) (hn : n < 2 ^ 31) (hdg : decode cc pc = .ok (.bastore, 1))
    (kk : ∀ (H1 : Heap) (locs1 : List Loc), va_P D vwCl (ws.set q0 (a, .inl (cA, n, .inl (upd f k (i8 x))))) H1 → va_D A (ws.set q0 (a, .inl (cA, n, .inl (upd f k (i8 x))))) → va_S A H0 H1 locs1 → W p l e R s m args below meth c H1 locs1 cells slots Q (F0 m (pc + 1) ls rest)) : W p l e R s m args below meth c H locs cells slots Q (F0 m pc ls (.int x :: .int (nI k) :: .ref a :: rest)) := by
  refine va_bast hx hb hK hP hD hS q0 t0 ha ht (vp_in_nI hk hn) hdg (fun H1 locs1 h1 h2 h3 => ?_)
  rw [nI_clamp (by omega)] at h1 h2
  exact kk H1 locs1 h1 h2 h3
/-- the same behind i2b -/
theorem as_b8 {a : Nat} (hx : p.tables.exec = Jvm.exec) (hb : c.code = cc) (hK : va_K D vwCl ty s) (hP : va_P D vwCl ws H) (hD : va_D A ws) (hS : va_S A H0 H locs) (q0 t0 : Nat) {cA : ClassId} {n k : Nat} {f : Nat → Int32} {x : Int32} (ha : ws[q0]? = some (a, .inl (cA, n, .inl f))) (ht : ty[t0]? = some (cA, .byte)) (hk : k < n) (hn : n < 2 ^ 31) (hdg : decode cc pc = .ok (.bastore, 1))
    (kk : ∀ (H1 : Heap) (locs1 : List Loc), va_P D vwCl (ws.set q0 (a, .inl (cA, n, .inl (upd f k (i8 x))))) H1 → va_D A (ws.set q0 (a, .inl (cA, n, .inl (upd f k (i8 x))))) → va_S A H0 H1 locs1 → W p l e R s m args below meth c H1 locs1 cells slots Q (F0 m (pc + 1) ls rest)) : W p l e R s m args below meth c H locs cells slots Q (F0 m pc ls (.int (i8 x) :: .int (nI k) :: .ref a :: rest)) := by
  refine as_b hx hb hK hP hD hS q0 t0 ha ht hk hn hdg (fun H1 locs1 h1 h2 h3 => ?_)
  have e : i8 (i8 x) = i8 x := pk_vb x
  rw [e] at h1 h2
  exact kk H1 locs1 h1 h2 h3
theorem as_z {a : Nat} (hx : p.tables.exec = Jvm.exec) (hb : c.code = cc) (hK : va_K D vwCl ty s) (hP : va_P D vwCl ws H) (hD : va_D A ws) (hS : va_S A H0 H locs) (q0 t0 : Nat) {cA : ClassId} {n k : Nat} {f : Nat → Int32} {x : Int32} (ha : ws[q0]? = some (a, .inl (cA, n, .inl f))) (ht : ty[t0]? = some (cA, .boolean)) (hk : k < n) (hn : n < 2 ^ 31) (hdg : decode cc pc = .ok (.bastore, 1))
    (kk : ∀ (H1 : Heap) (locs1 : List Loc), va_P D vwCl (ws.set q0 (a, .inl (cA, n, .inl (upd f k (x &&& 1))))) H1 → va_D A (ws.set q0 (a, .inl (cA, n, .inl (upd f k (x &&& 1))))) → va_S A H0 H1 locs1 → W p l e R s m args below meth c H1 locs1 cells slots Q (F0 m (pc + 1) ls rest)) : W p l e R s m args below meth c H locs cells slots Q (F0 m pc ls (.int x :: .int (nI k) :: .ref a :: rest)) := by
  refine va_zast hx hb hK hP hD hS q0 t0 ha ht (vp_in_nI hk hn) hdg (fun H1 locs1 h1 h2 h3 => ?_)
  rw [nI_clamp (by omega)] at h1 h2
  exact kk H1 locs1 h1 h2 h3
theorem nw_p {at0 : ArrayType} {ft : FieldType} (hx : p.tables.exec = Jvm.exec) (hb : c.code = cc) (hft : newarray.typeOf at0 = ft) (harr : (Cond.arrayClass (newarray.typeOf at0)).before args s = true) (hdef : defaultValue ft = .int 0) (hkind : ∀ cA, va_RA s cA ft → s.vm.findClass ("[" ++ ft.toString) = some cA) (hK : va_K D vwCl ty s) (t0 : Nat) {cA : ClassId} (ht : ty[t0]? = some (cA, ft)) (hP : va_P D vwCl ws H) (hD : va_D A ws) (hS : va_S A H0 H locs) (hA : ∀ q, H0.size ≤ q → A q) {n : Nat} (hn : n < 2 ^ 27) (hcb : n * componentBytes ft ≤ 536870912) (hcells : cells + 1 ≤ R.cells) (hslots : slots + n ≤ R.slots) (hdg : decode cc pc = .ok (.newarray at0, 2))
    (kk : ∀ (q : Nat) (H1 : Heap), va_P D vwCl (ws ++ [(q, .inl (cA, n, .inl (fun _ => 0)))]) H1 → va_D A (ws ++ [(q, .inl (cA, n, .inl (fun _ => 0)))]) → va_S A H0 H1 locs → W p l e R s m args below meth c H1 locs (cells + 1) (slots + n) Q (F0 m (pc + 2) ls (.ref q :: rest))) : W p l e R s m args below meth c H locs cells slots Q (F0 m pc ls (.int (nI n) :: rest)) := by
  refine va_newa (atype := at0) (a0 := (n, .inl (fun _ => 0))) hx hb harr (ty := ft) hft hK hP hD hS hA (fun cA => by rw [hdef]; rfl) (nI_pos (by omega)) (nI_clamp (by omega)) hcb hcells hslots hdg (fun q cB H1 hK1 hP1 hD1 hS1 => ?_)
  have e1 := hkind _ (hK.2 t0 _ ht).2
  have e2 := hkind _ (hK1.2 ty.length (cB, ft) (by simp)).2
  have e3 : cB = cA := Option.some.inj (e2.symm.trans e1)
  subst e3
  exact kk q H1 hP1 hD1 hS1
end AB
-- pure words of the reference
/-- how many wait, as ints -/
def wI (ww : Nat → Nat) : Nat → Int32 := fun j => nI (ww j)
theorem wI_upd (ww : Nat → Nat) (c k : Nat) : upd (wI ww) c (nI k) = wI (va_up ww c k) := by
  funext j
  unfold wI upd va_up
  by_cases h : j = c
  · subst h; simp
  · simp [h]
def crSM (c : Int32) : Int32 := if 2 * c < 65536 then 2 * c else (2 * c) ^^^ 69665
def crBM : Nat → Int32 → Int32
  | 0, c => c
  | n + 1, c => crBM n (crSM c)
def crcM (f : Nat → Int32) : Nat → Int32
  | 0 => 65535
  | i + 1 => crBM 8 (crcM f i ^^^ ((f i &&& 255) * 256))
def fbM (f : Nat → Int32) (s : Nat) : Nat → Nat → Int32
  | 0, _ => 2047
  | n + 1, i => if f (s + i) = 0 then fbM f s n (i + 1) else nI i
/-- an empty packet's bytes and marks, as the reference writes them -/
def emb (L : Nat) (i : Nat) : Int32 := i8 (if i = 0 then 7 else if i = 1 then 255 else if i = 2 then 192 else if i = 3 then 0 else if i = 4 then nI (L - 7) / 256 else if i = 5 then nI (L - 7) else 85)
def emz (i : Nat) : Int32 := if i = 0 then 1 else 0
theorem emb_85 (L i : Nat) (h : 6 ≤ i) : emb L i = i8 85 := by
  unfold emb
  rw [if_neg (by omega), if_neg (by omega), if_neg (by omega), if_neg (by omega), if_neg (by omega), if_neg (by omega)]
theorem emz_0 (i : Nat) (h : 1 ≤ i) : emz i = 0 := by unfold emz; rw [if_neg (by omega)]
/-- the i-th byte of w -/
def gvm (w : Int64) (i : Nat) : Int32 := i8 (lsa w (56 - (8 * nI i))).toInt32
end
section
set_option maxHeartbeats 4000000 in
set_option maxRecDepth 100000 in
/-- wait(ch, b, first) -/
theorem c_m_wait (l : Launch) (D : va_G) (cA cB cZ : ClassId) (y len tp bb zz wa fs fm mk fk : Nat) (bf zf : Nat → Int32) (ww : Nat → Nat) (ch w : Nat) (x z : Int32) (hc : ch < 2) (hw : ww ch = w) (hw2 : w < 4200) : MV0 l yX3_wait wsM_wait { frames := 0, cells := 0, slots := 0, locals := 0 } [.ref y, .int (nI ch), .int x, .int z] D [(cA, .int), (cB, .byte), (cZ, .boolean)] [(y, .inr (3, [.int 0, .int (nI len), .ref tp, .int (nI mk), .ref bb, .ref zz, .ref wa, .ref fs, .ref fm, .int (nI fk)])), (bb, .inl (cB, 8400, .inl bf)), (zz, .inl (cZ, 8400, .inl zf)), (wa, .inl (cA, 2, .inl (wI ww)))] [(y, .inr (3, [.int 0, .int (nI len), .ref tp, .int (nI mk), .ref bb, .ref zz, .ref wa, .ref fs, .ref fm, .int (nI fk)])), (bb, .inl (cB, 8400, .inl (upd bf (4200 * ch + w) (i8 x)))), (zz, .inl (cZ, 8400, .inl (upd zf (4200 * ch + w) (z &&& 1)))), (wa, .inl (cA, 2, .inl (wI (va_up ww ch (w + 1)))))] := by
  refine mt_v (by decide) rfl (Nat.le_of_ble_eq_true rfl) ?_
  intro p e s m below meth c A ls Q hx hb hts hown hml hin hN hK hA hP hD hS hl hex
  have hown : s.vm.findClass RX3 = some m.cls := hown
  have hl : lv_has ls 4 [(0, .ref y), (1, .int (nI ch)), (2, .int x), (3, .int z)] := hl
  have iX3 : ∀ w ∈ wsX30, w ∈ wsM_wait := by decide +kernel
  have lk13 := hts (.fieldLink RX3 13 "DownFramesModel" "bytes" "[B") (by decide +kernel)
  have lk16 := hts (.fieldLink RX3 16 "DownFramesModel" "begins" "[Z") (by decide +kernel)
  have lk20 := hts (.fieldLink RX3 20 "DownFramesModel" "waits" "[I") (by decide +kernel)
  refine lv_aload_n hx hb dX3_wait_0 rfl (lv_at hl 0 rfl) ?_
  refine va_get (D := D) (ci := 3) (v := .ref bb) hx hb hts iX3 hown hK hP 0 rfl rfl 4 (by decide) lk13 (fun _ h => h) rfl dX3_wait_1 ?_
  refine lv_sipush (v := 4200) hx hb dX3_wait_4 (by decide +kernel) ?_
  refine lv_iload_n hx hb dX3_wait_7 rfl (lv_at hl 1 rfl) ?_
  refine lv_imul hx hb dX3_wait_8 ?_
  refine lv_aload_n hx hb dX3_wait_9 rfl (lv_at hl 0 rfl) ?_
  refine va_get (D := D) (ci := 3) (v := .ref wa) hx hb hts iX3 hown hK hP 0 rfl rfl 6 (by decide) lk20 (fun _ h => h) rfl dX3_wait_10 ?_
  refine lv_iload_n hx hb dX3_wait_13 rfl (lv_at hl 1 rfl) ?_
  refine al_i (k := ch) hx hb hK hP 3 0 rfl rfl (hc) (by decide) dX3_wait_14 ?_
  refine tp_i (y := nI w) (congrArg nI hw) ?_
  refine lv_iadd hx hb dX3_wait_15 ?_
  refine tp_i (y := nI (4200 * ch + w)) (by rw [show (4200 : Int32) = nI 4200 from rfl, pk_mul, nI_add]) ?_
  refine lv_iload_n hx hb dX3_wait_16 rfl (lv_at hl 2 rfl) ?_
  refine lv_i2b (v := i8 x) hx hb dX3_wait_17 rfl ?_
  refine as_b8 (k := (4200 * ch + w)) (x := x) hx hb hK hP hD hS 1 1 rfl rfl (by omega) (by decide) dX3_wait_18 (fun H locs hP hD hS => ?_)
  have hP : va_P D vwCl [(y, .inr (3, [.int 0, .int (nI len), .ref tp, .int (nI mk), .ref bb, .ref zz, .ref wa, .ref fs, .ref fm, .int (nI fk)])), (bb, .inl (cB, 8400, .inl (upd bf (4200 * ch + w) (i8 x)))), (zz, .inl (cZ, 8400, .inl zf)), (wa, .inl (cA, 2, .inl (wI ww)))] H := hP
  have hD : va_D A [(y, .inr (3, [.int 0, .int (nI len), .ref tp, .int (nI mk), .ref bb, .ref zz, .ref wa, .ref fs, .ref fm, .int (nI fk)])), (bb, .inl (cB, 8400, .inl (upd bf (4200 * ch + w) (i8 x)))), (zz, .inl (cZ, 8400, .inl zf)), (wa, .inl (cA, 2, .inl (wI ww)))] := hD
  refine lv_aload_n hx hb dX3_wait_19 rfl (lv_at hl 0 rfl) ?_
  refine va_get (D := D) (ci := 3) (v := .ref zz) hx hb hts iX3 hown hK hP 0 rfl rfl 5 (by decide) lk16 (fun _ h => h) rfl dX3_wait_20 ?_
  refine lv_sipush (v := 4200) hx hb dX3_wait_23 (by decide +kernel) ?_
  refine lv_iload_n hx hb dX3_wait_26 rfl (lv_at hl 1 rfl) ?_
  refine lv_imul hx hb dX3_wait_27 ?_
  refine lv_aload_n hx hb dX3_wait_28 rfl (lv_at hl 0 rfl) ?_
  refine va_get (D := D) (ci := 3) (v := .ref wa) hx hb hts iX3 hown hK hP 0 rfl rfl 6 (by decide) lk20 (fun _ h => h) rfl dX3_wait_29 ?_
  refine lv_iload_n hx hb dX3_wait_32 rfl (lv_at hl 1 rfl) ?_
  refine al_i (k := ch) hx hb hK hP 3 0 rfl rfl (hc) (by decide) dX3_wait_33 ?_
  refine tp_i (y := nI w) (congrArg nI hw) ?_
  refine lv_iadd hx hb dX3_wait_34 ?_
  refine tp_i (y := nI (4200 * ch + w)) (by rw [show (4200 : Int32) = nI 4200 from rfl, pk_mul, nI_add]) ?_
  refine lv_iload_n hx hb dX3_wait_35 rfl (lv_at hl 3 rfl) ?_
  refine as_z (k := (4200 * ch + w)) (x := z) hx hb hK hP hD hS 2 2 rfl rfl (by omega) (by decide) dX3_wait_36 (fun H locs hP hD hS => ?_)
  have hP : va_P D vwCl [(y, .inr (3, [.int 0, .int (nI len), .ref tp, .int (nI mk), .ref bb, .ref zz, .ref wa, .ref fs, .ref fm, .int (nI fk)])), (bb, .inl (cB, 8400, .inl (upd bf (4200 * ch + w) (i8 x)))), (zz, .inl (cZ, 8400, .inl (upd zf (4200 * ch + w) (z &&& 1)))), (wa, .inl (cA, 2, .inl (wI ww)))] H := hP
  have hD : va_D A [(y, .inr (3, [.int 0, .int (nI len), .ref tp, .int (nI mk), .ref bb, .ref zz, .ref wa, .ref fs, .ref fm, .int (nI fk)])), (bb, .inl (cB, 8400, .inl (upd bf (4200 * ch + w) (i8 x)))), (zz, .inl (cZ, 8400, .inl (upd zf (4200 * ch + w) (z &&& 1)))), (wa, .inl (cA, 2, .inl (wI ww)))] := hD
  refine lv_aload_n hx hb dX3_wait_37 rfl (lv_at hl 0 rfl) ?_
  refine va_get (D := D) (ci := 3) (v := .ref wa) hx hb hts iX3 hown hK hP 0 rfl rfl 6 (by decide) lk20 (fun _ h => h) rfl dX3_wait_38 ?_
  refine lv_iload_n hx hb dX3_wait_41 rfl (lv_at hl 1 rfl) ?_
  refine lv_dup2_11 hx hb dX3_wait_42 rfl rfl ?_
  refine al_i (k := ch) hx hb hK hP 3 0 rfl rfl (hc) (by decide) dX3_wait_43 ?_
  refine tp_i (y := nI w) (congrArg nI hw) ?_
  refine lv_iconst (v := 1) hx hb dX3_wait_44 (by decide) ?_
  refine lv_iadd hx hb dX3_wait_45 ?_
  refine tp_i (y := nI (w + 1)) (nI_1 w) ?_
  refine as_i (k := ch) (x := (nI (w + 1))) hx hb hK hP hD hS 3 0 rfl rfl (hc) (by decide) dX3_wait_46 (fun H locs hP hD hS => ?_)
  have hP : va_P D vwCl [(y, .inr (3, [.int 0, .int (nI len), .ref tp, .int (nI mk), .ref bb, .ref zz, .ref wa, .ref fs, .ref fm, .int (nI fk)])), (bb, .inl (cB, 8400, .inl (upd bf (4200 * ch + w) (i8 x)))), (zz, .inl (cZ, 8400, .inl (upd zf (4200 * ch + w) (z &&& 1)))), (wa, .inl (cA, 2, .inl (upd (wI ww) ch (nI (w + 1)))))] H := hP
  have hD : va_D A [(y, .inr (3, [.int 0, .int (nI len), .ref tp, .int (nI mk), .ref bb, .ref zz, .ref wa, .ref fs, .ref fm, .int (nI fk)])), (bb, .inl (cB, 8400, .inl (upd bf (4200 * ch + w) (i8 x)))), (zz, .inl (cZ, 8400, .inl (upd zf (4200 * ch + w) (z &&& 1)))), (wa, .inl (cA, 2, .inl (upd (wI ww) ch (nI (w + 1)))))] := hD
  rw [wI_upd] at hP hD
  exact hex _ _ _ _ () hS (trivial) hP hD dX3_wait_47

set_option maxHeartbeats 4000000 in
set_option maxRecDepth 100000 in
/-- fills(ch, n) -/
theorem c_m_fills (l : Launch) (D : va_G) (cA cB cZ : ClassId) (y len tp bb zz wa fs fm mk fk : Nat) (bf zf : Nat → Int32) (ww : Nat → Nat) (ch w n : Nat) (hc : ch < 2) (hw : ww ch = w) (hn : 7 ≤ n) (hw2 : w + n ≤ 4200) : MV0 l yX3_fills wsM_fills { frames := 1, cells := 0, slots := 0, locals := 23 } [.ref y, .int (nI ch), .int (nI n)] D [(cA, .int), (cB, .byte), (cZ, .boolean)] [(y, .inr (3, [.int 0, .int (nI len), .ref tp, .int (nI mk), .ref bb, .ref zz, .ref wa, .ref fs, .ref fm, .int (nI fk)])), (bb, .inl (cB, 8400, .inl bf)), (zz, .inl (cZ, 8400, .inl zf)), (wa, .inl (cA, 2, .inl (wI ww)))] [(y, .inr (3, [.int 0, .int (nI len), .ref tp, .int (nI mk), .ref bb, .ref zz, .ref wa, .ref fs, .ref fm, .int (nI fk)])), (bb, .inl (cB, 8400, .inl (lwr bf (4200 * ch + w) (emb n) n))), (zz, .inl (cZ, 8400, .inl (lwr zf (4200 * ch + w) emz n))), (wa, .inl (cA, 2, .inl (wI (va_up ww ch (w + n)))))] := by
  refine mt_v (by decide) rfl (Nat.le_of_ble_eq_true rfl) ?_
  intro p e s m below meth c A ls Q hx hb hts hown hml hin hN hK hA hP hD hS hl hex
  have hown : s.vm.findClass RX3 = some m.cls := hown
  have hl : lv_has ls 5 [(0, .ref y), (1, .int (nI ch)), (2, .int (nI n))] := hl
  have e0 : va_up ww ch (w + 0) = ww := by funext j; unfold va_up; by_cases h : j = ch; subst h; simp [hw]; simp [h]
  have hP : va_P D vwCl [(y, .inr (3, [.int 0, .int (nI len), .ref tp, .int (nI mk), .ref bb, .ref zz, .ref wa, .ref fs, .ref fm, .int (nI fk)])), (bb, .inl (cB, 8400, .inl (lwr bf (4200 * ch + w) (emb n) 0))), (zz, .inl (cZ, 8400, .inl (lwr zf (4200 * ch + w) emz 0))), (wa, .inl (cA, 2, .inl (wI (va_up ww ch (w + 0)))))] s.heap := by rw [e0]; exact hP
  have hD : va_D A [(y, .inr (3, [.int 0, .int (nI len), .ref tp, .int (nI mk), .ref bb, .ref zz, .ref wa, .ref fs, .ref fm, .int (nI fk)])), (bb, .inl (cB, 8400, .inl (lwr bf (4200 * ch + w) (emb n) 0))), (zz, .inl (cZ, 8400, .inl (lwr zf (4200 * ch + w) emz 0))), (wa, .inl (cA, 2, .inl (wI (va_up ww ch (w + 0)))))] := by rw [e0]; exact hD
  refine lv_iload_n hx hb dX3_fills_0 rfl (lv_at hl 2 rfl) ?_
  refine lv_bipush (v := 7) hx hb dX3_fills_1 (by decide +kernel) ?_
  refine lv_isub hx hb dX3_fills_3 ?_
  refine tp_i (y := nI (n - 7)) (pk_sub (b := 7) hn) ?_
  refine lv_istore_n (lv' := [(3, .int (nI (n - 7))), (0, .ref y), (1, .int (nI ch)), (2, .int (nI n))]) hx hb dX3_fills_4 rfl hl (by decide) rfl (fun ls hl => ?_)
  refine lv_aload_n hx hb dX3_fills_5 rfl (lv_at hl 1 rfl) ?_
  refine lv_iload_n hx hb dX3_fills_6 rfl (lv_at hl 2 rfl) ?_
  refine lv_bipush (v := 7) hx hb dX3_fills_7 (by decide +kernel) ?_
  refine lv_iconst (v := 1) hx hb dX3_fills_9 (by decide) ?_
  refine cl0_vv ⟨hx, hb, hml, hown, hts⟩ (c_m_wait l D cA cB cZ y len tp bb zz wa fs fm mk fk (lwr bf (4200 * ch + w) (emb n) 0) (lwr zf (4200 * ch + w) emz 0) (va_up ww ch (w + 0)) ch (w + 0) 7 1 hc (by simp [va_up]) (by omega)) (cwV 3 hts (gM_wait _) rfl rfl rfl (by decide +kernel) ⟨Nat.le_of_ble_eq_true rfl, Nat.le_of_ble_eq_true rfl⟩) (ci := 3) (q0 := 0) rfl rfl hN hK hP hD hS hA [0, 1, 2, 3] [] [0, 1, 2, 3] [] [(y, .inr (3, [.int 0, .int (nI len), .ref tp, .int (nI mk), .ref bb, .ref zz, .ref wa, .ref fs, .ref fm, .int (nI fk)])), (bb, .inl (cB, 8400, .inl (upd (lwr bf (4200 * ch + w) (emb n) 0) (4200 * ch + (w + 0)) (i8 7)))), (zz, .inl (cZ, 8400, .inl (upd (lwr zf (4200 * ch + w) emz 0) (4200 * ch + (w + 0)) (1 &&& 1)))), (wa, .inl (cA, 2, .inl (wI (va_up (va_up ww ch (w + 0)) ch (w + 0 + 1)))))] [] rfl rfl rfl rfl (by decide) rfl rfl rfl hl.1 rfl (Nat.le_of_ble_eq_true rfl) dX3_fills_10 ⟨Nat.le_of_ble_eq_true rfl, Nat.le_of_ble_eq_true rfl⟩ (fun H locs hP hD hS => ?_)
  have eb : upd (lwr bf (4200 * ch + w) (emb n) 0) (4200 * ch + (w + 0)) (i8 7) = lwr bf (4200 * ch + w) (emb n) (1) := by rw [← Nat.add_assoc]; rfl
  have ez : upd (lwr zf (4200 * ch + w) emz 0) (4200 * ch + (w + 0)) (1 &&& 1) = lwr zf (4200 * ch + w) emz (1) := by rw [← Nat.add_assoc]; show upd _ _ _ = upd _ _ (emz 0); rw [show ((1 : Int32) &&& 1) = emz 0 from by decide]
  rw [eb, ez, bx_uu] at hP hD
  have hP : va_P D vwCl [(y, .inr (3, [.int 0, .int (nI len), .ref tp, .int (nI mk), .ref bb, .ref zz, .ref wa, .ref fs, .ref fm, .int (nI fk)])), (bb, .inl (cB, 8400, .inl (lwr bf (4200 * ch + w) (emb n) 1))), (zz, .inl (cZ, 8400, .inl (lwr zf (4200 * ch + w) emz 1))), (wa, .inl (cA, 2, .inl (wI (va_up ww ch (w + 1)))))] H := hP
  have hD : va_D A [(y, .inr (3, [.int 0, .int (nI len), .ref tp, .int (nI mk), .ref bb, .ref zz, .ref wa, .ref fs, .ref fm, .int (nI fk)])), (bb, .inl (cB, 8400, .inl (lwr bf (4200 * ch + w) (emb n) 1))), (zz, .inl (cZ, 8400, .inl (lwr zf (4200 * ch + w) emz 1))), (wa, .inl (cA, 2, .inl (wI (va_up ww ch (w + 1)))))] := hD
  refine lv_aload_n hx hb dX3_fills_13 rfl (lv_at hl 1 rfl) ?_
  refine lv_iload_n hx hb dX3_fills_14 rfl (lv_at hl 2 rfl) ?_
  refine lv_sipush (v := 255) hx hb dX3_fills_15 (by decide +kernel) ?_
  refine lv_iconst (v := 0) hx hb dX3_fills_18 (by decide) ?_
  refine cl0_vv ⟨hx, hb, hml, hown, hts⟩ (c_m_wait l D cA cB cZ y len tp bb zz wa fs fm mk fk (lwr bf (4200 * ch + w) (emb n) 1) (lwr zf (4200 * ch + w) emz 1) (va_up ww ch (w + 1)) ch (w + 1) 255 0 hc (by simp [va_up]) (by omega)) (cwV 3 hts (gM_wait _) rfl rfl rfl (by decide +kernel) ⟨Nat.le_of_ble_eq_true rfl, Nat.le_of_ble_eq_true rfl⟩) (ci := 3) (q0 := 0) rfl rfl hN hK hP hD hS hA [0, 1, 2, 3] [] [0, 1, 2, 3] [] [(y, .inr (3, [.int 0, .int (nI len), .ref tp, .int (nI mk), .ref bb, .ref zz, .ref wa, .ref fs, .ref fm, .int (nI fk)])), (bb, .inl (cB, 8400, .inl (upd (lwr bf (4200 * ch + w) (emb n) 1) (4200 * ch + (w + 1)) (i8 255)))), (zz, .inl (cZ, 8400, .inl (upd (lwr zf (4200 * ch + w) emz 1) (4200 * ch + (w + 1)) (0 &&& 1)))), (wa, .inl (cA, 2, .inl (wI (va_up (va_up ww ch (w + 1)) ch (w + 1 + 1)))))] [] rfl rfl rfl rfl (by decide) rfl rfl rfl hl.1 rfl (Nat.le_of_ble_eq_true rfl) dX3_fills_19 ⟨Nat.le_of_ble_eq_true rfl, Nat.le_of_ble_eq_true rfl⟩ (fun H locs hP hD hS => ?_)
  have eb : upd (lwr bf (4200 * ch + w) (emb n) 1) (4200 * ch + (w + 1)) (i8 255) = lwr bf (4200 * ch + w) (emb n) (2) := by rw [← Nat.add_assoc]; rfl
  have ez : upd (lwr zf (4200 * ch + w) emz 1) (4200 * ch + (w + 1)) (0 &&& 1) = lwr zf (4200 * ch + w) emz (2) := by rw [← Nat.add_assoc]; show upd _ _ _ = upd _ _ (emz 1); rw [show ((0 : Int32) &&& 1) = emz 1 from by decide]
  rw [eb, ez, bx_uu] at hP hD
  have hP : va_P D vwCl [(y, .inr (3, [.int 0, .int (nI len), .ref tp, .int (nI mk), .ref bb, .ref zz, .ref wa, .ref fs, .ref fm, .int (nI fk)])), (bb, .inl (cB, 8400, .inl (lwr bf (4200 * ch + w) (emb n) 2))), (zz, .inl (cZ, 8400, .inl (lwr zf (4200 * ch + w) emz 2))), (wa, .inl (cA, 2, .inl (wI (va_up ww ch (w + 2)))))] H := hP
  have hD : va_D A [(y, .inr (3, [.int 0, .int (nI len), .ref tp, .int (nI mk), .ref bb, .ref zz, .ref wa, .ref fs, .ref fm, .int (nI fk)])), (bb, .inl (cB, 8400, .inl (lwr bf (4200 * ch + w) (emb n) 2))), (zz, .inl (cZ, 8400, .inl (lwr zf (4200 * ch + w) emz 2))), (wa, .inl (cA, 2, .inl (wI (va_up ww ch (w + 2)))))] := hD
  refine lv_aload_n hx hb dX3_fills_22 rfl (lv_at hl 1 rfl) ?_
  refine lv_iload_n hx hb dX3_fills_23 rfl (lv_at hl 2 rfl) ?_
  refine lv_sipush (v := 192) hx hb dX3_fills_24 (by decide +kernel) ?_
  refine lv_iconst (v := 0) hx hb dX3_fills_27 (by decide) ?_
  refine cl0_vv ⟨hx, hb, hml, hown, hts⟩ (c_m_wait l D cA cB cZ y len tp bb zz wa fs fm mk fk (lwr bf (4200 * ch + w) (emb n) 2) (lwr zf (4200 * ch + w) emz 2) (va_up ww ch (w + 2)) ch (w + 2) 192 0 hc (by simp [va_up]) (by omega)) (cwV 3 hts (gM_wait _) rfl rfl rfl (by decide +kernel) ⟨Nat.le_of_ble_eq_true rfl, Nat.le_of_ble_eq_true rfl⟩) (ci := 3) (q0 := 0) rfl rfl hN hK hP hD hS hA [0, 1, 2, 3] [] [0, 1, 2, 3] [] [(y, .inr (3, [.int 0, .int (nI len), .ref tp, .int (nI mk), .ref bb, .ref zz, .ref wa, .ref fs, .ref fm, .int (nI fk)])), (bb, .inl (cB, 8400, .inl (upd (lwr bf (4200 * ch + w) (emb n) 2) (4200 * ch + (w + 2)) (i8 192)))), (zz, .inl (cZ, 8400, .inl (upd (lwr zf (4200 * ch + w) emz 2) (4200 * ch + (w + 2)) (0 &&& 1)))), (wa, .inl (cA, 2, .inl (wI (va_up (va_up ww ch (w + 2)) ch (w + 2 + 1)))))] [] rfl rfl rfl rfl (by decide) rfl rfl rfl hl.1 rfl (Nat.le_of_ble_eq_true rfl) dX3_fills_28 ⟨Nat.le_of_ble_eq_true rfl, Nat.le_of_ble_eq_true rfl⟩ (fun H locs hP hD hS => ?_)
  have eb : upd (lwr bf (4200 * ch + w) (emb n) 2) (4200 * ch + (w + 2)) (i8 192) = lwr bf (4200 * ch + w) (emb n) (3) := by rw [← Nat.add_assoc]; rfl
  have ez : upd (lwr zf (4200 * ch + w) emz 2) (4200 * ch + (w + 2)) (0 &&& 1) = lwr zf (4200 * ch + w) emz (3) := by rw [← Nat.add_assoc]; show upd _ _ _ = upd _ _ (emz 2); rw [show ((0 : Int32) &&& 1) = emz 2 from by decide]
  rw [eb, ez, bx_uu] at hP hD
  have hP : va_P D vwCl [(y, .inr (3, [.int 0, .int (nI len), .ref tp, .int (nI mk), .ref bb, .ref zz, .ref wa, .ref fs, .ref fm, .int (nI fk)])), (bb, .inl (cB, 8400, .inl (lwr bf (4200 * ch + w) (emb n) 3))), (zz, .inl (cZ, 8400, .inl (lwr zf (4200 * ch + w) emz 3))), (wa, .inl (cA, 2, .inl (wI (va_up ww ch (w + 3)))))] H := hP
  have hD : va_D A [(y, .inr (3, [.int 0, .int (nI len), .ref tp, .int (nI mk), .ref bb, .ref zz, .ref wa, .ref fs, .ref fm, .int (nI fk)])), (bb, .inl (cB, 8400, .inl (lwr bf (4200 * ch + w) (emb n) 3))), (zz, .inl (cZ, 8400, .inl (lwr zf (4200 * ch + w) emz 3))), (wa, .inl (cA, 2, .inl (wI (va_up ww ch (w + 3)))))] := hD
  refine lv_aload_n hx hb dX3_fills_31 rfl (lv_at hl 1 rfl) ?_
  refine lv_iload_n hx hb dX3_fills_32 rfl (lv_at hl 2 rfl) ?_
  refine lv_iconst (v := 0) hx hb dX3_fills_33 (by decide) ?_
  refine lv_iconst (v := 0) hx hb dX3_fills_34 (by decide) ?_
  refine cl0_vv ⟨hx, hb, hml, hown, hts⟩ (c_m_wait l D cA cB cZ y len tp bb zz wa fs fm mk fk (lwr bf (4200 * ch + w) (emb n) 3) (lwr zf (4200 * ch + w) emz 3) (va_up ww ch (w + 3)) ch (w + 3) 0 0 hc (by simp [va_up]) (by omega)) (cwV 3 hts (gM_wait _) rfl rfl rfl (by decide +kernel) ⟨Nat.le_of_ble_eq_true rfl, Nat.le_of_ble_eq_true rfl⟩) (ci := 3) (q0 := 0) rfl rfl hN hK hP hD hS hA [0, 1, 2, 3] [] [0, 1, 2, 3] [] [(y, .inr (3, [.int 0, .int (nI len), .ref tp, .int (nI mk), .ref bb, .ref zz, .ref wa, .ref fs, .ref fm, .int (nI fk)])), (bb, .inl (cB, 8400, .inl (upd (lwr bf (4200 * ch + w) (emb n) 3) (4200 * ch + (w + 3)) (i8 0)))), (zz, .inl (cZ, 8400, .inl (upd (lwr zf (4200 * ch + w) emz 3) (4200 * ch + (w + 3)) (0 &&& 1)))), (wa, .inl (cA, 2, .inl (wI (va_up (va_up ww ch (w + 3)) ch (w + 3 + 1)))))] [] rfl rfl rfl rfl (by decide) rfl rfl rfl hl.1 rfl (Nat.le_of_ble_eq_true rfl) dX3_fills_35 ⟨Nat.le_of_ble_eq_true rfl, Nat.le_of_ble_eq_true rfl⟩ (fun H locs hP hD hS => ?_)
  have eb : upd (lwr bf (4200 * ch + w) (emb n) 3) (4200 * ch + (w + 3)) (i8 0) = lwr bf (4200 * ch + w) (emb n) (4) := by rw [← Nat.add_assoc]; rfl
  have ez : upd (lwr zf (4200 * ch + w) emz 3) (4200 * ch + (w + 3)) (0 &&& 1) = lwr zf (4200 * ch + w) emz (4) := by rw [← Nat.add_assoc]; show upd _ _ _ = upd _ _ (emz 3); rw [show ((0 : Int32) &&& 1) = emz 3 from by decide]
  rw [eb, ez, bx_uu] at hP hD
  have hP : va_P D vwCl [(y, .inr (3, [.int 0, .int (nI len), .ref tp, .int (nI mk), .ref bb, .ref zz, .ref wa, .ref fs, .ref fm, .int (nI fk)])), (bb, .inl (cB, 8400, .inl (lwr bf (4200 * ch + w) (emb n) 4))), (zz, .inl (cZ, 8400, .inl (lwr zf (4200 * ch + w) emz 4))), (wa, .inl (cA, 2, .inl (wI (va_up ww ch (w + 4)))))] H := hP
  have hD : va_D A [(y, .inr (3, [.int 0, .int (nI len), .ref tp, .int (nI mk), .ref bb, .ref zz, .ref wa, .ref fs, .ref fm, .int (nI fk)])), (bb, .inl (cB, 8400, .inl (lwr bf (4200 * ch + w) (emb n) 4))), (zz, .inl (cZ, 8400, .inl (lwr zf (4200 * ch + w) emz 4))), (wa, .inl (cA, 2, .inl (wI (va_up ww ch (w + 4)))))] := hD
  refine lv_aload_n hx hb dX3_fills_38 rfl (lv_at hl 1 rfl) ?_
  refine lv_iload_n hx hb dX3_fills_39 rfl (lv_at hl 2 rfl) ?_
  refine lv_iload_n hx hb dX3_fills_40 rfl (lv_at hl 0 rfl) ?_
  refine lv_sipush (v := 256) hx hb dX3_fills_41 (by decide +kernel) ?_
  refine lv_idiv hx hb dX3_fills_44 (by decide) ?_
  refine lv_iconst (v := 0) hx hb dX3_fills_45 (by decide) ?_
  refine cl0_vv ⟨hx, hb, hml, hown, hts⟩ (c_m_wait l D cA cB cZ y len tp bb zz wa fs fm mk fk (lwr bf (4200 * ch + w) (emb n) 4) (lwr zf (4200 * ch + w) emz 4) (va_up ww ch (w + 4)) ch (w + 4) ((nI (n - 7)) / 256) 0 hc (by simp [va_up]) (by omega)) (cwV 3 hts (gM_wait _) rfl rfl rfl (by decide +kernel) ⟨Nat.le_of_ble_eq_true rfl, Nat.le_of_ble_eq_true rfl⟩) (ci := 3) (q0 := 0) rfl rfl hN hK hP hD hS hA [0, 1, 2, 3] [] [0, 1, 2, 3] [] [(y, .inr (3, [.int 0, .int (nI len), .ref tp, .int (nI mk), .ref bb, .ref zz, .ref wa, .ref fs, .ref fm, .int (nI fk)])), (bb, .inl (cB, 8400, .inl (upd (lwr bf (4200 * ch + w) (emb n) 4) (4200 * ch + (w + 4)) (i8 ((nI (n - 7)) / 256))))), (zz, .inl (cZ, 8400, .inl (upd (lwr zf (4200 * ch + w) emz 4) (4200 * ch + (w + 4)) (0 &&& 1)))), (wa, .inl (cA, 2, .inl (wI (va_up (va_up ww ch (w + 4)) ch (w + 4 + 1)))))] [] rfl rfl rfl rfl (by decide) rfl rfl rfl hl.1 rfl (Nat.le_of_ble_eq_true rfl) dX3_fills_46 ⟨Nat.le_of_ble_eq_true rfl, Nat.le_of_ble_eq_true rfl⟩ (fun H locs hP hD hS => ?_)
  have eb : upd (lwr bf (4200 * ch + w) (emb n) 4) (4200 * ch + (w + 4)) (i8 ((nI (n - 7)) / 256)) = lwr bf (4200 * ch + w) (emb n) (5) := by rw [← Nat.add_assoc]; rfl
  have ez : upd (lwr zf (4200 * ch + w) emz 4) (4200 * ch + (w + 4)) (0 &&& 1) = lwr zf (4200 * ch + w) emz (5) := by rw [← Nat.add_assoc]; show upd _ _ _ = upd _ _ (emz 4); rw [show ((0 : Int32) &&& 1) = emz 4 from by decide]
  rw [eb, ez, bx_uu] at hP hD
  have hP : va_P D vwCl [(y, .inr (3, [.int 0, .int (nI len), .ref tp, .int (nI mk), .ref bb, .ref zz, .ref wa, .ref fs, .ref fm, .int (nI fk)])), (bb, .inl (cB, 8400, .inl (lwr bf (4200 * ch + w) (emb n) 5))), (zz, .inl (cZ, 8400, .inl (lwr zf (4200 * ch + w) emz 5))), (wa, .inl (cA, 2, .inl (wI (va_up ww ch (w + 5)))))] H := hP
  have hD : va_D A [(y, .inr (3, [.int 0, .int (nI len), .ref tp, .int (nI mk), .ref bb, .ref zz, .ref wa, .ref fs, .ref fm, .int (nI fk)])), (bb, .inl (cB, 8400, .inl (lwr bf (4200 * ch + w) (emb n) 5))), (zz, .inl (cZ, 8400, .inl (lwr zf (4200 * ch + w) emz 5))), (wa, .inl (cA, 2, .inl (wI (va_up ww ch (w + 5)))))] := hD
  refine lv_aload_n hx hb dX3_fills_49 rfl (lv_at hl 1 rfl) ?_
  refine lv_iload_n hx hb dX3_fills_50 rfl (lv_at hl 2 rfl) ?_
  refine lv_iload_n hx hb dX3_fills_51 rfl (lv_at hl 0 rfl) ?_
  refine lv_iconst (v := 0) hx hb dX3_fills_52 (by decide) ?_
  refine cl0_vv ⟨hx, hb, hml, hown, hts⟩ (c_m_wait l D cA cB cZ y len tp bb zz wa fs fm mk fk (lwr bf (4200 * ch + w) (emb n) 5) (lwr zf (4200 * ch + w) emz 5) (va_up ww ch (w + 5)) ch (w + 5) (nI (n - 7)) 0 hc (by simp [va_up]) (by omega)) (cwV 3 hts (gM_wait _) rfl rfl rfl (by decide +kernel) ⟨Nat.le_of_ble_eq_true rfl, Nat.le_of_ble_eq_true rfl⟩) (ci := 3) (q0 := 0) rfl rfl hN hK hP hD hS hA [0, 1, 2, 3] [] [0, 1, 2, 3] [] [(y, .inr (3, [.int 0, .int (nI len), .ref tp, .int (nI mk), .ref bb, .ref zz, .ref wa, .ref fs, .ref fm, .int (nI fk)])), (bb, .inl (cB, 8400, .inl (upd (lwr bf (4200 * ch + w) (emb n) 5) (4200 * ch + (w + 5)) (i8 (nI (n - 7)))))), (zz, .inl (cZ, 8400, .inl (upd (lwr zf (4200 * ch + w) emz 5) (4200 * ch + (w + 5)) (0 &&& 1)))), (wa, .inl (cA, 2, .inl (wI (va_up (va_up ww ch (w + 5)) ch (w + 5 + 1)))))] [] rfl rfl rfl rfl (by decide) rfl rfl rfl hl.1 rfl (Nat.le_of_ble_eq_true rfl) dX3_fills_53 ⟨Nat.le_of_ble_eq_true rfl, Nat.le_of_ble_eq_true rfl⟩ (fun H locs hP hD hS => ?_)
  have eb : upd (lwr bf (4200 * ch + w) (emb n) 5) (4200 * ch + (w + 5)) (i8 (nI (n - 7))) = lwr bf (4200 * ch + w) (emb n) (6) := by rw [← Nat.add_assoc]; rfl
  have ez : upd (lwr zf (4200 * ch + w) emz 5) (4200 * ch + (w + 5)) (0 &&& 1) = lwr zf (4200 * ch + w) emz (6) := by rw [← Nat.add_assoc]; show upd _ _ _ = upd _ _ (emz 5); rw [show ((0 : Int32) &&& 1) = emz 5 from by decide]
  rw [eb, ez, bx_uu] at hP hD
  have hP : va_P D vwCl [(y, .inr (3, [.int 0, .int (nI len), .ref tp, .int (nI mk), .ref bb, .ref zz, .ref wa, .ref fs, .ref fm, .int (nI fk)])), (bb, .inl (cB, 8400, .inl (lwr bf (4200 * ch + w) (emb n) 6))), (zz, .inl (cZ, 8400, .inl (lwr zf (4200 * ch + w) emz 6))), (wa, .inl (cA, 2, .inl (wI (va_up ww ch (w + 6)))))] H := hP
  have hD : va_D A [(y, .inr (3, [.int 0, .int (nI len), .ref tp, .int (nI mk), .ref bb, .ref zz, .ref wa, .ref fs, .ref fm, .int (nI fk)])), (bb, .inl (cB, 8400, .inl (lwr bf (4200 * ch + w) (emb n) 6))), (zz, .inl (cZ, 8400, .inl (lwr zf (4200 * ch + w) emz 6))), (wa, .inl (cA, 2, .inl (wI (va_up ww ch (w + 6)))))] := hD
  refine lv_bipush (v := 6) hx hb dX3_fills_56 (by decide +kernel) ?_
  refine tp_i (y := nI (6 + 0)) (rfl) ?_
  refine lv_istore (lv' := [(4, .int (nI (6 + 0))), (3, .int (nI (n - 7))), (0, .ref y), (1, .int (nI ch)), (2, .int (nI n))]) hx hb dX3_fills_58 hl (by decide) rfl (fun ls hl => ?_)
  have loop : ∀ (d i : Nat) (H : Heap) (locs : List Loc) (ls : Array Slot), 6 + i + d = n → va_P D vwCl [(y, .inr (3, [.int 0, .int (nI len), .ref tp, .int (nI mk), .ref bb, .ref zz, .ref wa, .ref fs, .ref fm, .int (nI fk)])), (bb, .inl (cB, 8400, .inl (lwr bf (4200 * ch + w) (emb n) (6 + i)))), (zz, .inl (cZ, 8400, .inl (lwr zf (4200 * ch + w) emz (6 + i)))), (wa, .inl (cA, 2, .inl (wI (va_up ww ch (w + (6 + i))))))] H → va_D A [(y, .inr (3, [.int 0, .int (nI len), .ref tp, .int (nI mk), .ref bb, .ref zz, .ref wa, .ref fs, .ref fm, .int (nI fk)])), (bb, .inl (cB, 8400, .inl (lwr bf (4200 * ch + w) (emb n) (6 + i)))), (zz, .inl (cZ, 8400, .inl (lwr zf (4200 * ch + w) emz (6 + i)))), (wa, .inl (cA, 2, .inl (wI (va_up ww ch (w + (6 + i))))))] → va_S A s.heap H locs → lv_has ls 5 [(4, .int (nI (6 + i))), (3, .int (nI (n - 7))), (0, .ref y), (1, .int (nI ch)), (2, .int (nI n))] → W p l e ({ frames := 1, cells := 0, slots := 0, locals := 23 } : Room) s m ([.ref y, .int (nI ch), .int (nI n)] : List Value).toArray below meth c H locs 0 0 Q (F0 m 60 ls []) := by
    intro d
    induction d with
    | zero =>
      intro i H locs ls hi hP hD hS hl
      have hi : 6 + i = n := hi
      refine lv_iload hx hb dX3_fills_60 (lv_at hl 0 rfl) ?_
      refine lv_iload_n hx hb dX3_fills_62 rfl (lv_at hl 4 rfl) ?_
      refine lv_icmp_ge (tgt := 80) hx hb dX3_fills_63 (by decide) (fun _ => ?_) (fun cc => absurd (nI_le (by omega) (by omega)) cc)
      rw [hi] at hP hD
      exact hex _ _ _ _ () hS (trivial) hP hD dX3_fills_80
    | succ d ih =>
      intro i H locs ls hi hP hD hS hl
      refine lv_iload hx hb dX3_fills_60 (lv_at hl 0 rfl) ?_
      refine lv_iload_n hx hb dX3_fills_62 rfl (lv_at hl 4 rfl) ?_
      refine lv_icmp_ge (tgt := 80) hx hb dX3_fills_63 (by decide) (fun cc => absurd cc (nI_ge (by omega) (by omega))) (fun _ => ?_)
      refine lv_aload_n hx hb dX3_fills_66 rfl (lv_at hl 2 rfl) ?_
      refine lv_iload_n hx hb dX3_fills_67 rfl (lv_at hl 3 rfl) ?_
      refine lv_bipush (v := 85) hx hb dX3_fills_68 (by decide +kernel) ?_
      refine lv_iconst (v := 0) hx hb dX3_fills_70 (by decide) ?_
      refine cl0_vv ⟨hx, hb, hml, hown, hts⟩ (c_m_wait l D cA cB cZ y len tp bb zz wa fs fm mk fk (lwr bf (4200 * ch + w) (emb n) (6 + i)) (lwr zf (4200 * ch + w) emz (6 + i)) (va_up ww ch (w + (6 + i))) ch (w + (6 + i)) 85 0 hc (by simp [va_up]) (by omega)) (cwV 3 hts (gM_wait _) rfl rfl rfl (by decide +kernel) ⟨Nat.le_of_ble_eq_true rfl, Nat.le_of_ble_eq_true rfl⟩) (ci := 3) (q0 := 0) rfl rfl hN hK hP hD hS hA [0, 1, 2, 3] [] [0, 1, 2, 3] [] [(y, .inr (3, [.int 0, .int (nI len), .ref tp, .int (nI mk), .ref bb, .ref zz, .ref wa, .ref fs, .ref fm, .int (nI fk)])), (bb, .inl (cB, 8400, .inl (upd (lwr bf (4200 * ch + w) (emb n) (6 + i)) (4200 * ch + (w + (6 + i))) (i8 85)))), (zz, .inl (cZ, 8400, .inl (upd (lwr zf (4200 * ch + w) emz (6 + i)) (4200 * ch + (w + (6 + i))) (0 &&& 1)))), (wa, .inl (cA, 2, .inl (wI (va_up (va_up ww ch (w + (6 + i))) ch (w + (6 + i) + 1)))))] [] rfl rfl rfl rfl (by decide) rfl rfl rfl hl.1 rfl (Nat.le_of_ble_eq_true rfl) dX3_fills_71 ⟨Nat.le_of_ble_eq_true rfl, Nat.le_of_ble_eq_true rfl⟩ (fun H locs hP hD hS => ?_)
      have eb : upd (lwr bf (4200 * ch + w) (emb n) (6 + i)) (4200 * ch + (w + (6 + i))) (i8 85) = lwr bf (4200 * ch + w) (emb n) (6 + i + 1) := by rw [← Nat.add_assoc]; show upd _ _ _ = upd _ _ (emb n (6 + i)); rw [emb_85 n (6 + i) (by omega)]
      have ez : upd (lwr zf (4200 * ch + w) emz (6 + i)) (4200 * ch + (w + (6 + i))) (0 &&& 1) = lwr zf (4200 * ch + w) emz (6 + i + 1) := by rw [← Nat.add_assoc]; show upd _ _ _ = upd _ _ (emz (6 + i)); rw [emz_0 (6 + i) (by omega)]; rfl
      rw [eb, ez, bx_uu] at hP hD
      have hP : va_P D vwCl [(y, .inr (3, [.int 0, .int (nI len), .ref tp, .int (nI mk), .ref bb, .ref zz, .ref wa, .ref fs, .ref fm, .int (nI fk)])), (bb, .inl (cB, 8400, .inl (lwr bf (4200 * ch + w) (emb n) (6 + i + 1)))), (zz, .inl (cZ, 8400, .inl (lwr zf (4200 * ch + w) emz (6 + i + 1)))), (wa, .inl (cA, 2, .inl (wI (va_up ww ch (w + (6 + i + 1))))))] H := hP
      have hD : va_D A [(y, .inr (3, [.int 0, .int (nI len), .ref tp, .int (nI mk), .ref bb, .ref zz, .ref wa, .ref fs, .ref fm, .int (nI fk)])), (bb, .inl (cB, 8400, .inl (lwr bf (4200 * ch + w) (emb n) (6 + i + 1)))), (zz, .inl (cZ, 8400, .inl (lwr zf (4200 * ch + w) emz (6 + i + 1)))), (wa, .inl (cA, 2, .inl (wI (va_up ww ch (w + (6 + i + 1))))))] := hD
      refine lv_iinc (v := nI (6 + (i + 1))) (lv' := [(4, .int (nI (6 + (i + 1)))), (3, .int (nI (n - 7))), (0, .ref y), (1, .int (nI ch)), (2, .int (nI n))]) hx hb dX3_fills_74 hl (k := 0) rfl (by rw [← Nat.add_assoc]; exact nI_1 _) (by decide) rfl (fun ls hl => ?_)
      refine lv_goto (tgt := 60) hx hb dX3_fills_77 (by decide) ?_
      exact ih (i + 1) H locs ls (by omega) hP hD hS (lv_sub hl [0, 1, 2, 3, 4] rfl)
  exact loop (n - 6) 0 _ _ ls (by omega) hP hD hS (lv_sub hl [0, 1, 2, 3, 4] rfl)

set_option maxHeartbeats 4000000 in
set_option maxRecDepth 100000 in
/-- first(ch, n) -/
theorem c_m_first (l : Launch) (D : va_G) (cA cB cZ : ClassId) (y len tp bb zz wa fs fm mk fk : Nat) (zf : Nat → Int32) (ch n : Nat) (hc : ch < 2) (hn : n ≤ 4200) : MI0 l yX3_first wsM_first { frames := 0, cells := 0, slots := 0, locals := 0 } [.ref y, .int (nI ch), .int (nI n)] D [(cA, .int), (cB, .byte), (cZ, .boolean)] [(y, .inr (3, [.int 0, .int (nI len), .ref tp, .int (nI mk), .ref bb, .ref zz, .ref wa, .ref fs, .ref fm, .int (nI fk)])), (zz, .inl (cZ, 8400, .inl zf))] (fbM zf (4200 * ch) n 0) [(y, .inr (3, [.int 0, .int (nI len), .ref tp, .int (nI mk), .ref bb, .ref zz, .ref wa, .ref fs, .ref fm, .int (nI fk)])), (zz, .inl (cZ, 8400, .inl zf))] := by
  refine mt_i (by decide) rfl (Nat.le_of_ble_eq_true rfl) ?_
  intro p e s m below meth c A ls Q hx hb hts hown hml hin hN hK hA hP hD hS hl hex
  have hown : s.vm.findClass RX3 = some m.cls := hown
  have hl : lv_has ls 4 [(0, .ref y), (1, .int (nI ch)), (2, .int (nI n))] := hl
  have iX3 : ∀ w ∈ wsX30, w ∈ wsM_first := by decide +kernel
  have lk16 := hts (.fieldLink RX3 16 "DownFramesModel" "begins" "[Z") (by decide +kernel)
  refine lv_iconst (v := 0) hx hb dX3_first_0 (by decide) ?_
  refine lv_istore_n (lv' := [(3, .int 0), (0, .ref y), (1, .int (nI ch)), (2, .int (nI n))]) hx hb dX3_first_1 rfl hl (by decide) rfl (fun ls hl => ?_)
  have loop : ∀ (d i : Nat) (ls : Array Slot), i + d = n → fbM zf (4200 * ch) d i = fbM zf (4200 * ch) n 0 → lv_has ls 4 [(3, .int (nI i)), (0, .ref y), (1, .int (nI ch)), (2, .int (nI n))] → W p l e ({ frames := 0, cells := 0, slots := 0, locals := 0 } : Room) s m ([.ref y, .int (nI ch), .int (nI n)] : List Value).toArray below meth c s.heap [] 0 0 Q (F0 m 2 ls []) := by
    intro d
    induction d with
    | zero =>
      intro i ls hi he hl
      refine lv_iload_n hx hb dX3_first_2 rfl (lv_at hl 0 rfl) ?_
      refine lv_iload_n hx hb dX3_first_3 rfl (lv_at hl 3 rfl) ?_
      refine lv_icmp_ge (tgt := 28) hx hb dX3_first_4 (by decide) (fun _ => ?_) (fun cc => absurd (nI_le (by omega) (by omega)) cc)
      refine lv_iload_n hx hb dX3_first_28 rfl (lv_at hl 0 rfl) ?_
      refine lv_iload_n hx hb dX3_first_29 rfl (lv_at hl 3 rfl) ?_
      refine lv_icmp_ge (tgt := 37) hx hb dX3_first_30 (by decide) (fun _ => ?_) (fun cc => absurd (nI_le (by omega) (by omega)) cc)
      refine lv_sipush (v := 2047) hx hb dX3_first_37 (by decide +kernel) ?_
      exact hex _ _ _ _ _ () hS (he) hP hD dX3_first_40
    | succ d ih =>
      intro i ls hi he hl
      refine lv_iload_n hx hb dX3_first_2 rfl (lv_at hl 0 rfl) ?_
      refine lv_iload_n hx hb dX3_first_3 rfl (lv_at hl 3 rfl) ?_
      refine lv_icmp_ge (tgt := 28) hx hb dX3_first_4 (by decide) (fun cc => absurd cc (nI_ge (by omega) (by omega))) (fun _ => ?_)
      refine lv_aload_n hx hb dX3_first_7 rfl (lv_at hl 1 rfl) ?_
      refine va_get (D := D) (ci := 3) (v := .ref zz) hx hb hts iX3 hown hK hP 0 rfl rfl 5 (by decide) lk16 (fun _ h => h) rfl dX3_first_8 ?_
      refine lv_sipush (v := 4200) hx hb dX3_first_11 (by decide +kernel) ?_
      refine lv_iload_n hx hb dX3_first_14 rfl (lv_at hl 2 rfl) ?_
      refine lv_imul hx hb dX3_first_15 ?_
      refine lv_iload_n hx hb dX3_first_16 rfl (lv_at hl 0 rfl) ?_
      refine lv_iadd hx hb dX3_first_17 ?_
      refine tp_i (y := nI (4200 * ch + i)) (by rw [show (4200 : Int32) = nI 4200 from rfl, pk_mul, nI_add]) ?_
      refine al_z (k := (4200 * ch + i)) hx hb hK hP 1 2 rfl rfl (by omega) (by decide) dX3_first_18 ?_
      refine lv_if_ne (tgt := 28) hx hb dX3_first_19 (by decide) (fun q1 => ?_) (fun q1 => ?_)
      · refine lv_iload_n hx hb dX3_first_28 rfl (lv_at hl 0 rfl) ?_
        refine lv_iload_n hx hb dX3_first_29 rfl (lv_at hl 3 rfl) ?_
        refine lv_icmp_ge (tgt := 37) hx hb dX3_first_30 (by decide) (fun cc => absurd cc (nI_ge (by omega) (by omega))) (fun _ => ?_)
        refine lv_iload_n hx hb dX3_first_33 rfl (lv_at hl 0 rfl) ?_
        refine lv_goto (tgt := 40) hx hb dX3_first_34 (by decide) ?_
        exact hex _ _ _ _ _ () hS (by rw [← he]; simp only [fbM]; rw [if_neg q1]) hP hD dX3_first_40
      · refine lv_iinc (v := nI (i + 1)) (lv' := [(3, .int (nI (i + 1))), (0, .ref y), (1, .int (nI ch)), (2, .int (nI n))]) hx hb dX3_first_22 hl (k := 0) rfl (nI_1 _) (by decide) rfl (fun ls hl => ?_)
        refine lv_goto (tgt := 2) hx hb dX3_first_25 (by decide) ?_
        exact ih (i + 1) ls (by omega) (by rw [← he]; simp only [fbM]; rw [if_pos q1]) (lv_sub hl [0, 1, 2, 3] rfl)
  exact loop n 0 ls (by omega) rfl (lv_sub hl [0, 1, 2, 3] rfl)

set_option maxHeartbeats 4000000 in
set_option maxRecDepth 100000 in
/-- leave(ch, n) -/
theorem c_m_leave (l : Launch) (D : va_G) (cA cB cZ : ClassId) (y len tp bb zz wa fs fm mk fk : Nat) (bf zf : Nat → Int32) (ww : Nat → Nat) (ch w n : Nat) (hc : ch < 2) (hw : ww ch = w) (hn : n ≤ w) (hw2 : w ≤ 4200) : MV0 l yX3_leave wsM_leave { frames := 0, cells := 0, slots := 0, locals := 0 } [.ref y, .int (nI ch), .int (nI n)] D [(cA, .int), (cB, .byte), (cZ, .boolean)] [(y, .inr (3, [.int 0, .int (nI len), .ref tp, .int (nI mk), .ref bb, .ref zz, .ref wa, .ref fs, .ref fm, .int (nI fk)])), (bb, .inl (cB, 8400, .inl bf)), (zz, .inl (cZ, 8400, .inl zf)), (wa, .inl (cA, 2, .inl (wI ww)))] [(y, .inr (3, [.int 0, .int (nI len), .ref tp, .int (nI mk), .ref bb, .ref zz, .ref wa, .ref fs, .ref fm, .int (nI fk)])), (bb, .inl (cB, 8400, .inl (lwr bf (4200 * ch) (fun i => i8 (bf (4200 * ch + i + n))) (w - n)))), (zz, .inl (cZ, 8400, .inl (lwr zf (4200 * ch) (fun i => zf (4200 * ch + i + n) &&& 1) (w - n)))), (wa, .inl (cA, 2, .inl (wI (va_up ww ch (w - n)))))] := by
  refine mt_v (by decide) rfl (Nat.le_of_ble_eq_true rfl) ?_
  intro p e s m below meth c A ls Q hx hb hts hown hml hin hN hK hA hP hD hS hl hex
  have hown : s.vm.findClass RX3 = some m.cls := hown
  have hl : lv_has ls 4 [(0, .ref y), (1, .int (nI ch)), (2, .int (nI n))] := hl
  have iX3 : ∀ w ∈ wsX30, w ∈ wsM_leave := by decide +kernel
  have lk13 := hts (.fieldLink RX3 13 "DownFramesModel" "bytes" "[B") (by decide +kernel)
  have lk16 := hts (.fieldLink RX3 16 "DownFramesModel" "begins" "[Z") (by decide +kernel)
  have lk20 := hts (.fieldLink RX3 20 "DownFramesModel" "waits" "[I") (by decide +kernel)
  refine lv_aload_n hx hb dX3_leave_0 rfl (lv_at hl 0 rfl) ?_
  refine va_get (D := D) (ci := 3) (v := .ref wa) hx hb hts iX3 hown hK hP 0 rfl rfl 6 (by decide) lk20 (fun _ h => h) rfl dX3_leave_1 ?_
  refine lv_iload_n hx hb dX3_leave_4 rfl (lv_at hl 1 rfl) ?_
  refine lv_dup2_11 hx hb dX3_leave_5 rfl rfl ?_
  refine al_i (k := ch) hx hb hK hP 3 0 rfl rfl (hc) (by decide) dX3_leave_6 ?_
  refine tp_i (y := nI w) (congrArg nI hw) ?_
  refine lv_iload_n hx hb dX3_leave_7 rfl (lv_at hl 2 rfl) ?_
  refine lv_isub hx hb dX3_leave_8 ?_
  refine tp_i (y := nI (w - n)) (pk_sub hn) ?_
  refine as_i (k := ch) (x := (nI (w - n))) hx hb hK hP hD hS 3 0 rfl rfl (hc) (by decide) dX3_leave_9 (fun H locs hP hD hS => ?_)
  have hP : va_P D vwCl [(y, .inr (3, [.int 0, .int (nI len), .ref tp, .int (nI mk), .ref bb, .ref zz, .ref wa, .ref fs, .ref fm, .int (nI fk)])), (bb, .inl (cB, 8400, .inl bf)), (zz, .inl (cZ, 8400, .inl zf)), (wa, .inl (cA, 2, .inl (upd (wI ww) ch (nI (w - n)))))] H := hP
  have hD : va_D A [(y, .inr (3, [.int 0, .int (nI len), .ref tp, .int (nI mk), .ref bb, .ref zz, .ref wa, .ref fs, .ref fm, .int (nI fk)])), (bb, .inl (cB, 8400, .inl bf)), (zz, .inl (cZ, 8400, .inl zf)), (wa, .inl (cA, 2, .inl (upd (wI ww) ch (nI (w - n)))))] := hD
  rw [wI_upd] at hP hD
  have hP : va_P D vwCl [(y, .inr (3, [.int 0, .int (nI len), .ref tp, .int (nI mk), .ref bb, .ref zz, .ref wa, .ref fs, .ref fm, .int (nI fk)])), (bb, .inl (cB, 8400, .inl bf)), (zz, .inl (cZ, 8400, .inl zf)), (wa, .inl (cA, 2, .inl (wI (va_up ww ch (w - n)))))] H := hP
  have hD : va_D A [(y, .inr (3, [.int 0, .int (nI len), .ref tp, .int (nI mk), .ref bb, .ref zz, .ref wa, .ref fs, .ref fm, .int (nI fk)])), (bb, .inl (cB, 8400, .inl bf)), (zz, .inl (cZ, 8400, .inl zf)), (wa, .inl (cA, 2, .inl (wI (va_up ww ch (w - n)))))] := hD
  refine lv_sipush (v := 4200) hx hb dX3_leave_10 (by decide +kernel) ?_
  refine lv_iload_n hx hb dX3_leave_13 rfl (lv_at hl 1 rfl) ?_
  refine lv_imul hx hb dX3_leave_14 ?_
  refine tp_i (y := nI (4200 * ch + 0)) (by rw [show (4200 : Int32) = nI 4200 from rfl, pk_mul]; rfl) ?_
  refine lv_istore_n (lv' := [(3, .int (nI (4200 * ch + 0))), (0, .ref y), (1, .int (nI ch)), (2, .int (nI n))]) hx hb dX3_leave_15 rfl hl (by decide) rfl (fun ls hl => ?_)
  have loop : ∀ (d i : Nat) (H : Heap) (locs : List Loc) (ls : Array Slot), i + d = w - n → va_P D vwCl [(y, .inr (3, [.int 0, .int (nI len), .ref tp, .int (nI mk), .ref bb, .ref zz, .ref wa, .ref fs, .ref fm, .int (nI fk)])), (bb, .inl (cB, 8400, .inl (lwr bf (4200 * ch) (fun i => i8 (bf (4200 * ch + i + n))) i))), (zz, .inl (cZ, 8400, .inl (lwr zf (4200 * ch) (fun i => zf (4200 * ch + i + n) &&& 1) i))), (wa, .inl (cA, 2, .inl (wI (va_up ww ch (w - n)))))] H → va_D A [(y, .inr (3, [.int 0, .int (nI len), .ref tp, .int (nI mk), .ref bb, .ref zz, .ref wa, .ref fs, .ref fm, .int (nI fk)])), (bb, .inl (cB, 8400, .inl (lwr bf (4200 * ch) (fun i => i8 (bf (4200 * ch + i + n))) i))), (zz, .inl (cZ, 8400, .inl (lwr zf (4200 * ch) (fun i => zf (4200 * ch + i + n) &&& 1) i))), (wa, .inl (cA, 2, .inl (wI (va_up ww ch (w - n)))))] → va_S A s.heap H locs → lv_has ls 4 [(3, .int (nI (4200 * ch + i))), (0, .ref y), (1, .int (nI ch)), (2, .int (nI n))] → W p l e ({ frames := 0, cells := 0, slots := 0, locals := 0 } : Room) s m ([.ref y, .int (nI ch), .int (nI n)] : List Value).toArray below meth c H locs 0 0 Q (F0 m 16 ls []) := by
    intro d
    induction d with
    | zero =>
      intro i H locs ls hi hP hD hS hl
      have hi : i = w - n := hi
      refine lv_iload_n hx hb dX3_leave_16 rfl (lv_at hl 0 rfl) ?_
      refine lv_sipush (v := 4200) hx hb dX3_leave_17 (by decide +kernel) ?_
      refine lv_iload_n hx hb dX3_leave_20 rfl (lv_at hl 2 rfl) ?_
      refine lv_imul hx hb dX3_leave_21 ?_
      refine lv_aload_n hx hb dX3_leave_22 rfl (lv_at hl 1 rfl) ?_
      refine va_get (D := D) (ci := 3) (v := .ref wa) hx hb hts iX3 hown hK hP 0 rfl rfl 6 (by decide) lk20 (fun _ h => h) rfl dX3_leave_23 ?_
      refine lv_iload_n hx hb dX3_leave_26 rfl (lv_at hl 2 rfl) ?_
      refine al_i (k := ch) hx hb hK hP 3 0 rfl rfl (hc) (by decide) dX3_leave_27 ?_
      refine tp_i (y := nI (w - n)) (by simp [wI, va_up]) ?_
      refine lv_iadd hx hb dX3_leave_28 ?_
      refine tp_i (y := nI (4200 * ch + (w - n))) (by rw [show (4200 : Int32) = nI 4200 from rfl, pk_mul, nI_add]) ?_
      refine lv_icmp_ge (tgt := 66) hx hb dX3_leave_29 (by decide) (fun _ => ?_) (fun cc => absurd (nI_le (by omega) (by omega)) cc)
      rw [hi] at hP hD
      exact hex _ _ _ _ () hS (trivial) hP hD dX3_leave_66
    | succ d ih =>
      intro i H locs ls hi hP hD hS hl
      refine lv_iload_n hx hb dX3_leave_16 rfl (lv_at hl 0 rfl) ?_
      refine lv_sipush (v := 4200) hx hb dX3_leave_17 (by decide +kernel) ?_
      refine lv_iload_n hx hb dX3_leave_20 rfl (lv_at hl 2 rfl) ?_
      refine lv_imul hx hb dX3_leave_21 ?_
      refine lv_aload_n hx hb dX3_leave_22 rfl (lv_at hl 1 rfl) ?_
      refine va_get (D := D) (ci := 3) (v := .ref wa) hx hb hts iX3 hown hK hP 0 rfl rfl 6 (by decide) lk20 (fun _ h => h) rfl dX3_leave_23 ?_
      refine lv_iload_n hx hb dX3_leave_26 rfl (lv_at hl 2 rfl) ?_
      refine al_i (k := ch) hx hb hK hP 3 0 rfl rfl (hc) (by decide) dX3_leave_27 ?_
      refine tp_i (y := nI (w - n)) (by simp [wI, va_up]) ?_
      refine lv_iadd hx hb dX3_leave_28 ?_
      refine tp_i (y := nI (4200 * ch + (w - n))) (by rw [show (4200 : Int32) = nI 4200 from rfl, pk_mul, nI_add]) ?_
      refine lv_icmp_ge (tgt := 66) hx hb dX3_leave_29 (by decide) (fun cc => absurd cc (nI_ge (by omega) (by omega))) (fun _ => ?_)
      refine lv_aload_n hx hb dX3_leave_32 rfl (lv_at hl 1 rfl) ?_
      refine va_get (D := D) (ci := 3) (v := .ref bb) hx hb hts iX3 hown hK hP 0 rfl rfl 4 (by decide) lk13 (fun _ h => h) rfl dX3_leave_33 ?_
      refine lv_iload_n hx hb dX3_leave_36 rfl (lv_at hl 0 rfl) ?_
      refine lv_aload_n hx hb dX3_leave_37 rfl (lv_at hl 1 rfl) ?_
      refine va_get (D := D) (ci := 3) (v := .ref bb) hx hb hts iX3 hown hK hP 0 rfl rfl 4 (by decide) lk13 (fun _ h => h) rfl dX3_leave_38 ?_
      refine lv_iload_n hx hb dX3_leave_41 rfl (lv_at hl 0 rfl) ?_
      refine lv_iload_n hx hb dX3_leave_42 rfl (lv_at hl 3 rfl) ?_
      refine lv_iadd hx hb dX3_leave_43 ?_
      refine tp_i (y := nI (4200 * ch + i + n)) (nI_add _ _) ?_
      refine al_b (k := (4200 * ch + i + n)) hx hb hK hP 1 1 rfl rfl (by omega) (by decide) dX3_leave_44 ?_
      refine tp_i (y := bf (4200 * ch + i + n)) (lwr_out (Or.inr (by omega))) ?_
      refine as_b (k := (4200 * ch + i)) (x := (bf (4200 * ch + i + n))) hx hb hK hP hD hS 1 1 rfl rfl (by omega) (by decide) dX3_leave_45 (fun H locs hP hD hS => ?_)
      have hP : va_P D vwCl [(y, .inr (3, [.int 0, .int (nI len), .ref tp, .int (nI mk), .ref bb, .ref zz, .ref wa, .ref fs, .ref fm, .int (nI fk)])), (bb, .inl (cB, 8400, .inl (upd (lwr bf (4200 * ch) (fun i => i8 (bf (4200 * ch + i + n))) i) (4200 * ch + i) (i8 (bf (4200 * ch + i + n)))))), (zz, .inl (cZ, 8400, .inl (lwr zf (4200 * ch) (fun i => zf (4200 * ch + i + n) &&& 1) i))), (wa, .inl (cA, 2, .inl (wI (va_up ww ch (w - n)))))] H := hP
      have hD : va_D A [(y, .inr (3, [.int 0, .int (nI len), .ref tp, .int (nI mk), .ref bb, .ref zz, .ref wa, .ref fs, .ref fm, .int (nI fk)])), (bb, .inl (cB, 8400, .inl (upd (lwr bf (4200 * ch) (fun i => i8 (bf (4200 * ch + i + n))) i) (4200 * ch + i) (i8 (bf (4200 * ch + i + n)))))), (zz, .inl (cZ, 8400, .inl (lwr zf (4200 * ch) (fun i => zf (4200 * ch + i + n) &&& 1) i))), (wa, .inl (cA, 2, .inl (wI (va_up ww ch (w - n)))))] := hD
      have hP : va_P D vwCl [(y, .inr (3, [.int 0, .int (nI len), .ref tp, .int (nI mk), .ref bb, .ref zz, .ref wa, .ref fs, .ref fm, .int (nI fk)])), (bb, .inl (cB, 8400, .inl (lwr bf (4200 * ch) (fun i => i8 (bf (4200 * ch + i + n))) (i + 1)))), (zz, .inl (cZ, 8400, .inl (lwr zf (4200 * ch) (fun i => zf (4200 * ch + i + n) &&& 1) i))), (wa, .inl (cA, 2, .inl (wI (va_up ww ch (w - n)))))] H := hP
      have hD : va_D A [(y, .inr (3, [.int 0, .int (nI len), .ref tp, .int (nI mk), .ref bb, .ref zz, .ref wa, .ref fs, .ref fm, .int (nI fk)])), (bb, .inl (cB, 8400, .inl (lwr bf (4200 * ch) (fun i => i8 (bf (4200 * ch + i + n))) (i + 1)))), (zz, .inl (cZ, 8400, .inl (lwr zf (4200 * ch) (fun i => zf (4200 * ch + i + n) &&& 1) i))), (wa, .inl (cA, 2, .inl (wI (va_up ww ch (w - n)))))] := hD
      refine lv_aload_n hx hb dX3_leave_46 rfl (lv_at hl 1 rfl) ?_
      refine va_get (D := D) (ci := 3) (v := .ref zz) hx hb hts iX3 hown hK hP 0 rfl rfl 5 (by decide) lk16 (fun _ h => h) rfl dX3_leave_47 ?_
      refine lv_iload_n hx hb dX3_leave_50 rfl (lv_at hl 0 rfl) ?_
      refine lv_aload_n hx hb dX3_leave_51 rfl (lv_at hl 1 rfl) ?_
      refine va_get (D := D) (ci := 3) (v := .ref zz) hx hb hts iX3 hown hK hP 0 rfl rfl 5 (by decide) lk16 (fun _ h => h) rfl dX3_leave_52 ?_
      refine lv_iload_n hx hb dX3_leave_55 rfl (lv_at hl 0 rfl) ?_
      refine lv_iload_n hx hb dX3_leave_56 rfl (lv_at hl 3 rfl) ?_
      refine lv_iadd hx hb dX3_leave_57 ?_
      refine tp_i (y := nI (4200 * ch + i + n)) (nI_add _ _) ?_
      refine al_z (k := (4200 * ch + i + n)) hx hb hK hP 2 2 rfl rfl (by omega) (by decide) dX3_leave_58 ?_
      refine tp_i (y := zf (4200 * ch + i + n)) (lwr_out (Or.inr (by omega))) ?_
      refine as_z (k := (4200 * ch + i)) (x := (zf (4200 * ch + i + n))) hx hb hK hP hD hS 2 2 rfl rfl (by omega) (by decide) dX3_leave_59 (fun H locs hP hD hS => ?_)
      have hP : va_P D vwCl [(y, .inr (3, [.int 0, .int (nI len), .ref tp, .int (nI mk), .ref bb, .ref zz, .ref wa, .ref fs, .ref fm, .int (nI fk)])), (bb, .inl (cB, 8400, .inl (lwr bf (4200 * ch) (fun i => i8 (bf (4200 * ch + i + n))) (i + 1)))), (zz, .inl (cZ, 8400, .inl (upd (lwr zf (4200 * ch) (fun i => zf (4200 * ch + i + n) &&& 1) i) (4200 * ch + i) ((zf (4200 * ch + i + n)) &&& 1)))), (wa, .inl (cA, 2, .inl (wI (va_up ww ch (w - n)))))] H := hP
      have hD : va_D A [(y, .inr (3, [.int 0, .int (nI len), .ref tp, .int (nI mk), .ref bb, .ref zz, .ref wa, .ref fs, .ref fm, .int (nI fk)])), (bb, .inl (cB, 8400, .inl (lwr bf (4200 * ch) (fun i => i8 (bf (4200 * ch + i + n))) (i + 1)))), (zz, .inl (cZ, 8400, .inl (upd (lwr zf (4200 * ch) (fun i => zf (4200 * ch + i + n) &&& 1) i) (4200 * ch + i) ((zf (4200 * ch + i + n)) &&& 1)))), (wa, .inl (cA, 2, .inl (wI (va_up ww ch (w - n)))))] := hD
      have hP : va_P D vwCl [(y, .inr (3, [.int 0, .int (nI len), .ref tp, .int (nI mk), .ref bb, .ref zz, .ref wa, .ref fs, .ref fm, .int (nI fk)])), (bb, .inl (cB, 8400, .inl (lwr bf (4200 * ch) (fun i => i8 (bf (4200 * ch + i + n))) (i + 1)))), (zz, .inl (cZ, 8400, .inl (lwr zf (4200 * ch) (fun i => zf (4200 * ch + i + n) &&& 1) (i + 1)))), (wa, .inl (cA, 2, .inl (wI (va_up ww ch (w - n)))))] H := hP
      have hD : va_D A [(y, .inr (3, [.int 0, .int (nI len), .ref tp, .int (nI mk), .ref bb, .ref zz, .ref wa, .ref fs, .ref fm, .int (nI fk)])), (bb, .inl (cB, 8400, .inl (lwr bf (4200 * ch) (fun i => i8 (bf (4200 * ch + i + n))) (i + 1)))), (zz, .inl (cZ, 8400, .inl (lwr zf (4200 * ch) (fun i => zf (4200 * ch + i + n) &&& 1) (i + 1)))), (wa, .inl (cA, 2, .inl (wI (va_up ww ch (w - n)))))] := hD
      refine lv_iinc (v := nI (4200 * ch + (i + 1))) (lv' := [(3, .int (nI (4200 * ch + (i + 1)))), (0, .ref y), (1, .int (nI ch)), (2, .int (nI n))]) hx hb dX3_leave_60 hl (k := 0) rfl (by rw [← Nat.add_assoc]; exact nI_1 _) (by decide) rfl (fun ls hl => ?_)
      refine lv_goto (tgt := 16) hx hb dX3_leave_63 (by decide) ?_
      exact ih (i + 1) H locs ls (by omega) hP hD hS (lv_sub hl [0, 1, 2, 3] rfl)
  exact loop (w - n) 0 _ _ ls (by omega) hP hD hS (lv_sub hl [0, 1, 2, 3] rfl)

set_option maxHeartbeats 4000000 in
set_option maxRecDepth 100000 in
/-- add(b) -/
theorem c_m_add (l : Launch) (D : va_G) (cA cB cZ : ClassId) (y len tp bb zz wa fs fm mk fk : Nat) (ff : Nat → Int32) (x : Int32) (hk : fk < 256) : MV0 l yX3_add wsM_add { frames := 0, cells := 0, slots := 0, locals := 0 } [.ref y, .int x] D [(cA, .int), (cB, .byte), (cZ, .boolean)] [(y, .inr (3, [.int 0, .int (nI len), .ref tp, .int (nI mk), .ref bb, .ref zz, .ref wa, .ref fs, .ref fm, .int (nI fk)])), (fm, .inl (cB, 256, .inl ff))] [(y, .inr (3, [.int 0, .int (nI len), .ref tp, .int (nI mk), .ref bb, .ref zz, .ref wa, .ref fs, .ref fm, .int (nI (fk + 1))])), (fm, .inl (cB, 256, .inl (upd ff fk (i8 x))))] := by
  refine mt_v (by decide) rfl (Nat.le_of_ble_eq_true rfl) ?_
  intro p e s m below meth c A ls Q hx hb hts hown hml hin hN hK hA hP hD hS hl hex
  have hown : s.vm.findClass RX3 = some m.cls := hown
  have hl : lv_has ls 2 [(0, .ref y), (1, .int x)] := hl
  have iX3 : ∀ w ∈ wsX30, w ∈ wsM_add := by decide +kernel
  have lk27 := hts (.fieldLink RX3 27 "DownFramesModel" "frame" "[B") (by decide +kernel)
  have lk44 := hts (.fieldLink RX3 44 "DownFramesModel" "filled" "I") (by decide +kernel)
  refine lv_aload_n hx hb dX3_add_0 rfl (lv_at hl 0 rfl) ?_
  refine va_get (D := D) (ci := 3) (v := .ref fm) hx hb hts iX3 hown hK hP 0 rfl rfl 8 (by decide) lk27 (fun _ h => h) rfl dX3_add_1 ?_
  refine lv_aload_n hx hb dX3_add_4 rfl (lv_at hl 0 rfl) ?_
  refine va_get (D := D) (ci := 3) (v := .int (nI fk)) hx hb hts iX3 hown hK hP 0 rfl rfl 9 (by decide) lk44 (fun _ h => h) rfl dX3_add_5 ?_
  refine lv_iload_n hx hb dX3_add_8 rfl (lv_at hl 1 rfl) ?_
  refine lv_i2b (v := i8 x) hx hb dX3_add_9 rfl ?_
  refine as_b8 (k := fk) (x := x) hx hb hK hP hD hS 1 1 rfl rfl (hk) (by decide) dX3_add_10 (fun H locs hP hD hS => ?_)
  have hP : va_P D vwCl [(y, .inr (3, [.int 0, .int (nI len), .ref tp, .int (nI mk), .ref bb, .ref zz, .ref wa, .ref fs, .ref fm, .int (nI fk)])), (fm, .inl (cB, 256, .inl (upd ff fk (i8 x))))] H := hP
  have hD : va_D A [(y, .inr (3, [.int 0, .int (nI len), .ref tp, .int (nI mk), .ref bb, .ref zz, .ref wa, .ref fs, .ref fm, .int (nI fk)])), (fm, .inl (cB, 256, .inl (upd ff fk (i8 x))))] := hD
  refine lv_aload_n hx hb dX3_add_11 rfl (lv_at hl 0 rfl) ?_
  refine lv_dup hx hb dX3_add_12 rfl ?_
  refine va_get (D := D) (ci := 3) (v := .int (nI fk)) hx hb hts iX3 hown hK hP 0 rfl rfl 9 (by decide) lk44 (fun _ h => h) rfl dX3_add_13 ?_
  refine lv_iconst (v := 1) hx hb dX3_add_16 (by decide) ?_
  refine lv_iadd hx hb dX3_add_17 ?_
  refine tp_i (y := nI (fk + 1)) (nI_1 fk) ?_
  refine va_put (D := D) (ci := 3) (v := .int (nI (fk + 1))) (ty := (.int)) hx hb hts iX3 tyX3 tyX3_ok nmX3 hown hK hP hD hS 0 rfl rfl 9 (by decide) lk44 (fun _ h => h) rfl (by decide +kernel) rfl rfl (Nat.le_of_ble_eq_true rfl) dX3_add_18 (fun H locs hP hD hS => ?_)
  have hP : va_P D vwCl [(y, .inr (3, [.int 0, .int (nI len), .ref tp, .int (nI mk), .ref bb, .ref zz, .ref wa, .ref fs, .ref fm, .int (nI (fk + 1))])), (fm, .inl (cB, 256, .inl (upd ff fk (i8 x))))] H := hP
  have hD : va_D A [(y, .inr (3, [.int 0, .int (nI len), .ref tp, .int (nI mk), .ref bb, .ref zz, .ref wa, .ref fs, .ref fm, .int (nI (fk + 1))])), (fm, .inl (cB, 256, .inl (upd ff fk (i8 x))))] := hD
  exact hex _ _ _ _ () hS (trivial) hP hD dX3_add_21

set_option maxHeartbeats 4000000 in
set_option maxRecDepth 100000 in
/-- check() -/
theorem c_m_check (l : Launch) (D : va_G) (cA cB cZ : ClassId) (y len tp bb zz wa fs fm mk fk : Nat) (ff : Nat → Int32) (hk : fk ≤ 256) : MI0 l yX3_check wsM_check { frames := 0, cells := 0, slots := 0, locals := 0 } [.ref y] D [(cA, .int), (cB, .byte), (cZ, .boolean)] [(y, .inr (3, [.int 0, .int (nI len), .ref tp, .int (nI mk), .ref bb, .ref zz, .ref wa, .ref fs, .ref fm, .int (nI fk)])), (fm, .inl (cB, 256, .inl ff))] (crcM ff fk) [(y, .inr (3, [.int 0, .int (nI len), .ref tp, .int (nI mk), .ref bb, .ref zz, .ref wa, .ref fs, .ref fm, .int (nI fk)])), (fm, .inl (cB, 256, .inl ff))] := by
  refine mt_i (by decide) rfl (Nat.le_of_ble_eq_true rfl) ?_
  intro p e s m below meth c A ls Q hx hb hts hown hml hin hN hK hA hP hD hS hl hex
  have hown : s.vm.findClass RX3 = some m.cls := hown
  have hl : lv_has ls 4 [(0, .ref y)] := hl
  have iX3 : ∀ w ∈ wsX30, w ∈ wsM_check := by decide +kernel
  have k47 := hts (.constant RX3 47 65535) (by decide +kernel)
  have k48 := hts (.constant RX3 48 65536) (by decide +kernel)
  have k49 := hts (.constant RX3 49 69665) (by decide +kernel)
  have lk27 := hts (.fieldLink RX3 27 "DownFramesModel" "frame" "[B") (by decide +kernel)
  have lk44 := hts (.fieldLink RX3 44 "DownFramesModel" "filled" "I") (by decide +kernel)
  refine lv_ldc hx hb hown k47 dX3_check_0 ?_
  refine lv_istore_n (lv' := [(1, .int 65535), (0, .ref y)]) hx hb dX3_check_2 rfl hl (by decide) rfl (fun ls hl => ?_)
  refine lv_iconst (v := 0) hx hb dX3_check_3 (by decide) ?_
  refine lv_istore_n (lv' := [(2, .int 0), (1, .int 65535), (0, .ref y)]) hx hb dX3_check_4 rfl hl (by decide) rfl (fun ls hl => ?_)
  have inner : ∀ (q i : Nat) (x : Int32) (ls : Array Slot), q ≤ 8 → lv_has ls 4 [(3, .int (nI (8 - q))), (1, .int x), (2, .int (nI i)), (0, .ref y)] → (∀ ls : Array Slot, lv_has ls 4 [(1, .int (crBM q x)), (2, .int (nI i)), (0, .ref y)] → W p l e ({ frames := 0, cells := 0, slots := 0, locals := 0 } : Room) s m ([.ref y] : List Value).toArray below meth c s.heap [] 0 0 Q (F0 m 63 ls [])) → W p l e ({ frames := 0, cells := 0, slots := 0, locals := 0 } : Room) s m ([.ref y] : List Value).toArray below meth c s.heap [] 0 0 Q (F0 m 32 ls []) := by
    intro q
    induction q with
    | zero =>
      intro i x ls hq hl k
      refine lv_iload_n hx hb dX3_check_32 rfl (lv_at hl 0 rfl) ?_
      refine lv_bipush (v := 8) hx hb dX3_check_33 (by decide +kernel) ?_
      refine lv_icmp_ge (tgt := 63) hx hb dX3_check_35 (by decide) (fun _ => ?_) (fun cc => absurd (by decide) cc)
      exact k ls (lv_sub hl [1, 2, 3] rfl)
    | succ q ih =>
      intro i x ls hq hl k
      refine lv_iload_n hx hb dX3_check_32 rfl (lv_at hl 0 rfl) ?_
      refine lv_bipush (v := 8) hx hb dX3_check_33 (by decide +kernel) ?_
      refine lv_icmp_ge (tgt := 63) hx hb dX3_check_35 (by decide) (fun cc => absurd cc (nI_ge (b := 8) (by omega) (by decide))) (fun _ => ?_)
      refine lv_iconst (v := 2) hx hb dX3_check_38 (by decide) ?_
      refine lv_iload_n hx hb dX3_check_39 rfl (lv_at hl 1 rfl) ?_
      refine lv_imul hx hb dX3_check_40 ?_
      refine lv_istore_n (lv' := [(1, .int (2 * x)), (3, .int (nI (8 - (q + 1)))), (2, .int (nI i)), (0, .ref y)]) hx hb dX3_check_41 rfl hl (by decide) rfl (fun ls hl => ?_)
      refine lv_iload_n hx hb dX3_check_42 rfl (lv_at hl 0 rfl) ?_
      refine lv_ldc hx hb hown k48 dX3_check_43 ?_
      refine lv_icmp_lt (tgt := 55) hx hb dX3_check_45 (by decide) (fun c1 => ?_) (fun c1 => ?_)
      · refine lv_iload_n hx hb dX3_check_55 rfl (lv_at hl 0 rfl) ?_
        refine lv_istore_n (lv' := [(1, .int (2 * x)), (3, .int (nI (8 - (q + 1)))), (2, .int (nI i)), (0, .ref y)]) hx hb dX3_check_56 rfl hl (by decide) rfl (fun ls hl => ?_)
        refine lv_iinc (v := nI (8 - q)) (lv' := [(3, .int (nI (8 - q))), (1, .int (2 * x)), (2, .int (nI i)), (0, .ref y)]) hx hb dX3_check_57 hl (k := 1) rfl (by rw [show 8 - q = 8 - (q + 1) + 1 by omega]; exact nI_1 _) (by decide) rfl (fun ls hl => ?_)
        refine lv_goto (tgt := 32) hx hb dX3_check_60 (by decide) ?_
        have e : crBM q (2 * x) = crBM (q + 1) x := by simp only [crBM, crSM]; rw [if_pos c1]
        exact ih i (2 * x) ls (by omega) (lv_sub hl [0, 1, 2, 3] rfl) (fun ls hl => k ls (by rw [← e]; exact hl))
      · refine lv_iload_n hx hb dX3_check_48 rfl (lv_at hl 0 rfl) ?_
        refine lv_ldc hx hb hown k49 dX3_check_49 ?_
        refine lv_ixor hx hb dX3_check_51 ?_
        refine lv_goto (tgt := 56) hx hb dX3_check_52 (by decide) ?_
        refine lv_istore_n (lv' := [(1, .int ((2 * x) ^^^ 69665)), (3, .int (nI (8 - (q + 1)))), (2, .int (nI i)), (0, .ref y)]) hx hb dX3_check_56 rfl hl (by decide) rfl (fun ls hl => ?_)
        refine lv_iinc (v := nI (8 - q)) (lv' := [(3, .int (nI (8 - q))), (1, .int ((2 * x) ^^^ 69665)), (2, .int (nI i)), (0, .ref y)]) hx hb dX3_check_57 hl (k := 1) rfl (by rw [show 8 - q = 8 - (q + 1) + 1 by omega]; exact nI_1 _) (by decide) rfl (fun ls hl => ?_)
        refine lv_goto (tgt := 32) hx hb dX3_check_60 (by decide) ?_
        have e : crBM q ((2 * x) ^^^ 69665) = crBM (q + 1) x := by simp only [crBM, crSM]; rw [if_neg c1]
        exact ih i ((2 * x) ^^^ 69665) ls (by omega) (lv_sub hl [0, 1, 2, 3] rfl) (fun ls hl => k ls (by rw [← e]; exact hl))
  have outer : ∀ (d i : Nat) (ls : Array Slot), i + d = fk → lv_has ls 4 [(2, .int (nI i)), (1, .int (crcM ff i)), (0, .ref y)] → W p l e ({ frames := 0, cells := 0, slots := 0, locals := 0 } : Room) s m ([.ref y] : List Value).toArray below meth c s.heap [] 0 0 Q (F0 m 5 ls []) := by
    intro d
    induction d with
    | zero =>
      intro i ls hi hl
      have hi : i = fk := hi
      rw [hi] at hl
      refine lv_iload_n hx hb dX3_check_5 rfl (lv_at hl 0 rfl) ?_
      refine lv_aload_n hx hb dX3_check_6 rfl (lv_at hl 2 rfl) ?_
      refine va_get (D := D) (ci := 3) (v := .int (nI fk)) hx hb hts iX3 hown hK hP 0 rfl rfl 9 (by decide) lk44 (fun _ h => h) rfl dX3_check_7 ?_
      refine lv_icmp_ge (tgt := 69) hx hb dX3_check_10 (by decide) (fun _ => ?_) (fun cc => absurd (nI_le (Nat.le_refl _) (by omega)) cc)
      refine lv_iload_n hx hb dX3_check_69 rfl (lv_at hl 1 rfl) ?_
      exact hex _ _ _ _ _ () hS (rfl) hP hD dX3_check_70
    | succ d ih =>
      intro i ls hi hl
      refine lv_iload_n hx hb dX3_check_5 rfl (lv_at hl 0 rfl) ?_
      refine lv_aload_n hx hb dX3_check_6 rfl (lv_at hl 2 rfl) ?_
      refine va_get (D := D) (ci := 3) (v := .int (nI fk)) hx hb hts iX3 hown hK hP 0 rfl rfl 9 (by decide) lk44 (fun _ h => h) rfl dX3_check_7 ?_
      refine lv_icmp_ge (tgt := 69) hx hb dX3_check_10 (by decide) (fun cc => absurd cc (nI_ge (by omega) (by omega))) (fun _ => ?_)
      refine lv_iload_n hx hb dX3_check_13 rfl (lv_at hl 1 rfl) ?_
      refine lv_aload_n hx hb dX3_check_14 rfl (lv_at hl 2 rfl) ?_
      refine va_get (D := D) (ci := 3) (v := .ref fm) hx hb hts iX3 hown hK hP 0 rfl rfl 8 (by decide) lk27 (fun _ h => h) rfl dX3_check_15 ?_
      refine lv_iload_n hx hb dX3_check_18 rfl (lv_at hl 0 rfl) ?_
      refine al_b (k := i) hx hb hK hP 1 1 rfl rfl (by omega) (by decide) dX3_check_19 ?_
      refine lv_sipush (v := 255) hx hb dX3_check_20 (by decide +kernel) ?_
      refine lv_iand hx hb dX3_check_23 ?_
      refine lv_sipush (v := 256) hx hb dX3_check_24 (by decide +kernel) ?_
      refine lv_imul hx hb dX3_check_27 ?_
      refine lv_ixor hx hb dX3_check_28 ?_
      refine lv_istore_n (lv' := [(1, .int ((crcM ff i) ^^^ (((ff i) &&& 255) * 256))), (2, .int (nI i)), (0, .ref y)]) hx hb dX3_check_29 rfl hl (by decide) rfl (fun ls hl => ?_)
      refine lv_iconst (v := 0) hx hb dX3_check_30 (by decide) ?_
      refine lv_istore_n (lv' := [(3, .int 0), (1, .int ((crcM ff i) ^^^ (((ff i) &&& 255) * 256))), (2, .int (nI i)), (0, .ref y)]) hx hb dX3_check_31 rfl hl (by decide) rfl (fun ls hl => ?_)
      refine inner 8 i _ ls (by decide) (lv_sub hl [0, 1, 2, 3] rfl) (fun ls hl => ?_)
      refine lv_iinc (v := nI (i + 1)) (lv' := [(2, .int (nI (i + 1))), (1, .int (crcM ff (i + 1))), (0, .ref y)]) hx hb dX3_check_63 hl (k := 1) rfl (nI_1 _) (by decide) rfl (fun ls hl => ?_)
      refine lv_goto (tgt := 5) hx hb dX3_check_66 (by decide) ?_
      exact ih (i + 1) ls (by omega) (lv_sub hl [0, 1, 2] rfl)
  exact outer fk 0 ls (by omega) (lv_sub hl [0, 1, 2] rfl)
end
section
/-- is the tape a packet, as the reference says it -/
def hpkM (tg : Nat → Int32) (mk : Nat) : Int32 := if mk ≤ 6 then 0 else if nI mk = (7 + (256 * (tg 4 &&& 255))) + (tg 5 &&& 255) then 1 else 0
def mat (ff : Nat → Int32) (fk : Nat) (z : Int32) : Int32 := if ¬ z < 0 ∧ ¬ nI fk ≤ z then ff z.toNatClampNeg &&& 255 else -1
theorem mat_val {f : Nat → Int32} {k j : Nat} (hj : j < 2 ^ 31) (c1 : ¬ nI j < 0) (c2 : ¬ nI k ≤ nI j) : f j &&& 255 = mat f k (nI j) := by
  unfold mat
  rw [if_pos ⟨c1, c2⟩, nI_clamp hj]
theorem clI_lo {z : Int32} (h : ¬ 64 ≤ z) : 64 = nI (clN z) := by
  rw [← (clI_nat z).1]
  have a : ¬ (64 : Int) ≤ z.toInt := fun q => h (Int32.le_iff_toInt_le.mpr q)
  unfold clI
  have h1 : z < 256 := Int32.lt_iff_toInt_lt.mpr (show z.toInt < 256 by omega)
  have h2 : ¬ 64 < z := fun q => by have h3 : (64 : Int) < z.toInt := Int32.lt_iff_toInt_lt.mp q; omega
  rw [if_pos h1, if_neg h2]
theorem clI_hi {z : Int32} (h : ¬ z ≤ 256) : 256 = nI (clN z) := by
  rw [← (clI_nat z).1]
  have a : ¬ z.toInt ≤ (256 : Int) := fun q => h (Int32.le_iff_toInt_le.mpr q)
  unfold clI
  have h1 : ¬ z < 256 := fun q => by have h3 : z.toInt < (256 : Int) := Int32.lt_iff_toInt_lt.mp q; omega
  rw [if_neg h1, if_pos (by decide)]
theorem clI_mid {z : Int32} (h : 64 ≤ z) (h2 : z ≤ 256) : z = nI (clN z) := by
  rw [← (clI_nat z).1]
  have a : (64 : Int) ≤ z.toInt := Int32.le_iff_toInt_le.mp h
  have b : z.toInt ≤ (256 : Int) := Int32.le_iff_toInt_le.mp h2
  unfold clI
  by_cases q : z < 256
  · rw [if_pos q]
    by_cases r : 64 < z
    · rw [if_pos r]
    · rw [if_neg r]
      have : ¬ (64 : Int) < z.toInt := fun t => r (Int32.lt_iff_toInt_lt.mpr t)
      exact Int32.toInt_inj.mp (show z.toInt = 64 by omega)
  · rw [if_neg q, if_pos (by decide)]
    have : ¬ z.toInt < (256 : Int) := fun t => q (Int32.lt_iff_toInt_lt.mpr t)
    exact Int32.toInt_inj.mp (show z.toInt = 256 by omega)

set_option maxHeartbeats 4000000 in
set_option maxRecDepth 100000 in
/-- give, refused -/
theorem c_m_give0 (l : Launch) (D : va_G) (cA cB cZ : ClassId) (y len tp bb zz wa fs fm mk fk : Nat) (tg : Nat → Int32) (w : Int64) (z : Int32) (hz : z < 1 ∨ 8 < z ∨ ¬ nI mk ≤ 1024 - z) : MI0 l yX3_give wsM_give { frames := 0, cells := 0, slots := 0, locals := 0 } [.ref y, .long w, .int z] D [(cA, .int), (cB, .byte), (cZ, .boolean)] [(y, .inr (3, [.int 0, .int (nI len), .ref tp, .int (nI mk), .ref bb, .ref zz, .ref wa, .ref fs, .ref fm, .int (nI fk)])), (tp, .inl (cB, 1024, .inl tg))] 0 [(y, .inr (3, [.int 0, .int (nI len), .ref tp, .int (nI mk), .ref bb, .ref zz, .ref wa, .ref fs, .ref fm, .int (nI fk)])), (tp, .inl (cB, 1024, .inl tg))] := by
  refine mt_z (by decide) rfl (Nat.le_of_ble_eq_true rfl) (fun v u h => Or.inl h) ?_
  intro p e s m below meth c A ls Q hx hb hts hown hml hin hN hK hA hP hD hS hl hex
  have hown : s.vm.findClass RX3 = some m.cls := hown
  have hl : lv_has ls 5 [(0, .ref y), (1, .long w), (3, .int z)] := hl
  have iX3 : ∀ w ∈ wsX30, w ∈ wsM_give := by decide +kernel
  have lk34 := hts (.fieldLink RX3 34 "DownFramesModel" "thrown" "I") (by decide +kernel)
  have lk37 := hts (.fieldLink RX3 37 "DownFramesModel" "many" "I") (by decide +kernel)
  refine lv_aload_n hx hb dX3_give_0 rfl (lv_at hl 0 rfl) ?_
  refine lv_iconst (v := 0) hx hb dX3_give_1 (by decide) ?_
  refine va_put (D := D) (ci := 3) (v := .int 0) (ty := (.int)) hx hb hts iX3 tyX3 tyX3_ok nmX3 hown hK hP hD hS 0 rfl rfl 0 (by decide) lk34 (fun _ h => h) rfl (by decide +kernel) rfl rfl (Nat.le_of_ble_eq_true rfl) dX3_give_2 (fun H locs hP hD hS => ?_)
  have hP : va_P D vwCl [(y, .inr (3, [.int 0, .int (nI len), .ref tp, .int (nI mk), .ref bb, .ref zz, .ref wa, .ref fs, .ref fm, .int (nI fk)])), (tp, .inl (cB, 1024, .inl tg))] H := hP
  have hD : va_D A [(y, .inr (3, [.int 0, .int (nI len), .ref tp, .int (nI mk), .ref bb, .ref zz, .ref wa, .ref fs, .ref fm, .int (nI fk)])), (tp, .inl (cB, 1024, .inl tg))] := hD
  refine lv_iload_n hx hb dX3_give_5 rfl (lv_at hl 2 rfl) ?_
  refine lv_iconst (v := 1) hx hb dX3_give_6 (by decide) ?_
  refine lv_icmp_lt (tgt := 28) hx hb dX3_give_7 (by decide) (fun z1 => ?_) (fun z1 => ?_)
  · refine lv_iconst (v := 0) hx hb dX3_give_28 (by decide) ?_
    exact hex _ _ _ _ _ () hS (rfl) hP hD dX3_give_29
  · refine lv_iload_n hx hb dX3_give_10 rfl (lv_at hl 2 rfl) ?_
    refine lv_bipush (v := 8) hx hb dX3_give_11 (by decide +kernel) ?_
    refine lv_icmp_gt (tgt := 28) hx hb dX3_give_13 (by decide) (fun z2 => ?_) (fun z2 => ?_)
    · refine lv_iconst (v := 0) hx hb dX3_give_28 (by decide) ?_
      exact hex _ _ _ _ _ () hS (rfl) hP hD dX3_give_29
    · refine lv_aload_n hx hb dX3_give_16 rfl (lv_at hl 0 rfl) ?_
      refine va_get (D := D) (ci := 3) (v := .int (nI mk)) hx hb hts iX3 hown hK hP 0 rfl rfl 3 (by decide) lk37 (fun _ h => h) rfl dX3_give_17 ?_
      refine lv_sipush (v := 1024) hx hb dX3_give_20 (by decide +kernel) ?_
      refine lv_iload_n hx hb dX3_give_23 rfl (lv_at hl 2 rfl) ?_
      refine lv_isub hx hb dX3_give_24 ?_
      refine lv_icmp_le (tgt := 30) hx hb dX3_give_25 (by decide) (fun z3 => ?_) (fun z3 => ?_)
      · exact absurd hz (fun q => by rcases q with q | q | q; exact z1 q; exact z2 q; exact q z3)
      · refine lv_iconst (v := 0) hx hb dX3_give_28 (by decide) ?_
        exact hex _ _ _ _ _ () hS (rfl) hP hD dX3_give_29

set_option maxHeartbeats 4000000 in
set_option maxRecDepth 100000 in
/-- give, taken -/
theorem c_m_give1 (l : Launch) (D : va_G) (cA cB cZ : ClassId) (y len tp bb zz wa fs fm mk fk : Nat) (tg : Nat → Int32) (w : Int64) (j : Nat) (h1 : 1 ≤ j) (h8 : j ≤ 8) (hj : mk + j ≤ 1024) : MI0 l yX3_give wsM_give { frames := 0, cells := 0, slots := 0, locals := 0 } [.ref y, .long w, .int (nI j)] D [(cA, .int), (cB, .byte), (cZ, .boolean)] [(y, .inr (3, [.int 0, .int (nI len), .ref tp, .int (nI mk), .ref bb, .ref zz, .ref wa, .ref fs, .ref fm, .int (nI fk)])), (tp, .inl (cB, 1024, .inl tg))] 1 [(y, .inr (3, [.int 0, .int (nI len), .ref tp, .int (nI (mk + j)), .ref bb, .ref zz, .ref wa, .ref fs, .ref fm, .int (nI fk)])), (tp, .inl (cB, 1024, .inl (lwr tg mk (gvm w) j)))] := by
  refine mt_z (by decide) rfl (Nat.le_of_ble_eq_true rfl) (fun v u h => Or.inr h) ?_
  intro p e s m below meth c A ls Q hx hb hts hown hml hin hN hK hA hP hD hS hl hex
  have hown : s.vm.findClass RX3 = some m.cls := hown
  have hl : lv_has ls 5 [(0, .ref y), (1, .long w), (3, .int (nI j))] := hl
  have iX3 : ∀ w ∈ wsX30, w ∈ wsM_give := by decide +kernel
  have lk34 := hts (.fieldLink RX3 34 "DownFramesModel" "thrown" "I") (by decide +kernel)
  have lk37 := hts (.fieldLink RX3 37 "DownFramesModel" "many" "I") (by decide +kernel)
  have lk7 := hts (.fieldLink RX3 7 "DownFramesModel" "tape" "[B") (by decide +kernel)
  refine lv_aload_n hx hb dX3_give_0 rfl (lv_at hl 0 rfl) ?_
  refine lv_iconst (v := 0) hx hb dX3_give_1 (by decide) ?_
  refine va_put (D := D) (ci := 3) (v := .int 0) (ty := (.int)) hx hb hts iX3 tyX3 tyX3_ok nmX3 hown hK hP hD hS 0 rfl rfl 0 (by decide) lk34 (fun _ h => h) rfl (by decide +kernel) rfl rfl (Nat.le_of_ble_eq_true rfl) dX3_give_2 (fun H locs hP hD hS => ?_)
  have hP : va_P D vwCl [(y, .inr (3, [.int 0, .int (nI len), .ref tp, .int (nI mk), .ref bb, .ref zz, .ref wa, .ref fs, .ref fm, .int (nI fk)])), (tp, .inl (cB, 1024, .inl tg))] H := hP
  have hD : va_D A [(y, .inr (3, [.int 0, .int (nI len), .ref tp, .int (nI mk), .ref bb, .ref zz, .ref wa, .ref fs, .ref fm, .int (nI fk)])), (tp, .inl (cB, 1024, .inl tg))] := hD
  refine lv_iload_n hx hb dX3_give_5 rfl (lv_at hl 2 rfl) ?_
  refine lv_iconst (v := 1) hx hb dX3_give_6 (by decide) ?_
  refine lv_icmp_lt (tgt := 28) hx hb dX3_give_7 (by decide) (fun cc => absurd cc (nI_nlt (b := 1) h1 (by omega))) (fun _ => ?_)
  refine lv_iload_n hx hb dX3_give_10 rfl (lv_at hl 2 rfl) ?_
  refine lv_bipush (v := 8) hx hb dX3_give_11 (by decide +kernel) ?_
  refine lv_icmp_gt (tgt := 28) hx hb dX3_give_13 (by decide) (fun cc => absurd cc (nI_nlt (a := 8) h8 (by decide))) (fun _ => ?_)
  refine lv_aload_n hx hb dX3_give_16 rfl (lv_at hl 0 rfl) ?_
  refine va_get (D := D) (ci := 3) (v := .int (nI mk)) hx hb hts iX3 hown hK hP 0 rfl rfl 3 (by decide) lk37 (fun _ h => h) rfl dX3_give_17 ?_
  refine lv_sipush (v := 1024) hx hb dX3_give_20 (by decide +kernel) ?_
  refine lv_iload_n hx hb dX3_give_23 rfl (lv_at hl 2 rfl) ?_
  refine lv_isub hx hb dX3_give_24 ?_
  refine lv_icmp_le (tgt := 30) hx hb dX3_give_25 (by decide) (fun _ => ?_) (fun cc => absurd (by rw [show (1024 : Int32) = nI 1024 from rfl, pk_sub (by omega)]; exact nI_le (by omega) (by omega)) cc)
  refine lv_iconst (v := 0) hx hb dX3_give_30 (by decide) ?_
  refine lv_istore (lv' := [(4, .int 0), (0, .ref y), (1, .long w), (3, .int (nI j))]) hx hb dX3_give_31 hl (by decide) rfl (fun ls hl => ?_)
  have loop : ∀ (d i : Nat) (H : Heap) (locs : List Loc) (ls : Array Slot), i + d = j → va_P D vwCl [(y, .inr (3, [.int 0, .int (nI len), .ref tp, .int (nI mk), .ref bb, .ref zz, .ref wa, .ref fs, .ref fm, .int (nI fk)])), (tp, .inl (cB, 1024, .inl (lwr tg mk (gvm w) i)))] H → va_D A [(y, .inr (3, [.int 0, .int (nI len), .ref tp, .int (nI mk), .ref bb, .ref zz, .ref wa, .ref fs, .ref fm, .int (nI fk)])), (tp, .inl (cB, 1024, .inl (lwr tg mk (gvm w) i)))] → va_S A s.heap H locs → lv_has ls 5 [(4, .int (nI i)), (0, .ref y), (1, .long w), (3, .int (nI j))] → W p l e ({ frames := 0, cells := 0, slots := 0, locals := 0 } : Room) s m ([.ref y, .long w, .int (nI j)] : List Value).toArray below meth c H locs 0 0 Q (F0 m 33 ls []) := by
    intro d
    induction d with
    | zero =>
      intro i H locs ls hi hP hD hS hl
      have hi : i = j := hi
      rw [hi] at hP hD hl
      refine lv_iload hx hb dX3_give_33 (lv_at hl 0 rfl) ?_
      refine lv_iload_n hx hb dX3_give_35 rfl (lv_at hl 3 rfl) ?_
      refine lv_icmp_ge (tgt := 69) hx hb dX3_give_36 (by decide) (fun _ => ?_) (fun cc => absurd (nI_le (Nat.le_refl _) (by omega)) cc)
      refine lv_aload_n hx hb dX3_give_69 rfl (lv_at hl 1 rfl) ?_
      refine lv_dup hx hb dX3_give_70 rfl ?_
      refine va_get (D := D) (ci := 3) (v := .int (nI mk)) hx hb hts iX3 hown hK hP 0 rfl rfl 3 (by decide) lk37 (fun _ h => h) rfl dX3_give_71 ?_
      refine lv_iload_n hx hb dX3_give_74 rfl (lv_at hl 3 rfl) ?_
      refine lv_iadd hx hb dX3_give_75 ?_
      refine tp_i (y := nI (mk + j)) (nI_add _ _) ?_
      refine va_put (D := D) (ci := 3) (v := .int (nI (mk + j))) (ty := (.int)) hx hb hts iX3 tyX3 tyX3_ok nmX3 hown hK hP hD hS 0 rfl rfl 3 (by decide) lk37 (fun _ h => h) rfl (by decide +kernel) rfl rfl (Nat.le_of_ble_eq_true rfl) dX3_give_76 (fun H locs hP hD hS => ?_)
      have hP : va_P D vwCl [(y, .inr (3, [.int 0, .int (nI len), .ref tp, .int (nI (mk + j)), .ref bb, .ref zz, .ref wa, .ref fs, .ref fm, .int (nI fk)])), (tp, .inl (cB, 1024, .inl (lwr tg mk (gvm w) j)))] H := hP
      have hD : va_D A [(y, .inr (3, [.int 0, .int (nI len), .ref tp, .int (nI (mk + j)), .ref bb, .ref zz, .ref wa, .ref fs, .ref fm, .int (nI fk)])), (tp, .inl (cB, 1024, .inl (lwr tg mk (gvm w) j)))] := hD
      refine lv_iconst (v := 1) hx hb dX3_give_79 (by decide) ?_
      exact hex _ _ _ _ _ () hS (rfl) hP hD dX3_give_80
    | succ d ih =>
      intro i H locs ls hi hP hD hS hl
      refine lv_iload hx hb dX3_give_33 (lv_at hl 0 rfl) ?_
      refine lv_iload_n hx hb dX3_give_35 rfl (lv_at hl 3 rfl) ?_
      refine lv_icmp_ge (tgt := 69) hx hb dX3_give_36 (by decide) (fun cc => absurd cc (nI_ge (by omega) (by omega))) (fun _ => ?_)
      refine lv_aload_n hx hb dX3_give_39 rfl (lv_at hl 1 rfl) ?_
      refine va_get (D := D) (ci := 3) (v := .ref tp) hx hb hts iX3 hown hK hP 0 rfl rfl 2 (by decide) lk7 (fun _ h => h) rfl dX3_give_40 ?_
      refine lv_aload_n hx hb dX3_give_43 rfl (lv_at hl 1 rfl) ?_
      refine va_get (D := D) (ci := 3) (v := .int (nI mk)) hx hb hts iX3 hown hK hP 0 rfl rfl 3 (by decide) lk37 (fun _ h => h) rfl dX3_give_44 ?_
      refine lv_iload hx hb dX3_give_47 (lv_at hl 0 rfl) ?_
      refine lv_iadd hx hb dX3_give_49 ?_
      refine tp_i (y := nI (mk + i)) (nI_add _ _) ?_
      refine lv_lload_n hx hb dX3_give_50 rfl (lv_at hl 2 rfl) ?_
      refine lv_bipush (v := 56) hx hb dX3_give_51 (by decide +kernel) ?_
      refine lv_bipush (v := 8) hx hb dX3_give_53 (by decide +kernel) ?_
      refine lv_iload hx hb dX3_give_55 (lv_at hl 0 rfl) ?_
      refine lv_imul hx hb dX3_give_57 ?_
      refine lv_isub hx hb dX3_give_58 ?_
      refine lv_lshr (v := lsa w (56 - (8 * (nI i)))) hx hb dX3_give_59 rfl ?_
      refine lv_l2i (v := ((lsa w (56 - (8 * (nI i))))).toInt32) hx hb dX3_give_60 rfl ?_
      refine lv_i2b (v := i8 (((lsa w (56 - (8 * (nI i))))).toInt32)) hx hb dX3_give_61 rfl ?_
      refine as_b8 (k := (mk + i)) (x := (((lsa w (56 - (8 * (nI i))))).toInt32)) hx hb hK hP hD hS 1 1 rfl rfl (by omega) (by decide) dX3_give_62 (fun H locs hP hD hS => ?_)
      have hP : va_P D vwCl [(y, .inr (3, [.int 0, .int (nI len), .ref tp, .int (nI mk), .ref bb, .ref zz, .ref wa, .ref fs, .ref fm, .int (nI fk)])), (tp, .inl (cB, 1024, .inl (upd (lwr tg mk (gvm w) i) (mk + i) (i8 (((lsa w (56 - (8 * (nI i))))).toInt32)))))] H := hP
      have hD : va_D A [(y, .inr (3, [.int 0, .int (nI len), .ref tp, .int (nI mk), .ref bb, .ref zz, .ref wa, .ref fs, .ref fm, .int (nI fk)])), (tp, .inl (cB, 1024, .inl (upd (lwr tg mk (gvm w) i) (mk + i) (i8 (((lsa w (56 - (8 * (nI i))))).toInt32)))))] := hD
      have hP : va_P D vwCl [(y, .inr (3, [.int 0, .int (nI len), .ref tp, .int (nI mk), .ref bb, .ref zz, .ref wa, .ref fs, .ref fm, .int (nI fk)])), (tp, .inl (cB, 1024, .inl (lwr tg mk (gvm w) (i + 1))))] H := hP
      have hD : va_D A [(y, .inr (3, [.int 0, .int (nI len), .ref tp, .int (nI mk), .ref bb, .ref zz, .ref wa, .ref fs, .ref fm, .int (nI fk)])), (tp, .inl (cB, 1024, .inl (lwr tg mk (gvm w) (i + 1))))] := hD
      refine lv_iinc (v := nI (i + 1)) (lv' := [(4, .int (nI (i + 1))), (0, .ref y), (1, .long w), (3, .int (nI j))]) hx hb dX3_give_63 hl (k := 0) rfl (nI_1 _) (by decide) rfl (fun ls hl => ?_)
      refine lv_goto (tgt := 33) hx hb dX3_give_66 (by decide) ?_
      exact ih (i + 1) H locs ls (by omega) hP hD hS (lv_sub hl [0, 1, 2, 3] rfl)
  exact loop j 0 _ _ ls (by omega) hP hD hS (lv_sub hl [0, 1, 2, 3] rfl)

set_option maxHeartbeats 4000000 in
set_option maxRecDepth 100000 in
/-- send, refused -/
theorem c_m_send0 (l : Launch) (D : va_G) (cA cB cZ : ClassId) (y len tp bb zz wa fs fm mk fk : Nat) (tg : Nat → Int32) (bf zf : Nat → Int32) (ww : Nat → Nat) (z : Int32) (hm : mk ≤ 1024) (hz : z < 0 ∨ 1 < z ∨ hpkM tg mk = 0) : MI0 l yX3_send wsM_send { frames := 1, cells := 0, slots := 0, locals := 23 } [.ref y, .int z] D [(cA, .int), (cB, .byte), (cZ, .boolean)] [(y, .inr (3, [.int 0, .int (nI len), .ref tp, .int (nI mk), .ref bb, .ref zz, .ref wa, .ref fs, .ref fm, .int (nI fk)])), (tp, .inl (cB, 1024, .inl tg)), (bb, .inl (cB, 8400, .inl bf)), (zz, .inl (cZ, 8400, .inl zf)), (wa, .inl (cA, 2, .inl (wI ww)))] (-1) [(y, .inr (3, [.int 0, .int (nI len), .ref tp, .int (nI 0), .ref bb, .ref zz, .ref wa, .ref fs, .ref fm, .int (nI fk)])), (tp, .inl (cB, 1024, .inl tg)), (bb, .inl (cB, 8400, .inl bf)), (zz, .inl (cZ, 8400, .inl zf)), (wa, .inl (cA, 2, .inl (wI ww)))] := by
  refine mt_i (by decide) rfl (Nat.le_of_ble_eq_true rfl) ?_
  intro p e s m below meth c A ls Q hx hb hts hown hml hin hN hK hA hP hD hS hl hex
  have hown : s.vm.findClass RX3 = some m.cls := hown
  have hl : lv_has ls 5 [(0, .ref y), (1, .int z)] := hl
  have iX3 : ∀ w ∈ wsX30, w ∈ wsM_send := by decide +kernel
  have lk34 := hts (.fieldLink RX3 34 "DownFramesModel" "thrown" "I") (by decide +kernel)
  have lk37 := hts (.fieldLink RX3 37 "DownFramesModel" "many" "I") (by decide +kernel)
  have lk7 := hts (.fieldLink RX3 7 "DownFramesModel" "tape" "[B") (by decide +kernel)
  refine lv_aload_n hx hb dX3_send_0 rfl (lv_at hl 0 rfl) ?_
  refine lv_iconst (v := 0) hx hb dX3_send_1 (by decide) ?_
  refine va_put (D := D) (ci := 3) (v := .int 0) (ty := (.int)) hx hb hts iX3 tyX3 tyX3_ok nmX3 hown hK hP hD hS 0 rfl rfl 0 (by decide) lk34 (fun _ h => h) rfl (by decide +kernel) rfl rfl (Nat.le_of_ble_eq_true rfl) dX3_send_2 (fun H locs hP hD hS => ?_)
  have hP : va_P D vwCl [(y, .inr (3, [.int 0, .int (nI len), .ref tp, .int (nI mk), .ref bb, .ref zz, .ref wa, .ref fs, .ref fm, .int (nI fk)])), (tp, .inl (cB, 1024, .inl tg)), (bb, .inl (cB, 8400, .inl bf)), (zz, .inl (cZ, 8400, .inl zf)), (wa, .inl (cA, 2, .inl (wI ww)))] H := hP
  have hD : va_D A [(y, .inr (3, [.int 0, .int (nI len), .ref tp, .int (nI mk), .ref bb, .ref zz, .ref wa, .ref fs, .ref fm, .int (nI fk)])), (tp, .inl (cB, 1024, .inl tg)), (bb, .inl (cB, 8400, .inl bf)), (zz, .inl (cZ, 8400, .inl zf)), (wa, .inl (cA, 2, .inl (wI ww)))] := hD
  refine lv_aload_n hx hb dX3_send_5 rfl (lv_at hl 0 rfl) ?_
  refine va_get (D := D) (ci := 3) (v := .int (nI mk)) hx hb hts iX3 hown hK hP 0 rfl rfl 3 (by decide) lk37 (fun _ h => h) rfl dX3_send_6 ?_
  refine lv_istore_n (lv' := [(2, .int (nI mk)), (0, .ref y), (1, .int z)]) hx hb dX3_send_9 rfl hl (by decide) rfl (fun ls hl => ?_)
  refine lv_aload_n hx hb dX3_send_10 rfl (lv_at hl 1 rfl) ?_
  refine lv_iconst (v := 0) hx hb dX3_send_11 (by decide) ?_
  refine va_put (D := D) (ci := 3) (v := .int 0) (ty := (.int)) hx hb hts iX3 tyX3 tyX3_ok nmX3 hown hK hP hD hS 0 rfl rfl 3 (by decide) lk37 (fun _ h => h) rfl (by decide +kernel) rfl rfl (Nat.le_of_ble_eq_true rfl) dX3_send_12 (fun H locs hP hD hS => ?_)
  have hP : va_P D vwCl [(y, .inr (3, [.int 0, .int (nI len), .ref tp, .int 0, .ref bb, .ref zz, .ref wa, .ref fs, .ref fm, .int (nI fk)])), (tp, .inl (cB, 1024, .inl tg)), (bb, .inl (cB, 8400, .inl bf)), (zz, .inl (cZ, 8400, .inl zf)), (wa, .inl (cA, 2, .inl (wI ww)))] H := hP
  have hD : va_D A [(y, .inr (3, [.int 0, .int (nI len), .ref tp, .int 0, .ref bb, .ref zz, .ref wa, .ref fs, .ref fm, .int (nI fk)])), (tp, .inl (cB, 1024, .inl tg)), (bb, .inl (cB, 8400, .inl bf)), (zz, .inl (cZ, 8400, .inl zf)), (wa, .inl (cA, 2, .inl (wI ww)))] := hD
  have hP : va_P D vwCl [(y, .inr (3, [.int 0, .int (nI len), .ref tp, .int (nI 0), .ref bb, .ref zz, .ref wa, .ref fs, .ref fm, .int (nI fk)])), (tp, .inl (cB, 1024, .inl tg)), (bb, .inl (cB, 8400, .inl bf)), (zz, .inl (cZ, 8400, .inl zf)), (wa, .inl (cA, 2, .inl (wI ww)))] H := hP
  have hD : va_D A [(y, .inr (3, [.int 0, .int (nI len), .ref tp, .int (nI 0), .ref bb, .ref zz, .ref wa, .ref fs, .ref fm, .int (nI fk)])), (tp, .inl (cB, 1024, .inl tg)), (bb, .inl (cB, 8400, .inl bf)), (zz, .inl (cZ, 8400, .inl zf)), (wa, .inl (cA, 2, .inl (wI ww)))] := hD
  have tail : ∀ (H : Heap) (locs : List Loc) (ls : Array Slot), va_P D vwCl [(y, .inr (3, [.int 0, .int (nI len), .ref tp, .int (nI 0), .ref bb, .ref zz, .ref wa, .ref fs, .ref fm, .int (nI fk)])), (tp, .inl (cB, 1024, .inl tg)), (bb, .inl (cB, 8400, .inl bf)), (zz, .inl (cZ, 8400, .inl zf)), (wa, .inl (cA, 2, .inl (wI ww)))] H → va_D A [(y, .inr (3, [.int 0, .int (nI len), .ref tp, .int (nI 0), .ref bb, .ref zz, .ref wa, .ref fs, .ref fm, .int (nI fk)])), (tp, .inl (cB, 1024, .inl tg)), (bb, .inl (cB, 8400, .inl bf)), (zz, .inl (cZ, 8400, .inl zf)), (wa, .inl (cA, 2, .inl (wI ww)))] → va_S A s.heap H locs → lv_has ls 5 [(3, .int (hpkM tg mk)), (2, .int (nI mk)), (0, .ref y), (1, .int z)] → W p l e ({ frames := 1, cells := 0, slots := 0, locals := 23 } : Room) s m ([.ref y, .int z] : List Value).toArray below meth c H locs 0 0 Q (F0 m 59 ls []) := by
    intro H locs ls hP hD hS hl
    refine lv_iload_n hx hb dX3_send_59 rfl (lv_at hl 3 rfl) ?_
    refine lv_if_lt (tgt := 86) hx hb dX3_send_60 (by decide) (fun y1 => ?_) (fun y1 => ?_)
    · refine lv_iconst (v := (-1)) hx hb dX3_send_86 (by decide) ?_
      exact hex _ _ _ _ _ () hS (rfl) hP hD dX3_send_87
    · refine lv_iload_n hx hb dX3_send_63 rfl (lv_at hl 3 rfl) ?_
      refine lv_iconst (v := 1) hx hb dX3_send_64 (by decide) ?_
      refine lv_icmp_gt (tgt := 86) hx hb dX3_send_65 (by decide) (fun y2 => ?_) (fun y2 => ?_)
      · refine lv_iconst (v := (-1)) hx hb dX3_send_86 (by decide) ?_
        exact hex _ _ _ _ _ () hS (rfl) hP hD dX3_send_87
      · refine lv_iload_n hx hb dX3_send_68 rfl (lv_at hl 0 rfl) ?_
        refine lv_if_eq (tgt := 86) hx hb dX3_send_69 (by decide) (fun _ => ?_) (fun cc => absurd (by rcases hz with q | q | q; exact absurd q y1; exact absurd q y2; exact q) cc)
        refine lv_iconst (v := (-1)) hx hb dX3_send_86 (by decide) ?_
        exact hex _ _ _ _ _ () hS (rfl) hP hD dX3_send_87
  refine lv_iload_n hx hb dX3_send_15 rfl (lv_at hl 0 rfl) ?_
  refine lv_bipush (v := 6) hx hb dX3_send_16 (by decide +kernel) ?_
  refine lv_icmp_le (tgt := 57) hx hb dX3_send_18 (by decide) (fun z1 => ?_) (fun z1 => ?_)
  · refine lv_iconst (v := 0) hx hb dX3_send_57 (by decide) ?_
    refine tp_i (y := hpkM tg mk) ((if_pos (by rcases Nat.lt_or_ge 6 mk with q | q; exact absurd z1 (nI_ge (a := 6) q (by omega)); exact q)).symm) ?_
    refine lv_istore_n (lv' := [(3, .int (hpkM tg mk)), (2, .int (nI mk)), (0, .ref y), (1, .int z)]) hx hb dX3_send_58 rfl hl (by decide) rfl (fun ls hl => ?_)
    exact tail _ _ ls hP hD hS (lv_sub hl [0, 1, 2, 3] rfl)
  · have h6 : ¬ mk ≤ 6 := fun q => z1 (nI_le (b := 6) q (by decide))
    refine lv_iload_n hx hb dX3_send_21 rfl (lv_at hl 0 rfl) ?_
    refine lv_bipush (v := 7) hx hb dX3_send_22 (by decide +kernel) ?_
    refine lv_sipush (v := 256) hx hb dX3_send_24 (by decide +kernel) ?_
    refine lv_aload_n hx hb dX3_send_27 rfl (lv_at hl 1 rfl) ?_
    refine va_get (D := D) (ci := 3) (v := .ref tp) hx hb hts iX3 hown hK hP 0 rfl rfl 2 (by decide) lk7 (fun _ h => h) rfl dX3_send_28 ?_
    refine lv_iconst (v := 4) hx hb dX3_send_31 (by decide) ?_
    refine tp_i (y := nI 4) (rfl) ?_
    refine al_b (k := 4) hx hb hK hP 1 1 rfl rfl (by decide) (by decide) dX3_send_32 ?_
    refine lv_sipush (v := 255) hx hb dX3_send_33 (by decide +kernel) ?_
    refine lv_iand hx hb dX3_send_36 ?_
    refine lv_imul hx hb dX3_send_37 ?_
    refine lv_iadd hx hb dX3_send_38 ?_
    refine lv_aload_n hx hb dX3_send_39 rfl (lv_at hl 1 rfl) ?_
    refine va_get (D := D) (ci := 3) (v := .ref tp) hx hb hts iX3 hown hK hP 0 rfl rfl 2 (by decide) lk7 (fun _ h => h) rfl dX3_send_40 ?_
    refine lv_iconst (v := 5) hx hb dX3_send_43 (by decide) ?_
    refine tp_i (y := nI 5) (rfl) ?_
    refine al_b (k := 5) hx hb hK hP 1 1 rfl rfl (by decide) (by decide) dX3_send_44 ?_
    refine lv_sipush (v := 255) hx hb dX3_send_45 (by decide +kernel) ?_
    refine lv_iand hx hb dX3_send_48 ?_
    refine lv_iadd hx hb dX3_send_49 ?_
    refine lv_icmp_ne (tgt := 57) hx hb dX3_send_50 (by decide) (fun z2 => ?_) (fun z2 => ?_)
    · refine lv_iconst (v := 0) hx hb dX3_send_57 (by decide) ?_
      refine tp_i (y := hpkM tg mk) (by unfold hpkM; rw [if_neg h6, if_neg z2]) ?_
      refine lv_istore_n (lv' := [(3, .int (hpkM tg mk)), (2, .int (nI mk)), (0, .ref y), (1, .int z)]) hx hb dX3_send_58 rfl hl (by decide) rfl (fun ls hl => ?_)
      exact tail _ _ ls hP hD hS (lv_sub hl [0, 1, 2, 3] rfl)
    · refine lv_iconst (v := 1) hx hb dX3_send_53 (by decide) ?_
      refine lv_goto (tgt := 58) hx hb dX3_send_54 (by decide) ?_
      refine tp_i (y := hpkM tg mk) (by unfold hpkM; rw [if_neg h6, if_pos z2]) ?_
      refine lv_istore_n (lv' := [(3, .int (hpkM tg mk)), (2, .int (nI mk)), (0, .ref y), (1, .int z)]) hx hb dX3_send_58 rfl hl (by decide) rfl (fun ls hl => ?_)
      exact tail _ _ ls hP hD hS (lv_sub hl [0, 1, 2, 3] rfl)

set_option maxHeartbeats 4000000 in
set_option maxRecDepth 100000 in
/-- send, no room -/
theorem c_m_send2 (l : Launch) (D : va_G) (cA cB cZ : ClassId) (y len tp bb zz wa fs fm mk fk : Nat) (tg : Nat → Int32) (bf zf : Nat → Int32) (ww : Nat → Nat) (ch w : Nat) (hm : mk ≤ 1024) (hc : ch < 2) (hw : ww ch = w) (hw2 : w ≤ 4200) (hs : 4096 < w + mk) : MI0 l yX3_send wsM_send { frames := 1, cells := 0, slots := 0, locals := 23 } [.ref y, .int (nI ch)] D [(cA, .int), (cB, .byte), (cZ, .boolean)] [(y, .inr (3, [.int 0, .int (nI len), .ref tp, .int (nI mk), .ref bb, .ref zz, .ref wa, .ref fs, .ref fm, .int (nI fk)])), (tp, .inl (cB, 1024, .inl tg)), (bb, .inl (cB, 8400, .inl bf)), (zz, .inl (cZ, 8400, .inl zf)), (wa, .inl (cA, 2, .inl (wI ww)))] (-1) [(y, .inr (3, [.int 0, .int (nI len), .ref tp, .int (nI 0), .ref bb, .ref zz, .ref wa, .ref fs, .ref fm, .int (nI fk)])), (tp, .inl (cB, 1024, .inl tg)), (bb, .inl (cB, 8400, .inl bf)), (zz, .inl (cZ, 8400, .inl zf)), (wa, .inl (cA, 2, .inl (wI ww)))] := by
  refine mt_i (by decide) rfl (Nat.le_of_ble_eq_true rfl) ?_
  intro p e s m below meth c A ls Q hx hb hts hown hml hin hN hK hA hP hD hS hl hex
  have hown : s.vm.findClass RX3 = some m.cls := hown
  have hl : lv_has ls 5 [(0, .ref y), (1, .int (nI ch))] := hl
  have iX3 : ∀ w ∈ wsX30, w ∈ wsM_send := by decide +kernel
  have lk20 := hts (.fieldLink RX3 20 "DownFramesModel" "waits" "[I") (by decide +kernel)
  have lk34 := hts (.fieldLink RX3 34 "DownFramesModel" "thrown" "I") (by decide +kernel)
  have lk37 := hts (.fieldLink RX3 37 "DownFramesModel" "many" "I") (by decide +kernel)
  have lk7 := hts (.fieldLink RX3 7 "DownFramesModel" "tape" "[B") (by decide +kernel)
  refine lv_aload_n hx hb dX3_send_0 rfl (lv_at hl 0 rfl) ?_
  refine lv_iconst (v := 0) hx hb dX3_send_1 (by decide) ?_
  refine va_put (D := D) (ci := 3) (v := .int 0) (ty := (.int)) hx hb hts iX3 tyX3 tyX3_ok nmX3 hown hK hP hD hS 0 rfl rfl 0 (by decide) lk34 (fun _ h => h) rfl (by decide +kernel) rfl rfl (Nat.le_of_ble_eq_true rfl) dX3_send_2 (fun H locs hP hD hS => ?_)
  have hP : va_P D vwCl [(y, .inr (3, [.int 0, .int (nI len), .ref tp, .int (nI mk), .ref bb, .ref zz, .ref wa, .ref fs, .ref fm, .int (nI fk)])), (tp, .inl (cB, 1024, .inl tg)), (bb, .inl (cB, 8400, .inl bf)), (zz, .inl (cZ, 8400, .inl zf)), (wa, .inl (cA, 2, .inl (wI ww)))] H := hP
  have hD : va_D A [(y, .inr (3, [.int 0, .int (nI len), .ref tp, .int (nI mk), .ref bb, .ref zz, .ref wa, .ref fs, .ref fm, .int (nI fk)])), (tp, .inl (cB, 1024, .inl tg)), (bb, .inl (cB, 8400, .inl bf)), (zz, .inl (cZ, 8400, .inl zf)), (wa, .inl (cA, 2, .inl (wI ww)))] := hD
  refine lv_aload_n hx hb dX3_send_5 rfl (lv_at hl 0 rfl) ?_
  refine va_get (D := D) (ci := 3) (v := .int (nI mk)) hx hb hts iX3 hown hK hP 0 rfl rfl 3 (by decide) lk37 (fun _ h => h) rfl dX3_send_6 ?_
  refine lv_istore_n (lv' := [(2, .int (nI mk)), (0, .ref y), (1, .int (nI ch))]) hx hb dX3_send_9 rfl hl (by decide) rfl (fun ls hl => ?_)
  refine lv_aload_n hx hb dX3_send_10 rfl (lv_at hl 1 rfl) ?_
  refine lv_iconst (v := 0) hx hb dX3_send_11 (by decide) ?_
  refine va_put (D := D) (ci := 3) (v := .int 0) (ty := (.int)) hx hb hts iX3 tyX3 tyX3_ok nmX3 hown hK hP hD hS 0 rfl rfl 3 (by decide) lk37 (fun _ h => h) rfl (by decide +kernel) rfl rfl (Nat.le_of_ble_eq_true rfl) dX3_send_12 (fun H locs hP hD hS => ?_)
  have hP : va_P D vwCl [(y, .inr (3, [.int 0, .int (nI len), .ref tp, .int 0, .ref bb, .ref zz, .ref wa, .ref fs, .ref fm, .int (nI fk)])), (tp, .inl (cB, 1024, .inl tg)), (bb, .inl (cB, 8400, .inl bf)), (zz, .inl (cZ, 8400, .inl zf)), (wa, .inl (cA, 2, .inl (wI ww)))] H := hP
  have hD : va_D A [(y, .inr (3, [.int 0, .int (nI len), .ref tp, .int 0, .ref bb, .ref zz, .ref wa, .ref fs, .ref fm, .int (nI fk)])), (tp, .inl (cB, 1024, .inl tg)), (bb, .inl (cB, 8400, .inl bf)), (zz, .inl (cZ, 8400, .inl zf)), (wa, .inl (cA, 2, .inl (wI ww)))] := hD
  have hP : va_P D vwCl [(y, .inr (3, [.int 0, .int (nI len), .ref tp, .int (nI 0), .ref bb, .ref zz, .ref wa, .ref fs, .ref fm, .int (nI fk)])), (tp, .inl (cB, 1024, .inl tg)), (bb, .inl (cB, 8400, .inl bf)), (zz, .inl (cZ, 8400, .inl zf)), (wa, .inl (cA, 2, .inl (wI ww)))] H := hP
  have hD : va_D A [(y, .inr (3, [.int 0, .int (nI len), .ref tp, .int (nI 0), .ref bb, .ref zz, .ref wa, .ref fs, .ref fm, .int (nI fk)])), (tp, .inl (cB, 1024, .inl tg)), (bb, .inl (cB, 8400, .inl bf)), (zz, .inl (cZ, 8400, .inl zf)), (wa, .inl (cA, 2, .inl (wI ww)))] := hD
  have tail : ∀ (H : Heap) (locs : List Loc) (ls : Array Slot), va_P D vwCl [(y, .inr (3, [.int 0, .int (nI len), .ref tp, .int (nI 0), .ref bb, .ref zz, .ref wa, .ref fs, .ref fm, .int (nI fk)])), (tp, .inl (cB, 1024, .inl tg)), (bb, .inl (cB, 8400, .inl bf)), (zz, .inl (cZ, 8400, .inl zf)), (wa, .inl (cA, 2, .inl (wI ww)))] H → va_D A [(y, .inr (3, [.int 0, .int (nI len), .ref tp, .int (nI 0), .ref bb, .ref zz, .ref wa, .ref fs, .ref fm, .int (nI fk)])), (tp, .inl (cB, 1024, .inl tg)), (bb, .inl (cB, 8400, .inl bf)), (zz, .inl (cZ, 8400, .inl zf)), (wa, .inl (cA, 2, .inl (wI ww)))] → va_S A s.heap H locs → lv_has ls 5 [(3, .int (hpkM tg mk)), (2, .int (nI mk)), (0, .ref y), (1, .int (nI ch))] → W p l e ({ frames := 1, cells := 0, slots := 0, locals := 23 } : Room) s m ([.ref y, .int (nI ch)] : List Value).toArray below meth c H locs 0 0 Q (F0 m 59 ls []) := by
    intro H locs ls hP hD hS hl
    refine lv_iload_n hx hb dX3_send_59 rfl (lv_at hl 3 rfl) ?_
    refine lv_if_lt (tgt := 86) hx hb dX3_send_60 (by decide) (fun cc => absurd cc (nI_pos (by omega))) (fun _ => ?_)
    refine lv_iload_n hx hb dX3_send_63 rfl (lv_at hl 3 rfl) ?_
    refine lv_iconst (v := 1) hx hb dX3_send_64 (by decide) ?_
    refine lv_icmp_gt (tgt := 86) hx hb dX3_send_65 (by decide) (fun cc => absurd cc (nI_nlt (a := 1) (by omega) (by decide))) (fun _ => ?_)
    refine lv_iload_n hx hb dX3_send_68 rfl (lv_at hl 0 rfl) ?_
    refine lv_if_eq (tgt := 86) hx hb dX3_send_69 (by decide) (fun y1 => ?_) (fun y1 => ?_)
    · refine lv_iconst (v := (-1)) hx hb dX3_send_86 (by decide) ?_
      exact hex _ _ _ _ _ () hS (rfl) hP hD dX3_send_87
    · refine lv_aload_n hx hb dX3_send_72 rfl (lv_at hl 2 rfl) ?_
      refine va_get (D := D) (ci := 3) (v := .ref wa) hx hb hts iX3 hown hK hP 0 rfl rfl 6 (by decide) lk20 (fun _ h => h) rfl dX3_send_73 ?_
      refine lv_iload_n hx hb dX3_send_76 rfl (lv_at hl 3 rfl) ?_
      refine al_i (k := ch) hx hb hK hP 4 0 rfl rfl (hc) (by decide) dX3_send_77 ?_
      refine tp_i (y := nI w) (congrArg nI hw) ?_
      refine lv_iload_n hx hb dX3_send_78 rfl (lv_at hl 1 rfl) ?_
      refine lv_iadd hx hb dX3_send_79 ?_
      refine tp_i (y := nI (w + mk)) (nI_add _ _) ?_
      refine lv_sipush (v := 4096) hx hb dX3_send_80 (by decide +kernel) ?_
      refine lv_icmp_le (tgt := 88) hx hb dX3_send_83 (by decide) (fun cc => absurd cc (nI_ge (a := 4096) hs (by omega))) (fun _ => ?_)
      refine lv_iconst (v := (-1)) hx hb dX3_send_86 (by decide) ?_
      exact hex _ _ _ _ _ () hS (rfl) hP hD dX3_send_87
  refine lv_iload_n hx hb dX3_send_15 rfl (lv_at hl 0 rfl) ?_
  refine lv_bipush (v := 6) hx hb dX3_send_16 (by decide +kernel) ?_
  refine lv_icmp_le (tgt := 57) hx hb dX3_send_18 (by decide) (fun z1 => ?_) (fun z1 => ?_)
  · refine lv_iconst (v := 0) hx hb dX3_send_57 (by decide) ?_
    refine tp_i (y := hpkM tg mk) ((if_pos (by rcases Nat.lt_or_ge 6 mk with q | q; exact absurd z1 (nI_ge (a := 6) q (by omega)); exact q)).symm) ?_
    refine lv_istore_n (lv' := [(3, .int (hpkM tg mk)), (2, .int (nI mk)), (0, .ref y), (1, .int (nI ch))]) hx hb dX3_send_58 rfl hl (by decide) rfl (fun ls hl => ?_)
    exact tail _ _ ls hP hD hS (lv_sub hl [0, 1, 2, 3] rfl)
  · have h6 : ¬ mk ≤ 6 := fun q => z1 (nI_le (b := 6) q (by decide))
    refine lv_iload_n hx hb dX3_send_21 rfl (lv_at hl 0 rfl) ?_
    refine lv_bipush (v := 7) hx hb dX3_send_22 (by decide +kernel) ?_
    refine lv_sipush (v := 256) hx hb dX3_send_24 (by decide +kernel) ?_
    refine lv_aload_n hx hb dX3_send_27 rfl (lv_at hl 1 rfl) ?_
    refine va_get (D := D) (ci := 3) (v := .ref tp) hx hb hts iX3 hown hK hP 0 rfl rfl 2 (by decide) lk7 (fun _ h => h) rfl dX3_send_28 ?_
    refine lv_iconst (v := 4) hx hb dX3_send_31 (by decide) ?_
    refine tp_i (y := nI 4) (rfl) ?_
    refine al_b (k := 4) hx hb hK hP 1 1 rfl rfl (by decide) (by decide) dX3_send_32 ?_
    refine lv_sipush (v := 255) hx hb dX3_send_33 (by decide +kernel) ?_
    refine lv_iand hx hb dX3_send_36 ?_
    refine lv_imul hx hb dX3_send_37 ?_
    refine lv_iadd hx hb dX3_send_38 ?_
    refine lv_aload_n hx hb dX3_send_39 rfl (lv_at hl 1 rfl) ?_
    refine va_get (D := D) (ci := 3) (v := .ref tp) hx hb hts iX3 hown hK hP 0 rfl rfl 2 (by decide) lk7 (fun _ h => h) rfl dX3_send_40 ?_
    refine lv_iconst (v := 5) hx hb dX3_send_43 (by decide) ?_
    refine tp_i (y := nI 5) (rfl) ?_
    refine al_b (k := 5) hx hb hK hP 1 1 rfl rfl (by decide) (by decide) dX3_send_44 ?_
    refine lv_sipush (v := 255) hx hb dX3_send_45 (by decide +kernel) ?_
    refine lv_iand hx hb dX3_send_48 ?_
    refine lv_iadd hx hb dX3_send_49 ?_
    refine lv_icmp_ne (tgt := 57) hx hb dX3_send_50 (by decide) (fun z2 => ?_) (fun z2 => ?_)
    · refine lv_iconst (v := 0) hx hb dX3_send_57 (by decide) ?_
      refine tp_i (y := hpkM tg mk) (by unfold hpkM; rw [if_neg h6, if_neg z2]) ?_
      refine lv_istore_n (lv' := [(3, .int (hpkM tg mk)), (2, .int (nI mk)), (0, .ref y), (1, .int (nI ch))]) hx hb dX3_send_58 rfl hl (by decide) rfl (fun ls hl => ?_)
      exact tail _ _ ls hP hD hS (lv_sub hl [0, 1, 2, 3] rfl)
    · refine lv_iconst (v := 1) hx hb dX3_send_53 (by decide) ?_
      refine lv_goto (tgt := 58) hx hb dX3_send_54 (by decide) ?_
      refine tp_i (y := hpkM tg mk) (by unfold hpkM; rw [if_neg h6, if_pos z2]) ?_
      refine lv_istore_n (lv' := [(3, .int (hpkM tg mk)), (2, .int (nI mk)), (0, .ref y), (1, .int (nI ch))]) hx hb dX3_send_58 rfl hl (by decide) rfl (fun ls hl => ?_)
      exact tail _ _ ls hP hD hS (lv_sub hl [0, 1, 2, 3] rfl)

set_option maxHeartbeats 4000000 in
set_option maxRecDepth 100000 in
/-- send, taken -/
theorem c_m_send1 (l : Launch) (D : va_G) (cA cB cZ : ClassId) (y len tp bb zz wa fs fm mk fk : Nat) (tg : Nat → Int32) (bf zf : Nat → Int32) (ww : Nat → Nat) (ch w : Nat) (hm : mk ≤ 1024) (hc : ch < 2) (hw : ww ch = w) (hp : hpkM tg mk = 1) (hs : w + mk ≤ 4096) : MI0 l yX3_send wsM_send { frames := 1, cells := 0, slots := 0, locals := 23 } [.ref y, .int (nI ch)] D [(cA, .int), (cB, .byte), (cZ, .boolean)] [(y, .inr (3, [.int 0, .int (nI len), .ref tp, .int (nI mk), .ref bb, .ref zz, .ref wa, .ref fs, .ref fm, .int (nI fk)])), (tp, .inl (cB, 1024, .inl tg)), (bb, .inl (cB, 8400, .inl bf)), (zz, .inl (cZ, 8400, .inl zf)), (wa, .inl (cA, 2, .inl (wI ww)))] (nI (w + mk)) [(y, .inr (3, [.int 0, .int (nI len), .ref tp, .int (nI 0), .ref bb, .ref zz, .ref wa, .ref fs, .ref fm, .int (nI fk)])), (tp, .inl (cB, 1024, .inl tg)), (bb, .inl (cB, 8400, .inl (lwr bf (4200 * ch + w) (fun i => i8 (tg i)) mk))), (zz, .inl (cZ, 8400, .inl (lwr zf (4200 * ch + w) emz mk))), (wa, .inl (cA, 2, .inl (wI (va_up ww ch (w + mk)))))] := by
  refine mt_i (by decide) rfl (Nat.le_of_ble_eq_true rfl) ?_
  intro p e s m below meth c A ls Q hx hb hts hown hml hin hN hK hA hP hD hS hl hex
  have hown : s.vm.findClass RX3 = some m.cls := hown
  have hl : lv_has ls 5 [(0, .ref y), (1, .int (nI ch))] := hl
  have iX3 : ∀ w ∈ wsX30, w ∈ wsM_send := by decide +kernel
  have lk20 := hts (.fieldLink RX3 20 "DownFramesModel" "waits" "[I") (by decide +kernel)
  have lk34 := hts (.fieldLink RX3 34 "DownFramesModel" "thrown" "I") (by decide +kernel)
  have lk37 := hts (.fieldLink RX3 37 "DownFramesModel" "many" "I") (by decide +kernel)
  have lk7 := hts (.fieldLink RX3 7 "DownFramesModel" "tape" "[B") (by decide +kernel)
  refine lv_aload_n hx hb dX3_send_0 rfl (lv_at hl 0 rfl) ?_
  refine lv_iconst (v := 0) hx hb dX3_send_1 (by decide) ?_
  refine va_put (D := D) (ci := 3) (v := .int 0) (ty := (.int)) hx hb hts iX3 tyX3 tyX3_ok nmX3 hown hK hP hD hS 0 rfl rfl 0 (by decide) lk34 (fun _ h => h) rfl (by decide +kernel) rfl rfl (Nat.le_of_ble_eq_true rfl) dX3_send_2 (fun H locs hP hD hS => ?_)
  have hP : va_P D vwCl [(y, .inr (3, [.int 0, .int (nI len), .ref tp, .int (nI mk), .ref bb, .ref zz, .ref wa, .ref fs, .ref fm, .int (nI fk)])), (tp, .inl (cB, 1024, .inl tg)), (bb, .inl (cB, 8400, .inl bf)), (zz, .inl (cZ, 8400, .inl zf)), (wa, .inl (cA, 2, .inl (wI ww)))] H := hP
  have hD : va_D A [(y, .inr (3, [.int 0, .int (nI len), .ref tp, .int (nI mk), .ref bb, .ref zz, .ref wa, .ref fs, .ref fm, .int (nI fk)])), (tp, .inl (cB, 1024, .inl tg)), (bb, .inl (cB, 8400, .inl bf)), (zz, .inl (cZ, 8400, .inl zf)), (wa, .inl (cA, 2, .inl (wI ww)))] := hD
  refine lv_aload_n hx hb dX3_send_5 rfl (lv_at hl 0 rfl) ?_
  refine va_get (D := D) (ci := 3) (v := .int (nI mk)) hx hb hts iX3 hown hK hP 0 rfl rfl 3 (by decide) lk37 (fun _ h => h) rfl dX3_send_6 ?_
  refine lv_istore_n (lv' := [(2, .int (nI mk)), (0, .ref y), (1, .int (nI ch))]) hx hb dX3_send_9 rfl hl (by decide) rfl (fun ls hl => ?_)
  refine lv_aload_n hx hb dX3_send_10 rfl (lv_at hl 1 rfl) ?_
  refine lv_iconst (v := 0) hx hb dX3_send_11 (by decide) ?_
  refine va_put (D := D) (ci := 3) (v := .int 0) (ty := (.int)) hx hb hts iX3 tyX3 tyX3_ok nmX3 hown hK hP hD hS 0 rfl rfl 3 (by decide) lk37 (fun _ h => h) rfl (by decide +kernel) rfl rfl (Nat.le_of_ble_eq_true rfl) dX3_send_12 (fun H locs hP hD hS => ?_)
  have hP : va_P D vwCl [(y, .inr (3, [.int 0, .int (nI len), .ref tp, .int 0, .ref bb, .ref zz, .ref wa, .ref fs, .ref fm, .int (nI fk)])), (tp, .inl (cB, 1024, .inl tg)), (bb, .inl (cB, 8400, .inl bf)), (zz, .inl (cZ, 8400, .inl zf)), (wa, .inl (cA, 2, .inl (wI ww)))] H := hP
  have hD : va_D A [(y, .inr (3, [.int 0, .int (nI len), .ref tp, .int 0, .ref bb, .ref zz, .ref wa, .ref fs, .ref fm, .int (nI fk)])), (tp, .inl (cB, 1024, .inl tg)), (bb, .inl (cB, 8400, .inl bf)), (zz, .inl (cZ, 8400, .inl zf)), (wa, .inl (cA, 2, .inl (wI ww)))] := hD
  have hP : va_P D vwCl [(y, .inr (3, [.int 0, .int (nI len), .ref tp, .int (nI 0), .ref bb, .ref zz, .ref wa, .ref fs, .ref fm, .int (nI fk)])), (tp, .inl (cB, 1024, .inl tg)), (bb, .inl (cB, 8400, .inl bf)), (zz, .inl (cZ, 8400, .inl zf)), (wa, .inl (cA, 2, .inl (wI ww)))] H := hP
  have hD : va_D A [(y, .inr (3, [.int 0, .int (nI len), .ref tp, .int (nI 0), .ref bb, .ref zz, .ref wa, .ref fs, .ref fm, .int (nI fk)])), (tp, .inl (cB, 1024, .inl tg)), (bb, .inl (cB, 8400, .inl bf)), (zz, .inl (cZ, 8400, .inl zf)), (wa, .inl (cA, 2, .inl (wI ww)))] := hD
  have tail : ∀ (H : Heap) (locs : List Loc) (ls : Array Slot), va_P D vwCl [(y, .inr (3, [.int 0, .int (nI len), .ref tp, .int (nI 0), .ref bb, .ref zz, .ref wa, .ref fs, .ref fm, .int (nI fk)])), (tp, .inl (cB, 1024, .inl tg)), (bb, .inl (cB, 8400, .inl bf)), (zz, .inl (cZ, 8400, .inl zf)), (wa, .inl (cA, 2, .inl (wI ww)))] H → va_D A [(y, .inr (3, [.int 0, .int (nI len), .ref tp, .int (nI 0), .ref bb, .ref zz, .ref wa, .ref fs, .ref fm, .int (nI fk)])), (tp, .inl (cB, 1024, .inl tg)), (bb, .inl (cB, 8400, .inl bf)), (zz, .inl (cZ, 8400, .inl zf)), (wa, .inl (cA, 2, .inl (wI ww)))] → va_S A s.heap H locs → lv_has ls 5 [(3, .int (hpkM tg mk)), (2, .int (nI mk)), (0, .ref y), (1, .int (nI ch))] → W p l e ({ frames := 1, cells := 0, slots := 0, locals := 23 } : Room) s m ([.ref y, .int (nI ch)] : List Value).toArray below meth c H locs 0 0 Q (F0 m 59 ls []) := by
    intro H locs ls hP hD hS hl
    refine lv_iload_n hx hb dX3_send_59 rfl (lv_at hl 3 rfl) ?_
    refine lv_if_lt (tgt := 86) hx hb dX3_send_60 (by decide) (fun cc => absurd cc (nI_pos (by omega))) (fun _ => ?_)
    refine lv_iload_n hx hb dX3_send_63 rfl (lv_at hl 3 rfl) ?_
    refine lv_iconst (v := 1) hx hb dX3_send_64 (by decide) ?_
    refine lv_icmp_gt (tgt := 86) hx hb dX3_send_65 (by decide) (fun cc => absurd cc (nI_nlt (a := 1) (by omega) (by decide))) (fun _ => ?_)
    refine lv_iload_n hx hb dX3_send_68 rfl (lv_at hl 0 rfl) ?_
    refine lv_if_eq (tgt := 86) hx hb dX3_send_69 (by decide) (fun cc => absurd cc (by rw [hp]; decide)) (fun _ => ?_)
    refine lv_aload_n hx hb dX3_send_72 rfl (lv_at hl 2 rfl) ?_
    refine va_get (D := D) (ci := 3) (v := .ref wa) hx hb hts iX3 hown hK hP 0 rfl rfl 6 (by decide) lk20 (fun _ h => h) rfl dX3_send_73 ?_
    refine lv_iload_n hx hb dX3_send_76 rfl (lv_at hl 3 rfl) ?_
    refine al_i (k := ch) hx hb hK hP 4 0 rfl rfl (hc) (by decide) dX3_send_77 ?_
    refine tp_i (y := nI w) (congrArg nI hw) ?_
    refine lv_iload_n hx hb dX3_send_78 rfl (lv_at hl 1 rfl) ?_
    refine lv_iadd hx hb dX3_send_79 ?_
    refine tp_i (y := nI (w + mk)) (nI_add _ _) ?_
    refine lv_sipush (v := 4096) hx hb dX3_send_80 (by decide +kernel) ?_
    refine lv_icmp_le (tgt := 88) hx hb dX3_send_83 (by decide) (fun _ => ?_) (fun cc => absurd (nI_le (b := 4096) hs (by decide)) cc)
    refine lv_iconst (v := 0) hx hb dX3_send_88 (by decide) ?_
    refine lv_istore (lv' := [(4, .int 0), (3, .int (hpkM tg mk)), (2, .int (nI mk)), (0, .ref y), (1, .int (nI ch))]) hx hb dX3_send_89 hl (by decide) rfl (fun ls hl => ?_)
    have loop : ∀ (d i : Nat) (H : Heap) (locs : List Loc) (ls : Array Slot), i + d = mk → va_P D vwCl [(y, .inr (3, [.int 0, .int (nI len), .ref tp, .int (nI 0), .ref bb, .ref zz, .ref wa, .ref fs, .ref fm, .int (nI fk)])), (tp, .inl (cB, 1024, .inl tg)), (bb, .inl (cB, 8400, .inl (lwr bf (4200 * ch + w) (fun i => i8 (tg i)) i))), (zz, .inl (cZ, 8400, .inl (lwr zf (4200 * ch + w) emz i))), (wa, .inl (cA, 2, .inl (wI (va_up ww ch (w + i)))))] H → va_D A [(y, .inr (3, [.int 0, .int (nI len), .ref tp, .int (nI 0), .ref bb, .ref zz, .ref wa, .ref fs, .ref fm, .int (nI fk)])), (tp, .inl (cB, 1024, .inl tg)), (bb, .inl (cB, 8400, .inl (lwr bf (4200 * ch + w) (fun i => i8 (tg i)) i))), (zz, .inl (cZ, 8400, .inl (lwr zf (4200 * ch + w) emz i))), (wa, .inl (cA, 2, .inl (wI (va_up ww ch (w + i)))))] → va_S A s.heap H locs → lv_has ls 5 [(4, .int (nI i)), (3, .int (hpkM tg mk)), (2, .int (nI mk)), (0, .ref y), (1, .int (nI ch))] → W p l e ({ frames := 1, cells := 0, slots := 0, locals := 23 } : Room) s m ([.ref y, .int (nI ch)] : List Value).toArray below meth c H locs 0 0 Q (F0 m 91 ls []) := by
      intro d
      induction d with
      | zero =>
        intro i H locs ls hi hP hD hS hl
        have hi : i = mk := hi
        rw [hi] at hP hD hl
        refine lv_iload hx hb dX3_send_91 (lv_at hl 0 rfl) ?_
        refine lv_iload_n hx hb dX3_send_93 rfl (lv_at hl 2 rfl) ?_
        refine lv_icmp_ge (tgt := 125) hx hb dX3_send_94 (by decide) (fun _ => ?_) (fun cc => absurd (nI_le (Nat.le_refl _) (by omega)) cc)
        refine lv_aload_n hx hb dX3_send_125 rfl (lv_at hl 3 rfl) ?_
        refine va_get (D := D) (ci := 3) (v := .ref wa) hx hb hts iX3 hown hK hP 0 rfl rfl 6 (by decide) lk20 (fun _ h => h) rfl dX3_send_126 ?_
        refine lv_iload_n hx hb dX3_send_129 rfl (lv_at hl 4 rfl) ?_
        refine al_i (k := ch) hx hb hK hP 4 0 rfl rfl (hc) (by decide) dX3_send_130 ?_
        refine tp_i (y := nI (w + mk)) (by simp [wI, va_up]) ?_
        exact hex _ _ _ _ _ () hS (rfl) hP hD dX3_send_131
      | succ d ih =>
        intro i H locs ls hi hP hD hS hl
        refine lv_iload hx hb dX3_send_91 (lv_at hl 0 rfl) ?_
        refine lv_iload_n hx hb dX3_send_93 rfl (lv_at hl 2 rfl) ?_
        refine lv_icmp_ge (tgt := 125) hx hb dX3_send_94 (by decide) (fun cc => absurd cc (nI_ge (by omega) (by omega))) (fun _ => ?_)
        refine lv_aload_n hx hb dX3_send_97 rfl (lv_at hl 3 rfl) ?_
        refine lv_iload_n hx hb dX3_send_98 rfl (lv_at hl 4 rfl) ?_
        refine lv_aload_n hx hb dX3_send_99 rfl (lv_at hl 3 rfl) ?_
        refine va_get (D := D) (ci := 3) (v := .ref tp) hx hb hts iX3 hown hK hP 0 rfl rfl 2 (by decide) lk7 (fun _ h => h) rfl dX3_send_100 ?_
        refine lv_iload hx hb dX3_send_103 (lv_at hl 0 rfl) ?_
        refine al_b (k := i) hx hb hK hP 1 1 rfl rfl (by omega) (by decide) dX3_send_105 ?_
        refine lv_iload hx hb dX3_send_106 (lv_at hl 0 rfl) ?_
        refine lv_if_ne (tgt := 115) hx hb dX3_send_108 (by decide) (fun y1 => ?_) (fun y1 => ?_)
        · refine lv_iconst (v := 0) hx hb dX3_send_115 (by decide) ?_
          refine cl0_vv ⟨hx, hb, hml, hown, hts⟩ (c_m_wait l D cA cB cZ y len tp bb zz wa fs fm 0 fk (lwr bf (4200 * ch + w) (fun i => i8 (tg i)) i) (lwr zf (4200 * ch + w) emz i) (va_up ww ch (w + i)) ch (w + i) (tg i) 0 hc (by simp [va_up]) (by omega)) (cwV 3 hts (gM_wait _) rfl rfl rfl (by decide +kernel) ⟨Nat.le_of_ble_eq_true rfl, Nat.le_of_ble_eq_true rfl⟩) (ci := 3) (q0 := 0) rfl rfl hN hK hP hD hS hA [0, 2, 3, 4] [1] [1, 0, 2, 3, 4] [(tp, .inl (cB, 1024, .inl tg))] [(y, .inr (3, [.int 0, .int (nI len), .ref tp, .int (nI 0), .ref bb, .ref zz, .ref wa, .ref fs, .ref fm, .int (nI fk)])), (tp, .inl (cB, 1024, .inl tg)), (bb, .inl (cB, 8400, .inl (upd (lwr bf (4200 * ch + w) (fun i => i8 (tg i)) i) (4200 * ch + (w + i)) (i8 (tg i))))), (zz, .inl (cZ, 8400, .inl (upd (lwr zf (4200 * ch + w) emz i) (4200 * ch + (w + i)) (0 &&& 1)))), (wa, .inl (cA, 2, .inl (wI (va_up (va_up ww ch (w + i)) ch (w + i + 1)))))] [] rfl rfl rfl rfl (by decide) rfl rfl rfl hl.1 rfl (Nat.le_of_ble_eq_true rfl) dX3_send_116 ⟨Nat.le_of_ble_eq_true rfl, Nat.le_of_ble_eq_true rfl⟩ (fun H locs hP hD hS => ?_)
          have eb : upd (lwr bf (4200 * ch + w) (fun i => i8 (tg i)) i) (4200 * ch + (w + i)) (i8 (tg i)) = lwr bf (4200 * ch + w) (fun i => i8 (tg i)) (i + 1) := by rw [← Nat.add_assoc]; rfl
          have ez : upd (lwr zf (4200 * ch + w) emz i) (4200 * ch + (w + i)) (0 &&& 1) = lwr zf (4200 * ch + w) emz (i + 1) := by rw [← Nat.add_assoc]; show upd _ _ _ = upd _ _ (emz i); rw [emz_0 i (by rcases Nat.eq_zero_or_pos i with q | q; exact absurd (by rw [q]; rfl) y1; exact q)]; rfl
          rw [eb, ez, bx_uu] at hP hD
          have hP : va_P D vwCl [(y, .inr (3, [.int 0, .int (nI len), .ref tp, .int (nI 0), .ref bb, .ref zz, .ref wa, .ref fs, .ref fm, .int (nI fk)])), (tp, .inl (cB, 1024, .inl tg)), (bb, .inl (cB, 8400, .inl (lwr bf (4200 * ch + w) (fun i => i8 (tg i)) (i + 1)))), (zz, .inl (cZ, 8400, .inl (lwr zf (4200 * ch + w) emz (i + 1)))), (wa, .inl (cA, 2, .inl (wI (va_up ww ch (w + (i + 1))))))] H := hP
          have hD : va_D A [(y, .inr (3, [.int 0, .int (nI len), .ref tp, .int (nI 0), .ref bb, .ref zz, .ref wa, .ref fs, .ref fm, .int (nI fk)])), (tp, .inl (cB, 1024, .inl tg)), (bb, .inl (cB, 8400, .inl (lwr bf (4200 * ch + w) (fun i => i8 (tg i)) (i + 1)))), (zz, .inl (cZ, 8400, .inl (lwr zf (4200 * ch + w) emz (i + 1)))), (wa, .inl (cA, 2, .inl (wI (va_up ww ch (w + (i + 1))))))] := hD
          refine lv_iinc (v := nI (i + 1)) (lv' := [(4, .int (nI (i + 1))), (3, .int (hpkM tg mk)), (2, .int (nI mk)), (0, .ref y), (1, .int (nI ch))]) hx hb dX3_send_119 hl (k := 0) rfl (nI_1 _) (by decide) rfl (fun ls hl => ?_)
          refine lv_goto (tgt := 91) hx hb dX3_send_122 (by decide) ?_
          exact ih (i + 1) H locs ls (by omega) hP hD hS (lv_sub hl [0, 1, 2, 3, 4] rfl)
        · have hi0 : i = 0 := by rcases Nat.eq_zero_or_pos i with q | q; exact q; exact absurd y1 (nI_ne0 q (by omega))
          refine lv_iconst (v := 1) hx hb dX3_send_111 (by decide) ?_
          refine lv_goto (tgt := 116) hx hb dX3_send_112 (by decide) ?_
          refine cl0_vv ⟨hx, hb, hml, hown, hts⟩ (c_m_wait l D cA cB cZ y len tp bb zz wa fs fm 0 fk (lwr bf (4200 * ch + w) (fun i => i8 (tg i)) i) (lwr zf (4200 * ch + w) emz i) (va_up ww ch (w + i)) ch (w + i) (tg i) 1 hc (by simp [va_up]) (by omega)) (cwV 3 hts (gM_wait _) rfl rfl rfl (by decide +kernel) ⟨Nat.le_of_ble_eq_true rfl, Nat.le_of_ble_eq_true rfl⟩) (ci := 3) (q0 := 0) rfl rfl hN hK hP hD hS hA [0, 2, 3, 4] [1] [1, 0, 2, 3, 4] [(tp, .inl (cB, 1024, .inl tg))] [(y, .inr (3, [.int 0, .int (nI len), .ref tp, .int (nI 0), .ref bb, .ref zz, .ref wa, .ref fs, .ref fm, .int (nI fk)])), (tp, .inl (cB, 1024, .inl tg)), (bb, .inl (cB, 8400, .inl (upd (lwr bf (4200 * ch + w) (fun i => i8 (tg i)) i) (4200 * ch + (w + i)) (i8 (tg i))))), (zz, .inl (cZ, 8400, .inl (upd (lwr zf (4200 * ch + w) emz i) (4200 * ch + (w + i)) (1 &&& 1)))), (wa, .inl (cA, 2, .inl (wI (va_up (va_up ww ch (w + i)) ch (w + i + 1)))))] [] rfl rfl rfl rfl (by decide) rfl rfl rfl hl.1 rfl (Nat.le_of_ble_eq_true rfl) dX3_send_116 ⟨Nat.le_of_ble_eq_true rfl, Nat.le_of_ble_eq_true rfl⟩ (fun H locs hP hD hS => ?_)
          have eb : upd (lwr bf (4200 * ch + w) (fun i => i8 (tg i)) i) (4200 * ch + (w + i)) (i8 (tg i)) = lwr bf (4200 * ch + w) (fun i => i8 (tg i)) (i + 1) := by rw [← Nat.add_assoc]; rfl
          have ez : upd (lwr zf (4200 * ch + w) emz i) (4200 * ch + (w + i)) (1 &&& 1) = lwr zf (4200 * ch + w) emz (i + 1) := by rw [← Nat.add_assoc]; show upd _ _ _ = upd _ _ (emz i); rw [show emz i = 1 from by rw [hi0]; rfl]; rfl
          rw [eb, ez, bx_uu] at hP hD
          have hP : va_P D vwCl [(y, .inr (3, [.int 0, .int (nI len), .ref tp, .int (nI 0), .ref bb, .ref zz, .ref wa, .ref fs, .ref fm, .int (nI fk)])), (tp, .inl (cB, 1024, .inl tg)), (bb, .inl (cB, 8400, .inl (lwr bf (4200 * ch + w) (fun i => i8 (tg i)) (i + 1)))), (zz, .inl (cZ, 8400, .inl (lwr zf (4200 * ch + w) emz (i + 1)))), (wa, .inl (cA, 2, .inl (wI (va_up ww ch (w + (i + 1))))))] H := hP
          have hD : va_D A [(y, .inr (3, [.int 0, .int (nI len), .ref tp, .int (nI 0), .ref bb, .ref zz, .ref wa, .ref fs, .ref fm, .int (nI fk)])), (tp, .inl (cB, 1024, .inl tg)), (bb, .inl (cB, 8400, .inl (lwr bf (4200 * ch + w) (fun i => i8 (tg i)) (i + 1)))), (zz, .inl (cZ, 8400, .inl (lwr zf (4200 * ch + w) emz (i + 1)))), (wa, .inl (cA, 2, .inl (wI (va_up ww ch (w + (i + 1))))))] := hD
          refine lv_iinc (v := nI (i + 1)) (lv' := [(4, .int (nI (i + 1))), (3, .int (hpkM tg mk)), (2, .int (nI mk)), (0, .ref y), (1, .int (nI ch))]) hx hb dX3_send_119 hl (k := 0) rfl (nI_1 _) (by decide) rfl (fun ls hl => ?_)
          refine lv_goto (tgt := 91) hx hb dX3_send_122 (by decide) ?_
          exact ih (i + 1) H locs ls (by omega) hP hD hS (lv_sub hl [0, 1, 2, 3, 4] rfl)
    have e0 : va_up ww ch (w + 0) = ww := by funext j; unfold va_up; by_cases h : j = ch; subst h; simp [hw]; simp [h]
    have hP : va_P D vwCl [(y, .inr (3, [.int 0, .int (nI len), .ref tp, .int (nI 0), .ref bb, .ref zz, .ref wa, .ref fs, .ref fm, .int (nI fk)])), (tp, .inl (cB, 1024, .inl tg)), (bb, .inl (cB, 8400, .inl (lwr bf (4200 * ch + w) (fun i => i8 (tg i)) 0))), (zz, .inl (cZ, 8400, .inl (lwr zf (4200 * ch + w) emz 0))), (wa, .inl (cA, 2, .inl (wI (va_up ww ch (w + 0)))))] H := by rw [e0]; exact hP
    have hD : va_D A [(y, .inr (3, [.int 0, .int (nI len), .ref tp, .int (nI 0), .ref bb, .ref zz, .ref wa, .ref fs, .ref fm, .int (nI fk)])), (tp, .inl (cB, 1024, .inl tg)), (bb, .inl (cB, 8400, .inl (lwr bf (4200 * ch + w) (fun i => i8 (tg i)) 0))), (zz, .inl (cZ, 8400, .inl (lwr zf (4200 * ch + w) emz 0))), (wa, .inl (cA, 2, .inl (wI (va_up ww ch (w + 0)))))] := by rw [e0]; exact hD
    exact loop mk 0 _ _ ls (by omega) hP hD hS (lv_sub hl [0, 1, 2, 3, 4] rfl)
  refine lv_iload_n hx hb dX3_send_15 rfl (lv_at hl 0 rfl) ?_
  refine lv_bipush (v := 6) hx hb dX3_send_16 (by decide +kernel) ?_
  refine lv_icmp_le (tgt := 57) hx hb dX3_send_18 (by decide) (fun z1 => ?_) (fun z1 => ?_)
  · refine lv_iconst (v := 0) hx hb dX3_send_57 (by decide) ?_
    refine tp_i (y := hpkM tg mk) ((if_pos (by rcases Nat.lt_or_ge 6 mk with q | q; exact absurd z1 (nI_ge (a := 6) q (by omega)); exact q)).symm) ?_
    refine lv_istore_n (lv' := [(3, .int (hpkM tg mk)), (2, .int (nI mk)), (0, .ref y), (1, .int (nI ch))]) hx hb dX3_send_58 rfl hl (by decide) rfl (fun ls hl => ?_)
    exact tail _ _ ls hP hD hS (lv_sub hl [0, 1, 2, 3] rfl)
  · have h6 : ¬ mk ≤ 6 := fun q => z1 (nI_le (b := 6) q (by decide))
    refine lv_iload_n hx hb dX3_send_21 rfl (lv_at hl 0 rfl) ?_
    refine lv_bipush (v := 7) hx hb dX3_send_22 (by decide +kernel) ?_
    refine lv_sipush (v := 256) hx hb dX3_send_24 (by decide +kernel) ?_
    refine lv_aload_n hx hb dX3_send_27 rfl (lv_at hl 1 rfl) ?_
    refine va_get (D := D) (ci := 3) (v := .ref tp) hx hb hts iX3 hown hK hP 0 rfl rfl 2 (by decide) lk7 (fun _ h => h) rfl dX3_send_28 ?_
    refine lv_iconst (v := 4) hx hb dX3_send_31 (by decide) ?_
    refine tp_i (y := nI 4) (rfl) ?_
    refine al_b (k := 4) hx hb hK hP 1 1 rfl rfl (by decide) (by decide) dX3_send_32 ?_
    refine lv_sipush (v := 255) hx hb dX3_send_33 (by decide +kernel) ?_
    refine lv_iand hx hb dX3_send_36 ?_
    refine lv_imul hx hb dX3_send_37 ?_
    refine lv_iadd hx hb dX3_send_38 ?_
    refine lv_aload_n hx hb dX3_send_39 rfl (lv_at hl 1 rfl) ?_
    refine va_get (D := D) (ci := 3) (v := .ref tp) hx hb hts iX3 hown hK hP 0 rfl rfl 2 (by decide) lk7 (fun _ h => h) rfl dX3_send_40 ?_
    refine lv_iconst (v := 5) hx hb dX3_send_43 (by decide) ?_
    refine tp_i (y := nI 5) (rfl) ?_
    refine al_b (k := 5) hx hb hK hP 1 1 rfl rfl (by decide) (by decide) dX3_send_44 ?_
    refine lv_sipush (v := 255) hx hb dX3_send_45 (by decide +kernel) ?_
    refine lv_iand hx hb dX3_send_48 ?_
    refine lv_iadd hx hb dX3_send_49 ?_
    refine lv_icmp_ne (tgt := 57) hx hb dX3_send_50 (by decide) (fun z2 => ?_) (fun z2 => ?_)
    · refine lv_iconst (v := 0) hx hb dX3_send_57 (by decide) ?_
      refine tp_i (y := hpkM tg mk) (by unfold hpkM; rw [if_neg h6, if_neg z2]) ?_
      refine lv_istore_n (lv' := [(3, .int (hpkM tg mk)), (2, .int (nI mk)), (0, .ref y), (1, .int (nI ch))]) hx hb dX3_send_58 rfl hl (by decide) rfl (fun ls hl => ?_)
      exact tail _ _ ls hP hD hS (lv_sub hl [0, 1, 2, 3] rfl)
    · refine lv_iconst (v := 1) hx hb dX3_send_53 (by decide) ?_
      refine lv_goto (tgt := 58) hx hb dX3_send_54 (by decide) ?_
      refine tp_i (y := hpkM tg mk) (by unfold hpkM; rw [if_neg h6, if_pos z2]) ?_
      refine lv_istore_n (lv' := [(3, .int (hpkM tg mk)), (2, .int (nI mk)), (0, .ref y), (1, .int (nI ch))]) hx hb dX3_send_58 rfl hl (by decide) rfl (fun ls hl => ?_)
      exact tail _ _ ls hP hD hS (lv_sub hl [0, 1, 2, 3] rfl)

set_option maxHeartbeats 4000000 in
set_option maxRecDepth 100000 in
/-- byteAt -/
theorem c_m_byteAt (l : Launch) (D : va_G) (cA cB cZ : ClassId) (y len tp bb zz wa fs fm mk fk : Nat) (ff : Nat → Int32) (z : Int32) (hk : fk ≤ 256) : MI0 l yX3_byteAt wsM_byteAt { frames := 0, cells := 0, slots := 0, locals := 0 } [.ref y, .int z] D [(cA, .int), (cB, .byte), (cZ, .boolean)] [(y, .inr (3, [.int 0, .int (nI len), .ref tp, .int (nI mk), .ref bb, .ref zz, .ref wa, .ref fs, .ref fm, .int (nI fk)])), (fm, .inl (cB, 256, .inl ff))] (mat ff fk z) [(y, .inr (3, [.int 0, .int (nI len), .ref tp, .int (nI mk), .ref bb, .ref zz, .ref wa, .ref fs, .ref fm, .int (nI fk)])), (fm, .inl (cB, 256, .inl ff))] := by
  refine mt_i (by decide) rfl (Nat.le_of_ble_eq_true rfl) ?_
  intro p e s m below meth c A ls Q hx hb hts hown hml hin hN hK hA hP hD hS hl hex
  have hown : s.vm.findClass RX3 = some m.cls := hown
  have hl : lv_has ls 2 [(0, .ref y), (1, .int z)] := hl
  have iX3 : ∀ w ∈ wsX30, w ∈ wsM_byteAt := by decide +kernel
  have lk27 := hts (.fieldLink RX3 27 "DownFramesModel" "frame" "[B") (by decide +kernel)
  have lk34 := hts (.fieldLink RX3 34 "DownFramesModel" "thrown" "I") (by decide +kernel)
  have lk44 := hts (.fieldLink RX3 44 "DownFramesModel" "filled" "I") (by decide +kernel)
  refine lv_aload_n hx hb dX3_byteAt_0 rfl (lv_at hl 0 rfl) ?_
  refine lv_iconst (v := 0) hx hb dX3_byteAt_1 (by decide) ?_
  refine va_put (D := D) (ci := 3) (v := .int 0) (ty := (.int)) hx hb hts iX3 tyX3 tyX3_ok nmX3 hown hK hP hD hS 0 rfl rfl 0 (by decide) lk34 (fun _ h => h) rfl (by decide +kernel) rfl rfl (Nat.le_of_ble_eq_true rfl) dX3_byteAt_2 (fun H locs hP hD hS => ?_)
  have hP : va_P D vwCl [(y, .inr (3, [.int 0, .int (nI len), .ref tp, .int (nI mk), .ref bb, .ref zz, .ref wa, .ref fs, .ref fm, .int (nI fk)])), (fm, .inl (cB, 256, .inl ff))] H := hP
  have hD : va_D A [(y, .inr (3, [.int 0, .int (nI len), .ref tp, .int (nI mk), .ref bb, .ref zz, .ref wa, .ref fs, .ref fm, .int (nI fk)])), (fm, .inl (cB, 256, .inl ff))] := hD
  refine lv_iload_n hx hb dX3_byteAt_5 rfl (lv_at hl 1 rfl) ?_
  refine lv_if_lt (tgt := 30) hx hb dX3_byteAt_6 (by decide) (fun z1 => ?_) (fun z1 => ?_)
  · refine lv_iconst (v := (-1)) hx hb dX3_byteAt_30 (by decide) ?_
    exact hex _ _ _ _ _ () hS ((if_neg (fun q => q.1 z1)).symm) hP hD dX3_byteAt_31
  · refine lv_iload_n hx hb dX3_byteAt_9 rfl (lv_at hl 1 rfl) ?_
    refine lv_aload_n hx hb dX3_byteAt_10 rfl (lv_at hl 0 rfl) ?_
    refine va_get (D := D) (ci := 3) (v := .int (nI fk)) hx hb hts iX3 hown hK hP 0 rfl rfl 9 (by decide) lk44 (fun _ h => h) rfl dX3_byteAt_11 ?_
    refine lv_icmp_ge (tgt := 30) hx hb dX3_byteAt_14 (by decide) (fun z2 => ?_) (fun z2 => ?_)
    · refine lv_iconst (v := (-1)) hx hb dX3_byteAt_30 (by decide) ?_
      exact hex _ _ _ _ _ () hS ((if_neg (fun q => q.2 z2)).symm) hP hD dX3_byteAt_31
    · obtain ⟨j, hj, rfl⟩ := nI_of z1
      have hjk : j < fk := Nat.not_le.mp (fun q => z2 (nI_le q hj))
      refine lv_aload_n hx hb dX3_byteAt_17 rfl (lv_at hl 0 rfl) ?_
      refine va_get (D := D) (ci := 3) (v := .ref fm) hx hb hts iX3 hown hK hP 0 rfl rfl 8 (by decide) lk27 (fun _ h => h) rfl dX3_byteAt_18 ?_
      refine lv_iload_n hx hb dX3_byteAt_21 rfl (lv_at hl 1 rfl) ?_
      refine al_b (k := j) hx hb hK hP 1 1 rfl rfl (by omega) (by decide) dX3_byteAt_22 ?_
      refine lv_sipush (v := 255) hx hb dX3_byteAt_23 (by decide +kernel) ?_
      refine lv_iand hx hb dX3_byteAt_26 ?_
      refine lv_goto (tgt := 31) hx hb dX3_byteAt_27 (by decide) ?_
      exact hex _ _ _ _ _ () hS (mat_val hj z1 z2) hP hD dX3_byteAt_31

set_option maxHeartbeats 4000000 in
set_option maxRecDepth 100000 in
/-- waiting -/
theorem c_m_wait0 (l : Launch) (D : va_G) (cA cB cZ : ClassId) (y len tp bb zz wa fs fm mk fk : Nat) (ww : Nat → Nat) : MI0 l yX3_waiting wsM_waiting { frames := 0, cells := 0, slots := 0, locals := 0 } [.ref y, .int 0] D [(cA, .int), (cB, .byte), (cZ, .boolean)] [(y, .inr (3, [.int 0, .int (nI len), .ref tp, .int (nI mk), .ref bb, .ref zz, .ref wa, .ref fs, .ref fm, .int (nI fk)])), (wa, .inl (cA, 2, .inl (wI ww)))] (nI (ww 0)) [(y, .inr (3, [.int 0, .int (nI len), .ref tp, .int (nI mk), .ref bb, .ref zz, .ref wa, .ref fs, .ref fm, .int (nI fk)])), (wa, .inl (cA, 2, .inl (wI ww)))] := by
  refine mt_i (by decide) rfl (Nat.le_of_ble_eq_true rfl) ?_
  intro p e s m below meth c A ls Q hx hb hts hown hml hin hN hK hA hP hD hS hl hex
  have hown : s.vm.findClass RX3 = some m.cls := hown
  have hl : lv_has ls 2 [(0, .ref y), (1, .int 0)] := hl
  have iX3 : ∀ w ∈ wsX30, w ∈ wsM_waiting := by decide +kernel
  have lk20 := hts (.fieldLink RX3 20 "DownFramesModel" "waits" "[I") (by decide +kernel)
  have lk34 := hts (.fieldLink RX3 34 "DownFramesModel" "thrown" "I") (by decide +kernel)
  refine lv_aload_n hx hb dX3_waiting_0 rfl (lv_at hl 0 rfl) ?_
  refine lv_iconst (v := 0) hx hb dX3_waiting_1 (by decide) ?_
  refine va_put (D := D) (ci := 3) (v := .int 0) (ty := (.int)) hx hb hts iX3 tyX3 tyX3_ok nmX3 hown hK hP hD hS 0 rfl rfl 0 (by decide) lk34 (fun _ h => h) rfl (by decide +kernel) rfl rfl (Nat.le_of_ble_eq_true rfl) dX3_waiting_2 (fun H locs hP hD hS => ?_)
  have hP : va_P D vwCl [(y, .inr (3, [.int 0, .int (nI len), .ref tp, .int (nI mk), .ref bb, .ref zz, .ref wa, .ref fs, .ref fm, .int (nI fk)])), (wa, .inl (cA, 2, .inl (wI ww)))] H := hP
  have hD : va_D A [(y, .inr (3, [.int 0, .int (nI len), .ref tp, .int (nI mk), .ref bb, .ref zz, .ref wa, .ref fs, .ref fm, .int (nI fk)])), (wa, .inl (cA, 2, .inl (wI ww)))] := hD
  refine lv_iload_n hx hb dX3_waiting_5 rfl (lv_at hl 1 rfl) ?_
  refine lv_if_eq (tgt := 14) hx hb dX3_waiting_6 (by decide) (fun _ => ?_) (fun cc => absurd (rfl) cc)
  refine lv_aload_n hx hb dX3_waiting_14 rfl (lv_at hl 0 rfl) ?_
  refine va_get (D := D) (ci := 3) (v := .ref wa) hx hb hts iX3 hown hK hP 0 rfl rfl 6 (by decide) lk20 (fun _ h => h) rfl dX3_waiting_15 ?_
  refine lv_iload_n hx hb dX3_waiting_18 rfl (lv_at hl 1 rfl) ?_
  refine tp_i (y := nI 0) (rfl) ?_
  refine al_i (k := 0) hx hb hK hP 1 0 rfl rfl (by decide) (by decide) dX3_waiting_19 ?_
  refine lv_goto (tgt := 24) hx hb dX3_waiting_20 (by decide) ?_
  exact hex _ _ _ _ _ () hS (rfl) hP hD dX3_waiting_24

set_option maxHeartbeats 4000000 in
set_option maxRecDepth 100000 in
/-- waiting -/
theorem c_m_wait1 (l : Launch) (D : va_G) (cA cB cZ : ClassId) (y len tp bb zz wa fs fm mk fk : Nat) (ww : Nat → Nat) : MI0 l yX3_waiting wsM_waiting { frames := 0, cells := 0, slots := 0, locals := 0 } [.ref y, .int 1] D [(cA, .int), (cB, .byte), (cZ, .boolean)] [(y, .inr (3, [.int 0, .int (nI len), .ref tp, .int (nI mk), .ref bb, .ref zz, .ref wa, .ref fs, .ref fm, .int (nI fk)])), (wa, .inl (cA, 2, .inl (wI ww)))] (nI (ww 1)) [(y, .inr (3, [.int 0, .int (nI len), .ref tp, .int (nI mk), .ref bb, .ref zz, .ref wa, .ref fs, .ref fm, .int (nI fk)])), (wa, .inl (cA, 2, .inl (wI ww)))] := by
  refine mt_i (by decide) rfl (Nat.le_of_ble_eq_true rfl) ?_
  intro p e s m below meth c A ls Q hx hb hts hown hml hin hN hK hA hP hD hS hl hex
  have hown : s.vm.findClass RX3 = some m.cls := hown
  have hl : lv_has ls 2 [(0, .ref y), (1, .int 1)] := hl
  have iX3 : ∀ w ∈ wsX30, w ∈ wsM_waiting := by decide +kernel
  have lk20 := hts (.fieldLink RX3 20 "DownFramesModel" "waits" "[I") (by decide +kernel)
  have lk34 := hts (.fieldLink RX3 34 "DownFramesModel" "thrown" "I") (by decide +kernel)
  refine lv_aload_n hx hb dX3_waiting_0 rfl (lv_at hl 0 rfl) ?_
  refine lv_iconst (v := 0) hx hb dX3_waiting_1 (by decide) ?_
  refine va_put (D := D) (ci := 3) (v := .int 0) (ty := (.int)) hx hb hts iX3 tyX3 tyX3_ok nmX3 hown hK hP hD hS 0 rfl rfl 0 (by decide) lk34 (fun _ h => h) rfl (by decide +kernel) rfl rfl (Nat.le_of_ble_eq_true rfl) dX3_waiting_2 (fun H locs hP hD hS => ?_)
  have hP : va_P D vwCl [(y, .inr (3, [.int 0, .int (nI len), .ref tp, .int (nI mk), .ref bb, .ref zz, .ref wa, .ref fs, .ref fm, .int (nI fk)])), (wa, .inl (cA, 2, .inl (wI ww)))] H := hP
  have hD : va_D A [(y, .inr (3, [.int 0, .int (nI len), .ref tp, .int (nI mk), .ref bb, .ref zz, .ref wa, .ref fs, .ref fm, .int (nI fk)])), (wa, .inl (cA, 2, .inl (wI ww)))] := hD
  refine lv_iload_n hx hb dX3_waiting_5 rfl (lv_at hl 1 rfl) ?_
  refine lv_if_eq (tgt := 14) hx hb dX3_waiting_6 (by decide) (fun cc => absurd cc (by decide)) (fun _ => ?_)
  refine lv_iload_n hx hb dX3_waiting_9 rfl (lv_at hl 1 rfl) ?_
  refine lv_iconst (v := 1) hx hb dX3_waiting_10 (by decide) ?_
  refine lv_icmp_ne (tgt := 23) hx hb dX3_waiting_11 (by decide) (fun cc => absurd (rfl) cc) (fun _ => ?_)
  refine lv_aload_n hx hb dX3_waiting_14 rfl (lv_at hl 0 rfl) ?_
  refine va_get (D := D) (ci := 3) (v := .ref wa) hx hb hts iX3 hown hK hP 0 rfl rfl 6 (by decide) lk20 (fun _ h => h) rfl dX3_waiting_15 ?_
  refine lv_iload_n hx hb dX3_waiting_18 rfl (lv_at hl 1 rfl) ?_
  refine tp_i (y := nI 1) (rfl) ?_
  refine al_i (k := 1) hx hb hK hP 1 0 rfl rfl (by decide) (by decide) dX3_waiting_19 ?_
  refine lv_goto (tgt := 24) hx hb dX3_waiting_20 (by decide) ?_
  exact hex _ _ _ _ _ () hS (rfl) hP hD dX3_waiting_24

set_option maxHeartbeats 4000000 in
set_option maxRecDepth 100000 in
/-- waiting -/
theorem c_m_waitN (l : Launch) (D : va_G) (cA cB cZ : ClassId) (y len tp bb zz wa fs fm mk fk : Nat) (ww : Nat → Nat) (z : Int32) (hz0 : ¬ z = 0) (hz1 : ¬ z = 1) : MI0 l yX3_waiting wsM_waiting { frames := 0, cells := 0, slots := 0, locals := 0 } [.ref y, .int z] D [(cA, .int), (cB, .byte), (cZ, .boolean)] [(y, .inr (3, [.int 0, .int (nI len), .ref tp, .int (nI mk), .ref bb, .ref zz, .ref wa, .ref fs, .ref fm, .int (nI fk)])), (wa, .inl (cA, 2, .inl (wI ww)))] (-1) [(y, .inr (3, [.int 0, .int (nI len), .ref tp, .int (nI mk), .ref bb, .ref zz, .ref wa, .ref fs, .ref fm, .int (nI fk)])), (wa, .inl (cA, 2, .inl (wI ww)))] := by
  refine mt_i (by decide) rfl (Nat.le_of_ble_eq_true rfl) ?_
  intro p e s m below meth c A ls Q hx hb hts hown hml hin hN hK hA hP hD hS hl hex
  have hown : s.vm.findClass RX3 = some m.cls := hown
  have hl : lv_has ls 2 [(0, .ref y), (1, .int z)] := hl
  have iX3 : ∀ w ∈ wsX30, w ∈ wsM_waiting := by decide +kernel
  have lk34 := hts (.fieldLink RX3 34 "DownFramesModel" "thrown" "I") (by decide +kernel)
  refine lv_aload_n hx hb dX3_waiting_0 rfl (lv_at hl 0 rfl) ?_
  refine lv_iconst (v := 0) hx hb dX3_waiting_1 (by decide) ?_
  refine va_put (D := D) (ci := 3) (v := .int 0) (ty := (.int)) hx hb hts iX3 tyX3 tyX3_ok nmX3 hown hK hP hD hS 0 rfl rfl 0 (by decide) lk34 (fun _ h => h) rfl (by decide +kernel) rfl rfl (Nat.le_of_ble_eq_true rfl) dX3_waiting_2 (fun H locs hP hD hS => ?_)
  have hP : va_P D vwCl [(y, .inr (3, [.int 0, .int (nI len), .ref tp, .int (nI mk), .ref bb, .ref zz, .ref wa, .ref fs, .ref fm, .int (nI fk)])), (wa, .inl (cA, 2, .inl (wI ww)))] H := hP
  have hD : va_D A [(y, .inr (3, [.int 0, .int (nI len), .ref tp, .int (nI mk), .ref bb, .ref zz, .ref wa, .ref fs, .ref fm, .int (nI fk)])), (wa, .inl (cA, 2, .inl (wI ww)))] := hD
  refine lv_iload_n hx hb dX3_waiting_5 rfl (lv_at hl 1 rfl) ?_
  refine lv_if_eq (tgt := 14) hx hb dX3_waiting_6 (by decide) (fun cc => absurd cc (hz0)) (fun _ => ?_)
  refine lv_iload_n hx hb dX3_waiting_9 rfl (lv_at hl 1 rfl) ?_
  refine lv_iconst (v := 1) hx hb dX3_waiting_10 (by decide) ?_
  refine lv_icmp_ne (tgt := 23) hx hb dX3_waiting_11 (by decide) (fun _ => ?_) (fun cc => absurd cc (hz1))
  refine lv_iconst (v := (-1)) hx hb dX3_waiting_23 (by decide) ?_
  exact hex _ _ _ _ _ () hS (rfl) hP hD dX3_waiting_24

set_option maxHeartbeats 4000000 in
set_option maxRecDepth 100000 in
/-- count of frames -/
theorem c_m_countF (l : Launch) (D : va_G) (cA cB cZ : ClassId) (y len tp bb zz wa fs fm mk fk : Nat) (mf : Nat → Int32) (j : Nat) (hj : j < 4) : MI0 l yX3_count wsM_count { frames := 0, cells := 0, slots := 0, locals := 0 } [.ref y, .int (nI j)] D [(cA, .int), (cB, .byte), (cZ, .boolean)] [(y, .inr (3, [.int 0, .int (nI len), .ref tp, .int (nI mk), .ref bb, .ref zz, .ref wa, .ref fs, .ref fm, .int (nI fk)])), (fs, .inl (cA, 4, .inl mf))] (mf j) [(y, .inr (3, [.int 0, .int (nI len), .ref tp, .int (nI mk), .ref bb, .ref zz, .ref wa, .ref fs, .ref fm, .int (nI fk)])), (fs, .inl (cA, 4, .inl mf))] := by
  refine mt_i (by decide) rfl (Nat.le_of_ble_eq_true rfl) ?_
  intro p e s m below meth c A ls Q hx hb hts hown hml hin hN hK hA hP hD hS hl hex
  have hown : s.vm.findClass RX3 = some m.cls := hown
  have hl : lv_has ls 2 [(0, .ref y), (1, .int (nI j))] := hl
  have iX3 : ∀ w ∈ wsX30, w ∈ wsM_count := by decide +kernel
  have lk24 := hts (.fieldLink RX3 24 "DownFramesModel" "frames" "[I") (by decide +kernel)
  have lk34 := hts (.fieldLink RX3 34 "DownFramesModel" "thrown" "I") (by decide +kernel)
  refine lv_aload_n hx hb dX3_count_0 rfl (lv_at hl 0 rfl) ?_
  refine lv_iconst (v := 0) hx hb dX3_count_1 (by decide) ?_
  refine va_put (D := D) (ci := 3) (v := .int 0) (ty := (.int)) hx hb hts iX3 tyX3 tyX3_ok nmX3 hown hK hP hD hS 0 rfl rfl 0 (by decide) lk34 (fun _ h => h) rfl (by decide +kernel) rfl rfl (Nat.le_of_ble_eq_true rfl) dX3_count_2 (fun H locs hP hD hS => ?_)
  have hP : va_P D vwCl [(y, .inr (3, [.int 0, .int (nI len), .ref tp, .int (nI mk), .ref bb, .ref zz, .ref wa, .ref fs, .ref fm, .int (nI fk)])), (fs, .inl (cA, 4, .inl mf))] H := hP
  have hD : va_D A [(y, .inr (3, [.int 0, .int (nI len), .ref tp, .int (nI mk), .ref bb, .ref zz, .ref wa, .ref fs, .ref fm, .int (nI fk)])), (fs, .inl (cA, 4, .inl mf))] := hD
  refine lv_iload_n hx hb dX3_count_5 rfl (lv_at hl 1 rfl) ?_
  refine lv_if_lt (tgt := 23) hx hb dX3_count_6 (by decide) (fun cc => absurd cc (nI_pos (by omega))) (fun _ => ?_)
  refine lv_iload_n hx hb dX3_count_9 rfl (lv_at hl 1 rfl) ?_
  refine lv_iconst (v := 4) hx hb dX3_count_10 (by decide) ?_
  refine lv_icmp_ge (tgt := 23) hx hb dX3_count_11 (by decide) (fun cc => absurd cc (nI_ge (b := 4) hj (by decide))) (fun _ => ?_)
  refine lv_aload_n hx hb dX3_count_14 rfl (lv_at hl 0 rfl) ?_
  refine va_get (D := D) (ci := 3) (v := .ref fs) hx hb hts iX3 hown hK hP 0 rfl rfl 7 (by decide) lk24 (fun _ h => h) rfl dX3_count_15 ?_
  refine lv_iload_n hx hb dX3_count_18 rfl (lv_at hl 1 rfl) ?_
  refine al_i (k := j) hx hb hK hP 1 0 rfl rfl (hj) (by decide) dX3_count_19 ?_
  refine lv_goto (tgt := 48) hx hb dX3_count_20 (by decide) ?_
  exact hex _ _ _ _ _ () hS (rfl) hP hD dX3_count_48

set_option maxHeartbeats 4000000 in
set_option maxRecDepth 100000 in
/-- count -/
theorem c_m_count4 (l : Launch) (D : va_G) (cA cB cZ : ClassId) (y len tp bb zz wa fs fm mk fk : Nat) : MI0 l yX3_count wsM_count { frames := 0, cells := 0, slots := 0, locals := 0 } [.ref y, .int 4] D [(cA, .int), (cB, .byte), (cZ, .boolean)] [(y, .inr (3, [.int 0, .int (nI len), .ref tp, .int (nI mk), .ref bb, .ref zz, .ref wa, .ref fs, .ref fm, .int (nI fk)]))] (nI mk) [(y, .inr (3, [.int 0, .int (nI len), .ref tp, .int (nI mk), .ref bb, .ref zz, .ref wa, .ref fs, .ref fm, .int (nI fk)]))] := by
  refine mt_i (by decide) rfl (Nat.le_of_ble_eq_true rfl) ?_
  intro p e s m below meth c A ls Q hx hb hts hown hml hin hN hK hA hP hD hS hl hex
  have hown : s.vm.findClass RX3 = some m.cls := hown
  have hl : lv_has ls 2 [(0, .ref y), (1, .int 4)] := hl
  have iX3 : ∀ w ∈ wsX30, w ∈ wsM_count := by decide +kernel
  have lk34 := hts (.fieldLink RX3 34 "DownFramesModel" "thrown" "I") (by decide +kernel)
  have lk37 := hts (.fieldLink RX3 37 "DownFramesModel" "many" "I") (by decide +kernel)
  refine lv_aload_n hx hb dX3_count_0 rfl (lv_at hl 0 rfl) ?_
  refine lv_iconst (v := 0) hx hb dX3_count_1 (by decide) ?_
  refine va_put (D := D) (ci := 3) (v := .int 0) (ty := (.int)) hx hb hts iX3 tyX3 tyX3_ok nmX3 hown hK hP hD hS 0 rfl rfl 0 (by decide) lk34 (fun _ h => h) rfl (by decide +kernel) rfl rfl (Nat.le_of_ble_eq_true rfl) dX3_count_2 (fun H locs hP hD hS => ?_)
  have hP : va_P D vwCl [(y, .inr (3, [.int 0, .int (nI len), .ref tp, .int (nI mk), .ref bb, .ref zz, .ref wa, .ref fs, .ref fm, .int (nI fk)]))] H := hP
  have hD : va_D A [(y, .inr (3, [.int 0, .int (nI len), .ref tp, .int (nI mk), .ref bb, .ref zz, .ref wa, .ref fs, .ref fm, .int (nI fk)]))] := hD
  refine lv_iload_n hx hb dX3_count_5 rfl (lv_at hl 1 rfl) ?_
  refine lv_if_lt (tgt := 23) hx hb dX3_count_6 (by decide) (fun cc => absurd cc (by decide)) (fun _ => ?_)
  refine lv_iload_n hx hb dX3_count_9 rfl (lv_at hl 1 rfl) ?_
  refine lv_iconst (v := 4) hx hb dX3_count_10 (by decide) ?_
  refine lv_icmp_ge (tgt := 23) hx hb dX3_count_11 (by decide) (fun _ => ?_) (fun cc => absurd (by decide) cc)
  refine lv_iload_n hx hb dX3_count_23 rfl (lv_at hl 1 rfl) ?_
  refine lv_iconst (v := 4) hx hb dX3_count_24 (by decide) ?_
  refine lv_icmp_ne (tgt := 35) hx hb dX3_count_25 (by decide) (fun cc => absurd (rfl) cc) (fun _ => ?_)
  refine lv_aload_n hx hb dX3_count_28 rfl (lv_at hl 0 rfl) ?_
  refine va_get (D := D) (ci := 3) (v := .int (nI mk)) hx hb hts iX3 hown hK hP 0 rfl rfl 3 (by decide) lk37 (fun _ h => h) rfl dX3_count_29 ?_
  refine lv_goto (tgt := 48) hx hb dX3_count_32 (by decide) ?_
  exact hex _ _ _ _ _ () hS (rfl) hP hD dX3_count_48

set_option maxHeartbeats 4000000 in
set_option maxRecDepth 100000 in
/-- count -/
theorem c_m_count5 (l : Launch) (D : va_G) (cA cB cZ : ClassId) (y len tp bb zz wa fs fm mk fk : Nat) : MI0 l yX3_count wsM_count { frames := 0, cells := 0, slots := 0, locals := 0 } [.ref y, .int 5] D [(cA, .int), (cB, .byte), (cZ, .boolean)] [(y, .inr (3, [.int 0, .int (nI len), .ref tp, .int (nI mk), .ref bb, .ref zz, .ref wa, .ref fs, .ref fm, .int (nI fk)]))] (nI len) [(y, .inr (3, [.int 0, .int (nI len), .ref tp, .int (nI mk), .ref bb, .ref zz, .ref wa, .ref fs, .ref fm, .int (nI fk)]))] := by
  refine mt_i (by decide) rfl (Nat.le_of_ble_eq_true rfl) ?_
  intro p e s m below meth c A ls Q hx hb hts hown hml hin hN hK hA hP hD hS hl hex
  have hown : s.vm.findClass RX3 = some m.cls := hown
  have hl : lv_has ls 2 [(0, .ref y), (1, .int 5)] := hl
  have iX3 : ∀ w ∈ wsX30, w ∈ wsM_count := by decide +kernel
  have lk30 := hts (.fieldLink RX3 30 "DownFramesModel" "length" "I") (by decide +kernel)
  have lk34 := hts (.fieldLink RX3 34 "DownFramesModel" "thrown" "I") (by decide +kernel)
  refine lv_aload_n hx hb dX3_count_0 rfl (lv_at hl 0 rfl) ?_
  refine lv_iconst (v := 0) hx hb dX3_count_1 (by decide) ?_
  refine va_put (D := D) (ci := 3) (v := .int 0) (ty := (.int)) hx hb hts iX3 tyX3 tyX3_ok nmX3 hown hK hP hD hS 0 rfl rfl 0 (by decide) lk34 (fun _ h => h) rfl (by decide +kernel) rfl rfl (Nat.le_of_ble_eq_true rfl) dX3_count_2 (fun H locs hP hD hS => ?_)
  have hP : va_P D vwCl [(y, .inr (3, [.int 0, .int (nI len), .ref tp, .int (nI mk), .ref bb, .ref zz, .ref wa, .ref fs, .ref fm, .int (nI fk)]))] H := hP
  have hD : va_D A [(y, .inr (3, [.int 0, .int (nI len), .ref tp, .int (nI mk), .ref bb, .ref zz, .ref wa, .ref fs, .ref fm, .int (nI fk)]))] := hD
  refine lv_iload_n hx hb dX3_count_5 rfl (lv_at hl 1 rfl) ?_
  refine lv_if_lt (tgt := 23) hx hb dX3_count_6 (by decide) (fun cc => absurd cc (by decide)) (fun _ => ?_)
  refine lv_iload_n hx hb dX3_count_9 rfl (lv_at hl 1 rfl) ?_
  refine lv_iconst (v := 4) hx hb dX3_count_10 (by decide) ?_
  refine lv_icmp_ge (tgt := 23) hx hb dX3_count_11 (by decide) (fun _ => ?_) (fun cc => absurd (by decide) cc)
  refine lv_iload_n hx hb dX3_count_23 rfl (lv_at hl 1 rfl) ?_
  refine lv_iconst (v := 4) hx hb dX3_count_24 (by decide) ?_
  refine lv_icmp_ne (tgt := 35) hx hb dX3_count_25 (by decide) (fun _ => ?_) (fun cc => absurd cc (by decide))
  refine lv_iload_n hx hb dX3_count_35 rfl (lv_at hl 1 rfl) ?_
  refine lv_iconst (v := 5) hx hb dX3_count_36 (by decide) ?_
  refine lv_icmp_ne (tgt := 47) hx hb dX3_count_37 (by decide) (fun cc => absurd (rfl) cc) (fun _ => ?_)
  refine lv_aload_n hx hb dX3_count_40 rfl (lv_at hl 0 rfl) ?_
  refine va_get (D := D) (ci := 3) (v := .int (nI len)) hx hb hts iX3 hown hK hP 0 rfl rfl 1 (by decide) lk30 (fun _ h => h) rfl dX3_count_41 ?_
  refine lv_goto (tgt := 48) hx hb dX3_count_44 (by decide) ?_
  exact hex _ _ _ _ _ () hS (rfl) hP hD dX3_count_48

set_option maxHeartbeats 4000000 in
set_option maxRecDepth 100000 in
/-- count of nothing -/
theorem c_m_countN (l : Launch) (D : va_G) (cA cB cZ : ClassId) (y len tp bb zz wa fs fm mk fk : Nat) (z : Int32) (hz : z < 0 ∨ 4 ≤ z) (h4 : ¬ z = 4) (h5 : ¬ z = 5) : MI0 l yX3_count wsM_count { frames := 0, cells := 0, slots := 0, locals := 0 } [.ref y, .int z] D [(cA, .int), (cB, .byte), (cZ, .boolean)] [(y, .inr (3, [.int 0, .int (nI len), .ref tp, .int (nI mk), .ref bb, .ref zz, .ref wa, .ref fs, .ref fm, .int (nI fk)]))] (-1) [(y, .inr (3, [.int 0, .int (nI len), .ref tp, .int (nI mk), .ref bb, .ref zz, .ref wa, .ref fs, .ref fm, .int (nI fk)]))] := by
  refine mt_i (by decide) rfl (Nat.le_of_ble_eq_true rfl) ?_
  intro p e s m below meth c A ls Q hx hb hts hown hml hin hN hK hA hP hD hS hl hex
  have hown : s.vm.findClass RX3 = some m.cls := hown
  have hl : lv_has ls 2 [(0, .ref y), (1, .int z)] := hl
  have iX3 : ∀ w ∈ wsX30, w ∈ wsM_count := by decide +kernel
  have lk34 := hts (.fieldLink RX3 34 "DownFramesModel" "thrown" "I") (by decide +kernel)
  refine lv_aload_n hx hb dX3_count_0 rfl (lv_at hl 0 rfl) ?_
  refine lv_iconst (v := 0) hx hb dX3_count_1 (by decide) ?_
  refine va_put (D := D) (ci := 3) (v := .int 0) (ty := (.int)) hx hb hts iX3 tyX3 tyX3_ok nmX3 hown hK hP hD hS 0 rfl rfl 0 (by decide) lk34 (fun _ h => h) rfl (by decide +kernel) rfl rfl (Nat.le_of_ble_eq_true rfl) dX3_count_2 (fun H locs hP hD hS => ?_)
  have hP : va_P D vwCl [(y, .inr (3, [.int 0, .int (nI len), .ref tp, .int (nI mk), .ref bb, .ref zz, .ref wa, .ref fs, .ref fm, .int (nI fk)]))] H := hP
  have hD : va_D A [(y, .inr (3, [.int 0, .int (nI len), .ref tp, .int (nI mk), .ref bb, .ref zz, .ref wa, .ref fs, .ref fm, .int (nI fk)]))] := hD
  refine lv_iload_n hx hb dX3_count_5 rfl (lv_at hl 1 rfl) ?_
  refine lv_if_lt (tgt := 23) hx hb dX3_count_6 (by decide) (fun z1 => ?_) (fun z1 => ?_)
  · refine lv_iload_n hx hb dX3_count_23 rfl (lv_at hl 1 rfl) ?_
    refine lv_iconst (v := 4) hx hb dX3_count_24 (by decide) ?_
    refine lv_icmp_ne (tgt := 35) hx hb dX3_count_25 (by decide) (fun _ => ?_) (fun cc => absurd cc (h4))
    refine lv_iload_n hx hb dX3_count_35 rfl (lv_at hl 1 rfl) ?_
    refine lv_iconst (v := 5) hx hb dX3_count_36 (by decide) ?_
    refine lv_icmp_ne (tgt := 47) hx hb dX3_count_37 (by decide) (fun _ => ?_) (fun cc => absurd cc (h5))
    refine lv_iconst (v := (-1)) hx hb dX3_count_47 (by decide) ?_
    exact hex _ _ _ _ _ () hS (rfl) hP hD dX3_count_48
  · refine lv_iload_n hx hb dX3_count_9 rfl (lv_at hl 1 rfl) ?_
    refine lv_iconst (v := 4) hx hb dX3_count_10 (by decide) ?_
    refine lv_icmp_ge (tgt := 23) hx hb dX3_count_11 (by decide) (fun z2 => ?_) (fun z2 => ?_)
    · refine lv_iload_n hx hb dX3_count_23 rfl (lv_at hl 1 rfl) ?_
      refine lv_iconst (v := 4) hx hb dX3_count_24 (by decide) ?_
      refine lv_icmp_ne (tgt := 35) hx hb dX3_count_25 (by decide) (fun _ => ?_) (fun cc => absurd cc (h4))
      refine lv_iload_n hx hb dX3_count_35 rfl (lv_at hl 1 rfl) ?_
      refine lv_iconst (v := 5) hx hb dX3_count_36 (by decide) ?_
      refine lv_icmp_ne (tgt := 47) hx hb dX3_count_37 (by decide) (fun _ => ?_) (fun cc => absurd cc (h5))
      refine lv_iconst (v := (-1)) hx hb dX3_count_47 (by decide) ?_
      exact hex _ _ _ _ _ () hS (rfl) hP hD dX3_count_48
    · exact absurd hz (fun q => by rcases q with q | q; exact z1 q; exact z2 q)

set_option maxHeartbeats 4000000 in
set_option maxRecDepth 100000 in
/-- DownFramesModel(length) -/
theorem c_m_init (l : Launch) (D : va_G) (cA cB cZ : ClassId) (y : Nat) (z : Int32) : MV (S := Nat × Nat × Nat × Nat × Nat × Nat) l yX3_init wsM_init { frames := 1, cells := 6, slots := 18086, locals := 12 } [.ref y, .int z] D [(cA, .int), (cB, .byte), (cZ, .boolean)] [(y, .inr (3, [.int 0, .int 0, .null, .int 0, .null, .null, .null, .null, .null, .int 0]))] (fun _ => True) (fun u => [(y, .inr (3, [.int 0, .int (nI (clN z)), .ref (u.1), .int (nI 0), .ref (u.2.1), .ref (u.2.2.1), .ref (u.2.2.2.1), .ref (u.2.2.2.2.1), .ref (u.2.2.2.2.2), .int (nI 0)])), ((u.1), .inl (cB, 1024, .inl (fun _ => 0))), ((u.2.1), .inl (cB, 8400, .inl (fun _ => 0))), ((u.2.2.1), .inl (cZ, 8400, .inl (fun _ => 0))), ((u.2.2.2.1), .inl (cA, 2, .inl (wI (fun _ => 0)))), ((u.2.2.2.2.1), .inl (cA, 4, .inl (fun _ => 0))), ((u.2.2.2.2.2), .inl (cB, 256, .inl (fun _ => 0)))]) 6 18086 := by
  refine mt_v (by decide) rfl (Nat.le_of_ble_eq_true rfl) ?_
  intro p e s m below meth c A ls Q hx hb hts hown hml hin hN hK hA hP hD hS hl hex
  have hown : s.vm.findClass RX3 = some m.cls := hown
  have hl : lv_has ls 2 [(0, .ref y), (1, .int z)] := hl
  have iX3 : ∀ w ∈ wsX30, w ∈ wsM_init := by decide +kernel
  have laa := hts (.arrayClass .int) (by decide +kernel)
  have lab := hts (.arrayClass .byte) (by decide +kernel)
  have laz := hts (.arrayClass .boolean) (by decide +kernel)
  have lk13 := hts (.fieldLink RX3 13 "DownFramesModel" "bytes" "[B") (by decide +kernel)
  have lk16 := hts (.fieldLink RX3 16 "DownFramesModel" "begins" "[Z") (by decide +kernel)
  have lk20 := hts (.fieldLink RX3 20 "DownFramesModel" "waits" "[I") (by decide +kernel)
  have lk24 := hts (.fieldLink RX3 24 "DownFramesModel" "frames" "[I") (by decide +kernel)
  have lk27 := hts (.fieldLink RX3 27 "DownFramesModel" "frame" "[B") (by decide +kernel)
  have lk30 := hts (.fieldLink RX3 30 "DownFramesModel" "length" "I") (by decide +kernel)
  have lk7 := hts (.fieldLink RX3 7 "DownFramesModel" "tape" "[B") (by decide +kernel)
  have lo1 := hts (.methodLink RX3 1 objectInit) (by decide +kernel)
  have lo2 := hts (.instanceMethod objectInit) (by decide +kernel)
  have lo3 : (Cond.code objectInit ⟨#[0xb1]⟩ 1 none).before _ s = true := hts _ (List.mem_of_getElem? (i := 3) rfl)
  refine lv_aload_n hx hb dX3_init_0 rfl (lv_at hl 0 rfl) ?_
  refine W.objInit hx hb hown lo1 lo2 lo3 rfl (by rw [hml]; exact hl.1) rfl dX3_init_1 (Nat.le_of_ble_eq_true rfl) (Nat.le_of_ble_eq_true rfl) ?_
  refine W.eq (g2 := F0 m 4 ls []) rfl ?_
  refine lv_aload_n hx hb dX3_init_4 rfl (lv_at hl 0 rfl) ?_
  refine lv_sipush (v := 1024) hx hb dX3_init_5 (by decide +kernel) ?_
  refine tp_i (y := nI 1024) (rfl) ?_
  refine nw_p (at0 := .byte) (ft := .byte) (n := 1024) hx hb rfl lab rfl (fun _ h => h) hK 1 rfl hP hD hS hA (by decide) (by decide) (Nat.le_of_ble_eq_true rfl) (Nat.le_of_ble_eq_true rfl) dX3_init_8 (fun tp H hP hD hS => ?_)
  have hP : va_P D vwCl [(y, .inr (3, [.int 0, .int 0, .null, .int 0, .null, .null, .null, .null, .null, .int 0])), (tp, .inl (cB, 1024, .inl (fun _ => 0)))] H := hP
  have hD : va_D A [(y, .inr (3, [.int 0, .int 0, .null, .int 0, .null, .null, .null, .null, .null, .int 0])), (tp, .inl (cB, 1024, .inl (fun _ => 0)))] := hD
  refine va_putF (D := D) (ci := 3) (v := .ref tp) (ty := (.array .byte)) hx hb hts iX3 tyX3 tyX3_ok nmX3 hown hK hP hD hS 0 rfl rfl 2 (by decide) lk7 (fun _ h => h) rfl hin rfl (by decide +kernel) rfl rfl (Nat.le_of_ble_eq_true rfl) dX3_init_10 (fun H locs hP hD hS => ?_)
  have hP : va_P D vwCl [(y, .inr (3, [.int 0, .int 0, .ref tp, .int 0, .null, .null, .null, .null, .null, .int 0])), (tp, .inl (cB, 1024, .inl (fun _ => 0)))] H := hP
  have hD : va_D A [(y, .inr (3, [.int 0, .int 0, .ref tp, .int 0, .null, .null, .null, .null, .null, .int 0])), (tp, .inl (cB, 1024, .inl (fun _ => 0)))] := hD
  refine lv_aload_n hx hb dX3_init_13 rfl (lv_at hl 0 rfl) ?_
  refine lv_sipush (v := 8400) hx hb dX3_init_14 (by decide +kernel) ?_
  refine tp_i (y := nI 8400) (rfl) ?_
  refine nw_p (at0 := .byte) (ft := .byte) (n := 8400) hx hb rfl lab rfl (fun _ h => h) hK 1 rfl hP hD hS hA (by decide) (by decide) (Nat.le_of_ble_eq_true rfl) (Nat.le_of_ble_eq_true rfl) dX3_init_17 (fun bb H hP hD hS => ?_)
  have hP : va_P D vwCl [(y, .inr (3, [.int 0, .int 0, .ref tp, .int 0, .null, .null, .null, .null, .null, .int 0])), (tp, .inl (cB, 1024, .inl (fun _ => 0))), (bb, .inl (cB, 8400, .inl (fun _ => 0)))] H := hP
  have hD : va_D A [(y, .inr (3, [.int 0, .int 0, .ref tp, .int 0, .null, .null, .null, .null, .null, .int 0])), (tp, .inl (cB, 1024, .inl (fun _ => 0))), (bb, .inl (cB, 8400, .inl (fun _ => 0)))] := hD
  refine va_putF (D := D) (ci := 3) (v := .ref bb) (ty := (.array .byte)) hx hb hts iX3 tyX3 tyX3_ok nmX3 hown hK hP hD hS 0 rfl rfl 4 (by decide) lk13 (fun _ h => h) rfl hin rfl (by decide +kernel) rfl rfl (Nat.le_of_ble_eq_true rfl) dX3_init_19 (fun H locs hP hD hS => ?_)
  have hP : va_P D vwCl [(y, .inr (3, [.int 0, .int 0, .ref tp, .int 0, .ref bb, .null, .null, .null, .null, .int 0])), (tp, .inl (cB, 1024, .inl (fun _ => 0))), (bb, .inl (cB, 8400, .inl (fun _ => 0)))] H := hP
  have hD : va_D A [(y, .inr (3, [.int 0, .int 0, .ref tp, .int 0, .ref bb, .null, .null, .null, .null, .int 0])), (tp, .inl (cB, 1024, .inl (fun _ => 0))), (bb, .inl (cB, 8400, .inl (fun _ => 0)))] := hD
  refine lv_aload_n hx hb dX3_init_22 rfl (lv_at hl 0 rfl) ?_
  refine lv_sipush (v := 8400) hx hb dX3_init_23 (by decide +kernel) ?_
  refine tp_i (y := nI 8400) (rfl) ?_
  refine nw_p (at0 := .boolean) (ft := .boolean) (n := 8400) hx hb rfl laz rfl (fun _ h => h) hK 2 rfl hP hD hS hA (by decide) (by decide) (Nat.le_of_ble_eq_true rfl) (Nat.le_of_ble_eq_true rfl) dX3_init_26 (fun zz H hP hD hS => ?_)
  have hP : va_P D vwCl [(y, .inr (3, [.int 0, .int 0, .ref tp, .int 0, .ref bb, .null, .null, .null, .null, .int 0])), (tp, .inl (cB, 1024, .inl (fun _ => 0))), (bb, .inl (cB, 8400, .inl (fun _ => 0))), (zz, .inl (cZ, 8400, .inl (fun _ => 0)))] H := hP
  have hD : va_D A [(y, .inr (3, [.int 0, .int 0, .ref tp, .int 0, .ref bb, .null, .null, .null, .null, .int 0])), (tp, .inl (cB, 1024, .inl (fun _ => 0))), (bb, .inl (cB, 8400, .inl (fun _ => 0))), (zz, .inl (cZ, 8400, .inl (fun _ => 0)))] := hD
  refine va_putF (D := D) (ci := 3) (v := .ref zz) (ty := (.array .boolean)) hx hb hts iX3 tyX3 tyX3_ok nmX3 hown hK hP hD hS 0 rfl rfl 5 (by decide) lk16 (fun _ h => h) rfl hin rfl (by decide +kernel) rfl rfl (Nat.le_of_ble_eq_true rfl) dX3_init_28 (fun H locs hP hD hS => ?_)
  have hP : va_P D vwCl [(y, .inr (3, [.int 0, .int 0, .ref tp, .int 0, .ref bb, .ref zz, .null, .null, .null, .int 0])), (tp, .inl (cB, 1024, .inl (fun _ => 0))), (bb, .inl (cB, 8400, .inl (fun _ => 0))), (zz, .inl (cZ, 8400, .inl (fun _ => 0)))] H := hP
  have hD : va_D A [(y, .inr (3, [.int 0, .int 0, .ref tp, .int 0, .ref bb, .ref zz, .null, .null, .null, .int 0])), (tp, .inl (cB, 1024, .inl (fun _ => 0))), (bb, .inl (cB, 8400, .inl (fun _ => 0))), (zz, .inl (cZ, 8400, .inl (fun _ => 0)))] := hD
  refine lv_aload_n hx hb dX3_init_31 rfl (lv_at hl 0 rfl) ?_
  refine lv_iconst (v := 2) hx hb dX3_init_32 (by decide) ?_
  refine tp_i (y := nI 2) (rfl) ?_
  refine nw_p (at0 := .int) (ft := .int) (n := 2) hx hb rfl laa rfl (fun _ h => h) hK 0 rfl hP hD hS hA (by decide) (by decide) (Nat.le_of_ble_eq_true rfl) (Nat.le_of_ble_eq_true rfl) dX3_init_33 (fun wa H hP hD hS => ?_)
  have hP : va_P D vwCl [(y, .inr (3, [.int 0, .int 0, .ref tp, .int 0, .ref bb, .ref zz, .null, .null, .null, .int 0])), (tp, .inl (cB, 1024, .inl (fun _ => 0))), (bb, .inl (cB, 8400, .inl (fun _ => 0))), (zz, .inl (cZ, 8400, .inl (fun _ => 0))), (wa, .inl (cA, 2, .inl (fun _ => 0)))] H := hP
  have hD : va_D A [(y, .inr (3, [.int 0, .int 0, .ref tp, .int 0, .ref bb, .ref zz, .null, .null, .null, .int 0])), (tp, .inl (cB, 1024, .inl (fun _ => 0))), (bb, .inl (cB, 8400, .inl (fun _ => 0))), (zz, .inl (cZ, 8400, .inl (fun _ => 0))), (wa, .inl (cA, 2, .inl (fun _ => 0)))] := hD
  refine va_putF (D := D) (ci := 3) (v := .ref wa) (ty := (.array .int)) hx hb hts iX3 tyX3 tyX3_ok nmX3 hown hK hP hD hS 0 rfl rfl 6 (by decide) lk20 (fun _ h => h) rfl hin rfl (by decide +kernel) rfl rfl (Nat.le_of_ble_eq_true rfl) dX3_init_35 (fun H locs hP hD hS => ?_)
  have hP : va_P D vwCl [(y, .inr (3, [.int 0, .int 0, .ref tp, .int 0, .ref bb, .ref zz, .ref wa, .null, .null, .int 0])), (tp, .inl (cB, 1024, .inl (fun _ => 0))), (bb, .inl (cB, 8400, .inl (fun _ => 0))), (zz, .inl (cZ, 8400, .inl (fun _ => 0))), (wa, .inl (cA, 2, .inl (fun _ => 0)))] H := hP
  have hD : va_D A [(y, .inr (3, [.int 0, .int 0, .ref tp, .int 0, .ref bb, .ref zz, .ref wa, .null, .null, .int 0])), (tp, .inl (cB, 1024, .inl (fun _ => 0))), (bb, .inl (cB, 8400, .inl (fun _ => 0))), (zz, .inl (cZ, 8400, .inl (fun _ => 0))), (wa, .inl (cA, 2, .inl (fun _ => 0)))] := hD
  refine lv_aload_n hx hb dX3_init_38 rfl (lv_at hl 0 rfl) ?_
  refine lv_iconst (v := 4) hx hb dX3_init_39 (by decide) ?_
  refine tp_i (y := nI 4) (rfl) ?_
  refine nw_p (at0 := .int) (ft := .int) (n := 4) hx hb rfl laa rfl (fun _ h => h) hK 0 rfl hP hD hS hA (by decide) (by decide) (Nat.le_of_ble_eq_true rfl) (Nat.le_of_ble_eq_true rfl) dX3_init_40 (fun fs H hP hD hS => ?_)
  have hP : va_P D vwCl [(y, .inr (3, [.int 0, .int 0, .ref tp, .int 0, .ref bb, .ref zz, .ref wa, .null, .null, .int 0])), (tp, .inl (cB, 1024, .inl (fun _ => 0))), (bb, .inl (cB, 8400, .inl (fun _ => 0))), (zz, .inl (cZ, 8400, .inl (fun _ => 0))), (wa, .inl (cA, 2, .inl (fun _ => 0))), (fs, .inl (cA, 4, .inl (fun _ => 0)))] H := hP
  have hD : va_D A [(y, .inr (3, [.int 0, .int 0, .ref tp, .int 0, .ref bb, .ref zz, .ref wa, .null, .null, .int 0])), (tp, .inl (cB, 1024, .inl (fun _ => 0))), (bb, .inl (cB, 8400, .inl (fun _ => 0))), (zz, .inl (cZ, 8400, .inl (fun _ => 0))), (wa, .inl (cA, 2, .inl (fun _ => 0))), (fs, .inl (cA, 4, .inl (fun _ => 0)))] := hD
  refine va_putF (D := D) (ci := 3) (v := .ref fs) (ty := (.array .int)) hx hb hts iX3 tyX3 tyX3_ok nmX3 hown hK hP hD hS 0 rfl rfl 7 (by decide) lk24 (fun _ h => h) rfl hin rfl (by decide +kernel) rfl rfl (Nat.le_of_ble_eq_true rfl) dX3_init_42 (fun H locs hP hD hS => ?_)
  have hP : va_P D vwCl [(y, .inr (3, [.int 0, .int 0, .ref tp, .int 0, .ref bb, .ref zz, .ref wa, .ref fs, .null, .int 0])), (tp, .inl (cB, 1024, .inl (fun _ => 0))), (bb, .inl (cB, 8400, .inl (fun _ => 0))), (zz, .inl (cZ, 8400, .inl (fun _ => 0))), (wa, .inl (cA, 2, .inl (fun _ => 0))), (fs, .inl (cA, 4, .inl (fun _ => 0)))] H := hP
  have hD : va_D A [(y, .inr (3, [.int 0, .int 0, .ref tp, .int 0, .ref bb, .ref zz, .ref wa, .ref fs, .null, .int 0])), (tp, .inl (cB, 1024, .inl (fun _ => 0))), (bb, .inl (cB, 8400, .inl (fun _ => 0))), (zz, .inl (cZ, 8400, .inl (fun _ => 0))), (wa, .inl (cA, 2, .inl (fun _ => 0))), (fs, .inl (cA, 4, .inl (fun _ => 0)))] := hD
  refine lv_aload_n hx hb dX3_init_45 rfl (lv_at hl 0 rfl) ?_
  refine lv_sipush (v := 256) hx hb dX3_init_46 (by decide +kernel) ?_
  refine tp_i (y := nI 256) (rfl) ?_
  refine nw_p (at0 := .byte) (ft := .byte) (n := 256) hx hb rfl lab rfl (fun _ h => h) hK 1 rfl hP hD hS hA (by decide) (by decide) (Nat.le_of_ble_eq_true rfl) (Nat.le_of_ble_eq_true rfl) dX3_init_49 (fun fm H hP hD hS => ?_)
  have hP : va_P D vwCl [(y, .inr (3, [.int 0, .int 0, .ref tp, .int 0, .ref bb, .ref zz, .ref wa, .ref fs, .null, .int 0])), (tp, .inl (cB, 1024, .inl (fun _ => 0))), (bb, .inl (cB, 8400, .inl (fun _ => 0))), (zz, .inl (cZ, 8400, .inl (fun _ => 0))), (wa, .inl (cA, 2, .inl (fun _ => 0))), (fs, .inl (cA, 4, .inl (fun _ => 0))), (fm, .inl (cB, 256, .inl (fun _ => 0)))] H := hP
  have hD : va_D A [(y, .inr (3, [.int 0, .int 0, .ref tp, .int 0, .ref bb, .ref zz, .ref wa, .ref fs, .null, .int 0])), (tp, .inl (cB, 1024, .inl (fun _ => 0))), (bb, .inl (cB, 8400, .inl (fun _ => 0))), (zz, .inl (cZ, 8400, .inl (fun _ => 0))), (wa, .inl (cA, 2, .inl (fun _ => 0))), (fs, .inl (cA, 4, .inl (fun _ => 0))), (fm, .inl (cB, 256, .inl (fun _ => 0)))] := hD
  refine va_putF (D := D) (ci := 3) (v := .ref fm) (ty := (.array .byte)) hx hb hts iX3 tyX3 tyX3_ok nmX3 hown hK hP hD hS 0 rfl rfl 8 (by decide) lk27 (fun _ h => h) rfl hin rfl (by decide +kernel) rfl rfl (Nat.le_of_ble_eq_true rfl) dX3_init_51 (fun H locs hP hD hS => ?_)
  have hP : va_P D vwCl [(y, .inr (3, [.int 0, .int 0, .ref tp, .int 0, .ref bb, .ref zz, .ref wa, .ref fs, .ref fm, .int 0])), (tp, .inl (cB, 1024, .inl (fun _ => 0))), (bb, .inl (cB, 8400, .inl (fun _ => 0))), (zz, .inl (cZ, 8400, .inl (fun _ => 0))), (wa, .inl (cA, 2, .inl (fun _ => 0))), (fs, .inl (cA, 4, .inl (fun _ => 0))), (fm, .inl (cB, 256, .inl (fun _ => 0)))] H := hP
  have hD : va_D A [(y, .inr (3, [.int 0, .int 0, .ref tp, .int 0, .ref bb, .ref zz, .ref wa, .ref fs, .ref fm, .int 0])), (tp, .inl (cB, 1024, .inl (fun _ => 0))), (bb, .inl (cB, 8400, .inl (fun _ => 0))), (zz, .inl (cZ, 8400, .inl (fun _ => 0))), (wa, .inl (cA, 2, .inl (fun _ => 0))), (fs, .inl (cA, 4, .inl (fun _ => 0))), (fm, .inl (cB, 256, .inl (fun _ => 0)))] := hD
  refine lv_aload_n hx hb dX3_init_54 rfl (lv_at hl 0 rfl) ?_
  refine lv_iload_n hx hb dX3_init_55 rfl (lv_at hl 1 rfl) ?_
  refine lv_bipush (v := 64) hx hb dX3_init_56 (by decide +kernel) ?_
  refine lv_icmp_ge (tgt := 66) hx hb dX3_init_58 (by decide) (fun z1 => ?_) (fun z1 => ?_)
  · refine lv_iload_n hx hb dX3_init_66 rfl (lv_at hl 1 rfl) ?_
    refine lv_sipush (v := 256) hx hb dX3_init_67 (by decide +kernel) ?_
    refine lv_icmp_le (tgt := 79) hx hb dX3_init_70 (by decide) (fun z2 => ?_) (fun z2 => ?_)
    · refine lv_iload_n hx hb dX3_init_79 rfl (lv_at hl 1 rfl) ?_
      refine tp_i (y := nI (clN z)) (clI_mid z1 z2) ?_
      refine va_putF (D := D) (ci := 3) (v := .int (nI (clN z))) (ty := (.int)) hx hb hts iX3 tyX3 tyX3_ok nmX3 hown hK hP hD hS 0 rfl rfl 1 (by decide) lk30 (fun _ h => h) rfl hin rfl (by decide +kernel) rfl rfl (Nat.le_of_ble_eq_true rfl) dX3_init_80 (fun H locs hP hD hS => ?_)
      have hP : va_P D vwCl [(y, .inr (3, [.int 0, .int (nI (clN z)), .ref tp, .int 0, .ref bb, .ref zz, .ref wa, .ref fs, .ref fm, .int 0])), (tp, .inl (cB, 1024, .inl (fun _ => 0))), (bb, .inl (cB, 8400, .inl (fun _ => 0))), (zz, .inl (cZ, 8400, .inl (fun _ => 0))), (wa, .inl (cA, 2, .inl (fun _ => 0))), (fs, .inl (cA, 4, .inl (fun _ => 0))), (fm, .inl (cB, 256, .inl (fun _ => 0)))] H := hP
      have hD : va_D A [(y, .inr (3, [.int 0, .int (nI (clN z)), .ref tp, .int 0, .ref bb, .ref zz, .ref wa, .ref fs, .ref fm, .int 0])), (tp, .inl (cB, 1024, .inl (fun _ => 0))), (bb, .inl (cB, 8400, .inl (fun _ => 0))), (zz, .inl (cZ, 8400, .inl (fun _ => 0))), (wa, .inl (cA, 2, .inl (fun _ => 0))), (fs, .inl (cA, 4, .inl (fun _ => 0))), (fm, .inl (cB, 256, .inl (fun _ => 0)))] := hD
      have hP : va_P D vwCl [(y, .inr (3, [.int 0, .int (nI (clN z)), .ref tp, .int (nI 0), .ref bb, .ref zz, .ref wa, .ref fs, .ref fm, .int (nI 0)])), (tp, .inl (cB, 1024, .inl (fun _ => 0))), (bb, .inl (cB, 8400, .inl (fun _ => 0))), (zz, .inl (cZ, 8400, .inl (fun _ => 0))), (wa, .inl (cA, 2, .inl (wI (fun _ => 0)))), (fs, .inl (cA, 4, .inl (fun _ => 0))), (fm, .inl (cB, 256, .inl (fun _ => 0)))] H := hP
      have hD : va_D A [(y, .inr (3, [.int 0, .int (nI (clN z)), .ref tp, .int (nI 0), .ref bb, .ref zz, .ref wa, .ref fs, .ref fm, .int (nI 0)])), (tp, .inl (cB, 1024, .inl (fun _ => 0))), (bb, .inl (cB, 8400, .inl (fun _ => 0))), (zz, .inl (cZ, 8400, .inl (fun _ => 0))), (wa, .inl (cA, 2, .inl (wI (fun _ => 0)))), (fs, .inl (cA, 4, .inl (fun _ => 0))), (fm, .inl (cB, 256, .inl (fun _ => 0)))] := hD
      exact hex _ _ _ _ (tp, bb, zz, wa, fs, fm) hS (trivial) hP hD dX3_init_83
    · refine lv_sipush (v := 256) hx hb dX3_init_73 (by decide +kernel) ?_
      refine lv_goto (tgt := 80) hx hb dX3_init_76 (by decide) ?_
      refine tp_i (y := nI (clN z)) (clI_hi z2) ?_
      refine va_putF (D := D) (ci := 3) (v := .int (nI (clN z))) (ty := (.int)) hx hb hts iX3 tyX3 tyX3_ok nmX3 hown hK hP hD hS 0 rfl rfl 1 (by decide) lk30 (fun _ h => h) rfl hin rfl (by decide +kernel) rfl rfl (Nat.le_of_ble_eq_true rfl) dX3_init_80 (fun H locs hP hD hS => ?_)
      have hP : va_P D vwCl [(y, .inr (3, [.int 0, .int (nI (clN z)), .ref tp, .int 0, .ref bb, .ref zz, .ref wa, .ref fs, .ref fm, .int 0])), (tp, .inl (cB, 1024, .inl (fun _ => 0))), (bb, .inl (cB, 8400, .inl (fun _ => 0))), (zz, .inl (cZ, 8400, .inl (fun _ => 0))), (wa, .inl (cA, 2, .inl (fun _ => 0))), (fs, .inl (cA, 4, .inl (fun _ => 0))), (fm, .inl (cB, 256, .inl (fun _ => 0)))] H := hP
      have hD : va_D A [(y, .inr (3, [.int 0, .int (nI (clN z)), .ref tp, .int 0, .ref bb, .ref zz, .ref wa, .ref fs, .ref fm, .int 0])), (tp, .inl (cB, 1024, .inl (fun _ => 0))), (bb, .inl (cB, 8400, .inl (fun _ => 0))), (zz, .inl (cZ, 8400, .inl (fun _ => 0))), (wa, .inl (cA, 2, .inl (fun _ => 0))), (fs, .inl (cA, 4, .inl (fun _ => 0))), (fm, .inl (cB, 256, .inl (fun _ => 0)))] := hD
      have hP : va_P D vwCl [(y, .inr (3, [.int 0, .int (nI (clN z)), .ref tp, .int (nI 0), .ref bb, .ref zz, .ref wa, .ref fs, .ref fm, .int (nI 0)])), (tp, .inl (cB, 1024, .inl (fun _ => 0))), (bb, .inl (cB, 8400, .inl (fun _ => 0))), (zz, .inl (cZ, 8400, .inl (fun _ => 0))), (wa, .inl (cA, 2, .inl (wI (fun _ => 0)))), (fs, .inl (cA, 4, .inl (fun _ => 0))), (fm, .inl (cB, 256, .inl (fun _ => 0)))] H := hP
      have hD : va_D A [(y, .inr (3, [.int 0, .int (nI (clN z)), .ref tp, .int (nI 0), .ref bb, .ref zz, .ref wa, .ref fs, .ref fm, .int (nI 0)])), (tp, .inl (cB, 1024, .inl (fun _ => 0))), (bb, .inl (cB, 8400, .inl (fun _ => 0))), (zz, .inl (cZ, 8400, .inl (fun _ => 0))), (wa, .inl (cA, 2, .inl (wI (fun _ => 0)))), (fs, .inl (cA, 4, .inl (fun _ => 0))), (fm, .inl (cB, 256, .inl (fun _ => 0)))] := hD
      exact hex _ _ _ _ (tp, bb, zz, wa, fs, fm) hS (trivial) hP hD dX3_init_83
  · refine lv_bipush (v := 64) hx hb dX3_init_61 (by decide +kernel) ?_
    refine lv_goto (tgt := 80) hx hb dX3_init_63 (by decide) ?_
    refine tp_i (y := nI (clN z)) (clI_lo z1) ?_
    refine va_putF (D := D) (ci := 3) (v := .int (nI (clN z))) (ty := (.int)) hx hb hts iX3 tyX3 tyX3_ok nmX3 hown hK hP hD hS 0 rfl rfl 1 (by decide) lk30 (fun _ h => h) rfl hin rfl (by decide +kernel) rfl rfl (Nat.le_of_ble_eq_true rfl) dX3_init_80 (fun H locs hP hD hS => ?_)
    have hP : va_P D vwCl [(y, .inr (3, [.int 0, .int (nI (clN z)), .ref tp, .int 0, .ref bb, .ref zz, .ref wa, .ref fs, .ref fm, .int 0])), (tp, .inl (cB, 1024, .inl (fun _ => 0))), (bb, .inl (cB, 8400, .inl (fun _ => 0))), (zz, .inl (cZ, 8400, .inl (fun _ => 0))), (wa, .inl (cA, 2, .inl (fun _ => 0))), (fs, .inl (cA, 4, .inl (fun _ => 0))), (fm, .inl (cB, 256, .inl (fun _ => 0)))] H := hP
    have hD : va_D A [(y, .inr (3, [.int 0, .int (nI (clN z)), .ref tp, .int 0, .ref bb, .ref zz, .ref wa, .ref fs, .ref fm, .int 0])), (tp, .inl (cB, 1024, .inl (fun _ => 0))), (bb, .inl (cB, 8400, .inl (fun _ => 0))), (zz, .inl (cZ, 8400, .inl (fun _ => 0))), (wa, .inl (cA, 2, .inl (fun _ => 0))), (fs, .inl (cA, 4, .inl (fun _ => 0))), (fm, .inl (cB, 256, .inl (fun _ => 0)))] := hD
    have hP : va_P D vwCl [(y, .inr (3, [.int 0, .int (nI (clN z)), .ref tp, .int (nI 0), .ref bb, .ref zz, .ref wa, .ref fs, .ref fm, .int (nI 0)])), (tp, .inl (cB, 1024, .inl (fun _ => 0))), (bb, .inl (cB, 8400, .inl (fun _ => 0))), (zz, .inl (cZ, 8400, .inl (fun _ => 0))), (wa, .inl (cA, 2, .inl (wI (fun _ => 0)))), (fs, .inl (cA, 4, .inl (fun _ => 0))), (fm, .inl (cB, 256, .inl (fun _ => 0)))] H := hP
    have hD : va_D A [(y, .inr (3, [.int 0, .int (nI (clN z)), .ref tp, .int (nI 0), .ref bb, .ref zz, .ref wa, .ref fs, .ref fm, .int (nI 0)])), (tp, .inl (cB, 1024, .inl (fun _ => 0))), (bb, .inl (cB, 8400, .inl (fun _ => 0))), (zz, .inl (cZ, 8400, .inl (fun _ => 0))), (wa, .inl (cA, 2, .inl (wI (fun _ => 0)))), (fs, .inl (cA, 4, .inl (fun _ => 0))), (fm, .inl (cB, 256, .inl (fun _ => 0)))] := hD
    exact hex _ _ _ _ (tp, bb, zz, wa, fs, fm) hS (trivial) hP hD dX3_init_83
end
section
abbrev sra (x y : Int32) : Int32 := x >>> (y &&& 31)
/-- the reference's rows when filled up to a -/
def mfB (bf : Nat → Int32) (ch w a : Nat) : Nat → Int32 := if w < a then lwr bf (4200 * ch + w) (emb (max (a - w) 7)) (max (a - w) 7) else bf
def mfZ (zf : Nat → Int32) (ch w a : Nat) : Nat → Int32 := if w < a then lwr zf (4200 * ch + w) emz (max (a - w) 7) else zf
/-- its frame's bytes -/
def mA (ff mf : Nat → Int32) (cv : Int32) (kd : Nat) (fst : Int32) : Nat → Int32 :=
  upd (upd (upd (upd (upd (upd ff 0 (i8 21)) 1 (i8 ((160 + (2 * cv)) + 1))) 2 (i8 (mf 0))) 3 (i8 (mf kd))) 4 (i8 (24 + (fst / 256)))) 5 (i8 fst)
def mW (ff : Nat → Int32) (a : Nat) (word : Int32) : Nat → Int32 :=
  upd (upd (upd (upd ff (6 + a) (i8 (sra word 24))) (6 + a + 1) (i8 (sra word 16))) (6 + a + 2) (i8 (sra word 8))) (6 + a + 3) (i8 (sra word 0))
def mC (ff : Nat → Int32) (a : Nat) : Nat → Int32 :=
  upd (upd ff (6 + a + 4) (i8 ((crcM ff (6 + a + 4)) / 256))) (6 + a + 4 + 1) (i8 (crcM ff (6 + a + 4)))
def mL (ff mf : Nat → Int32) (cv : Int32) (kd : Nat) (fst : Int32) (g : Nat → Int32) (a : Nat) (word : Int32) : Nat → Int32 := mC (mW (lwr (mA ff mf cv kd fst) 6 g a) a word) a

set_option maxHeartbeats 4000000 in
set_option maxRecDepth 100000 in
/-- frame -/
theorem c_m_frame0 (l : Launch) (D : va_G) (cA cB cZ : ClassId) (a : Nat) (y len tp bb zz wa fs fm mk fk : Nat) (bf zf : Nat → Int32) (ww : Nat → Nat) (mf ff : Nat → Int32) (word : Int32) (hlen : len = a + 12) (hla : len ≤ 256) (w : Nat) (hw : ww 0 = w) (hw2 : w ≤ 4096) (hz : 0 < ww 0) : MI0 l yX3_frame wsM_frame { frames := 2, cells := 0, slots := 0, locals := 50 } [.ref y, .int word] D [(cA, .int), (cB, .byte), (cZ, .boolean)] [(y, .inr (3, [.int 0, .int (nI len), .ref tp, .int (nI mk), .ref bb, .ref zz, .ref wa, .ref fs, .ref fm, .int (nI fk)])), (bb, .inl (cB, 8400, .inl bf)), (zz, .inl (cZ, 8400, .inl zf)), (wa, .inl (cA, 2, .inl (wI ww))), (fs, .inl (cA, 4, .inl mf)), (fm, .inl (cB, 256, .inl ff))] 0 [(y, .inr (3, [.int 0, .int (nI len), .ref tp, .int (nI mk), .ref bb, .ref zz, .ref wa, .ref fs, .ref fm, .int (nI len)])), (bb, .inl (cB, 8400, .inl (lwr (mfB bf 0 w a) (4200 * 0) (fun i => i8 ((mfB bf 0 w a) (4200 * 0 + i + a))) (filK w a - a)))), (zz, .inl (cZ, 8400, .inl (lwr (mfZ zf 0 w a) (4200 * 0) (fun i => (mfZ zf 0 w a) (4200 * 0 + i + a) &&& 1) (filK w a - a)))), (wa, .inl (cA, 2, .inl (wI (va_up ww 0 (filK w a - a))))), (fs, .inl (cA, 4, .inl (cnt2 mf 1))), (fm, .inl (cB, 256, .inl (mL ff mf (nI 0) 1 (fbM (mfZ zf 0 w a) (4200 * 0) a 0) (fun i => i8 ((mfB bf 0 w a) (4200 * 0 + i))) a word)))] := by
  refine mt_i (by decide) rfl (Nat.le_of_ble_eq_true rfl) ?_
  intro p e s m below meth c A ls Q hx hb hts hown hml hin hN hK hA hP hD hS hl hex
  have hown : s.vm.findClass RX3 = some m.cls := hown
  have hl : lv_has ls 7 [(0, .ref y), (1, .int word)] := hl
  have iX3 : ∀ w ∈ wsX30, w ∈ wsM_frame := by decide +kernel
  have lk13 := hts (.fieldLink RX3 13 "DownFramesModel" "bytes" "[B") (by decide +kernel)
  have lk20 := hts (.fieldLink RX3 20 "DownFramesModel" "waits" "[I") (by decide +kernel)
  have lk24 := hts (.fieldLink RX3 24 "DownFramesModel" "frames" "[I") (by decide +kernel)
  have lk30 := hts (.fieldLink RX3 30 "DownFramesModel" "length" "I") (by decide +kernel)
  have lk34 := hts (.fieldLink RX3 34 "DownFramesModel" "thrown" "I") (by decide +kernel)
  have lk44 := hts (.fieldLink RX3 44 "DownFramesModel" "filled" "I") (by decide +kernel)
  refine lv_aload_n hx hb dX3_frame_0 rfl (lv_at hl 0 rfl) ?_
  refine lv_iconst (v := 0) hx hb dX3_frame_1 (by decide) ?_
  refine va_put (D := D) (ci := 3) (v := .int 0) (ty := (.int)) hx hb hts iX3 tyX3 tyX3_ok nmX3 hown hK hP hD hS 0 rfl rfl 0 (by decide) lk34 (fun _ h => h) rfl (by decide +kernel) rfl rfl (Nat.le_of_ble_eq_true rfl) dX3_frame_2 (fun H locs hP hD hS => ?_)
  have hP : va_P D vwCl [(y, .inr (3, [.int 0, .int (nI len), .ref tp, .int (nI mk), .ref bb, .ref zz, .ref wa, .ref fs, .ref fm, .int (nI fk)])), (bb, .inl (cB, 8400, .inl bf)), (zz, .inl (cZ, 8400, .inl zf)), (wa, .inl (cA, 2, .inl (wI ww))), (fs, .inl (cA, 4, .inl mf)), (fm, .inl (cB, 256, .inl ff))] H := hP
  have hD : va_D A [(y, .inr (3, [.int 0, .int (nI len), .ref tp, .int (nI mk), .ref bb, .ref zz, .ref wa, .ref fs, .ref fm, .int (nI fk)])), (bb, .inl (cB, 8400, .inl bf)), (zz, .inl (cZ, 8400, .inl zf)), (wa, .inl (cA, 2, .inl (wI ww))), (fs, .inl (cA, 4, .inl mf)), (fm, .inl (cB, 256, .inl ff))] := hD
  refine lv_aload_n hx hb dX3_frame_5 rfl (lv_at hl 0 rfl) ?_
  refine va_get (D := D) (ci := 3) (v := .ref wa) hx hb hts iX3 hown hK hP 0 rfl rfl 6 (by decide) lk20 (fun _ h => h) rfl dX3_frame_6 ?_
  refine lv_iconst (v := 0) hx hb dX3_frame_9 (by decide) ?_
  refine tp_i (y := nI 0) (rfl) ?_
  refine al_i (k := 0) hx hb hK hP 3 0 rfl rfl (by decide) (by decide) dX3_frame_10 ?_
  refine tp_i (y := nI (ww 0)) (rfl) ?_
  refine lv_if_le (tgt := 18) hx hb dX3_frame_11 (by decide) (fun cc => absurd cc (nI_nle hz (by omega))) (fun _ => ?_)
  refine lv_iconst (v := 0) hx hb dX3_frame_14 (by decide) ?_
  refine lv_goto (tgt := 32) hx hb dX3_frame_15 (by decide) ?_
  refine tp_i (y := nI 0) (rfl) ?_
  refine lv_istore_n (lv' := [(2, .int (nI 0)), (0, .ref y), (1, .int word)]) hx hb dX3_frame_32 rfl hl (by decide) rfl (fun ls hl => ?_)
  refine lv_iload_n hx hb dX3_frame_33 rfl (lv_at hl 0 rfl) ?_
  refine lv_iconst (v := 2) hx hb dX3_frame_34 (by decide) ?_
  refine lv_icmp_ne (tgt := 43) hx hb dX3_frame_35 (by decide) (fun _ => ?_) (fun cc => absurd cc (by decide))
  refine lv_iload_n hx hb dX3_frame_43 rfl (lv_at hl 0 rfl) ?_
  refine lv_istore_n (lv' := [(3, .int (nI 0)), (2, .int (nI 0)), (0, .ref y), (1, .int word)]) hx hb dX3_frame_44 rfl hl (by decide) rfl (fun ls hl => ?_)
  refine lv_aload_n hx hb dX3_frame_45 rfl (lv_at hl 2 rfl) ?_
  refine va_get (D := D) (ci := 3) (v := .int (nI len)) hx hb hts iX3 hown hK hP 0 rfl rfl 1 (by decide) lk30 (fun _ h => h) rfl dX3_frame_46 ?_
  refine lv_bipush (v := 12) hx hb dX3_frame_49 (by decide +kernel) ?_
  refine lv_isub hx hb dX3_frame_51 ?_
  refine tp_i (y := nI a) (by rw [hlen, show (12 : Int32) = nI 12 from rfl, pk_sub (by omega)]; congr 1) ?_
  refine lv_istore (lv' := [(4, .int (nI a)), (3, .int (nI 0)), (2, .int (nI 0)), (0, .ref y), (1, .int word)]) hx hb dX3_frame_52 hl (by decide) rfl (fun ls hl => ?_)
  refine lv_iload_n hx hb dX3_frame_54 rfl (lv_at hl 2 rfl) ?_
  refine lv_iconst (v := 2) hx hb dX3_frame_55 (by decide) ?_
  obtain ⟨B1, hB1⟩ : ∃ B, B = mfB bf 0 w a := ⟨_, rfl⟩
  obtain ⟨Z1, hZ1⟩ : ∃ B, B = mfZ zf 0 w a := ⟨_, rfl⟩
  obtain ⟨K, hKK⟩ : ∃ K, K = filK w a := ⟨_, rfl⟩
  obtain ⟨W1, hW1⟩ : ∃ B, B = va_up ww 0 K := ⟨_, rfl⟩
  have hKa : a ≤ K := by rw [hKK]; exact filK_ge _ _
  have hKm : K ≤ 4096 := by rw [hKK]; exact filK_le _ _ hw2 (by omega)
  have hWc : W1 0 = K := by rw [hW1]; simp [va_up]
  have tail : ∀ (H : Heap) (locs : List Loc) (ls : Array Slot), va_P D vwCl [(y, .inr (3, [.int 0, .int (nI len), .ref tp, .int (nI mk), .ref bb, .ref zz, .ref wa, .ref fs, .ref fm, .int (nI fk)])), (bb, .inl (cB, 8400, .inl B1)), (zz, .inl (cZ, 8400, .inl Z1)), (wa, .inl (cA, 2, .inl (wI W1))), (fs, .inl (cA, 4, .inl mf)), (fm, .inl (cB, 256, .inl ff))] H → va_D A [(y, .inr (3, [.int 0, .int (nI len), .ref tp, .int (nI mk), .ref bb, .ref zz, .ref wa, .ref fs, .ref fm, .int (nI fk)])), (bb, .inl (cB, 8400, .inl B1)), (zz, .inl (cZ, 8400, .inl Z1)), (wa, .inl (cA, 2, .inl (wI W1))), (fs, .inl (cA, 4, .inl mf)), (fm, .inl (cB, 256, .inl ff))] → va_S A s.heap H locs → lv_has ls 7 [(4, .int (nI a)), (3, .int (nI 0)), (2, .int (nI 0)), (0, .ref y), (1, .int word)] → W p l e ({ frames := 2, cells := 0, slots := 0, locals := 50 } : Room) s m ([.ref y, .int word] : List Value).toArray below meth c H locs 0 0 Q (F0 m 103 ls []) := by
    intro H locs ls hP hD hS hl
    refine lv_iload_n hx hb dX3_frame_103 rfl (lv_at hl 2 rfl) ?_
    refine lv_iconst (v := 2) hx hb dX3_frame_104 (by decide) ?_
    refine lv_icmp_ne (tgt := 114) hx hb dX3_frame_105 (by decide) (fun _ => ?_) (fun cc => absurd cc (by decide))
    refine lv_aload_n hx hb dX3_frame_114 rfl (lv_at hl 3 rfl) ?_
    refine lv_iload_n hx hb dX3_frame_115 rfl (lv_at hl 2 rfl) ?_
    refine lv_iload hx hb dX3_frame_116 (lv_at hl 0 rfl) ?_
    refine cl0_vi ⟨hx, hb, hml, hown, hts⟩ (c_m_first l D cA cB cZ y len tp bb zz wa fs fm mk fk Z1 0 a (by decide) (by omega)) (cwV 2 hts (gM_first _) rfl rfl rfl (by decide +kernel) ⟨Nat.le_of_ble_eq_true rfl, Nat.le_of_ble_eq_true rfl⟩) (ci := 3) (q0 := 0) rfl rfl hN hK hP hD hS hA [0, 2] [1, 3, 4, 5] [4, 0, 5, 1, 2, 3] [(bb, .inl (cB, 8400, .inl B1)), (wa, .inl (cA, 2, .inl (wI W1))), (fs, .inl (cA, 4, .inl mf)), (fm, .inl (cB, 256, .inl ff))] [(y, .inr (3, [.int 0, .int (nI len), .ref tp, .int (nI mk), .ref bb, .ref zz, .ref wa, .ref fs, .ref fm, .int (nI fk)])), (bb, .inl (cB, 8400, .inl B1)), (zz, .inl (cZ, 8400, .inl Z1)), (wa, .inl (cA, 2, .inl (wI W1))), (fs, .inl (cA, 4, .inl mf)), (fm, .inl (cB, 256, .inl ff))] [] rfl rfl rfl rfl (by decide) rfl rfl rfl hl.1 rfl (Nat.le_of_ble_eq_true rfl) dX3_frame_118 ⟨Nat.le_of_ble_eq_true rfl, Nat.le_of_ble_eq_true rfl⟩ (fun H locs hP hD hS => ?_)
    refine lv_istore (lv' := [(5, .int (fbM Z1 (4200 * 0) a 0)), (4, .int (nI a)), (3, .int (nI 0)), (2, .int (nI 0)), (0, .ref y), (1, .int word)]) hx hb dX3_frame_121 hl (by decide) rfl (fun ls hl => ?_)
    refine lv_aload_n hx hb dX3_frame_123 rfl (lv_at hl 4 rfl) ?_
    refine lv_iconst (v := 0) hx hb dX3_frame_124 (by decide) ?_
    refine va_put (D := D) (ci := 3) (v := .int 0) (ty := (.int)) hx hb hts iX3 tyX3 tyX3_ok nmX3 hown hK hP hD hS 0 rfl rfl 9 (by decide) lk44 (fun _ h => h) rfl (by decide +kernel) rfl rfl (Nat.le_of_ble_eq_true rfl) dX3_frame_125 (fun H locs hP hD hS => ?_)
    have hP : va_P D vwCl [(y, .inr (3, [.int 0, .int (nI len), .ref tp, .int (nI mk), .ref bb, .ref zz, .ref wa, .ref fs, .ref fm, .int 0])), (bb, .inl (cB, 8400, .inl B1)), (zz, .inl (cZ, 8400, .inl Z1)), (wa, .inl (cA, 2, .inl (wI W1))), (fs, .inl (cA, 4, .inl mf)), (fm, .inl (cB, 256, .inl ff))] H := hP
    have hD : va_D A [(y, .inr (3, [.int 0, .int (nI len), .ref tp, .int (nI mk), .ref bb, .ref zz, .ref wa, .ref fs, .ref fm, .int 0])), (bb, .inl (cB, 8400, .inl B1)), (zz, .inl (cZ, 8400, .inl Z1)), (wa, .inl (cA, 2, .inl (wI W1))), (fs, .inl (cA, 4, .inl mf)), (fm, .inl (cB, 256, .inl ff))] := hD
    have hP : va_P D vwCl [(y, .inr (3, [.int 0, .int (nI len), .ref tp, .int (nI mk), .ref bb, .ref zz, .ref wa, .ref fs, .ref fm, .int (nI 0)])), (bb, .inl (cB, 8400, .inl B1)), (zz, .inl (cZ, 8400, .inl Z1)), (wa, .inl (cA, 2, .inl (wI W1))), (fs, .inl (cA, 4, .inl mf)), (fm, .inl (cB, 256, .inl ff))] H := hP
    have hD : va_D A [(y, .inr (3, [.int 0, .int (nI len), .ref tp, .int (nI mk), .ref bb, .ref zz, .ref wa, .ref fs, .ref fm, .int (nI 0)])), (bb, .inl (cB, 8400, .inl B1)), (zz, .inl (cZ, 8400, .inl Z1)), (wa, .inl (cA, 2, .inl (wI W1))), (fs, .inl (cA, 4, .inl mf)), (fm, .inl (cB, 256, .inl ff))] := hD
    refine lv_aload_n hx hb dX3_frame_128 rfl (lv_at hl 4 rfl) ?_
    refine lv_bipush (v := 21) hx hb dX3_frame_129 (by decide +kernel) ?_
    refine cl0_vv ⟨hx, hb, hml, hown, hts⟩ (c_m_add l D cA cB cZ y len tp bb zz wa fs fm mk 0 (ff) 21 (by omega)) (cwV 1 hts (gM_add _) rfl rfl rfl (by decide +kernel) ⟨Nat.le_of_ble_eq_true rfl, Nat.le_of_ble_eq_true rfl⟩) (ci := 3) (q0 := 0) rfl rfl hN hK hP hD hS hA [0, 5] [1, 2, 3, 4] [4, 0, 1, 2, 3, 5] [(bb, .inl (cB, 8400, .inl B1)), (zz, .inl (cZ, 8400, .inl Z1)), (wa, .inl (cA, 2, .inl (wI W1))), (fs, .inl (cA, 4, .inl mf))] [(y, .inr (3, [.int 0, .int (nI len), .ref tp, .int (nI mk), .ref bb, .ref zz, .ref wa, .ref fs, .ref fm, .int (nI 1)])), (bb, .inl (cB, 8400, .inl B1)), (zz, .inl (cZ, 8400, .inl Z1)), (wa, .inl (cA, 2, .inl (wI W1))), (fs, .inl (cA, 4, .inl mf)), (fm, .inl (cB, 256, .inl (upd ff 0 (i8 21))))] [] rfl rfl rfl rfl (by decide) rfl rfl rfl hl.1 rfl (Nat.le_of_ble_eq_true rfl) dX3_frame_131 ⟨Nat.le_of_ble_eq_true rfl, Nat.le_of_ble_eq_true rfl⟩ (fun H locs hP hD hS => ?_)
    refine lv_aload_n hx hb dX3_frame_134 rfl (lv_at hl 4 rfl) ?_
    refine lv_sipush (v := 160) hx hb dX3_frame_135 (by decide +kernel) ?_
    refine lv_iconst (v := 2) hx hb dX3_frame_138 (by decide) ?_
    refine lv_iload_n hx hb dX3_frame_139 rfl (lv_at hl 2 rfl) ?_
    refine lv_imul hx hb dX3_frame_140 ?_
    refine lv_iadd hx hb dX3_frame_141 ?_
    refine lv_iconst (v := 1) hx hb dX3_frame_142 (by decide) ?_
    refine lv_iadd hx hb dX3_frame_143 ?_
    refine cl0_vv ⟨hx, hb, hml, hown, hts⟩ (c_m_add l D cA cB cZ y len tp bb zz wa fs fm mk 1 (upd ff 0 (i8 21)) ((160 + (2 * (nI 0))) + 1) (by omega)) (cwV 1 hts (gM_add _) rfl rfl rfl (by decide +kernel) ⟨Nat.le_of_ble_eq_true rfl, Nat.le_of_ble_eq_true rfl⟩) (ci := 3) (q0 := 0) rfl rfl hN hK hP hD hS hA [0, 5] [1, 2, 3, 4] [4, 0, 1, 2, 3, 5] [(bb, .inl (cB, 8400, .inl B1)), (zz, .inl (cZ, 8400, .inl Z1)), (wa, .inl (cA, 2, .inl (wI W1))), (fs, .inl (cA, 4, .inl mf))] [(y, .inr (3, [.int 0, .int (nI len), .ref tp, .int (nI mk), .ref bb, .ref zz, .ref wa, .ref fs, .ref fm, .int (nI 2)])), (bb, .inl (cB, 8400, .inl B1)), (zz, .inl (cZ, 8400, .inl Z1)), (wa, .inl (cA, 2, .inl (wI W1))), (fs, .inl (cA, 4, .inl mf)), (fm, .inl (cB, 256, .inl (upd (upd ff 0 (i8 21)) 1 (i8 ((160 + (2 * (nI 0))) + 1)))))] [] rfl rfl rfl rfl (by decide) rfl rfl rfl hl.1 rfl (Nat.le_of_ble_eq_true rfl) dX3_frame_144 ⟨Nat.le_of_ble_eq_true rfl, Nat.le_of_ble_eq_true rfl⟩ (fun H locs hP hD hS => ?_)
    refine lv_aload_n hx hb dX3_frame_147 rfl (lv_at hl 4 rfl) ?_
    refine lv_aload_n hx hb dX3_frame_148 rfl (lv_at hl 4 rfl) ?_
    refine va_get (D := D) (ci := 3) (v := .ref fs) hx hb hts iX3 hown hK hP 0 rfl rfl 7 (by decide) lk24 (fun _ h => h) rfl dX3_frame_149 ?_
    refine lv_iconst (v := 0) hx hb dX3_frame_152 (by decide) ?_
    refine tp_i (y := nI 0) (rfl) ?_
    refine al_i (k := 0) hx hb hK hP 4 0 rfl rfl (by decide) (by decide) dX3_frame_153 ?_
    refine cl0_vv ⟨hx, hb, hml, hown, hts⟩ (c_m_add l D cA cB cZ y len tp bb zz wa fs fm mk 2 (upd (upd ff 0 (i8 21)) 1 (i8 ((160 + (2 * (nI 0))) + 1))) (mf 0) (by omega)) (cwV 1 hts (gM_add _) rfl rfl rfl (by decide +kernel) ⟨Nat.le_of_ble_eq_true rfl, Nat.le_of_ble_eq_true rfl⟩) (ci := 3) (q0 := 0) rfl rfl hN hK hP hD hS hA [0, 5] [1, 2, 3, 4] [4, 0, 1, 2, 3, 5] [(bb, .inl (cB, 8400, .inl B1)), (zz, .inl (cZ, 8400, .inl Z1)), (wa, .inl (cA, 2, .inl (wI W1))), (fs, .inl (cA, 4, .inl mf))] [(y, .inr (3, [.int 0, .int (nI len), .ref tp, .int (nI mk), .ref bb, .ref zz, .ref wa, .ref fs, .ref fm, .int (nI 3)])), (bb, .inl (cB, 8400, .inl B1)), (zz, .inl (cZ, 8400, .inl Z1)), (wa, .inl (cA, 2, .inl (wI W1))), (fs, .inl (cA, 4, .inl mf)), (fm, .inl (cB, 256, .inl (upd (upd (upd ff 0 (i8 21)) 1 (i8 ((160 + (2 * (nI 0))) + 1))) 2 (i8 (mf 0)))))] [] rfl rfl rfl rfl (by decide) rfl rfl rfl hl.1 rfl (Nat.le_of_ble_eq_true rfl) dX3_frame_154 ⟨Nat.le_of_ble_eq_true rfl, Nat.le_of_ble_eq_true rfl⟩ (fun H locs hP hD hS => ?_)
    refine lv_aload_n hx hb dX3_frame_157 rfl (lv_at hl 4 rfl) ?_
    refine lv_aload_n hx hb dX3_frame_158 rfl (lv_at hl 4 rfl) ?_
    refine va_get (D := D) (ci := 3) (v := .ref fs) hx hb hts iX3 hown hK hP 0 rfl rfl 7 (by decide) lk24 (fun _ h => h) rfl dX3_frame_159 ?_
    refine lv_iconst (v := 1) hx hb dX3_frame_162 (by decide) ?_
    refine lv_iload_n hx hb dX3_frame_163 rfl (lv_at hl 3 rfl) ?_
    refine lv_iadd hx hb dX3_frame_164 ?_
    refine tp_i (y := nI 1) (by decide) ?_
    refine al_i (k := 1) hx hb hK hP 4 0 rfl rfl (by decide) (by decide) dX3_frame_165 ?_
    refine cl0_vv ⟨hx, hb, hml, hown, hts⟩ (c_m_add l D cA cB cZ y len tp bb zz wa fs fm mk 3 (upd (upd (upd ff 0 (i8 21)) 1 (i8 ((160 + (2 * (nI 0))) + 1))) 2 (i8 (mf 0))) (mf 1) (by omega)) (cwV 1 hts (gM_add _) rfl rfl rfl (by decide +kernel) ⟨Nat.le_of_ble_eq_true rfl, Nat.le_of_ble_eq_true rfl⟩) (ci := 3) (q0 := 0) rfl rfl hN hK hP hD hS hA [0, 5] [1, 2, 3, 4] [4, 0, 1, 2, 3, 5] [(bb, .inl (cB, 8400, .inl B1)), (zz, .inl (cZ, 8400, .inl Z1)), (wa, .inl (cA, 2, .inl (wI W1))), (fs, .inl (cA, 4, .inl mf))] [(y, .inr (3, [.int 0, .int (nI len), .ref tp, .int (nI mk), .ref bb, .ref zz, .ref wa, .ref fs, .ref fm, .int (nI 4)])), (bb, .inl (cB, 8400, .inl B1)), (zz, .inl (cZ, 8400, .inl Z1)), (wa, .inl (cA, 2, .inl (wI W1))), (fs, .inl (cA, 4, .inl mf)), (fm, .inl (cB, 256, .inl (upd (upd (upd (upd ff 0 (i8 21)) 1 (i8 ((160 + (2 * (nI 0))) + 1))) 2 (i8 (mf 0))) 3 (i8 (mf 1)))))] [] rfl rfl rfl rfl (by decide) rfl rfl rfl hl.1 rfl (Nat.le_of_ble_eq_true rfl) dX3_frame_166 ⟨Nat.le_of_ble_eq_true rfl, Nat.le_of_ble_eq_true rfl⟩ (fun H locs hP hD hS => ?_)
    refine lv_aload_n hx hb dX3_frame_169 rfl (lv_at hl 4 rfl) ?_
    refine lv_bipush (v := 24) hx hb dX3_frame_170 (by decide +kernel) ?_
    refine lv_iload hx hb dX3_frame_172 (lv_at hl 0 rfl) ?_
    refine lv_sipush (v := 256) hx hb dX3_frame_174 (by decide +kernel) ?_
    refine lv_idiv hx hb dX3_frame_177 (by decide) ?_
    refine lv_iadd hx hb dX3_frame_178 ?_
    refine cl0_vv ⟨hx, hb, hml, hown, hts⟩ (c_m_add l D cA cB cZ y len tp bb zz wa fs fm mk 4 (upd (upd (upd (upd ff 0 (i8 21)) 1 (i8 ((160 + (2 * (nI 0))) + 1))) 2 (i8 (mf 0))) 3 (i8 (mf 1))) (24 + ((fbM Z1 (4200 * 0) a 0) / 256)) (by omega)) (cwV 1 hts (gM_add _) rfl rfl rfl (by decide +kernel) ⟨Nat.le_of_ble_eq_true rfl, Nat.le_of_ble_eq_true rfl⟩) (ci := 3) (q0 := 0) rfl rfl hN hK hP hD hS hA [0, 5] [1, 2, 3, 4] [4, 0, 1, 2, 3, 5] [(bb, .inl (cB, 8400, .inl B1)), (zz, .inl (cZ, 8400, .inl Z1)), (wa, .inl (cA, 2, .inl (wI W1))), (fs, .inl (cA, 4, .inl mf))] [(y, .inr (3, [.int 0, .int (nI len), .ref tp, .int (nI mk), .ref bb, .ref zz, .ref wa, .ref fs, .ref fm, .int (nI 5)])), (bb, .inl (cB, 8400, .inl B1)), (zz, .inl (cZ, 8400, .inl Z1)), (wa, .inl (cA, 2, .inl (wI W1))), (fs, .inl (cA, 4, .inl mf)), (fm, .inl (cB, 256, .inl (upd (upd (upd (upd (upd ff 0 (i8 21)) 1 (i8 ((160 + (2 * (nI 0))) + 1))) 2 (i8 (mf 0))) 3 (i8 (mf 1))) 4 (i8 (24 + ((fbM Z1 (4200 * 0) a 0) / 256))))))] [] rfl rfl rfl rfl (by decide) rfl rfl rfl hl.1 rfl (Nat.le_of_ble_eq_true rfl) dX3_frame_179 ⟨Nat.le_of_ble_eq_true rfl, Nat.le_of_ble_eq_true rfl⟩ (fun H locs hP hD hS => ?_)
    refine lv_aload_n hx hb dX3_frame_182 rfl (lv_at hl 4 rfl) ?_
    refine lv_iload hx hb dX3_frame_183 (lv_at hl 0 rfl) ?_
    refine cl0_vv ⟨hx, hb, hml, hown, hts⟩ (c_m_add l D cA cB cZ y len tp bb zz wa fs fm mk 5 (upd (upd (upd (upd (upd ff 0 (i8 21)) 1 (i8 ((160 + (2 * (nI 0))) + 1))) 2 (i8 (mf 0))) 3 (i8 (mf 1))) 4 (i8 (24 + ((fbM Z1 (4200 * 0) a 0) / 256)))) (fbM Z1 (4200 * 0) a 0) (by omega)) (cwV 1 hts (gM_add _) rfl rfl rfl (by decide +kernel) ⟨Nat.le_of_ble_eq_true rfl, Nat.le_of_ble_eq_true rfl⟩) (ci := 3) (q0 := 0) rfl rfl hN hK hP hD hS hA [0, 5] [1, 2, 3, 4] [4, 0, 1, 2, 3, 5] [(bb, .inl (cB, 8400, .inl B1)), (zz, .inl (cZ, 8400, .inl Z1)), (wa, .inl (cA, 2, .inl (wI W1))), (fs, .inl (cA, 4, .inl mf))] [(y, .inr (3, [.int 0, .int (nI len), .ref tp, .int (nI mk), .ref bb, .ref zz, .ref wa, .ref fs, .ref fm, .int (nI 6)])), (bb, .inl (cB, 8400, .inl B1)), (zz, .inl (cZ, 8400, .inl Z1)), (wa, .inl (cA, 2, .inl (wI W1))), (fs, .inl (cA, 4, .inl mf)), (fm, .inl (cB, 256, .inl (mA ff mf (nI 0) 1 (fbM Z1 (4200 * 0) a 0))))] [] rfl rfl rfl rfl (by decide) rfl rfl rfl hl.1 rfl (Nat.le_of_ble_eq_true rfl) dX3_frame_185 ⟨Nat.le_of_ble_eq_true rfl, Nat.le_of_ble_eq_true rfl⟩ (fun H locs hP hD hS => ?_)
    refine lv_iconst (v := 0) hx hb dX3_frame_188 (by decide) ?_
    refine lv_istore (lv' := [(6, .int 0), (5, .int (fbM Z1 (4200 * 0) a 0)), (4, .int (nI a)), (3, .int (nI 0)), (2, .int (nI 0)), (0, .ref y), (1, .int word)]) hx hb dX3_frame_189 hl (by decide) rfl (fun ls hl => ?_)
    have loop : ∀ (d j : Nat) (H : Heap) (locs : List Loc) (ls : Array Slot), j + d = a → va_P D vwCl [(y, .inr (3, [.int 0, .int (nI len), .ref tp, .int (nI mk), .ref bb, .ref zz, .ref wa, .ref fs, .ref fm, .int (nI (6 + j))])), (bb, .inl (cB, 8400, .inl B1)), (zz, .inl (cZ, 8400, .inl Z1)), (wa, .inl (cA, 2, .inl (wI W1))), (fs, .inl (cA, 4, .inl mf)), (fm, .inl (cB, 256, .inl (lwr (mA ff mf (nI 0) 1 (fbM Z1 (4200 * 0) a 0)) 6 (fun i => i8 (B1 (4200 * 0 + i))) j)))] H → va_D A [(y, .inr (3, [.int 0, .int (nI len), .ref tp, .int (nI mk), .ref bb, .ref zz, .ref wa, .ref fs, .ref fm, .int (nI (6 + j))])), (bb, .inl (cB, 8400, .inl B1)), (zz, .inl (cZ, 8400, .inl Z1)), (wa, .inl (cA, 2, .inl (wI W1))), (fs, .inl (cA, 4, .inl mf)), (fm, .inl (cB, 256, .inl (lwr (mA ff mf (nI 0) 1 (fbM Z1 (4200 * 0) a 0)) 6 (fun i => i8 (B1 (4200 * 0 + i))) j)))] → va_S A s.heap H locs → lv_has ls 7 [(6, .int (nI j)), (5, .int (fbM Z1 (4200 * 0) a 0)), (4, .int (nI a)), (3, .int (nI 0)), (2, .int (nI 0)), (0, .ref y), (1, .int word)] → W p l e ({ frames := 2, cells := 0, slots := 0, locals := 50 } : Room) s m ([.ref y, .int word] : List Value).toArray below meth c H locs 0 0 Q (F0 m 191 ls []) := by
      intro d
      induction d with
      | zero =>
        intro j H locs ls hj hP hD hS hl
        have hj : j = a := hj
        rw [hj] at hP hD hl
        refine lv_iload hx hb dX3_frame_191 (lv_at hl 0 rfl) ?_
        refine lv_iload hx hb dX3_frame_193 (lv_at hl 2 rfl) ?_
        refine lv_icmp_ge (tgt := 231) hx hb dX3_frame_195 (by decide) (fun _ => ?_) (fun cc => absurd (nI_le (Nat.le_refl _) (by omega)) cc)
        refine lv_bipush (v := 24) hx hb dX3_frame_231 (by decide +kernel) ?_
        refine lv_istore (lv' := [(6, .int 24), (5, .int (fbM Z1 (4200 * 0) a 0)), (4, .int (nI a)), (3, .int (nI 0)), (2, .int (nI 0)), (0, .ref y), (1, .int word)]) hx hb dX3_frame_233 hl (by decide) rfl (fun ls hl => ?_)
        refine lv_iload hx hb dX3_frame_235 (lv_at hl 0 rfl) ?_
        refine lv_if_lt (tgt := 254) hx hb dX3_frame_237 (by decide) (fun cc => absurd cc (by decide)) (fun _ => ?_)
        refine lv_aload_n hx hb dX3_frame_240 rfl (lv_at hl 5 rfl) ?_
        refine lv_iload_n hx hb dX3_frame_241 rfl (lv_at hl 6 rfl) ?_
        refine lv_iload hx hb dX3_frame_242 (lv_at hl 0 rfl) ?_
        refine lv_ishr hx hb dX3_frame_244 ?_
        refine cl0_vv ⟨hx, hb, hml, hown, hts⟩ (c_m_add l D cA cB cZ y len tp bb zz wa fs fm mk (6 + a) (lwr (mA ff mf (nI 0) 1 (fbM Z1 (4200 * 0) a 0)) 6 (fun i => i8 (B1 (4200 * 0 + i))) a) (sra word 24) (by omega)) (cwV 1 hts (gM_add _) rfl rfl rfl (by decide +kernel) ⟨Nat.le_of_ble_eq_true rfl, Nat.le_of_ble_eq_true rfl⟩) (ci := 3) (q0 := 0) rfl rfl hN hK hP hD hS hA [0, 5] [1, 2, 3, 4] [4, 0, 1, 2, 3, 5] [(bb, .inl (cB, 8400, .inl B1)), (zz, .inl (cZ, 8400, .inl Z1)), (wa, .inl (cA, 2, .inl (wI W1))), (fs, .inl (cA, 4, .inl mf))] [(y, .inr (3, [.int 0, .int (nI len), .ref tp, .int (nI mk), .ref bb, .ref zz, .ref wa, .ref fs, .ref fm, .int (nI (6 + a + 1))])), (bb, .inl (cB, 8400, .inl B1)), (zz, .inl (cZ, 8400, .inl Z1)), (wa, .inl (cA, 2, .inl (wI W1))), (fs, .inl (cA, 4, .inl mf)), (fm, .inl (cB, 256, .inl (upd (lwr (mA ff mf (nI 0) 1 (fbM Z1 (4200 * 0) a 0)) 6 (fun i => i8 (B1 (4200 * 0 + i))) a) (6 + a) (i8 (sra word 24)))))] [] rfl rfl rfl rfl (by decide) rfl rfl rfl hl.1 rfl (Nat.le_of_ble_eq_true rfl) dX3_frame_245 ⟨Nat.le_of_ble_eq_true rfl, Nat.le_of_ble_eq_true rfl⟩ (fun H locs hP hD hS => ?_)
        refine lv_iinc (v := 16) (lv' := [(6, .int 16), (5, .int (fbM Z1 (4200 * 0) a 0)), (4, .int (nI a)), (3, .int (nI 0)), (2, .int (nI 0)), (0, .ref y), (1, .int word)]) hx hb dX3_frame_248 hl (k := 0) rfl (by decide) (by decide) rfl (fun ls hl => ?_)
        refine lv_goto (tgt := 235) hx hb dX3_frame_251 (by decide) ?_
        refine lv_iload hx hb dX3_frame_235 (lv_at hl 0 rfl) ?_
        refine lv_if_lt (tgt := 254) hx hb dX3_frame_237 (by decide) (fun cc => absurd cc (by decide)) (fun _ => ?_)
        refine lv_aload_n hx hb dX3_frame_240 rfl (lv_at hl 5 rfl) ?_
        refine lv_iload_n hx hb dX3_frame_241 rfl (lv_at hl 6 rfl) ?_
        refine lv_iload hx hb dX3_frame_242 (lv_at hl 0 rfl) ?_
        refine lv_ishr hx hb dX3_frame_244 ?_
        refine cl0_vv ⟨hx, hb, hml, hown, hts⟩ (c_m_add l D cA cB cZ y len tp bb zz wa fs fm mk (6 + a + 1) (upd (lwr (mA ff mf (nI 0) 1 (fbM Z1 (4200 * 0) a 0)) 6 (fun i => i8 (B1 (4200 * 0 + i))) a) (6 + a) (i8 (sra word 24))) (sra word 16) (by omega)) (cwV 1 hts (gM_add _) rfl rfl rfl (by decide +kernel) ⟨Nat.le_of_ble_eq_true rfl, Nat.le_of_ble_eq_true rfl⟩) (ci := 3) (q0 := 0) rfl rfl hN hK hP hD hS hA [0, 5] [1, 2, 3, 4] [4, 0, 1, 2, 3, 5] [(bb, .inl (cB, 8400, .inl B1)), (zz, .inl (cZ, 8400, .inl Z1)), (wa, .inl (cA, 2, .inl (wI W1))), (fs, .inl (cA, 4, .inl mf))] [(y, .inr (3, [.int 0, .int (nI len), .ref tp, .int (nI mk), .ref bb, .ref zz, .ref wa, .ref fs, .ref fm, .int (nI (6 + a + 2))])), (bb, .inl (cB, 8400, .inl B1)), (zz, .inl (cZ, 8400, .inl Z1)), (wa, .inl (cA, 2, .inl (wI W1))), (fs, .inl (cA, 4, .inl mf)), (fm, .inl (cB, 256, .inl (upd (upd (lwr (mA ff mf (nI 0) 1 (fbM Z1 (4200 * 0) a 0)) 6 (fun i => i8 (B1 (4200 * 0 + i))) a) (6 + a) (i8 (sra word 24))) (6 + a + 1) (i8 (sra word 16)))))] [] rfl rfl rfl rfl (by decide) rfl rfl rfl hl.1 rfl (Nat.le_of_ble_eq_true rfl) dX3_frame_245 ⟨Nat.le_of_ble_eq_true rfl, Nat.le_of_ble_eq_true rfl⟩ (fun H locs hP hD hS => ?_)
        refine lv_iinc (v := 8) (lv' := [(6, .int 8), (5, .int (fbM Z1 (4200 * 0) a 0)), (4, .int (nI a)), (3, .int (nI 0)), (2, .int (nI 0)), (0, .ref y), (1, .int word)]) hx hb dX3_frame_248 hl (k := 0) rfl (by decide) (by decide) rfl (fun ls hl => ?_)
        refine lv_goto (tgt := 235) hx hb dX3_frame_251 (by decide) ?_
        refine lv_iload hx hb dX3_frame_235 (lv_at hl 0 rfl) ?_
        refine lv_if_lt (tgt := 254) hx hb dX3_frame_237 (by decide) (fun cc => absurd cc (by decide)) (fun _ => ?_)
        refine lv_aload_n hx hb dX3_frame_240 rfl (lv_at hl 5 rfl) ?_
        refine lv_iload_n hx hb dX3_frame_241 rfl (lv_at hl 6 rfl) ?_
        refine lv_iload hx hb dX3_frame_242 (lv_at hl 0 rfl) ?_
        refine lv_ishr hx hb dX3_frame_244 ?_
        refine cl0_vv ⟨hx, hb, hml, hown, hts⟩ (c_m_add l D cA cB cZ y len tp bb zz wa fs fm mk (6 + a + 2) (upd (upd (lwr (mA ff mf (nI 0) 1 (fbM Z1 (4200 * 0) a 0)) 6 (fun i => i8 (B1 (4200 * 0 + i))) a) (6 + a) (i8 (sra word 24))) (6 + a + 1) (i8 (sra word 16))) (sra word 8) (by omega)) (cwV 1 hts (gM_add _) rfl rfl rfl (by decide +kernel) ⟨Nat.le_of_ble_eq_true rfl, Nat.le_of_ble_eq_true rfl⟩) (ci := 3) (q0 := 0) rfl rfl hN hK hP hD hS hA [0, 5] [1, 2, 3, 4] [4, 0, 1, 2, 3, 5] [(bb, .inl (cB, 8400, .inl B1)), (zz, .inl (cZ, 8400, .inl Z1)), (wa, .inl (cA, 2, .inl (wI W1))), (fs, .inl (cA, 4, .inl mf))] [(y, .inr (3, [.int 0, .int (nI len), .ref tp, .int (nI mk), .ref bb, .ref zz, .ref wa, .ref fs, .ref fm, .int (nI (6 + a + 3))])), (bb, .inl (cB, 8400, .inl B1)), (zz, .inl (cZ, 8400, .inl Z1)), (wa, .inl (cA, 2, .inl (wI W1))), (fs, .inl (cA, 4, .inl mf)), (fm, .inl (cB, 256, .inl (upd (upd (upd (lwr (mA ff mf (nI 0) 1 (fbM Z1 (4200 * 0) a 0)) 6 (fun i => i8 (B1 (4200 * 0 + i))) a) (6 + a) (i8 (sra word 24))) (6 + a + 1) (i8 (sra word 16))) (6 + a + 2) (i8 (sra word 8)))))] [] rfl rfl rfl rfl (by decide) rfl rfl rfl hl.1 rfl (Nat.le_of_ble_eq_true rfl) dX3_frame_245 ⟨Nat.le_of_ble_eq_true rfl, Nat.le_of_ble_eq_true rfl⟩ (fun H locs hP hD hS => ?_)
        refine lv_iinc (v := 0) (lv' := [(6, .int 0), (5, .int (fbM Z1 (4200 * 0) a 0)), (4, .int (nI a)), (3, .int (nI 0)), (2, .int (nI 0)), (0, .ref y), (1, .int word)]) hx hb dX3_frame_248 hl (k := 0) rfl (by decide) (by decide) rfl (fun ls hl => ?_)
        refine lv_goto (tgt := 235) hx hb dX3_frame_251 (by decide) ?_
        refine lv_iload hx hb dX3_frame_235 (lv_at hl 0 rfl) ?_
        refine lv_if_lt (tgt := 254) hx hb dX3_frame_237 (by decide) (fun cc => absurd cc (by decide)) (fun _ => ?_)
        refine lv_aload_n hx hb dX3_frame_240 rfl (lv_at hl 5 rfl) ?_
        refine lv_iload_n hx hb dX3_frame_241 rfl (lv_at hl 6 rfl) ?_
        refine lv_iload hx hb dX3_frame_242 (lv_at hl 0 rfl) ?_
        refine lv_ishr hx hb dX3_frame_244 ?_
        refine cl0_vv ⟨hx, hb, hml, hown, hts⟩ (c_m_add l D cA cB cZ y len tp bb zz wa fs fm mk (6 + a + 3) (upd (upd (upd (lwr (mA ff mf (nI 0) 1 (fbM Z1 (4200 * 0) a 0)) 6 (fun i => i8 (B1 (4200 * 0 + i))) a) (6 + a) (i8 (sra word 24))) (6 + a + 1) (i8 (sra word 16))) (6 + a + 2) (i8 (sra word 8))) (sra word 0) (by omega)) (cwV 1 hts (gM_add _) rfl rfl rfl (by decide +kernel) ⟨Nat.le_of_ble_eq_true rfl, Nat.le_of_ble_eq_true rfl⟩) (ci := 3) (q0 := 0) rfl rfl hN hK hP hD hS hA [0, 5] [1, 2, 3, 4] [4, 0, 1, 2, 3, 5] [(bb, .inl (cB, 8400, .inl B1)), (zz, .inl (cZ, 8400, .inl Z1)), (wa, .inl (cA, 2, .inl (wI W1))), (fs, .inl (cA, 4, .inl mf))] [(y, .inr (3, [.int 0, .int (nI len), .ref tp, .int (nI mk), .ref bb, .ref zz, .ref wa, .ref fs, .ref fm, .int (nI (6 + a + 4))])), (bb, .inl (cB, 8400, .inl B1)), (zz, .inl (cZ, 8400, .inl Z1)), (wa, .inl (cA, 2, .inl (wI W1))), (fs, .inl (cA, 4, .inl mf)), (fm, .inl (cB, 256, .inl (mW (lwr (mA ff mf (nI 0) 1 (fbM Z1 (4200 * 0) a 0)) 6 (fun i => i8 (B1 (4200 * 0 + i))) a) a word)))] [] rfl rfl rfl rfl (by decide) rfl rfl rfl hl.1 rfl (Nat.le_of_ble_eq_true rfl) dX3_frame_245 ⟨Nat.le_of_ble_eq_true rfl, Nat.le_of_ble_eq_true rfl⟩ (fun H locs hP hD hS => ?_)
        refine lv_iinc (v := (-8)) (lv' := [(6, .int (-8)), (5, .int (fbM Z1 (4200 * 0) a 0)), (4, .int (nI a)), (3, .int (nI 0)), (2, .int (nI 0)), (0, .ref y), (1, .int word)]) hx hb dX3_frame_248 hl (k := 0) rfl (by decide) (by decide) rfl (fun ls hl => ?_)
        refine lv_goto (tgt := 235) hx hb dX3_frame_251 (by decide) ?_
        refine lv_iload hx hb dX3_frame_235 (lv_at hl 0 rfl) ?_
        refine lv_if_lt (tgt := 254) hx hb dX3_frame_237 (by decide) (fun _ => ?_) (fun cc => absurd (by decide) cc)
        refine lv_aload_n hx hb dX3_frame_254 rfl (lv_at hl 5 rfl) ?_
        refine cl0_vi ⟨hx, hb, hml, hown, hts⟩ (c_m_check l D cA cB cZ y len tp bb zz wa fs fm mk (6 + a + 4) (mW (lwr (mA ff mf (nI 0) 1 (fbM Z1 (4200 * 0) a 0)) 6 (fun i => i8 (B1 (4200 * 0 + i))) a) a word) (by omega)) (cwV 0 hts (gM_check _) rfl rfl rfl (by decide +kernel) ⟨Nat.le_of_ble_eq_true rfl, Nat.le_of_ble_eq_true rfl⟩) (ci := 3) (q0 := 0) rfl rfl hN hK hP hD hS hA [0, 5] [1, 2, 3, 4] [4, 0, 1, 2, 3, 5] [(bb, .inl (cB, 8400, .inl B1)), (zz, .inl (cZ, 8400, .inl Z1)), (wa, .inl (cA, 2, .inl (wI W1))), (fs, .inl (cA, 4, .inl mf))] [(y, .inr (3, [.int 0, .int (nI len), .ref tp, .int (nI mk), .ref bb, .ref zz, .ref wa, .ref fs, .ref fm, .int (nI (6 + a + 4))])), (bb, .inl (cB, 8400, .inl B1)), (zz, .inl (cZ, 8400, .inl Z1)), (wa, .inl (cA, 2, .inl (wI W1))), (fs, .inl (cA, 4, .inl mf)), (fm, .inl (cB, 256, .inl (mW (lwr (mA ff mf (nI 0) 1 (fbM Z1 (4200 * 0) a 0)) 6 (fun i => i8 (B1 (4200 * 0 + i))) a) a word)))] [] rfl rfl rfl rfl (by decide) rfl rfl rfl hl.1 rfl (Nat.le_of_ble_eq_true rfl) dX3_frame_255 ⟨Nat.le_of_ble_eq_true rfl, Nat.le_of_ble_eq_true rfl⟩ (fun H locs hP hD hS => ?_)
        refine lv_istore (lv' := [(6, .int (crcM (mW (lwr (mA ff mf (nI 0) 1 (fbM Z1 (4200 * 0) a 0)) 6 (fun i => i8 (B1 (4200 * 0 + i))) a) a word) (6 + a + 4))), (5, .int (fbM Z1 (4200 * 0) a 0)), (4, .int (nI a)), (3, .int (nI 0)), (2, .int (nI 0)), (0, .ref y), (1, .int word)]) hx hb dX3_frame_258 hl (by decide) rfl (fun ls hl => ?_)
        refine lv_aload_n hx hb dX3_frame_260 rfl (lv_at hl 5 rfl) ?_
        refine lv_iload hx hb dX3_frame_261 (lv_at hl 0 rfl) ?_
        refine lv_sipush (v := 256) hx hb dX3_frame_263 (by decide +kernel) ?_
        refine lv_idiv hx hb dX3_frame_266 (by decide) ?_
        refine cl0_vv ⟨hx, hb, hml, hown, hts⟩ (c_m_add l D cA cB cZ y len tp bb zz wa fs fm mk (6 + a + 4) (mW (lwr (mA ff mf (nI 0) 1 (fbM Z1 (4200 * 0) a 0)) 6 (fun i => i8 (B1 (4200 * 0 + i))) a) a word) ((crcM (mW (lwr (mA ff mf (nI 0) 1 (fbM Z1 (4200 * 0) a 0)) 6 (fun i => i8 (B1 (4200 * 0 + i))) a) a word) (6 + a + 4)) / 256) (by omega)) (cwV 1 hts (gM_add _) rfl rfl rfl (by decide +kernel) ⟨Nat.le_of_ble_eq_true rfl, Nat.le_of_ble_eq_true rfl⟩) (ci := 3) (q0 := 0) rfl rfl hN hK hP hD hS hA [0, 5] [1, 2, 3, 4] [4, 0, 1, 2, 3, 5] [(bb, .inl (cB, 8400, .inl B1)), (zz, .inl (cZ, 8400, .inl Z1)), (wa, .inl (cA, 2, .inl (wI W1))), (fs, .inl (cA, 4, .inl mf))] [(y, .inr (3, [.int 0, .int (nI len), .ref tp, .int (nI mk), .ref bb, .ref zz, .ref wa, .ref fs, .ref fm, .int (nI (6 + a + 5))])), (bb, .inl (cB, 8400, .inl B1)), (zz, .inl (cZ, 8400, .inl Z1)), (wa, .inl (cA, 2, .inl (wI W1))), (fs, .inl (cA, 4, .inl mf)), (fm, .inl (cB, 256, .inl (upd (mW (lwr (mA ff mf (nI 0) 1 (fbM Z1 (4200 * 0) a 0)) 6 (fun i => i8 (B1 (4200 * 0 + i))) a) a word) (6 + a + 4) (i8 ((crcM (mW (lwr (mA ff mf (nI 0) 1 (fbM Z1 (4200 * 0) a 0)) 6 (fun i => i8 (B1 (4200 * 0 + i))) a) a word) (6 + a + 4)) / 256)))))] [] rfl rfl rfl rfl (by decide) rfl rfl rfl hl.1 rfl (Nat.le_of_ble_eq_true rfl) dX3_frame_267 ⟨Nat.le_of_ble_eq_true rfl, Nat.le_of_ble_eq_true rfl⟩ (fun H locs hP hD hS => ?_)
        refine lv_aload_n hx hb dX3_frame_270 rfl (lv_at hl 5 rfl) ?_
        refine lv_iload hx hb dX3_frame_271 (lv_at hl 0 rfl) ?_
        refine cl0_vv ⟨hx, hb, hml, hown, hts⟩ (c_m_add l D cA cB cZ y len tp bb zz wa fs fm mk (6 + a + 5) (upd (mW (lwr (mA ff mf (nI 0) 1 (fbM Z1 (4200 * 0) a 0)) 6 (fun i => i8 (B1 (4200 * 0 + i))) a) a word) (6 + a + 4) (i8 ((crcM (mW (lwr (mA ff mf (nI 0) 1 (fbM Z1 (4200 * 0) a 0)) 6 (fun i => i8 (B1 (4200 * 0 + i))) a) a word) (6 + a + 4)) / 256))) (crcM (mW (lwr (mA ff mf (nI 0) 1 (fbM Z1 (4200 * 0) a 0)) 6 (fun i => i8 (B1 (4200 * 0 + i))) a) a word) (6 + a + 4)) (by omega)) (cwV 1 hts (gM_add _) rfl rfl rfl (by decide +kernel) ⟨Nat.le_of_ble_eq_true rfl, Nat.le_of_ble_eq_true rfl⟩) (ci := 3) (q0 := 0) rfl rfl hN hK hP hD hS hA [0, 5] [1, 2, 3, 4] [4, 0, 1, 2, 3, 5] [(bb, .inl (cB, 8400, .inl B1)), (zz, .inl (cZ, 8400, .inl Z1)), (wa, .inl (cA, 2, .inl (wI W1))), (fs, .inl (cA, 4, .inl mf))] [(y, .inr (3, [.int 0, .int (nI len), .ref tp, .int (nI mk), .ref bb, .ref zz, .ref wa, .ref fs, .ref fm, .int (nI (6 + a + 6))])), (bb, .inl (cB, 8400, .inl B1)), (zz, .inl (cZ, 8400, .inl Z1)), (wa, .inl (cA, 2, .inl (wI W1))), (fs, .inl (cA, 4, .inl mf)), (fm, .inl (cB, 256, .inl (mL ff mf (nI 0) 1 (fbM Z1 (4200 * 0) a 0) (fun i => i8 (B1 (4200 * 0 + i))) a word)))] [] rfl rfl rfl rfl (by decide) rfl rfl rfl hl.1 rfl (Nat.le_of_ble_eq_true rfl) dX3_frame_273 ⟨Nat.le_of_ble_eq_true rfl, Nat.le_of_ble_eq_true rfl⟩ (fun H locs hP hD hS => ?_)
        refine lv_iload_n hx hb dX3_frame_276 rfl (lv_at hl 4 rfl) ?_
        refine lv_iconst (v := 2) hx hb dX3_frame_277 (by decide) ?_
        refine lv_icmp_ge (tgt := 288) hx hb dX3_frame_278 (by decide) (fun cc => absurd cc (by decide)) (fun _ => ?_)
        refine lv_aload_n hx hb dX3_frame_281 rfl (lv_at hl 5 rfl) ?_
        refine lv_iload_n hx hb dX3_frame_282 rfl (lv_at hl 4 rfl) ?_
        refine lv_iload hx hb dX3_frame_283 (lv_at hl 2 rfl) ?_
        refine cl0_vv ⟨hx, hb, hml, hown, hts⟩ (c_m_leave l D cA cB cZ y len tp bb zz wa fs fm mk (6 + a + 6) B1 Z1 W1 0 K a (by decide) hWc hKa (by omega)) (cwV 2 hts (gM_leave _) rfl rfl rfl (by decide +kernel) ⟨Nat.le_of_ble_eq_true rfl, Nat.le_of_ble_eq_true rfl⟩) (ci := 3) (q0 := 0) rfl rfl hN hK hP hD hS hA [0, 1, 2, 3] [4, 5] [2, 3, 4, 5, 0, 1] [(fs, .inl (cA, 4, .inl mf)), (fm, .inl (cB, 256, .inl (mL ff mf (nI 0) 1 (fbM Z1 (4200 * 0) a 0) (fun i => i8 (B1 (4200 * 0 + i))) a word)))] [(y, .inr (3, [.int 0, .int (nI len), .ref tp, .int (nI mk), .ref bb, .ref zz, .ref wa, .ref fs, .ref fm, .int (nI (6 + a + 6))])), (bb, .inl (cB, 8400, .inl (lwr B1 (4200 * 0) (fun i => i8 (B1 (4200 * 0 + i + a))) (K - a)))), (zz, .inl (cZ, 8400, .inl (lwr Z1 (4200 * 0) (fun i => Z1 (4200 * 0 + i + a) &&& 1) (K - a)))), (wa, .inl (cA, 2, .inl (wI (va_up W1 0 (K - a))))), (fs, .inl (cA, 4, .inl mf)), (fm, .inl (cB, 256, .inl (mL ff mf (nI 0) 1 (fbM Z1 (4200 * 0) a 0) (fun i => i8 (B1 (4200 * 0 + i))) a word)))] [] rfl rfl rfl rfl (by decide) rfl rfl rfl hl.1 rfl (Nat.le_of_ble_eq_true rfl) dX3_frame_285 ⟨Nat.le_of_ble_eq_true rfl, Nat.le_of_ble_eq_true rfl⟩ (fun H locs hP hD hS => ?_)
        refine lv_aload_n hx hb dX3_frame_288 rfl (lv_at hl 5 rfl) ?_
        refine va_get (D := D) (ci := 3) (v := .ref fs) hx hb hts iX3 hown hK hP 0 rfl rfl 7 (by decide) lk24 (fun _ h => h) rfl dX3_frame_289 ?_
        refine lv_iconst (v := 0) hx hb dX3_frame_292 (by decide) ?_
        refine tp_i (y := nI 0) (rfl) ?_
        refine lv_dup2_11 hx hb dX3_frame_293 rfl rfl ?_
        refine al_i (k := 0) hx hb hK hP 4 0 rfl rfl (by decide) (by decide) dX3_frame_294 ?_
        refine lv_iconst (v := 1) hx hb dX3_frame_295 (by decide) ?_
        refine lv_iadd hx hb dX3_frame_296 ?_
        refine as_i (k := 0) (x := ((mf 0) + 1)) hx hb hK hP hD hS 4 0 rfl rfl (by decide) (by decide) dX3_frame_297 (fun H locs hP hD hS => ?_)
        have hP : va_P D vwCl [(y, .inr (3, [.int 0, .int (nI len), .ref tp, .int (nI mk), .ref bb, .ref zz, .ref wa, .ref fs, .ref fm, .int (nI (6 + a + 6))])), (bb, .inl (cB, 8400, .inl (lwr B1 (4200 * 0) (fun i => i8 (B1 (4200 * 0 + i + a))) (K - a)))), (zz, .inl (cZ, 8400, .inl (lwr Z1 (4200 * 0) (fun i => Z1 (4200 * 0 + i + a) &&& 1) (K - a)))), (wa, .inl (cA, 2, .inl (wI (va_up W1 0 (K - a))))), (fs, .inl (cA, 4, .inl (upd mf 0 ((mf 0) + 1)))), (fm, .inl (cB, 256, .inl (mL ff mf (nI 0) 1 (fbM Z1 (4200 * 0) a 0) (fun i => i8 (B1 (4200 * 0 + i))) a word)))] H := hP
        have hD : va_D A [(y, .inr (3, [.int 0, .int (nI len), .ref tp, .int (nI mk), .ref bb, .ref zz, .ref wa, .ref fs, .ref fm, .int (nI (6 + a + 6))])), (bb, .inl (cB, 8400, .inl (lwr B1 (4200 * 0) (fun i => i8 (B1 (4200 * 0 + i + a))) (K - a)))), (zz, .inl (cZ, 8400, .inl (lwr Z1 (4200 * 0) (fun i => Z1 (4200 * 0 + i + a) &&& 1) (K - a)))), (wa, .inl (cA, 2, .inl (wI (va_up W1 0 (K - a))))), (fs, .inl (cA, 4, .inl (upd mf 0 ((mf 0) + 1)))), (fm, .inl (cB, 256, .inl (mL ff mf (nI 0) 1 (fbM Z1 (4200 * 0) a 0) (fun i => i8 (B1 (4200 * 0 + i))) a word)))] := hD
        refine lv_aload_n hx hb dX3_frame_298 rfl (lv_at hl 5 rfl) ?_
        refine va_get (D := D) (ci := 3) (v := .ref fs) hx hb hts iX3 hown hK hP 0 rfl rfl 7 (by decide) lk24 (fun _ h => h) rfl dX3_frame_299 ?_
        refine lv_iconst (v := 1) hx hb dX3_frame_302 (by decide) ?_
        refine lv_iload_n hx hb dX3_frame_303 rfl (lv_at hl 4 rfl) ?_
        refine lv_iadd hx hb dX3_frame_304 ?_
        refine tp_i (y := nI 1) (by decide) ?_
        refine lv_dup2_11 hx hb dX3_frame_305 rfl rfl ?_
        refine al_i (k := 1) hx hb hK hP 4 0 rfl rfl (by decide) (by decide) dX3_frame_306 ?_
        refine lv_iconst (v := 1) hx hb dX3_frame_307 (by decide) ?_
        refine lv_iadd hx hb dX3_frame_308 ?_
        refine as_i (k := 1) (x := (((upd mf 0 ((mf 0) + 1)) 1) + 1)) hx hb hK hP hD hS 4 0 rfl rfl (by decide) (by decide) dX3_frame_309 (fun H locs hP hD hS => ?_)
        have hP : va_P D vwCl [(y, .inr (3, [.int 0, .int (nI len), .ref tp, .int (nI mk), .ref bb, .ref zz, .ref wa, .ref fs, .ref fm, .int (nI (6 + a + 6))])), (bb, .inl (cB, 8400, .inl (lwr B1 (4200 * 0) (fun i => i8 (B1 (4200 * 0 + i + a))) (K - a)))), (zz, .inl (cZ, 8400, .inl (lwr Z1 (4200 * 0) (fun i => Z1 (4200 * 0 + i + a) &&& 1) (K - a)))), (wa, .inl (cA, 2, .inl (wI (va_up W1 0 (K - a))))), (fs, .inl (cA, 4, .inl (upd (upd mf 0 ((mf 0) + 1)) 1 (((upd mf 0 ((mf 0) + 1)) 1) + 1)))), (fm, .inl (cB, 256, .inl (mL ff mf (nI 0) 1 (fbM Z1 (4200 * 0) a 0) (fun i => i8 (B1 (4200 * 0 + i))) a word)))] H := hP
        have hD : va_D A [(y, .inr (3, [.int 0, .int (nI len), .ref tp, .int (nI mk), .ref bb, .ref zz, .ref wa, .ref fs, .ref fm, .int (nI (6 + a + 6))])), (bb, .inl (cB, 8400, .inl (lwr B1 (4200 * 0) (fun i => i8 (B1 (4200 * 0 + i + a))) (K - a)))), (zz, .inl (cZ, 8400, .inl (lwr Z1 (4200 * 0) (fun i => Z1 (4200 * 0 + i + a) &&& 1) (K - a)))), (wa, .inl (cA, 2, .inl (wI (va_up W1 0 (K - a))))), (fs, .inl (cA, 4, .inl (upd (upd mf 0 ((mf 0) + 1)) 1 (((upd mf 0 ((mf 0) + 1)) 1) + 1)))), (fm, .inl (cB, 256, .inl (mL ff mf (nI 0) 1 (fbM Z1 (4200 * 0) a 0) (fun i => i8 (B1 (4200 * 0 + i))) a word)))] := hD
        refine lv_iload_n hx hb dX3_frame_310 rfl (lv_at hl 3 rfl) ?_
        rw [show 6 + a + 6 = len by omega] at hP hD
        rw [hW1, bx_uu] at hP hD
        subst hB1
        subst hZ1
        subst hKK
        exact hex _ _ _ _ _ () hS (rfl) hP hD dX3_frame_311
      | succ d ih =>
        intro j H locs ls hj hP hD hS hl
        refine lv_iload hx hb dX3_frame_191 (lv_at hl 0 rfl) ?_
        refine lv_iload hx hb dX3_frame_193 (lv_at hl 2 rfl) ?_
        refine lv_icmp_ge (tgt := 231) hx hb dX3_frame_195 (by decide) (fun cc => absurd cc (nI_ge (by omega) (by omega))) (fun _ => ?_)
        refine lv_aload_n hx hb dX3_frame_198 rfl (lv_at hl 5 rfl) ?_
        refine lv_iload_n hx hb dX3_frame_199 rfl (lv_at hl 4 rfl) ?_
        refine lv_iconst (v := 2) hx hb dX3_frame_200 (by decide) ?_
        refine lv_icmp_ne (tgt := 209) hx hb dX3_frame_201 (by decide) (fun _ => ?_) (fun cc => absurd cc (by decide))
        refine lv_aload_n hx hb dX3_frame_209 rfl (lv_at hl 5 rfl) ?_
        refine va_get (D := D) (ci := 3) (v := .ref bb) hx hb hts iX3 hown hK hP 0 rfl rfl 4 (by decide) lk13 (fun _ h => h) rfl dX3_frame_210 ?_
        refine lv_sipush (v := 4200) hx hb dX3_frame_213 (by decide +kernel) ?_
        refine lv_iload_n hx hb dX3_frame_216 rfl (lv_at hl 4 rfl) ?_
        refine lv_imul hx hb dX3_frame_217 ?_
        refine lv_iload hx hb dX3_frame_218 (lv_at hl 0 rfl) ?_
        refine lv_iadd hx hb dX3_frame_220 ?_
        refine tp_i (y := nI (4200 * 0 + j)) (by rw [show (4200 : Int32) = nI 4200 from rfl, pk_mul, nI_add]) ?_
        refine al_b (k := (4200 * 0 + j)) hx hb hK hP 1 1 rfl rfl (by omega) (by decide) dX3_frame_221 ?_
        refine cl0_vv ⟨hx, hb, hml, hown, hts⟩ (c_m_add l D cA cB cZ y len tp bb zz wa fs fm mk (6 + j) (lwr (mA ff mf (nI 0) 1 (fbM Z1 (4200 * 0) a 0)) 6 (fun i => i8 (B1 (4200 * 0 + i))) j) (B1 (4200 * 0 + j)) (by omega)) (cwV 1 hts (gM_add _) rfl rfl rfl (by decide +kernel) ⟨Nat.le_of_ble_eq_true rfl, Nat.le_of_ble_eq_true rfl⟩) (ci := 3) (q0 := 0) rfl rfl hN hK hP hD hS hA [0, 5] [1, 2, 3, 4] [4, 0, 1, 2, 3, 5] [(bb, .inl (cB, 8400, .inl B1)), (zz, .inl (cZ, 8400, .inl Z1)), (wa, .inl (cA, 2, .inl (wI W1))), (fs, .inl (cA, 4, .inl mf))] [(y, .inr (3, [.int 0, .int (nI len), .ref tp, .int (nI mk), .ref bb, .ref zz, .ref wa, .ref fs, .ref fm, .int (nI (6 + (j + 1)))])), (bb, .inl (cB, 8400, .inl B1)), (zz, .inl (cZ, 8400, .inl Z1)), (wa, .inl (cA, 2, .inl (wI W1))), (fs, .inl (cA, 4, .inl mf)), (fm, .inl (cB, 256, .inl (lwr (mA ff mf (nI 0) 1 (fbM Z1 (4200 * 0) a 0)) 6 (fun i => i8 (B1 (4200 * 0 + i))) (j + 1))))] [] rfl rfl rfl rfl (by decide) rfl rfl rfl hl.1 rfl (Nat.le_of_ble_eq_true rfl) dX3_frame_222 ⟨Nat.le_of_ble_eq_true rfl, Nat.le_of_ble_eq_true rfl⟩ (fun H locs hP hD hS => ?_)
        refine lv_iinc (v := nI (j + 1)) (lv' := [(6, .int (nI (j + 1))), (5, .int (fbM Z1 (4200 * 0) a 0)), (4, .int (nI a)), (3, .int (nI 0)), (2, .int (nI 0)), (0, .ref y), (1, .int word)]) hx hb dX3_frame_225 hl (k := 0) rfl (nI_1 _) (by decide) rfl (fun ls hl => ?_)
        refine lv_goto (tgt := 191) hx hb dX3_frame_228 (by decide) ?_
        exact ih (j + 1) H locs ls (by omega) hP hD hS (lv_sub hl [0, 1, 2, 3, 4, 5, 6] rfl)
    exact loop a 0 _ _ ls (by omega) hP hD hS (lv_sub hl [0, 1, 2, 3, 4, 5, 6] rfl)
  refine lv_icmp_ge (tgt := 103) hx hb dX3_frame_56 (by decide) (fun cc => absurd cc (by decide)) (fun _ => ?_)
  refine lv_aload_n hx hb dX3_frame_59 rfl (lv_at hl 3 rfl) ?_
  refine va_get (D := D) (ci := 3) (v := .ref wa) hx hb hts iX3 hown hK hP 0 rfl rfl 6 (by decide) lk20 (fun _ h => h) rfl dX3_frame_60 ?_
  refine lv_iload_n hx hb dX3_frame_63 rfl (lv_at hl 2 rfl) ?_
  refine al_i (k := 0) hx hb hK hP 3 0 rfl rfl (by decide) (by decide) dX3_frame_64 ?_
  refine tp_i (y := nI w) (congrArg nI hw) ?_
  refine lv_iload hx hb dX3_frame_65 (lv_at hl 0 rfl) ?_
  refine lv_icmp_ge (tgt := 103) hx hb dX3_frame_67 (by decide) (fun q1 => ?_) (fun q1 => ?_)
  · have hwa : ¬ w < a := fun q => nI_ge q (by omega) q1
    have e1 : B1 = bf := by rw [hB1]; exact if_neg hwa
    have e2 : Z1 = zf := by rw [hZ1]; exact if_neg hwa
    have e3 : W1 = ww := by rw [hW1, hKK, show filK w a = w from if_neg hwa, ← hw]; funext j; unfold va_up; by_cases h : j = 0; subst h; simp; simp [h]
    exact tail _ _ ls (by rw [e1, e2, e3]; exact hP) (by rw [e1, e2, e3]; exact hD) hS (lv_sub hl [0, 1, 2, 3, 4] rfl)
  · have hwa : w < a := Nat.not_le.mp (fun q => q1 (nI_le q (by omega)))
    refine lv_aload_n hx hb dX3_frame_70 rfl (lv_at hl 3 rfl) ?_
    refine lv_iload_n hx hb dX3_frame_71 rfl (lv_at hl 2 rfl) ?_
    refine lv_iload hx hb dX3_frame_72 (lv_at hl 0 rfl) ?_
    refine lv_aload_n hx hb dX3_frame_74 rfl (lv_at hl 3 rfl) ?_
    refine va_get (D := D) (ci := 3) (v := .ref wa) hx hb hts iX3 hown hK hP 0 rfl rfl 6 (by decide) lk20 (fun _ h => h) rfl dX3_frame_75 ?_
    refine lv_iload_n hx hb dX3_frame_78 rfl (lv_at hl 2 rfl) ?_
    refine al_i (k := 0) hx hb hK hP 3 0 rfl rfl (by decide) (by decide) dX3_frame_79 ?_
    refine tp_i (y := nI w) (congrArg nI hw) ?_
    refine lv_isub hx hb dX3_frame_80 ?_
    refine tp_i (y := nI (a - w)) (pk_sub (by omega)) ?_
    refine lv_bipush (v := 7) hx hb dX3_frame_81 (by decide +kernel) ?_
    refine lv_icmp_le (tgt := 98) hx hb dX3_frame_83 (by decide) (fun q2 => ?_) (fun q2 => ?_)
    · have h7 : a - w ≤ 7 := Nat.not_lt.mp (fun q => nI_ge (a := 7) q (by omega) q2)
      refine lv_bipush (v := 7) hx hb dX3_frame_98 (by decide +kernel) ?_
      refine tp_i (y := nI (max (a - w) 7)) (by rw [show max (a - w) 7 = 7 by omega]; rfl) ?_
      refine cl0_vv ⟨hx, hb, hml, hown, hts⟩ (c_m_fills l D cA cB cZ y len tp bb zz wa fs fm mk fk bf zf ww 0 w (max (a - w) 7) (by decide) hw (by omega) (by omega)) (cwV 2 hts (gM_fills _) rfl rfl rfl (by decide +kernel) ⟨Nat.le_of_ble_eq_true rfl, Nat.le_of_ble_eq_true rfl⟩) (ci := 3) (q0 := 0) rfl rfl hN hK hP hD hS hA [0, 1, 2, 3] [4, 5] [2, 3, 4, 5, 0, 1] [(fs, .inl (cA, 4, .inl mf)), (fm, .inl (cB, 256, .inl ff))] [(y, .inr (3, [.int 0, .int (nI len), .ref tp, .int (nI mk), .ref bb, .ref zz, .ref wa, .ref fs, .ref fm, .int (nI fk)])), (bb, .inl (cB, 8400, .inl (lwr bf (4200 * 0 + w) (emb (max (a - w) 7)) (max (a - w) 7)))), (zz, .inl (cZ, 8400, .inl (lwr zf (4200 * 0 + w) emz (max (a - w) 7)))), (wa, .inl (cA, 2, .inl (wI (va_up ww 0 (w + (max (a - w) 7)))))), (fs, .inl (cA, 4, .inl mf)), (fm, .inl (cB, 256, .inl ff))] [] rfl rfl rfl rfl (by decide) rfl rfl rfl hl.1 rfl (Nat.le_of_ble_eq_true rfl) dX3_frame_100 ⟨Nat.le_of_ble_eq_true rfl, Nat.le_of_ble_eq_true rfl⟩ (fun H locs hP hD hS => ?_)
      have e1 : B1 = lwr bf (4200 * 0 + w) (emb (max (a - w) 7)) (max (a - w) 7) := by rw [hB1]; exact if_pos hwa
      have e2 : Z1 = lwr zf (4200 * 0 + w) emz (max (a - w) 7) := by rw [hZ1]; exact if_pos hwa
      have e3 : W1 = va_up ww 0 (w + max (a - w) 7) := by rw [hW1, hKK, show filK w a = w + max (a - w) 7 from if_pos hwa]
      exact tail _ _ ls (by rw [e1, e2, e3]; exact hP) (by rw [e1, e2, e3]; exact hD) hS (lv_sub hl [0, 1, 2, 3, 4] rfl)
    · have h7 : ¬ a - w ≤ 7 := fun t => q2 (nI_le (b := 7) t (by decide))
      refine lv_iload hx hb dX3_frame_86 (lv_at hl 0 rfl) ?_
      refine lv_aload_n hx hb dX3_frame_88 rfl (lv_at hl 3 rfl) ?_
      refine va_get (D := D) (ci := 3) (v := .ref wa) hx hb hts iX3 hown hK hP 0 rfl rfl 6 (by decide) lk20 (fun _ h => h) rfl dX3_frame_89 ?_
      refine lv_iload_n hx hb dX3_frame_92 rfl (lv_at hl 2 rfl) ?_
      refine al_i (k := 0) hx hb hK hP 3 0 rfl rfl (by decide) (by decide) dX3_frame_93 ?_
      refine tp_i (y := nI w) (congrArg nI hw) ?_
      refine lv_isub hx hb dX3_frame_94 ?_
      refine tp_i (y := nI (max (a - w) 7)) (by rw [show max (a - w) 7 = a - w by omega]; exact pk_sub (by omega)) ?_
      refine lv_goto (tgt := 100) hx hb dX3_frame_95 (by decide) ?_
      refine cl0_vv ⟨hx, hb, hml, hown, hts⟩ (c_m_fills l D cA cB cZ y len tp bb zz wa fs fm mk fk bf zf ww 0 w (max (a - w) 7) (by decide) hw (by omega) (by omega)) (cwV 2 hts (gM_fills _) rfl rfl rfl (by decide +kernel) ⟨Nat.le_of_ble_eq_true rfl, Nat.le_of_ble_eq_true rfl⟩) (ci := 3) (q0 := 0) rfl rfl hN hK hP hD hS hA [0, 1, 2, 3] [4, 5] [2, 3, 4, 5, 0, 1] [(fs, .inl (cA, 4, .inl mf)), (fm, .inl (cB, 256, .inl ff))] [(y, .inr (3, [.int 0, .int (nI len), .ref tp, .int (nI mk), .ref bb, .ref zz, .ref wa, .ref fs, .ref fm, .int (nI fk)])), (bb, .inl (cB, 8400, .inl (lwr bf (4200 * 0 + w) (emb (max (a - w) 7)) (max (a - w) 7)))), (zz, .inl (cZ, 8400, .inl (lwr zf (4200 * 0 + w) emz (max (a - w) 7)))), (wa, .inl (cA, 2, .inl (wI (va_up ww 0 (w + (max (a - w) 7)))))), (fs, .inl (cA, 4, .inl mf)), (fm, .inl (cB, 256, .inl ff))] [] rfl rfl rfl rfl (by decide) rfl rfl rfl hl.1 rfl (Nat.le_of_ble_eq_true rfl) dX3_frame_100 ⟨Nat.le_of_ble_eq_true rfl, Nat.le_of_ble_eq_true rfl⟩ (fun H locs hP hD hS => ?_)
      have e1 : B1 = lwr bf (4200 * 0 + w) (emb (max (a - w) 7)) (max (a - w) 7) := by rw [hB1]; exact if_pos hwa
      have e2 : Z1 = lwr zf (4200 * 0 + w) emz (max (a - w) 7) := by rw [hZ1]; exact if_pos hwa
      have e3 : W1 = va_up ww 0 (w + max (a - w) 7) := by rw [hW1, hKK, show filK w a = w + max (a - w) 7 from if_pos hwa]
      exact tail _ _ ls (by rw [e1, e2, e3]; exact hP) (by rw [e1, e2, e3]; exact hD) hS (lv_sub hl [0, 1, 2, 3, 4] rfl)

set_option maxHeartbeats 4000000 in
set_option maxRecDepth 100000 in
/-- frame -/
theorem c_m_frame1 (l : Launch) (D : va_G) (cA cB cZ : ClassId) (a : Nat) (y len tp bb zz wa fs fm mk fk : Nat) (bf zf : Nat → Int32) (ww : Nat → Nat) (mf ff : Nat → Int32) (word : Int32) (hlen : len = a + 12) (hla : len ≤ 256) (w : Nat) (hw : ww 1 = w) (hw2 : w ≤ 4096) (hz : ww 0 = 0) (hy : 0 < ww 1) : MI0 l yX3_frame wsM_frame { frames := 2, cells := 0, slots := 0, locals := 50 } [.ref y, .int word] D [(cA, .int), (cB, .byte), (cZ, .boolean)] [(y, .inr (3, [.int 0, .int (nI len), .ref tp, .int (nI mk), .ref bb, .ref zz, .ref wa, .ref fs, .ref fm, .int (nI fk)])), (bb, .inl (cB, 8400, .inl bf)), (zz, .inl (cZ, 8400, .inl zf)), (wa, .inl (cA, 2, .inl (wI ww))), (fs, .inl (cA, 4, .inl mf)), (fm, .inl (cB, 256, .inl ff))] 1 [(y, .inr (3, [.int 0, .int (nI len), .ref tp, .int (nI mk), .ref bb, .ref zz, .ref wa, .ref fs, .ref fm, .int (nI len)])), (bb, .inl (cB, 8400, .inl (lwr (mfB bf 1 w a) (4200 * 1) (fun i => i8 ((mfB bf 1 w a) (4200 * 1 + i + a))) (filK w a - a)))), (zz, .inl (cZ, 8400, .inl (lwr (mfZ zf 1 w a) (4200 * 1) (fun i => (mfZ zf 1 w a) (4200 * 1 + i + a) &&& 1) (filK w a - a)))), (wa, .inl (cA, 2, .inl (wI (va_up ww 1 (filK w a - a))))), (fs, .inl (cA, 4, .inl (cnt2 mf 2))), (fm, .inl (cB, 256, .inl (mL ff mf (nI 1) 2 (fbM (mfZ zf 1 w a) (4200 * 1) a 0) (fun i => i8 ((mfB bf 1 w a) (4200 * 1 + i))) a word)))] := by
  refine mt_i (by decide) rfl (Nat.le_of_ble_eq_true rfl) ?_
  intro p e s m below meth c A ls Q hx hb hts hown hml hin hN hK hA hP hD hS hl hex
  have hown : s.vm.findClass RX3 = some m.cls := hown
  have hl : lv_has ls 7 [(0, .ref y), (1, .int word)] := hl
  have iX3 : ∀ w ∈ wsX30, w ∈ wsM_frame := by decide +kernel
  have lk13 := hts (.fieldLink RX3 13 "DownFramesModel" "bytes" "[B") (by decide +kernel)
  have lk20 := hts (.fieldLink RX3 20 "DownFramesModel" "waits" "[I") (by decide +kernel)
  have lk24 := hts (.fieldLink RX3 24 "DownFramesModel" "frames" "[I") (by decide +kernel)
  have lk30 := hts (.fieldLink RX3 30 "DownFramesModel" "length" "I") (by decide +kernel)
  have lk34 := hts (.fieldLink RX3 34 "DownFramesModel" "thrown" "I") (by decide +kernel)
  have lk44 := hts (.fieldLink RX3 44 "DownFramesModel" "filled" "I") (by decide +kernel)
  refine lv_aload_n hx hb dX3_frame_0 rfl (lv_at hl 0 rfl) ?_
  refine lv_iconst (v := 0) hx hb dX3_frame_1 (by decide) ?_
  refine va_put (D := D) (ci := 3) (v := .int 0) (ty := (.int)) hx hb hts iX3 tyX3 tyX3_ok nmX3 hown hK hP hD hS 0 rfl rfl 0 (by decide) lk34 (fun _ h => h) rfl (by decide +kernel) rfl rfl (Nat.le_of_ble_eq_true rfl) dX3_frame_2 (fun H locs hP hD hS => ?_)
  have hP : va_P D vwCl [(y, .inr (3, [.int 0, .int (nI len), .ref tp, .int (nI mk), .ref bb, .ref zz, .ref wa, .ref fs, .ref fm, .int (nI fk)])), (bb, .inl (cB, 8400, .inl bf)), (zz, .inl (cZ, 8400, .inl zf)), (wa, .inl (cA, 2, .inl (wI ww))), (fs, .inl (cA, 4, .inl mf)), (fm, .inl (cB, 256, .inl ff))] H := hP
  have hD : va_D A [(y, .inr (3, [.int 0, .int (nI len), .ref tp, .int (nI mk), .ref bb, .ref zz, .ref wa, .ref fs, .ref fm, .int (nI fk)])), (bb, .inl (cB, 8400, .inl bf)), (zz, .inl (cZ, 8400, .inl zf)), (wa, .inl (cA, 2, .inl (wI ww))), (fs, .inl (cA, 4, .inl mf)), (fm, .inl (cB, 256, .inl ff))] := hD
  refine lv_aload_n hx hb dX3_frame_5 rfl (lv_at hl 0 rfl) ?_
  refine va_get (D := D) (ci := 3) (v := .ref wa) hx hb hts iX3 hown hK hP 0 rfl rfl 6 (by decide) lk20 (fun _ h => h) rfl dX3_frame_6 ?_
  refine lv_iconst (v := 0) hx hb dX3_frame_9 (by decide) ?_
  refine tp_i (y := nI 0) (rfl) ?_
  refine al_i (k := 0) hx hb hK hP 3 0 rfl rfl (by decide) (by decide) dX3_frame_10 ?_
  refine tp_i (y := nI (ww 0)) (rfl) ?_
  refine lv_if_le (tgt := 18) hx hb dX3_frame_11 (by decide) (fun _ => ?_) (fun cc => absurd (by rw [hz]; decide) cc)
  refine lv_aload_n hx hb dX3_frame_18 rfl (lv_at hl 0 rfl) ?_
  refine va_get (D := D) (ci := 3) (v := .ref wa) hx hb hts iX3 hown hK hP 0 rfl rfl 6 (by decide) lk20 (fun _ h => h) rfl dX3_frame_19 ?_
  refine lv_iconst (v := 1) hx hb dX3_frame_22 (by decide) ?_
  refine tp_i (y := nI 1) (rfl) ?_
  refine al_i (k := 1) hx hb hK hP 3 0 rfl rfl (by decide) (by decide) dX3_frame_23 ?_
  refine tp_i (y := nI (ww 1)) (rfl) ?_
  refine lv_if_le (tgt := 31) hx hb dX3_frame_24 (by decide) (fun cc => absurd cc (nI_nle hy (by omega))) (fun _ => ?_)
  refine lv_iconst (v := 1) hx hb dX3_frame_27 (by decide) ?_
  refine lv_goto (tgt := 32) hx hb dX3_frame_28 (by decide) ?_
  refine tp_i (y := nI 1) (rfl) ?_
  refine lv_istore_n (lv' := [(2, .int (nI 1)), (0, .ref y), (1, .int word)]) hx hb dX3_frame_32 rfl hl (by decide) rfl (fun ls hl => ?_)
  refine lv_iload_n hx hb dX3_frame_33 rfl (lv_at hl 0 rfl) ?_
  refine lv_iconst (v := 2) hx hb dX3_frame_34 (by decide) ?_
  refine lv_icmp_ne (tgt := 43) hx hb dX3_frame_35 (by decide) (fun _ => ?_) (fun cc => absurd cc (by decide))
  refine lv_iload_n hx hb dX3_frame_43 rfl (lv_at hl 0 rfl) ?_
  refine lv_istore_n (lv' := [(3, .int (nI 1)), (2, .int (nI 1)), (0, .ref y), (1, .int word)]) hx hb dX3_frame_44 rfl hl (by decide) rfl (fun ls hl => ?_)
  refine lv_aload_n hx hb dX3_frame_45 rfl (lv_at hl 2 rfl) ?_
  refine va_get (D := D) (ci := 3) (v := .int (nI len)) hx hb hts iX3 hown hK hP 0 rfl rfl 1 (by decide) lk30 (fun _ h => h) rfl dX3_frame_46 ?_
  refine lv_bipush (v := 12) hx hb dX3_frame_49 (by decide +kernel) ?_
  refine lv_isub hx hb dX3_frame_51 ?_
  refine tp_i (y := nI a) (by rw [hlen, show (12 : Int32) = nI 12 from rfl, pk_sub (by omega)]; congr 1) ?_
  refine lv_istore (lv' := [(4, .int (nI a)), (3, .int (nI 1)), (2, .int (nI 1)), (0, .ref y), (1, .int word)]) hx hb dX3_frame_52 hl (by decide) rfl (fun ls hl => ?_)
  refine lv_iload_n hx hb dX3_frame_54 rfl (lv_at hl 2 rfl) ?_
  refine lv_iconst (v := 2) hx hb dX3_frame_55 (by decide) ?_
  obtain ⟨B1, hB1⟩ : ∃ B, B = mfB bf 1 w a := ⟨_, rfl⟩
  obtain ⟨Z1, hZ1⟩ : ∃ B, B = mfZ zf 1 w a := ⟨_, rfl⟩
  obtain ⟨K, hKK⟩ : ∃ K, K = filK w a := ⟨_, rfl⟩
  obtain ⟨W1, hW1⟩ : ∃ B, B = va_up ww 1 K := ⟨_, rfl⟩
  have hKa : a ≤ K := by rw [hKK]; exact filK_ge _ _
  have hKm : K ≤ 4096 := by rw [hKK]; exact filK_le _ _ hw2 (by omega)
  have hWc : W1 1 = K := by rw [hW1]; simp [va_up]
  have tail : ∀ (H : Heap) (locs : List Loc) (ls : Array Slot), va_P D vwCl [(y, .inr (3, [.int 0, .int (nI len), .ref tp, .int (nI mk), .ref bb, .ref zz, .ref wa, .ref fs, .ref fm, .int (nI fk)])), (bb, .inl (cB, 8400, .inl B1)), (zz, .inl (cZ, 8400, .inl Z1)), (wa, .inl (cA, 2, .inl (wI W1))), (fs, .inl (cA, 4, .inl mf)), (fm, .inl (cB, 256, .inl ff))] H → va_D A [(y, .inr (3, [.int 0, .int (nI len), .ref tp, .int (nI mk), .ref bb, .ref zz, .ref wa, .ref fs, .ref fm, .int (nI fk)])), (bb, .inl (cB, 8400, .inl B1)), (zz, .inl (cZ, 8400, .inl Z1)), (wa, .inl (cA, 2, .inl (wI W1))), (fs, .inl (cA, 4, .inl mf)), (fm, .inl (cB, 256, .inl ff))] → va_S A s.heap H locs → lv_has ls 7 [(4, .int (nI a)), (3, .int (nI 1)), (2, .int (nI 1)), (0, .ref y), (1, .int word)] → W p l e ({ frames := 2, cells := 0, slots := 0, locals := 50 } : Room) s m ([.ref y, .int word] : List Value).toArray below meth c H locs 0 0 Q (F0 m 103 ls []) := by
    intro H locs ls hP hD hS hl
    refine lv_iload_n hx hb dX3_frame_103 rfl (lv_at hl 2 rfl) ?_
    refine lv_iconst (v := 2) hx hb dX3_frame_104 (by decide) ?_
    refine lv_icmp_ne (tgt := 114) hx hb dX3_frame_105 (by decide) (fun _ => ?_) (fun cc => absurd cc (by decide))
    refine lv_aload_n hx hb dX3_frame_114 rfl (lv_at hl 3 rfl) ?_
    refine lv_iload_n hx hb dX3_frame_115 rfl (lv_at hl 2 rfl) ?_
    refine lv_iload hx hb dX3_frame_116 (lv_at hl 0 rfl) ?_
    refine cl0_vi ⟨hx, hb, hml, hown, hts⟩ (c_m_first l D cA cB cZ y len tp bb zz wa fs fm mk fk Z1 1 a (by decide) (by omega)) (cwV 2 hts (gM_first _) rfl rfl rfl (by decide +kernel) ⟨Nat.le_of_ble_eq_true rfl, Nat.le_of_ble_eq_true rfl⟩) (ci := 3) (q0 := 0) rfl rfl hN hK hP hD hS hA [0, 2] [1, 3, 4, 5] [4, 0, 5, 1, 2, 3] [(bb, .inl (cB, 8400, .inl B1)), (wa, .inl (cA, 2, .inl (wI W1))), (fs, .inl (cA, 4, .inl mf)), (fm, .inl (cB, 256, .inl ff))] [(y, .inr (3, [.int 0, .int (nI len), .ref tp, .int (nI mk), .ref bb, .ref zz, .ref wa, .ref fs, .ref fm, .int (nI fk)])), (bb, .inl (cB, 8400, .inl B1)), (zz, .inl (cZ, 8400, .inl Z1)), (wa, .inl (cA, 2, .inl (wI W1))), (fs, .inl (cA, 4, .inl mf)), (fm, .inl (cB, 256, .inl ff))] [] rfl rfl rfl rfl (by decide) rfl rfl rfl hl.1 rfl (Nat.le_of_ble_eq_true rfl) dX3_frame_118 ⟨Nat.le_of_ble_eq_true rfl, Nat.le_of_ble_eq_true rfl⟩ (fun H locs hP hD hS => ?_)
    refine lv_istore (lv' := [(5, .int (fbM Z1 (4200 * 1) a 0)), (4, .int (nI a)), (3, .int (nI 1)), (2, .int (nI 1)), (0, .ref y), (1, .int word)]) hx hb dX3_frame_121 hl (by decide) rfl (fun ls hl => ?_)
    refine lv_aload_n hx hb dX3_frame_123 rfl (lv_at hl 4 rfl) ?_
    refine lv_iconst (v := 0) hx hb dX3_frame_124 (by decide) ?_
    refine va_put (D := D) (ci := 3) (v := .int 0) (ty := (.int)) hx hb hts iX3 tyX3 tyX3_ok nmX3 hown hK hP hD hS 0 rfl rfl 9 (by decide) lk44 (fun _ h => h) rfl (by decide +kernel) rfl rfl (Nat.le_of_ble_eq_true rfl) dX3_frame_125 (fun H locs hP hD hS => ?_)
    have hP : va_P D vwCl [(y, .inr (3, [.int 0, .int (nI len), .ref tp, .int (nI mk), .ref bb, .ref zz, .ref wa, .ref fs, .ref fm, .int 0])), (bb, .inl (cB, 8400, .inl B1)), (zz, .inl (cZ, 8400, .inl Z1)), (wa, .inl (cA, 2, .inl (wI W1))), (fs, .inl (cA, 4, .inl mf)), (fm, .inl (cB, 256, .inl ff))] H := hP
    have hD : va_D A [(y, .inr (3, [.int 0, .int (nI len), .ref tp, .int (nI mk), .ref bb, .ref zz, .ref wa, .ref fs, .ref fm, .int 0])), (bb, .inl (cB, 8400, .inl B1)), (zz, .inl (cZ, 8400, .inl Z1)), (wa, .inl (cA, 2, .inl (wI W1))), (fs, .inl (cA, 4, .inl mf)), (fm, .inl (cB, 256, .inl ff))] := hD
    have hP : va_P D vwCl [(y, .inr (3, [.int 0, .int (nI len), .ref tp, .int (nI mk), .ref bb, .ref zz, .ref wa, .ref fs, .ref fm, .int (nI 0)])), (bb, .inl (cB, 8400, .inl B1)), (zz, .inl (cZ, 8400, .inl Z1)), (wa, .inl (cA, 2, .inl (wI W1))), (fs, .inl (cA, 4, .inl mf)), (fm, .inl (cB, 256, .inl ff))] H := hP
    have hD : va_D A [(y, .inr (3, [.int 0, .int (nI len), .ref tp, .int (nI mk), .ref bb, .ref zz, .ref wa, .ref fs, .ref fm, .int (nI 0)])), (bb, .inl (cB, 8400, .inl B1)), (zz, .inl (cZ, 8400, .inl Z1)), (wa, .inl (cA, 2, .inl (wI W1))), (fs, .inl (cA, 4, .inl mf)), (fm, .inl (cB, 256, .inl ff))] := hD
    refine lv_aload_n hx hb dX3_frame_128 rfl (lv_at hl 4 rfl) ?_
    refine lv_bipush (v := 21) hx hb dX3_frame_129 (by decide +kernel) ?_
    refine cl0_vv ⟨hx, hb, hml, hown, hts⟩ (c_m_add l D cA cB cZ y len tp bb zz wa fs fm mk 0 (ff) 21 (by omega)) (cwV 1 hts (gM_add _) rfl rfl rfl (by decide +kernel) ⟨Nat.le_of_ble_eq_true rfl, Nat.le_of_ble_eq_true rfl⟩) (ci := 3) (q0 := 0) rfl rfl hN hK hP hD hS hA [0, 5] [1, 2, 3, 4] [4, 0, 1, 2, 3, 5] [(bb, .inl (cB, 8400, .inl B1)), (zz, .inl (cZ, 8400, .inl Z1)), (wa, .inl (cA, 2, .inl (wI W1))), (fs, .inl (cA, 4, .inl mf))] [(y, .inr (3, [.int 0, .int (nI len), .ref tp, .int (nI mk), .ref bb, .ref zz, .ref wa, .ref fs, .ref fm, .int (nI 1)])), (bb, .inl (cB, 8400, .inl B1)), (zz, .inl (cZ, 8400, .inl Z1)), (wa, .inl (cA, 2, .inl (wI W1))), (fs, .inl (cA, 4, .inl mf)), (fm, .inl (cB, 256, .inl (upd ff 0 (i8 21))))] [] rfl rfl rfl rfl (by decide) rfl rfl rfl hl.1 rfl (Nat.le_of_ble_eq_true rfl) dX3_frame_131 ⟨Nat.le_of_ble_eq_true rfl, Nat.le_of_ble_eq_true rfl⟩ (fun H locs hP hD hS => ?_)
    refine lv_aload_n hx hb dX3_frame_134 rfl (lv_at hl 4 rfl) ?_
    refine lv_sipush (v := 160) hx hb dX3_frame_135 (by decide +kernel) ?_
    refine lv_iconst (v := 2) hx hb dX3_frame_138 (by decide) ?_
    refine lv_iload_n hx hb dX3_frame_139 rfl (lv_at hl 2 rfl) ?_
    refine lv_imul hx hb dX3_frame_140 ?_
    refine lv_iadd hx hb dX3_frame_141 ?_
    refine lv_iconst (v := 1) hx hb dX3_frame_142 (by decide) ?_
    refine lv_iadd hx hb dX3_frame_143 ?_
    refine cl0_vv ⟨hx, hb, hml, hown, hts⟩ (c_m_add l D cA cB cZ y len tp bb zz wa fs fm mk 1 (upd ff 0 (i8 21)) ((160 + (2 * (nI 1))) + 1) (by omega)) (cwV 1 hts (gM_add _) rfl rfl rfl (by decide +kernel) ⟨Nat.le_of_ble_eq_true rfl, Nat.le_of_ble_eq_true rfl⟩) (ci := 3) (q0 := 0) rfl rfl hN hK hP hD hS hA [0, 5] [1, 2, 3, 4] [4, 0, 1, 2, 3, 5] [(bb, .inl (cB, 8400, .inl B1)), (zz, .inl (cZ, 8400, .inl Z1)), (wa, .inl (cA, 2, .inl (wI W1))), (fs, .inl (cA, 4, .inl mf))] [(y, .inr (3, [.int 0, .int (nI len), .ref tp, .int (nI mk), .ref bb, .ref zz, .ref wa, .ref fs, .ref fm, .int (nI 2)])), (bb, .inl (cB, 8400, .inl B1)), (zz, .inl (cZ, 8400, .inl Z1)), (wa, .inl (cA, 2, .inl (wI W1))), (fs, .inl (cA, 4, .inl mf)), (fm, .inl (cB, 256, .inl (upd (upd ff 0 (i8 21)) 1 (i8 ((160 + (2 * (nI 1))) + 1)))))] [] rfl rfl rfl rfl (by decide) rfl rfl rfl hl.1 rfl (Nat.le_of_ble_eq_true rfl) dX3_frame_144 ⟨Nat.le_of_ble_eq_true rfl, Nat.le_of_ble_eq_true rfl⟩ (fun H locs hP hD hS => ?_)
    refine lv_aload_n hx hb dX3_frame_147 rfl (lv_at hl 4 rfl) ?_
    refine lv_aload_n hx hb dX3_frame_148 rfl (lv_at hl 4 rfl) ?_
    refine va_get (D := D) (ci := 3) (v := .ref fs) hx hb hts iX3 hown hK hP 0 rfl rfl 7 (by decide) lk24 (fun _ h => h) rfl dX3_frame_149 ?_
    refine lv_iconst (v := 0) hx hb dX3_frame_152 (by decide) ?_
    refine tp_i (y := nI 0) (rfl) ?_
    refine al_i (k := 0) hx hb hK hP 4 0 rfl rfl (by decide) (by decide) dX3_frame_153 ?_
    refine cl0_vv ⟨hx, hb, hml, hown, hts⟩ (c_m_add l D cA cB cZ y len tp bb zz wa fs fm mk 2 (upd (upd ff 0 (i8 21)) 1 (i8 ((160 + (2 * (nI 1))) + 1))) (mf 0) (by omega)) (cwV 1 hts (gM_add _) rfl rfl rfl (by decide +kernel) ⟨Nat.le_of_ble_eq_true rfl, Nat.le_of_ble_eq_true rfl⟩) (ci := 3) (q0 := 0) rfl rfl hN hK hP hD hS hA [0, 5] [1, 2, 3, 4] [4, 0, 1, 2, 3, 5] [(bb, .inl (cB, 8400, .inl B1)), (zz, .inl (cZ, 8400, .inl Z1)), (wa, .inl (cA, 2, .inl (wI W1))), (fs, .inl (cA, 4, .inl mf))] [(y, .inr (3, [.int 0, .int (nI len), .ref tp, .int (nI mk), .ref bb, .ref zz, .ref wa, .ref fs, .ref fm, .int (nI 3)])), (bb, .inl (cB, 8400, .inl B1)), (zz, .inl (cZ, 8400, .inl Z1)), (wa, .inl (cA, 2, .inl (wI W1))), (fs, .inl (cA, 4, .inl mf)), (fm, .inl (cB, 256, .inl (upd (upd (upd ff 0 (i8 21)) 1 (i8 ((160 + (2 * (nI 1))) + 1))) 2 (i8 (mf 0)))))] [] rfl rfl rfl rfl (by decide) rfl rfl rfl hl.1 rfl (Nat.le_of_ble_eq_true rfl) dX3_frame_154 ⟨Nat.le_of_ble_eq_true rfl, Nat.le_of_ble_eq_true rfl⟩ (fun H locs hP hD hS => ?_)
    refine lv_aload_n hx hb dX3_frame_157 rfl (lv_at hl 4 rfl) ?_
    refine lv_aload_n hx hb dX3_frame_158 rfl (lv_at hl 4 rfl) ?_
    refine va_get (D := D) (ci := 3) (v := .ref fs) hx hb hts iX3 hown hK hP 0 rfl rfl 7 (by decide) lk24 (fun _ h => h) rfl dX3_frame_159 ?_
    refine lv_iconst (v := 1) hx hb dX3_frame_162 (by decide) ?_
    refine lv_iload_n hx hb dX3_frame_163 rfl (lv_at hl 3 rfl) ?_
    refine lv_iadd hx hb dX3_frame_164 ?_
    refine tp_i (y := nI 2) (by decide) ?_
    refine al_i (k := 2) hx hb hK hP 4 0 rfl rfl (by decide) (by decide) dX3_frame_165 ?_
    refine cl0_vv ⟨hx, hb, hml, hown, hts⟩ (c_m_add l D cA cB cZ y len tp bb zz wa fs fm mk 3 (upd (upd (upd ff 0 (i8 21)) 1 (i8 ((160 + (2 * (nI 1))) + 1))) 2 (i8 (mf 0))) (mf 2) (by omega)) (cwV 1 hts (gM_add _) rfl rfl rfl (by decide +kernel) ⟨Nat.le_of_ble_eq_true rfl, Nat.le_of_ble_eq_true rfl⟩) (ci := 3) (q0 := 0) rfl rfl hN hK hP hD hS hA [0, 5] [1, 2, 3, 4] [4, 0, 1, 2, 3, 5] [(bb, .inl (cB, 8400, .inl B1)), (zz, .inl (cZ, 8400, .inl Z1)), (wa, .inl (cA, 2, .inl (wI W1))), (fs, .inl (cA, 4, .inl mf))] [(y, .inr (3, [.int 0, .int (nI len), .ref tp, .int (nI mk), .ref bb, .ref zz, .ref wa, .ref fs, .ref fm, .int (nI 4)])), (bb, .inl (cB, 8400, .inl B1)), (zz, .inl (cZ, 8400, .inl Z1)), (wa, .inl (cA, 2, .inl (wI W1))), (fs, .inl (cA, 4, .inl mf)), (fm, .inl (cB, 256, .inl (upd (upd (upd (upd ff 0 (i8 21)) 1 (i8 ((160 + (2 * (nI 1))) + 1))) 2 (i8 (mf 0))) 3 (i8 (mf 2)))))] [] rfl rfl rfl rfl (by decide) rfl rfl rfl hl.1 rfl (Nat.le_of_ble_eq_true rfl) dX3_frame_166 ⟨Nat.le_of_ble_eq_true rfl, Nat.le_of_ble_eq_true rfl⟩ (fun H locs hP hD hS => ?_)
    refine lv_aload_n hx hb dX3_frame_169 rfl (lv_at hl 4 rfl) ?_
    refine lv_bipush (v := 24) hx hb dX3_frame_170 (by decide +kernel) ?_
    refine lv_iload hx hb dX3_frame_172 (lv_at hl 0 rfl) ?_
    refine lv_sipush (v := 256) hx hb dX3_frame_174 (by decide +kernel) ?_
    refine lv_idiv hx hb dX3_frame_177 (by decide) ?_
    refine lv_iadd hx hb dX3_frame_178 ?_
    refine cl0_vv ⟨hx, hb, hml, hown, hts⟩ (c_m_add l D cA cB cZ y len tp bb zz wa fs fm mk 4 (upd (upd (upd (upd ff 0 (i8 21)) 1 (i8 ((160 + (2 * (nI 1))) + 1))) 2 (i8 (mf 0))) 3 (i8 (mf 2))) (24 + ((fbM Z1 (4200 * 1) a 0) / 256)) (by omega)) (cwV 1 hts (gM_add _) rfl rfl rfl (by decide +kernel) ⟨Nat.le_of_ble_eq_true rfl, Nat.le_of_ble_eq_true rfl⟩) (ci := 3) (q0 := 0) rfl rfl hN hK hP hD hS hA [0, 5] [1, 2, 3, 4] [4, 0, 1, 2, 3, 5] [(bb, .inl (cB, 8400, .inl B1)), (zz, .inl (cZ, 8400, .inl Z1)), (wa, .inl (cA, 2, .inl (wI W1))), (fs, .inl (cA, 4, .inl mf))] [(y, .inr (3, [.int 0, .int (nI len), .ref tp, .int (nI mk), .ref bb, .ref zz, .ref wa, .ref fs, .ref fm, .int (nI 5)])), (bb, .inl (cB, 8400, .inl B1)), (zz, .inl (cZ, 8400, .inl Z1)), (wa, .inl (cA, 2, .inl (wI W1))), (fs, .inl (cA, 4, .inl mf)), (fm, .inl (cB, 256, .inl (upd (upd (upd (upd (upd ff 0 (i8 21)) 1 (i8 ((160 + (2 * (nI 1))) + 1))) 2 (i8 (mf 0))) 3 (i8 (mf 2))) 4 (i8 (24 + ((fbM Z1 (4200 * 1) a 0) / 256))))))] [] rfl rfl rfl rfl (by decide) rfl rfl rfl hl.1 rfl (Nat.le_of_ble_eq_true rfl) dX3_frame_179 ⟨Nat.le_of_ble_eq_true rfl, Nat.le_of_ble_eq_true rfl⟩ (fun H locs hP hD hS => ?_)
    refine lv_aload_n hx hb dX3_frame_182 rfl (lv_at hl 4 rfl) ?_
    refine lv_iload hx hb dX3_frame_183 (lv_at hl 0 rfl) ?_
    refine cl0_vv ⟨hx, hb, hml, hown, hts⟩ (c_m_add l D cA cB cZ y len tp bb zz wa fs fm mk 5 (upd (upd (upd (upd (upd ff 0 (i8 21)) 1 (i8 ((160 + (2 * (nI 1))) + 1))) 2 (i8 (mf 0))) 3 (i8 (mf 2))) 4 (i8 (24 + ((fbM Z1 (4200 * 1) a 0) / 256)))) (fbM Z1 (4200 * 1) a 0) (by omega)) (cwV 1 hts (gM_add _) rfl rfl rfl (by decide +kernel) ⟨Nat.le_of_ble_eq_true rfl, Nat.le_of_ble_eq_true rfl⟩) (ci := 3) (q0 := 0) rfl rfl hN hK hP hD hS hA [0, 5] [1, 2, 3, 4] [4, 0, 1, 2, 3, 5] [(bb, .inl (cB, 8400, .inl B1)), (zz, .inl (cZ, 8400, .inl Z1)), (wa, .inl (cA, 2, .inl (wI W1))), (fs, .inl (cA, 4, .inl mf))] [(y, .inr (3, [.int 0, .int (nI len), .ref tp, .int (nI mk), .ref bb, .ref zz, .ref wa, .ref fs, .ref fm, .int (nI 6)])), (bb, .inl (cB, 8400, .inl B1)), (zz, .inl (cZ, 8400, .inl Z1)), (wa, .inl (cA, 2, .inl (wI W1))), (fs, .inl (cA, 4, .inl mf)), (fm, .inl (cB, 256, .inl (mA ff mf (nI 1) 2 (fbM Z1 (4200 * 1) a 0))))] [] rfl rfl rfl rfl (by decide) rfl rfl rfl hl.1 rfl (Nat.le_of_ble_eq_true rfl) dX3_frame_185 ⟨Nat.le_of_ble_eq_true rfl, Nat.le_of_ble_eq_true rfl⟩ (fun H locs hP hD hS => ?_)
    refine lv_iconst (v := 0) hx hb dX3_frame_188 (by decide) ?_
    refine lv_istore (lv' := [(6, .int 0), (5, .int (fbM Z1 (4200 * 1) a 0)), (4, .int (nI a)), (3, .int (nI 1)), (2, .int (nI 1)), (0, .ref y), (1, .int word)]) hx hb dX3_frame_189 hl (by decide) rfl (fun ls hl => ?_)
    have loop : ∀ (d j : Nat) (H : Heap) (locs : List Loc) (ls : Array Slot), j + d = a → va_P D vwCl [(y, .inr (3, [.int 0, .int (nI len), .ref tp, .int (nI mk), .ref bb, .ref zz, .ref wa, .ref fs, .ref fm, .int (nI (6 + j))])), (bb, .inl (cB, 8400, .inl B1)), (zz, .inl (cZ, 8400, .inl Z1)), (wa, .inl (cA, 2, .inl (wI W1))), (fs, .inl (cA, 4, .inl mf)), (fm, .inl (cB, 256, .inl (lwr (mA ff mf (nI 1) 2 (fbM Z1 (4200 * 1) a 0)) 6 (fun i => i8 (B1 (4200 * 1 + i))) j)))] H → va_D A [(y, .inr (3, [.int 0, .int (nI len), .ref tp, .int (nI mk), .ref bb, .ref zz, .ref wa, .ref fs, .ref fm, .int (nI (6 + j))])), (bb, .inl (cB, 8400, .inl B1)), (zz, .inl (cZ, 8400, .inl Z1)), (wa, .inl (cA, 2, .inl (wI W1))), (fs, .inl (cA, 4, .inl mf)), (fm, .inl (cB, 256, .inl (lwr (mA ff mf (nI 1) 2 (fbM Z1 (4200 * 1) a 0)) 6 (fun i => i8 (B1 (4200 * 1 + i))) j)))] → va_S A s.heap H locs → lv_has ls 7 [(6, .int (nI j)), (5, .int (fbM Z1 (4200 * 1) a 0)), (4, .int (nI a)), (3, .int (nI 1)), (2, .int (nI 1)), (0, .ref y), (1, .int word)] → W p l e ({ frames := 2, cells := 0, slots := 0, locals := 50 } : Room) s m ([.ref y, .int word] : List Value).toArray below meth c H locs 0 0 Q (F0 m 191 ls []) := by
      intro d
      induction d with
      | zero =>
        intro j H locs ls hj hP hD hS hl
        have hj : j = a := hj
        rw [hj] at hP hD hl
        refine lv_iload hx hb dX3_frame_191 (lv_at hl 0 rfl) ?_
        refine lv_iload hx hb dX3_frame_193 (lv_at hl 2 rfl) ?_
        refine lv_icmp_ge (tgt := 231) hx hb dX3_frame_195 (by decide) (fun _ => ?_) (fun cc => absurd (nI_le (Nat.le_refl _) (by omega)) cc)
        refine lv_bipush (v := 24) hx hb dX3_frame_231 (by decide +kernel) ?_
        refine lv_istore (lv' := [(6, .int 24), (5, .int (fbM Z1 (4200 * 1) a 0)), (4, .int (nI a)), (3, .int (nI 1)), (2, .int (nI 1)), (0, .ref y), (1, .int word)]) hx hb dX3_frame_233 hl (by decide) rfl (fun ls hl => ?_)
        refine lv_iload hx hb dX3_frame_235 (lv_at hl 0 rfl) ?_
        refine lv_if_lt (tgt := 254) hx hb dX3_frame_237 (by decide) (fun cc => absurd cc (by decide)) (fun _ => ?_)
        refine lv_aload_n hx hb dX3_frame_240 rfl (lv_at hl 5 rfl) ?_
        refine lv_iload_n hx hb dX3_frame_241 rfl (lv_at hl 6 rfl) ?_
        refine lv_iload hx hb dX3_frame_242 (lv_at hl 0 rfl) ?_
        refine lv_ishr hx hb dX3_frame_244 ?_
        refine cl0_vv ⟨hx, hb, hml, hown, hts⟩ (c_m_add l D cA cB cZ y len tp bb zz wa fs fm mk (6 + a) (lwr (mA ff mf (nI 1) 2 (fbM Z1 (4200 * 1) a 0)) 6 (fun i => i8 (B1 (4200 * 1 + i))) a) (sra word 24) (by omega)) (cwV 1 hts (gM_add _) rfl rfl rfl (by decide +kernel) ⟨Nat.le_of_ble_eq_true rfl, Nat.le_of_ble_eq_true rfl⟩) (ci := 3) (q0 := 0) rfl rfl hN hK hP hD hS hA [0, 5] [1, 2, 3, 4] [4, 0, 1, 2, 3, 5] [(bb, .inl (cB, 8400, .inl B1)), (zz, .inl (cZ, 8400, .inl Z1)), (wa, .inl (cA, 2, .inl (wI W1))), (fs, .inl (cA, 4, .inl mf))] [(y, .inr (3, [.int 0, .int (nI len), .ref tp, .int (nI mk), .ref bb, .ref zz, .ref wa, .ref fs, .ref fm, .int (nI (6 + a + 1))])), (bb, .inl (cB, 8400, .inl B1)), (zz, .inl (cZ, 8400, .inl Z1)), (wa, .inl (cA, 2, .inl (wI W1))), (fs, .inl (cA, 4, .inl mf)), (fm, .inl (cB, 256, .inl (upd (lwr (mA ff mf (nI 1) 2 (fbM Z1 (4200 * 1) a 0)) 6 (fun i => i8 (B1 (4200 * 1 + i))) a) (6 + a) (i8 (sra word 24)))))] [] rfl rfl rfl rfl (by decide) rfl rfl rfl hl.1 rfl (Nat.le_of_ble_eq_true rfl) dX3_frame_245 ⟨Nat.le_of_ble_eq_true rfl, Nat.le_of_ble_eq_true rfl⟩ (fun H locs hP hD hS => ?_)
        refine lv_iinc (v := 16) (lv' := [(6, .int 16), (5, .int (fbM Z1 (4200 * 1) a 0)), (4, .int (nI a)), (3, .int (nI 1)), (2, .int (nI 1)), (0, .ref y), (1, .int word)]) hx hb dX3_frame_248 hl (k := 0) rfl (by decide) (by decide) rfl (fun ls hl => ?_)
        refine lv_goto (tgt := 235) hx hb dX3_frame_251 (by decide) ?_
        refine lv_iload hx hb dX3_frame_235 (lv_at hl 0 rfl) ?_
        refine lv_if_lt (tgt := 254) hx hb dX3_frame_237 (by decide) (fun cc => absurd cc (by decide)) (fun _ => ?_)
        refine lv_aload_n hx hb dX3_frame_240 rfl (lv_at hl 5 rfl) ?_
        refine lv_iload_n hx hb dX3_frame_241 rfl (lv_at hl 6 rfl) ?_
        refine lv_iload hx hb dX3_frame_242 (lv_at hl 0 rfl) ?_
        refine lv_ishr hx hb dX3_frame_244 ?_
        refine cl0_vv ⟨hx, hb, hml, hown, hts⟩ (c_m_add l D cA cB cZ y len tp bb zz wa fs fm mk (6 + a + 1) (upd (lwr (mA ff mf (nI 1) 2 (fbM Z1 (4200 * 1) a 0)) 6 (fun i => i8 (B1 (4200 * 1 + i))) a) (6 + a) (i8 (sra word 24))) (sra word 16) (by omega)) (cwV 1 hts (gM_add _) rfl rfl rfl (by decide +kernel) ⟨Nat.le_of_ble_eq_true rfl, Nat.le_of_ble_eq_true rfl⟩) (ci := 3) (q0 := 0) rfl rfl hN hK hP hD hS hA [0, 5] [1, 2, 3, 4] [4, 0, 1, 2, 3, 5] [(bb, .inl (cB, 8400, .inl B1)), (zz, .inl (cZ, 8400, .inl Z1)), (wa, .inl (cA, 2, .inl (wI W1))), (fs, .inl (cA, 4, .inl mf))] [(y, .inr (3, [.int 0, .int (nI len), .ref tp, .int (nI mk), .ref bb, .ref zz, .ref wa, .ref fs, .ref fm, .int (nI (6 + a + 2))])), (bb, .inl (cB, 8400, .inl B1)), (zz, .inl (cZ, 8400, .inl Z1)), (wa, .inl (cA, 2, .inl (wI W1))), (fs, .inl (cA, 4, .inl mf)), (fm, .inl (cB, 256, .inl (upd (upd (lwr (mA ff mf (nI 1) 2 (fbM Z1 (4200 * 1) a 0)) 6 (fun i => i8 (B1 (4200 * 1 + i))) a) (6 + a) (i8 (sra word 24))) (6 + a + 1) (i8 (sra word 16)))))] [] rfl rfl rfl rfl (by decide) rfl rfl rfl hl.1 rfl (Nat.le_of_ble_eq_true rfl) dX3_frame_245 ⟨Nat.le_of_ble_eq_true rfl, Nat.le_of_ble_eq_true rfl⟩ (fun H locs hP hD hS => ?_)
        refine lv_iinc (v := 8) (lv' := [(6, .int 8), (5, .int (fbM Z1 (4200 * 1) a 0)), (4, .int (nI a)), (3, .int (nI 1)), (2, .int (nI 1)), (0, .ref y), (1, .int word)]) hx hb dX3_frame_248 hl (k := 0) rfl (by decide) (by decide) rfl (fun ls hl => ?_)
        refine lv_goto (tgt := 235) hx hb dX3_frame_251 (by decide) ?_
        refine lv_iload hx hb dX3_frame_235 (lv_at hl 0 rfl) ?_
        refine lv_if_lt (tgt := 254) hx hb dX3_frame_237 (by decide) (fun cc => absurd cc (by decide)) (fun _ => ?_)
        refine lv_aload_n hx hb dX3_frame_240 rfl (lv_at hl 5 rfl) ?_
        refine lv_iload_n hx hb dX3_frame_241 rfl (lv_at hl 6 rfl) ?_
        refine lv_iload hx hb dX3_frame_242 (lv_at hl 0 rfl) ?_
        refine lv_ishr hx hb dX3_frame_244 ?_
        refine cl0_vv ⟨hx, hb, hml, hown, hts⟩ (c_m_add l D cA cB cZ y len tp bb zz wa fs fm mk (6 + a + 2) (upd (upd (lwr (mA ff mf (nI 1) 2 (fbM Z1 (4200 * 1) a 0)) 6 (fun i => i8 (B1 (4200 * 1 + i))) a) (6 + a) (i8 (sra word 24))) (6 + a + 1) (i8 (sra word 16))) (sra word 8) (by omega)) (cwV 1 hts (gM_add _) rfl rfl rfl (by decide +kernel) ⟨Nat.le_of_ble_eq_true rfl, Nat.le_of_ble_eq_true rfl⟩) (ci := 3) (q0 := 0) rfl rfl hN hK hP hD hS hA [0, 5] [1, 2, 3, 4] [4, 0, 1, 2, 3, 5] [(bb, .inl (cB, 8400, .inl B1)), (zz, .inl (cZ, 8400, .inl Z1)), (wa, .inl (cA, 2, .inl (wI W1))), (fs, .inl (cA, 4, .inl mf))] [(y, .inr (3, [.int 0, .int (nI len), .ref tp, .int (nI mk), .ref bb, .ref zz, .ref wa, .ref fs, .ref fm, .int (nI (6 + a + 3))])), (bb, .inl (cB, 8400, .inl B1)), (zz, .inl (cZ, 8400, .inl Z1)), (wa, .inl (cA, 2, .inl (wI W1))), (fs, .inl (cA, 4, .inl mf)), (fm, .inl (cB, 256, .inl (upd (upd (upd (lwr (mA ff mf (nI 1) 2 (fbM Z1 (4200 * 1) a 0)) 6 (fun i => i8 (B1 (4200 * 1 + i))) a) (6 + a) (i8 (sra word 24))) (6 + a + 1) (i8 (sra word 16))) (6 + a + 2) (i8 (sra word 8)))))] [] rfl rfl rfl rfl (by decide) rfl rfl rfl hl.1 rfl (Nat.le_of_ble_eq_true rfl) dX3_frame_245 ⟨Nat.le_of_ble_eq_true rfl, Nat.le_of_ble_eq_true rfl⟩ (fun H locs hP hD hS => ?_)
        refine lv_iinc (v := 0) (lv' := [(6, .int 0), (5, .int (fbM Z1 (4200 * 1) a 0)), (4, .int (nI a)), (3, .int (nI 1)), (2, .int (nI 1)), (0, .ref y), (1, .int word)]) hx hb dX3_frame_248 hl (k := 0) rfl (by decide) (by decide) rfl (fun ls hl => ?_)
        refine lv_goto (tgt := 235) hx hb dX3_frame_251 (by decide) ?_
        refine lv_iload hx hb dX3_frame_235 (lv_at hl 0 rfl) ?_
        refine lv_if_lt (tgt := 254) hx hb dX3_frame_237 (by decide) (fun cc => absurd cc (by decide)) (fun _ => ?_)
        refine lv_aload_n hx hb dX3_frame_240 rfl (lv_at hl 5 rfl) ?_
        refine lv_iload_n hx hb dX3_frame_241 rfl (lv_at hl 6 rfl) ?_
        refine lv_iload hx hb dX3_frame_242 (lv_at hl 0 rfl) ?_
        refine lv_ishr hx hb dX3_frame_244 ?_
        refine cl0_vv ⟨hx, hb, hml, hown, hts⟩ (c_m_add l D cA cB cZ y len tp bb zz wa fs fm mk (6 + a + 3) (upd (upd (upd (lwr (mA ff mf (nI 1) 2 (fbM Z1 (4200 * 1) a 0)) 6 (fun i => i8 (B1 (4200 * 1 + i))) a) (6 + a) (i8 (sra word 24))) (6 + a + 1) (i8 (sra word 16))) (6 + a + 2) (i8 (sra word 8))) (sra word 0) (by omega)) (cwV 1 hts (gM_add _) rfl rfl rfl (by decide +kernel) ⟨Nat.le_of_ble_eq_true rfl, Nat.le_of_ble_eq_true rfl⟩) (ci := 3) (q0 := 0) rfl rfl hN hK hP hD hS hA [0, 5] [1, 2, 3, 4] [4, 0, 1, 2, 3, 5] [(bb, .inl (cB, 8400, .inl B1)), (zz, .inl (cZ, 8400, .inl Z1)), (wa, .inl (cA, 2, .inl (wI W1))), (fs, .inl (cA, 4, .inl mf))] [(y, .inr (3, [.int 0, .int (nI len), .ref tp, .int (nI mk), .ref bb, .ref zz, .ref wa, .ref fs, .ref fm, .int (nI (6 + a + 4))])), (bb, .inl (cB, 8400, .inl B1)), (zz, .inl (cZ, 8400, .inl Z1)), (wa, .inl (cA, 2, .inl (wI W1))), (fs, .inl (cA, 4, .inl mf)), (fm, .inl (cB, 256, .inl (mW (lwr (mA ff mf (nI 1) 2 (fbM Z1 (4200 * 1) a 0)) 6 (fun i => i8 (B1 (4200 * 1 + i))) a) a word)))] [] rfl rfl rfl rfl (by decide) rfl rfl rfl hl.1 rfl (Nat.le_of_ble_eq_true rfl) dX3_frame_245 ⟨Nat.le_of_ble_eq_true rfl, Nat.le_of_ble_eq_true rfl⟩ (fun H locs hP hD hS => ?_)
        refine lv_iinc (v := (-8)) (lv' := [(6, .int (-8)), (5, .int (fbM Z1 (4200 * 1) a 0)), (4, .int (nI a)), (3, .int (nI 1)), (2, .int (nI 1)), (0, .ref y), (1, .int word)]) hx hb dX3_frame_248 hl (k := 0) rfl (by decide) (by decide) rfl (fun ls hl => ?_)
        refine lv_goto (tgt := 235) hx hb dX3_frame_251 (by decide) ?_
        refine lv_iload hx hb dX3_frame_235 (lv_at hl 0 rfl) ?_
        refine lv_if_lt (tgt := 254) hx hb dX3_frame_237 (by decide) (fun _ => ?_) (fun cc => absurd (by decide) cc)
        refine lv_aload_n hx hb dX3_frame_254 rfl (lv_at hl 5 rfl) ?_
        refine cl0_vi ⟨hx, hb, hml, hown, hts⟩ (c_m_check l D cA cB cZ y len tp bb zz wa fs fm mk (6 + a + 4) (mW (lwr (mA ff mf (nI 1) 2 (fbM Z1 (4200 * 1) a 0)) 6 (fun i => i8 (B1 (4200 * 1 + i))) a) a word) (by omega)) (cwV 0 hts (gM_check _) rfl rfl rfl (by decide +kernel) ⟨Nat.le_of_ble_eq_true rfl, Nat.le_of_ble_eq_true rfl⟩) (ci := 3) (q0 := 0) rfl rfl hN hK hP hD hS hA [0, 5] [1, 2, 3, 4] [4, 0, 1, 2, 3, 5] [(bb, .inl (cB, 8400, .inl B1)), (zz, .inl (cZ, 8400, .inl Z1)), (wa, .inl (cA, 2, .inl (wI W1))), (fs, .inl (cA, 4, .inl mf))] [(y, .inr (3, [.int 0, .int (nI len), .ref tp, .int (nI mk), .ref bb, .ref zz, .ref wa, .ref fs, .ref fm, .int (nI (6 + a + 4))])), (bb, .inl (cB, 8400, .inl B1)), (zz, .inl (cZ, 8400, .inl Z1)), (wa, .inl (cA, 2, .inl (wI W1))), (fs, .inl (cA, 4, .inl mf)), (fm, .inl (cB, 256, .inl (mW (lwr (mA ff mf (nI 1) 2 (fbM Z1 (4200 * 1) a 0)) 6 (fun i => i8 (B1 (4200 * 1 + i))) a) a word)))] [] rfl rfl rfl rfl (by decide) rfl rfl rfl hl.1 rfl (Nat.le_of_ble_eq_true rfl) dX3_frame_255 ⟨Nat.le_of_ble_eq_true rfl, Nat.le_of_ble_eq_true rfl⟩ (fun H locs hP hD hS => ?_)
        refine lv_istore (lv' := [(6, .int (crcM (mW (lwr (mA ff mf (nI 1) 2 (fbM Z1 (4200 * 1) a 0)) 6 (fun i => i8 (B1 (4200 * 1 + i))) a) a word) (6 + a + 4))), (5, .int (fbM Z1 (4200 * 1) a 0)), (4, .int (nI a)), (3, .int (nI 1)), (2, .int (nI 1)), (0, .ref y), (1, .int word)]) hx hb dX3_frame_258 hl (by decide) rfl (fun ls hl => ?_)
        refine lv_aload_n hx hb dX3_frame_260 rfl (lv_at hl 5 rfl) ?_
        refine lv_iload hx hb dX3_frame_261 (lv_at hl 0 rfl) ?_
        refine lv_sipush (v := 256) hx hb dX3_frame_263 (by decide +kernel) ?_
        refine lv_idiv hx hb dX3_frame_266 (by decide) ?_
        refine cl0_vv ⟨hx, hb, hml, hown, hts⟩ (c_m_add l D cA cB cZ y len tp bb zz wa fs fm mk (6 + a + 4) (mW (lwr (mA ff mf (nI 1) 2 (fbM Z1 (4200 * 1) a 0)) 6 (fun i => i8 (B1 (4200 * 1 + i))) a) a word) ((crcM (mW (lwr (mA ff mf (nI 1) 2 (fbM Z1 (4200 * 1) a 0)) 6 (fun i => i8 (B1 (4200 * 1 + i))) a) a word) (6 + a + 4)) / 256) (by omega)) (cwV 1 hts (gM_add _) rfl rfl rfl (by decide +kernel) ⟨Nat.le_of_ble_eq_true rfl, Nat.le_of_ble_eq_true rfl⟩) (ci := 3) (q0 := 0) rfl rfl hN hK hP hD hS hA [0, 5] [1, 2, 3, 4] [4, 0, 1, 2, 3, 5] [(bb, .inl (cB, 8400, .inl B1)), (zz, .inl (cZ, 8400, .inl Z1)), (wa, .inl (cA, 2, .inl (wI W1))), (fs, .inl (cA, 4, .inl mf))] [(y, .inr (3, [.int 0, .int (nI len), .ref tp, .int (nI mk), .ref bb, .ref zz, .ref wa, .ref fs, .ref fm, .int (nI (6 + a + 5))])), (bb, .inl (cB, 8400, .inl B1)), (zz, .inl (cZ, 8400, .inl Z1)), (wa, .inl (cA, 2, .inl (wI W1))), (fs, .inl (cA, 4, .inl mf)), (fm, .inl (cB, 256, .inl (upd (mW (lwr (mA ff mf (nI 1) 2 (fbM Z1 (4200 * 1) a 0)) 6 (fun i => i8 (B1 (4200 * 1 + i))) a) a word) (6 + a + 4) (i8 ((crcM (mW (lwr (mA ff mf (nI 1) 2 (fbM Z1 (4200 * 1) a 0)) 6 (fun i => i8 (B1 (4200 * 1 + i))) a) a word) (6 + a + 4)) / 256)))))] [] rfl rfl rfl rfl (by decide) rfl rfl rfl hl.1 rfl (Nat.le_of_ble_eq_true rfl) dX3_frame_267 ⟨Nat.le_of_ble_eq_true rfl, Nat.le_of_ble_eq_true rfl⟩ (fun H locs hP hD hS => ?_)
        refine lv_aload_n hx hb dX3_frame_270 rfl (lv_at hl 5 rfl) ?_
        refine lv_iload hx hb dX3_frame_271 (lv_at hl 0 rfl) ?_
        refine cl0_vv ⟨hx, hb, hml, hown, hts⟩ (c_m_add l D cA cB cZ y len tp bb zz wa fs fm mk (6 + a + 5) (upd (mW (lwr (mA ff mf (nI 1) 2 (fbM Z1 (4200 * 1) a 0)) 6 (fun i => i8 (B1 (4200 * 1 + i))) a) a word) (6 + a + 4) (i8 ((crcM (mW (lwr (mA ff mf (nI 1) 2 (fbM Z1 (4200 * 1) a 0)) 6 (fun i => i8 (B1 (4200 * 1 + i))) a) a word) (6 + a + 4)) / 256))) (crcM (mW (lwr (mA ff mf (nI 1) 2 (fbM Z1 (4200 * 1) a 0)) 6 (fun i => i8 (B1 (4200 * 1 + i))) a) a word) (6 + a + 4)) (by omega)) (cwV 1 hts (gM_add _) rfl rfl rfl (by decide +kernel) ⟨Nat.le_of_ble_eq_true rfl, Nat.le_of_ble_eq_true rfl⟩) (ci := 3) (q0 := 0) rfl rfl hN hK hP hD hS hA [0, 5] [1, 2, 3, 4] [4, 0, 1, 2, 3, 5] [(bb, .inl (cB, 8400, .inl B1)), (zz, .inl (cZ, 8400, .inl Z1)), (wa, .inl (cA, 2, .inl (wI W1))), (fs, .inl (cA, 4, .inl mf))] [(y, .inr (3, [.int 0, .int (nI len), .ref tp, .int (nI mk), .ref bb, .ref zz, .ref wa, .ref fs, .ref fm, .int (nI (6 + a + 6))])), (bb, .inl (cB, 8400, .inl B1)), (zz, .inl (cZ, 8400, .inl Z1)), (wa, .inl (cA, 2, .inl (wI W1))), (fs, .inl (cA, 4, .inl mf)), (fm, .inl (cB, 256, .inl (mL ff mf (nI 1) 2 (fbM Z1 (4200 * 1) a 0) (fun i => i8 (B1 (4200 * 1 + i))) a word)))] [] rfl rfl rfl rfl (by decide) rfl rfl rfl hl.1 rfl (Nat.le_of_ble_eq_true rfl) dX3_frame_273 ⟨Nat.le_of_ble_eq_true rfl, Nat.le_of_ble_eq_true rfl⟩ (fun H locs hP hD hS => ?_)
        refine lv_iload_n hx hb dX3_frame_276 rfl (lv_at hl 4 rfl) ?_
        refine lv_iconst (v := 2) hx hb dX3_frame_277 (by decide) ?_
        refine lv_icmp_ge (tgt := 288) hx hb dX3_frame_278 (by decide) (fun cc => absurd cc (by decide)) (fun _ => ?_)
        refine lv_aload_n hx hb dX3_frame_281 rfl (lv_at hl 5 rfl) ?_
        refine lv_iload_n hx hb dX3_frame_282 rfl (lv_at hl 4 rfl) ?_
        refine lv_iload hx hb dX3_frame_283 (lv_at hl 2 rfl) ?_
        refine cl0_vv ⟨hx, hb, hml, hown, hts⟩ (c_m_leave l D cA cB cZ y len tp bb zz wa fs fm mk (6 + a + 6) B1 Z1 W1 1 K a (by decide) hWc hKa (by omega)) (cwV 2 hts (gM_leave _) rfl rfl rfl (by decide +kernel) ⟨Nat.le_of_ble_eq_true rfl, Nat.le_of_ble_eq_true rfl⟩) (ci := 3) (q0 := 0) rfl rfl hN hK hP hD hS hA [0, 1, 2, 3] [4, 5] [2, 3, 4, 5, 0, 1] [(fs, .inl (cA, 4, .inl mf)), (fm, .inl (cB, 256, .inl (mL ff mf (nI 1) 2 (fbM Z1 (4200 * 1) a 0) (fun i => i8 (B1 (4200 * 1 + i))) a word)))] [(y, .inr (3, [.int 0, .int (nI len), .ref tp, .int (nI mk), .ref bb, .ref zz, .ref wa, .ref fs, .ref fm, .int (nI (6 + a + 6))])), (bb, .inl (cB, 8400, .inl (lwr B1 (4200 * 1) (fun i => i8 (B1 (4200 * 1 + i + a))) (K - a)))), (zz, .inl (cZ, 8400, .inl (lwr Z1 (4200 * 1) (fun i => Z1 (4200 * 1 + i + a) &&& 1) (K - a)))), (wa, .inl (cA, 2, .inl (wI (va_up W1 1 (K - a))))), (fs, .inl (cA, 4, .inl mf)), (fm, .inl (cB, 256, .inl (mL ff mf (nI 1) 2 (fbM Z1 (4200 * 1) a 0) (fun i => i8 (B1 (4200 * 1 + i))) a word)))] [] rfl rfl rfl rfl (by decide) rfl rfl rfl hl.1 rfl (Nat.le_of_ble_eq_true rfl) dX3_frame_285 ⟨Nat.le_of_ble_eq_true rfl, Nat.le_of_ble_eq_true rfl⟩ (fun H locs hP hD hS => ?_)
        refine lv_aload_n hx hb dX3_frame_288 rfl (lv_at hl 5 rfl) ?_
        refine va_get (D := D) (ci := 3) (v := .ref fs) hx hb hts iX3 hown hK hP 0 rfl rfl 7 (by decide) lk24 (fun _ h => h) rfl dX3_frame_289 ?_
        refine lv_iconst (v := 0) hx hb dX3_frame_292 (by decide) ?_
        refine tp_i (y := nI 0) (rfl) ?_
        refine lv_dup2_11 hx hb dX3_frame_293 rfl rfl ?_
        refine al_i (k := 0) hx hb hK hP 4 0 rfl rfl (by decide) (by decide) dX3_frame_294 ?_
        refine lv_iconst (v := 1) hx hb dX3_frame_295 (by decide) ?_
        refine lv_iadd hx hb dX3_frame_296 ?_
        refine as_i (k := 0) (x := ((mf 0) + 1)) hx hb hK hP hD hS 4 0 rfl rfl (by decide) (by decide) dX3_frame_297 (fun H locs hP hD hS => ?_)
        have hP : va_P D vwCl [(y, .inr (3, [.int 0, .int (nI len), .ref tp, .int (nI mk), .ref bb, .ref zz, .ref wa, .ref fs, .ref fm, .int (nI (6 + a + 6))])), (bb, .inl (cB, 8400, .inl (lwr B1 (4200 * 1) (fun i => i8 (B1 (4200 * 1 + i + a))) (K - a)))), (zz, .inl (cZ, 8400, .inl (lwr Z1 (4200 * 1) (fun i => Z1 (4200 * 1 + i + a) &&& 1) (K - a)))), (wa, .inl (cA, 2, .inl (wI (va_up W1 1 (K - a))))), (fs, .inl (cA, 4, .inl (upd mf 0 ((mf 0) + 1)))), (fm, .inl (cB, 256, .inl (mL ff mf (nI 1) 2 (fbM Z1 (4200 * 1) a 0) (fun i => i8 (B1 (4200 * 1 + i))) a word)))] H := hP
        have hD : va_D A [(y, .inr (3, [.int 0, .int (nI len), .ref tp, .int (nI mk), .ref bb, .ref zz, .ref wa, .ref fs, .ref fm, .int (nI (6 + a + 6))])), (bb, .inl (cB, 8400, .inl (lwr B1 (4200 * 1) (fun i => i8 (B1 (4200 * 1 + i + a))) (K - a)))), (zz, .inl (cZ, 8400, .inl (lwr Z1 (4200 * 1) (fun i => Z1 (4200 * 1 + i + a) &&& 1) (K - a)))), (wa, .inl (cA, 2, .inl (wI (va_up W1 1 (K - a))))), (fs, .inl (cA, 4, .inl (upd mf 0 ((mf 0) + 1)))), (fm, .inl (cB, 256, .inl (mL ff mf (nI 1) 2 (fbM Z1 (4200 * 1) a 0) (fun i => i8 (B1 (4200 * 1 + i))) a word)))] := hD
        refine lv_aload_n hx hb dX3_frame_298 rfl (lv_at hl 5 rfl) ?_
        refine va_get (D := D) (ci := 3) (v := .ref fs) hx hb hts iX3 hown hK hP 0 rfl rfl 7 (by decide) lk24 (fun _ h => h) rfl dX3_frame_299 ?_
        refine lv_iconst (v := 1) hx hb dX3_frame_302 (by decide) ?_
        refine lv_iload_n hx hb dX3_frame_303 rfl (lv_at hl 4 rfl) ?_
        refine lv_iadd hx hb dX3_frame_304 ?_
        refine tp_i (y := nI 2) (by decide) ?_
        refine lv_dup2_11 hx hb dX3_frame_305 rfl rfl ?_
        refine al_i (k := 2) hx hb hK hP 4 0 rfl rfl (by decide) (by decide) dX3_frame_306 ?_
        refine lv_iconst (v := 1) hx hb dX3_frame_307 (by decide) ?_
        refine lv_iadd hx hb dX3_frame_308 ?_
        refine as_i (k := 2) (x := (((upd mf 0 ((mf 0) + 1)) 2) + 1)) hx hb hK hP hD hS 4 0 rfl rfl (by decide) (by decide) dX3_frame_309 (fun H locs hP hD hS => ?_)
        have hP : va_P D vwCl [(y, .inr (3, [.int 0, .int (nI len), .ref tp, .int (nI mk), .ref bb, .ref zz, .ref wa, .ref fs, .ref fm, .int (nI (6 + a + 6))])), (bb, .inl (cB, 8400, .inl (lwr B1 (4200 * 1) (fun i => i8 (B1 (4200 * 1 + i + a))) (K - a)))), (zz, .inl (cZ, 8400, .inl (lwr Z1 (4200 * 1) (fun i => Z1 (4200 * 1 + i + a) &&& 1) (K - a)))), (wa, .inl (cA, 2, .inl (wI (va_up W1 1 (K - a))))), (fs, .inl (cA, 4, .inl (upd (upd mf 0 ((mf 0) + 1)) 2 (((upd mf 0 ((mf 0) + 1)) 2) + 1)))), (fm, .inl (cB, 256, .inl (mL ff mf (nI 1) 2 (fbM Z1 (4200 * 1) a 0) (fun i => i8 (B1 (4200 * 1 + i))) a word)))] H := hP
        have hD : va_D A [(y, .inr (3, [.int 0, .int (nI len), .ref tp, .int (nI mk), .ref bb, .ref zz, .ref wa, .ref fs, .ref fm, .int (nI (6 + a + 6))])), (bb, .inl (cB, 8400, .inl (lwr B1 (4200 * 1) (fun i => i8 (B1 (4200 * 1 + i + a))) (K - a)))), (zz, .inl (cZ, 8400, .inl (lwr Z1 (4200 * 1) (fun i => Z1 (4200 * 1 + i + a) &&& 1) (K - a)))), (wa, .inl (cA, 2, .inl (wI (va_up W1 1 (K - a))))), (fs, .inl (cA, 4, .inl (upd (upd mf 0 ((mf 0) + 1)) 2 (((upd mf 0 ((mf 0) + 1)) 2) + 1)))), (fm, .inl (cB, 256, .inl (mL ff mf (nI 1) 2 (fbM Z1 (4200 * 1) a 0) (fun i => i8 (B1 (4200 * 1 + i))) a word)))] := hD
        refine lv_iload_n hx hb dX3_frame_310 rfl (lv_at hl 3 rfl) ?_
        rw [show 6 + a + 6 = len by omega] at hP hD
        rw [hW1, bx_uu] at hP hD
        subst hB1
        subst hZ1
        subst hKK
        exact hex _ _ _ _ _ () hS (rfl) hP hD dX3_frame_311
      | succ d ih =>
        intro j H locs ls hj hP hD hS hl
        refine lv_iload hx hb dX3_frame_191 (lv_at hl 0 rfl) ?_
        refine lv_iload hx hb dX3_frame_193 (lv_at hl 2 rfl) ?_
        refine lv_icmp_ge (tgt := 231) hx hb dX3_frame_195 (by decide) (fun cc => absurd cc (nI_ge (by omega) (by omega))) (fun _ => ?_)
        refine lv_aload_n hx hb dX3_frame_198 rfl (lv_at hl 5 rfl) ?_
        refine lv_iload_n hx hb dX3_frame_199 rfl (lv_at hl 4 rfl) ?_
        refine lv_iconst (v := 2) hx hb dX3_frame_200 (by decide) ?_
        refine lv_icmp_ne (tgt := 209) hx hb dX3_frame_201 (by decide) (fun _ => ?_) (fun cc => absurd cc (by decide))
        refine lv_aload_n hx hb dX3_frame_209 rfl (lv_at hl 5 rfl) ?_
        refine va_get (D := D) (ci := 3) (v := .ref bb) hx hb hts iX3 hown hK hP 0 rfl rfl 4 (by decide) lk13 (fun _ h => h) rfl dX3_frame_210 ?_
        refine lv_sipush (v := 4200) hx hb dX3_frame_213 (by decide +kernel) ?_
        refine lv_iload_n hx hb dX3_frame_216 rfl (lv_at hl 4 rfl) ?_
        refine lv_imul hx hb dX3_frame_217 ?_
        refine lv_iload hx hb dX3_frame_218 (lv_at hl 0 rfl) ?_
        refine lv_iadd hx hb dX3_frame_220 ?_
        refine tp_i (y := nI (4200 * 1 + j)) (by rw [show (4200 : Int32) = nI 4200 from rfl, pk_mul, nI_add]) ?_
        refine al_b (k := (4200 * 1 + j)) hx hb hK hP 1 1 rfl rfl (by omega) (by decide) dX3_frame_221 ?_
        refine cl0_vv ⟨hx, hb, hml, hown, hts⟩ (c_m_add l D cA cB cZ y len tp bb zz wa fs fm mk (6 + j) (lwr (mA ff mf (nI 1) 2 (fbM Z1 (4200 * 1) a 0)) 6 (fun i => i8 (B1 (4200 * 1 + i))) j) (B1 (4200 * 1 + j)) (by omega)) (cwV 1 hts (gM_add _) rfl rfl rfl (by decide +kernel) ⟨Nat.le_of_ble_eq_true rfl, Nat.le_of_ble_eq_true rfl⟩) (ci := 3) (q0 := 0) rfl rfl hN hK hP hD hS hA [0, 5] [1, 2, 3, 4] [4, 0, 1, 2, 3, 5] [(bb, .inl (cB, 8400, .inl B1)), (zz, .inl (cZ, 8400, .inl Z1)), (wa, .inl (cA, 2, .inl (wI W1))), (fs, .inl (cA, 4, .inl mf))] [(y, .inr (3, [.int 0, .int (nI len), .ref tp, .int (nI mk), .ref bb, .ref zz, .ref wa, .ref fs, .ref fm, .int (nI (6 + (j + 1)))])), (bb, .inl (cB, 8400, .inl B1)), (zz, .inl (cZ, 8400, .inl Z1)), (wa, .inl (cA, 2, .inl (wI W1))), (fs, .inl (cA, 4, .inl mf)), (fm, .inl (cB, 256, .inl (lwr (mA ff mf (nI 1) 2 (fbM Z1 (4200 * 1) a 0)) 6 (fun i => i8 (B1 (4200 * 1 + i))) (j + 1))))] [] rfl rfl rfl rfl (by decide) rfl rfl rfl hl.1 rfl (Nat.le_of_ble_eq_true rfl) dX3_frame_222 ⟨Nat.le_of_ble_eq_true rfl, Nat.le_of_ble_eq_true rfl⟩ (fun H locs hP hD hS => ?_)
        refine lv_iinc (v := nI (j + 1)) (lv' := [(6, .int (nI (j + 1))), (5, .int (fbM Z1 (4200 * 1) a 0)), (4, .int (nI a)), (3, .int (nI 1)), (2, .int (nI 1)), (0, .ref y), (1, .int word)]) hx hb dX3_frame_225 hl (k := 0) rfl (nI_1 _) (by decide) rfl (fun ls hl => ?_)
        refine lv_goto (tgt := 191) hx hb dX3_frame_228 (by decide) ?_
        exact ih (j + 1) H locs ls (by omega) hP hD hS (lv_sub hl [0, 1, 2, 3, 4, 5, 6] rfl)
    exact loop a 0 _ _ ls (by omega) hP hD hS (lv_sub hl [0, 1, 2, 3, 4, 5, 6] rfl)
  refine lv_icmp_ge (tgt := 103) hx hb dX3_frame_56 (by decide) (fun cc => absurd cc (by decide)) (fun _ => ?_)
  refine lv_aload_n hx hb dX3_frame_59 rfl (lv_at hl 3 rfl) ?_
  refine va_get (D := D) (ci := 3) (v := .ref wa) hx hb hts iX3 hown hK hP 0 rfl rfl 6 (by decide) lk20 (fun _ h => h) rfl dX3_frame_60 ?_
  refine lv_iload_n hx hb dX3_frame_63 rfl (lv_at hl 2 rfl) ?_
  refine al_i (k := 1) hx hb hK hP 3 0 rfl rfl (by decide) (by decide) dX3_frame_64 ?_
  refine tp_i (y := nI w) (congrArg nI hw) ?_
  refine lv_iload hx hb dX3_frame_65 (lv_at hl 0 rfl) ?_
  refine lv_icmp_ge (tgt := 103) hx hb dX3_frame_67 (by decide) (fun q1 => ?_) (fun q1 => ?_)
  · have hwa : ¬ w < a := fun q => nI_ge q (by omega) q1
    have e1 : B1 = bf := by rw [hB1]; exact if_neg hwa
    have e2 : Z1 = zf := by rw [hZ1]; exact if_neg hwa
    have e3 : W1 = ww := by rw [hW1, hKK, show filK w a = w from if_neg hwa, ← hw]; funext j; unfold va_up; by_cases h : j = 1; subst h; simp; simp [h]
    exact tail _ _ ls (by rw [e1, e2, e3]; exact hP) (by rw [e1, e2, e3]; exact hD) hS (lv_sub hl [0, 1, 2, 3, 4] rfl)
  · have hwa : w < a := Nat.not_le.mp (fun q => q1 (nI_le q (by omega)))
    refine lv_aload_n hx hb dX3_frame_70 rfl (lv_at hl 3 rfl) ?_
    refine lv_iload_n hx hb dX3_frame_71 rfl (lv_at hl 2 rfl) ?_
    refine lv_iload hx hb dX3_frame_72 (lv_at hl 0 rfl) ?_
    refine lv_aload_n hx hb dX3_frame_74 rfl (lv_at hl 3 rfl) ?_
    refine va_get (D := D) (ci := 3) (v := .ref wa) hx hb hts iX3 hown hK hP 0 rfl rfl 6 (by decide) lk20 (fun _ h => h) rfl dX3_frame_75 ?_
    refine lv_iload_n hx hb dX3_frame_78 rfl (lv_at hl 2 rfl) ?_
    refine al_i (k := 1) hx hb hK hP 3 0 rfl rfl (by decide) (by decide) dX3_frame_79 ?_
    refine tp_i (y := nI w) (congrArg nI hw) ?_
    refine lv_isub hx hb dX3_frame_80 ?_
    refine tp_i (y := nI (a - w)) (pk_sub (by omega)) ?_
    refine lv_bipush (v := 7) hx hb dX3_frame_81 (by decide +kernel) ?_
    refine lv_icmp_le (tgt := 98) hx hb dX3_frame_83 (by decide) (fun q2 => ?_) (fun q2 => ?_)
    · have h7 : a - w ≤ 7 := Nat.not_lt.mp (fun q => nI_ge (a := 7) q (by omega) q2)
      refine lv_bipush (v := 7) hx hb dX3_frame_98 (by decide +kernel) ?_
      refine tp_i (y := nI (max (a - w) 7)) (by rw [show max (a - w) 7 = 7 by omega]; rfl) ?_
      refine cl0_vv ⟨hx, hb, hml, hown, hts⟩ (c_m_fills l D cA cB cZ y len tp bb zz wa fs fm mk fk bf zf ww 1 w (max (a - w) 7) (by decide) hw (by omega) (by omega)) (cwV 2 hts (gM_fills _) rfl rfl rfl (by decide +kernel) ⟨Nat.le_of_ble_eq_true rfl, Nat.le_of_ble_eq_true rfl⟩) (ci := 3) (q0 := 0) rfl rfl hN hK hP hD hS hA [0, 1, 2, 3] [4, 5] [2, 3, 4, 5, 0, 1] [(fs, .inl (cA, 4, .inl mf)), (fm, .inl (cB, 256, .inl ff))] [(y, .inr (3, [.int 0, .int (nI len), .ref tp, .int (nI mk), .ref bb, .ref zz, .ref wa, .ref fs, .ref fm, .int (nI fk)])), (bb, .inl (cB, 8400, .inl (lwr bf (4200 * 1 + w) (emb (max (a - w) 7)) (max (a - w) 7)))), (zz, .inl (cZ, 8400, .inl (lwr zf (4200 * 1 + w) emz (max (a - w) 7)))), (wa, .inl (cA, 2, .inl (wI (va_up ww 1 (w + (max (a - w) 7)))))), (fs, .inl (cA, 4, .inl mf)), (fm, .inl (cB, 256, .inl ff))] [] rfl rfl rfl rfl (by decide) rfl rfl rfl hl.1 rfl (Nat.le_of_ble_eq_true rfl) dX3_frame_100 ⟨Nat.le_of_ble_eq_true rfl, Nat.le_of_ble_eq_true rfl⟩ (fun H locs hP hD hS => ?_)
      have e1 : B1 = lwr bf (4200 * 1 + w) (emb (max (a - w) 7)) (max (a - w) 7) := by rw [hB1]; exact if_pos hwa
      have e2 : Z1 = lwr zf (4200 * 1 + w) emz (max (a - w) 7) := by rw [hZ1]; exact if_pos hwa
      have e3 : W1 = va_up ww 1 (w + max (a - w) 7) := by rw [hW1, hKK, show filK w a = w + max (a - w) 7 from if_pos hwa]
      exact tail _ _ ls (by rw [e1, e2, e3]; exact hP) (by rw [e1, e2, e3]; exact hD) hS (lv_sub hl [0, 1, 2, 3, 4] rfl)
    · have h7 : ¬ a - w ≤ 7 := fun t => q2 (nI_le (b := 7) t (by decide))
      refine lv_iload hx hb dX3_frame_86 (lv_at hl 0 rfl) ?_
      refine lv_aload_n hx hb dX3_frame_88 rfl (lv_at hl 3 rfl) ?_
      refine va_get (D := D) (ci := 3) (v := .ref wa) hx hb hts iX3 hown hK hP 0 rfl rfl 6 (by decide) lk20 (fun _ h => h) rfl dX3_frame_89 ?_
      refine lv_iload_n hx hb dX3_frame_92 rfl (lv_at hl 2 rfl) ?_
      refine al_i (k := 1) hx hb hK hP 3 0 rfl rfl (by decide) (by decide) dX3_frame_93 ?_
      refine tp_i (y := nI w) (congrArg nI hw) ?_
      refine lv_isub hx hb dX3_frame_94 ?_
      refine tp_i (y := nI (max (a - w) 7)) (by rw [show max (a - w) 7 = a - w by omega]; exact pk_sub (by omega)) ?_
      refine lv_goto (tgt := 100) hx hb dX3_frame_95 (by decide) ?_
      refine cl0_vv ⟨hx, hb, hml, hown, hts⟩ (c_m_fills l D cA cB cZ y len tp bb zz wa fs fm mk fk bf zf ww 1 w (max (a - w) 7) (by decide) hw (by omega) (by omega)) (cwV 2 hts (gM_fills _) rfl rfl rfl (by decide +kernel) ⟨Nat.le_of_ble_eq_true rfl, Nat.le_of_ble_eq_true rfl⟩) (ci := 3) (q0 := 0) rfl rfl hN hK hP hD hS hA [0, 1, 2, 3] [4, 5] [2, 3, 4, 5, 0, 1] [(fs, .inl (cA, 4, .inl mf)), (fm, .inl (cB, 256, .inl ff))] [(y, .inr (3, [.int 0, .int (nI len), .ref tp, .int (nI mk), .ref bb, .ref zz, .ref wa, .ref fs, .ref fm, .int (nI fk)])), (bb, .inl (cB, 8400, .inl (lwr bf (4200 * 1 + w) (emb (max (a - w) 7)) (max (a - w) 7)))), (zz, .inl (cZ, 8400, .inl (lwr zf (4200 * 1 + w) emz (max (a - w) 7)))), (wa, .inl (cA, 2, .inl (wI (va_up ww 1 (w + (max (a - w) 7)))))), (fs, .inl (cA, 4, .inl mf)), (fm, .inl (cB, 256, .inl ff))] [] rfl rfl rfl rfl (by decide) rfl rfl rfl hl.1 rfl (Nat.le_of_ble_eq_true rfl) dX3_frame_100 ⟨Nat.le_of_ble_eq_true rfl, Nat.le_of_ble_eq_true rfl⟩ (fun H locs hP hD hS => ?_)
      have e1 : B1 = lwr bf (4200 * 1 + w) (emb (max (a - w) 7)) (max (a - w) 7) := by rw [hB1]; exact if_pos hwa
      have e2 : Z1 = lwr zf (4200 * 1 + w) emz (max (a - w) 7) := by rw [hZ1]; exact if_pos hwa
      have e3 : W1 = va_up ww 1 (w + max (a - w) 7) := by rw [hW1, hKK, show filK w a = w + max (a - w) 7 from if_pos hwa]
      exact tail _ _ ls (by rw [e1, e2, e3]; exact hP) (by rw [e1, e2, e3]; exact hD) hS (lv_sub hl [0, 1, 2, 3, 4] rfl)

set_option maxHeartbeats 4000000 in
set_option maxRecDepth 100000 in
/-- frame -/
theorem c_m_frame2 (l : Launch) (D : va_G) (cA cB cZ : ClassId) (a : Nat) (y len tp bb zz wa fs fm mk fk : Nat) (bf zf : Nat → Int32) (ww : Nat → Nat) (mf ff : Nat → Int32) (word : Int32) (hlen : len = a + 12) (hla : len ≤ 256) (hz : ww 0 = 0) (hy : ww 1 = 0) : MI0 l yX3_frame wsM_frame { frames := 2, cells := 0, slots := 0, locals := 50 } [.ref y, .int word] D [(cA, .int), (cB, .byte), (cZ, .boolean)] [(y, .inr (3, [.int 0, .int (nI len), .ref tp, .int (nI mk), .ref bb, .ref zz, .ref wa, .ref fs, .ref fm, .int (nI fk)])), (bb, .inl (cB, 8400, .inl bf)), (zz, .inl (cZ, 8400, .inl zf)), (wa, .inl (cA, 2, .inl (wI ww))), (fs, .inl (cA, 4, .inl mf)), (fm, .inl (cB, 256, .inl ff))] 7 [(y, .inr (3, [.int 0, .int (nI len), .ref tp, .int (nI mk), .ref bb, .ref zz, .ref wa, .ref fs, .ref fm, .int (nI len)])), (bb, .inl (cB, 8400, .inl bf)), (zz, .inl (cZ, 8400, .inl zf)), (wa, .inl (cA, 2, .inl (wI ww))), (fs, .inl (cA, 4, .inl (cnt2 mf 3))), (fm, .inl (cB, 256, .inl (mL ff mf 7 3 2046 (fun _ => i8 85) a word)))] := by
  refine mt_i (by decide) rfl (Nat.le_of_ble_eq_true rfl) ?_
  intro p e s m below meth c A ls Q hx hb hts hown hml hin hN hK hA hP hD hS hl hex
  have hown : s.vm.findClass RX3 = some m.cls := hown
  have hl : lv_has ls 7 [(0, .ref y), (1, .int word)] := hl
  have iX3 : ∀ w ∈ wsX30, w ∈ wsM_frame := by decide +kernel
  have lk20 := hts (.fieldLink RX3 20 "DownFramesModel" "waits" "[I") (by decide +kernel)
  have lk24 := hts (.fieldLink RX3 24 "DownFramesModel" "frames" "[I") (by decide +kernel)
  have lk30 := hts (.fieldLink RX3 30 "DownFramesModel" "length" "I") (by decide +kernel)
  have lk34 := hts (.fieldLink RX3 34 "DownFramesModel" "thrown" "I") (by decide +kernel)
  have lk44 := hts (.fieldLink RX3 44 "DownFramesModel" "filled" "I") (by decide +kernel)
  refine lv_aload_n hx hb dX3_frame_0 rfl (lv_at hl 0 rfl) ?_
  refine lv_iconst (v := 0) hx hb dX3_frame_1 (by decide) ?_
  refine va_put (D := D) (ci := 3) (v := .int 0) (ty := (.int)) hx hb hts iX3 tyX3 tyX3_ok nmX3 hown hK hP hD hS 0 rfl rfl 0 (by decide) lk34 (fun _ h => h) rfl (by decide +kernel) rfl rfl (Nat.le_of_ble_eq_true rfl) dX3_frame_2 (fun H locs hP hD hS => ?_)
  have hP : va_P D vwCl [(y, .inr (3, [.int 0, .int (nI len), .ref tp, .int (nI mk), .ref bb, .ref zz, .ref wa, .ref fs, .ref fm, .int (nI fk)])), (bb, .inl (cB, 8400, .inl bf)), (zz, .inl (cZ, 8400, .inl zf)), (wa, .inl (cA, 2, .inl (wI ww))), (fs, .inl (cA, 4, .inl mf)), (fm, .inl (cB, 256, .inl ff))] H := hP
  have hD : va_D A [(y, .inr (3, [.int 0, .int (nI len), .ref tp, .int (nI mk), .ref bb, .ref zz, .ref wa, .ref fs, .ref fm, .int (nI fk)])), (bb, .inl (cB, 8400, .inl bf)), (zz, .inl (cZ, 8400, .inl zf)), (wa, .inl (cA, 2, .inl (wI ww))), (fs, .inl (cA, 4, .inl mf)), (fm, .inl (cB, 256, .inl ff))] := hD
  refine lv_aload_n hx hb dX3_frame_5 rfl (lv_at hl 0 rfl) ?_
  refine va_get (D := D) (ci := 3) (v := .ref wa) hx hb hts iX3 hown hK hP 0 rfl rfl 6 (by decide) lk20 (fun _ h => h) rfl dX3_frame_6 ?_
  refine lv_iconst (v := 0) hx hb dX3_frame_9 (by decide) ?_
  refine tp_i (y := nI 0) (rfl) ?_
  refine al_i (k := 0) hx hb hK hP 3 0 rfl rfl (by decide) (by decide) dX3_frame_10 ?_
  refine tp_i (y := nI (ww 0)) (rfl) ?_
  refine lv_if_le (tgt := 18) hx hb dX3_frame_11 (by decide) (fun _ => ?_) (fun cc => absurd (by rw [hz]; decide) cc)
  refine lv_aload_n hx hb dX3_frame_18 rfl (lv_at hl 0 rfl) ?_
  refine va_get (D := D) (ci := 3) (v := .ref wa) hx hb hts iX3 hown hK hP 0 rfl rfl 6 (by decide) lk20 (fun _ h => h) rfl dX3_frame_19 ?_
  refine lv_iconst (v := 1) hx hb dX3_frame_22 (by decide) ?_
  refine tp_i (y := nI 1) (rfl) ?_
  refine al_i (k := 1) hx hb hK hP 3 0 rfl rfl (by decide) (by decide) dX3_frame_23 ?_
  refine tp_i (y := nI (ww 1)) (rfl) ?_
  refine lv_if_le (tgt := 31) hx hb dX3_frame_24 (by decide) (fun _ => ?_) (fun cc => absurd (by rw [hy]; decide) cc)
  refine lv_iconst (v := 2) hx hb dX3_frame_31 (by decide) ?_
  refine tp_i (y := nI 2) (rfl) ?_
  refine lv_istore_n (lv' := [(2, .int (nI 2)), (0, .ref y), (1, .int word)]) hx hb dX3_frame_32 rfl hl (by decide) rfl (fun ls hl => ?_)
  refine lv_iload_n hx hb dX3_frame_33 rfl (lv_at hl 0 rfl) ?_
  refine lv_iconst (v := 2) hx hb dX3_frame_34 (by decide) ?_
  refine lv_icmp_ne (tgt := 43) hx hb dX3_frame_35 (by decide) (fun cc => absurd (rfl) cc) (fun _ => ?_)
  refine lv_bipush (v := 7) hx hb dX3_frame_38 (by decide +kernel) ?_
  refine lv_goto (tgt := 44) hx hb dX3_frame_40 (by decide) ?_
  refine lv_istore_n (lv' := [(3, .int 7), (2, .int (nI 2)), (0, .ref y), (1, .int word)]) hx hb dX3_frame_44 rfl hl (by decide) rfl (fun ls hl => ?_)
  refine lv_aload_n hx hb dX3_frame_45 rfl (lv_at hl 2 rfl) ?_
  refine va_get (D := D) (ci := 3) (v := .int (nI len)) hx hb hts iX3 hown hK hP 0 rfl rfl 1 (by decide) lk30 (fun _ h => h) rfl dX3_frame_46 ?_
  refine lv_bipush (v := 12) hx hb dX3_frame_49 (by decide +kernel) ?_
  refine lv_isub hx hb dX3_frame_51 ?_
  refine tp_i (y := nI a) (by rw [hlen, show (12 : Int32) = nI 12 from rfl, pk_sub (by omega)]; congr 1) ?_
  refine lv_istore (lv' := [(4, .int (nI a)), (3, .int 7), (2, .int (nI 2)), (0, .ref y), (1, .int word)]) hx hb dX3_frame_52 hl (by decide) rfl (fun ls hl => ?_)
  refine lv_iload_n hx hb dX3_frame_54 rfl (lv_at hl 2 rfl) ?_
  refine lv_iconst (v := 2) hx hb dX3_frame_55 (by decide) ?_
  have tail : ∀ (H : Heap) (locs : List Loc) (ls : Array Slot), va_P D vwCl [(y, .inr (3, [.int 0, .int (nI len), .ref tp, .int (nI mk), .ref bb, .ref zz, .ref wa, .ref fs, .ref fm, .int (nI fk)])), (bb, .inl (cB, 8400, .inl bf)), (zz, .inl (cZ, 8400, .inl zf)), (wa, .inl (cA, 2, .inl (wI ww))), (fs, .inl (cA, 4, .inl mf)), (fm, .inl (cB, 256, .inl ff))] H → va_D A [(y, .inr (3, [.int 0, .int (nI len), .ref tp, .int (nI mk), .ref bb, .ref zz, .ref wa, .ref fs, .ref fm, .int (nI fk)])), (bb, .inl (cB, 8400, .inl bf)), (zz, .inl (cZ, 8400, .inl zf)), (wa, .inl (cA, 2, .inl (wI ww))), (fs, .inl (cA, 4, .inl mf)), (fm, .inl (cB, 256, .inl ff))] → va_S A s.heap H locs → lv_has ls 7 [(4, .int (nI a)), (3, .int 7), (2, .int (nI 2)), (0, .ref y), (1, .int word)] → W p l e ({ frames := 2, cells := 0, slots := 0, locals := 50 } : Room) s m ([.ref y, .int word] : List Value).toArray below meth c H locs 0 0 Q (F0 m 103 ls []) := by
    intro H locs ls hP hD hS hl
    refine lv_iload_n hx hb dX3_frame_103 rfl (lv_at hl 2 rfl) ?_
    refine lv_iconst (v := 2) hx hb dX3_frame_104 (by decide) ?_
    refine lv_icmp_ne (tgt := 114) hx hb dX3_frame_105 (by decide) (fun cc => absurd (rfl) cc) (fun _ => ?_)
    refine lv_sipush (v := 2046) hx hb dX3_frame_108 (by decide +kernel) ?_
    refine lv_goto (tgt := 121) hx hb dX3_frame_111 (by decide) ?_
    refine lv_istore (lv' := [(5, .int 2046), (4, .int (nI a)), (3, .int 7), (2, .int (nI 2)), (0, .ref y), (1, .int word)]) hx hb dX3_frame_121 hl (by decide) rfl (fun ls hl => ?_)
    refine lv_aload_n hx hb dX3_frame_123 rfl (lv_at hl 4 rfl) ?_
    refine lv_iconst (v := 0) hx hb dX3_frame_124 (by decide) ?_
    refine va_put (D := D) (ci := 3) (v := .int 0) (ty := (.int)) hx hb hts iX3 tyX3 tyX3_ok nmX3 hown hK hP hD hS 0 rfl rfl 9 (by decide) lk44 (fun _ h => h) rfl (by decide +kernel) rfl rfl (Nat.le_of_ble_eq_true rfl) dX3_frame_125 (fun H locs hP hD hS => ?_)
    have hP : va_P D vwCl [(y, .inr (3, [.int 0, .int (nI len), .ref tp, .int (nI mk), .ref bb, .ref zz, .ref wa, .ref fs, .ref fm, .int 0])), (bb, .inl (cB, 8400, .inl bf)), (zz, .inl (cZ, 8400, .inl zf)), (wa, .inl (cA, 2, .inl (wI ww))), (fs, .inl (cA, 4, .inl mf)), (fm, .inl (cB, 256, .inl ff))] H := hP
    have hD : va_D A [(y, .inr (3, [.int 0, .int (nI len), .ref tp, .int (nI mk), .ref bb, .ref zz, .ref wa, .ref fs, .ref fm, .int 0])), (bb, .inl (cB, 8400, .inl bf)), (zz, .inl (cZ, 8400, .inl zf)), (wa, .inl (cA, 2, .inl (wI ww))), (fs, .inl (cA, 4, .inl mf)), (fm, .inl (cB, 256, .inl ff))] := hD
    have hP : va_P D vwCl [(y, .inr (3, [.int 0, .int (nI len), .ref tp, .int (nI mk), .ref bb, .ref zz, .ref wa, .ref fs, .ref fm, .int (nI 0)])), (bb, .inl (cB, 8400, .inl bf)), (zz, .inl (cZ, 8400, .inl zf)), (wa, .inl (cA, 2, .inl (wI ww))), (fs, .inl (cA, 4, .inl mf)), (fm, .inl (cB, 256, .inl ff))] H := hP
    have hD : va_D A [(y, .inr (3, [.int 0, .int (nI len), .ref tp, .int (nI mk), .ref bb, .ref zz, .ref wa, .ref fs, .ref fm, .int (nI 0)])), (bb, .inl (cB, 8400, .inl bf)), (zz, .inl (cZ, 8400, .inl zf)), (wa, .inl (cA, 2, .inl (wI ww))), (fs, .inl (cA, 4, .inl mf)), (fm, .inl (cB, 256, .inl ff))] := hD
    refine lv_aload_n hx hb dX3_frame_128 rfl (lv_at hl 4 rfl) ?_
    refine lv_bipush (v := 21) hx hb dX3_frame_129 (by decide +kernel) ?_
    refine cl0_vv ⟨hx, hb, hml, hown, hts⟩ (c_m_add l D cA cB cZ y len tp bb zz wa fs fm mk 0 (ff) 21 (by omega)) (cwV 1 hts (gM_add _) rfl rfl rfl (by decide +kernel) ⟨Nat.le_of_ble_eq_true rfl, Nat.le_of_ble_eq_true rfl⟩) (ci := 3) (q0 := 0) rfl rfl hN hK hP hD hS hA [0, 5] [1, 2, 3, 4] [4, 0, 1, 2, 3, 5] [(bb, .inl (cB, 8400, .inl bf)), (zz, .inl (cZ, 8400, .inl zf)), (wa, .inl (cA, 2, .inl (wI ww))), (fs, .inl (cA, 4, .inl mf))] [(y, .inr (3, [.int 0, .int (nI len), .ref tp, .int (nI mk), .ref bb, .ref zz, .ref wa, .ref fs, .ref fm, .int (nI 1)])), (bb, .inl (cB, 8400, .inl bf)), (zz, .inl (cZ, 8400, .inl zf)), (wa, .inl (cA, 2, .inl (wI ww))), (fs, .inl (cA, 4, .inl mf)), (fm, .inl (cB, 256, .inl (upd ff 0 (i8 21))))] [] rfl rfl rfl rfl (by decide) rfl rfl rfl hl.1 rfl (Nat.le_of_ble_eq_true rfl) dX3_frame_131 ⟨Nat.le_of_ble_eq_true rfl, Nat.le_of_ble_eq_true rfl⟩ (fun H locs hP hD hS => ?_)
    refine lv_aload_n hx hb dX3_frame_134 rfl (lv_at hl 4 rfl) ?_
    refine lv_sipush (v := 160) hx hb dX3_frame_135 (by decide +kernel) ?_
    refine lv_iconst (v := 2) hx hb dX3_frame_138 (by decide) ?_
    refine lv_iload_n hx hb dX3_frame_139 rfl (lv_at hl 2 rfl) ?_
    refine lv_imul hx hb dX3_frame_140 ?_
    refine lv_iadd hx hb dX3_frame_141 ?_
    refine lv_iconst (v := 1) hx hb dX3_frame_142 (by decide) ?_
    refine lv_iadd hx hb dX3_frame_143 ?_
    refine cl0_vv ⟨hx, hb, hml, hown, hts⟩ (c_m_add l D cA cB cZ y len tp bb zz wa fs fm mk 1 (upd ff 0 (i8 21)) ((160 + (2 * 7)) + 1) (by omega)) (cwV 1 hts (gM_add _) rfl rfl rfl (by decide +kernel) ⟨Nat.le_of_ble_eq_true rfl, Nat.le_of_ble_eq_true rfl⟩) (ci := 3) (q0 := 0) rfl rfl hN hK hP hD hS hA [0, 5] [1, 2, 3, 4] [4, 0, 1, 2, 3, 5] [(bb, .inl (cB, 8400, .inl bf)), (zz, .inl (cZ, 8400, .inl zf)), (wa, .inl (cA, 2, .inl (wI ww))), (fs, .inl (cA, 4, .inl mf))] [(y, .inr (3, [.int 0, .int (nI len), .ref tp, .int (nI mk), .ref bb, .ref zz, .ref wa, .ref fs, .ref fm, .int (nI 2)])), (bb, .inl (cB, 8400, .inl bf)), (zz, .inl (cZ, 8400, .inl zf)), (wa, .inl (cA, 2, .inl (wI ww))), (fs, .inl (cA, 4, .inl mf)), (fm, .inl (cB, 256, .inl (upd (upd ff 0 (i8 21)) 1 (i8 ((160 + (2 * 7)) + 1)))))] [] rfl rfl rfl rfl (by decide) rfl rfl rfl hl.1 rfl (Nat.le_of_ble_eq_true rfl) dX3_frame_144 ⟨Nat.le_of_ble_eq_true rfl, Nat.le_of_ble_eq_true rfl⟩ (fun H locs hP hD hS => ?_)
    refine lv_aload_n hx hb dX3_frame_147 rfl (lv_at hl 4 rfl) ?_
    refine lv_aload_n hx hb dX3_frame_148 rfl (lv_at hl 4 rfl) ?_
    refine va_get (D := D) (ci := 3) (v := .ref fs) hx hb hts iX3 hown hK hP 0 rfl rfl 7 (by decide) lk24 (fun _ h => h) rfl dX3_frame_149 ?_
    refine lv_iconst (v := 0) hx hb dX3_frame_152 (by decide) ?_
    refine tp_i (y := nI 0) (rfl) ?_
    refine al_i (k := 0) hx hb hK hP 4 0 rfl rfl (by decide) (by decide) dX3_frame_153 ?_
    refine cl0_vv ⟨hx, hb, hml, hown, hts⟩ (c_m_add l D cA cB cZ y len tp bb zz wa fs fm mk 2 (upd (upd ff 0 (i8 21)) 1 (i8 ((160 + (2 * 7)) + 1))) (mf 0) (by omega)) (cwV 1 hts (gM_add _) rfl rfl rfl (by decide +kernel) ⟨Nat.le_of_ble_eq_true rfl, Nat.le_of_ble_eq_true rfl⟩) (ci := 3) (q0 := 0) rfl rfl hN hK hP hD hS hA [0, 5] [1, 2, 3, 4] [4, 0, 1, 2, 3, 5] [(bb, .inl (cB, 8400, .inl bf)), (zz, .inl (cZ, 8400, .inl zf)), (wa, .inl (cA, 2, .inl (wI ww))), (fs, .inl (cA, 4, .inl mf))] [(y, .inr (3, [.int 0, .int (nI len), .ref tp, .int (nI mk), .ref bb, .ref zz, .ref wa, .ref fs, .ref fm, .int (nI 3)])), (bb, .inl (cB, 8400, .inl bf)), (zz, .inl (cZ, 8400, .inl zf)), (wa, .inl (cA, 2, .inl (wI ww))), (fs, .inl (cA, 4, .inl mf)), (fm, .inl (cB, 256, .inl (upd (upd (upd ff 0 (i8 21)) 1 (i8 ((160 + (2 * 7)) + 1))) 2 (i8 (mf 0)))))] [] rfl rfl rfl rfl (by decide) rfl rfl rfl hl.1 rfl (Nat.le_of_ble_eq_true rfl) dX3_frame_154 ⟨Nat.le_of_ble_eq_true rfl, Nat.le_of_ble_eq_true rfl⟩ (fun H locs hP hD hS => ?_)
    refine lv_aload_n hx hb dX3_frame_157 rfl (lv_at hl 4 rfl) ?_
    refine lv_aload_n hx hb dX3_frame_158 rfl (lv_at hl 4 rfl) ?_
    refine va_get (D := D) (ci := 3) (v := .ref fs) hx hb hts iX3 hown hK hP 0 rfl rfl 7 (by decide) lk24 (fun _ h => h) rfl dX3_frame_159 ?_
    refine lv_iconst (v := 1) hx hb dX3_frame_162 (by decide) ?_
    refine lv_iload_n hx hb dX3_frame_163 rfl (lv_at hl 3 rfl) ?_
    refine lv_iadd hx hb dX3_frame_164 ?_
    refine tp_i (y := nI 3) (by decide) ?_
    refine al_i (k := 3) hx hb hK hP 4 0 rfl rfl (by decide) (by decide) dX3_frame_165 ?_
    refine cl0_vv ⟨hx, hb, hml, hown, hts⟩ (c_m_add l D cA cB cZ y len tp bb zz wa fs fm mk 3 (upd (upd (upd ff 0 (i8 21)) 1 (i8 ((160 + (2 * 7)) + 1))) 2 (i8 (mf 0))) (mf 3) (by omega)) (cwV 1 hts (gM_add _) rfl rfl rfl (by decide +kernel) ⟨Nat.le_of_ble_eq_true rfl, Nat.le_of_ble_eq_true rfl⟩) (ci := 3) (q0 := 0) rfl rfl hN hK hP hD hS hA [0, 5] [1, 2, 3, 4] [4, 0, 1, 2, 3, 5] [(bb, .inl (cB, 8400, .inl bf)), (zz, .inl (cZ, 8400, .inl zf)), (wa, .inl (cA, 2, .inl (wI ww))), (fs, .inl (cA, 4, .inl mf))] [(y, .inr (3, [.int 0, .int (nI len), .ref tp, .int (nI mk), .ref bb, .ref zz, .ref wa, .ref fs, .ref fm, .int (nI 4)])), (bb, .inl (cB, 8400, .inl bf)), (zz, .inl (cZ, 8400, .inl zf)), (wa, .inl (cA, 2, .inl (wI ww))), (fs, .inl (cA, 4, .inl mf)), (fm, .inl (cB, 256, .inl (upd (upd (upd (upd ff 0 (i8 21)) 1 (i8 ((160 + (2 * 7)) + 1))) 2 (i8 (mf 0))) 3 (i8 (mf 3)))))] [] rfl rfl rfl rfl (by decide) rfl rfl rfl hl.1 rfl (Nat.le_of_ble_eq_true rfl) dX3_frame_166 ⟨Nat.le_of_ble_eq_true rfl, Nat.le_of_ble_eq_true rfl⟩ (fun H locs hP hD hS => ?_)
    refine lv_aload_n hx hb dX3_frame_169 rfl (lv_at hl 4 rfl) ?_
    refine lv_bipush (v := 24) hx hb dX3_frame_170 (by decide +kernel) ?_
    refine lv_iload hx hb dX3_frame_172 (lv_at hl 0 rfl) ?_
    refine lv_sipush (v := 256) hx hb dX3_frame_174 (by decide +kernel) ?_
    refine lv_idiv hx hb dX3_frame_177 (by decide) ?_
    refine lv_iadd hx hb dX3_frame_178 ?_
    refine cl0_vv ⟨hx, hb, hml, hown, hts⟩ (c_m_add l D cA cB cZ y len tp bb zz wa fs fm mk 4 (upd (upd (upd (upd ff 0 (i8 21)) 1 (i8 ((160 + (2 * 7)) + 1))) 2 (i8 (mf 0))) 3 (i8 (mf 3))) (24 + (2046 / 256)) (by omega)) (cwV 1 hts (gM_add _) rfl rfl rfl (by decide +kernel) ⟨Nat.le_of_ble_eq_true rfl, Nat.le_of_ble_eq_true rfl⟩) (ci := 3) (q0 := 0) rfl rfl hN hK hP hD hS hA [0, 5] [1, 2, 3, 4] [4, 0, 1, 2, 3, 5] [(bb, .inl (cB, 8400, .inl bf)), (zz, .inl (cZ, 8400, .inl zf)), (wa, .inl (cA, 2, .inl (wI ww))), (fs, .inl (cA, 4, .inl mf))] [(y, .inr (3, [.int 0, .int (nI len), .ref tp, .int (nI mk), .ref bb, .ref zz, .ref wa, .ref fs, .ref fm, .int (nI 5)])), (bb, .inl (cB, 8400, .inl bf)), (zz, .inl (cZ, 8400, .inl zf)), (wa, .inl (cA, 2, .inl (wI ww))), (fs, .inl (cA, 4, .inl mf)), (fm, .inl (cB, 256, .inl (upd (upd (upd (upd (upd ff 0 (i8 21)) 1 (i8 ((160 + (2 * 7)) + 1))) 2 (i8 (mf 0))) 3 (i8 (mf 3))) 4 (i8 (24 + (2046 / 256))))))] [] rfl rfl rfl rfl (by decide) rfl rfl rfl hl.1 rfl (Nat.le_of_ble_eq_true rfl) dX3_frame_179 ⟨Nat.le_of_ble_eq_true rfl, Nat.le_of_ble_eq_true rfl⟩ (fun H locs hP hD hS => ?_)
    refine lv_aload_n hx hb dX3_frame_182 rfl (lv_at hl 4 rfl) ?_
    refine lv_iload hx hb dX3_frame_183 (lv_at hl 0 rfl) ?_
    refine cl0_vv ⟨hx, hb, hml, hown, hts⟩ (c_m_add l D cA cB cZ y len tp bb zz wa fs fm mk 5 (upd (upd (upd (upd (upd ff 0 (i8 21)) 1 (i8 ((160 + (2 * 7)) + 1))) 2 (i8 (mf 0))) 3 (i8 (mf 3))) 4 (i8 (24 + (2046 / 256)))) 2046 (by omega)) (cwV 1 hts (gM_add _) rfl rfl rfl (by decide +kernel) ⟨Nat.le_of_ble_eq_true rfl, Nat.le_of_ble_eq_true rfl⟩) (ci := 3) (q0 := 0) rfl rfl hN hK hP hD hS hA [0, 5] [1, 2, 3, 4] [4, 0, 1, 2, 3, 5] [(bb, .inl (cB, 8400, .inl bf)), (zz, .inl (cZ, 8400, .inl zf)), (wa, .inl (cA, 2, .inl (wI ww))), (fs, .inl (cA, 4, .inl mf))] [(y, .inr (3, [.int 0, .int (nI len), .ref tp, .int (nI mk), .ref bb, .ref zz, .ref wa, .ref fs, .ref fm, .int (nI 6)])), (bb, .inl (cB, 8400, .inl bf)), (zz, .inl (cZ, 8400, .inl zf)), (wa, .inl (cA, 2, .inl (wI ww))), (fs, .inl (cA, 4, .inl mf)), (fm, .inl (cB, 256, .inl (mA ff mf 7 3 2046)))] [] rfl rfl rfl rfl (by decide) rfl rfl rfl hl.1 rfl (Nat.le_of_ble_eq_true rfl) dX3_frame_185 ⟨Nat.le_of_ble_eq_true rfl, Nat.le_of_ble_eq_true rfl⟩ (fun H locs hP hD hS => ?_)
    refine lv_iconst (v := 0) hx hb dX3_frame_188 (by decide) ?_
    refine lv_istore (lv' := [(6, .int 0), (5, .int 2046), (4, .int (nI a)), (3, .int 7), (2, .int (nI 2)), (0, .ref y), (1, .int word)]) hx hb dX3_frame_189 hl (by decide) rfl (fun ls hl => ?_)
    have loop : ∀ (d j : Nat) (H : Heap) (locs : List Loc) (ls : Array Slot), j + d = a → va_P D vwCl [(y, .inr (3, [.int 0, .int (nI len), .ref tp, .int (nI mk), .ref bb, .ref zz, .ref wa, .ref fs, .ref fm, .int (nI (6 + j))])), (bb, .inl (cB, 8400, .inl bf)), (zz, .inl (cZ, 8400, .inl zf)), (wa, .inl (cA, 2, .inl (wI ww))), (fs, .inl (cA, 4, .inl mf)), (fm, .inl (cB, 256, .inl (lwr (mA ff mf 7 3 2046) 6 (fun _ => i8 85) j)))] H → va_D A [(y, .inr (3, [.int 0, .int (nI len), .ref tp, .int (nI mk), .ref bb, .ref zz, .ref wa, .ref fs, .ref fm, .int (nI (6 + j))])), (bb, .inl (cB, 8400, .inl bf)), (zz, .inl (cZ, 8400, .inl zf)), (wa, .inl (cA, 2, .inl (wI ww))), (fs, .inl (cA, 4, .inl mf)), (fm, .inl (cB, 256, .inl (lwr (mA ff mf 7 3 2046) 6 (fun _ => i8 85) j)))] → va_S A s.heap H locs → lv_has ls 7 [(6, .int (nI j)), (5, .int 2046), (4, .int (nI a)), (3, .int 7), (2, .int (nI 2)), (0, .ref y), (1, .int word)] → W p l e ({ frames := 2, cells := 0, slots := 0, locals := 50 } : Room) s m ([.ref y, .int word] : List Value).toArray below meth c H locs 0 0 Q (F0 m 191 ls []) := by
      intro d
      induction d with
      | zero =>
        intro j H locs ls hj hP hD hS hl
        have hj : j = a := hj
        rw [hj] at hP hD hl
        refine lv_iload hx hb dX3_frame_191 (lv_at hl 0 rfl) ?_
        refine lv_iload hx hb dX3_frame_193 (lv_at hl 2 rfl) ?_
        refine lv_icmp_ge (tgt := 231) hx hb dX3_frame_195 (by decide) (fun _ => ?_) (fun cc => absurd (nI_le (Nat.le_refl _) (by omega)) cc)
        refine lv_bipush (v := 24) hx hb dX3_frame_231 (by decide +kernel) ?_
        refine lv_istore (lv' := [(6, .int 24), (5, .int 2046), (4, .int (nI a)), (3, .int 7), (2, .int (nI 2)), (0, .ref y), (1, .int word)]) hx hb dX3_frame_233 hl (by decide) rfl (fun ls hl => ?_)
        refine lv_iload hx hb dX3_frame_235 (lv_at hl 0 rfl) ?_
        refine lv_if_lt (tgt := 254) hx hb dX3_frame_237 (by decide) (fun cc => absurd cc (by decide)) (fun _ => ?_)
        refine lv_aload_n hx hb dX3_frame_240 rfl (lv_at hl 5 rfl) ?_
        refine lv_iload_n hx hb dX3_frame_241 rfl (lv_at hl 6 rfl) ?_
        refine lv_iload hx hb dX3_frame_242 (lv_at hl 0 rfl) ?_
        refine lv_ishr hx hb dX3_frame_244 ?_
        refine cl0_vv ⟨hx, hb, hml, hown, hts⟩ (c_m_add l D cA cB cZ y len tp bb zz wa fs fm mk (6 + a) (lwr (mA ff mf 7 3 2046) 6 (fun _ => i8 85) a) (sra word 24) (by omega)) (cwV 1 hts (gM_add _) rfl rfl rfl (by decide +kernel) ⟨Nat.le_of_ble_eq_true rfl, Nat.le_of_ble_eq_true rfl⟩) (ci := 3) (q0 := 0) rfl rfl hN hK hP hD hS hA [0, 5] [1, 2, 3, 4] [4, 0, 1, 2, 3, 5] [(bb, .inl (cB, 8400, .inl bf)), (zz, .inl (cZ, 8400, .inl zf)), (wa, .inl (cA, 2, .inl (wI ww))), (fs, .inl (cA, 4, .inl mf))] [(y, .inr (3, [.int 0, .int (nI len), .ref tp, .int (nI mk), .ref bb, .ref zz, .ref wa, .ref fs, .ref fm, .int (nI (6 + a + 1))])), (bb, .inl (cB, 8400, .inl bf)), (zz, .inl (cZ, 8400, .inl zf)), (wa, .inl (cA, 2, .inl (wI ww))), (fs, .inl (cA, 4, .inl mf)), (fm, .inl (cB, 256, .inl (upd (lwr (mA ff mf 7 3 2046) 6 (fun _ => i8 85) a) (6 + a) (i8 (sra word 24)))))] [] rfl rfl rfl rfl (by decide) rfl rfl rfl hl.1 rfl (Nat.le_of_ble_eq_true rfl) dX3_frame_245 ⟨Nat.le_of_ble_eq_true rfl, Nat.le_of_ble_eq_true rfl⟩ (fun H locs hP hD hS => ?_)
        refine lv_iinc (v := 16) (lv' := [(6, .int 16), (5, .int 2046), (4, .int (nI a)), (3, .int 7), (2, .int (nI 2)), (0, .ref y), (1, .int word)]) hx hb dX3_frame_248 hl (k := 0) rfl (by decide) (by decide) rfl (fun ls hl => ?_)
        refine lv_goto (tgt := 235) hx hb dX3_frame_251 (by decide) ?_
        refine lv_iload hx hb dX3_frame_235 (lv_at hl 0 rfl) ?_
        refine lv_if_lt (tgt := 254) hx hb dX3_frame_237 (by decide) (fun cc => absurd cc (by decide)) (fun _ => ?_)
        refine lv_aload_n hx hb dX3_frame_240 rfl (lv_at hl 5 rfl) ?_
        refine lv_iload_n hx hb dX3_frame_241 rfl (lv_at hl 6 rfl) ?_
        refine lv_iload hx hb dX3_frame_242 (lv_at hl 0 rfl) ?_
        refine lv_ishr hx hb dX3_frame_244 ?_
        refine cl0_vv ⟨hx, hb, hml, hown, hts⟩ (c_m_add l D cA cB cZ y len tp bb zz wa fs fm mk (6 + a + 1) (upd (lwr (mA ff mf 7 3 2046) 6 (fun _ => i8 85) a) (6 + a) (i8 (sra word 24))) (sra word 16) (by omega)) (cwV 1 hts (gM_add _) rfl rfl rfl (by decide +kernel) ⟨Nat.le_of_ble_eq_true rfl, Nat.le_of_ble_eq_true rfl⟩) (ci := 3) (q0 := 0) rfl rfl hN hK hP hD hS hA [0, 5] [1, 2, 3, 4] [4, 0, 1, 2, 3, 5] [(bb, .inl (cB, 8400, .inl bf)), (zz, .inl (cZ, 8400, .inl zf)), (wa, .inl (cA, 2, .inl (wI ww))), (fs, .inl (cA, 4, .inl mf))] [(y, .inr (3, [.int 0, .int (nI len), .ref tp, .int (nI mk), .ref bb, .ref zz, .ref wa, .ref fs, .ref fm, .int (nI (6 + a + 2))])), (bb, .inl (cB, 8400, .inl bf)), (zz, .inl (cZ, 8400, .inl zf)), (wa, .inl (cA, 2, .inl (wI ww))), (fs, .inl (cA, 4, .inl mf)), (fm, .inl (cB, 256, .inl (upd (upd (lwr (mA ff mf 7 3 2046) 6 (fun _ => i8 85) a) (6 + a) (i8 (sra word 24))) (6 + a + 1) (i8 (sra word 16)))))] [] rfl rfl rfl rfl (by decide) rfl rfl rfl hl.1 rfl (Nat.le_of_ble_eq_true rfl) dX3_frame_245 ⟨Nat.le_of_ble_eq_true rfl, Nat.le_of_ble_eq_true rfl⟩ (fun H locs hP hD hS => ?_)
        refine lv_iinc (v := 8) (lv' := [(6, .int 8), (5, .int 2046), (4, .int (nI a)), (3, .int 7), (2, .int (nI 2)), (0, .ref y), (1, .int word)]) hx hb dX3_frame_248 hl (k := 0) rfl (by decide) (by decide) rfl (fun ls hl => ?_)
        refine lv_goto (tgt := 235) hx hb dX3_frame_251 (by decide) ?_
        refine lv_iload hx hb dX3_frame_235 (lv_at hl 0 rfl) ?_
        refine lv_if_lt (tgt := 254) hx hb dX3_frame_237 (by decide) (fun cc => absurd cc (by decide)) (fun _ => ?_)
        refine lv_aload_n hx hb dX3_frame_240 rfl (lv_at hl 5 rfl) ?_
        refine lv_iload_n hx hb dX3_frame_241 rfl (lv_at hl 6 rfl) ?_
        refine lv_iload hx hb dX3_frame_242 (lv_at hl 0 rfl) ?_
        refine lv_ishr hx hb dX3_frame_244 ?_
        refine cl0_vv ⟨hx, hb, hml, hown, hts⟩ (c_m_add l D cA cB cZ y len tp bb zz wa fs fm mk (6 + a + 2) (upd (upd (lwr (mA ff mf 7 3 2046) 6 (fun _ => i8 85) a) (6 + a) (i8 (sra word 24))) (6 + a + 1) (i8 (sra word 16))) (sra word 8) (by omega)) (cwV 1 hts (gM_add _) rfl rfl rfl (by decide +kernel) ⟨Nat.le_of_ble_eq_true rfl, Nat.le_of_ble_eq_true rfl⟩) (ci := 3) (q0 := 0) rfl rfl hN hK hP hD hS hA [0, 5] [1, 2, 3, 4] [4, 0, 1, 2, 3, 5] [(bb, .inl (cB, 8400, .inl bf)), (zz, .inl (cZ, 8400, .inl zf)), (wa, .inl (cA, 2, .inl (wI ww))), (fs, .inl (cA, 4, .inl mf))] [(y, .inr (3, [.int 0, .int (nI len), .ref tp, .int (nI mk), .ref bb, .ref zz, .ref wa, .ref fs, .ref fm, .int (nI (6 + a + 3))])), (bb, .inl (cB, 8400, .inl bf)), (zz, .inl (cZ, 8400, .inl zf)), (wa, .inl (cA, 2, .inl (wI ww))), (fs, .inl (cA, 4, .inl mf)), (fm, .inl (cB, 256, .inl (upd (upd (upd (lwr (mA ff mf 7 3 2046) 6 (fun _ => i8 85) a) (6 + a) (i8 (sra word 24))) (6 + a + 1) (i8 (sra word 16))) (6 + a + 2) (i8 (sra word 8)))))] [] rfl rfl rfl rfl (by decide) rfl rfl rfl hl.1 rfl (Nat.le_of_ble_eq_true rfl) dX3_frame_245 ⟨Nat.le_of_ble_eq_true rfl, Nat.le_of_ble_eq_true rfl⟩ (fun H locs hP hD hS => ?_)
        refine lv_iinc (v := 0) (lv' := [(6, .int 0), (5, .int 2046), (4, .int (nI a)), (3, .int 7), (2, .int (nI 2)), (0, .ref y), (1, .int word)]) hx hb dX3_frame_248 hl (k := 0) rfl (by decide) (by decide) rfl (fun ls hl => ?_)
        refine lv_goto (tgt := 235) hx hb dX3_frame_251 (by decide) ?_
        refine lv_iload hx hb dX3_frame_235 (lv_at hl 0 rfl) ?_
        refine lv_if_lt (tgt := 254) hx hb dX3_frame_237 (by decide) (fun cc => absurd cc (by decide)) (fun _ => ?_)
        refine lv_aload_n hx hb dX3_frame_240 rfl (lv_at hl 5 rfl) ?_
        refine lv_iload_n hx hb dX3_frame_241 rfl (lv_at hl 6 rfl) ?_
        refine lv_iload hx hb dX3_frame_242 (lv_at hl 0 rfl) ?_
        refine lv_ishr hx hb dX3_frame_244 ?_
        refine cl0_vv ⟨hx, hb, hml, hown, hts⟩ (c_m_add l D cA cB cZ y len tp bb zz wa fs fm mk (6 + a + 3) (upd (upd (upd (lwr (mA ff mf 7 3 2046) 6 (fun _ => i8 85) a) (6 + a) (i8 (sra word 24))) (6 + a + 1) (i8 (sra word 16))) (6 + a + 2) (i8 (sra word 8))) (sra word 0) (by omega)) (cwV 1 hts (gM_add _) rfl rfl rfl (by decide +kernel) ⟨Nat.le_of_ble_eq_true rfl, Nat.le_of_ble_eq_true rfl⟩) (ci := 3) (q0 := 0) rfl rfl hN hK hP hD hS hA [0, 5] [1, 2, 3, 4] [4, 0, 1, 2, 3, 5] [(bb, .inl (cB, 8400, .inl bf)), (zz, .inl (cZ, 8400, .inl zf)), (wa, .inl (cA, 2, .inl (wI ww))), (fs, .inl (cA, 4, .inl mf))] [(y, .inr (3, [.int 0, .int (nI len), .ref tp, .int (nI mk), .ref bb, .ref zz, .ref wa, .ref fs, .ref fm, .int (nI (6 + a + 4))])), (bb, .inl (cB, 8400, .inl bf)), (zz, .inl (cZ, 8400, .inl zf)), (wa, .inl (cA, 2, .inl (wI ww))), (fs, .inl (cA, 4, .inl mf)), (fm, .inl (cB, 256, .inl (mW (lwr (mA ff mf 7 3 2046) 6 (fun _ => i8 85) a) a word)))] [] rfl rfl rfl rfl (by decide) rfl rfl rfl hl.1 rfl (Nat.le_of_ble_eq_true rfl) dX3_frame_245 ⟨Nat.le_of_ble_eq_true rfl, Nat.le_of_ble_eq_true rfl⟩ (fun H locs hP hD hS => ?_)
        refine lv_iinc (v := (-8)) (lv' := [(6, .int (-8)), (5, .int 2046), (4, .int (nI a)), (3, .int 7), (2, .int (nI 2)), (0, .ref y), (1, .int word)]) hx hb dX3_frame_248 hl (k := 0) rfl (by decide) (by decide) rfl (fun ls hl => ?_)
        refine lv_goto (tgt := 235) hx hb dX3_frame_251 (by decide) ?_
        refine lv_iload hx hb dX3_frame_235 (lv_at hl 0 rfl) ?_
        refine lv_if_lt (tgt := 254) hx hb dX3_frame_237 (by decide) (fun _ => ?_) (fun cc => absurd (by decide) cc)
        refine lv_aload_n hx hb dX3_frame_254 rfl (lv_at hl 5 rfl) ?_
        refine cl0_vi ⟨hx, hb, hml, hown, hts⟩ (c_m_check l D cA cB cZ y len tp bb zz wa fs fm mk (6 + a + 4) (mW (lwr (mA ff mf 7 3 2046) 6 (fun _ => i8 85) a) a word) (by omega)) (cwV 0 hts (gM_check _) rfl rfl rfl (by decide +kernel) ⟨Nat.le_of_ble_eq_true rfl, Nat.le_of_ble_eq_true rfl⟩) (ci := 3) (q0 := 0) rfl rfl hN hK hP hD hS hA [0, 5] [1, 2, 3, 4] [4, 0, 1, 2, 3, 5] [(bb, .inl (cB, 8400, .inl bf)), (zz, .inl (cZ, 8400, .inl zf)), (wa, .inl (cA, 2, .inl (wI ww))), (fs, .inl (cA, 4, .inl mf))] [(y, .inr (3, [.int 0, .int (nI len), .ref tp, .int (nI mk), .ref bb, .ref zz, .ref wa, .ref fs, .ref fm, .int (nI (6 + a + 4))])), (bb, .inl (cB, 8400, .inl bf)), (zz, .inl (cZ, 8400, .inl zf)), (wa, .inl (cA, 2, .inl (wI ww))), (fs, .inl (cA, 4, .inl mf)), (fm, .inl (cB, 256, .inl (mW (lwr (mA ff mf 7 3 2046) 6 (fun _ => i8 85) a) a word)))] [] rfl rfl rfl rfl (by decide) rfl rfl rfl hl.1 rfl (Nat.le_of_ble_eq_true rfl) dX3_frame_255 ⟨Nat.le_of_ble_eq_true rfl, Nat.le_of_ble_eq_true rfl⟩ (fun H locs hP hD hS => ?_)
        refine lv_istore (lv' := [(6, .int (crcM (mW (lwr (mA ff mf 7 3 2046) 6 (fun _ => i8 85) a) a word) (6 + a + 4))), (5, .int 2046), (4, .int (nI a)), (3, .int 7), (2, .int (nI 2)), (0, .ref y), (1, .int word)]) hx hb dX3_frame_258 hl (by decide) rfl (fun ls hl => ?_)
        refine lv_aload_n hx hb dX3_frame_260 rfl (lv_at hl 5 rfl) ?_
        refine lv_iload hx hb dX3_frame_261 (lv_at hl 0 rfl) ?_
        refine lv_sipush (v := 256) hx hb dX3_frame_263 (by decide +kernel) ?_
        refine lv_idiv hx hb dX3_frame_266 (by decide) ?_
        refine cl0_vv ⟨hx, hb, hml, hown, hts⟩ (c_m_add l D cA cB cZ y len tp bb zz wa fs fm mk (6 + a + 4) (mW (lwr (mA ff mf 7 3 2046) 6 (fun _ => i8 85) a) a word) ((crcM (mW (lwr (mA ff mf 7 3 2046) 6 (fun _ => i8 85) a) a word) (6 + a + 4)) / 256) (by omega)) (cwV 1 hts (gM_add _) rfl rfl rfl (by decide +kernel) ⟨Nat.le_of_ble_eq_true rfl, Nat.le_of_ble_eq_true rfl⟩) (ci := 3) (q0 := 0) rfl rfl hN hK hP hD hS hA [0, 5] [1, 2, 3, 4] [4, 0, 1, 2, 3, 5] [(bb, .inl (cB, 8400, .inl bf)), (zz, .inl (cZ, 8400, .inl zf)), (wa, .inl (cA, 2, .inl (wI ww))), (fs, .inl (cA, 4, .inl mf))] [(y, .inr (3, [.int 0, .int (nI len), .ref tp, .int (nI mk), .ref bb, .ref zz, .ref wa, .ref fs, .ref fm, .int (nI (6 + a + 5))])), (bb, .inl (cB, 8400, .inl bf)), (zz, .inl (cZ, 8400, .inl zf)), (wa, .inl (cA, 2, .inl (wI ww))), (fs, .inl (cA, 4, .inl mf)), (fm, .inl (cB, 256, .inl (upd (mW (lwr (mA ff mf 7 3 2046) 6 (fun _ => i8 85) a) a word) (6 + a + 4) (i8 ((crcM (mW (lwr (mA ff mf 7 3 2046) 6 (fun _ => i8 85) a) a word) (6 + a + 4)) / 256)))))] [] rfl rfl rfl rfl (by decide) rfl rfl rfl hl.1 rfl (Nat.le_of_ble_eq_true rfl) dX3_frame_267 ⟨Nat.le_of_ble_eq_true rfl, Nat.le_of_ble_eq_true rfl⟩ (fun H locs hP hD hS => ?_)
        refine lv_aload_n hx hb dX3_frame_270 rfl (lv_at hl 5 rfl) ?_
        refine lv_iload hx hb dX3_frame_271 (lv_at hl 0 rfl) ?_
        refine cl0_vv ⟨hx, hb, hml, hown, hts⟩ (c_m_add l D cA cB cZ y len tp bb zz wa fs fm mk (6 + a + 5) (upd (mW (lwr (mA ff mf 7 3 2046) 6 (fun _ => i8 85) a) a word) (6 + a + 4) (i8 ((crcM (mW (lwr (mA ff mf 7 3 2046) 6 (fun _ => i8 85) a) a word) (6 + a + 4)) / 256))) (crcM (mW (lwr (mA ff mf 7 3 2046) 6 (fun _ => i8 85) a) a word) (6 + a + 4)) (by omega)) (cwV 1 hts (gM_add _) rfl rfl rfl (by decide +kernel) ⟨Nat.le_of_ble_eq_true rfl, Nat.le_of_ble_eq_true rfl⟩) (ci := 3) (q0 := 0) rfl rfl hN hK hP hD hS hA [0, 5] [1, 2, 3, 4] [4, 0, 1, 2, 3, 5] [(bb, .inl (cB, 8400, .inl bf)), (zz, .inl (cZ, 8400, .inl zf)), (wa, .inl (cA, 2, .inl (wI ww))), (fs, .inl (cA, 4, .inl mf))] [(y, .inr (3, [.int 0, .int (nI len), .ref tp, .int (nI mk), .ref bb, .ref zz, .ref wa, .ref fs, .ref fm, .int (nI (6 + a + 6))])), (bb, .inl (cB, 8400, .inl bf)), (zz, .inl (cZ, 8400, .inl zf)), (wa, .inl (cA, 2, .inl (wI ww))), (fs, .inl (cA, 4, .inl mf)), (fm, .inl (cB, 256, .inl (mL ff mf 7 3 2046 (fun _ => i8 85) a word)))] [] rfl rfl rfl rfl (by decide) rfl rfl rfl hl.1 rfl (Nat.le_of_ble_eq_true rfl) dX3_frame_273 ⟨Nat.le_of_ble_eq_true rfl, Nat.le_of_ble_eq_true rfl⟩ (fun H locs hP hD hS => ?_)
        refine lv_iload_n hx hb dX3_frame_276 rfl (lv_at hl 4 rfl) ?_
        refine lv_iconst (v := 2) hx hb dX3_frame_277 (by decide) ?_
        refine lv_icmp_ge (tgt := 288) hx hb dX3_frame_278 (by decide) (fun _ => ?_) (fun cc => absurd (by decide) cc)
        refine lv_aload_n hx hb dX3_frame_288 rfl (lv_at hl 5 rfl) ?_
        refine va_get (D := D) (ci := 3) (v := .ref fs) hx hb hts iX3 hown hK hP 0 rfl rfl 7 (by decide) lk24 (fun _ h => h) rfl dX3_frame_289 ?_
        refine lv_iconst (v := 0) hx hb dX3_frame_292 (by decide) ?_
        refine tp_i (y := nI 0) (rfl) ?_
        refine lv_dup2_11 hx hb dX3_frame_293 rfl rfl ?_
        refine al_i (k := 0) hx hb hK hP 4 0 rfl rfl (by decide) (by decide) dX3_frame_294 ?_
        refine lv_iconst (v := 1) hx hb dX3_frame_295 (by decide) ?_
        refine lv_iadd hx hb dX3_frame_296 ?_
        refine as_i (k := 0) (x := ((mf 0) + 1)) hx hb hK hP hD hS 4 0 rfl rfl (by decide) (by decide) dX3_frame_297 (fun H locs hP hD hS => ?_)
        have hP : va_P D vwCl [(y, .inr (3, [.int 0, .int (nI len), .ref tp, .int (nI mk), .ref bb, .ref zz, .ref wa, .ref fs, .ref fm, .int (nI (6 + a + 6))])), (bb, .inl (cB, 8400, .inl bf)), (zz, .inl (cZ, 8400, .inl zf)), (wa, .inl (cA, 2, .inl (wI ww))), (fs, .inl (cA, 4, .inl (upd mf 0 ((mf 0) + 1)))), (fm, .inl (cB, 256, .inl (mL ff mf 7 3 2046 (fun _ => i8 85) a word)))] H := hP
        have hD : va_D A [(y, .inr (3, [.int 0, .int (nI len), .ref tp, .int (nI mk), .ref bb, .ref zz, .ref wa, .ref fs, .ref fm, .int (nI (6 + a + 6))])), (bb, .inl (cB, 8400, .inl bf)), (zz, .inl (cZ, 8400, .inl zf)), (wa, .inl (cA, 2, .inl (wI ww))), (fs, .inl (cA, 4, .inl (upd mf 0 ((mf 0) + 1)))), (fm, .inl (cB, 256, .inl (mL ff mf 7 3 2046 (fun _ => i8 85) a word)))] := hD
        refine lv_aload_n hx hb dX3_frame_298 rfl (lv_at hl 5 rfl) ?_
        refine va_get (D := D) (ci := 3) (v := .ref fs) hx hb hts iX3 hown hK hP 0 rfl rfl 7 (by decide) lk24 (fun _ h => h) rfl dX3_frame_299 ?_
        refine lv_iconst (v := 1) hx hb dX3_frame_302 (by decide) ?_
        refine lv_iload_n hx hb dX3_frame_303 rfl (lv_at hl 4 rfl) ?_
        refine lv_iadd hx hb dX3_frame_304 ?_
        refine tp_i (y := nI 3) (by decide) ?_
        refine lv_dup2_11 hx hb dX3_frame_305 rfl rfl ?_
        refine al_i (k := 3) hx hb hK hP 4 0 rfl rfl (by decide) (by decide) dX3_frame_306 ?_
        refine lv_iconst (v := 1) hx hb dX3_frame_307 (by decide) ?_
        refine lv_iadd hx hb dX3_frame_308 ?_
        refine as_i (k := 3) (x := (((upd mf 0 ((mf 0) + 1)) 3) + 1)) hx hb hK hP hD hS 4 0 rfl rfl (by decide) (by decide) dX3_frame_309 (fun H locs hP hD hS => ?_)
        have hP : va_P D vwCl [(y, .inr (3, [.int 0, .int (nI len), .ref tp, .int (nI mk), .ref bb, .ref zz, .ref wa, .ref fs, .ref fm, .int (nI (6 + a + 6))])), (bb, .inl (cB, 8400, .inl bf)), (zz, .inl (cZ, 8400, .inl zf)), (wa, .inl (cA, 2, .inl (wI ww))), (fs, .inl (cA, 4, .inl (upd (upd mf 0 ((mf 0) + 1)) 3 (((upd mf 0 ((mf 0) + 1)) 3) + 1)))), (fm, .inl (cB, 256, .inl (mL ff mf 7 3 2046 (fun _ => i8 85) a word)))] H := hP
        have hD : va_D A [(y, .inr (3, [.int 0, .int (nI len), .ref tp, .int (nI mk), .ref bb, .ref zz, .ref wa, .ref fs, .ref fm, .int (nI (6 + a + 6))])), (bb, .inl (cB, 8400, .inl bf)), (zz, .inl (cZ, 8400, .inl zf)), (wa, .inl (cA, 2, .inl (wI ww))), (fs, .inl (cA, 4, .inl (upd (upd mf 0 ((mf 0) + 1)) 3 (((upd mf 0 ((mf 0) + 1)) 3) + 1)))), (fm, .inl (cB, 256, .inl (mL ff mf 7 3 2046 (fun _ => i8 85) a word)))] := hD
        refine lv_iload_n hx hb dX3_frame_310 rfl (lv_at hl 3 rfl) ?_
        rw [show 6 + a + 6 = len by omega] at hP hD
        exact hex _ _ _ _ _ () hS (rfl) hP hD dX3_frame_311
      | succ d ih =>
        intro j H locs ls hj hP hD hS hl
        refine lv_iload hx hb dX3_frame_191 (lv_at hl 0 rfl) ?_
        refine lv_iload hx hb dX3_frame_193 (lv_at hl 2 rfl) ?_
        refine lv_icmp_ge (tgt := 231) hx hb dX3_frame_195 (by decide) (fun cc => absurd cc (nI_ge (by omega) (by omega))) (fun _ => ?_)
        refine lv_aload_n hx hb dX3_frame_198 rfl (lv_at hl 5 rfl) ?_
        refine lv_iload_n hx hb dX3_frame_199 rfl (lv_at hl 4 rfl) ?_
        refine lv_iconst (v := 2) hx hb dX3_frame_200 (by decide) ?_
        refine lv_icmp_ne (tgt := 209) hx hb dX3_frame_201 (by decide) (fun cc => absurd (rfl) cc) (fun _ => ?_)
        refine lv_bipush (v := 85) hx hb dX3_frame_204 (by decide +kernel) ?_
        refine lv_goto (tgt := 222) hx hb dX3_frame_206 (by decide) ?_
        refine cl0_vv ⟨hx, hb, hml, hown, hts⟩ (c_m_add l D cA cB cZ y len tp bb zz wa fs fm mk (6 + j) (lwr (mA ff mf 7 3 2046) 6 (fun _ => i8 85) j) 85 (by omega)) (cwV 1 hts (gM_add _) rfl rfl rfl (by decide +kernel) ⟨Nat.le_of_ble_eq_true rfl, Nat.le_of_ble_eq_true rfl⟩) (ci := 3) (q0 := 0) rfl rfl hN hK hP hD hS hA [0, 5] [1, 2, 3, 4] [4, 0, 1, 2, 3, 5] [(bb, .inl (cB, 8400, .inl bf)), (zz, .inl (cZ, 8400, .inl zf)), (wa, .inl (cA, 2, .inl (wI ww))), (fs, .inl (cA, 4, .inl mf))] [(y, .inr (3, [.int 0, .int (nI len), .ref tp, .int (nI mk), .ref bb, .ref zz, .ref wa, .ref fs, .ref fm, .int (nI (6 + (j + 1)))])), (bb, .inl (cB, 8400, .inl bf)), (zz, .inl (cZ, 8400, .inl zf)), (wa, .inl (cA, 2, .inl (wI ww))), (fs, .inl (cA, 4, .inl mf)), (fm, .inl (cB, 256, .inl (lwr (mA ff mf 7 3 2046) 6 (fun _ => i8 85) (j + 1))))] [] rfl rfl rfl rfl (by decide) rfl rfl rfl hl.1 rfl (Nat.le_of_ble_eq_true rfl) dX3_frame_222 ⟨Nat.le_of_ble_eq_true rfl, Nat.le_of_ble_eq_true rfl⟩ (fun H locs hP hD hS => ?_)
        refine lv_iinc (v := nI (j + 1)) (lv' := [(6, .int (nI (j + 1))), (5, .int 2046), (4, .int (nI a)), (3, .int 7), (2, .int (nI 2)), (0, .ref y), (1, .int word)]) hx hb dX3_frame_225 hl (k := 0) rfl (nI_1 _) (by decide) rfl (fun ls hl => ?_)
        refine lv_goto (tgt := 191) hx hb dX3_frame_228 (by decide) ?_
        exact ih (j + 1) H locs ls (by omega) hP hD hS (lv_sub hl [0, 1, 2, 3, 4, 5, 6] rfl)
    exact loop a 0 _ _ ls (by omega) hP hD hS (lv_sub hl [0, 1, 2, 3, 4, 5, 6] rfl)
  refine lv_icmp_ge (tgt := 103) hx hb dX3_frame_56 (by decide) (fun _ => ?_) (fun cc => absurd (by decide) cc)
  exact tail _ _ ls hP hD hS (lv_sub hl [0, 1, 2, 3, 4] rfl)
end
section
/-! ===== Int32 by its bits: bt x i ===== -/
def bt (x : Int32) (i : Nat) : Bool := x.toBitVec.getLsbD i
theorem b_ext {x y : Int32} (h : ∀ i, i < 32 → bt x i = bt y i) : x = y := Int32.toBitVec_inj.mp (BitVec.eq_of_getLsbD_eq (fun i hi => h i hi))
theorem b_or (x y : Int32) (i : Nat) : bt (x ||| y) i = (bt x i || bt y i) := by unfold bt; rw [Int32.toBitVec_or, BitVec.getLsbD_or]
theorem b_and (x y : Int32) (i : Nat) : bt (x &&& y) i = (bt x i && bt y i) := by unfold bt; rw [Int32.toBitVec_and, BitVec.getLsbD_and]
theorem b_xor (x y : Int32) (i : Nat) : bt (x ^^^ y) i = (bt x i ^^ bt y i) := by unfold bt; rw [Int32.toBitVec_xor, BitVec.getLsbD_xor]
theorem b_big {x : Int32} {i : Nat} (h : 32 ≤ i) : bt x i = false := BitVec.getLsbD_of_ge _ _ h
theorem b_255 (i : Nat) : bt 255 i = decide (i < 8) := by
  rcases Nat.lt_or_ge i 32 with h | h
  · exact (by decide +kernel : ∀ i, i < 32 → bt 255 i = decide (i < 8)) i h
  · rw [b_big h, decide_eq_false (by omega)]
theorem b_65535 (i : Nat) : bt 65535 i = decide (i < 16) := by
  rcases Nat.lt_or_ge i 32 with h | h
  · exact (by decide +kernel : ∀ i, i < 32 → bt 65535 i = decide (i < 16)) i h
  · rw [b_big h, decide_eq_false (by omega)]
theorem b_m1 : ∀ i, i < 32 → bt (-1) i = true := by decide +kernel
theorem b_0 (i : Nat) : bt 0 i = false := BitVec.getLsbD_zero
theorem s_l : ∀ n, n < 32 → ((nI n &&& 31).toBitVec.smod 32).toNat = n := by decide +kernel
theorem s_u : ∀ n, n < 32 → (((nI n).toUInt32 &&& Int32.toUInt32 31).toBitVec % 32).toNat = n := by decide +kernel
theorem b_shl (n : Nat) (hn : n < 32) (x : Int32) {i : Nat} (hi : i < 32) : bt (x <<< (nI n &&& 31)) i = (decide (n ≤ i) && bt x (i - n)) := by
  unfold bt
  rw [Int32.toBitVec_shiftLeft]
  show (x.toBitVec <<< ((nI n &&& 31).toBitVec.smod 32).toNat).getLsbD i = _
  rw [s_l n hn, BitVec.getLsbD_shiftLeft]
  rcases Nat.lt_or_ge i n with h | h
  · simp [h, Nat.not_le.mpr h]
  · simp [hi, h, Nat.not_lt.mpr h]
theorem b_ushr (n : Nat) (hn : n < 32) (x : Int32) (i : Nat) : bt ((x.toUInt32 >>> ((nI n).toUInt32 &&& Int32.toUInt32 31)).toInt32) i = bt x (n + i) := by
  show (x.toUInt32 >>> ((nI n).toUInt32 &&& Int32.toUInt32 31)).toBitVec.getLsbD i = x.toUInt32.toBitVec.getLsbD (n + i)
  rw [UInt32.toBitVec_shiftRight]
  show (x.toUInt32.toBitVec >>> (((nI n).toUInt32 &&& Int32.toUInt32 31).toBitVec % 32).toNat).getLsbD i = _
  rw [s_u n hn, BitVec.getLsbD_ushiftRight]
theorem b_sshr (n : Nat) (hn : n < 32) (x : Int32) {i : Nat} (hi : i < 32) : bt (x >>> (nI n &&& 31)) i = if n + i < 32 then bt x (n + i) else bt x 31 := by
  unfold bt
  rw [Int32.toBitVec_shiftRight]
  show (x.toBitVec.sshiftRight ((nI n &&& 31).toBitVec.smod 32).toNat).getLsbD i = _
  rw [s_l n hn, BitVec.getLsbD_sshiftRight, BitVec.msb_eq_getLsbD_last]
  simp [hi]
theorem nx_and (a b : Nat) : nI a &&& nI b = nI (a &&& b) := by
  apply Int32.toBitVec_inj.1
  show BitVec.ofNat 32 a &&& BitVec.ofNat 32 b = BitVec.ofNat 32 (a &&& b)
  apply BitVec.eq_of_getLsbD_eq
  intro i hi
  simp [hi]
theorem nx_xor (a b : Nat) : nI a ^^^ nI b = nI (a ^^^ b) := by
  apply Int32.toBitVec_inj.1
  show BitVec.ofNat 32 a ^^^ BitVec.ofNat 32 b = BitVec.ofNat 32 (a ^^^ b)
  apply BitVec.eq_of_getLsbD_eq
  intro i hi
  simp [hi]
theorem bp_b (x : Int32) : x.toInt8.toInt32 &&& 255 = x &&& 255 := by
  apply Int32.toBitVec_inj.mp
  rw [Int32.toBitVec_and, Int32.toBitVec_and, Int8.toBitVec_toInt32, Int32.toBitVec_toInt8]
  apply BitVec.eq_of_getLsbD_eq
  intro i hi
  rw [BitVec.getLsbD_and, BitVec.getLsbD_and]
  have hm : ∀ i < 32, 8 ≤ i → (255 : Int32).toBitVec.getLsbD i = false := by decide
  rcases Nat.lt_or_ge i 8 with z | z
  · rw [BitVec.getLsbD_signExtend, BitVec.getLsbD_signExtend, if_pos z, if_pos hi]
    simp only [z, hi, decide_true, Bool.true_and]
  · rw [hm i hi z]; simp
theorem wb_c : ∀ k, k < 64 → ((nI k).toInt64 &&& 63) = lN k := by decide +kernel
theorem wb_cu : ∀ k, k < 64 → ((nI k).toInt64.toUInt64 &&& Int64.toUInt64 63) = UInt64.ofNat k := by decide +kernel
theorem wb_sm : ∀ k, k < 64 → (BitVec.ofNat 64 k).smod 64 = BitVec.ofNat 64 k := by decide +kernel
-- my own
theorem i8_and (x : Int32) : i8 x &&& 255 = x &&& 255 := bp_b x
theorem and_255_255 (x : Int32) : (x &&& 255) &&& 255 = x &&& 255 := by
  refine b_ext (fun i _ => ?_)
  rw [b_and, b_and, b_255]
  cases bt x i <;> cases decide (i < 8) <;> rfl
theorem b_256 (i : Nat) : bt 256 i = decide (i = 8) := by
  rcases Nat.lt_or_ge i 32 with h | h
  · exact (by decide +kernel : ∀ i, i < 32 → bt 256 i = decide (i = 8)) i h
  · rw [b_big h, decide_eq_false (by omega)]
theorem and_255_256 (x : Int32) : (x &&& 255) &&& 256 = 0 := by
  refine b_ext (fun i _ => ?_)
  rw [b_and, b_and, b_255, b_256, b_0]
  by_cases h : i = 8
  · subst h; simp
  · simp [h]
theorem or_256_255 (x : Int32) : (256 ||| x) &&& 255 = x &&& 255 := by
  refine b_ext (fun i _ => ?_)
  rw [b_and, b_and, b_or, b_255, b_256]
  by_cases h : i < 8
  · simp [h, show ¬ i = 8 by omega]
  · simp [h]
theorem or_256_256 (x : Int32) : ¬ (256 ||| x) &&& 256 = 0 := by
  intro h
  have h1 : bt ((256 ||| x) &&& 256) 8 = bt 0 8 := by rw [h]
  rw [b_and, b_or, b_256, b_0] at h1
  simp at h1
theorem and_1 (x : Int32) : x &&& 1 = 0 ∨ x &&& 1 = 1 := by
  rw [pk_and x 1 (by decide)]
  have h : x.toBitVec.toNat % 2 ^ 1 < 2 := Nat.mod_lt _ (by decide)
  rcases (show x.toBitVec.toNat % 2 ^ 1 = 0 ∨ x.toBitVec.toNat % 2 ^ 1 = 1 by omega) with e | e
  · rw [e]; exact Or.inl rfl
  · rw [e]; exact Or.inr rfl
theorem wb3 (x : Int32) : ush (ush x 16) 8 &&& 255 = sra x 24 &&& 255 := by
  refine b_ext (fun i hi => ?_)
  rw [b_and, b_and, b_255]
  by_cases h : i < 8
  · rw [show bt (ush (ush x 16) 8) i = bt (ush x 16) (8 + i) from b_ushr 8 (by decide) _ _, show bt (ush x 16) (8 + i) = bt x (16 + (8 + i)) from b_ushr 16 (by decide) _ _, show bt (sra x 24) i = _ from b_sshr 24 (by decide) x hi, if_pos (by omega), show 16 + (8 + i) = 24 + i by omega]
  · simp [h]
theorem wb2 (x : Int32) : ush x 16 &&& 255 = sra x 16 &&& 255 := by
  refine b_ext (fun i hi => ?_)
  rw [b_and, b_and, b_255]
  by_cases h : i < 8
  · rw [show bt (ush x 16) i = bt x (16 + i) from b_ushr 16 (by decide) _ _, show bt (sra x 16) i = _ from b_sshr 16 (by decide) x hi, if_pos (by omega)]
  · simp [h]
theorem wb1 (x : Int32) : ush x 8 &&& 255 = sra x 8 &&& 255 := by
  refine b_ext (fun i hi => ?_)
  rw [b_and, b_and, b_255]
  by_cases h : i < 8
  · rw [show bt (ush x 8) i = bt x (8 + i) from b_ushr 8 (by decide) _ _, show bt (sra x 8) i = _ from b_sshr 8 (by decide) x hi, if_pos (by omega)]
  · simp [h]
theorem wb0 (x : Int32) : x &&& 255 = sra x 0 &&& 255 := by rw [show sra x 0 = x from sb_shr0 x]
theorem b_l2i (x : Int64) {i : Nat} (hi : i < 32) : bt x.toInt32 i = x.toBitVec.getLsbD i := by
  unfold bt
  rw [Int64.toBitVec_toInt32, BitVec.getLsbD_signExtend, if_pos (by omega)]
  simp [hi]
theorem gsh (w : Int64) (k : Nat) (hk : k ≤ 56) : (lsh w (nI k)).toInt32 &&& 255 = (lsa w (nI k)).toInt32 &&& 255 := by
  refine b_ext (fun i hi => ?_)
  rw [b_and, b_and, b_255]
  by_cases h : i < 8
  · rw [b_l2i _ hi, b_l2i _ hi]
    unfold lsh lsa
    rw [wb_cu k (by omega), wb_c k (by omega), Int64.toBitVec_shiftRight]
    show ((w.toUInt64 >>> UInt64.ofNat k).toBitVec.getLsbD i && _) = ((w.toBitVec.sshiftRight ((BitVec.ofNat 64 k).smod 64).toNat).getLsbD i && _)
    rw [wb_sm k (by omega), UInt64.toBitVec_shiftRight]
    show ((w.toBitVec >>> ((BitVec.ofNat 64 k) % 64).toNat).getLsbD i && _) = _
    rw [BitVec.getLsbD_ushiftRight, BitVec.getLsbD_sshiftRight]
    have e : ((BitVec.ofNat 64 k) % 64).toNat = k := by simp; omega
    have e2 : (BitVec.ofNat 64 k).toNat = k := by simp; omega
    rw [e, e2]
    simp [show k + i < 64 by omega, show ¬ 64 ≤ i by omega]
  · simp [h]
theorem gv_eq (w : Int64) (i : Nat) (hi : i < 8) : gvb w i = gvm w i &&& 255 := by
  have hs : (56 : Int32) - (8 * nI i) = nI (56 - 8 * i) := by
    rw [show (8 : Int32) = nI 8 from rfl, pk_mul, show (56 : Int32) = nI 56 from rfl, pk_sub (by omega)]
  unfold gvb gvm
  rw [i8_and, hs]
  exact gsh w _ (by omega)
end
section
-- THE RELATION between the class's rows and the reference's
/-- bytes: the class holds 0 .. 255, the reference signed ones -/
def rowR (f g : Nat → Int32) (k : Nat) : Prop := ∀ j, j < k → f j = g j &&& 255
theorem rowR_0 (f g : Nat → Int32) : rowR f g 0 := fun _ h => absurd h (Nat.not_lt_zero _)
theorem rowR_upd {f g : Nat → Int32} {k : Nat} {x y : Int32} (h : rowR f g k) (e : x = y &&& 255) : rowR (upd f k x) (upd g k (i8 y)) (k + 1) := by
  intro j hj
  by_cases q : j = k
  · subst q; rw [pk_us, pk_us, i8_and]; exact e
  · rw [pk_un q, pk_un q]; exact h j (by omega)
theorem rowR_lwr {f g a b : Nat → Int32} {k : Nat} (h : rowR f g k) : ∀ {m : Nat}, (∀ i, i < m → a i = b i &&& 255) → rowR (lwr f k a m) (lwr g k b m) (k + m) := by
  intro m e j hj
  rcases Nat.lt_or_ge j k with q | q
  · rw [lwr_out (Or.inl q), lwr_out (Or.inl q)]; exact h j q
  · obtain ⟨i, rfl⟩ : ∃ i, j = k + i := ⟨j - k, by omega⟩
    rw [lwr_in (by omega), lwr_in (by omega)]; exact e i (by omega)
theorem rowR_le {f g : Nat → Int32} {k m : Nat} (h : rowR f g k) (hm : m ≤ k) : rowR f g m := fun j hj => h j (by omega)
theorem byte_nI (x : Int32) : ∃ b, b < 256 ∧ x &&& 255 = nI b := pk_andE x 8 (by decide)
/-- the two checks are one number, below 65536 -/
theorem crS_eq (c : Int32) : crS c = crSM c := by unfold crS crSM; rw [Int32.mul_comm]
theorem crB_eq : ∀ (n : Nat) (c : Int32), crB n c = crBM n c
  | 0, _ => rfl
  | n + 1, c => by show crB n (crS c) = crBM n (crSM c); rw [crS_eq, crB_eq n]
theorem crc_eq {f g : Nat → Int32} : ∀ {k : Nat}, rowR f g k → crc f k = crcM g k
  | 0, _ => rfl
  | k + 1, h => by
    show crB 8 (crc f k ^^^ (f k * 256)) = crBM 8 (crcM g k ^^^ ((g k &&& 255) * 256))
    rw [crB_eq, crc_eq (rowR_le h (Nat.le_succ k)), h k (Nat.lt_succ_self k)]
theorem xor16a {x y : Nat} (hx : x < 2 ^ 16) (hy : y < 2 ^ 16) : (2 ^ 16 + x) ^^^ (2 ^ 16 + y) < 2 ^ 16 := by
  apply Nat.lt_pow_two_of_testBit
  intro i hi
  rw [Nat.testBit_xor]
  by_cases q : i = 16
  · subst q
    rw [Nat.testBit_two_pow_add_eq, Nat.testBit_two_pow_add_eq, Nat.testBit_lt_two_pow hx, Nat.testBit_lt_two_pow hy]
    rfl
  · have h17 : 2 ^ 17 ≤ 2 ^ i := Nat.pow_le_pow_right (by decide) (by omega)
    rw [Nat.testBit_lt_two_pow (Nat.lt_of_lt_of_le (show 2 ^ 16 + x < 2 ^ 17 from Nat.add_lt_add_left hx _) h17), Nat.testBit_lt_two_pow (Nat.lt_of_lt_of_le (show 2 ^ 16 + y < 2 ^ 17 from Nat.add_lt_add_left hy _) h17)]
    rfl
theorem xor16 {a b : Nat} (ha : a < 131072) (h1 : 65536 ≤ a) (hb : b < 131072) (h2 : 65536 ≤ b) : a ^^^ b < 65536 := by
  have h := xor16a (x := a - 65536) (y := b - 65536) (show a - 65536 < 65536 by omega) (show b - 65536 < 65536 by omega)
  rw [show 2 ^ 16 + (a - 65536) = a from (show 65536 + (a - 65536) = a by omega), show 2 ^ 16 + (b - 65536) = b from (show 65536 + (b - 65536) = b by omega)] at h
  exact h
theorem crS_b {m : Nat} (hm : m < 65536) : ∃ q, q < 65536 ∧ crS (nI m) = nI q := by
  unfold crS
  rw [show (2 : Int32) = nI 2 from rfl, pk_mul, show (65536 : Int32) = nI 65536 from rfl, show (69665 : Int32) = nI 69665 from rfl, nx_xor]
  by_cases h : m * 2 < 65536
  · rw [if_pos (nI_lt h (by decide))]; exact ⟨_, h, rfl⟩
  · rw [if_neg (nI_nlt (by omega) (by omega))]; exact ⟨_, xor16 (by omega) (by omega) (by decide) (by decide), rfl⟩
theorem crB_b : ∀ (n : Nat) {m : Nat}, m < 65536 → ∃ q, q < 65536 ∧ crB n (nI m) = nI q
  | 0, m, hm => ⟨m, hm, rfl⟩
  | n + 1, m, hm => by
    obtain ⟨q, hq, e⟩ := crS_b hm
    show ∃ q, q < 65536 ∧ crB n (crS (nI m)) = nI q
    rw [e]; exact crB_b n hq
theorem crc_b {f g : Nat → Int32} : ∀ {k : Nat}, rowR f g k → ∃ q, q < 65536 ∧ crc f k = nI q
  | 0, _ => ⟨65535, by decide, rfl⟩
  | k + 1, h => by
    obtain ⟨q, hq, e⟩ := crc_b (rowR_le h (Nat.le_succ k))
    obtain ⟨b, hb, eb⟩ := byte_nI (g k)
    show ∃ q, q < 65536 ∧ crB 8 (crc f k ^^^ (f k * 256)) = nI q
    rw [e, h k (Nat.lt_succ_self k), eb, show (256 : Int32) = nI 256 from rfl, pk_mul, nx_xor]
    exact crB_b 8 (Nat.xor_lt_two_pow (n := 16) (by omega) (by omega))
theorem crc_hi {q : Nat} (hq : q < 65536) : ush (nI q) 8 = nI q / 256 := by
  rw [show (256 : Int32) = nI 256 from rfl, pk_div (by omega) (by decide) (by decide)]
  exact pk_ushrN (by omega) 8 8 (by decide)
/-- a channel's ring and the reference's row from s on -/
def chR (f : Nat → Int32) (h k : Nat) (bf zf : Nat → Int32) (s : Nat) : Prop := ∀ j, j < k → f ((h + j) % 4096) &&& 255 = bf (s + j) &&& 255 ∧ (f ((h + j) % 4096) &&& 256 = 0 ↔ zf (s + j) = 0)
/-- m marked bytes come behind -/
theorem chR_app {f : Nat → Int32} {h k : Nat} {bf zf : Nat → Int32} {s m : Nat} {a b z : Nat → Int32} (hR : chR f h k bf zf s) (hm : k + m ≤ 4096) (e : ∀ i, i < m → a i &&& 255 = b i &&& 255 ∧ (a i &&& 256 = 0 ↔ z i = 0)) : chR (rwr f (h + k) a m) h (k + m) (lwr bf (s + k) b m) (lwr zf (s + k) z m) s := by
  intro j hj
  rcases Nat.lt_or_ge j k with q | q
  · rw [rq_lo q hm, lwr_out (Or.inl (by omega)), lwr_out (Or.inl (by omega))]; exact hR j q
  · obtain ⟨i, rfl⟩ : ∃ i, j = k + i := ⟨j - k, by omega⟩
    rw [rq_hi (by omega) (by omega), ← Nat.add_assoc, lwr_in (by omega), lwr_in (by omega)]; exact e i (by omega)
/-- what is written elsewhere doesn't matter -/
theorem chR_out {f : Nat → Int32} {h k : Nat} {bf zf : Nat → Int32} {s t m n : Nat} {b z : Nat → Int32} (hR : chR f h k bf zf s) (hd : s + k ≤ t ∨ t + m ≤ s) (hd2 : s + k ≤ t ∨ t + n ≤ s) : chR f h k (lwr bf t b m) (lwr zf t z n) s := by
  intro j hj
  rw [lwr_out (by omega), lwr_out (by omega)]; exact hR j hj
/-- a of them have left -/
theorem chR_left {f : Nat → Int32} {h k : Nat} {bf zf : Nat → Int32} {s a : Nat} (hR : chR f h k bf zf s) (ha : a ≤ k) (hz : ∀ j, zf j = 0 ∨ zf j = 1) : chR f ((h + a) % 4096) (k - a) (lwr bf s (fun i => i8 (bf (s + i + a))) (k - a)) (lwr zf s (fun i => zf (s + i + a) &&& 1) (k - a)) s := by
  intro j hj
  obtain ⟨h1, h2⟩ := hR (j + a) (by omega)
  rw [lwr_in hj, lwr_in hj, show ((h + a) % 4096 + j) % 4096 = (h + (j + a)) % 4096 by omega, i8_and, Nat.add_assoc]
  refine ⟨h1, h2.trans ?_⟩
  rcases hz (s + (j + a)) with e | e
  · rw [e]; decide
  · rw [e]; decide
theorem lwr_all {P : Int32 → Prop} {f g : Nat → Int32} {s m : Nat} (hf : ∀ j, P (f j)) (hg : ∀ i, i < m → P (g i)) (j : Nat) : P (lwr f s g m j) := by
  by_cases q : s ≤ j ∧ j < s + m
  · obtain ⟨i, rfl⟩ : ∃ i, j = s + i := ⟨j - s, by omega⟩
    rw [lwr_in (by omega)]; exact hg i (by omega)
  · rw [lwr_out (by omega)]; exact hf j
theorem emz_01 (i : Nat) : emz i = 0 ∨ emz i = 1 := by unfold emz; split; exact Or.inr rfl; exact Or.inl rfl
theorem mk_ok {p g : Nat → Int32} {k : Nat} (h : rowR p g k) (i : Nat) (hi : i < k) : mkd p i &&& 255 = i8 (g i) &&& 255 ∧ (mkd p i &&& 256 = 0 ↔ emz i = 0) := by
  unfold mkd emz
  rw [i8_and]
  by_cases q : i = 0
  · subst q
    rw [if_pos rfl, if_pos rfl, h 0 hi, or_256_255, and_255_255]
    exact ⟨rfl, fun e => absurd e (or_256_256 _), fun e => absurd e (by decide)⟩
  · rw [if_neg q, if_neg q, h i hi, and_255_255, and_255_256]
    exact ⟨rfl, fun _ => rfl, fun _ => rfl⟩
set_option maxRecDepth 100000 in
theorem em_small : ∀ L, L < 300 → 7 ≤ L → ∀ i, i < 6 → emp L i &&& 255 = emb L i &&& 255 ∧ (emp L i &&& 256 = 0 ↔ emz i = 0) := by decide +kernel
theorem em_ok {L : Nat} (h7 : 7 ≤ L) (hL : L < 300) (i : Nat) : emp L i &&& 255 = emb L i &&& 255 ∧ (emp L i &&& 256 = 0 ↔ emz i = 0) := by
  rcases Nat.lt_or_ge i 6 with q | q
  · exact em_small L hL h7 i q
  · rw [emp_85 L i q, emb_85 L i q, emz_0 i (by omega)]; decide
/-- filled up, a wait at least -/
theorem fil_ok {f : Nat → Int32} {h k : Nat} {bf zf : Nat → Int32} {ch a : Nat} (hR : chR f h k bf zf (4200 * ch)) (hk : k ≤ 4096) (ha : a ≤ 244) : chR (filF f h k a) h (filK k a) (mfB bf ch k a) (mfZ zf ch k a) (4200 * ch) := by
  unfold filF filK mfB mfZ
  by_cases q : k < a
  · rw [if_pos q, if_pos q, if_pos q, if_pos q]
    exact chR_app hR (by omega) (fun i _ => em_ok (by omega) (by omega) i)
  · rw [if_neg q, if_neg q, if_neg q, if_neg q]; exact hR
theorem fil_z {zf : Nat → Int32} {ch k a : Nat} (hz : ∀ j, zf j = 0 ∨ zf j = 1) (j : Nat) : mfZ zf ch k a j = 0 ∨ mfZ zf ch k a j = 1 := by
  unfold mfZ
  by_cases q : k < a
  · rw [if_pos q]; exact lwr_all (P := fun x => x = 0 ∨ x = 1) hz (fun i _ => emz_01 i) j
  · rw [if_neg q]; exact hz j
theorem fil_o {f : Nat → Int32} {h k w : Nat} {bf zf : Nat → Int32} {s ch a : Nat} (hR : chR f h k bf zf s) (hw : w ≤ 4096) (ha : a ≤ 244) (hd : s + k ≤ 4200 * ch ∨ 4200 * ch + 4200 ≤ s) : chR f h k (mfB bf ch w a) (mfZ zf ch w a) s := by
  unfold mfB mfZ
  by_cases q : w < a
  · rw [if_pos q, if_pos q]; exact chR_out hR (by omega) (by omega)
  · rw [if_neg q, if_neg q]; exact hR
/-- FIRST -/
theorem fb_eq {f : Nat → Int32} {h k : Nat} {bf zf : Nat → Int32} {s : Nat} (hR : chR f h k bf zf s) : ∀ (d i : Nat), i + d ≤ k → fbS f h d i = fbM zf s d i
  | 0, _, _ => rfl
  | d + 1, i, hi => by
    obtain ⟨-, h2⟩ := hR i (by omega)
    show (if f ((h + i) % 4096) &&& 256 = 0 then fbS f h d (i + 1) else nI i) = if zf (s + i) = 0 then fbM zf s d (i + 1) else nI i
    by_cases q : zf (s + i) = 0
    · rw [if_pos q, if_pos (h2.mpr q)]; exact fb_eq hR d (i + 1) (by omega)
    · rw [if_neg q, if_neg (fun e => q (h2.mp e))]
theorem fb_b (f : Nat → Int32) (h : Nat) : ∀ (d i : Nat), i + d ≤ 2048 → ∃ q, q < 2048 ∧ fbS f h d i = nI q
  | 0, _, _ => ⟨2047, by decide, rfl⟩
  | d + 1, i, hi => by
    show ∃ q, q < 2048 ∧ (if f ((h + i) % 4096) &&& 256 = 0 then fbS f h d (i + 1) else nI i) = nI q
    by_cases q : f ((h + i) % 4096) &&& 256 = 0
    · rw [if_pos q]; exact fb_b f h d (i + 1) (by omega)
    · rw [if_neg q]; exact ⟨i, by omega, rfl⟩
set_option maxRecDepth 100000 in
theorem fst_ok : ∀ q, q < 2048 → ush (6144 ||| nI q) 8 &&& 255 = (24 + (nI q / 256)) &&& 255 ∧ (6144 ||| nI q) &&& 255 = nI q &&& 255 := by decide +kernel
/-- a frame's bytes -/
theorem frame_ok {vf ff nf mf g g' : Nat → Int32} {c cv : Int32} {kd a q : Nat} {word : Int32} (hq : q < 2048) (hc : ush (hdw c) 8 &&& 255 = 21 &&& 255 ∧ hdw c &&& 255 = ((160 + (2 * cv)) + 1) &&& 255) (h0 : nf 0 = mf 0) (hk : nf kd = mf kd) (hg : ∀ i, i < a → g i = g' i &&& 255) : rowR (frL vf nf c kd (nI q) g a word) (mL ff mf cv kd (nI q) g' a word) (6 + a + 6) := by
  have hf := fst_ok q hq
  have r6 : rowR (frA vf nf c kd (nI q)) (mA ff mf cv kd (nI q)) 6 := rowR_upd (rowR_upd (rowR_upd (rowR_upd (rowR_upd (rowR_upd (rowR_0 vf ff) hc.1) hc.2) (by rw [h0])) (by rw [hk])) hf.1) hf.2
  have r7 := rowR_lwr r6 hg
  have r8 : rowR (frW (lwr (frA vf nf c kd (nI q)) 6 g a) a word) (mW (lwr (mA ff mf cv kd (nI q)) 6 g' a) a word) (6 + a + 4) := rowR_upd (rowR_upd (rowR_upd (rowR_upd r7 (wb3 word)) (wb2 word)) (wb1 word)) (wb0 word)
  obtain ⟨m, hm, em⟩ := crc_b r8
  have ec := crc_eq r8
  unfold frL mL frC mC
  rw [← ec, em]
  exact rowR_upd (rowR_upd r8 (by rw [crc_hi hm])) rfl
theorem cnt_ok {nf mf : Nat → Int32} {kd : Nat} (hk : kd < 4) (h : ∀ j, j < 4 → nf j = mf j) (j : Nat) (hj : j < 4) : cnt2 nf kd j = cnt2 mf kd j := by
  unfold cnt2 upd
  have e0 := h 0 (by decide)
  have ek := h kd hk
  have ej := h j hj
  by_cases q : j = kd
  · subst q
    by_cases p : j = 0
    · subst p; simp [e0]
    · simp [p, ej]
  · by_cases p : j = 0
    · subst p; simp [q, e0]
    · simp [q, p, ej]
theorem hpk_eq {tf tg : Nat → Int32} {k : Nat} (h : rowR tf tg k) : hpk tf k = hpkM tg k := by
  unfold hpk hpkM
  by_cases q : k ≤ 6
  · rw [if_pos (by omega), if_pos q]
  · rw [if_neg (by omega), if_neg q, h 4 (by omega), h 5 (by omega)]
    obtain ⟨x, hx, ex⟩ := byte_nI (tg 4)
    obtain ⟨y, hy, ey⟩ := byte_nI (tg 5)
    rw [ex, ey]
    have e : (6 : Int32) + ((nI x * 256 + nI y) + 1) = (7 + 256 * nI x) + nI y := by
      rw [show (6 : Int32) = nI 6 from rfl, show (256 : Int32) = nI 256 from rfl, show (1 : Int32) = nI 1 from rfl, show (7 : Int32) = nI 7 from rfl, pk_mul, pk_mul, nI_add, nI_add, nI_add, nI_add, nI_add]
      congr 1; omega
    rw [e]
theorem hpkM_01 (tg : Nat → Int32) (k : Nat) : hpkM tg k = 0 ∨ hpkM tg k = 1 := by
  unfold hpkM; split
  · exact Or.inl rfl
  · split
    · exact Or.inr rfl
    · exact Or.inl rfl
theorem at_eq {vf ff : Nat → Int32} {k : Nat} (hk : k < 2 ^ 31) (h : rowR vf ff k) (z : Int32) : at_v vf k z = mat ff k z := by
  unfold at_v mat
  by_cases q : ¬ z < 0 ∧ ¬ nI k ≤ z
  · rw [if_pos q, if_pos q]
    obtain ⟨j, hj, rfl⟩ := nI_of q.1
    rw [nI_clamp hj]
    exact h j (Nat.not_le.mp (fun t => q.2 (nI_le t hj)))
  · rw [if_neg q, if_neg q]
end
section
abbrev XSt : Type := Nat × (Nat → Int32) × Nat × (Nat → Int32) × Nat × Nat × (Nat → Int32) × Nat × Nat × (Nat → Int32) × (Nat → Int32)
/-- the class's ten cells: the object; the tape; the latest frame; two channels; the counts -/
abbrev xw (cA : ClassId) (x len t tr v vr c0 r0 c1 r1 fr : Nat) (u : XSt) : va_W := [(x, .inr (2, [.int (nI len), .ref t, .ref v, .ref c0, .ref c1, .ref fr])), (t, .inr (0, [.ref tr, .int (nI (u.1))])), (tr, .inl (cA, 1024, .inl (u.2.1))), (v, .inr (0, [.ref vr, .int (nI (u.2.2.1))])), (vr, .inl (cA, len, .inl (u.2.2.2.1))), (c0, .inr (1, [.ref r0, .int (nI (u.2.2.2.2.1)), .int (nI (u.2.2.2.2.2.1))])), (r0, .inl (cA, 4096, .inl (u.2.2.2.2.2.2.1))), (c1, .inr (1, [.ref r1, .int (nI (u.2.2.2.2.2.2.2.1)), .int (nI (u.2.2.2.2.2.2.2.2.1))])), (r1, .inl (cA, 4096, .inl (u.2.2.2.2.2.2.2.2.2.1))), (fr, .inl (cA, 4, .inl (u.2.2.2.2.2.2.2.2.2.2)))]
abbrev MSt : Type := Nat × (Nat → Int32) × (Nat → Int32) × (Nat → Int32) × (Nat → Nat) × (Nat → Int32) × (Nat → Int32) × Nat
/-- the reference's seven cells -/
abbrev mw (cA cB cZ : ClassId) (y len tp bb zz wa fs fm : Nat) (u : MSt) : va_W := [(y, .inr (3, [.int 0, .int (nI len), .ref tp, .int (nI (u.1)), .ref bb, .ref zz, .ref wa, .ref fs, .ref fm, .int (nI (u.2.2.2.2.2.2.2))])), (tp, .inl (cB, 1024, .inl (u.2.1))), (bb, .inl (cB, 8400, .inl (u.2.2.1))), (zz, .inl (cZ, 8400, .inl (u.2.2.2.1))), (wa, .inl (cA, 2, .inl (wI (u.2.2.2.2.1)))), (fs, .inl (cA, 4, .inl (u.2.2.2.2.2.1))), (fm, .inl (cB, 256, .inl (u.2.2.2.2.2.2.1)))]
def RelC (len tk : Nat) (tf : Nat → Int32) (vk : Nat) (vf : Nat → Int32) (h0 k0 : Nat) (f0 : Nat → Int32) (h1 k1 : Nat) (f1 nf : Nat → Int32) (mk : Nat) (tg bf zf : Nat → Int32) (ww : Nat → Nat) (mf ff : Nat → Int32) (fk : Nat) : Prop :=
  (64 ≤ len ∧ len ≤ 256) ∧ (tk = mk ∧ tk ≤ 1024 ∧ rowR tf tg tk) ∧ (vk = fk ∧ vk ≤ len ∧ rowR vf ff vk) ∧ (k0 = ww 0 ∧ k0 ≤ 4096 ∧ h0 < 4096 ∧ chR f0 h0 k0 bf zf (4200 * 0)) ∧ (k1 = ww 1 ∧ k1 ≤ 4096 ∧ h1 < 4096 ∧ chR f1 h1 k1 bf zf (4200 * 1)) ∧ (∀ j, j < 4 → nf j = mf j) ∧ (∀ j, zf j = 0 ∨ zf j = 1)
def Rel (len : Nat) (u : XSt) (n : MSt) : Prop := RelC len (u.1) (u.2.1) (u.2.2.1) (u.2.2.2.1) (u.2.2.2.2.1) (u.2.2.2.2.2.1) (u.2.2.2.2.2.2.1) (u.2.2.2.2.2.2.2.1) (u.2.2.2.2.2.2.2.2.1) (u.2.2.2.2.2.2.2.2.2.1) (u.2.2.2.2.2.2.2.2.2.2) (n.1) (n.2.1) (n.2.2.1) (n.2.2.2.1) (n.2.2.2.2.1) (n.2.2.2.2.2.1) (n.2.2.2.2.2.2.1) (n.2.2.2.2.2.2.2)
theorem fr0 {l : Launch} {y : MethodName} {Ts : List Cond} {rm : Room} {av : List Value} {D : va_G} {ty : List (ClassId × FieldType)} {ws wc w0 w1 : va_W} {r : Int32} (hM : MI0 l y Ts rm av D ty wc r w0) (isC isR isB : List Nat) (wr : va_W) (hC : isC.map (fun i => ws[i]?) = wc.map some) (hnc : va_nd isC = true) (hR : isR.map (fun i => ws[i]?) = wr.map some) (hn : va_nd isR = true) (hdis : ∀ i ∈ isR, i ∉ isC) (hB : isB.map (fun i => (wr ++ w0)[i]?) = w1.map some) (hnb : va_nd isB = true) : MI0 l y Ts rm av D ty ws r w1 :=
  fr_i hM isC isR hC hnc hR hn hdis (fun _ _ h => ⟨(), isB, h, hB, hnb⟩)
/-- a call of class and reference: one answer, and their states agree again -/
def StpOk (yx : MethodName) (Tx : List Cond) (rx : Room) (ym : MethodName) (Tm : List Cond) (rmm : Room) (as : List Value) (len : Nat) (u : XSt) (n : MSt) : Prop := ∃ (r : Int32) (u' : XSt) (n' : MSt),
  (∀ (l : Launch) (D : va_G) (cA : ClassId) (x t tr v vr c0 r0 c1 r1 fr : Nat), MI0 l yx Tx rx (.ref x :: as) D [(cA, .int)] (xw cA x len t tr v vr c0 r0 c1 r1 fr u) r (xw cA x len t tr v vr c0 r0 c1 r1 fr u')) ∧
  (∀ (l : Launch) (D : va_G) (cA cB cZ : ClassId) (y tp bb zz wa fs fm : Nat), MI0 l ym Tm rmm (.ref y :: as) D [(cA, .int), (cB, .byte), (cZ, .boolean)] (mw cA cB cZ y len tp bb zz wa fs fm n) r (mw cA cB cZ y len tp bb zz wa fs fm n')) ∧ Rel len u' n'
set_option maxHeartbeats 4000000 in
set_option maxRecDepth 100000 in
/-- give -/
theorem st_give {len : Nat} {u : XSt} {n : MSt} (hR : Rel len u n) (w : Int64) (z : Int32) : StpOk yX2_give wsX2_give { frames := 1, cells := 0, slots := 0, locals := 21 } yX3_give wsM_give { frames := 0, cells := 0, slots := 0, locals := 0 } [.long w, .int z] len u n := by
  obtain ⟨tk, tf, vk, vf, h0, k0, f0, h1, k1, f1, nf⟩ := u
  obtain ⟨mk, tg, bf, zf, ww, mf, ff, fk⟩ := n
  have hR : RelC len tk tf vk vf h0 k0 f0 h1 k1 f1 nf mk tg bf zf ww mf ff fk := hR
  obtain ⟨⟨hl1, hl2⟩, ⟨e1, t1, t2⟩, ⟨e2, v1, v2⟩, ⟨e3, a1, a2, a3⟩, ⟨e4, b1, b2, b3⟩, hn, hz⟩ := hR
  subst e1
  subst e2
  by_cases q1 : z < 1
  · skip
    refine ⟨0, (tk, tf, vk, vf, h0, k0, f0, h1, k1, f1, nf), (tk, tg, bf, zf, ww, mf, ff, vk), fun l D cA x t tr v vr c0 r0 c1 r1 fr => fr0 (c_x_give0 l D cA x len t v c0 c1 fr tr tk tf w z t1 (Or.inl q1)) [0, 1, 2] [3, 4, 5, 6, 7, 8, 9] [7, 8, 9, 0, 1, 2, 3, 4, 5, 6] [(v, .inr (0, [.ref vr, .int (nI vk)])), (vr, .inl (cA, len, .inl vf)), (c0, .inr (1, [.ref r0, .int (nI h0), .int (nI k0)])), (r0, .inl (cA, 4096, .inl f0)), (c1, .inr (1, [.ref r1, .int (nI h1), .int (nI k1)])), (r1, .inl (cA, 4096, .inl f1)), (fr, .inl (cA, 4, .inl nf))] rfl rfl rfl rfl (by decide) rfl rfl, fun l D cA cB cZ y tp bb zz wa fs fm => fr0 (c_m_give0 l D cA cB cZ y len tp bb zz wa fs fm tk vk tg w z (Or.inl q1)) [0, 1] [2, 3, 4, 5, 6] [5, 6, 0, 1, 2, 3, 4] [(bb, .inl (cB, 8400, .inl bf)), (zz, .inl (cZ, 8400, .inl zf)), (wa, .inl (cA, 2, .inl (wI ww))), (fs, .inl (cA, 4, .inl mf)), (fm, .inl (cB, 256, .inl ff))] rfl rfl rfl rfl (by decide) rfl rfl, ?_⟩
    exact (⟨⟨hl1, hl2⟩, ⟨rfl, t1, t2⟩, ⟨rfl, v1, v2⟩, ⟨e3, a1, a2, a3⟩, ⟨e4, b1, b2, b3⟩, hn, hz⟩ : RelC len tk tf vk vf h0 k0 f0 h1 k1 f1 nf tk tg bf zf ww mf ff vk)
  by_cases q2 : 8 < z
  · skip
    refine ⟨0, (tk, tf, vk, vf, h0, k0, f0, h1, k1, f1, nf), (tk, tg, bf, zf, ww, mf, ff, vk), fun l D cA x t tr v vr c0 r0 c1 r1 fr => fr0 (c_x_give0 l D cA x len t v c0 c1 fr tr tk tf w z t1 (Or.inr (Or.inl q2))) [0, 1, 2] [3, 4, 5, 6, 7, 8, 9] [7, 8, 9, 0, 1, 2, 3, 4, 5, 6] [(v, .inr (0, [.ref vr, .int (nI vk)])), (vr, .inl (cA, len, .inl vf)), (c0, .inr (1, [.ref r0, .int (nI h0), .int (nI k0)])), (r0, .inl (cA, 4096, .inl f0)), (c1, .inr (1, [.ref r1, .int (nI h1), .int (nI k1)])), (r1, .inl (cA, 4096, .inl f1)), (fr, .inl (cA, 4, .inl nf))] rfl rfl rfl rfl (by decide) rfl rfl, fun l D cA cB cZ y tp bb zz wa fs fm => fr0 (c_m_give0 l D cA cB cZ y len tp bb zz wa fs fm tk vk tg w z (Or.inr (Or.inl q2))) [0, 1] [2, 3, 4, 5, 6] [5, 6, 0, 1, 2, 3, 4] [(bb, .inl (cB, 8400, .inl bf)), (zz, .inl (cZ, 8400, .inl zf)), (wa, .inl (cA, 2, .inl (wI ww))), (fs, .inl (cA, 4, .inl mf)), (fm, .inl (cB, 256, .inl ff))] rfl rfl rfl rfl (by decide) rfl rfl, ?_⟩
    exact (⟨⟨hl1, hl2⟩, ⟨rfl, t1, t2⟩, ⟨rfl, v1, v2⟩, ⟨e3, a1, a2, a3⟩, ⟨e4, b1, b2, b3⟩, hn, hz⟩ : RelC len tk tf vk vf h0 k0 f0 h1 k1 f1 nf tk tg bf zf ww mf ff vk)
  have q0 : ¬ z < 0 := fun q => q1 (Int32.lt_trans q (by decide))
  obtain ⟨j, hj, rfl⟩ := nI_of q0
  have j1 : 1 ≤ j := Nat.not_lt.mp (fun q => q1 (nI_lt (b := 1) q (by decide)))
  have j8 : j ≤ 8 := Nat.not_lt.mp (fun q => q2 (nI_lt (a := 8) q hj))
  by_cases q3 : tk + j ≤ 1024
  · skip
    refine ⟨1, (tk + j, lwr tf tk (gvb w) j, vk, vf, h0, k0, f0, h1, k1, f1, nf), (tk + j, lwr tg tk (gvm w) j, bf, zf, ww, mf, ff, vk), fun l D cA x t tr v vr c0 r0 c1 r1 fr => fr0 (c_x_give1 l D cA x len t v c0 c1 fr tr tk tf w j j1 j8 q3 t1) [0, 1, 2] [3, 4, 5, 6, 7, 8, 9] [7, 8, 9, 0, 1, 2, 3, 4, 5, 6] [(v, .inr (0, [.ref vr, .int (nI vk)])), (vr, .inl (cA, len, .inl vf)), (c0, .inr (1, [.ref r0, .int (nI h0), .int (nI k0)])), (r0, .inl (cA, 4096, .inl f0)), (c1, .inr (1, [.ref r1, .int (nI h1), .int (nI k1)])), (r1, .inl (cA, 4096, .inl f1)), (fr, .inl (cA, 4, .inl nf))] rfl rfl rfl rfl (by decide) rfl rfl, fun l D cA cB cZ y tp bb zz wa fs fm => fr0 (c_m_give1 l D cA cB cZ y len tp bb zz wa fs fm tk vk tg w j j1 j8 q3) [0, 1] [2, 3, 4, 5, 6] [5, 6, 0, 1, 2, 3, 4] [(bb, .inl (cB, 8400, .inl bf)), (zz, .inl (cZ, 8400, .inl zf)), (wa, .inl (cA, 2, .inl (wI ww))), (fs, .inl (cA, 4, .inl mf)), (fm, .inl (cB, 256, .inl ff))] rfl rfl rfl rfl (by decide) rfl rfl, ?_⟩
    exact (⟨⟨hl1, hl2⟩, ⟨rfl, q3, rowR_lwr t2 (fun i hi => gv_eq w i (by omega))⟩, ⟨rfl, v1, v2⟩, ⟨e3, a1, a2, a3⟩, ⟨e4, b1, b2, b3⟩, hn, hz⟩ : RelC len (tk + j) (lwr tf tk (gvb w) j) vk vf h0 k0 f0 h1 k1 f1 nf (tk + j) (lwr tg tk (gvm w) j) bf zf ww mf ff vk)
  refine ⟨0, (tk, tf, vk, vf, h0, k0, f0, h1, k1, f1, nf), (tk, tg, bf, zf, ww, mf, ff, vk), fun l D cA x t tr v vr c0 r0 c1 r1 fr => fr0 (c_x_give0 l D cA x len t v c0 c1 fr tr tk tf w (nI j) t1 (Or.inr (Or.inr (nI_lt (by omega) hj)))) [0, 1, 2] [3, 4, 5, 6, 7, 8, 9] [7, 8, 9, 0, 1, 2, 3, 4, 5, 6] [(v, .inr (0, [.ref vr, .int (nI vk)])), (vr, .inl (cA, len, .inl vf)), (c0, .inr (1, [.ref r0, .int (nI h0), .int (nI k0)])), (r0, .inl (cA, 4096, .inl f0)), (c1, .inr (1, [.ref r1, .int (nI h1), .int (nI k1)])), (r1, .inl (cA, 4096, .inl f1)), (fr, .inl (cA, 4, .inl nf))] rfl rfl rfl rfl (by decide) rfl rfl, fun l D cA cB cZ y tp bb zz wa fs fm => fr0 (c_m_give0 l D cA cB cZ y len tp bb zz wa fs fm tk vk tg w (nI j) (Or.inr (Or.inr (by rw [show (1024 : Int32) = nI 1024 from rfl, pk_sub (by omega)]; exact nI_ge (by omega) (by omega))))) [0, 1] [2, 3, 4, 5, 6] [5, 6, 0, 1, 2, 3, 4] [(bb, .inl (cB, 8400, .inl bf)), (zz, .inl (cZ, 8400, .inl zf)), (wa, .inl (cA, 2, .inl (wI ww))), (fs, .inl (cA, 4, .inl mf)), (fm, .inl (cB, 256, .inl ff))] rfl rfl rfl rfl (by decide) rfl rfl, ?_⟩
  exact (⟨⟨hl1, hl2⟩, ⟨rfl, t1, t2⟩, ⟨rfl, v1, v2⟩, ⟨e3, a1, a2, a3⟩, ⟨e4, b1, b2, b3⟩, hn, hz⟩ : RelC len tk tf vk vf h0 k0 f0 h1 k1 f1 nf tk tg bf zf ww mf ff vk)
set_option maxHeartbeats 4000000 in
set_option maxRecDepth 100000 in
/-- send -/
theorem st_send {len : Nat} {u : XSt} {n : MSt} (hR : Rel len u n) (z : Int32) : StpOk yX2_send wsX2_send { frames := 2, cells := 0, slots := 0, locals := 43 } yX3_send wsM_send { frames := 1, cells := 0, slots := 0, locals := 23 } [.int z] len u n := by
  obtain ⟨tk, tf, vk, vf, h0, k0, f0, h1, k1, f1, nf⟩ := u
  obtain ⟨mk, tg, bf, zf, ww, mf, ff, fk⟩ := n
  have hR : RelC len tk tf vk vf h0 k0 f0 h1 k1 f1 nf mk tg bf zf ww mf ff fk := hR
  obtain ⟨⟨hl1, hl2⟩, ⟨e1, t1, t2⟩, ⟨e2, v1, v2⟩, ⟨e3, a1, a2, a3⟩, ⟨e4, b1, b2, b3⟩, hn, hz⟩ := hR
  subst e1
  subst e2
  by_cases z0 : z = 0
  · subst z0
    have hw : ww 0 = k0 := e3.symm
    rcases hpkM_01 tg tk with hp | hp
    · skip
      refine ⟨(-1), (0, tf, vk, vf, h0, k0, f0, h1, k1, f1, nf), (0, tg, bf, zf, ww, mf, ff, vk), fun l D cA x t tr v vr c0 r0 c1 r1 fr => fr0 (c_x_sendB0 l D cA x len t v c0 c1 fr tr tk tf r0 h0 k0 f0 t1 a1 a2 (Or.inl (by rw [hpk_eq t2]; exact hp))) [0, 1, 2, 5, 6] [3, 4, 7, 8, 9] [5, 6, 7, 0, 1, 8, 9, 2, 3, 4] [(v, .inr (0, [.ref vr, .int (nI vk)])), (vr, .inl (cA, len, .inl vf)), (c1, .inr (1, [.ref r1, .int (nI h1), .int (nI k1)])), (r1, .inl (cA, 4096, .inl f1)), (fr, .inl (cA, 4, .inl nf))] rfl rfl rfl rfl (by decide) rfl rfl, fun l D cA cB cZ y tp bb zz wa fs fm => fr0 (c_m_send0 l D cA cB cZ y len tp bb zz wa fs fm tk vk tg bf zf ww 0 t1 (Or.inr (Or.inr hp))) [0, 1, 2, 3, 4] [5, 6] [2, 3, 4, 5, 6, 0, 1] [(fs, .inl (cA, 4, .inl mf)), (fm, .inl (cB, 256, .inl ff))] rfl rfl rfl rfl (by decide) rfl rfl, ?_⟩
      exact (⟨⟨hl1, hl2⟩, ⟨rfl, Nat.zero_le _, rowR_0 _ _⟩, ⟨rfl, v1, v2⟩, ⟨e3, a1, a2, a3⟩, ⟨e4, b1, b2, b3⟩, hn, hz⟩ : RelC len 0 tf vk vf h0 k0 f0 h1 k1 f1 nf 0 tg bf zf ww mf ff vk)
    · by_cases hs : k0 + tk ≤ 4096
      · skip
        refine ⟨(nI (k0 + tk)), (0, tf, vk, vf, h0, k0 + tk, rwr f0 (h0 + k0) (mkd tf) tk, h1, k1, f1, nf), (0, tg, lwr bf (4200 * 0 + k0) (fun i => i8 (tg i)) tk, lwr zf (4200 * 0 + k0) emz tk, va_up ww 0 (k0 + tk), mf, ff, vk), fun l D cA x t tr v vr c0 r0 c1 r1 fr => fr0 (c_x_send0 l D cA x len t v c0 c1 fr tr tk tf r0 h0 k0 f0 t1 a1 a2 (by rw [hpk_eq t2]; exact hp) hs) [0, 1, 2, 5, 6] [3, 4, 7, 8, 9] [5, 6, 7, 0, 1, 8, 9, 2, 3, 4] [(v, .inr (0, [.ref vr, .int (nI vk)])), (vr, .inl (cA, len, .inl vf)), (c1, .inr (1, [.ref r1, .int (nI h1), .int (nI k1)])), (r1, .inl (cA, 4096, .inl f1)), (fr, .inl (cA, 4, .inl nf))] rfl rfl rfl rfl (by decide) rfl rfl, fun l D cA cB cZ y tp bb zz wa fs fm => fr0 (c_m_send1 l D cA cB cZ y len tp bb zz wa fs fm tk vk tg bf zf ww 0 k0 t1 (by decide) hw hp hs) [0, 1, 2, 3, 4] [5, 6] [2, 3, 4, 5, 6, 0, 1] [(fs, .inl (cA, 4, .inl mf)), (fm, .inl (cB, 256, .inl ff))] rfl rfl rfl rfl (by decide) rfl rfl, ?_⟩
        exact (⟨⟨hl1, hl2⟩, ⟨rfl, Nat.zero_le _, rowR_0 _ _⟩, ⟨rfl, v1, v2⟩, ⟨by simp [va_up], hs, a2, chR_app a3 hs (fun j hj => mk_ok t2 j hj)⟩, ⟨by simp [va_up]; exact e4, b1, b2, chR_out b3 (by omega) (by omega)⟩, hn, (lwr_all (P := fun x => x = 0 ∨ x = 1) hz (fun i _ => emz_01 i))⟩ : RelC len 0 tf vk vf h0 (k0 + tk) (rwr f0 (h0 + k0) (mkd tf) tk) h1 k1 f1 nf 0 tg (lwr bf (4200 * 0 + k0) (fun i => i8 (tg i)) tk) (lwr zf (4200 * 0 + k0) emz tk) (va_up ww 0 (k0 + tk)) mf ff vk)
      · skip
        refine ⟨(-1), (0, tf, vk, vf, h0, k0, f0, h1, k1, f1, nf), (0, tg, bf, zf, ww, mf, ff, vk), fun l D cA x t tr v vr c0 r0 c1 r1 fr => fr0 (c_x_sendB0 l D cA x len t v c0 c1 fr tr tk tf r0 h0 k0 f0 t1 a1 a2 (Or.inr (by omega))) [0, 1, 2, 5, 6] [3, 4, 7, 8, 9] [5, 6, 7, 0, 1, 8, 9, 2, 3, 4] [(v, .inr (0, [.ref vr, .int (nI vk)])), (vr, .inl (cA, len, .inl vf)), (c1, .inr (1, [.ref r1, .int (nI h1), .int (nI k1)])), (r1, .inl (cA, 4096, .inl f1)), (fr, .inl (cA, 4, .inl nf))] rfl rfl rfl rfl (by decide) rfl rfl, fun l D cA cB cZ y tp bb zz wa fs fm => fr0 (c_m_send2 l D cA cB cZ y len tp bb zz wa fs fm tk vk tg bf zf ww 0 k0 t1 (by decide) hw (by omega) (by omega)) [0, 1, 2, 3, 4] [5, 6] [2, 3, 4, 5, 6, 0, 1] [(fs, .inl (cA, 4, .inl mf)), (fm, .inl (cB, 256, .inl ff))] rfl rfl rfl rfl (by decide) rfl rfl, ?_⟩
        exact (⟨⟨hl1, hl2⟩, ⟨rfl, Nat.zero_le _, rowR_0 _ _⟩, ⟨rfl, v1, v2⟩, ⟨e3, a1, a2, a3⟩, ⟨e4, b1, b2, b3⟩, hn, hz⟩ : RelC len 0 tf vk vf h0 k0 f0 h1 k1 f1 nf 0 tg bf zf ww mf ff vk)
  by_cases z1 : z = 1
  · subst z1
    have hw : ww 1 = k1 := e4.symm
    rcases hpkM_01 tg tk with hp | hp
    · skip
      refine ⟨(-1), (0, tf, vk, vf, h0, k0, f0, h1, k1, f1, nf), (0, tg, bf, zf, ww, mf, ff, vk), fun l D cA x t tr v vr c0 r0 c1 r1 fr => fr0 (c_x_sendB1 l D cA x len t v c0 c1 fr tr tk tf r1 h1 k1 f1 t1 b1 b2 (Or.inl (by rw [hpk_eq t2]; exact hp))) [0, 1, 2, 7, 8] [3, 4, 5, 6, 9] [5, 6, 7, 0, 1, 2, 3, 8, 9, 4] [(v, .inr (0, [.ref vr, .int (nI vk)])), (vr, .inl (cA, len, .inl vf)), (c0, .inr (1, [.ref r0, .int (nI h0), .int (nI k0)])), (r0, .inl (cA, 4096, .inl f0)), (fr, .inl (cA, 4, .inl nf))] rfl rfl rfl rfl (by decide) rfl rfl, fun l D cA cB cZ y tp bb zz wa fs fm => fr0 (c_m_send0 l D cA cB cZ y len tp bb zz wa fs fm tk vk tg bf zf ww 1 t1 (Or.inr (Or.inr hp))) [0, 1, 2, 3, 4] [5, 6] [2, 3, 4, 5, 6, 0, 1] [(fs, .inl (cA, 4, .inl mf)), (fm, .inl (cB, 256, .inl ff))] rfl rfl rfl rfl (by decide) rfl rfl, ?_⟩
      exact (⟨⟨hl1, hl2⟩, ⟨rfl, Nat.zero_le _, rowR_0 _ _⟩, ⟨rfl, v1, v2⟩, ⟨e3, a1, a2, a3⟩, ⟨e4, b1, b2, b3⟩, hn, hz⟩ : RelC len 0 tf vk vf h0 k0 f0 h1 k1 f1 nf 0 tg bf zf ww mf ff vk)
    · by_cases hs : k1 + tk ≤ 4096
      · skip
        refine ⟨(nI (k1 + tk)), (0, tf, vk, vf, h0, k0, f0, h1, k1 + tk, rwr f1 (h1 + k1) (mkd tf) tk, nf), (0, tg, lwr bf (4200 * 1 + k1) (fun i => i8 (tg i)) tk, lwr zf (4200 * 1 + k1) emz tk, va_up ww 1 (k1 + tk), mf, ff, vk), fun l D cA x t tr v vr c0 r0 c1 r1 fr => fr0 (c_x_send1 l D cA x len t v c0 c1 fr tr tk tf r1 h1 k1 f1 t1 b1 b2 (by rw [hpk_eq t2]; exact hp) hs) [0, 1, 2, 7, 8] [3, 4, 5, 6, 9] [5, 6, 7, 0, 1, 2, 3, 8, 9, 4] [(v, .inr (0, [.ref vr, .int (nI vk)])), (vr, .inl (cA, len, .inl vf)), (c0, .inr (1, [.ref r0, .int (nI h0), .int (nI k0)])), (r0, .inl (cA, 4096, .inl f0)), (fr, .inl (cA, 4, .inl nf))] rfl rfl rfl rfl (by decide) rfl rfl, fun l D cA cB cZ y tp bb zz wa fs fm => fr0 (c_m_send1 l D cA cB cZ y len tp bb zz wa fs fm tk vk tg bf zf ww 1 k1 t1 (by decide) hw hp hs) [0, 1, 2, 3, 4] [5, 6] [2, 3, 4, 5, 6, 0, 1] [(fs, .inl (cA, 4, .inl mf)), (fm, .inl (cB, 256, .inl ff))] rfl rfl rfl rfl (by decide) rfl rfl, ?_⟩
        exact (⟨⟨hl1, hl2⟩, ⟨rfl, Nat.zero_le _, rowR_0 _ _⟩, ⟨rfl, v1, v2⟩, ⟨by simp [va_up]; exact e3, a1, a2, chR_out a3 (by omega) (by omega)⟩, ⟨by simp [va_up], hs, b2, chR_app b3 hs (fun j hj => mk_ok t2 j hj)⟩, hn, (lwr_all (P := fun x => x = 0 ∨ x = 1) hz (fun i _ => emz_01 i))⟩ : RelC len 0 tf vk vf h0 k0 f0 h1 (k1 + tk) (rwr f1 (h1 + k1) (mkd tf) tk) nf 0 tg (lwr bf (4200 * 1 + k1) (fun i => i8 (tg i)) tk) (lwr zf (4200 * 1 + k1) emz tk) (va_up ww 1 (k1 + tk)) mf ff vk)
      · skip
        refine ⟨(-1), (0, tf, vk, vf, h0, k0, f0, h1, k1, f1, nf), (0, tg, bf, zf, ww, mf, ff, vk), fun l D cA x t tr v vr c0 r0 c1 r1 fr => fr0 (c_x_sendB1 l D cA x len t v c0 c1 fr tr tk tf r1 h1 k1 f1 t1 b1 b2 (Or.inr (by omega))) [0, 1, 2, 7, 8] [3, 4, 5, 6, 9] [5, 6, 7, 0, 1, 2, 3, 8, 9, 4] [(v, .inr (0, [.ref vr, .int (nI vk)])), (vr, .inl (cA, len, .inl vf)), (c0, .inr (1, [.ref r0, .int (nI h0), .int (nI k0)])), (r0, .inl (cA, 4096, .inl f0)), (fr, .inl (cA, 4, .inl nf))] rfl rfl rfl rfl (by decide) rfl rfl, fun l D cA cB cZ y tp bb zz wa fs fm => fr0 (c_m_send2 l D cA cB cZ y len tp bb zz wa fs fm tk vk tg bf zf ww 1 k1 t1 (by decide) hw (by omega) (by omega)) [0, 1, 2, 3, 4] [5, 6] [2, 3, 4, 5, 6, 0, 1] [(fs, .inl (cA, 4, .inl mf)), (fm, .inl (cB, 256, .inl ff))] rfl rfl rfl rfl (by decide) rfl rfl, ?_⟩
        exact (⟨⟨hl1, hl2⟩, ⟨rfl, Nat.zero_le _, rowR_0 _ _⟩, ⟨rfl, v1, v2⟩, ⟨e3, a1, a2, a3⟩, ⟨e4, b1, b2, b3⟩, hn, hz⟩ : RelC len 0 tf vk vf h0 k0 f0 h1 k1 f1 nf 0 tg bf zf ww mf ff vk)
  have zz2 : z < 0 ∨ 1 < z := by
    by_cases q : z < 0
    · exact Or.inl q
    · obtain ⟨j, hj, rfl⟩ := nI_of q
      exact Or.inr (nI_lt (a := 1) (by rcases (show j = 0 ∨ j = 1 ∨ 1 < j by omega) with e | e | e; exact absurd (by rw [e]; rfl) z0; exact absurd (by rw [e]; rfl) z1; exact e) hj)
  refine ⟨(-1), (0, tf, vk, vf, h0, k0, f0, h1, k1, f1, nf), (0, tg, bf, zf, ww, mf, ff, vk), fun l D cA x t tr v vr c0 r0 c1 r1 fr => fr0 (c_x_sendN l D cA x len t v c0 c1 fr tr tk tf z z0 z1) [0, 1, 2] [3, 4, 5, 6, 7, 8, 9] [7, 8, 9, 0, 1, 2, 3, 4, 5, 6] [(v, .inr (0, [.ref vr, .int (nI vk)])), (vr, .inl (cA, len, .inl vf)), (c0, .inr (1, [.ref r0, .int (nI h0), .int (nI k0)])), (r0, .inl (cA, 4096, .inl f0)), (c1, .inr (1, [.ref r1, .int (nI h1), .int (nI k1)])), (r1, .inl (cA, 4096, .inl f1)), (fr, .inl (cA, 4, .inl nf))] rfl rfl rfl rfl (by decide) rfl rfl, fun l D cA cB cZ y tp bb zz wa fs fm => fr0 (c_m_send0 l D cA cB cZ y len tp bb zz wa fs fm tk vk tg bf zf ww z t1 (zz2.elim Or.inl (fun q => Or.inr (Or.inl q)))) [0, 1, 2, 3, 4] [5, 6] [2, 3, 4, 5, 6, 0, 1] [(fs, .inl (cA, 4, .inl mf)), (fm, .inl (cB, 256, .inl ff))] rfl rfl rfl rfl (by decide) rfl rfl, ?_⟩
  exact (⟨⟨hl1, hl2⟩, ⟨rfl, Nat.zero_le _, rowR_0 _ _⟩, ⟨rfl, v1, v2⟩, ⟨e3, a1, a2, a3⟩, ⟨e4, b1, b2, b3⟩, hn, hz⟩ : RelC len 0 tf vk vf h0 k0 f0 h1 k1 f1 nf 0 tg bf zf ww mf ff vk)
set_option maxHeartbeats 4000000 in
set_option maxRecDepth 100000 in
/-- byteAt -/
theorem st_byteAt {len : Nat} {u : XSt} {n : MSt} (hR : Rel len u n) (z : Int32) : StpOk yX2_byteAt wsX2_byteAt { frames := 1, cells := 0, slots := 0, locals := 21 } yX3_byteAt wsM_byteAt { frames := 0, cells := 0, slots := 0, locals := 0 } [.int z] len u n := by
  obtain ⟨tk, tf, vk, vf, h0, k0, f0, h1, k1, f1, nf⟩ := u
  obtain ⟨mk, tg, bf, zf, ww, mf, ff, fk⟩ := n
  have hR : RelC len tk tf vk vf h0 k0 f0 h1 k1 f1 nf mk tg bf zf ww mf ff fk := hR
  obtain ⟨⟨hl1, hl2⟩, ⟨e1, t1, t2⟩, ⟨e2, v1, v2⟩, ⟨e3, a1, a2, a3⟩, ⟨e4, b1, b2, b3⟩, hn, hz⟩ := hR
  subst e1
  subst e2
  refine ⟨(at_v vf vk z), (tk, tf, vk, vf, h0, k0, f0, h1, k1, f1, nf), (tk, tg, bf, zf, ww, mf, ff, vk), fun l D cA x t tr v vr c0 r0 c1 r1 fr => fr0 (c_x_byteAt l D cA x len t v c0 c1 fr vr vk vf z v1 (by omega)) [0, 3, 4] [1, 2, 5, 6, 7, 8, 9] [7, 0, 1, 8, 9, 2, 3, 4, 5, 6] [(t, .inr (0, [.ref tr, .int (nI tk)])), (tr, .inl (cA, 1024, .inl tf)), (c0, .inr (1, [.ref r0, .int (nI h0), .int (nI k0)])), (r0, .inl (cA, 4096, .inl f0)), (c1, .inr (1, [.ref r1, .int (nI h1), .int (nI k1)])), (r1, .inl (cA, 4096, .inl f1)), (fr, .inl (cA, 4, .inl nf))] rfl rfl rfl rfl (by decide) rfl rfl, fun l D cA cB cZ y tp bb zz wa fs fm => fr0 (w0 := [(y, .inr (3, [.int 0, .int (nI len), .ref tp, .int (nI tk), .ref bb, .ref zz, .ref wa, .ref fs, .ref fm, .int (nI vk)])), (fm, .inl (cB, 256, .inl ff))]) (wc := [(y, .inr (3, [.int 0, .int (nI len), .ref tp, .int (nI tk), .ref bb, .ref zz, .ref wa, .ref fs, .ref fm, .int (nI vk)])), (fm, .inl (cB, 256, .inl ff))]) (by rw [at_eq (by omega) v2]; exact c_m_byteAt l D cA cB cZ y len tp bb zz wa fs fm tk vk ff z (by omega)) [0, 6] [1, 2, 3, 4, 5] [5, 0, 1, 2, 3, 4, 6] [(tp, .inl (cB, 1024, .inl tg)), (bb, .inl (cB, 8400, .inl bf)), (zz, .inl (cZ, 8400, .inl zf)), (wa, .inl (cA, 2, .inl (wI ww))), (fs, .inl (cA, 4, .inl mf))] rfl rfl rfl rfl (by decide) rfl rfl, ?_⟩
  exact (⟨⟨hl1, hl2⟩, ⟨rfl, t1, t2⟩, ⟨rfl, v1, v2⟩, ⟨e3, a1, a2, a3⟩, ⟨e4, b1, b2, b3⟩, hn, hz⟩ : RelC len tk tf vk vf h0 k0 f0 h1 k1 f1 nf tk tg bf zf ww mf ff vk)
set_option maxHeartbeats 4000000 in
set_option maxRecDepth 100000 in
/-- waiting -/
theorem st_waiting {len : Nat} {u : XSt} {n : MSt} (hR : Rel len u n) (z : Int32) : StpOk yX2_waiting wsX2_waiting { frames := 1, cells := 0, slots := 0, locals := 21 } yX3_waiting wsM_waiting { frames := 0, cells := 0, slots := 0, locals := 0 } [.int z] len u n := by
  obtain ⟨tk, tf, vk, vf, h0, k0, f0, h1, k1, f1, nf⟩ := u
  obtain ⟨mk, tg, bf, zf, ww, mf, ff, fk⟩ := n
  have hR : RelC len tk tf vk vf h0 k0 f0 h1 k1 f1 nf mk tg bf zf ww mf ff fk := hR
  obtain ⟨⟨hl1, hl2⟩, ⟨e1, t1, t2⟩, ⟨e2, v1, v2⟩, ⟨e3, a1, a2, a3⟩, ⟨e4, b1, b2, b3⟩, hn, hz⟩ := hR
  subst e1
  subst e2
  by_cases z0 : z = 0
  · subst z0
    refine ⟨(nI k0), (tk, tf, vk, vf, h0, k0, f0, h1, k1, f1, nf), (tk, tg, bf, zf, ww, mf, ff, vk), fun l D cA x t tr v vr c0 r0 c1 r1 fr => fr0 (c_x_wait0 l D cA x len t v c0 c1 fr r0 h0 k0) [0, 5] [1, 2, 3, 4, 6, 7, 8, 9] [8, 0, 1, 2, 3, 9, 4, 5, 6, 7] [(t, .inr (0, [.ref tr, .int (nI tk)])), (tr, .inl (cA, 1024, .inl tf)), (v, .inr (0, [.ref vr, .int (nI vk)])), (vr, .inl (cA, len, .inl vf)), (r0, .inl (cA, 4096, .inl f0)), (c1, .inr (1, [.ref r1, .int (nI h1), .int (nI k1)])), (r1, .inl (cA, 4096, .inl f1)), (fr, .inl (cA, 4, .inl nf))] rfl rfl rfl rfl (by decide) rfl rfl, fun l D cA cB cZ y tp bb zz wa fs fm => fr0 (w0 := [(y, .inr (3, [.int 0, .int (nI len), .ref tp, .int (nI tk), .ref bb, .ref zz, .ref wa, .ref fs, .ref fm, .int (nI vk)])), (wa, .inl (cA, 2, .inl (wI ww)))]) (wc := [(y, .inr (3, [.int 0, .int (nI len), .ref tp, .int (nI tk), .ref bb, .ref zz, .ref wa, .ref fs, .ref fm, .int (nI vk)])), (wa, .inl (cA, 2, .inl (wI ww)))]) (by rw [e3]; exact c_m_wait0 l D cA cB cZ y len tp bb zz wa fs fm tk vk ww) [0, 4] [1, 2, 3, 5, 6] [5, 0, 1, 2, 6, 3, 4] [(tp, .inl (cB, 1024, .inl tg)), (bb, .inl (cB, 8400, .inl bf)), (zz, .inl (cZ, 8400, .inl zf)), (fs, .inl (cA, 4, .inl mf)), (fm, .inl (cB, 256, .inl ff))] rfl rfl rfl rfl (by decide) rfl rfl, ?_⟩
    exact (⟨⟨hl1, hl2⟩, ⟨rfl, t1, t2⟩, ⟨rfl, v1, v2⟩, ⟨e3, a1, a2, a3⟩, ⟨e4, b1, b2, b3⟩, hn, hz⟩ : RelC len tk tf vk vf h0 k0 f0 h1 k1 f1 nf tk tg bf zf ww mf ff vk)
  by_cases z1 : z = 1
  · subst z1
    refine ⟨(nI k1), (tk, tf, vk, vf, h0, k0, f0, h1, k1, f1, nf), (tk, tg, bf, zf, ww, mf, ff, vk), fun l D cA x t tr v vr c0 r0 c1 r1 fr => fr0 (c_x_wait1 l D cA x len t v c0 c1 fr r1 h1 k1) [0, 7] [1, 2, 3, 4, 5, 6, 8, 9] [8, 0, 1, 2, 3, 4, 5, 9, 6, 7] [(t, .inr (0, [.ref tr, .int (nI tk)])), (tr, .inl (cA, 1024, .inl tf)), (v, .inr (0, [.ref vr, .int (nI vk)])), (vr, .inl (cA, len, .inl vf)), (c0, .inr (1, [.ref r0, .int (nI h0), .int (nI k0)])), (r0, .inl (cA, 4096, .inl f0)), (r1, .inl (cA, 4096, .inl f1)), (fr, .inl (cA, 4, .inl nf))] rfl rfl rfl rfl (by decide) rfl rfl, fun l D cA cB cZ y tp bb zz wa fs fm => fr0 (w0 := [(y, .inr (3, [.int 0, .int (nI len), .ref tp, .int (nI tk), .ref bb, .ref zz, .ref wa, .ref fs, .ref fm, .int (nI vk)])), (wa, .inl (cA, 2, .inl (wI ww)))]) (wc := [(y, .inr (3, [.int 0, .int (nI len), .ref tp, .int (nI tk), .ref bb, .ref zz, .ref wa, .ref fs, .ref fm, .int (nI vk)])), (wa, .inl (cA, 2, .inl (wI ww)))]) (by rw [e4]; exact c_m_wait1 l D cA cB cZ y len tp bb zz wa fs fm tk vk ww) [0, 4] [1, 2, 3, 5, 6] [5, 0, 1, 2, 6, 3, 4] [(tp, .inl (cB, 1024, .inl tg)), (bb, .inl (cB, 8400, .inl bf)), (zz, .inl (cZ, 8400, .inl zf)), (fs, .inl (cA, 4, .inl mf)), (fm, .inl (cB, 256, .inl ff))] rfl rfl rfl rfl (by decide) rfl rfl, ?_⟩
    exact (⟨⟨hl1, hl2⟩, ⟨rfl, t1, t2⟩, ⟨rfl, v1, v2⟩, ⟨e3, a1, a2, a3⟩, ⟨e4, b1, b2, b3⟩, hn, hz⟩ : RelC len tk tf vk vf h0 k0 f0 h1 k1 f1 nf tk tg bf zf ww mf ff vk)
  refine ⟨(-1), (tk, tf, vk, vf, h0, k0, f0, h1, k1, f1, nf), (tk, tg, bf, zf, ww, mf, ff, vk), fun l D cA x t tr v vr c0 r0 c1 r1 fr => fr0 (c_x_waitN l D cA x len t v c0 c1 fr z z0 z1) [0] [1, 2, 3, 4, 5, 6, 7, 8, 9] [9, 0, 1, 2, 3, 4, 5, 6, 7, 8] [(t, .inr (0, [.ref tr, .int (nI tk)])), (tr, .inl (cA, 1024, .inl tf)), (v, .inr (0, [.ref vr, .int (nI vk)])), (vr, .inl (cA, len, .inl vf)), (c0, .inr (1, [.ref r0, .int (nI h0), .int (nI k0)])), (r0, .inl (cA, 4096, .inl f0)), (c1, .inr (1, [.ref r1, .int (nI h1), .int (nI k1)])), (r1, .inl (cA, 4096, .inl f1)), (fr, .inl (cA, 4, .inl nf))] rfl rfl rfl rfl (by decide) rfl rfl, fun l D cA cB cZ y tp bb zz wa fs fm => fr0 (c_m_waitN l D cA cB cZ y len tp bb zz wa fs fm tk vk ww z z0 z1) [0, 4] [1, 2, 3, 5, 6] [5, 0, 1, 2, 6, 3, 4] [(tp, .inl (cB, 1024, .inl tg)), (bb, .inl (cB, 8400, .inl bf)), (zz, .inl (cZ, 8400, .inl zf)), (fs, .inl (cA, 4, .inl mf)), (fm, .inl (cB, 256, .inl ff))] rfl rfl rfl rfl (by decide) rfl rfl, ?_⟩
  exact (⟨⟨hl1, hl2⟩, ⟨rfl, t1, t2⟩, ⟨rfl, v1, v2⟩, ⟨e3, a1, a2, a3⟩, ⟨e4, b1, b2, b3⟩, hn, hz⟩ : RelC len tk tf vk vf h0 k0 f0 h1 k1 f1 nf tk tg bf zf ww mf ff vk)
set_option maxHeartbeats 4000000 in
set_option maxRecDepth 100000 in
/-- count -/
theorem st_count {len : Nat} {u : XSt} {n : MSt} (hR : Rel len u n) (z : Int32) : StpOk yX2_count wsX2_count { frames := 0, cells := 0, slots := 0, locals := 0 } yX3_count wsM_count { frames := 0, cells := 0, slots := 0, locals := 0 } [.int z] len u n := by
  obtain ⟨tk, tf, vk, vf, h0, k0, f0, h1, k1, f1, nf⟩ := u
  obtain ⟨mk, tg, bf, zf, ww, mf, ff, fk⟩ := n
  have hR : RelC len tk tf vk vf h0 k0 f0 h1 k1 f1 nf mk tg bf zf ww mf ff fk := hR
  obtain ⟨⟨hl1, hl2⟩, ⟨e1, t1, t2⟩, ⟨e2, v1, v2⟩, ⟨e3, a1, a2, a3⟩, ⟨e4, b1, b2, b3⟩, hn, hz⟩ := hR
  subst e1
  subst e2
  by_cases q0 : z < 0 ∨ 3 < z
  · by_cases q4 : z = 4
    · subst q4
      refine ⟨(nI tk), (tk, tf, vk, vf, h0, k0, f0, h1, k1, f1, nf), (tk, tg, bf, zf, ww, mf, ff, vk), fun l D cA x t tr v vr c0 r0 c1 r1 fr => fr0 (c_x_count4 l D cA x len t v c0 c1 fr tr tk) [0, 1] [2, 3, 4, 5, 6, 7, 8, 9] [8, 9, 0, 1, 2, 3, 4, 5, 6, 7] [(tr, .inl (cA, 1024, .inl tf)), (v, .inr (0, [.ref vr, .int (nI vk)])), (vr, .inl (cA, len, .inl vf)), (c0, .inr (1, [.ref r0, .int (nI h0), .int (nI k0)])), (r0, .inl (cA, 4096, .inl f0)), (c1, .inr (1, [.ref r1, .int (nI h1), .int (nI k1)])), (r1, .inl (cA, 4096, .inl f1)), (fr, .inl (cA, 4, .inl nf))] rfl rfl rfl rfl (by decide) rfl rfl, fun l D cA cB cZ y tp bb zz wa fs fm => fr0 (c_m_count4 l D cA cB cZ y len tp bb zz wa fs fm tk vk) [0] [1, 2, 3, 4, 5, 6] [6, 0, 1, 2, 3, 4, 5] [(tp, .inl (cB, 1024, .inl tg)), (bb, .inl (cB, 8400, .inl bf)), (zz, .inl (cZ, 8400, .inl zf)), (wa, .inl (cA, 2, .inl (wI ww))), (fs, .inl (cA, 4, .inl mf)), (fm, .inl (cB, 256, .inl ff))] rfl rfl rfl rfl (by decide) rfl rfl, ?_⟩
      exact (⟨⟨hl1, hl2⟩, ⟨rfl, t1, t2⟩, ⟨rfl, v1, v2⟩, ⟨e3, a1, a2, a3⟩, ⟨e4, b1, b2, b3⟩, hn, hz⟩ : RelC len tk tf vk vf h0 k0 f0 h1 k1 f1 nf tk tg bf zf ww mf ff vk)
    by_cases q5 : z = 5
    · subst q5
      refine ⟨(nI len), (tk, tf, vk, vf, h0, k0, f0, h1, k1, f1, nf), (tk, tg, bf, zf, ww, mf, ff, vk), fun l D cA x t tr v vr c0 r0 c1 r1 fr => fr0 (c_x_count5 l D cA x len t v c0 c1 fr) [0] [1, 2, 3, 4, 5, 6, 7, 8, 9] [9, 0, 1, 2, 3, 4, 5, 6, 7, 8] [(t, .inr (0, [.ref tr, .int (nI tk)])), (tr, .inl (cA, 1024, .inl tf)), (v, .inr (0, [.ref vr, .int (nI vk)])), (vr, .inl (cA, len, .inl vf)), (c0, .inr (1, [.ref r0, .int (nI h0), .int (nI k0)])), (r0, .inl (cA, 4096, .inl f0)), (c1, .inr (1, [.ref r1, .int (nI h1), .int (nI k1)])), (r1, .inl (cA, 4096, .inl f1)), (fr, .inl (cA, 4, .inl nf))] rfl rfl rfl rfl (by decide) rfl rfl, fun l D cA cB cZ y tp bb zz wa fs fm => fr0 (c_m_count5 l D cA cB cZ y len tp bb zz wa fs fm tk vk) [0] [1, 2, 3, 4, 5, 6] [6, 0, 1, 2, 3, 4, 5] [(tp, .inl (cB, 1024, .inl tg)), (bb, .inl (cB, 8400, .inl bf)), (zz, .inl (cZ, 8400, .inl zf)), (wa, .inl (cA, 2, .inl (wI ww))), (fs, .inl (cA, 4, .inl mf)), (fm, .inl (cB, 256, .inl ff))] rfl rfl rfl rfl (by decide) rfl rfl, ?_⟩
      exact (⟨⟨hl1, hl2⟩, ⟨rfl, t1, t2⟩, ⟨rfl, v1, v2⟩, ⟨e3, a1, a2, a3⟩, ⟨e4, b1, b2, b3⟩, hn, hz⟩ : RelC len tk tf vk vf h0 k0 f0 h1 k1 f1 nf tk tg bf zf ww mf ff vk)
    have q9 : z < 0 ∨ 4 ≤ z := q0.elim Or.inl (fun q => Or.inr (Int32.le_iff_toInt_le.mpr (by have h3 : (3 : Int) < z.toInt := Int32.lt_iff_toInt_lt.mp q; have h4 : (4 : Int32).toInt = 4 := rfl; omega)))
    refine ⟨(-1), (tk, tf, vk, vf, h0, k0, f0, h1, k1, f1, nf), (tk, tg, bf, zf, ww, mf, ff, vk), fun l D cA x t tr v vr c0 r0 c1 r1 fr => fr0 (c_x_countN l D cA x len t v c0 c1 fr z q0 q4 q5) [0] [1, 2, 3, 4, 5, 6, 7, 8, 9] [9, 0, 1, 2, 3, 4, 5, 6, 7, 8] [(t, .inr (0, [.ref tr, .int (nI tk)])), (tr, .inl (cA, 1024, .inl tf)), (v, .inr (0, [.ref vr, .int (nI vk)])), (vr, .inl (cA, len, .inl vf)), (c0, .inr (1, [.ref r0, .int (nI h0), .int (nI k0)])), (r0, .inl (cA, 4096, .inl f0)), (c1, .inr (1, [.ref r1, .int (nI h1), .int (nI k1)])), (r1, .inl (cA, 4096, .inl f1)), (fr, .inl (cA, 4, .inl nf))] rfl rfl rfl rfl (by decide) rfl rfl, fun l D cA cB cZ y tp bb zz wa fs fm => fr0 (c_m_countN l D cA cB cZ y len tp bb zz wa fs fm tk vk z q9 q4 q5) [0] [1, 2, 3, 4, 5, 6] [6, 0, 1, 2, 3, 4, 5] [(tp, .inl (cB, 1024, .inl tg)), (bb, .inl (cB, 8400, .inl bf)), (zz, .inl (cZ, 8400, .inl zf)), (wa, .inl (cA, 2, .inl (wI ww))), (fs, .inl (cA, 4, .inl mf)), (fm, .inl (cB, 256, .inl ff))] rfl rfl rfl rfl (by decide) rfl rfl, ?_⟩
    exact (⟨⟨hl1, hl2⟩, ⟨rfl, t1, t2⟩, ⟨rfl, v1, v2⟩, ⟨e3, a1, a2, a3⟩, ⟨e4, b1, b2, b3⟩, hn, hz⟩ : RelC len tk tf vk vf h0 k0 f0 h1 k1 f1 nf tk tg bf zf ww mf ff vk)
  · obtain ⟨j, hj, rfl⟩ := nI_of (x := z) (fun q => q0 (Or.inl q))
    have j4 : j < 4 := Nat.not_le.mp (fun q => q0 (Or.inr (nI_lt (a := 3) (by omega) hj)))
    refine ⟨(nf j), (tk, tf, vk, vf, h0, k0, f0, h1, k1, f1, nf), (tk, tg, bf, zf, ww, mf, ff, vk), fun l D cA x t tr v vr c0 r0 c1 r1 fr => fr0 (c_x_countF l D cA x len t v c0 c1 fr nf j j4) [0, 9] [1, 2, 3, 4, 5, 6, 7, 8] [8, 0, 1, 2, 3, 4, 5, 6, 7, 9] [(t, .inr (0, [.ref tr, .int (nI tk)])), (tr, .inl (cA, 1024, .inl tf)), (v, .inr (0, [.ref vr, .int (nI vk)])), (vr, .inl (cA, len, .inl vf)), (c0, .inr (1, [.ref r0, .int (nI h0), .int (nI k0)])), (r0, .inl (cA, 4096, .inl f0)), (c1, .inr (1, [.ref r1, .int (nI h1), .int (nI k1)])), (r1, .inl (cA, 4096, .inl f1))] rfl rfl rfl rfl (by decide) rfl rfl, fun l D cA cB cZ y tp bb zz wa fs fm => fr0 (w0 := [(y, .inr (3, [.int 0, .int (nI len), .ref tp, .int (nI tk), .ref bb, .ref zz, .ref wa, .ref fs, .ref fm, .int (nI vk)])), (fs, .inl (cA, 4, .inl mf))]) (wc := [(y, .inr (3, [.int 0, .int (nI len), .ref tp, .int (nI tk), .ref bb, .ref zz, .ref wa, .ref fs, .ref fm, .int (nI vk)])), (fs, .inl (cA, 4, .inl mf))]) (by rw [hn j j4]; exact c_m_countF l D cA cB cZ y len tp bb zz wa fs fm tk vk mf j j4) [0, 5] [1, 2, 3, 4, 6] [5, 0, 1, 2, 3, 6, 4] [(tp, .inl (cB, 1024, .inl tg)), (bb, .inl (cB, 8400, .inl bf)), (zz, .inl (cZ, 8400, .inl zf)), (wa, .inl (cA, 2, .inl (wI ww))), (fm, .inl (cB, 256, .inl ff))] rfl rfl rfl rfl (by decide) rfl rfl, ?_⟩
    exact (⟨⟨hl1, hl2⟩, ⟨rfl, t1, t2⟩, ⟨rfl, v1, v2⟩, ⟨e3, a1, a2, a3⟩, ⟨e4, b1, b2, b3⟩, hn, hz⟩ : RelC len tk tf vk vf h0 k0 f0 h1 k1 f1 nf tk tg bf zf ww mf ff vk)
end
section
set_option maxHeartbeats 4000000 in
set_option maxRecDepth 100000 in
/-- frame -/
theorem st_frame {len : Nat} {u : XSt} {n : MSt} (hR : Rel len u n) (word : Int32) : StpOk yX2_frame wsX2_frame { frames := 3, cells := 0, slots := 0, locals := 90 } yX3_frame wsM_frame { frames := 2, cells := 0, slots := 0, locals := 50 } [.int word] len u n := by
  obtain ⟨tk, tf, vk, vf, h0, k0, f0, h1, k1, f1, nf⟩ := u
  obtain ⟨mk, tg, bf, zf, ww, mf, ff, fk⟩ := n
  have hR : RelC len tk tf vk vf h0 k0 f0 h1 k1 f1 nf mk tg bf zf ww mf ff fk := hR
  obtain ⟨⟨hl1, hl2⟩, ⟨e1, t1, t2⟩, ⟨e2, v1, v2⟩, ⟨e3, a1, a2, a3⟩, ⟨e4, b1, b2, b3⟩, hn, hz⟩ := hR
  subst e1
  subst e2
  obtain ⟨a, ha⟩ : ∃ a, len = a + 12 := ⟨len - 12, by omega⟩
  by_cases q0 : 0 < k0
  · have hw : ww 0 = k0 := e3.symm
    have hF : chR (filF f0 h0 k0 a) h0 (filK k0 a) (mfB bf 0 k0 a) (mfZ zf 0 k0 a) (4200 * 0) := fil_ok a3 a1 (by omega)
    obtain ⟨q, hq, eq⟩ := fb_b (filF f0 h0 k0 a) h0 a 0 (by omega)
    have hrow : rowR (frL vf nf 0 1 (nI q) (gfl (filF f0 h0 k0 a) h0) a word) (mL ff mf (nI 0) 1 (nI q) (fun i => i8 ((mfB bf 0 k0 a) (4200 * 0 + i))) a word) (6 + a + 6) := frame_ok hq ⟨by decide, by decide⟩ (hn 0 (by decide)) (hn 1 (by decide)) (fun i hi => by unfold gfl; rw [and_255_255, i8_and]; exact (hF i (Nat.lt_of_lt_of_le hi (filK_ge _ _))).1)
    rw [show 6 + a + 6 = len by omega, ← eq] at hrow
    have hfb := fb_eq hF a 0 (by have := filK_ge k0 a; omega)
    refine ⟨0, (tk, tf, len, frL vf nf 0 1 (fbS (filF f0 h0 k0 a) h0 a 0) (gfl (filF f0 h0 k0 a) h0) a word, (h0 + a) % 4096, filK k0 a - a, filF f0 h0 k0 a, h1, k1, f1, cnt2 nf 1), (tk, tg, lwr (mfB bf 0 k0 a) (4200 * 0) (fun i => i8 ((mfB bf 0 k0 a) (4200 * 0 + i + a))) (filK k0 a - a), lwr (mfZ zf 0 k0 a) (4200 * 0) (fun i => (mfZ zf 0 k0 a) (4200 * 0 + i + a) &&& 1) (filK k0 a - a), va_up ww 0 (filK k0 a - a), cnt2 mf 1, mL ff mf (nI 0) 1 (fbM (mfZ zf 0 k0 a) (4200 * 0) a 0) (fun i => i8 ((mfB bf 0 k0 a) (4200 * 0 + i))) a word, len), fun l D cA x t tr v vr c0 r0 c1 r1 fr => fr0 (c_x_frame0 l D cA a x len t v c0 c1 fr vr vk vf r0 h0 k0 f0 r1 h1 k1 f1 nf word ha hl2 q0 a1 a2) [0, 3, 4, 5, 6, 7, 8, 9] [1, 2] [2, 0, 1, 3, 4, 5, 6, 7, 8, 9] [(t, .inr (0, [.ref tr, .int (nI tk)])), (tr, .inl (cA, 1024, .inl tf))] rfl rfl rfl rfl (by decide) rfl rfl, fun l D cA cB cZ y tp bb zz wa fs fm => fr0 (c_m_frame0 l D cA cB cZ a y len tp bb zz wa fs fm tk vk bf zf ww mf ff word ha hl2 k0 hw a1 (by omega)) [0, 2, 3, 4, 5, 6] [1] [1, 0, 2, 3, 4, 5, 6] [(tp, .inl (cB, 1024, .inl tg))] rfl rfl rfl rfl (by decide) rfl rfl, ?_⟩
    exact (⟨⟨hl1, hl2⟩, ⟨rfl, t1, t2⟩, ⟨rfl, Nat.le_refl _, by rw [← hfb]; exact hrow⟩, ⟨by simp [va_up], by have := filK_le k0 a a1 (by omega); omega, Nat.mod_lt _ (by decide), chR_left hF (filK_ge _ _) (fil_z hz)⟩, ⟨by simp [va_up]; exact e4, b1, b2, chR_out (fil_o b3 a1 (by omega) (by omega)) (by have := filK_le k0 a a1 (by omega); omega) (by have := filK_le k0 a a1 (by omega); omega)⟩, (cnt_ok (by decide) hn), (lwr_all (P := fun x => x = 0 ∨ x = 1) (fil_z hz) (fun i _ => and_1 _))⟩ : RelC len tk tf len (frL vf nf 0 1 (fbS (filF f0 h0 k0 a) h0 a 0) (gfl (filF f0 h0 k0 a) h0) a word) ((h0 + a) % 4096) (filK k0 a - a) (filF f0 h0 k0 a) h1 k1 f1 (cnt2 nf 1) tk tg (lwr (mfB bf 0 k0 a) (4200 * 0) (fun i => i8 ((mfB bf 0 k0 a) (4200 * 0 + i + a))) (filK k0 a - a)) (lwr (mfZ zf 0 k0 a) (4200 * 0) (fun i => (mfZ zf 0 k0 a) (4200 * 0 + i + a) &&& 1) (filK k0 a - a)) (va_up ww 0 (filK k0 a - a)) (cnt2 mf 1) (mL ff mf (nI 0) 1 (fbM (mfZ zf 0 k0 a) (4200 * 0) a 0) (fun i => i8 ((mfB bf 0 k0 a) (4200 * 0 + i))) a word) len)
  by_cases q1 : 0 < k1
  · have hw : ww 1 = k1 := e4.symm
    have k00 : k0 = 0 := by omega
    have hF : chR (filF f1 h1 k1 a) h1 (filK k1 a) (mfB bf 1 k1 a) (mfZ zf 1 k1 a) (4200 * 1) := fil_ok b3 b1 (by omega)
    obtain ⟨q, hq, eq⟩ := fb_b (filF f1 h1 k1 a) h1 a 0 (by omega)
    have hrow : rowR (frL vf nf 1 2 (nI q) (gfl (filF f1 h1 k1 a) h1) a word) (mL ff mf (nI 1) 2 (nI q) (fun i => i8 ((mfB bf 1 k1 a) (4200 * 1 + i))) a word) (6 + a + 6) := frame_ok hq ⟨by decide, by decide⟩ (hn 0 (by decide)) (hn 2 (by decide)) (fun i hi => by unfold gfl; rw [and_255_255, i8_and]; exact (hF i (Nat.lt_of_lt_of_le hi (filK_ge _ _))).1)
    rw [show 6 + a + 6 = len by omega, ← eq] at hrow
    have hfb := fb_eq hF a 0 (by have := filK_ge k1 a; omega)
    refine ⟨1, (tk, tf, len, frL vf nf 1 2 (fbS (filF f1 h1 k1 a) h1 a 0) (gfl (filF f1 h1 k1 a) h1) a word, h0, k0, f0, (h1 + a) % 4096, filK k1 a - a, filF f1 h1 k1 a, cnt2 nf 2), (tk, tg, lwr (mfB bf 1 k1 a) (4200 * 1) (fun i => i8 ((mfB bf 1 k1 a) (4200 * 1 + i + a))) (filK k1 a - a), lwr (mfZ zf 1 k1 a) (4200 * 1) (fun i => (mfZ zf 1 k1 a) (4200 * 1 + i + a) &&& 1) (filK k1 a - a), va_up ww 1 (filK k1 a - a), cnt2 mf 2, mL ff mf (nI 1) 2 (fbM (mfZ zf 1 k1 a) (4200 * 1) a 0) (fun i => i8 ((mfB bf 1 k1 a) (4200 * 1 + i))) a word, len), fun l D cA x t tr v vr c0 r0 c1 r1 fr => fr0 (c_x_frame1 l D cA a x len t v c0 c1 fr vr vk vf r0 h0 k0 f0 r1 h1 k1 f1 nf word ha hl2 k00 q1 b1 b2) [0, 3, 4, 5, 6, 7, 8, 9] [1, 2] [2, 0, 1, 3, 4, 5, 6, 7, 8, 9] [(t, .inr (0, [.ref tr, .int (nI tk)])), (tr, .inl (cA, 1024, .inl tf))] rfl rfl rfl rfl (by decide) rfl rfl, fun l D cA cB cZ y tp bb zz wa fs fm => fr0 (c_m_frame1 l D cA cB cZ a y len tp bb zz wa fs fm tk vk bf zf ww mf ff word ha hl2 k1 hw b1 (by omega) (by omega)) [0, 2, 3, 4, 5, 6] [1] [1, 0, 2, 3, 4, 5, 6] [(tp, .inl (cB, 1024, .inl tg))] rfl rfl rfl rfl (by decide) rfl rfl, ?_⟩
    exact (⟨⟨hl1, hl2⟩, ⟨rfl, t1, t2⟩, ⟨rfl, Nat.le_refl _, by rw [← hfb]; exact hrow⟩, ⟨by simp [va_up]; exact e3, a1, a2, chR_out (fil_o a3 b1 (by omega) (by omega)) (by have := filK_le k1 a b1 (by omega); omega) (by have := filK_le k1 a b1 (by omega); omega)⟩, ⟨by simp [va_up], by have := filK_le k1 a b1 (by omega); omega, Nat.mod_lt _ (by decide), chR_left hF (filK_ge _ _) (fil_z hz)⟩, (cnt_ok (by decide) hn), (lwr_all (P := fun x => x = 0 ∨ x = 1) (fil_z hz) (fun i _ => and_1 _))⟩ : RelC len tk tf len (frL vf nf 1 2 (fbS (filF f1 h1 k1 a) h1 a 0) (gfl (filF f1 h1 k1 a) h1) a word) h0 k0 f0 ((h1 + a) % 4096) (filK k1 a - a) (filF f1 h1 k1 a) (cnt2 nf 2) tk tg (lwr (mfB bf 1 k1 a) (4200 * 1) (fun i => i8 ((mfB bf 1 k1 a) (4200 * 1 + i + a))) (filK k1 a - a)) (lwr (mfZ zf 1 k1 a) (4200 * 1) (fun i => (mfZ zf 1 k1 a) (4200 * 1 + i + a) &&& 1) (filK k1 a - a)) (va_up ww 1 (filK k1 a - a)) (cnt2 mf 2) (mL ff mf (nI 1) 2 (fbM (mfZ zf 1 k1 a) (4200 * 1) a 0) (fun i => i8 ((mfB bf 1 k1 a) (4200 * 1 + i))) a word) len)
  have hrow : rowR (frL vf nf 7 3 2046 (fun _ => 85 &&& 255) a word) (mL ff mf 7 3 2046 (fun _ => i8 85) a word) (6 + a + 6) := frame_ok (q := 2046) (by decide) ⟨by decide, by decide⟩ (hn 0 (by decide)) (hn 3 (by decide)) (fun i hi => by decide)
  rw [show 6 + a + 6 = len by omega] at hrow
  refine ⟨7, (tk, tf, len, frL vf nf 7 3 2046 (fun _ => 85 &&& 255) a word, h0, k0, f0, h1, k1, f1, cnt2 nf 3), (tk, tg, bf, zf, ww, cnt2 mf 3, mL ff mf 7 3 2046 (fun _ => i8 85) a word, len), fun l D cA x t tr v vr c0 r0 c1 r1 fr => fr0 (c_x_frame7 l D cA a x len t v c0 c1 fr vr vk vf r0 h0 k0 f0 r1 h1 k1 f1 nf word ha hl2 (by omega) (by omega)) [0, 3, 4, 5, 6, 7, 8, 9] [1, 2] [2, 0, 1, 3, 4, 5, 6, 7, 8, 9] [(t, .inr (0, [.ref tr, .int (nI tk)])), (tr, .inl (cA, 1024, .inl tf))] rfl rfl rfl rfl (by decide) rfl rfl, fun l D cA cB cZ y tp bb zz wa fs fm => fr0 (c_m_frame2 l D cA cB cZ a y len tp bb zz wa fs fm tk vk bf zf ww mf ff word ha hl2 (by omega) (by omega)) [0, 2, 3, 4, 5, 6] [1] [1, 0, 2, 3, 4, 5, 6] [(tp, .inl (cB, 1024, .inl tg))] rfl rfl rfl rfl (by decide) rfl rfl, ?_⟩
  exact (⟨⟨hl1, hl2⟩, ⟨rfl, t1, t2⟩, ⟨rfl, Nat.le_refl _, hrow⟩, ⟨e3, a1, a2, a3⟩, ⟨e4, b1, b2, b3⟩, (cnt_ok (by decide) hn), hz⟩ : RelC len tk tf len (frL vf nf 7 3 2046 (fun _ => 85 &&& 255) a word) h0 k0 f0 h1 k1 f1 (cnt2 nf 3) tk tg bf zf ww (cnt2 mf 3) (mL ff mf 7 3 2046 (fun _ => i8 85) a word) len)
end
section
/-! THE CLAIM OUT OF ONE WALK OF THE LAW'S BODY. Your part is whole_start (and what it stands on); all else here is the same for every law, but numbers. -/
def R_law : String := "DownFramesLaw"
def lw_P (b : Addr) (xs : List Int32) (args : Array Value) (s : State) : Prop := args = #[.ref b] ∧ s.IntsAt b xs ∧ xs.length ≤ 2049 ∧ (Jvm.Cond.and given_1 narrow_1).before args s = true
def lw_Q (_ : Array Value) (s : State) (o : Outcome) (t : State) : Prop := o = .returned (some (.int 1)) ∧ Framed s o t [] 600000 7302249
def lw_Z (below : List Frame) (a : Array Value) (s : State) : State → Prop := fun t => ∃ o, t.status = .running ∧ Ended t below o ∧ lw_Q a s o t
/-- the law's own end, with 1 on the stack, nothing written that was there before, its room as the claim has it -/
theorem lw_ret {p : Program} {l : Launch} {e : Env} {s : State} {m : MethodId} {below : List Frame} {meth : Method} {c : Code} {b : Nat} (hx : p.tables.exec = Jvm.exec) (hb : c.code = code) (hr : meth.sig.returnType = ret) (hlocks : meth.locks = false) {pc : Nat} {H : Heap} {ls : Array Slot} (hdg : decode code pc = .ok (.ireturn, 1)) : W p l e room_1 s m #[Value.ref b] below meth c H [] 600000 7302249 (lw_Z below #[Value.ref b] s) (F0 m pc ls [.int 1]) := by
  intro T hT X
  obtain ⟨fs, hret, hrun, hended, hW, hframe⟩ := X.leave (v := some (.int 1)) (hlocks := hlocks) (fun h => by rw [hr] at h; cases h)
  have hmeth' : T.vm.method? m = some meth := X.method'
  refine ⟨T.setFrames fs, ?_, .returned (some (.int 1)), hrun, hended, rfl, ⟨_, rfl⟩, hW, hframe⟩
  jvm_step X.here [X.here.top, hx, hb, hdg, hmeth', hr, ret, narrow_b1]
  (try refine ⟨rfl, ?_⟩); (try refine ⟨rfl, ?_⟩)
  first | (intro acts; rw [hret _ acts rfl rfl rfl]) | rw [hret _ _ rfl rfl rfl]
  exact Steps.refl _
/-- what holds at the law's entry: the machine, the code, the tables' words (any of lw_tbl by 'hts w (by decide +kernel)'), the script of L ints xs at the cell b, what the Statement gives of the start (any of its parts by flat_of_before) -/
def lw_At (p : Program) (s : State) (m : MethodId) (meth : Method) (c : Code) (b L : Nat) (xs : Nat → Int32) : Prop :=
  p.tables.exec = Jvm.exec ∧ c.code = code ∧ meth.sig.returnType = ret ∧ c.maxLocals = 4 ∧ s.vm.findClass R_law = some m.cls ∧ (∀ w ∈ lw_tbl, w.before #[Value.ref b] s = true) ∧ va_X b L xs s s.heap ∧ b < s.heap.size ∧ meth.locks = false ∧ (Jvm.Cond.and given_1 narrow_1).before #[Value.ref b] s = true
section SC
variable {p : Program} {l : Launch} {e : Env} {R : Room} {s : State} {m : MethodId} {args : Array Value} {below : List Frame} {meth : Method} {c : Code} {H : Heap} {locs : List Loc} {cells slots : Nat} {Q : State → Prop}
variable {cc : ByteArray} {pc : Nat} {ls : Array Slot} {rest : List Value} {A : Nat → Prop} {H0 : Heap}
theorem sl_i (hx : p.tables.exec = Jvm.exec) (hb : c.code = cc) {b L : Nat} {xs : Nat → Int32} (hX : va_X b L xs s H0) (hbl : b < H0.size) (hbA : ¬ A b) (hS : va_S A H0 H locs) {k : Nat} (hk : k < L) (hL : L < 2 ^ 31) (hdg : decode cc pc = .ok (.iaload, 1))
    (kk : W p l e R s m args below meth c H locs cells slots Q (F0 m (pc + 1) ls (.int (xs k) :: rest))) : W p l e R s m args below meth c H locs cells slots Q (F0 m pc ls (.int (nI k) :: .ref b :: rest)) := by
  refine va_sld hx hb hX hbl hbA hS (vp_in_nI hk hL) hdg ?_
  rw [nI_clamp (by omega)]
  exact kk
end SC
theorem lw_cmp {i L : Nat} (hL : L ≤ 2049) (hi : i ≤ 2053) : (nI L - 4 < nI i) ↔ L < i + 4 := by
  rw [Int32.lt_iff_toInt_lt, show (4 : Int32) = nI 4 from rfl, pk_sub_toInt (by omega) (by decide), nI_toInt (by omega)]
  omega
/-- the script's first int, or 0 -/
def cel (L : Nat) (xs : Nat → Int32) : Int32 := if 0 < L then xs 0 else 0
set_option maxHeartbeats 4000000 in
set_option maxRecDepth 100000 in
/-- cell(script, 0) -/
theorem c_cell (l : Launch) (b L : Nat) (xs : Nat → Int32) (hL : L ≤ 2049) : Met l yL_cell wsL_cell { frames := 0, cells := 0, slots := 0, locals := 0 } (va_Pc [.ref b, .int 0] (fun U => va_X b L xs U U.heap ∧ b < U.heap.size)) (QcRead (cel L xs)) 0 0 (fun _ => False) := by
  refine Met.ofW (cc := cL_cell) (maxL := 2) (ret := (some .int)) (by decide) rfl ?_
  intro p e s m args below meth c s₁ B hml hv
  obtain ⟨rfl, hX, hbl⟩ := hv
  have hx := B.exec
  have hb := B.bytes
  have hr := B.returns
  have hlocks := B.notSynchronized
  have hbA : ¬ (fun _ : Nat => False) b := fun h => h
  have hS : va_S (fun _ : Nat => False) s.heap s.heap [] := va_S.rf
  have hl := lv_entry ([.ref b, .int 0]) (n := 2) (Nat.le_of_ble_eq_true rfl)
  rw [lg_entry_eq]
  generalize (lg_sl ([.ref b, .int 0]) ++ List.replicate (2 - (lg_sl ([.ref b, .int 0])).length) Slot.unset).toArray = ls at hl ⊢
  have hl : lv_has ls 2 [(0, .ref b), (1, .int 0)] := hl
  refine lv_iload_n hx hb dL_cell_0 rfl (lv_at hl 1 rfl) ?_
  refine lv_aload_n hx hb dL_cell_1 rfl (lv_at hl 0 rfl) ?_
  refine va_slen hx hb hX hbl hbA hS dL_cell_2 ?_
  refine lv_icmp_ge (tgt := 12) hx hb dL_cell_3 (by decide) (fun q => ?_) (fun q => ?_)
  · refine lv_iconst (v := 0) hx hb dL_cell_12 (by decide) ?_
    have h0 : ¬ 0 < L := fun t => nI_ge (a := 0) t (by omega) q
    exact W.iret hx hb hr (fun t ht _ => ⟨by unfold cel; rw [if_neg h0], ht⟩) (fun q h => by cases h) dL_cell_13
  · have h0 : 0 < L := Nat.not_le.mp (fun t => q (nI_le (b := 0) t (by decide)))
    refine lv_aload_n hx hb dL_cell_6 rfl (lv_at hl 0 rfl) ?_
    refine lv_iload_n hx hb dL_cell_7 rfl (lv_at hl 1 rfl) ?_
    refine tp_i (y := nI 0) rfl ?_
    refine sl_i hx hb hX hbl hbA hS h0 (by omega) dL_cell_8 ?_
    refine lv_goto (tgt := 13) hx hb dL_cell_9 (by decide) ?_
    exact W.iret hx hb hr (fun t ht _ => ⟨by unfold cel; rw [if_pos h0], ht⟩) (fun q h => by cases h) dL_cell_13
theorem cell_blind {b L : Nat} {xs : Nat → Int32} {av : List Value} : FrameBlind (va_Pc av (fun U => va_X b L xs U U.heap ∧ b < U.heap.size)) := fun a U g mk q => ⟨q.1, va_X.moved (u := U) (U := U.calling g mk a) (Vm.Alike.refl U.vm) q.2.1, q.2.2⟩

set_option maxHeartbeats 4000000 in
set_option maxRecDepth 100000 in
/-- THE LAW'S LOOP: at its head class and reference agree -/
theorem law_loop {p : Program} {l : Launch} {e : Env} {s : State} {m : MethodId} {below : List Frame} {meth : Method} {c : Code} {D : va_G} {cA cB cZ : ClassId} {b L : Nat} {xs : Nat → Int32} (hL : L ≤ 2049) (C0 : lw_At p s m meth c b L xs) (hN : nw s) (hK : va_K D vwCl [(cA, .int), (cB, .byte), (cZ, .boolean)] s) (x len t tr v vr c0 r0 c1 r1 fr y tp bb zz wa fs fm : Nat) :
    ∀ (n i : Nat) (u : XSt) (nu : MSt) (H : Heap) (locs : List Loc) (ls : Array Slot), i ≤ 2053 → L < i + 4 * n + 4 → Rel len u nu → va_P D vwCl (xw cA x len t tr v vr c0 r0 c1 r1 fr u ++ mw cA cB cZ y len tp bb zz wa fs fm nu) H → va_D (fun q : Nat => s.heap.size ≤ q) (xw cA x len t tr v vr c0 r0 c1 r1 fr u ++ mw cA cB cZ y len tp bb zz wa fs fm nu) → va_S (fun q : Nat => s.heap.size ≤ q) s.heap H locs → lv_has ls 4 [(3, .int (nI i)), (2, .ref y), (1, .ref x), (0, .ref b)] → W p l e room_1 s m #[Value.ref b] below meth c H locs 17 27588 (lw_Z below #[Value.ref b] s) (F0 m 28 ls []) := by
  obtain ⟨hx, hb, hr, hml, hown, hts, hX, hbl, hlocks, hgv⟩ := C0
  have hown : s.vm.findClass RL = some m.cls := hown
  have hA : ∀ q : Nat, s.heap.size ≤ q → (fun q : Nat => s.heap.size ≤ q) q := fun _ h => h
  have hbA : ¬ (fun q : Nat => s.heap.size ≤ q) b := Nat.not_le.mpr hbl
  have htsL : ∀ w ∈ wsL_law, w.before #[Value.ref b] s = true := fun w h => hts w (wsL_law_in w h)
  have hK1 : va_K D vwCl [(cA, .int)] s := hK.sub [0] rfl
  have k21 := hts (.constantLong RL 21 (4294967295)) (by decide +kernel)
  intro n
  induction n with
  | zero =>
    intro i u nu H locs ls hi hf hR hP hD hS hl
    refine lv_iload_n hx hb dL_law_28 rfl (lv_at hl 0 rfl) ?_
    refine lv_aload_n hx hb dL_law_29 rfl (lv_at hl 3 rfl) ?_
    refine va_slen hx hb hX hbl hbA hS dL_law_30 ?_
    refine lv_iconst (v := 4) hx hb dL_law_31 (by decide) ?_
    refine lv_isub hx hb dL_law_32 ?_
    refine lv_icmp_gt (tgt := 264) hx hb dL_law_33 (by decide) (fun _ => ?_) (fun cc => absurd ((lw_cmp hL hi).mpr (by omega)) cc)
    refine lv_iconst (v := 1) hx hb dL_law_264 (by decide) ?_
    refine va_forget (fun q hq => hS.2.2 q hq) ?_
    refine W.widen (k := 600000) (n := 7302249) (Nat.le_of_ble_eq_true rfl) (Nat.le_of_ble_eq_true rfl) ?_
    exact lw_ret hx hb hr hlocks dL_law_265
  | succ n ih =>
    intro i u nu H locs ls hi hf hR hP hD hS hl
    refine lv_iload_n hx hb dL_law_28 rfl (lv_at hl 0 rfl) ?_
    refine lv_aload_n hx hb dL_law_29 rfl (lv_at hl 3 rfl) ?_
    refine va_slen hx hb hX hbl hbA hS dL_law_30 ?_
    refine lv_iconst (v := 4) hx hb dL_law_31 (by decide) ?_
    refine lv_isub hx hb dL_law_32 ?_
    refine lv_icmp_gt (tgt := 264) hx hb dL_law_33 (by decide) (fun q => ?_) (fun q => ?_)
    · refine lv_iconst (v := 1) hx hb dL_law_264 (by decide) ?_
      refine va_forget (fun q hq => hS.2.2 q hq) ?_
      refine W.widen (k := 600000) (n := 7302249) (Nat.le_of_ble_eq_true rfl) (Nat.le_of_ble_eq_true rfl) ?_
      exact lw_ret hx hb hr hlocks dL_law_265
    · have h4 : i + 4 ≤ L := Nat.not_lt.mp (fun t => q ((lw_cmp hL hi).mpr t))
      refine lv_aload_n hx hb dL_law_36 rfl (lv_at hl 3 rfl) ?_
      refine lv_iload_n hx hb dL_law_37 rfl (lv_at hl 0 rfl) ?_
      refine sl_i (k := i) hx hb hX hbl hbA hS (by omega) (by omega) dL_law_38 ?_
      refine lv_bipush (v := 7) hx hb dL_law_39 (by decide +kernel) ?_
      refine lv_iand hx hb dL_law_41 ?_
      obtain ⟨d, hd, ed⟩ := pk_andE (xs i) (m := 7) 3 (by decide)
      refine tp_i (y := nI d) (ed) ?_
      have next : ∀ (u : XSt) (nu : MSt) (H : Heap) (locs : List Loc) (ls : Array Slot), Rel len u nu → va_P D vwCl (xw cA x len t tr v vr c0 r0 c1 r1 fr u ++ mw cA cB cZ y len tp bb zz wa fs fm nu) H → va_D (fun q : Nat => s.heap.size ≤ q) (xw cA x len t tr v vr c0 r0 c1 r1 fr u ++ mw cA cB cZ y len tp bb zz wa fs fm nu) → va_S (fun q : Nat => s.heap.size ≤ q) s.heap H locs → lv_has ls 4 [(3, .int (nI i)), (2, .ref y), (1, .ref x), (0, .ref b)] → W p l e room_1 s m #[Value.ref b] below meth c H locs 17 27588 (lw_Z below #[Value.ref b] s) (F0 m 258 ls []) := by
        intro u nu H locs ls hR hP hD hS hl
        refine lv_iinc (v := nI (i + 4)) (lv' := [(3, .int (nI (i + 4))), (2, .ref y), (1, .ref x), (0, .ref b)]) hx hb dL_law_258 hl (k := 0) rfl (nI_add i 4) (by decide) rfl (fun ls hl => ?_)
        refine lv_goto (tgt := 28) hx hb dL_law_261 (by decide) ?_
        exact ih (i + 4) u nu H locs ls (by omega) (by omega) hR hP hD hS (lv_sub hl [0, 1, 2, 3] rfl)
      rcases (show d = 0 ∨ d = 1 ∨ d = 2 ∨ d = 3 ∨ d = 4 ∨ d = 5 ∨ d = 6 ∨ d = 7 by omega) with rfl | rfl | rfl | rfl | rfl | rfl | rfl | rfl
      · refine lv_tableIn (tgt := 80) hx hb dL_law_42 (by decide) (by decide) rfl (by decide) ?_
        refine lv_aload_n hx hb dL_law_80 rfl (lv_at hl 2 rfl) ?_
        refine lv_aload_n hx hb dL_law_81 rfl (lv_at hl 3 rfl) ?_
        refine lv_iload_n hx hb dL_law_82 rfl (lv_at hl 0 rfl) ?_
        refine lv_iconst (v := 1) hx hb dL_law_83 (by decide) ?_
        refine lv_iadd hx hb dL_law_84 ?_
        refine tp_i (y := nI (i + 1)) (nI_1 i) ?_
        refine sl_i (k := i + 1) hx hb hX hbl hbA hS (by omega) (by omega) dL_law_85 ?_
        refine lv_i2l (v := ((xs (i + 1))).toInt64) hx hb dL_law_86 rfl ?_
        refine lv_bipush (v := 32) hx hb dL_law_87 (by decide +kernel) ?_
        refine lv_lshl (v := lsl (((xs (i + 1))).toInt64) 32) hx hb dL_law_89 rfl ?_
        refine lv_aload_n hx hb dL_law_90 rfl (lv_at hl 3 rfl) ?_
        refine lv_iload_n hx hb dL_law_91 rfl (lv_at hl 0 rfl) ?_
        refine lv_iconst (v := 2) hx hb dL_law_92 (by decide) ?_
        refine lv_iadd hx hb dL_law_93 ?_
        refine tp_i (y := nI (i + 2)) (nI_add i 2) ?_
        refine sl_i (k := i + 2) hx hb hX hbl hbA hS (by omega) (by omega) dL_law_94 ?_
        refine lv_i2l (v := ((xs (i + 2))).toInt64) hx hb dL_law_95 rfl ?_
        refine lv_ldc2 hx hb hown k21 dL_law_96 ?_
        refine lv_land hx hb dL_law_99 ?_
        refine lv_lor hx hb dL_law_100 ?_
        refine lv_aload_n hx hb dL_law_101 rfl (lv_at hl 3 rfl) ?_
        refine lv_iload_n hx hb dL_law_102 rfl (lv_at hl 0 rfl) ?_
        refine lv_iconst (v := 3) hx hb dL_law_103 (by decide) ?_
        refine lv_iadd hx hb dL_law_104 ?_
        refine tp_i (y := nI (i + 3)) (nI_add i 3) ?_
        refine sl_i (k := i + 3) hx hb hX hbl hbA hS (by omega) (by omega) dL_law_105 ?_
        obtain ⟨r, u2, nu2, hXc, hMc, hR2⟩ := st_give hR ((lsl (((xs (i + 1))).toInt64) 32) ||| ((((xs (i + 2))).toInt64) &&& 4294967295)) (xs (i + 3))
        refine cl0_vi ⟨hx, hb, hml, hown, htsL⟩ (hXc l D cA x t tr v vr c0 r0 c1 r1 fr) (cwV 2 htsL gL_law_X2_give rfl rfl rfl (by decide +kernel) ⟨Nat.le_of_ble_eq_true rfl, Nat.le_of_ble_eq_true rfl⟩) (ci := 2) (q0 := 0) rfl rfl hN hK1 hP hD hS hA [0, 1, 2, 3, 4, 5, 6, 7, 8, 9] [10, 11, 12, 13, 14, 15, 16] [7, 8, 9, 10, 11, 12, 13, 14, 15, 16, 0, 1, 2, 3, 4, 5, 6] (mw cA cB cZ y len tp bb zz wa fs fm nu) (xw cA x len t tr v vr c0 r0 c1 r1 fr u2 ++ mw cA cB cZ y len tp bb zz wa fs fm nu) [] rfl rfl rfl rfl (by decide) rfl rfl rfl hl.1 rfl (Nat.le_of_ble_eq_true rfl) dL_law_106 ⟨Nat.le_of_ble_eq_true rfl, Nat.le_of_ble_eq_true rfl⟩ (fun H locs hP hD hS => ?_)
        refine lv_aload_n hx hb dL_law_109 rfl (lv_at hl 1 rfl) ?_
        refine lv_aload_n hx hb dL_law_110 rfl (lv_at hl 3 rfl) ?_
        refine lv_iload_n hx hb dL_law_111 rfl (lv_at hl 0 rfl) ?_
        refine lv_iconst (v := 1) hx hb dL_law_112 (by decide) ?_
        refine lv_iadd hx hb dL_law_113 ?_
        refine tp_i (y := nI (i + 1)) (nI_1 i) ?_
        refine sl_i (k := i + 1) hx hb hX hbl hbA hS (by omega) (by omega) dL_law_114 ?_
        refine lv_i2l (v := ((xs (i + 1))).toInt64) hx hb dL_law_115 rfl ?_
        refine lv_bipush (v := 32) hx hb dL_law_116 (by decide +kernel) ?_
        refine lv_lshl (v := lsl (((xs (i + 1))).toInt64) 32) hx hb dL_law_118 rfl ?_
        refine lv_aload_n hx hb dL_law_119 rfl (lv_at hl 3 rfl) ?_
        refine lv_iload_n hx hb dL_law_120 rfl (lv_at hl 0 rfl) ?_
        refine lv_iconst (v := 2) hx hb dL_law_121 (by decide) ?_
        refine lv_iadd hx hb dL_law_122 ?_
        refine tp_i (y := nI (i + 2)) (nI_add i 2) ?_
        refine sl_i (k := i + 2) hx hb hX hbl hbA hS (by omega) (by omega) dL_law_123 ?_
        refine lv_i2l (v := ((xs (i + 2))).toInt64) hx hb dL_law_124 rfl ?_
        refine lv_ldc2 hx hb hown k21 dL_law_125 ?_
        refine lv_land hx hb dL_law_128 ?_
        refine lv_lor hx hb dL_law_129 ?_
        refine lv_aload_n hx hb dL_law_130 rfl (lv_at hl 3 rfl) ?_
        refine lv_iload_n hx hb dL_law_131 rfl (lv_at hl 0 rfl) ?_
        refine lv_iconst (v := 3) hx hb dL_law_132 (by decide) ?_
        refine lv_iadd hx hb dL_law_133 ?_
        refine tp_i (y := nI (i + 3)) (nI_add i 3) ?_
        refine sl_i (k := i + 3) hx hb hX hbl hbA hS (by omega) (by omega) dL_law_134 ?_
        refine cl0_vi ⟨hx, hb, hml, hown, hts⟩ (hMc l D cA cB cZ y tp bb zz wa fs fm) (cwV 2 hts gLM_give rfl rfl rfl (by decide +kernel) ⟨Nat.le_of_ble_eq_true rfl, Nat.le_of_ble_eq_true rfl⟩) (ci := 3) (q0 := 0) rfl rfl hN hK hP hD hS hA [10, 11, 12, 13, 14, 15, 16] [0, 1, 2, 3, 4, 5, 6, 7, 8, 9] [0, 1, 2, 3, 4, 5, 6, 7, 8, 9, 10, 11, 12, 13, 14, 15, 16] (xw cA x len t tr v vr c0 r0 c1 r1 fr u2) (xw cA x len t tr v vr c0 r0 c1 r1 fr u2 ++ mw cA cB cZ y len tp bb zz wa fs fm nu2) [.int r] rfl rfl rfl rfl (by decide) rfl rfl rfl hl.1 rfl (Nat.le_of_ble_eq_true rfl) dL_law_135 ⟨Nat.le_of_ble_eq_true rfl, Nat.le_of_ble_eq_true rfl⟩ (fun H locs hP hD hS => ?_)
        refine lv_icmp_eq (tgt := 258) hx hb dL_law_138 (by decide) (fun _ => ?_) (fun cc => absurd (rfl) cc)
        exact next u2 nu2 H locs ls hR2 hP hD hS hl
      · refine lv_tableIn (tgt := 143) hx hb dL_law_42 (by decide) (by decide) rfl (by decide) ?_
        refine lv_aload_n hx hb dL_law_143 rfl (lv_at hl 2 rfl) ?_
        refine lv_aload_n hx hb dL_law_144 rfl (lv_at hl 3 rfl) ?_
        refine lv_iload_n hx hb dL_law_145 rfl (lv_at hl 0 rfl) ?_
        refine lv_iconst (v := 1) hx hb dL_law_146 (by decide) ?_
        refine lv_iadd hx hb dL_law_147 ?_
        refine tp_i (y := nI (i + 1)) (nI_1 i) ?_
        refine sl_i (k := i + 1) hx hb hX hbl hbA hS (by omega) (by omega) dL_law_148 ?_
        obtain ⟨r, u2, nu2, hXc, hMc, hR2⟩ := st_send hR (xs (i + 1))
        refine cl0_vi ⟨hx, hb, hml, hown, htsL⟩ (hXc l D cA x t tr v vr c0 r0 c1 r1 fr) (cwV 1 htsL gL_law_X2_send rfl rfl rfl (by decide +kernel) ⟨Nat.le_of_ble_eq_true rfl, Nat.le_of_ble_eq_true rfl⟩) (ci := 2) (q0 := 0) rfl rfl hN hK1 hP hD hS hA [0, 1, 2, 3, 4, 5, 6, 7, 8, 9] [10, 11, 12, 13, 14, 15, 16] [7, 8, 9, 10, 11, 12, 13, 14, 15, 16, 0, 1, 2, 3, 4, 5, 6] (mw cA cB cZ y len tp bb zz wa fs fm nu) (xw cA x len t tr v vr c0 r0 c1 r1 fr u2 ++ mw cA cB cZ y len tp bb zz wa fs fm nu) [] rfl rfl rfl rfl (by decide) rfl rfl rfl hl.1 rfl (Nat.le_of_ble_eq_true rfl) dL_law_149 ⟨Nat.le_of_ble_eq_true rfl, Nat.le_of_ble_eq_true rfl⟩ (fun H locs hP hD hS => ?_)
        refine lv_aload_n hx hb dL_law_152 rfl (lv_at hl 1 rfl) ?_
        refine lv_aload_n hx hb dL_law_153 rfl (lv_at hl 3 rfl) ?_
        refine lv_iload_n hx hb dL_law_154 rfl (lv_at hl 0 rfl) ?_
        refine lv_iconst (v := 1) hx hb dL_law_155 (by decide) ?_
        refine lv_iadd hx hb dL_law_156 ?_
        refine tp_i (y := nI (i + 1)) (nI_1 i) ?_
        refine sl_i (k := i + 1) hx hb hX hbl hbA hS (by omega) (by omega) dL_law_157 ?_
        refine cl0_vi ⟨hx, hb, hml, hown, hts⟩ (hMc l D cA cB cZ y tp bb zz wa fs fm) (cwV 1 hts gLM_send rfl rfl rfl (by decide +kernel) ⟨Nat.le_of_ble_eq_true rfl, Nat.le_of_ble_eq_true rfl⟩) (ci := 3) (q0 := 0) rfl rfl hN hK hP hD hS hA [10, 11, 12, 13, 14, 15, 16] [0, 1, 2, 3, 4, 5, 6, 7, 8, 9] [0, 1, 2, 3, 4, 5, 6, 7, 8, 9, 10, 11, 12, 13, 14, 15, 16] (xw cA x len t tr v vr c0 r0 c1 r1 fr u2) (xw cA x len t tr v vr c0 r0 c1 r1 fr u2 ++ mw cA cB cZ y len tp bb zz wa fs fm nu2) [.int r] rfl rfl rfl rfl (by decide) rfl rfl rfl hl.1 rfl (Nat.le_of_ble_eq_true rfl) dL_law_158 ⟨Nat.le_of_ble_eq_true rfl, Nat.le_of_ble_eq_true rfl⟩ (fun H locs hP hD hS => ?_)
        refine lv_icmp_eq (tgt := 258) hx hb dL_law_161 (by decide) (fun _ => ?_) (fun cc => absurd (rfl) cc)
        exact next u2 nu2 H locs ls hR2 hP hD hS hl
      · refine lv_tableIn (tgt := 166) hx hb dL_law_42 (by decide) (by decide) rfl (by decide) ?_
        refine lv_aload_n hx hb dL_law_166 rfl (lv_at hl 2 rfl) ?_
        refine lv_aload_n hx hb dL_law_167 rfl (lv_at hl 3 rfl) ?_
        refine lv_iload_n hx hb dL_law_168 rfl (lv_at hl 0 rfl) ?_
        refine lv_iconst (v := 1) hx hb dL_law_169 (by decide) ?_
        refine lv_iadd hx hb dL_law_170 ?_
        refine tp_i (y := nI (i + 1)) (nI_1 i) ?_
        refine sl_i (k := i + 1) hx hb hX hbl hbA hS (by omega) (by omega) dL_law_171 ?_
        obtain ⟨r, u2, nu2, hXc, hMc, hR2⟩ := st_frame hR (xs (i + 1))
        refine cl0_vi ⟨hx, hb, hml, hown, htsL⟩ (hXc l D cA x t tr v vr c0 r0 c1 r1 fr) (cwV 1 htsL gL_law_X2_frame rfl rfl rfl (by decide +kernel) ⟨Nat.le_of_ble_eq_true rfl, Nat.le_of_ble_eq_true rfl⟩) (ci := 2) (q0 := 0) rfl rfl hN hK1 hP hD hS hA [0, 1, 2, 3, 4, 5, 6, 7, 8, 9] [10, 11, 12, 13, 14, 15, 16] [7, 8, 9, 10, 11, 12, 13, 14, 15, 16, 0, 1, 2, 3, 4, 5, 6] (mw cA cB cZ y len tp bb zz wa fs fm nu) (xw cA x len t tr v vr c0 r0 c1 r1 fr u2 ++ mw cA cB cZ y len tp bb zz wa fs fm nu) [] rfl rfl rfl rfl (by decide) rfl rfl rfl hl.1 rfl (Nat.le_of_ble_eq_true rfl) dL_law_172 ⟨Nat.le_of_ble_eq_true rfl, Nat.le_of_ble_eq_true rfl⟩ (fun H locs hP hD hS => ?_)
        refine lv_aload_n hx hb dL_law_175 rfl (lv_at hl 1 rfl) ?_
        refine lv_aload_n hx hb dL_law_176 rfl (lv_at hl 3 rfl) ?_
        refine lv_iload_n hx hb dL_law_177 rfl (lv_at hl 0 rfl) ?_
        refine lv_iconst (v := 1) hx hb dL_law_178 (by decide) ?_
        refine lv_iadd hx hb dL_law_179 ?_
        refine tp_i (y := nI (i + 1)) (nI_1 i) ?_
        refine sl_i (k := i + 1) hx hb hX hbl hbA hS (by omega) (by omega) dL_law_180 ?_
        refine cl0_vi ⟨hx, hb, hml, hown, hts⟩ (hMc l D cA cB cZ y tp bb zz wa fs fm) (cwV 1 hts gLM_frame rfl rfl rfl (by decide +kernel) ⟨Nat.le_of_ble_eq_true rfl, Nat.le_of_ble_eq_true rfl⟩) (ci := 3) (q0 := 0) rfl rfl hN hK hP hD hS hA [10, 11, 12, 13, 14, 15, 16] [0, 1, 2, 3, 4, 5, 6, 7, 8, 9] [0, 1, 2, 3, 4, 5, 6, 7, 8, 9, 10, 11, 12, 13, 14, 15, 16] (xw cA x len t tr v vr c0 r0 c1 r1 fr u2) (xw cA x len t tr v vr c0 r0 c1 r1 fr u2 ++ mw cA cB cZ y len tp bb zz wa fs fm nu2) [.int r] rfl rfl rfl rfl (by decide) rfl rfl rfl hl.1 rfl (Nat.le_of_ble_eq_true rfl) dL_law_181 ⟨Nat.le_of_ble_eq_true rfl, Nat.le_of_ble_eq_true rfl⟩ (fun H locs hP hD hS => ?_)
        refine lv_icmp_eq (tgt := 258) hx hb dL_law_184 (by decide) (fun _ => ?_) (fun cc => absurd (rfl) cc)
        exact next u2 nu2 H locs ls hR2 hP hD hS hl
      · refine lv_tableIn (tgt := 189) hx hb dL_law_42 (by decide) (by decide) rfl (by decide) ?_
        refine lv_aload_n hx hb dL_law_189 rfl (lv_at hl 2 rfl) ?_
        refine lv_aload_n hx hb dL_law_190 rfl (lv_at hl 3 rfl) ?_
        refine lv_iload_n hx hb dL_law_191 rfl (lv_at hl 0 rfl) ?_
        refine lv_iconst (v := 1) hx hb dL_law_192 (by decide) ?_
        refine lv_iadd hx hb dL_law_193 ?_
        refine tp_i (y := nI (i + 1)) (nI_1 i) ?_
        refine sl_i (k := i + 1) hx hb hX hbl hbA hS (by omega) (by omega) dL_law_194 ?_
        obtain ⟨r, u2, nu2, hXc, hMc, hR2⟩ := st_byteAt hR (xs (i + 1))
        refine cl0_vi ⟨hx, hb, hml, hown, htsL⟩ (hXc l D cA x t tr v vr c0 r0 c1 r1 fr) (cwV 1 htsL gL_law_X2_byteAt rfl rfl rfl (by decide +kernel) ⟨Nat.le_of_ble_eq_true rfl, Nat.le_of_ble_eq_true rfl⟩) (ci := 2) (q0 := 0) rfl rfl hN hK1 hP hD hS hA [0, 1, 2, 3, 4, 5, 6, 7, 8, 9] [10, 11, 12, 13, 14, 15, 16] [7, 8, 9, 10, 11, 12, 13, 14, 15, 16, 0, 1, 2, 3, 4, 5, 6] (mw cA cB cZ y len tp bb zz wa fs fm nu) (xw cA x len t tr v vr c0 r0 c1 r1 fr u2 ++ mw cA cB cZ y len tp bb zz wa fs fm nu) [] rfl rfl rfl rfl (by decide) rfl rfl rfl hl.1 rfl (Nat.le_of_ble_eq_true rfl) dL_law_195 ⟨Nat.le_of_ble_eq_true rfl, Nat.le_of_ble_eq_true rfl⟩ (fun H locs hP hD hS => ?_)
        refine lv_aload_n hx hb dL_law_198 rfl (lv_at hl 1 rfl) ?_
        refine lv_aload_n hx hb dL_law_199 rfl (lv_at hl 3 rfl) ?_
        refine lv_iload_n hx hb dL_law_200 rfl (lv_at hl 0 rfl) ?_
        refine lv_iconst (v := 1) hx hb dL_law_201 (by decide) ?_
        refine lv_iadd hx hb dL_law_202 ?_
        refine tp_i (y := nI (i + 1)) (nI_1 i) ?_
        refine sl_i (k := i + 1) hx hb hX hbl hbA hS (by omega) (by omega) dL_law_203 ?_
        refine cl0_vi ⟨hx, hb, hml, hown, hts⟩ (hMc l D cA cB cZ y tp bb zz wa fs fm) (cwV 1 hts gLM_byteAt rfl rfl rfl (by decide +kernel) ⟨Nat.le_of_ble_eq_true rfl, Nat.le_of_ble_eq_true rfl⟩) (ci := 3) (q0 := 0) rfl rfl hN hK hP hD hS hA [10, 11, 12, 13, 14, 15, 16] [0, 1, 2, 3, 4, 5, 6, 7, 8, 9] [0, 1, 2, 3, 4, 5, 6, 7, 8, 9, 10, 11, 12, 13, 14, 15, 16] (xw cA x len t tr v vr c0 r0 c1 r1 fr u2) (xw cA x len t tr v vr c0 r0 c1 r1 fr u2 ++ mw cA cB cZ y len tp bb zz wa fs fm nu2) [.int r] rfl rfl rfl rfl (by decide) rfl rfl rfl hl.1 rfl (Nat.le_of_ble_eq_true rfl) dL_law_204 ⟨Nat.le_of_ble_eq_true rfl, Nat.le_of_ble_eq_true rfl⟩ (fun H locs hP hD hS => ?_)
        refine lv_icmp_eq (tgt := 258) hx hb dL_law_207 (by decide) (fun _ => ?_) (fun cc => absurd (rfl) cc)
        exact next u2 nu2 H locs ls hR2 hP hD hS hl
      · refine lv_tableIn (tgt := 212) hx hb dL_law_42 (by decide) (by decide) rfl (by decide) ?_
        refine lv_aload_n hx hb dL_law_212 rfl (lv_at hl 2 rfl) ?_
        refine lv_aload_n hx hb dL_law_213 rfl (lv_at hl 3 rfl) ?_
        refine lv_iload_n hx hb dL_law_214 rfl (lv_at hl 0 rfl) ?_
        refine lv_iconst (v := 1) hx hb dL_law_215 (by decide) ?_
        refine lv_iadd hx hb dL_law_216 ?_
        refine tp_i (y := nI (i + 1)) (nI_1 i) ?_
        refine sl_i (k := i + 1) hx hb hX hbl hbA hS (by omega) (by omega) dL_law_217 ?_
        obtain ⟨r, u2, nu2, hXc, hMc, hR2⟩ := st_waiting hR (xs (i + 1))
        refine cl0_vi ⟨hx, hb, hml, hown, htsL⟩ (hXc l D cA x t tr v vr c0 r0 c1 r1 fr) (cwV 1 htsL gL_law_X2_waiting rfl rfl rfl (by decide +kernel) ⟨Nat.le_of_ble_eq_true rfl, Nat.le_of_ble_eq_true rfl⟩) (ci := 2) (q0 := 0) rfl rfl hN hK1 hP hD hS hA [0, 1, 2, 3, 4, 5, 6, 7, 8, 9] [10, 11, 12, 13, 14, 15, 16] [7, 8, 9, 10, 11, 12, 13, 14, 15, 16, 0, 1, 2, 3, 4, 5, 6] (mw cA cB cZ y len tp bb zz wa fs fm nu) (xw cA x len t tr v vr c0 r0 c1 r1 fr u2 ++ mw cA cB cZ y len tp bb zz wa fs fm nu) [] rfl rfl rfl rfl (by decide) rfl rfl rfl hl.1 rfl (Nat.le_of_ble_eq_true rfl) dL_law_218 ⟨Nat.le_of_ble_eq_true rfl, Nat.le_of_ble_eq_true rfl⟩ (fun H locs hP hD hS => ?_)
        refine lv_aload_n hx hb dL_law_221 rfl (lv_at hl 1 rfl) ?_
        refine lv_aload_n hx hb dL_law_222 rfl (lv_at hl 3 rfl) ?_
        refine lv_iload_n hx hb dL_law_223 rfl (lv_at hl 0 rfl) ?_
        refine lv_iconst (v := 1) hx hb dL_law_224 (by decide) ?_
        refine lv_iadd hx hb dL_law_225 ?_
        refine tp_i (y := nI (i + 1)) (nI_1 i) ?_
        refine sl_i (k := i + 1) hx hb hX hbl hbA hS (by omega) (by omega) dL_law_226 ?_
        refine cl0_vi ⟨hx, hb, hml, hown, hts⟩ (hMc l D cA cB cZ y tp bb zz wa fs fm) (cwV 1 hts gLM_waiting rfl rfl rfl (by decide +kernel) ⟨Nat.le_of_ble_eq_true rfl, Nat.le_of_ble_eq_true rfl⟩) (ci := 3) (q0 := 0) rfl rfl hN hK hP hD hS hA [10, 11, 12, 13, 14, 15, 16] [0, 1, 2, 3, 4, 5, 6, 7, 8, 9] [0, 1, 2, 3, 4, 5, 6, 7, 8, 9, 10, 11, 12, 13, 14, 15, 16] (xw cA x len t tr v vr c0 r0 c1 r1 fr u2) (xw cA x len t tr v vr c0 r0 c1 r1 fr u2 ++ mw cA cB cZ y len tp bb zz wa fs fm nu2) [.int r] rfl rfl rfl rfl (by decide) rfl rfl rfl hl.1 rfl (Nat.le_of_ble_eq_true rfl) dL_law_227 ⟨Nat.le_of_ble_eq_true rfl, Nat.le_of_ble_eq_true rfl⟩ (fun H locs hP hD hS => ?_)
        refine lv_icmp_eq (tgt := 258) hx hb dL_law_230 (by decide) (fun _ => ?_) (fun cc => absurd (rfl) cc)
        exact next u2 nu2 H locs ls hR2 hP hD hS hl
      · refine lv_tableIn (tgt := 235) hx hb dL_law_42 (by decide) (by decide) rfl (by decide) ?_
        refine lv_aload_n hx hb dL_law_235 rfl (lv_at hl 2 rfl) ?_
        refine lv_aload_n hx hb dL_law_236 rfl (lv_at hl 3 rfl) ?_
        refine lv_iload_n hx hb dL_law_237 rfl (lv_at hl 0 rfl) ?_
        refine lv_iconst (v := 1) hx hb dL_law_238 (by decide) ?_
        refine lv_iadd hx hb dL_law_239 ?_
        refine tp_i (y := nI (i + 1)) (nI_1 i) ?_
        refine sl_i (k := i + 1) hx hb hX hbl hbA hS (by omega) (by omega) dL_law_240 ?_
        obtain ⟨r, u2, nu2, hXc, hMc, hR2⟩ := st_count hR (xs (i + 1))
        refine cl0_vi ⟨hx, hb, hml, hown, htsL⟩ (hXc l D cA x t tr v vr c0 r0 c1 r1 fr) (cwV 1 htsL gL_law_X2_count rfl rfl rfl (by decide +kernel) ⟨Nat.le_of_ble_eq_true rfl, Nat.le_of_ble_eq_true rfl⟩) (ci := 2) (q0 := 0) rfl rfl hN hK1 hP hD hS hA [0, 1, 2, 3, 4, 5, 6, 7, 8, 9] [10, 11, 12, 13, 14, 15, 16] [7, 8, 9, 10, 11, 12, 13, 14, 15, 16, 0, 1, 2, 3, 4, 5, 6] (mw cA cB cZ y len tp bb zz wa fs fm nu) (xw cA x len t tr v vr c0 r0 c1 r1 fr u2 ++ mw cA cB cZ y len tp bb zz wa fs fm nu) [] rfl rfl rfl rfl (by decide) rfl rfl rfl hl.1 rfl (Nat.le_of_ble_eq_true rfl) dL_law_241 ⟨Nat.le_of_ble_eq_true rfl, Nat.le_of_ble_eq_true rfl⟩ (fun H locs hP hD hS => ?_)
        refine lv_aload_n hx hb dL_law_244 rfl (lv_at hl 1 rfl) ?_
        refine lv_aload_n hx hb dL_law_245 rfl (lv_at hl 3 rfl) ?_
        refine lv_iload_n hx hb dL_law_246 rfl (lv_at hl 0 rfl) ?_
        refine lv_iconst (v := 1) hx hb dL_law_247 (by decide) ?_
        refine lv_iadd hx hb dL_law_248 ?_
        refine tp_i (y := nI (i + 1)) (nI_1 i) ?_
        refine sl_i (k := i + 1) hx hb hX hbl hbA hS (by omega) (by omega) dL_law_249 ?_
        refine cl0_vi ⟨hx, hb, hml, hown, hts⟩ (hMc l D cA cB cZ y tp bb zz wa fs fm) (cwV 1 hts gLM_count rfl rfl rfl (by decide +kernel) ⟨Nat.le_of_ble_eq_true rfl, Nat.le_of_ble_eq_true rfl⟩) (ci := 3) (q0 := 0) rfl rfl hN hK hP hD hS hA [10, 11, 12, 13, 14, 15, 16] [0, 1, 2, 3, 4, 5, 6, 7, 8, 9] [0, 1, 2, 3, 4, 5, 6, 7, 8, 9, 10, 11, 12, 13, 14, 15, 16] (xw cA x len t tr v vr c0 r0 c1 r1 fr u2) (xw cA x len t tr v vr c0 r0 c1 r1 fr u2 ++ mw cA cB cZ y len tp bb zz wa fs fm nu2) [.int r] rfl rfl rfl rfl (by decide) rfl rfl rfl hl.1 rfl (Nat.le_of_ble_eq_true rfl) dL_law_250 ⟨Nat.le_of_ble_eq_true rfl, Nat.le_of_ble_eq_true rfl⟩ (fun H locs hP hD hS => ?_)
        refine lv_icmp_eq (tgt := 258) hx hb dL_law_253 (by decide) (fun _ => ?_) (fun cc => absurd (rfl) cc)
        exact next u2 nu2 H locs ls hR2 hP hD hS hl
      · refine lv_tableOut (tgt := 258) hx hb dL_law_42 (Or.inr (by decide)) (by decide) ?_
        exact next u nu H locs ls hR hP hD hS hl
      · refine lv_tableOut (tgt := 258) hx hb dL_law_42 (Or.inr (by decide)) (by decide) ?_
        exact next u nu H locs ls hR hP hD hS hl
end
section
set_option maxHeartbeats 4000000 in
set_option maxRecDepth 100000 in
/-- THE LAW, from its entry -/
theorem whole_start {p : Program} {e : Env} {s : State} {m : MethodId} {below : List Frame} {meth : Method} {c : Code} (l : Launch) {b L : Nat} {xs : Nat → Int32} (hL : L ≤ 2049) (C0 : lw_At p s m meth c b L xs) : W p l e room_1 s m #[Value.ref b] below meth c s.heap [] 0 0 (lw_Z below #[Value.ref b] s) (entryFrame m ([Value.ref b] : List Value).toArray 4) := by
  obtain ⟨hx, hb, hr, hml, hown, hts, hX, hbl, hlocks, hgv⟩ := id C0
  have hown : s.vm.findClass RL = some m.cls := hown
  have hA : ∀ q : Nat, s.heap.size ≤ q → (fun q : Nat => s.heap.size ≤ q) q := fun _ h => h
  have hbA : ¬ (fun q : Nat => s.heap.size ≤ q) b := Nat.not_le.mpr hbl
  have htsL : ∀ w ∈ wsL_law, w.before #[Value.ref b] s = true := fun w h => hts w (wsL_law_in w h)
  have hN : nw s := ⟨va_Nw.of rfl (hts (.fieldLinkNest RX2 63 "DownFrames$Bytes" "size" "I" "DownFrames") (by decide +kernel)), va_Nw.of rfl (hts (.fieldLinkNest RX2 71 "DownFrames$Channel" "size" "I" "DownFrames") (by decide +kernel)), va_Nw.of rfl (hts (.fieldLinkNest RX1 22 "DownFrames$Bytes" "size" "I" "DownFrames") (by decide +kernel))⟩
  obtain ⟨d0, iS0, hKn0⟩ := u_known (C := RX0) (T := TX0) (N := 2) (n := 2) hts inX0 (hts (.instantiable RX0 2) (by decide +kernel))
  obtain ⟨d1, iS1, hKn1⟩ := u_known (C := RX1) (T := TX1) (N := 3) (n := 3) hts inX1 (hts (.instantiable RX1 3) (by decide +kernel))
  obtain ⟨d2, iS2, hKn2⟩ := u_known (C := RX2) (T := TX2) (N := 6) (n := 6) hts inX2 (hts (.instantiable RX2 6) (by decide +kernel))
  obtain ⟨d3, iS3, hKn3⟩ := u_known (C := RX3) (T := TX3) (N := 10) (n := 10) hts inX3 (hts (.instantiable RX3 10) (by decide +kernel))
  obtain ⟨D, hKc⟩ : ∃ (D : va_G), ∀ (k : Nat) (q : vw_C), vwCl[k]? = some q → u_Kn s q.1 q.2.1 q.2.2 (D.1 k) (D.2 k) := by
    refine ⟨(fun k => if k = 0 then d0 else if k = 1 then d1 else if k = 2 then d2 else d3, fun k => if k = 0 then iS0 else if k = 1 then iS1 else if k = 2 then iS2 else iS3), ?_⟩
    intro k q hq
    match k, hq with
    | 0, hq => cases hq; exact hKn0
    | 1, hq => cases hq; exact hKn1
    | 2, hq => cases hq; exact hKn2
    | 3, hq => cases hq; exact hKn3
    | k + 4, hq => simp [vwCl] at hq
  obtain ⟨cA, kA, coA, fA, gA, jA⟩ := Cond.arrayClass_spec (hts (.arrayClass .int) (by decide +kernel))
  obtain ⟨cB, kB, coB, fB, gB, jB⟩ := Cond.arrayClass_spec (hts (.arrayClass .byte) (by decide +kernel))
  obtain ⟨cZ, kZ, coZ, fZ, gZ, jZ⟩ := Cond.arrayClass_spec (hts (.arrayClass .boolean) (by decide +kernel))
  have hK : va_K D vwCl [(cA, .int), (cB, .byte), (cZ, .boolean)] s := by
    refine ⟨hKc, fun k q h => ?_⟩
    match k, h with
    | 0, h => cases h; exact ⟨fun n z => ⟨fun k h => (by cases h), kA, gA, coA, jA⟩, fA⟩
    | 1, h => cases h; exact ⟨fun n z => ⟨fun k h => (by cases h), kB, gB, coB, jB⟩, fB⟩
    | 2, h => cases h; exact ⟨fun n z => ⟨fun k h => (by cases h), kZ, gZ, coZ, jZ⟩, fZ⟩
    | k + 3, h => simp at h
  have hK1 : va_K D vwCl [(cA, .int)] s := hK.sub [0] rfl
  have hS : va_S (fun q : Nat => s.heap.size ≤ q) s.heap s.heap [] := va_S.rf
  have hP : va_P D vwCl [] s.heap := fun k q h => by simp at h
  have hD : va_D (fun q : Nat => s.heap.size ≤ q) [] := ⟨fun i j p q h => by simp at h, fun k q h => by simp at h⟩
  have hl := lv_entry ([.ref b]) (n := 4) (Nat.le_of_ble_eq_true rfl)
  rw [lg_entry_eq]
  generalize (lg_sl ([.ref b]) ++ List.replicate (4 - (lg_sl ([.ref b])).length) Slot.unset).toArray = ls at hl ⊢
  have hl : lv_has ls 4 [(0, .ref b)] := hl
  refine va_new (D := D) (cl := vwCl) (ci := 2) (fs := [.int 0, .null, .null, .null, .null, .null]) (C := RX2) (T := TX2) (N := 6) hx hb hts inX2 tyX2 tyX2_ok hown (hts (.classLink RL 7 RX2) (by decide +kernel)) (hts (.instantiable RX2 6) (by decide +kernel)) (hts (.initialized RX2) (by decide +kernel)) hK hP hD hS hA rfl (fun j hj => by rcases (show j = 0 ∨ j = 1 ∨ j = 2 ∨ j = 3 ∨ j = 4 ∨ j = 5 by omega) with rfl | rfl | rfl | rfl | rfl | rfl <;> rfl) (Nat.le_of_ble_eq_true rfl) (Nat.le_of_ble_eq_true rfl) dL_law_0 (fun x H hP hD hS => ?_)
  have hP : va_P D vwCl [(x, .inr (2, [.int 0, .null, .null, .null, .null, .null]))] H := hP
  have hD : va_D (fun q : Nat => s.heap.size ≤ q) [(x, .inr (2, [.int 0, .null, .null, .null, .null, .null]))] := hD
  refine lv_dup hx hb dL_law_3 rfl ?_
  refine lv_aload_n hx hb dL_law_4 rfl (lv_at hl 0 rfl) ?_
  refine lv_iconst (v := 0) hx hb dL_law_5 (by decide) ?_
  refine W.callR (W.runS (As := [.ref b, .int 0]) (rest := [.ref x, .ref x]) ⟨hx, hb, hml, hown, htsL⟩ (c_cell l b L xs hL) (va_cwS 2 htsL gL_law_L_cell rfl rfl rfl (by decide +kernel) ⟨Nat.le_of_ble_eq_true rfl, Nat.le_of_ble_eq_true rfl⟩) ⟨cell_blind, fun U hU hW => ⟨rfl, by rw [hU]; exact va_X.moved hW.alike (hX.kept (hS.2.1 b hbl hbA)), by rw [hU]; exact Nat.lt_of_lt_of_le hbl hS.1⟩⟩ rfl rfl hl.1 rfl (lv_room (Nat.le_of_ble_eq_true rfl)) dL_law_6 ⟨Nat.le_of_ble_eq_true rfl, Nat.le_of_ble_eq_true rfl⟩) ?_
  refine W.eq (g2 := F0 m 9 ls [.int (cel L xs), .ref x, .ref x]) rfl ?_
  refine cl_iv (S := Nat × Nat × Nat × Nat × Nat × Nat × Nat × Nat × Nat) ⟨hx, hb, hml, hown, htsL⟩ (c_x_init l D cA x (cel L xs)) (cwI 1 htsL gL_law_X2_init rfl rfl rfl (hts (.initialized RX2) (by decide +kernel)) (hts (.methodLink RL 15 yX2_init) (by decide +kernel)) (hts (.instanceMethod yX2_init) (by decide +kernel)) rfl (by decide +kernel) ⟨Nat.le_of_ble_eq_true rfl, Nat.le_of_ble_eq_true rfl⟩) hN hK1 hP hD hS hA [0] [] [0, 1, 2, 3, 4, 5, 6, 7, 8, 9] [] (fun u => xw cA x (clN (cel L xs)) u.1 u.2.1 u.2.2.1 u.2.2.2.1 u.2.2.2.2.1 u.2.2.2.2.2.1 u.2.2.2.2.2.2.1 u.2.2.2.2.2.2.2.1 u.2.2.2.2.2.2.2.2 (0, fun _ => 0, 0, fun _ => 0, 0, 0, fun _ => 0, 0, 0, fun _ => 0, fun _ => 0)) [.ref x] rfl rfl rfl rfl (by decide) (fun _ => rfl) rfl rfl hl.1 rfl (Nat.le_of_ble_eq_true rfl) dL_law_9 ⟨Nat.le_of_ble_eq_true rfl, Nat.le_of_ble_eq_true rfl⟩ (fun ux H locs _ hP hD hS => ?_)
  obtain ⟨t, tr, v, vr, c0, r0, c1, r1, fr⟩ := ux
  obtain ⟨len, hlen⟩ : ∃ q, q = clN (cel L xs) := ⟨_, rfl⟩
  have hl12 := (clI_nat (cel L xs)).2
  rw [← hlen] at hl12
  have hP : va_P D vwCl (xw cA x (clN (cel L xs)) t tr v vr c0 r0 c1 r1 fr (0, fun _ => 0, 0, fun _ => 0, 0, 0, fun _ => 0, 0, 0, fun _ => 0, fun _ => 0)) H := hP
  have hD : va_D (fun q : Nat => s.heap.size ≤ q) (xw cA x (clN (cel L xs)) t tr v vr c0 r0 c1 r1 fr (0, fun _ => 0, 0, fun _ => 0, 0, 0, fun _ => 0, 0, 0, fun _ => 0, fun _ => 0)) := hD
  rw [← hlen] at hP hD
  refine lv_astore_n (lv' := [(1, .ref x), (0, .ref b)]) hx hb dL_law_12 rfl hl (by decide) rfl (fun ls hl => ?_)
  refine va_new (D := D) (cl := vwCl) (ci := 3) (fs := [.int 0, .int 0, .null, .int 0, .null, .null, .null, .null, .null, .int 0]) (C := RX3) (T := TX3) (N := 10) hx hb hts inX3 tyX3 tyX3_ok hown (hts (.classLink RL 18 RX3) (by decide +kernel)) (hts (.instantiable RX3 10) (by decide +kernel)) (hts (.initialized RX3) (by decide +kernel)) hK hP hD hS hA rfl (fun j hj => by rcases (show j = 0 ∨ j = 1 ∨ j = 2 ∨ j = 3 ∨ j = 4 ∨ j = 5 ∨ j = 6 ∨ j = 7 ∨ j = 8 ∨ j = 9 by omega) with rfl | rfl | rfl | rfl | rfl | rfl | rfl | rfl | rfl | rfl <;> rfl) (Nat.le_of_ble_eq_true rfl) (Nat.le_of_ble_eq_true rfl) dL_law_13 (fun y H hP hD hS => ?_)
  have hP : va_P D vwCl (xw cA x len t tr v vr c0 r0 c1 r1 fr (0, fun _ => 0, 0, fun _ => 0, 0, 0, fun _ => 0, 0, 0, fun _ => 0, fun _ => 0) ++ [(y, .inr (3, [.int 0, .int 0, .null, .int 0, .null, .null, .null, .null, .null, .int 0]))]) H := hP
  have hD : va_D (fun q : Nat => s.heap.size ≤ q) (xw cA x len t tr v vr c0 r0 c1 r1 fr (0, fun _ => 0, 0, fun _ => 0, 0, 0, fun _ => 0, 0, 0, fun _ => 0, fun _ => 0) ++ [(y, .inr (3, [.int 0, .int 0, .null, .int 0, .null, .null, .null, .null, .null, .int 0]))]) := hD
  refine lv_dup hx hb dL_law_16 rfl ?_
  refine lv_aload_n hx hb dL_law_17 rfl (lv_at hl 1 rfl) ?_
  refine lv_iconst (v := 0) hx hb dL_law_18 (by decide) ?_
  refine W.callR (W.runS (As := [.ref b, .int 0]) (rest := [.ref y, .ref y]) ⟨hx, hb, hml, hown, htsL⟩ (c_cell l b L xs hL) (va_cwS 2 htsL gL_law_L_cell rfl rfl rfl (by decide +kernel) ⟨Nat.le_of_ble_eq_true rfl, Nat.le_of_ble_eq_true rfl⟩) ⟨cell_blind, fun U hU hW => ⟨rfl, by rw [hU]; exact va_X.moved hW.alike (hX.kept (hS.2.1 b hbl hbA)), by rw [hU]; exact Nat.lt_of_lt_of_le hbl hS.1⟩⟩ rfl rfl hl.1 rfl (lv_room (Nat.le_of_ble_eq_true rfl)) dL_law_19 ⟨Nat.le_of_ble_eq_true rfl, Nat.le_of_ble_eq_true rfl⟩) ?_
  refine W.eq (g2 := F0 m 22 ls [.int (cel L xs), .ref y, .ref y]) rfl ?_
  refine cl_iv (S := Nat × Nat × Nat × Nat × Nat × Nat) ⟨hx, hb, hml, hown, hts⟩ (c_m_init l D cA cB cZ y (cel L xs)) (cwI 1 hts gLM_init rfl rfl rfl (hts (.initialized RX3) (by decide +kernel)) (hts (.methodLink RL 20 yX3_init) (by decide +kernel)) (hts (.instanceMethod yX3_init) (by decide +kernel)) rfl (by decide +kernel) ⟨Nat.le_of_ble_eq_true rfl, Nat.le_of_ble_eq_true rfl⟩) hN hK hP hD hS hA [10] [0, 1, 2, 3, 4, 5, 6, 7, 8, 9] [0, 1, 2, 3, 4, 5, 6, 7, 8, 9, 10, 11, 12, 13, 14, 15, 16] (xw cA x len t tr v vr c0 r0 c1 r1 fr (0, fun _ => 0, 0, fun _ => 0, 0, 0, fun _ => 0, 0, 0, fun _ => 0, fun _ => 0)) (fun u => xw cA x len t tr v vr c0 r0 c1 r1 fr (0, fun _ => 0, 0, fun _ => 0, 0, 0, fun _ => 0, 0, 0, fun _ => 0, fun _ => 0) ++ mw cA cB cZ y (clN (cel L xs)) u.1 u.2.1 u.2.2.1 u.2.2.2.1 u.2.2.2.2.1 u.2.2.2.2.2 (0, fun _ => 0, fun _ => 0, fun _ => 0, fun _ => 0, fun _ => 0, fun _ => 0, 0)) [.ref y] rfl rfl rfl rfl (by decide) (fun _ => rfl) rfl rfl hl.1 rfl (Nat.le_of_ble_eq_true rfl) dL_law_22 ⟨Nat.le_of_ble_eq_true rfl, Nat.le_of_ble_eq_true rfl⟩ (fun um H locs _ hP hD hS => ?_)
  obtain ⟨tp, bb, zz, wa, fs, fm⟩ := um
  have hP : va_P D vwCl (xw cA x len t tr v vr c0 r0 c1 r1 fr (0, fun _ => 0, 0, fun _ => 0, 0, 0, fun _ => 0, 0, 0, fun _ => 0, fun _ => 0) ++ mw cA cB cZ y (clN (cel L xs)) tp bb zz wa fs fm (0, fun _ => 0, fun _ => 0, fun _ => 0, fun _ => 0, fun _ => 0, fun _ => 0, 0)) H := hP
  have hD : va_D (fun q : Nat => s.heap.size ≤ q) (xw cA x len t tr v vr c0 r0 c1 r1 fr (0, fun _ => 0, 0, fun _ => 0, 0, 0, fun _ => 0, 0, 0, fun _ => 0, fun _ => 0) ++ mw cA cB cZ y (clN (cel L xs)) tp bb zz wa fs fm (0, fun _ => 0, fun _ => 0, fun _ => 0, fun _ => 0, fun _ => 0, fun _ => 0, 0)) := hD
  rw [← hlen] at hP hD
  refine lv_astore_n (lv' := [(2, .ref y), (1, .ref x), (0, .ref b)]) hx hb dL_law_25 rfl hl (by decide) rfl (fun ls hl => ?_)
  refine lv_iconst (v := 1) hx hb dL_law_26 (by decide) ?_
  refine tp_i (y := nI 1) (rfl) ?_
  refine lv_istore_n (lv' := [(3, .int (nI 1)), (2, .ref y), (1, .ref x), (0, .ref b)]) hx hb dL_law_27 rfl hl (by decide) rfl (fun ls hl => ?_)
  refine W.widen (k := 17) (n := 27588) (Nat.le_of_ble_eq_true rfl) (Nat.le_of_ble_eq_true rfl) ?_
  have hR : Rel len (0, fun _ => 0, 0, fun _ => 0, 0, 0, fun _ => 0, 0, 0, fun _ => 0, fun _ => 0) (0, fun _ => 0, fun _ => 0, fun _ => 0, fun _ => 0, fun _ => 0, fun _ => 0, 0) := (⟨⟨hl12.1, hl12.2⟩, ⟨rfl, Nat.zero_le _, rowR_0 _ _⟩, ⟨rfl, Nat.zero_le _, rowR_0 _ _⟩, ⟨rfl, Nat.zero_le _, by decide, fun j h => absurd h (Nat.not_lt_zero _)⟩, ⟨rfl, Nat.zero_le _, by decide, fun j h => absurd h (Nat.not_lt_zero _)⟩, fun _ _ => rfl, fun _ => Or.inl rfl⟩ : RelC len 0 (fun _ => 0) 0 (fun _ => 0) 0 0 (fun _ => 0) 0 0 (fun _ => 0) (fun _ => 0) 0 (fun _ => 0) (fun _ => 0) (fun _ => 0) (fun _ => 0) (fun _ => 0) (fun _ => 0) 0)
  exact law_loop hL C0 hN hK x len t tr v vr c0 r0 c1 r1 fr y tp bb zz wa fs fm L 1 _ _ H locs ls (by decide) (by omega) hR hP hD hS (lv_sub hl [0, 1, 2, 3] rfl)
end
section
set_option maxHeartbeats 4000000 in
theorem lw_walk (l : Launch) (b : Addr) (xs : List Int32) : MetFree l x (headSpec (Jvm.Cond.code x code maxLocals ret :: tables_1) room_1) (lw_P b xs) (fun _ _ _ _ _ => True) lw_Q := by
  refine MetFree.of_bodyS (code := code) (maxLocals := maxLocals) (ret := ret) (by decide) ?_ ?_
  · intro args s m h hn
    obtain ⟨meth, c, h1, h2, h3, h4, h5, h6, -, -⟩ := Cond.code_spec hn (atoms_spec (ws := Jvm.Cond.code x code maxLocals ret :: tables_1) h _ List.mem_cons_self)
    exact ⟨meth, c, h1, h2, h3, h4, h5, h6⟩
  · intro p e s m args below meth c s₁ B hml0 hP _
    obtain ⟨rfl, hx, hbd, hgv⟩ := hP
    obtain ⟨scr, harrAt, hlist, hof, hsmall⟩ := hx
    obtain ⟨hcb, hkn, -, -⟩ := State.arrayAt?_spec harrAt
    have hown : s.vm.findClass R_law = some m.cls := findClass_of_methodNamed B.named
    have hts0 : ∀ c ∈ (Jvm.Cond.code x code maxLocals ret :: tables_1), c.before #[Value.ref b] s = true := atoms_spec (ws := Jvm.Cond.code x code maxLocals ret :: tables_1) B.pre
    have hts : ∀ w ∈ lw_tbl, w.before #[Value.ref b] s = true := k2_hts_sels lw_privs (fun w hw => hts0 w (List.mem_cons_of_mem _ hw)) lw_privs_ok
    have hml : c.maxLocals = 4 := B.maxLocals_eq (hts0 _ List.mem_cons_self)
    have X₀ : Stand p l e room_1 s m #[Value.ref b] below meth c s₁ [] 0 0 := Stand.of_body B
    have hh0 : s₁.heap = s.heap := by rw [B.state]; rfl
    have hsz : scr.slots.size = xs.length := by rw [← Array.length_toList, hlist, List.length_map]
    have hval : ∀ j : Nat, j < xs.length → scr.slots[j]? = some (.int (xs.getD j 0)) := fun j hj => by
      rw [← Array.getElem?_toList, hlist]
      simp [hj]
    have hbl : b < s.heap.size := (Array.getElem?_eq_some_iff.mp hcb).1
    have hX : va_X b xs.length (fun j => xs.getD j 0) s s.heap := ⟨scr, hcb, hof, hkn, hsz, hval⟩
    have K : W p l e room_1 s m #[Value.ref b] below meth c s₁.heap [] 0 0 (lw_Z below #[Value.ref b] s) (entryFrame m ([Value.ref b] : List Value).toArray 4) := by
      rw [hh0]
      exact whole_start l hbd ⟨B.exec, B.bytes, B.returns, hml, hown, hts, hX, hbl, B.notSynchronized, hgv⟩
    obtain ⟨t, a1, o, b1, b2, b3⟩ := K s₁ rfl X₀
    exact ⟨t, o, a1, b1, b2, b3⟩
theorem lw_pre_spec {args : Array Value} {s : State} (h : (Jvm.Cond.and given_1 narrow_1).before args s = true) (hr : rest_1_c.before args s = true) : ∃ (b : Addr) (xs : List Int32), lw_P b xs args s := by
  have hs := flat_of_before _ h
  have hq := flat_of_before _ hr
  have hc : (Cond.count 1).before args s = true := hs _ (by decide +kernel)
  have harr : (Cond.arrayOf (.arg 0) .int).before args s = true := hs _ (by decide +kernel)
  have hle : (Cond.le (.length (.arg 0)) (.int 2049)).before args s = true := hs _ (by decide +kernel)
  have hlen : (Cond.isInt (.length (.arg 0))).before args s = true := hq _ (by decide +kernel)
  have hall : (Cond.all (.arg 0) (.isInt (.elem (.arg 0) (.index 0)))).before args s = true := hq _ (by decide +kernel)
  obtain ⟨b, xs, hb, hx⟩ := State.ints_of_pre rfl harr hlen hall
  have hsm : xs.length < 2 ^ 31 := hx.choose_spec.2.2.2
  have hev : (Term.length (.arg 0)).eval args s none [] s = some (.int xs.length.toInt32) := hx.length_eval hb
  have hv := Cond.le_ints hev (show (Term.int 2049).eval args s none [] s = some (.int 2049) from rfl)
  have hd : xs.length.toInt32 ≤ 2049 := by
    simpa [Cond.before, Cond.holds, hv] using hle
  have hN : xs.length ≤ 2049 := (Int32.ofNat_le_ofNat hsm (by decide)).mp (show Int32.ofNat xs.length ≤ Int32.ofNat 2049 from hd)
  exact ⟨b, xs, Cond.one_arg hc (show args[0]? = some (.ref b) from hb), hx, hN, h⟩
theorem lw_comes (l : Launch) : Comes l x (Jvm.Cond.code x code maxLocals ret :: tables_1) room_1 (fun tb e args s => Calls_1 tb e args s ∧ rest_1 tb e args s ∧ Pre_1 tb e args s)
    (fun _ _ args s o t => lw_Q args s o t) := by
  intro p e ha hc hk s m args below hf hfit hheap happ hpre
  obtain ⟨b, xs, hP⟩ := lw_pre_spec hpre.2.2 hpre.2.1
  obtain ⟨k, o, h1, h2, h3, hQ⟩ := lw_walk l b xs p e ha hc hk s m args below hf ((Spec.applies_iff_loose hf).mp happ).1 hP trivial
  exact ⟨k, o, h1, h2, h3, hQ⟩
theorem lw_frame {s t : State} {o : Outcome} {args : Array Value} (h : Framed s o t [] 600000 7302249) :
    Framed s o t (fieldLocs frame_1_writes args s ++ arrayLocs frame_1_arrays args s ++ staticLocs frame_1_statics s) 600000 7302249 := h
theorem lw_limb (L : Cond) (hL : ∀ (args : Array Value) (s t : State), L.after args s (.returned (some (.int 1))) t = true) :
    ArmFor flags0 classFile x code maxLocals ret World_1 tables_1 room_1 Calls_1 rest_1 Pre_1
      (fun tb e a s o t => postC L tb e a s o t ∧ Framed s o t (fieldLocs frame_1_writes a s ++ arrayLocs frame_1_arrays a s ++ staticLocs frame_1_statics s) 600000 7302249) := by
  intro l _ _ _ p e ha hc hk s m args below hf hfit hheap happ hpre
  obtain ⟨k, o, h1, h2, h3, rfl, hF⟩ := lw_comes l p e ha hc hk s m args below hf hfit hheap happ hpre
  exact ⟨k, _, h1, h2, h3, hL args s _, lw_frame hF⟩
theorem i_vc : Claimed_1_1 ∧ Claimed_1_2 := ⟨lw_limb limb_1_1 (fun args s t => by simp [limb_1_1, Cond.after, Cond.holds, Cond.value]), lw_limb limb_1_2 (fun args s t => Cond.after_iff.mpr (by
  first | (rw [show limb_1_2 = Cond.eq .result (.int 1) from rfl, Cond.eq_ints (x := 1) (y := 1) rfl rfl]; simp; done) | (simp [limb_1_2, Cond.value, Term.eval]; done)))⟩
end
