/-! ===== Int32 by its bits: bt x i ===== -/
def bt (x : Int32) (i : Nat) : Bool := x.toBitVec.getLsbD i
theorem b_ext {x y : Int32} (h : ∀ i, i < 32 → bt x i = bt y i) : x = y := Int32.toBitVec_inj.mp (BitVec.eq_of_getLsbD_eq (fun i hi => h i hi))
theorem b_or (x y : Int32) (i : Nat) : bt (x ||| y) i = (bt x i || bt y i) := by unfold bt; rw [Int32.toBitVec_or, BitVec.getLsbD_or]
theorem b_and (x y : Int32) (i : Nat) : bt (x &&& y) i = (bt x i && bt y i) := by unfold bt; rw [Int32.toBitVec_and, BitVec.getLsbD_and]
theorem b_xor (x y : Int32) (i : Nat) : bt (x ^^^ y) i = (bt x i ^^ bt y i) := by unfold bt; rw [Int32.toBitVec_xor, BitVec.getLsbD_xor]
theorem b_big {x : Int32} {i : Nat} (h : 32 ≤ i) : bt x i = false := BitVec.getLsbD_of_ge _ _ h
theorem b_255 (i : Nat) : bt 255 i = decide (i < 8) := by
  rcases Nat.lt_or_ge i 32 with h | h
  · exact (by decide +kernel : ∀ i, i < 32 → bt 255 i = decide (i < 8)) i h
  · rw [b_big h, decide_eq_false (by omega)]
theorem b_65535 (i : Nat) : bt 65535 i = decide (i < 16) := by
  rcases Nat.lt_or_ge i 32 with h | h
  · exact (by decide +kernel : ∀ i, i < 32 → bt 65535 i = decide (i < 16)) i h
  · rw [b_big h, decide_eq_false (by omega)]
theorem b_m1 : ∀ i, i < 32 → bt (-1) i = true := by decide +kernel
theorem b_0 (i : Nat) : bt 0 i = false := BitVec.getLsbD_zero
theorem s_l : ∀ n, n < 32 → ((nI n &&& 31).toBitVec.smod 32).toNat = n := by decide +kernel
theorem s_u : ∀ n, n < 32 → (((nI n).toUInt32 &&& Int32.toUInt32 31).toBitVec % 32).toNat = n := by decide +kernel
theorem b_shl (n : Nat) (hn : n < 32) (x : Int32) {i : Nat} (hi : i < 32) : bt (x <<< (nI n &&& 31)) i = (decide (n ≤ i) && bt x (i - n)) := by
  unfold bt
  rw [Int32.toBitVec_shiftLeft]
  show (x.toBitVec <<< ((nI n &&& 31).toBitVec.smod 32).toNat).getLsbD i = _
  rw [s_l n hn, BitVec.getLsbD_shiftLeft]
  rcases Nat.lt_or_ge i n with h | h
  · simp [h, Nat.not_le.mpr h]
  · simp [hi, h, Nat.not_lt.mpr h]
theorem b_ushr (n : Nat) (hn : n < 32) (x : Int32) (i : Nat) : bt ((x.toUInt32 >>> ((nI n).toUInt32 &&& Int32.toUInt32 31)).toInt32) i = bt x (n + i) := by
  show (x.toUInt32 >>> ((nI n).toUInt32 &&& Int32.toUInt32 31)).toBitVec.getLsbD i = x.toUInt32.toBitVec.getLsbD (n + i)
  rw [UInt32.toBitVec_shiftRight]
  show (x.toUInt32.toBitVec >>> (((nI n).toUInt32 &&& Int32.toUInt32 31).toBitVec % 32).toNat).getLsbD i = _
  rw [s_u n hn, BitVec.getLsbD_ushiftRight]
theorem b_sshr (n : Nat) (hn : n < 32) (x : Int32) {i : Nat} (hi : i < 32) : bt (x >>> (nI n &&& 31)) i = if n + i < 32 then bt x (n + i) else bt x 31 := by
  unfold bt
  rw [Int32.toBitVec_shiftRight]
  show (x.toBitVec.sshiftRight ((nI n &&& 31).toBitVec.smod 32).toNat).getLsbD i = _
  rw [s_l n hn, BitVec.getLsbD_sshiftRight, BitVec.msb_eq_getLsbD_last]
  simp [hi]
theorem nx_and (a b : Nat) : nI a &&& nI b = nI (a &&& b) := by
  apply Int32.toBitVec_inj.1
  show BitVec.ofNat 32 a &&& BitVec.ofNat 32 b = BitVec.ofNat 32 (a &&& b)
  apply BitVec.eq_of_getLsbD_eq
  intro i hi
  simp [hi]
theorem nx_xor (a b : Nat) : nI a ^^^ nI b = nI (a ^^^ b) := by
  apply Int32.toBitVec_inj.1
  show BitVec.ofNat 32 a ^^^ BitVec.ofNat 32 b = BitVec.ofNat 32 (a ^^^ b)
  apply BitVec.eq_of_getLsbD_eq
  intro i hi
  simp [hi]
theorem bp_b (x : Int32) : x.toInt8.toInt32 &&& 255 = x &&& 255 := by
  apply Int32.toBitVec_inj.mp
  rw [Int32.toBitVec_and, Int32.toBitVec_and, Int8.toBitVec_toInt32, Int32.toBitVec_toInt8]
  apply BitVec.eq_of_getLsbD_eq
  intro i hi
  rw [BitVec.getLsbD_and, BitVec.getLsbD_and]
  have hm : ∀ i < 32, 8 ≤ i → (255 : Int32).toBitVec.getLsbD i = false := by decide
  rcases Nat.lt_or_ge i 8 with z | z
  · rw [BitVec.getLsbD_signExtend, BitVec.getLsbD_signExtend, if_pos z, if_pos hi]
    simp only [z, hi, decide_true, Bool.true_and]
  · rw [hm i hi z]; simp
theorem wb_c : ∀ k, k < 64 → ((nI k).toInt64 &&& 63) = lN k := by decide +kernel
theorem wb_cu : ∀ k, k < 64 → ((nI k).toInt64.toUInt64 &&& Int64.toUInt64 63) = UInt64.ofNat k := by decide +kernel
theorem wb_sm : ∀ k, k < 64 → (BitVec.ofNat 64 k).smod 64 = BitVec.ofNat 64 k := by decide +kernel
-- my own
theorem i8_and (x : Int32) : i8 x &&& 255 = x &&& 255 := bp_b x
theorem and_255_255 (x : Int32) : (x &&& 255) &&& 255 = x &&& 255 := by
  refine b_ext (fun i _ => ?_)
  rw [b_and, b_and, b_255]
  cases bt x i <;> cases decide (i < 8) <;> rfl
theorem b_256 (i : Nat) : bt 256 i = decide (i = 8) := by
  rcases Nat.lt_or_ge i 32 with h | h
  · exact (by decide +kernel : ∀ i, i < 32 → bt 256 i = decide (i = 8)) i h
  · rw [b_big h, decide_eq_false (by omega)]
theorem and_255_256 (x : Int32) : (x &&& 255) &&& 256 = 0 := by
  refine b_ext (fun i _ => ?_)
  rw [b_and, b_and, b_255, b_256, b_0]
  by_cases h : i = 8
  · subst h; simp
  · simp [h]
theorem or_256_255 (x : Int32) : (256 ||| x) &&& 255 = x &&& 255 := by
  refine b_ext (fun i _ => ?_)
  rw [b_and, b_and, b_or, b_255, b_256]
  by_cases h : i < 8
  · simp [h, show ¬ i = 8 by omega]
  · simp [h]
theorem or_256_256 (x : Int32) : ¬ (256 ||| x) &&& 256 = 0 := by
  intro h
  have h1 : bt ((256 ||| x) &&& 256) 8 = bt 0 8 := by rw [h]
  rw [b_and, b_or, b_256, b_0] at h1
  simp at h1
theorem and_1 (x : Int32) : x &&& 1 = 0 ∨ x &&& 1 = 1 := by
  rw [pk_and x 1 (by decide)]
  have h : x.toBitVec.toNat % 2 ^ 1 < 2 := Nat.mod_lt _ (by decide)
  rcases (show x.toBitVec.toNat % 2 ^ 1 = 0 ∨ x.toBitVec.toNat % 2 ^ 1 = 1 by omega) with e | e
  · rw [e]; exact Or.inl rfl
  · rw [e]; exact Or.inr rfl
theorem wb3 (x : Int32) : ush (ush x 16) 8 &&& 255 = sra x 24 &&& 255 := by
  refine b_ext (fun i hi => ?_)
  rw [b_and, b_and, b_255]
  by_cases h : i < 8
  · rw [show bt (ush (ush x 16) 8) i = bt (ush x 16) (8 + i) from b_ushr 8 (by decide) _ _, show bt (ush x 16) (8 + i) = bt x (16 + (8 + i)) from b_ushr 16 (by decide) _ _, show bt (sra x 24) i = _ from b_sshr 24 (by decide) x hi, if_pos (by omega), show 16 + (8 + i) = 24 + i by omega]
  · simp [h]
theorem wb2 (x : Int32) : ush x 16 &&& 255 = sra x 16 &&& 255 := by
  refine b_ext (fun i hi => ?_)
  rw [b_and, b_and, b_255]
  by_cases h : i < 8
  · rw [show bt (ush x 16) i = bt x (16 + i) from b_ushr 16 (by decide) _ _, show bt (sra x 16) i = _ from b_sshr 16 (by decide) x hi, if_pos (by omega)]
  · simp [h]
theorem wb1 (x : Int32) : ush x 8 &&& 255 = sra x 8 &&& 255 := by
  refine b_ext (fun i hi => ?_)
  rw [b_and, b_and, b_255]
  by_cases h : i < 8
  · rw [show bt (ush x 8) i = bt x (8 + i) from b_ushr 8 (by decide) _ _, show bt (sra x 8) i = _ from b_sshr 8 (by decide) x hi, if_pos (by omega)]
  · simp [h]
theorem wb0 (x : Int32) : x &&& 255 = sra x 0 &&& 255 := by rw [show sra x 0 = x from sb_shr0 x]
theorem b_l2i (x : Int64) {i : Nat} (hi : i < 32) : bt x.toInt32 i = x.toBitVec.getLsbD i := by
  unfold bt
  rw [Int64.toBitVec_toInt32, BitVec.getLsbD_signExtend, if_pos (by omega)]
  simp [hi]
theorem gsh (w : Int64) (k : Nat) (hk : k ≤ 56) : (lsh w (nI k)).toInt32 &&& 255 = (lsa w (nI k)).toInt32 &&& 255 := by
  refine b_ext (fun i hi => ?_)
  rw [b_and, b_and, b_255]
  by_cases h : i < 8
  · rw [b_l2i _ hi, b_l2i _ hi]
    unfold lsh lsa
    rw [wb_cu k (by omega), wb_c k (by omega), Int64.toBitVec_shiftRight]
    show ((w.toUInt64 >>> UInt64.ofNat k).toBitVec.getLsbD i && _) = ((w.toBitVec.sshiftRight ((BitVec.ofNat 64 k).smod 64).toNat).getLsbD i && _)
    rw [wb_sm k (by omega), UInt64.toBitVec_shiftRight]
    show ((w.toBitVec >>> ((BitVec.ofNat 64 k) % 64).toNat).getLsbD i && _) = _
    rw [BitVec.getLsbD_ushiftRight, BitVec.getLsbD_sshiftRight]
    have e : ((BitVec.ofNat 64 k) % 64).toNat = k := by simp; omega
    have e2 : (BitVec.ofNat 64 k).toNat = k := by simp; omega
    rw [e, e2]
    simp [show k + i < 64 by omega, show ¬ 64 ≤ i by omega]
  · simp [h]
theorem gv_eq (w : Int64) (i : Nat) (hi : i < 8) : gvb w i = gvm w i &&& 255 := by
  have hs : (56 : Int32) - (8 * nI i) = nI (56 - 8 * i) := by
    rw [show (8 : Int32) = nI 8 from rfl, pk_mul, show (56 : Int32) = nI 56 from rfl, pk_sub (by omega)]
  unfold gvb gvm
  rw [i8_and, hs]
  exact gsh w _ (by omega)
