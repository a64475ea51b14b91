-- THE RELATION between the class's rows and the reference's
/-- bytes: the class holds 0 .. 255, the reference signed ones -/
def rowR (f g : Nat → Int32) (k : Nat) : Prop := ∀ j, j < k → f j = g j &&& 255
theorem rowR_0 (f g : Nat → Int32) : rowR f g 0 := fun _ h => absurd h (Nat.not_lt_zero _)
theorem rowR_upd {f g : Nat → Int32} {k : Nat} {x y : Int32} (h : rowR f g k) (e : x = y &&& 255) : rowR (upd f k x) (upd g k (i8 y)) (k + 1) := by
  intro j hj
  by_cases q : j = k
  · subst q; rw [pk_us, pk_us, i8_and]; exact e
  · rw [pk_un q, pk_un q]; exact h j (by omega)
theorem rowR_lwr {f g a b : Nat → Int32} {k : Nat} (h : rowR f g k) : ∀ {m : Nat}, (∀ i, i < m → a i = b i &&& 255) → rowR (lwr f k a m) (lwr g k b m) (k + m) := by
  intro m e j hj
  rcases Nat.lt_or_ge j k with q | q
  · rw [lwr_out (Or.inl q), lwr_out (Or.inl q)]; exact h j q
  · obtain ⟨i, rfl⟩ : ∃ i, j = k + i := ⟨j - k, by omega⟩
    rw [lwr_in (by omega), lwr_in (by omega)]; exact e i (by omega)
theorem rowR_le {f g : Nat → Int32} {k m : Nat} (h : rowR f g k) (hm : m ≤ k) : rowR f g m := fun j hj => h j (by omega)
theorem byte_nI (x : Int32) : ∃ b, b < 256 ∧ x &&& 255 = nI b := pk_andE x 8 (by decide)
/-- the two checks are one number, below 65536 -/
theorem crS_eq (c : Int32) : crS c = crSM c := by unfold crS crSM; rw [Int32.mul_comm]
theorem crB_eq : ∀ (n : Nat) (c : Int32), crB n c = crBM n c
  | 0, _ => rfl
  | n + 1, c => by show crB n (crS c) = crBM n (crSM c); rw [crS_eq, crB_eq n]
theorem crc_eq {f g : Nat → Int32} : ∀ {k : Nat}, rowR f g k → crc f k = crcM g k
  | 0, _ => rfl
  | k + 1, h => by
    show crB 8 (crc f k ^^^ (f k * 256)) = crBM 8 (crcM g k ^^^ ((g k &&& 255) * 256))
    rw [crB_eq, crc_eq (rowR_le h (Nat.le_succ k)), h k (Nat.lt_succ_self k)]
theorem xor16a {x y : Nat} (hx : x < 2 ^ 16) (hy : y < 2 ^ 16) : (2 ^ 16 + x) ^^^ (2 ^ 16 + y) < 2 ^ 16 := by
  apply Nat.lt_pow_two_of_testBit
  intro i hi
  rw [Nat.testBit_xor]
  by_cases q : i = 16
  · subst q
    rw [Nat.testBit_two_pow_add_eq, Nat.testBit_two_pow_add_eq, Nat.testBit_lt_two_pow hx, Nat.testBit_lt_two_pow hy]
    rfl
  · have h17 : 2 ^ 17 ≤ 2 ^ i := Nat.pow_le_pow_right (by decide) (by omega)
    rw [Nat.testBit_lt_two_pow (Nat.lt_of_lt_of_le (show 2 ^ 16 + x < 2 ^ 17 from Nat.add_lt_add_left hx _) h17), Nat.testBit_lt_two_pow (Nat.lt_of_lt_of_le (show 2 ^ 16 + y < 2 ^ 17 from Nat.add_lt_add_left hy _) h17)]
    rfl
theorem xor16 {a b : Nat} (ha : a < 131072) (h1 : 65536 ≤ a) (hb : b < 131072) (h2 : 65536 ≤ b) : a ^^^ b < 65536 := by
  have h := xor16a (x := a - 65536) (y := b - 65536) (show a - 65536 < 65536 by omega) (show b - 65536 < 65536 by omega)
  rw [show 2 ^ 16 + (a - 65536) = a from (show 65536 + (a - 65536) = a by omega), show 2 ^ 16 + (b - 65536) = b from (show 65536 + (b - 65536) = b by omega)] at h
  exact h
theorem crS_b {m : Nat} (hm : m < 65536) : ∃ q, q < 65536 ∧ crS (nI m) = nI q := by
  unfold crS
  rw [show (2 : Int32) = nI 2 from rfl, pk_mul, show (65536 : Int32) = nI 65536 from rfl, show (69665 : Int32) = nI 69665 from rfl, nx_xor]
  by_cases h : m * 2 < 65536
  · rw [if_pos (nI_lt h (by decide))]; exact ⟨_, h, rfl⟩
  · rw [if_neg (nI_nlt (by omega) (by omega))]; exact ⟨_, xor16 (by omega) (by omega) (by decide) (by decide), rfl⟩
theorem crB_b : ∀ (n : Nat) {m : Nat}, m < 65536 → ∃ q, q < 65536 ∧ crB n (nI m) = nI q
  | 0, m, hm => ⟨m, hm, rfl⟩
  | n + 1, m, hm => by
    obtain ⟨q, hq, e⟩ := crS_b hm
    show ∃ q, q < 65536 ∧ crB n (crS (nI m)) = nI q
    rw [e]; exact crB_b n hq
theorem crc_b {f g : Nat → Int32} : ∀ {k : Nat}, rowR f g k → ∃ q, q < 65536 ∧ crc f k = nI q
  | 0, _ => ⟨65535, by decide, rfl⟩
  | k + 1, h => by
    obtain ⟨q, hq, e⟩ := crc_b (rowR_le h (Nat.le_succ k))
    obtain ⟨b, hb, eb⟩ := byte_nI (g k)
    show ∃ q, q < 65536 ∧ crB 8 (crc f k ^^^ (f k * 256)) = nI q
    rw [e, h k (Nat.lt_succ_self k), eb, show (256 : Int32) = nI 256 from rfl, pk_mul, nx_xor]
    exact crB_b 8 (Nat.xor_lt_two_pow (n := 16) (by omega) (by omega))
theorem crc_hi {q : Nat} (hq : q < 65536) : ush (nI q) 8 = nI q / 256 := by
  rw [show (256 : Int32) = nI 256 from rfl, pk_div (by omega) (by decide) (by decide)]
  exact pk_ushrN (by omega) 8 8 (by decide)
/-- a channel's ring and the reference's row from s on -/
def chR (f : Nat → Int32) (h k : Nat) (bf zf : Nat → Int32) (s : Nat) : Prop := ∀ j, j < k → f ((h + j) % 4096) &&& 255 = bf (s + j) &&& 255 ∧ (f ((h + j) % 4096) &&& 256 = 0 ↔ zf (s + j) = 0)
/-- m marked bytes come behind -/
theorem chR_app {f : Nat → Int32} {h k : Nat} {bf zf : Nat → Int32} {s m : Nat} {a b z : Nat → Int32} (hR : chR f h k bf zf s) (hm : k + m ≤ 4096) (e : ∀ i, i < m → a i &&& 255 = b i &&& 255 ∧ (a i &&& 256 = 0 ↔ z i = 0)) : chR (rwr f (h + k) a m) h (k + m) (lwr bf (s + k) b m) (lwr zf (s + k) z m) s := by
  intro j hj
  rcases Nat.lt_or_ge j k with q | q
  · rw [rq_lo q hm, lwr_out (Or.inl (by omega)), lwr_out (Or.inl (by omega))]; exact hR j q
  · obtain ⟨i, rfl⟩ : ∃ i, j = k + i := ⟨j - k, by omega⟩
    rw [rq_hi (by omega) (by omega), ← Nat.add_assoc, lwr_in (by omega), lwr_in (by omega)]; exact e i (by omega)
/-- what is written elsewhere doesn't matter -/
theorem chR_out {f : Nat → Int32} {h k : Nat} {bf zf : Nat → Int32} {s t m n : Nat} {b z : Nat → Int32} (hR : chR f h k bf zf s) (hd : s + k ≤ t ∨ t + m ≤ s) (hd2 : s + k ≤ t ∨ t + n ≤ s) : chR f h k (lwr bf t b m) (lwr zf t z n) s := by
  intro j hj
  rw [lwr_out (by omega), lwr_out (by omega)]; exact hR j hj
/-- a of them have left -/
theorem chR_left {f : Nat → Int32} {h k : Nat} {bf zf : Nat → Int32} {s a : Nat} (hR : chR f h k bf zf s) (ha : a ≤ k) (hz : ∀ j, zf j = 0 ∨ zf j = 1) : chR f ((h + a) % 4096) (k - a) (lwr bf s (fun i => i8 (bf (s + i + a))) (k - a)) (lwr zf s (fun i => zf (s + i + a) &&& 1) (k - a)) s := by
  intro j hj
  obtain ⟨h1, h2⟩ := hR (j + a) (by omega)
  rw [lwr_in hj, lwr_in hj, show ((h + a) % 4096 + j) % 4096 = (h + (j + a)) % 4096 by omega, i8_and, Nat.add_assoc]
  refine ⟨h1, h2.trans ?_⟩
  rcases hz (s + (j + a)) with e | e
  · rw [e]; decide
  · rw [e]; decide
theorem lwr_all {P : Int32 → Prop} {f g : Nat → Int32} {s m : Nat} (hf : ∀ j, P (f j)) (hg : ∀ i, i < m → P (g i)) (j : Nat) : P (lwr f s g m j) := by
  by_cases q : s ≤ j ∧ j < s + m
  · obtain ⟨i, rfl⟩ : ∃ i, j = s + i := ⟨j - s, by omega⟩
    rw [lwr_in (by omega)]; exact hg i (by omega)
  · rw [lwr_out (by omega)]; exact hf j
theorem emz_01 (i : Nat) : emz i = 0 ∨ emz i = 1 := by unfold emz; split; exact Or.inr rfl; exact Or.inl rfl
theorem mk_ok {p g : Nat → Int32} {k : Nat} (h : rowR p g k) (i : Nat) (hi : i < k) : mkd p i &&& 255 = i8 (g i) &&& 255 ∧ (mkd p i &&& 256 = 0 ↔ emz i = 0) := by
  unfold mkd emz
  rw [i8_and]
  by_cases q : i = 0
  · subst q
    rw [if_pos rfl, if_pos rfl, h 0 hi, or_256_255, and_255_255]
    exact ⟨rfl, fun e => absurd e (or_256_256 _), fun e => absurd e (by decide)⟩
  · rw [if_neg q, if_neg q, h i hi, and_255_255, and_255_256]
    exact ⟨rfl, fun _ => rfl, fun _ => rfl⟩
set_option maxRecDepth 100000 in
theorem em_small : ∀ L, L < 300 → 7 ≤ L → ∀ i, i < 6 → emp L i &&& 255 = emb L i &&& 255 ∧ (emp L i &&& 256 = 0 ↔ emz i = 0) := by decide +kernel
theorem em_ok {L : Nat} (h7 : 7 ≤ L) (hL : L < 300) (i : Nat) : emp L i &&& 255 = emb L i &&& 255 ∧ (emp L i &&& 256 = 0 ↔ emz i = 0) := by
  rcases Nat.lt_or_ge i 6 with q | q
  · exact em_small L hL h7 i q
  · rw [emp_85 L i q, emb_85 L i q, emz_0 i (by omega)]; decide
/-- filled up, a wait at least -/
theorem fil_ok {f : Nat → Int32} {h k : Nat} {bf zf : Nat → Int32} {ch a : Nat} (hR : chR f h k bf zf (4200 * ch)) (hk : k ≤ 4096) (ha : a ≤ 244) : chR (filF f h k a) h (filK k a) (mfB bf ch k a) (mfZ zf ch k a) (4200 * ch) := by
  unfold filF filK mfB mfZ
  by_cases q : k < a
  · rw [if_pos q, if_pos q, if_pos q, if_pos q]
    exact chR_app hR (by omega) (fun i _ => em_ok (by omega) (by omega) i)
  · rw [if_neg q, if_neg q, if_neg q, if_neg q]; exact hR
theorem fil_z {zf : Nat → Int32} {ch k a : Nat} (hz : ∀ j, zf j = 0 ∨ zf j = 1) (j : Nat) : mfZ zf ch k a j = 0 ∨ mfZ zf ch k a j = 1 := by
  unfold mfZ
  by_cases q : k < a
  · rw [if_pos q]; exact lwr_all (P := fun x => x = 0 ∨ x = 1) hz (fun i _ => emz_01 i) j
  · rw [if_neg q]; exact hz j
theorem fil_o {f : Nat → Int32} {h k w : Nat} {bf zf : Nat → Int32} {s ch a : Nat} (hR : chR f h k bf zf s) (hw : w ≤ 4096) (ha : a ≤ 244) (hd : s + k ≤ 4200 * ch ∨ 4200 * ch + 4200 ≤ s) : chR f h k (mfB bf ch w a) (mfZ zf ch w a) s := by
  unfold mfB mfZ
  by_cases q : w < a
  · rw [if_pos q, if_pos q]; exact chR_out hR (by omega) (by omega)
  · rw [if_neg q, if_neg q]; exact hR
/-- FIRST -/
theorem fb_eq {f : Nat → Int32} {h k : Nat} {bf zf : Nat → Int32} {s : Nat} (hR : chR f h k bf zf s) : ∀ (d i : Nat), i + d ≤ k → fbS f h d i = fbM zf s d i
  | 0, _, _ => rfl
  | d + 1, i, hi => by
    obtain ⟨-, h2⟩ := hR i (by omega)
    show (if f ((h + i) % 4096) &&& 256 = 0 then fbS f h d (i + 1) else nI i) = if zf (s + i) = 0 then fbM zf s d (i + 1) else nI i
    by_cases q : zf (s + i) = 0
    · rw [if_pos q, if_pos (h2.mpr q)]; exact fb_eq hR d (i + 1) (by omega)
    · rw [if_neg q, if_neg (fun e => q (h2.mp e))]
theorem fb_b (f : Nat → Int32) (h : Nat) : ∀ (d i : Nat), i + d ≤ 2048 → ∃ q, q < 2048 ∧ fbS f h d i = nI q
  | 0, _, _ => ⟨2047, by decide, rfl⟩
  | d + 1, i, hi => by
    show ∃ q, q < 2048 ∧ (if f ((h + i) % 4096) &&& 256 = 0 then fbS f h d (i + 1) else nI i) = nI q
    by_cases q : f ((h + i) % 4096) &&& 256 = 0
    · rw [if_pos q]; exact fb_b f h d (i + 1) (by omega)
    · rw [if_neg q]; exact ⟨i, by omega, rfl⟩
set_option maxRecDepth 100000 in
theorem fst_ok : ∀ q, q < 2048 → ush (6144 ||| nI q) 8 &&& 255 = (24 + (nI q / 256)) &&& 255 ∧ (6144 ||| nI q) &&& 255 = nI q &&& 255 := by decide +kernel
/-- a frame's bytes -/
theorem frame_ok {vf ff nf mf g g' : Nat → Int32} {c cv : Int32} {kd a q : Nat} {word : Int32} (hq : q < 2048) (hc : ush (hdw c) 8 &&& 255 = 21 &&& 255 ∧ hdw c &&& 255 = ((160 + (2 * cv)) + 1) &&& 255) (h0 : nf 0 = mf 0) (hk : nf kd = mf kd) (hg : ∀ i, i < a → g i = g' i &&& 255) : rowR (frL vf nf c kd (nI q) g a word) (mL ff mf cv kd (nI q) g' a word) (6 + a + 6) := by
  have hf := fst_ok q hq
  have r6 : rowR (frA vf nf c kd (nI q)) (mA ff mf cv kd (nI q)) 6 := rowR_upd (rowR_upd (rowR_upd (rowR_upd (rowR_upd (rowR_upd (rowR_0 vf ff) hc.1) hc.2) (by rw [h0])) (by rw [hk])) hf.1) hf.2
  have r7 := rowR_lwr r6 hg
  have r8 : rowR (frW (lwr (frA vf nf c kd (nI q)) 6 g a) a word) (mW (lwr (mA ff mf cv kd (nI q)) 6 g' a) a word) (6 + a + 4) := rowR_upd (rowR_upd (rowR_upd (rowR_upd r7 (wb3 word)) (wb2 word)) (wb1 word)) (wb0 word)
  obtain ⟨m, hm, em⟩ := crc_b r8
  have ec := crc_eq r8
  unfold frL mL frC mC
  rw [← ec, em]
  exact rowR_upd (rowR_upd r8 (by rw [crc_hi hm])) rfl
theorem cnt_ok {nf mf : Nat → Int32} {kd : Nat} (hk : kd < 4) (h : ∀ j, j < 4 → nf j = mf j) (j : Nat) (hj : j < 4) : cnt2 nf kd j = cnt2 mf kd j := by
  unfold cnt2 upd
  have e0 := h 0 (by decide)
  have ek := h kd hk
  have ej := h j hj
  by_cases q : j = kd
  · subst q
    by_cases p : j = 0
    · subst p; simp [e0]
    · simp [p, ej]
  · by_cases p : j = 0
    · subst p; simp [q, e0]
    · simp [q, p, ej]
theorem hpk_eq {tf tg : Nat → Int32} {k : Nat} (h : rowR tf tg k) : hpk tf k = hpkM tg k := by
  unfold hpk hpkM
  by_cases q : k ≤ 6
  · rw [if_pos (by omega), if_pos q]
  · rw [if_neg (by omega), if_neg q, h 4 (by omega), h 5 (by omega)]
    obtain ⟨x, hx, ex⟩ := byte_nI (tg 4)
    obtain ⟨y, hy, ey⟩ := byte_nI (tg 5)
    rw [ex, ey]
    have e : (6 : Int32) + ((nI x * 256 + nI y) + 1) = (7 + 256 * nI x) + nI y := by
      rw [show (6 : Int32) = nI 6 from rfl, show (256 : Int32) = nI 256 from rfl, show (1 : Int32) = nI 1 from rfl, show (7 : Int32) = nI 7 from rfl, pk_mul, pk_mul, nI_add, nI_add, nI_add, nI_add, nI_add]
      congr 1; omega
    rw [e]
theorem hpkM_01 (tg : Nat → Int32) (k : Nat) : hpkM tg k = 0 ∨ hpkM tg k = 1 := by
  unfold hpkM; split
  · exact Or.inl rfl
  · split
    · exact Or.inr rfl
    · exact Or.inl rfl
theorem at_eq {vf ff : Nat → Int32} {k : Nat} (hk : k < 2 ^ 31) (h : rowR vf ff k) (z : Int32) : at_v vf k z = mat ff k z := by
  unfold at_v mat
  by_cases q : ¬ z < 0 ∧ ¬ nI k ≤ z
  · rw [if_pos q, if_pos q]
    obtain ⟨j, hj, rfl⟩ := nI_of q.1
    rw [nI_clamp hj]
    exact h j (Nat.not_le.mp (fun t => q.2 (nI_le t hj)))
  · rw [if_neg q, if_neg q]
