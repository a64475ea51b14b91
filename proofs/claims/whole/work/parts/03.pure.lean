-- PURE WORDS: what the class's numbers are
abbrev ush (x y : Int32) : Int32 := (x.toUInt32 >>> (y.toUInt32 &&& Int32.toUInt32 31)).toInt32
abbrev lsh (x : Int64) (y : Int32) : Int64 := (x.toUInt64 >>> (y.toInt64.toUInt64 &&& Int64.toUInt64 63)).toInt64
abbrev lsl (x : Int64) (y : Int32) : Int64 := x <<< (y.toInt64 &&& 63)
/-- what stands at a place, or -1 -/
def at_v (f : Nat → Int32) (k : Nat) (x : Int32) : Int32 := if ¬ x < 0 ∧ ¬ nI k ≤ x then f x.toNatClampNeg else -1
theorem at_val {f : Nat → Int32} {k j : Nat} (hj : j < 2 ^ 31) (c1 : ¬ nI j < 0) (c2 : ¬ nI k ≤ nI j) : f j = at_v f k (nI j) := by
  unfold at_v
  rw [if_pos ⟨c1, c2⟩, nI_clamp hj]
/-- THE CHECK: a bit, n bits, k bytes -/
def crS (c : Int32) : Int32 := if c * 2 < 65536 then c * 2 else (c * 2) ^^^ 69665
def crB : Nat → Int32 → Int32
  | 0, c => c
  | n + 1, c => crB n (crS c)
def crc (f : Nat → Int32) : Nat → Int32
  | 0 => 65535
  | i + 1 => crB 8 (crc f i ^^^ (f i * 256))
/-- m numbers g 0 .. written into a ring of 4096 from the place s on -/
def rwr (f : Nat → Int32) (s : Nat) (g : Nat → Int32) : Nat → Nat → Int32
  | 0 => f
  | m + 1 => upd (rwr f s g m) ((s + m) % 4096) (g m)
/-- a packet's bytes with the mark at its first -/
def mkd (p : Nat → Int32) (i : Nat) : Int32 := if i = 0 then 256 ||| p 0 else p i
/-- an empty packet of L bytes, marked -/
def emp (L : Nat) (i : Nat) : Int32 := if i = 0 then 263 else if i = 1 then 255 else if i = 2 then 192 else if i = 3 then 0 else if i = 4 then ush (nI (L - 6) - 1) 8 &&& 255 else if i = 5 then (nI (L - 6) - 1) &&& 255 else 85
/-- the first marked one among the next n, from the i-th on -/
def fbS (f : Nat → Int32) (hd : Nat) : Nat → Nat → Int32
  | 0, _ => 2047
  | n + 1, i => if f ((hd + i) % 4096) &&& 256 = 0 then fbS f hd n (i + 1) else nI i
theorem m12 (h k : Nat) (hh : h + k < 2 ^ 32) : (nI h + nI k) &&& 4095 = nI ((h + k) % 4096) := by
  rw [nI_add]; exact pk_andN hh 12 (by decide)
theorem m12' (h : Nat) (hh : h < 4096) : nI h &&& 4095 = nI h := by
  rw [pk_andN (by omega) 12 (by decide), Nat.mod_eq_of_lt (by omega)]
theorem emp_85 (L i : Nat) (h : 6 ≤ i) : emp L i = 85 := by
  unfold emp
  rw [if_neg (by omega), if_neg (by omega), if_neg (by omega), if_neg (by omega), if_neg (by omega), if_neg (by omega)]
theorem mx_nat {a b : Nat} (ha : a < 2 ^ 31) (hb : b < 2 ^ 31) : (if nI a < nI b then nI b else nI a) = nI (max a b) := by
  by_cases h : a < b
  · rw [if_pos (nI_lt h hb), Nat.max_eq_right (by omega)]
  · rw [if_neg (nI_nlt (by omega) ha), Nat.max_eq_left (by omega)]
/-- m numbers written from the place s on -/
def lwr (f : Nat → Int32) (s : Nat) (g : Nat → Int32) : Nat → Nat → Int32
  | 0 => f
  | m + 1 => upd (lwr f s g m) (s + m) (g m)
/-- filling up to a: how many wait then, and the ring -/
def filK (k a : Nat) : Nat := if k < a then k + max (a - k) 7 else k
def filF (f : Nat → Int32) (hd k a : Nat) : Nat → Int32 := if k < a then rwr f (hd + k) (emp (max (a - k) 7)) (max (a - k) 7) else f
theorem filK_ge (k a : Nat) : a ≤ filK k a := by unfold filK; split <;> omega
theorem filK_le (k a : Nat) (hk : k ≤ 4096) (ha : a ≤ 4000) : filK k a ≤ 4096 := by unfold filK; split <;> omega
/-- is the tape a packet -/
def hpk (g : Nat → Int32) (bk : Nat) : Int32 := if bk < 7 then 0 else if nI bk = 6 + (((g 4 * 256) + g 5) + 1) then 1 else 0
/-- LENGTH -/
def clI (x : Int32) : Int32 := if 64 < (if x < 256 then x else 256) then (if x < 256 then x else 256) else 64
def clN (x : Int32) : Nat := (clI x).toNatClampNeg
theorem clI_nat (x : Int32) : clI x = nI (clN x) ∧ 64 ≤ clN x ∧ clN x ≤ 256 := by
  have h : ∃ j : Nat, 64 ≤ j ∧ j ≤ 256 ∧ clI x = nI j := by
    unfold clI
    by_cases h1 : x < 256
    · rw [if_pos h1]
      by_cases h2 : 64 < x
      · rw [if_pos h2]
        have a1 : x.toInt < 256 := Int32.lt_iff_toInt_lt.mp h1
        have a2 : 64 < x.toInt := Int32.lt_iff_toInt_lt.mp h2
        obtain ⟨j, hj, rfl⟩ := nI_of (x := x) (fun q => by have a3 := Int32.lt_iff_toInt_lt.mp q; have a4 : (0 : Int32).toInt = 0 := rfl; omega)
        rw [nI_toInt hj] at a1 a2
        exact ⟨j, by omega, by omega, rfl⟩
      · rw [if_neg h2]
        exact ⟨64, by decide, by decide, rfl⟩
    · rw [if_neg h1, if_pos (by decide)]
      exact ⟨256, by decide, by decide, rfl⟩
  obtain ⟨j, h1, h2, h3⟩ := h
  have e : clN x = j := by unfold clN; rw [h3]; exact nI_clamp (by omega)
  rw [e]
  exact ⟨h3, h1, h2⟩
/-- the i-th of the highest bytes of w -/
def gvb (w : Int64) (i : Nat) : Int32 := (lsh w (56 - (8 * nI i))).toInt32 &&& 255
/-- the first two bytes as a number -/
def hdw (c : Int32) : Int32 := (5536 ||| (c <<< ((1 : Int32) &&& 31))) ||| 1
/-- a frame's bytes: the first six; the field; the word; the check -/
def frA (vf nf : Nat → Int32) (c : Int32) (kd : Nat) (fst : Int32) : Nat → Int32 :=
  upd (upd (upd (upd (upd (upd vf 0 (ush (hdw c) 8 &&& 255)) 1 ((hdw c) &&& 255)) 2 (nf 0 &&& 255)) 3 (nf kd &&& 255)) 4 (ush (6144 ||| fst) 8 &&& 255)) 5 ((6144 ||| fst) &&& 255)
def frW (vf : Nat → Int32) (a : Nat) (word : Int32) : Nat → Int32 :=
  upd (upd (upd (upd vf (6 + a) (ush (ush word 16) 8 &&& 255)) (6 + a + 1) ((ush word 16) &&& 255)) (6 + a + 2) (ush word 8 &&& 255)) (6 + a + 2 + 1) (word &&& 255)
def frC (vf : Nat → Int32) (a : Nat) : Nat → Int32 :=
  upd (upd vf (6 + a + 4) (ush (crc vf (6 + a + 4)) 8 &&& 255)) (6 + a + 4 + 1) ((crc vf (6 + a + 4)) &&& 255)
def frL (vf nf : Nat → Int32) (c : Int32) (kd : Nat) (fst : Int32) (g : Nat → Int32) (a : Nat) (word : Int32) : Nat → Int32 := frC (frW (lwr (frA vf nf c kd fst) 6 g a) a word) a
def cnt2 (nf : Nat → Int32) (kd : Nat) : Nat → Int32 := upd (upd nf 0 (nf 0 + 1)) kd ((upd nf 0 (nf 0 + 1)) kd + 1)
/-- the field's bytes out of a ring -/
def gfl (F : Nat → Int32) (hd : Nat) (i : Nat) : Int32 := (F ((hd + i) % 4096) &&& 255) &&& 255
theorem lwr_in {f g : Nat → Int32} {s i : Nat} : ∀ {m : Nat}, i < m → lwr f s g m (s + i) = g i
  | 0, h => absurd h (Nat.not_lt_zero _)
  | m + 1, h => by
    show upd (lwr f s g m) (s + m) (g m) (s + i) = g i
    by_cases e : i = m
    · subst e; exact pk_us
    · rw [pk_un (by omega)]; exact lwr_in (by omega)
theorem lwr_out {f g : Nat → Int32} {s j : Nat} : ∀ {m : Nat}, j < s ∨ s + m ≤ j → lwr f s g m j = f j
  | 0, _ => rfl
  | m + 1, h => by
    show upd (lwr f s g m) (s + m) (g m) j = f j
    rw [pk_un (by omega)]; exact lwr_out (by omega)
theorem rwr_in {f g : Nat → Int32} {s i : Nat} : ∀ {m : Nat}, i < m → m ≤ 4096 → rwr f s g m ((s + i) % 4096) = g i
  | 0, h, _ => absurd h (Nat.not_lt_zero _)
  | m + 1, h, hm => by
    show upd (rwr f s g m) ((s + m) % 4096) (g m) ((s + i) % 4096) = g i
    by_cases e : i = m
    · subst e; exact pk_us
    · rw [pk_un (by omega)]; exact rwr_in (by omega) (by omega)
theorem rwr_out {f g : Nat → Int32} {s p : Nat} : ∀ {m : Nat}, (∀ i, i < m → (s + i) % 4096 ≠ p) → rwr f s g m p = f p
  | 0, _ => rfl
  | m + 1, h => by
    show upd (rwr f s g m) ((s + m) % 4096) (g m) p = f p
    rw [pk_un (fun q => h m (by omega) q.symm)]; exact rwr_out (fun i hi => h i (by omega))
theorem rq_lo {f g : Nat → Int32} {hd k m i : Nat} (hi : i < k) (hm : k + m ≤ 4096) : rwr f (hd + k) g m ((hd + i) % 4096) = f ((hd + i) % 4096) := rwr_out (fun j hj => by omega)
theorem rq_hi {f g : Nat → Int32} {hd k m i : Nat} (hi : i < m) (hm : m ≤ 4096) : rwr f (hd + k) g m ((hd + (k + i)) % 4096) = g i := by
  rw [← Nat.add_assoc]; exact rwr_in hi hm
