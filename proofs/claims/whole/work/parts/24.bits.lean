/-! BITS of a row of at most twelve seats: the two ways to THE BLOCK -/
def pcn (x : Nat) : Nat := x % 2 + x / 2 % 2 + x / 4 % 2 + x / 8 % 2 + x / 16 % 2 + x / 32 % 2 + x / 64 % 2 + x / 128 % 2 + x / 256 % 2 + x / 512 % 2 + x / 1024 % 2 + x / 2048 % 2
def lob (x : Nat) : Nat := if x % 2 = 1 then 0 else if x / 2 % 2 = 1 then 1 else if x / 4 % 2 = 1 then 2 else if x / 8 % 2 = 1 then 3 else if x / 16 % 2 = 1 then 4 else if x / 32 % 2 = 1 then 5 else if x / 64 % 2 = 1 then 6 else if x / 128 % 2 = 1 then 7 else if x / 256 % 2 = 1 then 8 else if x / 512 % 2 = 1 then 9 else if x / 1024 % 2 = 1 then 10 else 11
def hol (f : Nat) : Nat := pcn (f &&& (f <<< 1 ^^^ 4294967295) &&& (f >>> 1 ^^^ 4294967295))
def bkm (n s : Nat) : Nat := (1 <<< n - 1) <<< s
def hsn (f : Nat) : Nat → Nat
  | 0 => 0
  | k + 1 => hsn f k + (if f.testBit k = true ∧ ¬ (1 ≤ k ∧ f.testBit (k - 1) = true) ∧ ¬ f.testBit (k + 1) = true then 1 else 0)
def fsn (f : Nat) : Nat → Nat
  | 0 => 0
  | k + 1 => fsn f k + (if f.testBit k = true then 1 else 0)
def rbk (f n : Nat) : Nat → Nat
  | 0 => 1000
  | s + 1 => if f &&& bkm n s = bkm n s then min (rbk f n s) (100 * (hol (f &&& (bkm n s ^^^ 4294967295)) + 1 - hol f) + s) else rbk f n s
def stn (f : Nat) : Nat → Nat
  | 0 => f
  | 1 => f
  | k + 2 => stn f (k + 1) &&& f >>> (k + 1)
def bsF (f n : Nat) : Nat := if n = 1 then stn f n &&& (f <<< 1 ^^^ 4294967295) &&& (f >>> 1 ^^^ 4294967295) else 0
def bsL (f n : Nat) : Nat := stn f n &&& ((f <<< 1 &&& (f <<< 2 ^^^ 4294967295)) ^^^ 4294967295) &&& ((f >>> n &&& (f >>> (n + 1) ^^^ 4294967295)) ^^^ 4294967295)
def bsn (f n : Nat) : Nat := if bsF f n ≠ 0 then lob (bsF f n) else if bsL f n ≠ 0 then 100 + lob (bsL f n) else 200 + lob (stn f n)
def bkC (n : Nat) : Bool := (List.range 4096).all (fun f => (stn f n == 0 && rbk f n 12 == 1000) || (!(stn f n == 0) && bsn f n == rbk f n 12 && decide (rbk f n 12 < 300)))
theorem bkC_1 : bkC 1 = true := by decide +kernel
theorem bkC_2 : bkC 2 = true := by decide +kernel
theorem bkC_3 : bkC 3 = true := by decide +kernel
theorem bkC_4 : bkC 4 = true := by decide +kernel
theorem bkC_5 : bkC 5 = true := by decide +kernel
theorem bkC_6 : bkC 6 = true := by decide +kernel
theorem bkC_at {f n : Nat} (hf : f < 4096) (h1 : 1 ≤ n) (h6 : n ≤ 6) : (stn f n = 0 ∧ rbk f n 12 = 1000) ∨ (stn f n ≠ 0 ∧ bsn f n = rbk f n 12 ∧ rbk f n 12 < 300) := by
  have h : bkC n = true := by
    have : n = 1 ∨ n = 2 ∨ n = 3 ∨ n = 4 ∨ n = 5 ∨ n = 6 := by omega
    rcases this with rfl | rfl | rfl | rfl | rfl | rfl
    · exact bkC_1
    · exact bkC_2
    · exact bkC_3
    · exact bkC_4
    · exact bkC_5
    · exact bkC_6
  have := List.all_eq_true.mp h f (List.mem_range.mpr hf)
  simp only [Bool.or_eq_true, Bool.and_eq_true, beq_iff_eq, Bool.not_eq_true', beq_eq_false_iff_ne, decide_eq_true_eq, ne_eq] at this
  rcases this with ⟨a, b⟩ | ⟨⟨a, b⟩, c⟩
  · exact .inl ⟨a, b⟩
  · exact .inr ⟨a, b, c⟩
def cnC (w : Nat) : Bool := (List.range (2 ^ w)).all (fun f => hsn f w == hol f && fsn f w == pcn f)
theorem cnC_ok : (List.range 13).all cnC = true := by decide +kernel
theorem cnC_at {f w : Nat} (hw : w ≤ 12) (hf : f < 2 ^ w) : hsn f w = hol f ∧ fsn f w = pcn f := by
  have h := List.all_eq_true.mp cnC_ok w (List.mem_range.mpr (by omega))
  have := List.all_eq_true.mp h f (List.mem_range.mpr hf)
  simpa only [Bool.and_eq_true, beq_iff_eq] using this
def loC : Bool := (List.range 4096).all (fun f => f == 0 || ((f >>> lob f) % 2 == 1 && f % 2 ^ lob f == 0 && decide (lob f < 12)))
theorem loC_ok : loC = true := by decide +kernel
theorem loC_at {f : Nat} (hf : f < 4096) (h0 : f ≠ 0) : (f >>> lob f) % 2 = 1 ∧ f % 2 ^ lob f = 0 ∧ lob f < 12 := by
  have := List.all_eq_true.mp loC_ok f (List.mem_range.mpr hf)
  simp only [Bool.or_eq_true, Bool.and_eq_true, beq_iff_eq, decide_eq_true_eq] at this
  rcases this with h | ⟨⟨a, b⟩, c⟩
  · exact absurd h h0
  · exact ⟨a, b, c⟩
def tkC : Bool := (List.range 4096).all (fun f => (List.range 12).all (fun s => !(f &&& bkm 1 s == bkm 1 s) || (pcn (f &&& (bkm 1 s ^^^ 4294967295)) + 1 == pcn f)))
theorem tkC_ok : tkC = true := by decide +kernel
theorem tkC_at {f s : Nat} (hf : f < 4096) (hs : s < 12) (h : f &&& bkm 1 s = bkm 1 s) : pcn (f &&& (bkm 1 s ^^^ 4294967295)) + 1 = pcn f := by
  have := List.all_eq_true.mp (List.all_eq_true.mp tkC_ok f (List.mem_range.mpr hf)) s (List.mem_range.mpr hs)
  simp only [Bool.or_eq_true, Bool.not_eq_true', beq_eq_false_iff_ne, beq_iff_eq, ne_eq] at this
  rcases this with a | a
  · exact absurd h a
  · exact a
theorem pcn_0 : pcn 0 = 0 := rfl
theorem bkm_bit {n s j : Nat} : (bkm n s).testBit j = (decide (s ≤ j) && decide (j < s + n)) := by
  unfold bkm
  rw [Nat.testBit_shiftLeft, Nat.one_shiftLeft, Nat.testBit_two_pow_sub_one]
  by_cases h : s ≤ j
  · simp only [h, decide_true, Bool.true_and]
    congr 1
    exact propext ⟨fun _ => by omega, fun _ => by omega⟩
  · simp only [ge_iff_le, h, decide_false, Bool.false_and]
theorem bkm_on {f n s : Nat} : f &&& bkm n s = bkm n s ↔ ∀ j, s ≤ j → j < s + n → f.testBit j = true := by
  constructor
  · intro h j h1 h2
    have := congrArg (fun x => x.testBit j) h
    simp only [Nat.testBit_and, bkm_bit, h1, h2, decide_true, Bool.and_true] at this
    exact this
  · intro h
    apply Nat.eq_of_testBit_eq
    intro j
    rw [Nat.testBit_and, bkm_bit]
    by_cases h1 : s ≤ j
    · by_cases h2 : j < s + n
      · simp only [h j h1 h2, h1, h2, decide_true, Bool.and_true]
      · simp only [h2, decide_false, Bool.and_false]
    · simp only [h1, decide_false, Bool.false_and, Bool.and_false]
theorem ones_bit {j : Nat} : Nat.testBit 4294967295 j = decide (j < 32) := by
  rw [show (4294967295 : Nat) = 2 ^ 32 - 1 from rfl, Nat.testBit_two_pow_sub_one]
theorem bit_hi {f w j : Nat} (h : f < 2 ^ w) (hj : w ≤ j) : f.testBit j = false :=
  Nat.testBit_lt_two_pow (Nat.lt_of_lt_of_le h (Nat.pow_le_pow_right (by omega) hj))
theorem off_bit {f n s j : Nat} (h : f < 4096) : (f &&& (bkm n s ^^^ 4294967295)).testBit j = (f.testBit j && !(decide (s ≤ j) && decide (j < s + n))) := by
  rw [Nat.testBit_and, Nat.testBit_xor, bkm_bit, ones_bit]
  by_cases hj : j < 32
  · simp only [hj, decide_true, Bool.xor_true]
  · rw [bit_hi (w := 12) h (by omega)]
    simp only [Bool.false_and]
theorem off_lt {f n s w : Nat} (h : f < 2 ^ w) : f &&& (bkm n s ^^^ 4294967295) < 2 ^ w := Nat.lt_of_le_of_lt Nat.and_le_left h
theorem rbk_hi {f n w s : Nat} (hn : 1 ≤ n) (hf : f < 2 ^ w) (hs : w < s + n) : ¬ f &&& bkm n s = bkm n s := by
  intro h
  have h1 := bkm_on.mp h (s + n - 1) (by omega) (by omega)
  rw [bit_hi hf (by omega)] at h1
  cases h1
theorem rbk_w {f n w : Nat} (hn : 1 ≤ n) (hf : f < 2 ^ w) : ∀ k, w + 1 - n ≤ k → rbk f n k = rbk f n (w + 1 - n) := by
  intro k hk
  induction k with
  | zero => rw [show w + 1 - n = 0 by omega]
  | succ k ih =>
    by_cases h : w + 1 - n = k + 1
    · rw [h]
    · rw [← ih (by omega)]
      show (if f &&& bkm n k = bkm n k then _ else _) = _
      rw [if_neg (rbk_hi hn hf (by omega))]
theorem rbk_le {f n : Nat} : ∀ s, rbk f n s ≤ 1000
  | 0 => Nat.le_refl _
  | s + 1 => by
    unfold rbk
    split
    · exact Nat.le_trans (Nat.min_le_left _ _) (rbk_le s)
    · exact rbk_le s
