/-! NUMBERS: ints as natural numbers -/
def tN (n : Nat) : Int32 := Int32.ofNat n
theorem tN_l : ((0 : Int32) = tN 0) ∧ ((1 : Int32) = tN 1) ∧ ((2 : Int32) = tN 2) ∧ ((3 : Int32) = tN 3) ∧ ((4 : Int32) = tN 4) ∧ ((5 : Int32) = tN 5) ∧ ((6 : Int32) = tN 6) ∧ ((7 : Int32) = tN 7) ∧ ((8 : Int32) = tN 8) ∧ ((10 : Int32) = tN 10) ∧ ((11 : Int32) = tN 11) ∧ ((12 : Int32) = tN 12) ∧ ((13 : Int32) = tN 13) ∧ ((14 : Int32) = tN 14) ∧ ((15 : Int32) = tN 15) ∧ ((16 : Int32) = tN 16) ∧ ((20 : Int32) = tN 20) ∧ ((21 : Int32) = tN 21) ∧ ((22 : Int32) = tN 22) ∧ ((23 : Int32) = tN 23) ∧ ((24 : Int32) = tN 24) ∧ ((30 : Int32) = tN 30) ∧ ((31 : Int32) = tN 31) ∧ ((32 : Int32) = tN 32) ∧ ((48 : Int32) = tN 48) ∧ ((57 : Int32) = tN 57) ∧ ((58 : Int32) = tN 58) ∧ ((59 : Int32) = tN 59) ∧ ((60 : Int32) = tN 60) ∧ ((61 : Int32) = tN 61) ∧ ((62 : Int32) = tN 62) ∧ ((63 : Int32) = tN 63) ∧ ((72 : Int32) = tN 72) ∧ ((97 : Int32) = tN 97) ∧ ((100 : Int32) = tN 100) ∧ ((122 : Int32) = tN 122) ∧ ((192 : Int32) = tN 192) ∧ ((200 : Int32) = tN 200) ∧ ((255 : Int32) = tN 255) ∧ ((256 : Int32) = tN 256) ∧ ((288 : Int32) = tN 288) ∧ ((300 : Int32) = tN 300) ∧ ((301 : Int32) = tN 301) ∧ ((360 : Int32) = tN 360) ∧ ((999 : Int32) = tN 999) ∧ ((1200 : Int32) = tN 1200) ∧ ((65536 : Int32) = tN 65536) ∧ ((1431655765 : Int32) = tN 1431655765) ∧ ((858993459 : Int32) = tN 858993459) ∧ ((252645135 : Int32) = tN 252645135) := by
  refine ⟨rfl, rfl, rfl, rfl, rfl, rfl, rfl, rfl, rfl, rfl, rfl, rfl, rfl, rfl, rfl, rfl, rfl, rfl, rfl, rfl, rfl, rfl, rfl, rfl, rfl, rfl, rfl, rfl, rfl, rfl, rfl, rfl, rfl, rfl, rfl, rfl, rfl, rfl, rfl, rfl, rfl, rfl, rfl, rfl, rfl, rfl, rfl, rfl, rfl, rfl⟩
theorem tN_0 : (0 : Int32) = tN 0 := rfl
theorem tN_m8 : (-8 : Int32) = tN 4294967288 := by decide
theorem tN_m1 : (-1 : Int32) = tN 4294967295 := by decide
theorem tN_int (a : Nat) : (tN a).toInt = (a : Int).bmod 4294967296 := by
  unfold tN; rw [Int32.toInt_ofNat']
theorem tN_toInt {a : Nat} (h : a < 2147483648) : (tN a).toInt = a := by
  rw [tN_int, Int.bmod_def]; omega
theorem tN_toIntn {a : Nat} (h : 2147483648 ≤ a) (h2 : a < 4294967296) : (tN a).toInt = (a : Int) - 4294967296 := by
  rw [tN_int, Int.bmod_def]; omega
theorem tN_lt {a b : Nat} (ha : a < 2147483648) (hb : b < 2147483648) : (tN a < tN b) = (a < b) := by
  rw [Int32.lt_iff_toInt_lt, tN_toInt ha, tN_toInt hb]; exact propext (by omega)
theorem tN_le {a b : Nat} (ha : a < 2147483648) (hb : b < 2147483648) : (tN a ≤ tN b) = (a ≤ b) := by
  rw [Int32.le_iff_toInt_le, tN_toInt ha, tN_toInt hb]; exact propext (by omega)
theorem tN_ltn {a b : Nat} (ha : 2147483648 ≤ a) (ha2 : a < 4294967296) (hb : b < 2147483648) : (tN a < tN b) = True := by
  rw [Int32.lt_iff_toInt_lt, tN_toIntn ha ha2, tN_toInt hb]; exact eq_true (by omega)
theorem tN_len {a b : Nat} (ha : 2147483648 ≤ a) (ha2 : a < 4294967296) (hb : b < 2147483648) : (tN a ≤ tN b) = True := by
  rw [Int32.le_iff_toInt_le, tN_toIntn ha ha2, tN_toInt hb]; exact eq_true (by omega)
theorem tN_nlt {a b : Nat} (ha : 2147483648 ≤ a) (ha2 : a < 4294967296) (hb : b < 2147483648) : (tN b < tN a) = False := by
  rw [Int32.lt_iff_toInt_lt, tN_toIntn ha ha2, tN_toInt hb]; exact eq_false (by omega)
theorem tN_nle {a b : Nat} (ha : 2147483648 ≤ a) (ha2 : a < 4294967296) (hb : b < 2147483648) : (tN b ≤ tN a) = False := by
  rw [Int32.le_iff_toInt_le, tN_toIntn ha ha2, tN_toInt hb]; exact eq_false (by omega)
theorem tN_inj {a b : Nat} (ha : a < 4294967296) (hb : b < 4294967296) : (tN a = tN b) = (a = b) := by
  refine propext ⟨fun h => ?_, fun h => by rw [h]⟩
  have h2 := congrArg Int32.toInt h
  rw [tN_int, tN_int, Int.bmod_def, Int.bmod_def] at h2
  omega
theorem tN_add {a b : Nat} : tN a + tN b = tN (a + b) := (Int32.ofNat_add a b).symm
theorem tN_mul {a b : Nat} : tN a * tN b = tN (a * b) := (Int32.ofNat_mul a b).symm
theorem tN_sub {a b : Nat} (h : b ≤ a) : tN a - tN b = tN (a - b) := by
  have : tN a = tN (a - b) + tN b := by rw [tN_add]; congr 1; omega
  rw [this, Int32.add_sub_cancel]
theorem tN_per {a : Nat} : tN (a + 4294967296) = tN a := by
  apply Int32.toInt_inj.mp
  rw [tN_int, tN_int, Int.bmod_def, Int.bmod_def]
  omega
theorem tN_subn {a b : Nat} (h : a < b) (hb : b ≤ 4294967296) : tN a - tN b = tN (a + 4294967296 - b) := by
  have : tN a = tN (a + 4294967296 - b) + tN b := by
    rw [tN_add, ← tN_per (a := a)]; congr 1; omega
  rw [this, Int32.add_sub_cancel]
theorem tN_and {a b : Nat} : tN a &&& tN b = tN (a &&& b) := by
  apply Int32.toBitVec_inj.mp
  show (Int32.ofNat a &&& Int32.ofNat b).toBitVec = (Int32.ofNat (a &&& b)).toBitVec
  rw [Int32.toBitVec_and]
  apply BitVec.eq_of_toNat_eq
  simp only [Int32.toBitVec_ofNat', BitVec.toNat_and, BitVec.toNat_ofNat, Nat.and_mod_two_pow]
theorem tN_or {a b : Nat} : tN a ||| tN b = tN (a ||| b) := by
  apply Int32.toBitVec_inj.mp
  show (Int32.ofNat a ||| Int32.ofNat b).toBitVec = (Int32.ofNat (a ||| b)).toBitVec
  rw [Int32.toBitVec_or]
  apply BitVec.eq_of_toNat_eq
  simp only [Int32.toBitVec_ofNat', BitVec.toNat_or, BitVec.toNat_ofNat, Nat.or_mod_two_pow]
theorem tN_xor {a b : Nat} : tN a ^^^ tN b = tN (a ^^^ b) := by
  apply Int32.toBitVec_inj.mp
  show (Int32.ofNat a ^^^ Int32.ofNat b).toBitVec = (Int32.ofNat (a ^^^ b)).toBitVec
  rw [Int32.toBitVec_xor]
  apply BitVec.eq_of_toNat_eq
  simp only [Int32.toBitVec_ofNat', BitVec.toNat_xor, BitVec.toNat_ofNat, Nat.xor_mod_two_pow]
theorem tN_and31 {k : Nat} (h : k < 32) : k &&& 31 = k := by
  rw [show (31 : Nat) = 2 ^ 5 - 1 from rfl, Nat.and_two_pow_sub_one_eq_mod]; omega
theorem tN_clamp {a : Nat} (h : a < 2147483648) : (tN a).toNatClampNeg = a := by
  have := tN_toInt h
  unfold Int32.toNatClampNeg
  rw [this]; rfl
theorem tN_in {i n : Nat} (h : i < n) (hn : n < 2147483648) : vp_in (tN i) n = True := by
  unfold vp_in
  rw [tN_clamp (by omega), tN_0, tN_lt (by omega) (by omega)]
  exact eq_true (by omega)
theorem tN_div {a b : Nat} (ha : a < 2147483648) (hb : b < 2147483648) : tN a / tN b = tN (a / b) := by
  apply Int32.toInt_inj.mp
  have h3 : a / b ≤ a := Nat.div_le_self a b
  rw [Int32.toInt_div_of_ne_right _ _ (fun h => by rw [show (-1 : Int32) = tN 4294967295 from by decide, tN_inj (by omega) (by omega)] at h; omega), tN_toInt ha, tN_toInt hb, tN_toInt (by omega)]
  rfl
theorem tN_rem {a b : Nat} (ha : a < 2147483648) (hb : b < 2147483648) : tN a - tN (a / b) * tN b = tN (a % b) := by
  rw [tN_mul, tN_sub (Nat.div_mul_le_self a b)]
  congr 1
  have := Nat.div_add_mod a b
  rw [Nat.mul_comm] at this
  omega
theorem tN_sm : ∀ k, k < 32 → ((tN k).toBitVec.smod (32 : BitVec 32)).toNat = k := by decide
theorem tN_bv {a : Nat} : (tN a).toBitVec = BitVec.ofNat 32 a := rfl
theorem tN_shl {a k : Nat} (h : k < 32) : tN a <<< tN k = tN (a <<< k) := by
  apply Int32.toBitVec_inj.mp
  rw [Int32.toBitVec_shiftLeft, BitVec.shiftLeft_eq', tN_sm k h, tN_bv, tN_bv]
  apply BitVec.eq_of_toNat_eq
  rw [BitVec.toNat_shiftLeft, BitVec.toNat_ofNat, BitVec.toNat_ofNat, Nat.shiftLeft_eq, Nat.shiftLeft_eq, Nat.mod_mul_mod]
theorem tN_shr {a k : Nat} (ha : a < 2147483648) (h : k < 32) : tN a >>> tN k = tN (a >>> k) := by
  apply Int32.toBitVec_inj.mp
  have hm : (BitVec.ofNat 32 a).msb = false := by
    rw [BitVec.msb_eq_decide, BitVec.toNat_ofNat]
    exact decide_eq_false (by rw [Nat.mod_eq_of_lt (by omega)]; omega)
  rw [Int32.toBitVec_shiftRight, BitVec.sshiftRight_eq', tN_sm k h, tN_bv, tN_bv, BitVec.sshiftRight_eq_of_msb_false hm]
  apply BitVec.eq_of_toNat_eq
  have h2 : a >>> k ≤ a := Nat.shiftRight_le a k
  rw [BitVec.toNat_ushiftRight, BitVec.toNat_ofNat, BitVec.toNat_ofNat, Nat.mod_eq_of_lt (by omega), Nat.mod_eq_of_lt (by omega)]
theorem tN_b2 {c : Prop} [Decidable c] : (tN (if c then 1 else 0) = tN 0) = ¬ c := by
  by_cases h : c
  · rw [if_pos h]; simp only [h, not_true_eq_false, eq_iff_iff, iff_false]; decide
  · rw [if_neg h]; simp only [h, not_false_eq_true]
def mN (A : Nat → Nat → Nat) : mI := fun c i => tN (A c i)
theorem mN_at {A : Nat → Nat → Nat} {c i : Nat} : mN A c i = tN (A c i) := rfl
def aU (A : Nat → Nat → Nat) (c i x : Nat) : Nat → Nat → Nat := fun k j => if k = c ∧ j = i then x else A k j
theorem mN_U {A : Nat → Nat → Nat} {c i x : Nat} : mU (mN A) c i (tN x) = mN (aU A c i x) := by
  funext k j
  unfold mU mN aU upd
  by_cases h1 : k = c
  · by_cases h2 : j = i <;> simp [h1, h2]
  · simp [h1]
theorem aU_ne {A : Nat → Nat → Nat} {c i x k j : Nat} (h : k ≠ c) : aU A c i x k j = A k j := if_neg (fun e => h e.1)
theorem aU_ne2 {A : Nat → Nat → Nat} {c i x j : Nat} (h : j ≠ i) : aU A c i x c j = A c j := if_neg (fun e => h e.2)
theorem aU_eq {A : Nat → Nat → Nat} {c i x : Nat} : aU A c i x c i = x := if_pos ⟨rfl, rfl⟩
theorem tN_of (x : Int32) : ∃ k, k < 4294967296 ∧ x = tN k := by
  refine ⟨x.toUInt32.toNat, x.toUInt32.toNat_lt, ?_⟩
  apply Int32.toBitVec_inj.mp
  apply BitVec.eq_of_toNat_eq
  show _ = (Int32.ofNat _).toBitVec.toNat
  rw [Int32.toBitVec_ofNat', BitVec.toNat_ofNat]
  exact (Nat.mod_eq_of_lt x.toUInt32.toNat_lt).symm
theorem nd_lt {a b : Nat} (h : a < b) : (a < b) = True := eq_true h
theorem nd_nlt {a b : Nat} (h : b ≤ a) : (a < b) = False := eq_false (by omega)
theorem nd_le {a b : Nat} (h : a ≤ b) : (a ≤ b) = True := eq_true h
theorem nd_nle {a b : Nat} (h : b < a) : (a ≤ b) = False := eq_false (by omega)
theorem nd_eq {a b : Nat} (h : a = b) : (a = b) = True := eq_true h
theorem nd_ne {a b : Nat} (h : a ≠ b) : (a = b) = False := eq_false h
