set_option maxRecDepth 20000
set_option maxHeartbeats 4000000
/-! Longs: a word's letters, base 256 -/
def tL (n : Nat) : Int64 := Int64.ofNat n
theorem tL_8 : (tN 8).toInt64 &&& 63 = 8 := by decide
theorem tL_c {c : Nat} (h : c < 256) : (tN c).toInt64 = tL c := by
  have : ∀ c, c < 256 → (tN c).toInt64 = tL c := by decide +kernel
  exact this c h
theorem tL_bv {n : Nat} : (tL n).toBitVec = BitVec.ofNat 64 n := rfl
theorem lg_s {w c : Nat} (hc : c < 256) : (tL w <<< ((tN 8).toInt64 &&& 63)) ||| (tN c).toInt64 = tL (w * 256 + c) := by
  rw [tL_8, tL_c hc]
  apply Int64.toBitVec_inj.1
  rw [Int64.toBitVec_or, Int64.toBitVec_shiftLeft, tL_bv, tL_bv, tL_bv]
  apply BitVec.eq_of_toNat_eq
  have e8 : (BitVec.smod (8 : Int64).toBitVec 64) = 8#64 := by decide
  rw [e8]
  rw [BitVec.toNat_or, BitVec.shiftLeft_eq', BitVec.toNat_shiftLeft, BitVec.toNat_ofNat, BitVec.toNat_ofNat, BitVec.toNat_ofNat, BitVec.toNat_ofNat]
  rw [show 8 % 2 ^ 64 = 8 by decide, Nat.shiftLeft_eq, Nat.mod_eq_of_lt (a := c) (by omega)]
  have e1 : w % 2 ^ 64 * 2 ^ 8 % 2 ^ 64 = (w % 2 ^ 56) <<< 8 := by
    rw [Nat.shiftLeft_eq]
    omega
  rw [e1, ← Nat.shiftLeft_add_eq_or_of_lt (by omega), Nat.shiftLeft_eq]
  omega
