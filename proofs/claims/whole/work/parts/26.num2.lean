/-! NUMBERS, more -/
theorem mOk_int {x : Int32} : mOk (.int x) = true := rfl
theorem mOk_ref {c : Nat} : mOk (.ref c) = true := rfl
theorem mOk_null : mOk .null = true := rfl
theorem mOk_long {x : Int64} : mOk (.long x) = true := rfl
theorem nm_rem {a b : Nat} : a - a / b * b = a % b := by
  have := Nat.div_add_mod a b
  rw [Nat.mul_comm] at this
  omega
theorem nm_rem1 {a b : Nat} : tN a - tN (a / b * b) = tN (a % b) := by
  rw [tN_sub (Nat.div_mul_le_self a b), nm_rem]
theorem tW_lt {k c : Nat} (hk : k < 4294967296) (hc : c < 2147483648) : (tN k < tN c) = (k < c ∨ 2147483648 ≤ k) := by
  by_cases h : k < 2147483648
  · rw [tN_lt h hc]; exact propext (by omega)
  · rw [tN_ltn (by omega) hk hc]; exact (eq_true (by omega)).symm
theorem tW_le {k c : Nat} (hk : k < 4294967296) (hc : c < 2147483648) : (tN k ≤ tN c) = (k ≤ c ∨ 2147483648 ≤ k) := by
  by_cases h : k < 2147483648
  · rw [tN_le h hc]; exact propext (by omega)
  · rw [tN_len (by omega) hk hc]; exact (eq_true (by omega)).symm
theorem tW_lt2 {k c : Nat} (hk : k < 4294967296) (hc : c < 2147483648) : (tN c < tN k) = (c < k ∧ k < 2147483648) := by
  by_cases h : k < 2147483648
  · rw [tN_lt hc h]; exact propext (by omega)
  · rw [tN_nlt (by omega) hk hc]; exact (eq_false (by omega)).symm
theorem tW_le2 {k c : Nat} (hk : k < 4294967296) (hc : c < 2147483648) : (tN c ≤ tN k) = (c ≤ k ∧ k < 2147483648) := by
  by_cases h : k < 2147483648
  · rw [tN_le hc h]; exact propext (by omega)
  · rw [tN_nle (by omega) hk hc]; exact (eq_false (by omega)).symm
def aF (A : Nat → Nat → Nat) (c : Nat) (g : Nat → Nat) : Nat → Nat → Nat := fun k j => if k = c then g j else A k j
theorem aF_eq {A : Nat → Nat → Nat} {c : Nat} {g : Nat → Nat} {j : Nat} : aF A c g c j = g j := if_pos rfl
theorem aF_ne {A : Nat → Nat → Nat} {c : Nat} {g : Nat → Nat} {k j : Nat} (h : k ≠ c) : aF A c g k j = A k j := if_neg h
theorem aU_aF {A : Nat → Nat → Nat} {c i x : Nat} : aU A c i x = aF A c (fun j => if j = i then x else A c j) := by
  funext k j
  unfold aU aF
  by_cases h : k = c
  · subst h
    by_cases h2 : j = i
    · rw [if_pos ⟨rfl, h2⟩, if_pos rfl]; exact (if_pos h2).symm
    · rw [if_neg (fun z => h2 z.2), if_pos rfl]; exact (if_neg h2).symm
  · rw [if_neg (fun z => h z.1), if_neg h]
theorem aF_id {A : Nat → Nat → Nat} {c : Nat} {g : Nat → Nat} (h : ∀ j, g j = A c j) : aF A c g = A := by
  funext k j
  unfold aF
  split
  · next e => subst e; exact h j
  · rfl
theorem aF_aF {A : Nat → Nat → Nat} {c : Nat} {g g2 : Nat → Nat} : aF (aF A c g) c g2 = aF A c g2 := by
  funext k j
  unfold aF
  split <;> rfl
theorem aF_U {A : Nat → Nat → Nat} {c i x : Nat} {g : Nat → Nat} : aU (aF A c g) c i x = aF A c (fun j => if j = i then x else g j) := by
  rw [aU_aF, aF_aF]
  congr 1
  funext j
  rw [aF_eq]
theorem aF_cg {A : Nat → Nat → Nat} {c : Nat} {g g2 : Nat → Nat} (h : ∀ j, g j = g2 j) : aF A c g = aF A c g2 := by
  rw [show g = g2 from funext h]
theorem tN_n1 : -tN 1 = tN 4294967295 := by decide
theorem tN_n8 : -tN 8 = tN 4294967288 := by decide
theorem lp_up {g h : Nat → Nat} {k v : Nat} (hv : v = g k) : (fun j => if j = k then v else if j < k then g j else h j) = (fun j => if j < k + 1 then g j else h j) := by
  funext j
  by_cases h1 : j = k
  · rw [if_pos h1, if_pos (by omega), h1, hv]
  · rw [if_neg h1]
    by_cases h2 : j < k
    · rw [if_pos h2, if_pos (by omega)]
    · rw [if_neg h2, if_neg (by omega)]
