set_option maxRecDepth 20000
set_option maxHeartbeats 4000000
/-! NUMBERS, more -/
theorem mOk_int {x : Int32} : mOk (.int x) = true := rfl
theorem mOk_ref {c : Nat} : mOk (.ref c) = true := rfl
theorem mOk_null : mOk .null = true := rfl
theorem mOk_long {x : Int64} : mOk (.long x) = true := rfl
theorem nm_rem {a b : Nat} : a - a / b * b = a % b := by
  have := Nat.div_add_mod a b
  rw [Nat.mul_comm] at this
  omega
theorem nm_rem1 {a b : Nat} : tN a - tN (a / b * b) = tN (a % b) := by
  rw [tN_sub (Nat.div_mul_le_self a b), nm_rem]
theorem tW_lt {k c : Nat} (hk : k < 4294967296) (hc : c < 2147483648) : (tN k < tN c) = (k < c ∨ 2147483648 ≤ k) := by
  by_cases h : k < 2147483648
  · rw [tN_lt h hc]; exact propext (by omega)
  · rw [tN_ltn (by omega) hk hc]; exact (eq_true (by omega)).symm
theorem tW_le {k c : Nat} (hk : k < 4294967296) (hc : c < 2147483648) : (tN k ≤ tN c) = (k ≤ c ∨ 2147483648 ≤ k) := by
  by_cases h : k < 2147483648
  · rw [tN_le h hc]; exact propext (by omega)
  · rw [tN_len (by omega) hk hc]; exact (eq_true (by omega)).symm
theorem tW_lt2 {k c : Nat} (hk : k < 4294967296) (hc : c < 2147483648) : (tN c < tN k) = (c < k ∧ k < 2147483648) := by
  by_cases h : k < 2147483648
  · rw [tN_lt hc h]; exact propext (by omega)
  · rw [tN_nlt (by omega) hk hc]; exact (eq_false (by omega)).symm
theorem tW_le2 {k c : Nat} (hk : k < 4294967296) (hc : c < 2147483648) : (tN c ≤ tN k) = (c ≤ k ∧ k < 2147483648) := by
  by_cases h : k < 2147483648
  · rw [tN_le hc h]; exact propext (by omega)
  · rw [tN_nle (by omega) hk hc]; exact (eq_false (by omega)).symm
def aF (A : Nat → Nat → Nat) (c : Nat) (g : Nat → Nat) : Nat → Nat → Nat := fun k j => if k = c then g j else A k j
theorem aF_eq {A : Nat → Nat → Nat} {c : Nat} {g : Nat → Nat} {j : Nat} : aF A c g c j = g j := if_pos rfl
theorem aF_ne {A : Nat → Nat → Nat} {c : Nat} {g : Nat → Nat} {k j : Nat} (h : k ≠ c) : aF A c g k j = A k j := if_neg h
theorem aU_aF {A : Nat → Nat → Nat} {c i x : Nat} : aU A c i x = aF A c (fun j => if j = i then x else A c j) := by
  funext k j
  unfold aU aF
  by_cases h : k = c
  · subst h
    by_cases h2 : j = i
    · rw [if_pos ⟨rfl, h2⟩, if_pos rfl]; exact (if_pos h2).symm
    · rw [if_neg (fun z => h2 z.2), if_pos rfl]; exact (if_neg h2).symm
  · rw [if_neg (fun z => h z.1), if_neg h]
theorem aF_id {A : Nat → Nat → Nat} {c : Nat} {g : Nat → Nat} (h : ∀ j, g j = A c j) : aF A c g = A := by
  funext k j
  unfold aF
  split
  · next e => subst e; exact h j
  · rfl
theorem aF_aF {A : Nat → Nat → Nat} {c : Nat} {g g2 : Nat → Nat} : aF (aF A c g) c g2 = aF A c g2 := by
  funext k j
  unfold aF
  split <;> rfl
theorem aF_U {A : Nat → Nat → Nat} {c i x : Nat} {g : Nat → Nat} : aU (aF A c g) c i x = aF A c (fun j => if j = i then x else g j) := by
  rw [aU_aF, aF_aF]
  congr 1
  funext j
  rw [aF_eq]
theorem aF_cg {A : Nat → Nat → Nat} {c : Nat} {g g2 : Nat → Nat} (h : ∀ j, g j = g2 j) : aF A c g = aF A c g2 := by
  rw [show g = g2 from funext h]
theorem tN_n1 : -tN 1 = tN 4294967295 := by decide
theorem tN_n8 : -tN 8 = tN 4294967288 := by decide
theorem lp_up {g h : Nat → Nat} {k v : Nat} (hv : v = g k) : (fun j => if j = k then v else if j < k then g j else h j) = (fun j => if j < k + 1 then g j else h j) := by
  funext j
  by_cases h1 : j = k
  · rw [if_pos h1, if_pos (by omega), h1, hv]
  · rw [if_neg h1]
    by_cases h2 : j < k
    · rw [if_pos h2, if_pos (by omega)]
    · rw [if_neg h2, if_neg (by omega)]
theorem if_imp {c p q : Prop} [Decidable c] : ((c → p) ∧ (¬ c → q)) = (if c then p else q) := by
  by_cases h : c
  · rw [if_pos h]; exact propext ⟨fun z => z.1 h, fun z => ⟨fun _ => z, fun n => absurd h n⟩⟩
  · rw [if_neg h]; exact propext ⟨fun z => z.2 h, fun z => ⟨fun n => absurd n h, fun _ => z⟩⟩
theorem if_imp2 {c p q : Prop} [Decidable c] : ((c → q) ∧ (¬ c → p)) = (if c then q else p) := if_imp
theorem ri_ifeq {cal : mCal} {X : mX} {cap : Nat × Nat} {Q : mPost} {W : mWt} {nx a b : Nat} {v : Value} {sw : List (Int32 × Nat)} {lv r : List Value} {σ : mS} {x : Int32} : o_ifeq cal X cap Q W nx a b v sw lv (.int x :: r) σ = (if x = 0 then W a lv r σ else W nx lv r σ) := r_ifeq.trans if_imp
theorem ri_ifne {cal : mCal} {X : mX} {cap : Nat × Nat} {Q : mPost} {W : mWt} {nx a b : Nat} {v : Value} {sw : List (Int32 × Nat)} {lv r : List Value} {σ : mS} {x : Int32} : o_ifne cal X cap Q W nx a b v sw lv (.int x :: r) σ = (if x = 0 then W nx lv r σ else W a lv r σ) := r_ifne.trans if_imp
theorem ri_iflt {cal : mCal} {X : mX} {cap : Nat × Nat} {Q : mPost} {W : mWt} {nx a b : Nat} {v : Value} {sw : List (Int32 × Nat)} {lv r : List Value} {σ : mS} {x : Int32} : o_iflt cal X cap Q W nx a b v sw lv (.int x :: r) σ = (if x < 0 then W a lv r σ else W nx lv r σ) := r_iflt.trans if_imp
theorem ri_ifge {cal : mCal} {X : mX} {cap : Nat × Nat} {Q : mPost} {W : mWt} {nx a b : Nat} {v : Value} {sw : List (Int32 × Nat)} {lv r : List Value} {σ : mS} {x : Int32} : o_ifge cal X cap Q W nx a b v sw lv (.int x :: r) σ = (if 0 ≤ x then W a lv r σ else W nx lv r σ) := r_ifge.trans if_imp
theorem ri_ifgt {cal : mCal} {X : mX} {cap : Nat × Nat} {Q : mPost} {W : mWt} {nx a b : Nat} {v : Value} {sw : List (Int32 × Nat)} {lv r : List Value} {σ : mS} {x : Int32} : o_ifgt cal X cap Q W nx a b v sw lv (.int x :: r) σ = (if 0 < x then W a lv r σ else W nx lv r σ) := r_ifgt.trans if_imp
theorem ri_ifle {cal : mCal} {X : mX} {cap : Nat × Nat} {Q : mPost} {W : mWt} {nx a b : Nat} {v : Value} {sw : List (Int32 × Nat)} {lv r : List Value} {σ : mS} {x : Int32} : o_ifle cal X cap Q W nx a b v sw lv (.int x :: r) σ = (if x ≤ 0 then W a lv r σ else W nx lv r σ) := r_ifle.trans if_imp
theorem ri_iceq {cal : mCal} {X : mX} {cap : Nat × Nat} {Q : mPost} {W : mWt} {nx a b : Nat} {v : Value} {sw : List (Int32 × Nat)} {lv r : List Value} {σ : mS} {x y : Int32} : o_iceq cal X cap Q W nx a b v sw lv (.int y :: .int x :: r) σ = (if x = y then W a lv r σ else W nx lv r σ) := r_iceq.trans if_imp
theorem ri_icne {cal : mCal} {X : mX} {cap : Nat × Nat} {Q : mPost} {W : mWt} {nx a b : Nat} {v : Value} {sw : List (Int32 × Nat)} {lv r : List Value} {σ : mS} {x y : Int32} : o_icne cal X cap Q W nx a b v sw lv (.int y :: .int x :: r) σ = (if x = y then W nx lv r σ else W a lv r σ) := r_icne.trans if_imp
theorem ri_iclt {cal : mCal} {X : mX} {cap : Nat × Nat} {Q : mPost} {W : mWt} {nx a b : Nat} {v : Value} {sw : List (Int32 × Nat)} {lv r : List Value} {σ : mS} {x y : Int32} : o_iclt cal X cap Q W nx a b v sw lv (.int y :: .int x :: r) σ = (if x < y then W a lv r σ else W nx lv r σ) := r_iclt.trans if_imp
theorem ri_icge {cal : mCal} {X : mX} {cap : Nat × Nat} {Q : mPost} {W : mWt} {nx a b : Nat} {v : Value} {sw : List (Int32 × Nat)} {lv r : List Value} {σ : mS} {x y : Int32} : o_icge cal X cap Q W nx a b v sw lv (.int y :: .int x :: r) σ = (if y ≤ x then W a lv r σ else W nx lv r σ) := r_icge.trans if_imp
theorem ri_icgt {cal : mCal} {X : mX} {cap : Nat × Nat} {Q : mPost} {W : mWt} {nx a b : Nat} {v : Value} {sw : List (Int32 × Nat)} {lv r : List Value} {σ : mS} {x y : Int32} : o_icgt cal X cap Q W nx a b v sw lv (.int y :: .int x :: r) σ = (if y < x then W a lv r σ else W nx lv r σ) := r_icgt.trans if_imp
theorem ri_icle {cal : mCal} {X : mX} {cap : Nat × Nat} {Q : mPost} {W : mWt} {nx a b : Nat} {v : Value} {sw : List (Int32 × Nat)} {lv r : List Value} {σ : mS} {x y : Int32} : o_icle cal X cap Q W nx a b v sw lv (.int y :: .int x :: r) σ = (if x ≤ y then W a lv r σ else W nx lv r σ) := r_icle.trans if_imp
theorem aF_ef {A : Nat → Nat → Nat} {c : Nat} {g : Nat → Nat} : aF A c g c = g := funext fun _ => if_pos rfl
theorem aF_nf {A : Nat → Nat → Nat} {c : Nat} {g : Nat → Nat} {k : Nat} (h : k ≠ c) : aF A c g k = A k := funext fun _ => if_neg h
theorem aF_sw {A : Nat → Nat → Nat} {c d : Nat} {g g2 : Nat → Nat} (h : c ≠ d) : aF (aF A c g) d g2 = aF (aF A d g2) c g := by
  funext k j
  unfold aF
  by_cases h1 : k = d
  · by_cases h2 : k = c
    · omega
    · rw [if_pos h1, if_neg h2, if_pos h1]
  · by_cases h2 : k = c
    · rw [if_neg h1, if_pos h2, if_pos h2]
    · rw [if_neg h1, if_neg h2, if_neg h2, if_neg h1]
theorem aF_U2 {A : Nat → Nat → Nat} {c d i x : Nat} {g g2 : Nat → Nat} (h : c ≠ d) : aU (aF (aF A c g) d g2) c i x = aF (aF A c (fun j => if j = i then x else g j)) d g2 := by
  rw [aF_sw h, aF_U, aF_sw (fun z => h z.symm)]
theorem aF_U3 {A : Nat → Nat → Nat} {c d i x : Nat} {g2 : Nat → Nat} (h : c ≠ d) : aU (aF A d g2) c i x = aF (aU A c i x) d g2 := by
  rw [aU_aF, aF_nf h, aF_sw (fun z => h z.symm), ← aU_aF]
theorem lp_up2 {g h : Nat → Nat} {q k v : Nat} (hv : v = g (q + k)) : (fun j => if j = q + k then v else if q ≤ j ∧ j < q + k then g j else h j) = (fun j => if q ≤ j ∧ j < q + (k + 1) then g j else h j) := by
  funext j
  by_cases h1 : j = q + k
  · rw [if_pos h1, if_pos (by omega), h1, hv]
  · rw [if_neg h1]
    by_cases h2 : q ≤ j ∧ j < q + k
    · rw [if_pos h2, if_pos (by omega)]
    · rw [if_neg h2, if_neg (by omega)]
theorem tN_dec {k : Nat} (h : 1 ≤ k) : tN (k + 4294967295) = tN (k - 1) := by
  rw [show k + 4294967295 = (k - 1) + 4294967296 by omega, tN_per]
theorem tN_dec8 {k : Nat} (h : 8 ≤ k) : tN (k + 4294967288) = tN (k - 8) := by
  rw [show k + 4294967288 = (k - 8) + 4294967296 by omega, tN_per]
