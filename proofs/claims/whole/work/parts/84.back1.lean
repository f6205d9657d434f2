set_option maxRecDepth 20000
set_option maxHeartbeats 4000000
/-! CLASS: seats given back -/
def gbW (A : Nat → Nat → Nat) (h f r K : Nat → Nat) : Nat → Nat → Nat := fun c i => if c = 14 then h i else if c = 12 then f i else if c = 16 then r i else if c = 37 then K i else A c i
section
variable {A : Nat → Nat → Nat} {h f r K : Nat → Nat}
theorem gb_14 : gbW A h f r K 14 = h := rfl
theorem gb_12 : gbW A h f r K 12 = f := rfl
theorem gb_16 : gbW A h f r K 16 = r := rfl
theorem gb_37 : gbW A h f r K 37 = K := rfl
theorem gb_o {c : Nat} (h1 : c ≠ 14 ∧ c ≠ 12 ∧ c ≠ 16 ∧ c ≠ 37) : gbW A h f r K c = A c := by
  funext i
  unfold gbW
  rw [if_neg h1.1, if_neg h1.2.1, if_neg h1.2.2.1, if_neg h1.2.2.2]
theorem gw_14 {i v : Nat} : aU (gbW A h f r K) 14 i v = gbW A (up h i v) f r K := by
  rw [aU_aF]
  funext c j
  unfold aF gbW up
  by_cases e : c = 14
  · simp only [e, if_true]
  · simp only [e, if_false]
theorem gw_12 {i v : Nat} : aU (gbW A h f r K) 12 i v = gbW A h (up f i v) r K := by
  rw [aU_aF]
  funext c j
  unfold aF gbW up
  by_cases e : c = 12
  · simp only [e, if_true, show ¬ (12 : Nat) = 14 by decide, if_false]
  · simp only [e, if_false]
theorem gw_16 {i v : Nat} : aU (gbW A h f r K) 16 i v = gbW A h f (up r i v) K := by
  rw [aU_aF]
  funext c j
  unfold aF gbW up
  by_cases e : c = 16
  · simp only [e, if_true, show ¬ (16 : Nat) = 14 by decide, show ¬ (16 : Nat) = 12 by decide, if_false]
  · simp only [e, if_false]
theorem gf_37 {g : Nat → Nat} : aF (gbW A h f r K) 37 g = gbW A h f r g := by
  funext c j
  unfold aF gbW
  by_cases e : c = 37
  · simp only [e, if_true, show ¬ (37 : Nat) = 14 by decide, show ¬ (37 : Nat) = 12 by decide, show ¬ (37 : Nat) = 16 by decide, if_false]
  · simp only [e, if_false]
theorem gb_id : gbW A (A 14) (A 12) (A 16) (A 37) = A := by
  funext c i
  unfold gbW
  by_cases e1 : c = 14
  · rw [if_pos e1, e1]
  rw [if_neg e1]
  by_cases e2 : c = 12
  · rw [if_pos e2, e2]
  rw [if_neg e2]
  by_cases e3 : c = 16
  · rw [if_pos e3, e3]
  rw [if_neg e3]
  by_cases e4 : c = 37
  · rw [if_pos e4, e4]
  rw [if_neg e4]
end
def pctC (A : Nat → Nat → Nat) (d p s r b : Nat) : Nat := pfA (fun k => ahU (fun i => tsb (kn5 d p s r b (fun _ => 0) (A 33 (4 * k + i))) (A 34 (4 * k + i)) (A 35 (4 * k + i)) (A 36 (4 * k + i))) (A 32 k)) (A 31) 0 (A 30 0)
theorem kn5_cg {d p s r b j : Nat} {K K2 : Nat → Nat} (h : j < 5) : kn5 d p s r b K j = kn5 d p s r b K2 j := by
  unfold kn5
  have : j = 0 ∨ j = 1 ∨ j = 2 ∨ j = 3 ∨ j = 4 := by omega
  rcases this with rfl | rfl | rfl | rfl | rfl <;> rfl
theorem pfA_le {g : Nat → Bool} {pc : Nat → Nat} : ∀ m k, (∀ i, k ≤ i → i < k + m → pc i ≤ 100) → pfA g pc k m ≤ 100
  | 0, _, _ => Nat.le_refl _
  | m + 1, k, h => by
    unfold pfA
    split
    · exact h k (by omega) (by omega)
    · exact pfA_le m (k + 1) (fun i h1 h2 => h i (by omega) (by omega))
theorem pctC_le {A : Nat → Nat → Nat} {d p s r b : Nat} (ok : okT A) : pctC A d p s r b ≤ 100 := pfA_le _ _ (fun i _ hi => (ok.2 i (by omega)).1)
section
variable (A : Nat → Nat → Nat) (a n : Nat)
/-- the place given back as number g -/
def gbp (g : Nat) : Nat := A (18 + a) (A 14 a - 1 - g)
def gbF : Nat → Nat → Nat
  | 0 => A 12
  | g + 1 => up (gbF g) (gbp A a g / 100) (gbF g (gbp A a g / 100) ||| 1 <<< (gbp A a g % 100))
def gbR : Nat → Nat
  | 0 => A 16 a
  | g + 1 => gbR g + A 4 (gbp A a g / 100) * pctC A (A 10 1) (A 4 (gbp A a g / 100)) (A 6 a) (gbp A a g / 100) n / 100
end
theorem gbF_lt {A : Nat → Nat → Nat} {a : Nat} (h : ∀ r, r < 6 → A 12 r < 4096) (hp : ∀ k, k < A 14 a → A (18 + a) k % 100 < 12) : ∀ g, g ≤ A 14 a → ∀ r, r < 6 → gbF A a g r < 4096
  | 0, _ => h
  | g + 1, hg => by
    intro r hr
    have ih := gbF_lt h hp g (by omega)
    show up (gbF A a g) _ _ r < 4096
    unfold up
    split
    · next e => rw [← e]; exact or_lt (ih r hr) (hp _ (by omega))
    · exact ih r hr
theorem l_94 {X : mX} {D : Nat} {cap : Nat × Nat} {G : mG} {A : Nat → Nat → Nat} {a n : Nat} (hD : 3 ≤ D) (ok : okT A) (ha : a < 12) (hn : n ≤ A 14 a) (h6 : A 14 a ≤ 6) (ht : ∀ k, k < A 14 a → A (18 + a) k < 600 ∧ A (18 + a) k % 100 < 12) (hp : ∀ r, r < 6 → (∃ k, k < A 14 a ∧ A (18 + a) k / 100 = r) → A 4 r ≤ 999) (hd : A 10 1 ≤ 30) (hs : A 6 a ≤ 6) : ∀ m g K u5 u6 u7 u8, g + m = n → mOk u5 = true → mOk u6 = true → mOk u7 = true → mOk u8 = true → ∃ K' : Nat → Nat, ∀ P, mW (mCall X D) X cap 94 P 3 [.ref 10, .ref 1, .int (tN a), .int (tN n), .int (tN g), u5, u6, u7, u8] [] (mN (gbW A (up (A 14) a (A 14 a - g)) (gbF A a g) (up (A 16) a (gbR A a n g)) K), RF, G, mSh) = P none (mN (gbW A (up (A 14) a (A 14 a - n)) (gbF A a n) (up (A 16) a (gbR A a n n)) K'), RF, G, mSh) := by
  obtain ⟨w1, w2⟩ := tc_kd (f := 18 + a) (by omega)
  intro m
  induction m with
  | zero =>
    intro g K u5 u6 u7 u8 e g5 g6 g7 g8
    obtain rfl : g = n := by omega
    refine ⟨K, fun P => ?_⟩
    rw [kh_94_3]
    simp (disch := first | omega | assumption | exact mOk_int | exact mOk_null | exact mOk_ref | (simp (disch := omega) only [aF_ef, aF_nf, aU_ne, aU_eq, aU_ne2]; first | done | omega | assumption)) only [k_94_0, k_94_1, r_push, is_4, il_4, il_3, ri_icge, al_0, gq_0, gq_1, gq_2, gq_3, gq_4, il_2, q_iald, ri_ifle, r_dup2, r_isub, q_iast, ar_17, ar_57, ar_96, ar_135, ar_164, ar_40_0, ar_40_1, ar_40_2, is_5, il_5, r_idiv, is_6, al_1, il_6, is_7, q_getI, il_7, q_callV5, is_8, r_irem, r_ishl, r_ior, il_8, r_imul, r_iadd, ii_4, r_goto, r_vret, kd_0, kd_1, kd_2, kd_3, kd_4, kd_5, ln_0, ln_1, ln_2, ln_3, ln_4, ln_5, Option.some.injEq, Value.int.injEq, Value.ref.injEq, Value.long.injEq, Prod.mk.injEq, exists_eq_left', exists_eq_left, true_and, and_true, mLk, Option.any_some, mC1, Value.category, Option.toList_some, Option.toList_none, List.nil_append, List.cons_append, List.length_cons, List.length_nil, ne_eq, Nat.reduceEqDiff, not_false_eq_true, reduceCtorEq, exists_and_left, exists_and_right, Nat.reduceLeDiff, Nat.reduceAdd, and_self, exists_eq, exists_eq_right, exists_const, eq_self, exists_eq', not_true_eq_false, false_implies, true_implies, implies_true, forall_const, or_true, true_or, false_or, or_false, and_false, false_and, if_true, if_false, ite_true, ite_false, mB, mOk_int, mOk_ref, mOk_null, mOk_long, Nat.reduceLT, Nat.reduceSub, Nat.reduceMul, Nat.reduceDiv, Nat.reduceMod, Classical.not_not, ↓reduceIte, Nat.zero_add, Nat.add_zero, Nat.add_sub_cancel, Bool.false_eq_true, tN_l, tN_m1, tN_n1, tN_n8, tN_dec, tN_dec8, aF_ef, aF_nf, aF_U, tN_lt, tN_le, tN_inj, tN_add, tN_mul, tN_sub, tN_and, tN_or, tN_xor, tN_and31, tN_clamp, tN_in, tN_div, nm_rem, tN_shl, tN_shr, tN_b2, nd_lt, nd_nlt, nd_le, nd_nle, nd_eq, nd_ne, mN_at, mN_U, aU_ne, aU_eq, aU_ne2]
  | succ m ih =>
    intro g K u5 u6 u7 u8 e g5 g6 g7 g8
    obtain ⟨t1, t2⟩ := ht (A 14 a - 1 - g) (by omega)
    have hp1 := hp (gbp A a g / 100) (by unfold gbp; omega) ⟨A 14 a - 1 - g, by omega, rfl⟩
    have tp1 : gbp A a g < 600 := t1
    have tp2 : gbp A a g % 100 < 12 := t2
    have e95 := fun B (okB : okT B) P' => c_95 (X := X) (D := D) (P := P') (G := G) (A := B) (d := A 10 1) (p := A 4 (gbp A a g / 100)) (s := A 6 a) (r := gbp A a g / 100) (b := n) hD okB (by omega) (by omega) (by omega) (by omega) (by omega)
    have okB : okT (gbW A (up (A 14) a (A 14 a - 1 - g)) (gbF A a g) (up (A 16) a (gbR A a n g)) K) := by
      unfold okT at *
      simp (disch := omega) only [gb_o]
      exact ok
    have e95 := fun P' => e95 _ okB P'
    rw [gf_37, gb_37] at e95
    simp (disch := omega) only [gb_o] at e95
    have epc : pfA (fun k => ahU (tfC (gbW A (up (A 14) a (A 14 a - 1 - g)) (gbF A a g) (up (A 16) a (gbR A a n g)) (kn5 (A 10 1) (A 4 (gbp A a g / 100)) (A 6 a) (gbp A a g / 100) n K)) k) (A 32 k)) (A 31) 0 (A 30 0) = pctC A (A 10 1) (A 4 (gbp A a g / 100)) (A 6 a) (gbp A a g / 100) n := by
      unfold pctC
      refine pfA_cg _ _ (fun k _ hk => ⟨ahU_cg _ (fun i hi => ?_), rfl⟩)
      have hk : k < A 30 0 := by omega
      obtain ⟨s1, s2, s3⟩ := ok.2 k hk
      have s4 := (s3 i hi).1
      unfold tfC
      rw [gb_37]
      simp (disch := omega) only [gb_o]
      rw [kn5_cg s4]
    rw [epc] at e95
    have hpl := pctC_le (d := A 10 1) (p := A 4 (gbp A a g / 100)) (s := A 6 a) (r := gbp A a g / 100) (b := n) ok
    have hpm : A 4 (gbp A a g / 100) * pctC A (A 10 1) (A 4 (gbp A a g / 100)) (A 6 a) (gbp A a g / 100) n ≤ 999 * 100 := Nat.mul_le_mul hp1 hpl
    obtain ⟨K', ih'⟩ := ih (g + 1) (kn5 (A 10 1) (A 4 (gbp A a g / 100)) (A 6 a) (gbp A a g / 100) n K) (.int (tN (gbp A a g))) (.int (tN (gbp A a g / 100))) (.int (tN (A 4 (gbp A a g / 100)))) (.int (tN (pctC A (A 10 1) (A 4 (gbp A a g / 100)) (A 6 a) (gbp A a g / 100) n))) (by omega) mOk_int mOk_int mOk_int mOk_int
    refine ⟨K', fun P => ?_⟩
    have ih'' := ih' P
    have es : A 14 a - (g + 1) = A 14 a - 1 - g := by omega
    have eg : gbR A a n (g + 1) = gbR A a n g + A 4 (gbp A a g / 100) * pctC A (A 10 1) (A 4 (gbp A a g / 100)) (A 6 a) (gbp A a g / 100) n / 100 := rfl
    have ef : gbF A a (g + 1) = up (gbF A a g) (gbp A a g / 100) (gbF A a g (gbp A a g / 100) ||| 1 <<< (gbp A a g % 100)) := rfl
    rw [es, eg, ef] at ih''
    have hgb : A (18 + a) (A 14 a - 1 - g) = gbp A a g := rfl
    have es2 : A 14 a - g - 1 = A 14 a - 1 - g := by omega
    rw [kh_94_3]
    generalize pctC A (A 10 1) (A 4 (gbp A a g / 100)) (A 6 a) (gbp A a g / 100) n = pc at *
    generalize gbp A a g = p at *
    generalize gbR A a n g = rr at *
    generalize gbF A a g = ff at *
    simp (disch := first | omega | assumption | exact mOk_int | exact mOk_null | exact mOk_ref | (simp (disch := omega) only [aF_ef, aF_nf, aU_ne, aU_eq, aU_ne2]; first | done | omega | assumption)) only [k_94_0, k_94_1, r_push, is_4, il_4, il_3, ri_icge, al_0, gq_0, gq_1, gq_2, gq_3, gq_4, il_2, q_iald, ri_ifle, r_dup2, r_isub, q_iast, ar_17, ar_57, ar_96, ar_135, ar_164, ar_40_0, ar_40_1, ar_40_2, is_5, il_5, r_idiv, is_6, al_1, il_6, is_7, q_getI, il_7, q_callV5, is_8, r_irem, r_ishl, r_ior, il_8, r_imul, r_iadd, ii_4, r_goto, r_vret, kd_0, kd_1, kd_2, kd_3, kd_4, kd_5, ln_0, ln_1, ln_2, ln_3, ln_4, ln_5, Option.some.injEq, Value.int.injEq, Value.ref.injEq, Value.long.injEq, Prod.mk.injEq, exists_eq_left', exists_eq_left, true_and, and_true, mLk, Option.any_some, mC1, Value.category, Option.toList_some, Option.toList_none, List.nil_append, List.cons_append, List.length_cons, List.length_nil, ne_eq, Nat.reduceEqDiff, not_false_eq_true, reduceCtorEq, exists_and_left, exists_and_right, Nat.reduceLeDiff, Nat.reduceAdd, and_self, exists_eq, exists_eq_right, exists_const, eq_self, exists_eq', not_true_eq_false, false_implies, true_implies, implies_true, forall_const, or_true, true_or, false_or, or_false, and_false, false_and, if_true, if_false, ite_true, ite_false, mB, mOk_int, mOk_ref, mOk_null, mOk_long, Nat.reduceLT, Nat.reduceSub, Nat.reduceMul, Nat.reduceDiv, Nat.reduceMod, Classical.not_not, ↓reduceIte, Nat.zero_add, Nat.add_zero, Nat.add_sub_cancel, Bool.false_eq_true, tN_l, tN_m1, tN_n1, tN_n8, tN_dec, tN_dec8, aF_ef, aF_nf, aF_U, tN_lt, tN_le, tN_inj, tN_add, tN_mul, tN_sub, tN_and, tN_or, tN_xor, tN_and31, tN_clamp, tN_in, tN_div, nm_rem, tN_shl, tN_shr, tN_b2, nd_lt, nd_nlt, nd_le, nd_nle, nd_eq, nd_ne, mN_at, mN_U, aU_ne, aU_eq, aU_ne2, gb_14, gb_12, gb_16, gb_o, gw_14, gw_12, gw_16, up_eq, up_up, es2, hgb, w1, w2, e95, nm_rem1]
    exact ih''
theorem c_94 {X : mX} {D : Nat} {G : mG} {A : Nat → Nat → Nat} {a n : Nat} (hD : 4 ≤ D) (ok : okT A) (ha : a < 12) (hn : n ≤ A 14 a) (h6 : A 14 a ≤ 6) (ht : ∀ k, k < A 14 a → A (18 + a) k < 600 ∧ A (18 + a) k % 100 < 12) (hp : ∀ r, r < 6 → (∃ k, k < A 14 a ∧ A (18 + a) k / 100 = r) → A 4 r ≤ 999) (hd : A 10 1 ≤ 30) (hs : A 6 a ≤ 6) : ∃ K' : Nat → Nat, ∀ P, mCall X D 94 [.ref 10, .ref 1, .int (tN a), .int (tN n)] (mN A, RF, G, mSh) P = P none (mN (gbW A (up (A 14) a (A 14 a - n)) (gbF A a n) (up (A 16) a (gbR A a n n)) K'), RF, G, mSh) := by
  obtain ⟨K', l⟩ := l_94 (X := X) (D := D - 1) (cap := (mSh.length + (mAl 94).fst, mSum mSh + (mAl 94).snd)) (G := G) (A := A) (a := a) (n := n) (by omega) ok ha hn h6 ht hp hd hs n 0 (A 37) .null .null .null .null (by omega) mOk_null mOk_null mOk_null mOk_null
  refine ⟨K', fun P => ?_⟩
  have l2 := l P
  rw [show up (A 14) a (A 14 a - 0) = A 14 from up_id, show gbF A a 0 = A 12 from rfl, show up (A 16) a (gbR A a n 0) = A 16 from up_id, gb_id] at l2
  rw [e_94 (by omega)]
  simp (disch := first | omega | assumption | exact mOk_int | exact mOk_null | exact mOk_ref | (simp (disch := omega) only [aF_ef, aF_nf, aU_ne, aU_eq, aU_ne2]; first | done | omega | assumption)) only [k_94_0, k_94_1, r_push, is_4, il_4, il_3, ri_icge, al_0, gq_0, gq_1, gq_2, gq_3, gq_4, il_2, q_iald, ri_ifle, r_dup2, r_isub, q_iast, ar_17, ar_57, ar_96, ar_135, ar_164, ar_40_0, ar_40_1, ar_40_2, is_5, il_5, r_idiv, is_6, al_1, il_6, is_7, q_getI, il_7, q_callV5, is_8, r_irem, r_ishl, r_ior, il_8, r_imul, r_iadd, ii_4, r_goto, r_vret, kd_0, kd_1, kd_2, kd_3, kd_4, kd_5, ln_0, ln_1, ln_2, ln_3, ln_4, ln_5, Option.some.injEq, Value.int.injEq, Value.ref.injEq, Value.long.injEq, Prod.mk.injEq, exists_eq_left', exists_eq_left, true_and, and_true, mLk, Option.any_some, mC1, Value.category, Option.toList_some, Option.toList_none, List.nil_append, List.cons_append, List.length_cons, List.length_nil, ne_eq, Nat.reduceEqDiff, not_false_eq_true, reduceCtorEq, exists_and_left, exists_and_right, Nat.reduceLeDiff, Nat.reduceAdd, and_self, exists_eq, exists_eq_right, exists_const, eq_self, exists_eq', not_true_eq_false, false_implies, true_implies, implies_true, forall_const, or_true, true_or, false_or, or_false, and_false, false_and, if_true, if_false, ite_true, ite_false, mB, mOk_int, mOk_ref, mOk_null, mOk_long, Nat.reduceLT, Nat.reduceSub, Nat.reduceMul, Nat.reduceDiv, Nat.reduceMod, Classical.not_not, ↓reduceIte, Nat.zero_add, Nat.add_zero, Nat.add_sub_cancel, Bool.false_eq_true, tN_l, tN_m1, tN_n1, tN_n8, tN_dec, tN_dec8, aF_ef, aF_nf, aF_U, tN_lt, tN_le, tN_inj, tN_add, tN_mul, tN_sub, tN_and, tN_or, tN_xor, tN_and31, tN_clamp, tN_in, tN_div, nm_rem, tN_shl, tN_shr, tN_b2, nd_lt, nd_nlt, nd_le, nd_nle, nd_eq, nd_ne, mN_at, mN_U, aU_ne, aU_eq, aU_ne2]
  exact l2
