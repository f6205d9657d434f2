set_option maxRecDepth 20000
set_option maxHeartbeats 4000000
/-! ORDERS: the model's way to a row of turns -/
def cu (u : Nat) : Nat → Nat
  | 0 => 0
  | b + 1 => cu u b + (if u.testBit b = true then 0 else 1)
theorem cu_mono {u a : Nat} : ∀ b, a ≤ b → cu u a ≤ cu u b := by
  intro b
  induction b with
  | zero =>
    intro h
    obtain rfl : a = 0 := by omega
    exact Nat.le_refl _
  | succ b ih =>
    intro h
    by_cases e : a = b + 1
    · rw [e]; exact Nat.le_refl _
    · have := ih (by omega)
      show cu u a ≤ cu u b + _
      omega
theorem cu_skip {u a : Nat} : ∀ b, a ≤ b → (∀ c, a ≤ c → c < b → u.testBit c = true) → cu u b = cu u a := by
  intro b
  induction b with
  | zero =>
    intro h _
    obtain rfl : a = 0 := by omega
    rfl
  | succ b ih =>
    intro h hc
    by_cases e : a = b + 1
    · rw [e]
    · have h1 := ih (by omega) (fun c x y => hc c x (by omega))
      have h2 := hc b (by omega) (by omega)
      show cu u b + _ = _
      rw [if_pos h2, h1]
      rfl
def PI (n k : Nat) (O : Nat → Nat) (u : Nat) : Prop := (∀ i j, k ≤ i → i < j → j < n → O i < O j) ∧ (∀ b, b < n → (u.testBit b = false ↔ ∃ i, k ≤ i ∧ i < n ∧ O i = b)) ∧ (∀ i, i < n → O i < n) ∧ (∀ i, i < k → u.testBit (O i) = true) ∧ (∀ i j, i < j → j < k → O i ≠ O j)
theorem PI_cu {n k u : Nat} {O : Nat → Nat} (h : PI n k O u) : ∀ q, k + q < n → cu u (O (k + q)) = q := by
  obtain ⟨p1, p2, p3, p4, p5⟩ := h
  intro q
  induction q with
  | zero =>
    intro hq
    refine cu_skip (a := 0) (O (k + 0)) (Nat.zero_le _) (fun c _ hc => ?_)
    by_cases e : u.testBit c = true
    · exact e
    · obtain ⟨i, i1, i2, i3⟩ := (p2 c (Nat.lt_trans hc (p3 _ hq))).mp (by simpa using e)
      by_cases e2 : i = k
      · subst e2; exact absurd i3 (by rw [Nat.add_zero] at hc; omega)
      · have := p1 (k + 0) i (by omega) (by omega) i2
        omega
  | succ q ih =>
    intro hq
    have ih := ih (by omega)
    have lt := p1 (k + q) (k + (q + 1)) (by omega) (by omega) hq
    have h1 : cu u (O (k + (q + 1))) = cu u (O (k + q) + 1) := by
      refine cu_skip _ lt (fun c c1 c2 => ?_)
      by_cases e : u.testBit c = true
      · exact e
      · obtain ⟨i, i1, i2, i3⟩ := (p2 c (Nat.lt_trans c2 (p3 _ hq))).mp (by simpa using e)
        by_cases e2 : i ≤ k + q
        · by_cases e3 : i = k + q
          · rw [e3] at i3; omega
          · have := p1 i (k + q) i1 (by omega) (by omega)
            omega
        · by_cases e3 : i = k + (q + 1)
          · rw [e3] at i3; omega
          · have := p1 (k + (q + 1)) i (by omega) (by omega) i2
            omega
    have h2 : u.testBit (O (k + q)) = false := (p2 _ (p3 _ (by omega))).mpr ⟨k + q, by omega, by omega, rfl⟩
    rw [h1]
    unfold cu
    rw [h2, if_neg (by decide), ih]
theorem or_bit {u a b : Nat} : (u ||| 1 <<< a).testBit b = (u.testBit b || decide (a = b)) := by
  rw [Nat.testBit_or, Nat.one_shiftLeft, Nat.testBit_two_pow]
theorem PI_step {n k u q : Nat} {O : Nat → Nat} (hq : k + q < n) (h : PI n k O u) : PI n (k + 1) (mvD O (k + q) k) (u ||| 1 <<< O (k + q)) := by
  have hinj : ∀ i j, k ≤ i → i < n → k ≤ j → j < n → O i = O j → i = j := by
    intro i j i1 i2 j1 j2 e
    by_cases c : i < j
    · have := h.1 i j i1 c j2; omega
    · by_cases c2 : j < i
      · have := h.1 j i j1 c2 i2; omega
      · omega
  obtain ⟨p1, p2, p3, p4, p5⟩ := h
  have hu : u.testBit (O (k + q)) = false := (p2 _ (p3 _ (by omega))).mpr ⟨k + q, by omega, by omega, rfl⟩
  have mA : ∀ i, i < k → mvD O (k + q) k i = O i := fun i hi => by
    unfold mvD
    rw [if_neg (by omega), if_neg (by omega)]
  have mB' : mvD O (k + q) k k = O (k + q) := by
    unfold mvD
    rw [if_pos rfl]
  have mC : ∀ i, k < i → i ≤ k + q → mvD O (k + q) k i = O (i - 1) := fun i h1 h2 => by
    unfold mvD
    rw [if_neg (by omega), if_pos ⟨h1, h2⟩]
  have mD : ∀ i, k + q < i → mvD O (k + q) k i = O i := fun i h1 => by
    unfold mvD
    rw [if_neg (by omega), if_neg (by omega)]
  refine ⟨?_, ?_, ?_, ?_, ?_⟩
  · intro i j h1 h2 h3
    by_cases c1 : j ≤ k + q
    · rw [mC i (by omega) (by omega), mC j (by omega) c1]
      exact p1 _ _ (by omega) (by omega) (by omega)
    · rw [mD j (by omega)]
      by_cases c2 : i ≤ k + q
      · rw [mC i (by omega) c2]
        exact p1 _ _ (by omega) (by omega) (by omega)
      · rw [mD i (by omega)]
        exact p1 _ _ (by omega) (by omega) (by omega)
  · intro b hb
    rw [or_bit, Bool.or_eq_false_iff, decide_eq_false_iff_not, p2 b hb]
    constructor
    · rintro ⟨⟨i, i1, i2, i3⟩, z⟩
      by_cases c1 : i < k + q
      · exact ⟨i + 1, by omega, by omega, by rw [mC (i + 1) (by omega) (by omega), Nat.add_sub_cancel]; exact i3⟩
      · have c2 : i ≠ k + q := fun y => z (by rw [← y]; exact i3)
        exact ⟨i, by omega, i2, by rw [mD i (by omega)]; exact i3⟩
    · rintro ⟨i, i1, i2, i3⟩
      by_cases c1 : i ≤ k + q
      · rw [mC i (by omega) c1] at i3
        refine ⟨⟨i - 1, by omega, by omega, i3⟩, fun z => ?_⟩
        have := hinj (k + q) (i - 1) (by omega) (by omega) (by omega) (by omega) (by rw [z, i3])
        omega
      · rw [mD i (by omega)] at i3
        refine ⟨⟨i, by omega, i2, i3⟩, fun z => ?_⟩
        have := hinj (k + q) i (by omega) (by omega) (by omega) (by omega) (by rw [z, i3])
        omega
  · intro i hi
    by_cases c1 : i < k
    · rw [mA i c1]; exact p3 i hi
    · by_cases c2 : i = k
      · rw [c2, mB']; exact p3 _ hq
      · by_cases c3 : i ≤ k + q
        · rw [mC i (by omega) c3]; exact p3 _ (by omega)
        · rw [mD i (by omega)]; exact p3 i hi
  · intro i hi
    rw [or_bit]
    by_cases c1 : i < k
    · rw [mA i c1, p4 i c1, Bool.true_or]
    · rw [show i = k by omega, mB', decide_eq_true rfl, Bool.or_true]
  · intro i j h1 h2
    rw [mA i (by omega)]
    by_cases c1 : j < k
    · rw [mA j c1]; exact p5 i j h1 c1
    · rw [show j = k by omega, mB']
      intro z
      have := p4 i (by omega)
      rw [z, hu] at this
      cases this
theorem PI_0 {n : Nat} {O : Nat → Nat} : PI n 0 (idO n O) 0 := by
  have e : ∀ i, i < n → idO n O i = i := fun i hi => if_pos hi
  refine ⟨fun i j _ h1 h2 => ?_, fun b hb => ?_, fun i hi => ?_, fun i hi => absurd hi (by omega), fun i j _ hj => absurd hj (by omega)⟩
  · rw [e i (by omega), e j h2]; exact h1
  · rw [Nat.zero_testBit]
    exact ⟨fun _ => ⟨b, by omega, hb, e b hb⟩, fun _ => rfl⟩
  · rw [e i hi]; exact hi
/-- the numbers had so far -/
def usd (O : Nat → Nat) : Nat → Nat
  | 0 => 0
  | k + 1 => usd O k ||| 1 <<< O k
theorem drS_st {O : Nat → Nat} {n t i : Nat} : ∀ m k, i < k → (drS O n t (k + m)).1 i = (drS O n t k).1 i
  | 0, _, _ => rfl
  | m + 1, k, h => by
    show mvD (drS O n t (k + m)).1 _ (k + m) i = _
    unfold mvD
    rw [if_neg (by omega), if_neg (by omega)]
    exact drS_st m k h
theorem usd_cg {O O2 : Nat → Nat} : ∀ k, (∀ i, i < k → O i = O2 i) → usd O k = usd O2 k
  | 0, _ => rfl
  | k + 1, h => by
    unfold usd
    rw [usd_cg k (fun i hi => h i (by omega)), h k (by omega)]
theorem drS_PI {O : Nat → Nat} {n t : Nat} (ht : t < fac n) : ∀ k, k ≤ n → PI n k (drS (idO n O) n t k).1 (usd (drS (idO n O) n t k).1 k)
  | 0, _ => PI_0
  | k + 1, hk => by
    have ih := drS_PI (O := O) ht k (by omega)
    have hq := drS_q (O := idO n O) ht (show k < n by omega)
    have := PI_step (q := (drS (idO n O) n t k).2 / fac (n - 1 - k)) (by omega) ih
    have e : usd (drS (idO n O) n t (k + 1)).1 (k + 1) = usd (drS (idO n O) n t k).1 k ||| 1 <<< (drS (idO n O) n t k).1 (k + (drS (idO n O) n t k).2 / fac (n - 1 - k)) := by
      show usd _ k ||| 1 <<< mvD (drS (idO n O) n t k).1 _ k k = _
      rw [usd_cg (O2 := (drS (idO n O) n t k).1) k (fun i hi => drS_st 1 k hi)]
      unfold mvD
      rw [if_pos rfl]
    rw [e]
    exact this
theorem usd_lt {O : Nat → Nat} {k n : Nat} (hn : n ≤ 12) (h : ∀ i, i < k → O i < n) : usd O k < 4096 := by
  induction k with
  | zero => exact (by decide : 0 < 4096)
  | succ k ih => exact or_lt (ih (fun i hi => h i (by omega))) (Nat.lt_of_lt_of_le (h k (by omega)) hn)
theorem ml_129b {X : mX} {D : Nat} {cap : Nat × Nat} {P : mPost} {G : mG} {A : Nat → Nat → Nat} {t n rs u k un pl x : Nat} (hu : u < 4096) (hx : x < 12) (hk : k < 12) (h1 : u.testBit x = false) (h2 : cu u x = pl) : ∀ m a, a + m = x → mW (mCall X D) X cap 129 P 50 [.ref 185, .int (tN t), .int (tN n), .int (tN rs), .int (tN u), .int (tN k), .int (tN un), .int (tN pl), .int (tN a), .int (tN (pl - cu u a))] [] (mN A, RF, G, mSh) = mW (mCall X D) X cap 129 P 15 [.ref 185, .int (tN t), .int (tN n), .int (tN rs), .int (tN (u ||| 1 <<< x)), .int (tN (k + 1)), .int (tN un), .int (tN pl), .int (tN x), .int (tN 0)] [] (mN (aU A 214 k x), RF, G, mSh) := by
  have hpl : pl ≤ 12 := by
    have : ∀ b, cu u b ≤ b := by
      intro b
      induction b with
      | zero => exact Nat.le_refl _
      | succ b ih => unfold cu; split <;> omega
    have := this x
    omega
  intro m
  induction m with
  | zero =>
    intro a e
    obtain rfl : a = x := by omega
    rw [kh_129_50, h2, Nat.sub_self]
    simp (disch := first | omega | assumption | exact mOk_int | exact mOk_null | exact mOk_ref | (simp (disch := omega) only [aF_ef, aF_nf, aU_ne, aU_eq, aU_ne2]; first | done | omega | assumption)) only [k_129_0, k_129_1, al_0, gq_0, gq_1, gq_2, gq_3, gq_4, r_push, q_iald, is_2, il_1, is_3, is_4, is_5, il_5, il_2, ri_icge, r_isub, r_callS1, is_6, il_3, il_6, r_idiv, is_7, r_irem, is_8, il_7, is_9, il_9, ri_ifgt, il_4, il_8, r_ishr, r_iand, ri_ifeq, ri_ifne, r_goto, ii_8, q_iast, r_ishl, r_ior, ii_5, r_vret, kd_0, kd_1, kd_2, kd_3, kd_4, kd_5, ln_0, ln_1, ln_2, ln_3, ln_4, ln_5, Option.some.injEq, Value.int.injEq, Value.ref.injEq, Value.long.injEq, Prod.mk.injEq, exists_eq_left', exists_eq_left, true_and, and_true, mLk, Option.any_some, mC1, Value.category, Option.toList_some, Option.toList_none, List.nil_append, List.cons_append, List.length_cons, List.length_nil, ne_eq, Nat.reduceEqDiff, not_false_eq_true, reduceCtorEq, exists_and_left, exists_and_right, Nat.reduceLeDiff, Nat.reduceAdd, and_self, exists_eq, exists_eq_right, exists_const, eq_self, exists_eq', not_true_eq_false, false_implies, true_implies, implies_true, forall_const, or_true, true_or, false_or, or_false, and_false, false_and, if_true, if_false, ite_true, ite_false, mB, mOk_int, mOk_ref, mOk_null, mOk_long, Nat.reduceLT, Nat.reduceSub, Nat.reduceMul, Nat.reduceDiv, Nat.reduceMod, Classical.not_not, ↓reduceIte, Nat.zero_add, Nat.add_zero, Nat.add_sub_cancel, Bool.false_eq_true, tN_l, tN_m1, tN_n1, tN_n8, tN_dec, tN_dec8, aF_ef, aF_nf, aF_U, tN_lt, tN_le, tN_inj, tN_add, tN_mul, tN_sub, tN_and, tN_or, tN_xor, tN_and31, tN_clamp, tN_in, tN_div, nm_rem, tN_shl, tN_shr, tN_b2, nd_lt, nd_nlt, nd_le, nd_nle, nd_eq, nd_ne, mN_at, mN_U, aU_ne, aU_eq, aU_ne2, bit_n, h1, Bool.false_eq_true]
  | succ m ih =>
    intro a e
    have hm := cu_mono (u := u) (a := a + 1) x (by omega)
    have hm2 := cu_mono (u := u) (a := a) x (by omega)
    rw [← ih (a + 1) (by omega), kh_129_50]
    by_cases c : u.testBit a = true
    · have ec : cu u (a + 1) = cu u a := by
        show cu u a + _ = _
        rw [if_pos c]
        rfl
      rw [ec]
      by_cases c2 : pl - cu u a = 0
      · rw [c2]
        simp (disch := first | omega | assumption | exact mOk_int | exact mOk_null | exact mOk_ref | (simp (disch := omega) only [aF_ef, aF_nf, aU_ne, aU_eq, aU_ne2]; first | done | omega | assumption)) only [k_129_0, k_129_1, al_0, gq_0, gq_1, gq_2, gq_3, gq_4, r_push, q_iald, is_2, il_1, is_3, is_4, is_5, il_5, il_2, ri_icge, r_isub, r_callS1, is_6, il_3, il_6, r_idiv, is_7, r_irem, is_8, il_7, is_9, il_9, ri_ifgt, il_4, il_8, r_ishr, r_iand, ri_ifeq, ri_ifne, r_goto, ii_8, q_iast, r_ishl, r_ior, ii_5, r_vret, kd_0, kd_1, kd_2, kd_3, kd_4, kd_5, ln_0, ln_1, ln_2, ln_3, ln_4, ln_5, Option.some.injEq, Value.int.injEq, Value.ref.injEq, Value.long.injEq, Prod.mk.injEq, exists_eq_left', exists_eq_left, true_and, and_true, mLk, Option.any_some, mC1, Value.category, Option.toList_some, Option.toList_none, List.nil_append, List.cons_append, List.length_cons, List.length_nil, ne_eq, Nat.reduceEqDiff, not_false_eq_true, reduceCtorEq, exists_and_left, exists_and_right, Nat.reduceLeDiff, Nat.reduceAdd, and_self, exists_eq, exists_eq_right, exists_const, eq_self, exists_eq', not_true_eq_false, false_implies, true_implies, implies_true, forall_const, or_true, true_or, false_or, or_false, and_false, false_and, if_true, if_false, ite_true, ite_false, mB, mOk_int, mOk_ref, mOk_null, mOk_long, Nat.reduceLT, Nat.reduceSub, Nat.reduceMul, Nat.reduceDiv, Nat.reduceMod, Classical.not_not, ↓reduceIte, Nat.zero_add, Nat.add_zero, Nat.add_sub_cancel, Bool.false_eq_true, tN_l, tN_m1, tN_n1, tN_n8, tN_dec, tN_dec8, aF_ef, aF_nf, aF_U, tN_lt, tN_le, tN_inj, tN_add, tN_mul, tN_sub, tN_and, tN_or, tN_xor, tN_and31, tN_clamp, tN_in, tN_div, nm_rem, tN_shl, tN_shr, tN_b2, nd_lt, nd_nlt, nd_le, nd_nle, nd_eq, nd_ne, mN_at, mN_U, aU_ne, aU_eq, aU_ne2, bit_n, c]
      · simp (disch := first | omega | assumption | exact mOk_int | exact mOk_null | exact mOk_ref | (simp (disch := omega) only [aF_ef, aF_nf, aU_ne, aU_eq, aU_ne2]; first | done | omega | assumption)) only [k_129_0, k_129_1, al_0, gq_0, gq_1, gq_2, gq_3, gq_4, r_push, q_iald, is_2, il_1, is_3, is_4, is_5, il_5, il_2, ri_icge, r_isub, r_callS1, is_6, il_3, il_6, r_idiv, is_7, r_irem, is_8, il_7, is_9, il_9, ri_ifgt, il_4, il_8, r_ishr, r_iand, ri_ifeq, ri_ifne, r_goto, ii_8, q_iast, r_ishl, r_ior, ii_5, r_vret, kd_0, kd_1, kd_2, kd_3, kd_4, kd_5, ln_0, ln_1, ln_2, ln_3, ln_4, ln_5, Option.some.injEq, Value.int.injEq, Value.ref.injEq, Value.long.injEq, Prod.mk.injEq, exists_eq_left', exists_eq_left, true_and, and_true, mLk, Option.any_some, mC1, Value.category, Option.toList_some, Option.toList_none, List.nil_append, List.cons_append, List.length_cons, List.length_nil, ne_eq, Nat.reduceEqDiff, not_false_eq_true, reduceCtorEq, exists_and_left, exists_and_right, Nat.reduceLeDiff, Nat.reduceAdd, and_self, exists_eq, exists_eq_right, exists_const, eq_self, exists_eq', not_true_eq_false, false_implies, true_implies, implies_true, forall_const, or_true, true_or, false_or, or_false, and_false, false_and, if_true, if_false, ite_true, ite_false, mB, mOk_int, mOk_ref, mOk_null, mOk_long, Nat.reduceLT, Nat.reduceSub, Nat.reduceMul, Nat.reduceDiv, Nat.reduceMod, Classical.not_not, ↓reduceIte, Nat.zero_add, Nat.add_zero, Nat.add_sub_cancel, Bool.false_eq_true, tN_l, tN_m1, tN_n1, tN_n8, tN_dec, tN_dec8, aF_ef, aF_nf, aF_U, tN_lt, tN_le, tN_inj, tN_add, tN_mul, tN_sub, tN_and, tN_or, tN_xor, tN_and31, tN_clamp, tN_in, tN_div, nm_rem, tN_shl, tN_shr, tN_b2, nd_lt, nd_nlt, nd_le, nd_nle, nd_eq, nd_ne, mN_at, mN_U, aU_ne, aU_eq, aU_ne2, bit_n, c, Nat.sub_zero]
    · have ec : cu u (a + 1) = cu u a + 1 := by
        show cu u a + _ = _
        rw [if_neg c]
      rw [ec] at hm ⊢
      simp (disch := first | omega | assumption | exact mOk_int | exact mOk_null | exact mOk_ref | (simp (disch := omega) only [aF_ef, aF_nf, aU_ne, aU_eq, aU_ne2]; first | done | omega | assumption)) only [k_129_0, k_129_1, al_0, gq_0, gq_1, gq_2, gq_3, gq_4, r_push, q_iald, is_2, il_1, is_3, is_4, is_5, il_5, il_2, ri_icge, r_isub, r_callS1, is_6, il_3, il_6, r_idiv, is_7, r_irem, is_8, il_7, is_9, il_9, ri_ifgt, il_4, il_8, r_ishr, r_iand, ri_ifeq, ri_ifne, r_goto, ii_8, q_iast, r_ishl, r_ior, ii_5, r_vret, kd_0, kd_1, kd_2, kd_3, kd_4, kd_5, ln_0, ln_1, ln_2, ln_3, ln_4, ln_5, Option.some.injEq, Value.int.injEq, Value.ref.injEq, Value.long.injEq, Prod.mk.injEq, exists_eq_left', exists_eq_left, true_and, and_true, mLk, Option.any_some, mC1, Value.category, Option.toList_some, Option.toList_none, List.nil_append, List.cons_append, List.length_cons, List.length_nil, ne_eq, Nat.reduceEqDiff, not_false_eq_true, reduceCtorEq, exists_and_left, exists_and_right, Nat.reduceLeDiff, Nat.reduceAdd, and_self, exists_eq, exists_eq_right, exists_const, eq_self, exists_eq', not_true_eq_false, false_implies, true_implies, implies_true, forall_const, or_true, true_or, false_or, or_false, and_false, false_and, if_true, if_false, ite_true, ite_false, mB, mOk_int, mOk_ref, mOk_null, mOk_long, Nat.reduceLT, Nat.reduceSub, Nat.reduceMul, Nat.reduceDiv, Nat.reduceMod, Classical.not_not, ↓reduceIte, Nat.zero_add, Nat.add_zero, Nat.add_sub_cancel, Bool.false_eq_true, tN_l, tN_m1, tN_n1, tN_n8, tN_dec, tN_dec8, aF_ef, aF_nf, aF_U, tN_lt, tN_le, tN_inj, tN_add, tN_mul, tN_sub, tN_and, tN_or, tN_xor, tN_and31, tN_clamp, tN_in, tN_div, nm_rem, tN_shl, tN_shr, tN_b2, nd_lt, nd_nlt, nd_le, nd_nle, nd_eq, nd_ne, mN_at, mN_U, aU_ne, aU_eq, aU_ne2, bit_n, c, Nat.sub_sub]
theorem ml_129 {X : mX} {D : Nat} {cap : Nat × Nat} {P : mPost} {G : mG} {A : Nat → Nat → Nat} {O : Nat → Nat} {n t : Nat} (hD : 1 ≤ D) (hn : n ≤ 12) (ht : t < fac n) : ∀ m k u6 u7 u8 u9, k + m = n → mOk u6 = true → mOk u7 = true → mOk u8 = true → mOk u9 = true → mW (mCall X D) X cap 129 P 15 [.ref 185, .int (tN t), .int (tN n), .int (tN (drS (idO n O) n t k).2), .int (tN (usd (drS (idO n O) n t k).1 k)), .int (tN k), u6, u7, u8, u9] [] (mN (aF A 214 (fun i => if i < k then (drS (idO n O) n t k).1 i else A 214 i)), RF, G, mSh) = P none (mN (aF A 214 (fun i => if i < n then (drS (idO n O) n t n).1 i else A 214 i)), RF, G, mSh) := by
  intro m
  induction m with
  | zero =>
    intro k u6 u7 u8 u9 e g6 g7 g8 g9
    obtain rfl : k = n := by omega
    rw [kh_129_15]
    simp (disch := first | omega | assumption | exact mOk_int | exact mOk_null | exact mOk_ref | (simp (disch := omega) only [aF_ef, aF_nf, aU_ne, aU_eq, aU_ne2]; first | done | omega | assumption)) only [k_129_0, k_129_1, al_0, gq_0, gq_1, gq_2, gq_3, gq_4, r_push, q_iald, is_2, il_1, is_3, is_4, is_5, il_5, il_2, ri_icge, r_isub, r_callS1, is_6, il_3, il_6, r_idiv, is_7, r_irem, is_8, il_7, is_9, il_9, ri_ifgt, il_4, il_8, r_ishr, r_iand, ri_ifeq, ri_ifne, r_goto, ii_8, q_iast, r_ishl, r_ior, ii_5, r_vret, kd_0, kd_1, kd_2, kd_3, kd_4, kd_5, ln_0, ln_1, ln_2, ln_3, ln_4, ln_5, Option.some.injEq, Value.int.injEq, Value.ref.injEq, Value.long.injEq, Prod.mk.injEq, exists_eq_left', exists_eq_left, true_and, and_true, mLk, Option.any_some, mC1, Value.category, Option.toList_some, Option.toList_none, List.nil_append, List.cons_append, List.length_cons, List.length_nil, ne_eq, Nat.reduceEqDiff, not_false_eq_true, reduceCtorEq, exists_and_left, exists_and_right, Nat.reduceLeDiff, Nat.reduceAdd, and_self, exists_eq, exists_eq_right, exists_const, eq_self, exists_eq', not_true_eq_false, false_implies, true_implies, implies_true, forall_const, or_true, true_or, false_or, or_false, and_false, false_and, if_true, if_false, ite_true, ite_false, mB, mOk_int, mOk_ref, mOk_null, mOk_long, Nat.reduceLT, Nat.reduceSub, Nat.reduceMul, Nat.reduceDiv, Nat.reduceMod, Classical.not_not, ↓reduceIte, Nat.zero_add, Nat.add_zero, Nat.add_sub_cancel, Bool.false_eq_true, tN_l, tN_m1, tN_n1, tN_n8, tN_dec, tN_dec8, aF_ef, aF_nf, aF_U, tN_lt, tN_le, tN_inj, tN_add, tN_mul, tN_sub, tN_and, tN_or, tN_xor, tN_and31, tN_clamp, tN_in, tN_div, nm_rem, tN_shl, tN_shr, tN_b2, nd_lt, nd_nlt, nd_le, nd_nle, nd_eq, nd_ne, mN_at, mN_U, aU_ne, aU_eq, aU_ne2]
  | succ m ih =>
    intro k u6 u7 u8 u9 e g6 g7 g8 g9
    have pi := drS_PI (O := O) ht k (by omega)
    have hq := drS_q (O := idO n O) ht (show k < n by omega)
    have hcu := PI_cu pi _ (show k + (drS (idO n O) n t k).2 / fac (n - 1 - k) < n by omega)
    have hub : (usd (drS (idO n O) n t k).1 k).testBit ((drS (idO n O) n t k).1 (k + (drS (idO n O) n t k).2 / fac (n - 1 - k))) = false := (pi.2.1 _ (pi.2.2.1 _ (by omega))).mpr ⟨_, by omega, by omega, rfl⟩
    have hxn := pi.2.2.1 (k + (drS (idO n O) n t k).2 / fac (n - 1 - k)) (by omega)
    have hul := usd_lt hn (fun i (hi : i < k) => pi.2.2.1 i (by omega))
    have h1 := drS_lt (O := idO n O) ht k (by omega)
    have h3 := fac_le (show n - k ≤ 12 by omega)
    have h4 := fac_le (show n - 1 - k ≤ 12 by omega)
    have h5 := fac_pos (n - 1 - k)
    have ih' := ih (k + 1)
    have eu : usd (drS (idO n O) n t (k + 1)).1 (k + 1) = usd (drS (idO n O) n t k).1 k ||| 1 <<< (drS (idO n O) n t k).1 (k + (drS (idO n O) n t k).2 / fac (n - 1 - k)) := by
      show usd _ k ||| 1 <<< mvD (drS (idO n O) n t k).1 _ k k = _
      rw [usd_cg (O2 := (drS (idO n O) n t k).1) k (fun i hi => drS_st 1 k hi)]
      unfold mvD
      rw [if_pos rfl]
    have er : (drS (idO n O) n t (k + 1)).2 = (drS (idO n O) n t k).2 % fac (n - 1 - k) := rfl
    have et : (fun i => if i < k + 1 then (drS (idO n O) n t (k + 1)).1 i else A 214 i) = (fun j => if j = k then (drS (idO n O) n t k).1 (k + (drS (idO n O) n t k).2 / fac (n - 1 - k)) else if j < k then (drS (idO n O) n t k).1 j else A 214 j) := by
      funext i
      by_cases c1 : i = k
      · rw [if_pos (by omega), if_pos c1, c1]
        show mvD (drS (idO n O) n t k).1 _ k k = _
        unfold mvD
        rw [if_pos rfl]
      · rw [if_neg c1]
        by_cases c2 : i < k
        · rw [if_pos (by omega), if_pos c2]
          exact drS_st 1 k c2
        · rw [if_neg (by omega), if_neg c2]
    rw [eu, er, et] at ih'
    clear eu er et
    have lb := ml_129b (X := X) (D := D) (cap := cap) (P := P) (G := G) (A := aF A 214 (fun i => if i < k then (drS (idO n O) n t k).1 i else A 214 i)) (t := t) (n := n) (rs := (drS (idO n O) n t k).2 % fac (n - 1 - k)) (u := usd (drS (idO n O) n t k).1 k) (k := k) (un := fac (n - 1 - k)) (pl := (drS (idO n O) n t k).2 / fac (n - 1 - k)) (x := (drS (idO n O) n t k).1 (k + (drS (idO n O) n t k).2 / fac (n - 1 - k))) hul (by omega) (by omega) hub hcu ((drS (idO n O) n t k).1 (k + (drS (idO n O) n t k).2 / fac (n - 1 - k))) 0 (by omega)
    rw [aF_U] at lb
    simp only [cu, Nat.sub_zero] at lb
    have hdl : (drS (idO n O) n t k).2 / fac (n - 1 - k) ≤ (drS (idO n O) n t k).2 := Nat.div_le_self _ _
    rw [kh_129_15]
    simp (disch := first | omega | assumption | exact mOk_int | exact mOk_null | exact mOk_ref | (simp (disch := omega) only [aF_ef, aF_nf, aU_ne, aU_eq, aU_ne2]; first | done | omega | assumption)) only [k_129_0, k_129_1, al_0, gq_0, gq_1, gq_2, gq_3, gq_4, r_push, q_iald, is_2, il_1, is_3, is_4, is_5, il_5, il_2, ri_icge, r_isub, r_callS1, is_6, il_3, il_6, r_idiv, is_7, r_irem, is_8, il_7, is_9, il_9, ri_ifgt, il_4, il_8, r_ishr, r_iand, ri_ifeq, ri_ifne, r_goto, ii_8, q_iast, r_ishl, r_ior, ii_5, r_vret, kd_0, kd_1, kd_2, kd_3, kd_4, kd_5, ln_0, ln_1, ln_2, ln_3, ln_4, ln_5, Option.some.injEq, Value.int.injEq, Value.ref.injEq, Value.long.injEq, Prod.mk.injEq, exists_eq_left', exists_eq_left, true_and, and_true, mLk, Option.any_some, mC1, Value.category, Option.toList_some, Option.toList_none, List.nil_append, List.cons_append, List.length_cons, List.length_nil, ne_eq, Nat.reduceEqDiff, not_false_eq_true, reduceCtorEq, exists_and_left, exists_and_right, Nat.reduceLeDiff, Nat.reduceAdd, and_self, exists_eq, exists_eq_right, exists_const, eq_self, exists_eq', not_true_eq_false, false_implies, true_implies, implies_true, forall_const, or_true, true_or, false_or, or_false, and_false, false_and, if_true, if_false, ite_true, ite_false, mB, mOk_int, mOk_ref, mOk_null, mOk_long, Nat.reduceLT, Nat.reduceSub, Nat.reduceMul, Nat.reduceDiv, Nat.reduceMod, Classical.not_not, ↓reduceIte, Nat.zero_add, Nat.add_zero, Nat.add_sub_cancel, Bool.false_eq_true, tN_l, tN_m1, tN_n1, tN_n8, tN_dec, tN_dec8, aF_ef, aF_nf, aF_U, tN_lt, tN_le, tN_inj, tN_add, tN_mul, tN_sub, tN_and, tN_or, tN_xor, tN_and31, tN_clamp, tN_in, tN_div, nm_rem, tN_shl, tN_shr, tN_b2, nd_lt, nd_nlt, nd_le, nd_nle, nd_eq, nd_ne, mN_at, mN_U, aU_ne, aU_eq, aU_ne2, m_128, nm_rem1]
    rw [lb]
    exact ih' _ _ _ _ (by omega) mOk_int mOk_int mOk_int mOk_int
theorem m_129 {X : mX} {D : Nat} {P : mPost} {A : Nat → Nat → Nat} {G : mG} {O : Nat → Nat} {t : Nat} (hD : 2 ≤ D) (hn : A 193 0 ≤ 12) (ht : t < fac (A 193 0)) : mCall X D 129 [.ref 185, .int (tN t)] (mN A, RF, G, mSh) P = P none (mN (aF A 214 (fun i => if i < A 193 0 then (drS (idO (A 193 0) O) (A 193 0) t (A 193 0)).1 i else A 214 i)), RF, G, mSh) := by
  have := ml_129 (X := X) (D := D - 1) (cap := (mSh.length + (mAl 129).fst, mSum mSh + (mAl 129).snd)) (P := P) (G := G) (A := A) (O := O) (by omega) hn ht (A 193 0) 0 .null .null .null .null (by omega) mOk_null mOk_null mOk_null mOk_null
  rw [aF_id (c := 214) (g := fun i => if i < 0 then (drS (idO (A 193 0) O) (A 193 0) t 0).1 i else A 214 i) (fun j => if_neg (by omega))] at this
  rw [e_129 (by omega)]
  simp (disch := first | omega | assumption | exact mOk_int | exact mOk_null | exact mOk_ref | (simp (disch := omega) only [aF_ef, aF_nf, aU_ne, aU_eq, aU_ne2]; first | done | omega | assumption)) only [k_129_0, k_129_1, al_0, gq_0, gq_1, gq_2, gq_3, gq_4, r_push, q_iald, is_2, il_1, is_3, is_4, is_5, il_5, il_2, ri_icge, r_isub, r_callS1, is_6, il_3, il_6, r_idiv, is_7, r_irem, is_8, il_7, is_9, il_9, ri_ifgt, il_4, il_8, r_ishr, r_iand, ri_ifeq, ri_ifne, r_goto, ii_8, q_iast, r_ishl, r_ior, ii_5, r_vret, kd_0, kd_1, kd_2, kd_3, kd_4, kd_5, ln_0, ln_1, ln_2, ln_3, ln_4, ln_5, Option.some.injEq, Value.int.injEq, Value.ref.injEq, Value.long.injEq, Prod.mk.injEq, exists_eq_left', exists_eq_left, true_and, and_true, mLk, Option.any_some, mC1, Value.category, Option.toList_some, Option.toList_none, List.nil_append, List.cons_append, List.length_cons, List.length_nil, ne_eq, Nat.reduceEqDiff, not_false_eq_true, reduceCtorEq, exists_and_left, exists_and_right, Nat.reduceLeDiff, Nat.reduceAdd, and_self, exists_eq, exists_eq_right, exists_const, eq_self, exists_eq', not_true_eq_false, false_implies, true_implies, implies_true, forall_const, or_true, true_or, false_or, or_false, and_false, false_and, if_true, if_false, ite_true, ite_false, mB, mOk_int, mOk_ref, mOk_null, mOk_long, Nat.reduceLT, Nat.reduceSub, Nat.reduceMul, Nat.reduceDiv, Nat.reduceMod, Classical.not_not, ↓reduceIte, Nat.zero_add, Nat.add_zero, Nat.add_sub_cancel, Bool.false_eq_true, tN_l, tN_m1, tN_n1, tN_n8, tN_dec, tN_dec8, aF_ef, aF_nf, aF_U, tN_lt, tN_le, tN_inj, tN_add, tN_mul, tN_sub, tN_and, tN_or, tN_xor, tN_and31, tN_clamp, tN_in, tN_div, nm_rem, tN_shl, tN_shr, tN_b2, nd_lt, nd_nlt, nd_le, nd_nle, nd_eq, nd_ne, mN_at, mN_U, aU_ne, aU_eq, aU_ne2]
  exact this
