set_option maxRecDepth 20000
set_option maxHeartbeats 4000000
/-! MODEL: THE BLOCK -/
def mmC (n : Nat) : Bool := (List.range 4096).all (fun f => (List.range 12).all (fun s => !(f &&& bkm n s == bkm n s) || (decide (hol f ≤ hol (f &&& (bkm n s ^^^ 4294967295)) + 1) && decide (hol (f &&& (bkm n s ^^^ 4294967295)) + 1 < hol f + 4))))
theorem mmC_1 : mmC 1 = true := by decide +kernel
theorem mmC_2 : mmC 2 = true := by decide +kernel
theorem mmC_3 : mmC 3 = true := by decide +kernel
theorem mmC_4 : mmC 4 = true := by decide +kernel
theorem mmC_5 : mmC 5 = true := by decide +kernel
theorem mmC_6 : mmC 6 = true := by decide +kernel
theorem mmC_at {f n s : Nat} (hf : f < 4096) (h1 : 1 ≤ n) (h6 : n ≤ 6) (hs : s < 12) (hb : f &&& bkm n s = bkm n s) : hol f ≤ hol (f &&& (bkm n s ^^^ 4294967295)) + 1 ∧ hol (f &&& (bkm n s ^^^ 4294967295)) + 1 - hol f < 4 := by
  have h : mmC n = true := by
    have : n = 1 ∨ n = 2 ∨ n = 3 ∨ n = 4 ∨ n = 5 ∨ n = 6 := by omega
    rcases this with rfl | rfl | rfl | rfl | rfl | rfl
    · exact mmC_1
    · exact mmC_2
    · exact mmC_3
    · exact mmC_4
    · exact mmC_5
    · exact mmC_6
  have := List.all_eq_true.mp (List.all_eq_true.mp h f (List.mem_range.mpr hf)) s (List.mem_range.mpr hs)
  simp only [Bool.or_eq_true, Bool.and_eq_true, Bool.not_eq_true', beq_eq_false_iff_ne, ne_eq, decide_eq_true_eq] at this
  rcases this with a | ⟨a, b⟩
  · exact absurd hb a
  · exact ⟨a, by omega⟩
theorem rbk_part {f n : Nat} (hf : f < 4096) (h1 : 1 ≤ n) (h6 : n ≤ 6) {s : Nat} (hs : s ≤ 12) : rbk f n s = 1000 ∨ (rbk f n s < 400 ∧ rbk f n s % 100 < s) := by
  by_cases c : rbk f n s < 1000
  · obtain ⟨t, g1, g2, g3⟩ := rbk_ex s c
    have := mmC_at hf h1 h6 (show t < 12 by omega) g2
    right
    omega
  · left
    have := rbk_le (f := f) (n := n) s
    omega
theorem upS_step4 {pr : Nat → Nat} {st : Nat × Nat × Nat} {r v m s : Nat} (hr : r < 4294967295) (hs : s < 12) (hm : m < 4) (hv : v = 1000 ∨ (v < 400 ∧ v % 100 < s)) :
    upS pr st r (min v (100 * m + s)) = (if (upS pr st r v).1 = 4294967295 ∨ m < (upS pr st r v).2.2 ∨ (m = (upS pr st r v).2.2 ∧ pr r < pr (upS pr st r v).1) then (r, s, m) else upS pr st r v) := by
  have e1 : (100 * m + s) / 100 = m := by omega
  have e2 : (100 * m + s) % 100 = s := by omega
  by_cases c : v < 1000 ∧ (st.1 = 4294967295 ∨ v / 100 < st.2.2 ∨ (v / 100 = st.2.2 ∧ pr r < pr st.1))
  · have ev : upS pr st r v = (r, v % 100, v / 100) := if_pos c
    rw [ev]
    show _ = if r = 4294967295 ∨ m < v / 100 ∨ (m = v / 100 ∧ pr r < pr r) then (r, s, m) else (r, v % 100, v / 100)
    by_cases d : m < v / 100
    · rw [if_pos (.inr (.inl d)), Nat.min_eq_right (by omega)]
      unfold upS
      rw [e1, e2]
      exact if_pos ⟨by omega, by omega⟩
    · rw [if_neg (by omega), Nat.min_eq_left (by omega)]
      exact if_pos c
  · have ev : upS pr st r v = st := if_neg c
    rw [ev]
    by_cases d : v ≤ 100 * m + s
    · rw [Nat.min_eq_left d, ev, if_neg]
      rcases hv with rfl | hv
      · omega
      · omega
    · rw [Nat.min_eq_right (by omega)]
      unfold upS
      rw [e1, e2]
      by_cases g : st.1 = 4294967295 ∨ m < st.2.2 ∨ (m = st.2.2 ∧ pr r < pr st.1)
      · rw [if_pos g, if_pos ⟨by omega, g⟩]
      · rw [if_neg g, if_neg (fun z => g z.2)]
theorem tN_mo {x y : Nat} (h : y ≤ x + 1) : tN x - tN y = tN (x + 1 - y + 4294967295) := by
  rw [← tN_per (a := x), tN_sub (by omega)]
  congr 1
  omega
theorem mo_lt {m k : Nat} (h1 : m < 4) (h2 : k < 4) : (tN (m + 4294967295) < tN (k + 4294967295)) = (m < k) := by
  have : ∀ m, m < 4 → ∀ k, k < 4 → ((tN (m + 4294967295) < tN (k + 4294967295)) ↔ (m < k)) := by decide
  exact propext (this m h1 k h2)
theorem mo_eq {m k : Nat} (h1 : m < 4) (h2 : k < 4) : (tN (m + 4294967295) = tN (k + 4294967295)) = (m = k) := by
  have : ∀ m, m < 4 → ∀ k, k < 4 → ((tN (m + 4294967295) = tN (k + 4294967295)) ↔ (m = k)) := by decide
  exact propext (this m h1 k h2)
def cnb (f s : Nat) : Nat → Bool
  | 0 => true
  | j + 1 => cnb f s j && f.testBit (s + j)
theorem cnb_on {f s : Nat} : ∀ n, cnb f s n = true ↔ ∀ j, s ≤ j → j < s + n → f.testBit j = true
  | 0 => ⟨fun _ j h1 h2 => absurd h2 (by omega), fun _ => rfl⟩
  | n + 1 => by
    unfold cnb
    rw [Bool.and_eq_true, cnb_on n]
    constructor
    · rintro ⟨a, b⟩ j h1 h2
      by_cases e : j = s + n
      · rw [e]; exact b
      · exact a j h1 (by omega)
    · intro a
      exact ⟨fun j h1 h2 => a j h1 (by omega), a (s + n) (by omega) (by omega)⟩
theorem cnb_bk {f s n : Nat} : cnb f s n = true ↔ f &&& bkm n s = bkm n s := (cnb_on n).trans bkm_on.symm
def bst (st : Nat × Nat × Nat) : Nat := if st.1 = 4294967295 then 4294967295 else st.1 * 100 + st.2.1
def lst' (st : Nat × Nat × Nat) : Nat := if st.1 = 4294967295 then 0 else st.2.2 + 4294967295
def okS (st : Nat × Nat × Nat) (k : Nat) : Prop := st = (4294967295, 4294967295, 0) ∨ (st.1 < k ∧ st.2.1 < 12 ∧ st.2.2 < 4)
/-- the inner loop: are all free -/
theorem ml_134c {X : mX} {D : Nat} {cap : Nat × Nat} {P : mPost} {G : mG} {A : Nat → Nat → Nat} {h a r f n s be le hl : Nat} (hD : 2 ≤ D) (hh : h ≤ 4) (hr : r < 6) (h1 : 1 ≤ A 191 r) (h2 : A 191 r ≤ 12) (ho : oRow A h r f) (hs : s + n ≤ 12) : ∀ m j, j + m = n → mW (mCall X D) X cap 134 P 72 [.ref 185, .int (tN h), .int (tN a), .int (tN n), .int (tN be), .int (tN le), .int (tN r), .int (tN hl), .int (tN s), .int (tN (if cnb f s j = true then 1 else 0)), .int (tN (s + j))] [] (mN A, RF, G, mSh) = mW (mCall X D) X cap 134 P 111 [.ref 185, .int (tN h), .int (tN a), .int (tN n), .int (tN be), .int (tN le), .int (tN r), .int (tN hl), .int (tN s), .int (tN (if cnb f s n = true then 1 else 0)), .int (tN (s + n))] [] (mN A, RF, G, mSh) := by
  have e136 := fun s P' (hs : s < 4294967296) => m_136 (X := X) (D := D) (P := P') (G := G) (A := A) (h := h) (r := r) (f := f) (s := s) hD hh hr h1 h2 hs ho
  intro m
  induction m with
  | zero =>
    intro j e
    obtain rfl : j = n := by omega
    rw [kh_134_72]
    simp (disch := first | omega | assumption | exact mOk_int | exact mOk_null | exact mOk_ref | (simp (disch := omega) only [aF_ef, aF_nf, aU_ne, aU_eq, aU_ne2]; first | done | omega | assumption)) only [k_134_0, k_134_1, k_134_2, r_push, is_4, is_5, is_6, il_6, al_0, gq_0, gq_1, gq_2, gq_3, gq_4, q_iald, ri_icge, il_2, ri_icle, r_goto, il_1, q_callV2, is_7, is_8, il_8, il_3, r_iadd, ri_icgt, is_9, is_10, il_10, il_9, ri_ifeq, q_callV3, ii_10, ri_ifne, q_callV5, il_7, r_isub, il_4, ri_iceq, il_5, ri_iclt, ri_icne, r_idiv, r_imul, ii_8, ii_6, r_iret, kd_0, kd_1, kd_2, kd_3, kd_4, kd_5, ln_0, ln_1, ln_2, ln_3, ln_4, ln_5, Option.some.injEq, Value.int.injEq, Value.ref.injEq, Value.long.injEq, Prod.mk.injEq, exists_eq_left', exists_eq_left, true_and, and_true, mLk, Option.any_some, mC1, Value.category, Option.toList_some, Option.toList_none, List.nil_append, List.cons_append, List.length_cons, List.length_nil, ne_eq, Nat.reduceEqDiff, not_false_eq_true, reduceCtorEq, exists_and_left, exists_and_right, Nat.reduceLeDiff, Nat.reduceAdd, and_self, exists_eq, exists_eq_right, exists_const, eq_self, exists_eq', not_true_eq_false, false_implies, true_implies, implies_true, forall_const, or_true, true_or, false_or, or_false, and_false, false_and, if_true, if_false, ite_true, ite_false, mB, mOk_int, mOk_ref, mOk_null, mOk_long, Nat.reduceLT, Nat.reduceSub, Nat.reduceMul, Nat.reduceDiv, Nat.reduceMod, Classical.not_not, ↓reduceIte, Nat.zero_add, Nat.add_zero, Nat.add_sub_cancel, Bool.false_eq_true, tN_l, tN_m1, tN_n1, tN_n8, tN_dec, tN_dec8, aF_ef, aF_nf, aF_U, tN_lt, tN_le, tN_inj, tN_add, tN_mul, tN_sub, tN_and, tN_or, tN_xor, tN_and31, tN_clamp, tN_in, tN_div, nm_rem, tN_shl, tN_shr, tN_b2, nd_lt, nd_nlt, nd_le, nd_nle, nd_eq, nd_ne, mN_at, mN_U, aU_ne, aU_eq, aU_ne2]
  | succ m ih =>
    intro j e
    have ih' := ih (j + 1) (by omega)
    rw [← ih', kh_134_72]
    clear ih ih'
    by_cases c1 : cnb f s j = true
    · by_cases c2 : f.testBit (s + j) = true
      · simp only [cnb, c1, c2, Bool.and_self, if_true]
        simp (disch := first | omega | assumption | exact mOk_int | exact mOk_null | exact mOk_ref | (simp (disch := omega) only [aF_ef, aF_nf, aU_ne, aU_eq, aU_ne2]; first | done | omega | assumption)) only [k_134_0, k_134_1, k_134_2, r_push, is_4, is_5, is_6, il_6, al_0, gq_0, gq_1, gq_2, gq_3, gq_4, q_iald, ri_icge, il_2, ri_icle, r_goto, il_1, q_callV2, is_7, is_8, il_8, il_3, r_iadd, ri_icgt, is_9, is_10, il_10, il_9, ri_ifeq, q_callV3, ii_10, ri_ifne, q_callV5, il_7, r_isub, il_4, ri_iceq, il_5, ri_iclt, ri_icne, r_idiv, r_imul, ii_8, ii_6, r_iret, kd_0, kd_1, kd_2, kd_3, kd_4, kd_5, ln_0, ln_1, ln_2, ln_3, ln_4, ln_5, Option.some.injEq, Value.int.injEq, Value.ref.injEq, Value.long.injEq, Prod.mk.injEq, exists_eq_left', exists_eq_left, true_and, and_true, mLk, Option.any_some, mC1, Value.category, Option.toList_some, Option.toList_none, List.nil_append, List.cons_append, List.length_cons, List.length_nil, ne_eq, Nat.reduceEqDiff, not_false_eq_true, reduceCtorEq, exists_and_left, exists_and_right, Nat.reduceLeDiff, Nat.reduceAdd, and_self, exists_eq, exists_eq_right, exists_const, eq_self, exists_eq', not_true_eq_false, false_implies, true_implies, implies_true, forall_const, or_true, true_or, false_or, or_false, and_false, false_and, if_true, if_false, ite_true, ite_false, mB, mOk_int, mOk_ref, mOk_null, mOk_long, Nat.reduceLT, Nat.reduceSub, Nat.reduceMul, Nat.reduceDiv, Nat.reduceMod, Classical.not_not, ↓reduceIte, Nat.zero_add, Nat.add_zero, Nat.add_sub_cancel, Bool.false_eq_true, tN_l, tN_m1, tN_n1, tN_n8, tN_dec, tN_dec8, aF_ef, aF_nf, aF_U, tN_lt, tN_le, tN_inj, tN_add, tN_mul, tN_sub, tN_and, tN_or, tN_xor, tN_and31, tN_clamp, tN_in, tN_div, nm_rem, tN_shl, tN_shr, tN_b2, nd_lt, nd_nlt, nd_le, nd_nle, nd_eq, nd_ne, mN_at, mN_U, aU_ne, aU_eq, aU_ne2, e136, c2, Nat.add_assoc]
      · simp only [cnb, c1, c2, Bool.and_false, Bool.false_eq_true, if_true, if_false]
        simp (disch := first | omega | assumption | exact mOk_int | exact mOk_null | exact mOk_ref | (simp (disch := omega) only [aF_ef, aF_nf, aU_ne, aU_eq, aU_ne2]; first | done | omega | assumption)) only [k_134_0, k_134_1, k_134_2, r_push, is_4, is_5, is_6, il_6, al_0, gq_0, gq_1, gq_2, gq_3, gq_4, q_iald, ri_icge, il_2, ri_icle, r_goto, il_1, q_callV2, is_7, is_8, il_8, il_3, r_iadd, ri_icgt, is_9, is_10, il_10, il_9, ri_ifeq, q_callV3, ii_10, ri_ifne, q_callV5, il_7, r_isub, il_4, ri_iceq, il_5, ri_iclt, ri_icne, r_idiv, r_imul, ii_8, ii_6, r_iret, kd_0, kd_1, kd_2, kd_3, kd_4, kd_5, ln_0, ln_1, ln_2, ln_3, ln_4, ln_5, Option.some.injEq, Value.int.injEq, Value.ref.injEq, Value.long.injEq, Prod.mk.injEq, exists_eq_left', exists_eq_left, true_and, and_true, mLk, Option.any_some, mC1, Value.category, Option.toList_some, Option.toList_none, List.nil_append, List.cons_append, List.length_cons, List.length_nil, ne_eq, Nat.reduceEqDiff, not_false_eq_true, reduceCtorEq, exists_and_left, exists_and_right, Nat.reduceLeDiff, Nat.reduceAdd, and_self, exists_eq, exists_eq_right, exists_const, eq_self, exists_eq', not_true_eq_false, false_implies, true_implies, implies_true, forall_const, or_true, true_or, false_or, or_false, and_false, false_and, if_true, if_false, ite_true, ite_false, mB, mOk_int, mOk_ref, mOk_null, mOk_long, Nat.reduceLT, Nat.reduceSub, Nat.reduceMul, Nat.reduceDiv, Nat.reduceMod, Classical.not_not, ↓reduceIte, Nat.zero_add, Nat.add_zero, Nat.add_sub_cancel, Bool.false_eq_true, tN_l, tN_m1, tN_n1, tN_n8, tN_dec, tN_dec8, aF_ef, aF_nf, aF_U, tN_lt, tN_le, tN_inj, tN_add, tN_mul, tN_sub, tN_and, tN_or, tN_xor, tN_and31, tN_clamp, tN_in, tN_div, nm_rem, tN_shl, tN_shr, tN_b2, nd_lt, nd_nlt, nd_le, nd_nle, nd_eq, nd_ne, mN_at, mN_U, aU_ne, aU_eq, aU_ne2, e136, c2, Nat.add_assoc]
    · simp only [cnb, c1, Bool.false_and, Bool.false_eq_true, if_false]
      simp (disch := first | omega | assumption | exact mOk_int | exact mOk_null | exact mOk_ref | (simp (disch := omega) only [aF_ef, aF_nf, aU_ne, aU_eq, aU_ne2]; first | done | omega | assumption)) only [k_134_0, k_134_1, k_134_2, r_push, is_4, is_5, is_6, il_6, al_0, gq_0, gq_1, gq_2, gq_3, gq_4, q_iald, ri_icge, il_2, ri_icle, r_goto, il_1, q_callV2, is_7, is_8, il_8, il_3, r_iadd, ri_icgt, is_9, is_10, il_10, il_9, ri_ifeq, q_callV3, ii_10, ri_ifne, q_callV5, il_7, r_isub, il_4, ri_iceq, il_5, ri_iclt, ri_icne, r_idiv, r_imul, ii_8, ii_6, r_iret, kd_0, kd_1, kd_2, kd_3, kd_4, kd_5, ln_0, ln_1, ln_2, ln_3, ln_4, ln_5, Option.some.injEq, Value.int.injEq, Value.ref.injEq, Value.long.injEq, Prod.mk.injEq, exists_eq_left', exists_eq_left, true_and, and_true, mLk, Option.any_some, mC1, Value.category, Option.toList_some, Option.toList_none, List.nil_append, List.cons_append, List.length_cons, List.length_nil, ne_eq, Nat.reduceEqDiff, not_false_eq_true, reduceCtorEq, exists_and_left, exists_and_right, Nat.reduceLeDiff, Nat.reduceAdd, and_self, exists_eq, exists_eq_right, exists_const, eq_self, exists_eq', not_true_eq_false, false_implies, true_implies, implies_true, forall_const, or_true, true_or, false_or, or_false, and_false, false_and, if_true, if_false, ite_true, ite_false, mB, mOk_int, mOk_ref, mOk_null, mOk_long, Nat.reduceLT, Nat.reduceSub, Nat.reduceMul, Nat.reduceDiv, Nat.reduceMod, Classical.not_not, ↓reduceIte, Nat.zero_add, Nat.add_zero, Nat.add_sub_cancel, Bool.false_eq_true, tN_l, tN_m1, tN_n1, tN_n8, tN_dec, tN_dec8, aF_ef, aF_nf, aF_U, tN_lt, tN_le, tN_inj, tN_add, tN_mul, tN_sub, tN_and, tN_or, tN_xor, tN_and31, tN_clamp, tN_in, tN_div, nm_rem, tN_shl, tN_shr, tN_b2, nd_lt, nd_nlt, nd_le, nd_nle, nd_eq, nd_ne, mN_at, mN_U, aU_ne, aU_eq, aU_ne2, Nat.add_assoc]
theorem ml_134b {X : mX} {D : Nat} {cap : Nat × Nat} {P : mPost} {G : mG} {A : Nat → Nat → Nat} {h a r f n : Nat} {st : Nat × Nat × Nat} {R : Prop} (hD : 3 ≤ D) (hh : h ≤ 4) (ha : a < 12) (hr : r < A 190 0) (hnr : A 190 0 ≤ 6) (h1 : 1 ≤ n) (h6 : n ≤ 6) (hw1 : 1 ≤ A 191 r) (hw2 : A 191 r ≤ 12) (ho : oRow A h r f) (hp : ∀ r, r < A 190 0 → A 192 r ≤ 999) (hst : okS st r) (K : ∀ v8 v9 v10, mOk v8 = true → mOk v9 = true → mOk v10 = true → mW (mCall X D) X cap 134 P 9 [.ref 185, .int (tN h), .int (tN a), .int (tN n), .int (tN (bst (upS (A 192) st r (rbk f n 12)))), .int (tN (lst' (upS (A 192) st r (rbk f n 12)))), .int (tN (r + 1)), .int (tN (hol f)), v8, v9, v10] [] (mN A, RF, G, mSh) = R) : ∀ m s u9 u10, s + m = A 191 r + 1 - n → mOk u9 = true → mOk u10 = true → mW (mCall X D) X cap 134 P 51 [.ref 185, .int (tN h), .int (tN a), .int (tN n), .int (tN (bst (upS (A 192) st r (rbk f n s)))), .int (tN (lst' (upS (A 192) st r (rbk f n s)))), .int (tN r), .int (tN (hol f)), .int (tN s), u9, u10] [] (mN A, RF, G, mSh) = R := by
  have hf : f < 4096 := pw_4096 hw2 ho.1
  intro m
  induction m with
  | zero =>
    intro s u9 u10 e g9 g10
    rw [show rbk f n s = rbk f n 12 by rw [rbk_w h1 ho.1 12 (by omega)]; congr 1]
    rw [kh_134_51]
    simp (disch := first | omega | assumption | exact mOk_int | exact mOk_null | exact mOk_ref | (simp (disch := omega) only [aF_ef, aF_nf, aU_ne, aU_eq, aU_ne2]; first | done | omega | assumption)) only [k_134_0, k_134_1, k_134_2, r_push, is_4, is_5, is_6, il_6, al_0, gq_0, gq_1, gq_2, gq_3, gq_4, q_iald, ri_icge, il_2, ri_icle, r_goto, il_1, q_callV2, is_7, is_8, il_8, il_3, r_iadd, ri_icgt, is_9, is_10, il_10, il_9, ri_ifeq, q_callV3, ii_10, ri_ifne, q_callV5, il_7, r_isub, il_4, ri_iceq, il_5, ri_iclt, ri_icne, r_idiv, r_imul, ii_8, ii_6, r_iret, kd_0, kd_1, kd_2, kd_3, kd_4, kd_5, ln_0, ln_1, ln_2, ln_3, ln_4, ln_5, Option.some.injEq, Value.int.injEq, Value.ref.injEq, Value.long.injEq, Prod.mk.injEq, exists_eq_left', exists_eq_left, true_and, and_true, mLk, Option.any_some, mC1, Value.category, Option.toList_some, Option.toList_none, List.nil_append, List.cons_append, List.length_cons, List.length_nil, ne_eq, Nat.reduceEqDiff, not_false_eq_true, reduceCtorEq, exists_and_left, exists_and_right, Nat.reduceLeDiff, Nat.reduceAdd, and_self, exists_eq, exists_eq_right, exists_const, eq_self, exists_eq', not_true_eq_false, false_implies, true_implies, implies_true, forall_const, or_true, true_or, false_or, or_false, and_false, false_and, if_true, if_false, ite_true, ite_false, mB, mOk_int, mOk_ref, mOk_null, mOk_long, Nat.reduceLT, Nat.reduceSub, Nat.reduceMul, Nat.reduceDiv, Nat.reduceMod, Classical.not_not, ↓reduceIte, Nat.zero_add, Nat.add_zero, Nat.add_sub_cancel, Bool.false_eq_true, tN_l, tN_m1, tN_n1, tN_n8, tN_dec, tN_dec8, aF_ef, aF_nf, aF_U, tN_lt, tN_le, tN_inj, tN_add, tN_mul, tN_sub, tN_and, tN_or, tN_xor, tN_and31, tN_clamp, tN_in, tN_div, nm_rem, tN_shl, tN_shr, tN_b2, nd_lt, nd_nlt, nd_le, nd_nle, nd_eq, nd_ne, mN_at, mN_U, aU_ne, aU_eq, aU_ne2]
    exact K _ _ _ mOk_int g9 g10
  | succ m ih =>
    intro s u9 u10 e g9 g10
    have ih' := fun v9 v10 => ih (s + 1) v9 v10 (by omega)
    have hpart := rbk_part hf h1 h6 (show s ≤ 12 by omega)
    have hq : okS (upS (A 192) st r (rbk f n s)) (r + 1) := by
      unfold upS okS
      split
      · right
        refine ⟨by omega, ?_, ?_⟩
        · show rbk f n s % 100 < 12
          omega
        · show rbk f n s / 100 < 4
          omega
      · rcases hst with q | ⟨q1, q2, q3⟩
        · exact .inl q
        · exact .inr ⟨by omega, q2, q3⟩
    have lc := ml_134c (X := X) (D := D) (cap := cap) (P := P) (G := G) (A := A) (h := h) (a := a) (r := r) (f := f) (n := n) (s := s) (be := bst (upS (A 192) st r (rbk f n s))) (le := lst' (upS (A 192) st r (rbk f n s))) (hl := hol f) (by omega) hh (by omega) hw1 hw2 ho (by omega) n 0 (by omega)
    simp only [cnb, if_true, Nat.add_zero] at lc
    rw [kh_134_51]
    simp (disch := first | omega | assumption | exact mOk_int | exact mOk_null | exact mOk_ref | (simp (disch := omega) only [aF_ef, aF_nf, aU_ne, aU_eq, aU_ne2]; first | done | omega | assumption)) only [k_134_0, k_134_1, k_134_2, r_push, is_4, is_5, is_6, il_6, al_0, gq_0, gq_1, gq_2, gq_3, gq_4, q_iald, ri_icge, il_2, ri_icle, r_goto, il_1, q_callV2, is_7, is_8, il_8, il_3, r_iadd, ri_icgt, is_9, is_10, il_10, il_9, ri_ifeq, q_callV3, ii_10, ri_ifne, q_callV5, il_7, r_isub, il_4, ri_iceq, il_5, ri_iclt, ri_icne, r_idiv, r_imul, ii_8, ii_6, r_iret, kd_0, kd_1, kd_2, kd_3, kd_4, kd_5, ln_0, ln_1, ln_2, ln_3, ln_4, ln_5, Option.some.injEq, Value.int.injEq, Value.ref.injEq, Value.long.injEq, Prod.mk.injEq, exists_eq_left', exists_eq_left, true_and, and_true, mLk, Option.any_some, mC1, Value.category, Option.toList_some, Option.toList_none, List.nil_append, List.cons_append, List.length_cons, List.length_nil, ne_eq, Nat.reduceEqDiff, not_false_eq_true, reduceCtorEq, exists_and_left, exists_and_right, Nat.reduceLeDiff, Nat.reduceAdd, and_self, exists_eq, exists_eq_right, exists_const, eq_self, exists_eq', not_true_eq_false, false_implies, true_implies, implies_true, forall_const, or_true, true_or, false_or, or_false, and_false, false_and, if_true, if_false, ite_true, ite_false, mB, mOk_int, mOk_ref, mOk_null, mOk_long, Nat.reduceLT, Nat.reduceSub, Nat.reduceMul, Nat.reduceDiv, Nat.reduceMod, Classical.not_not, ↓reduceIte, Nat.zero_add, Nat.add_zero, Nat.add_sub_cancel, Bool.false_eq_true, tN_l, tN_m1, tN_n1, tN_n8, tN_dec, tN_dec8, aF_ef, aF_nf, aF_U, tN_lt, tN_le, tN_inj, tN_add, tN_mul, tN_and, tN_or, tN_xor, tN_and31, tN_clamp, tN_in, tN_div, nm_rem, tN_shl, tN_shr, tN_b2, nd_lt, nd_nlt, nd_le, nd_nle, nd_eq, nd_ne, mN_at, mN_U, aU_ne, aU_eq, aU_ne2]
    rw [lc]
    clear lc
    by_cases c : cnb f s n = true
    · have hb := cnb_bk.mp c
      have e0 : rbk f n (s + 1) = min (rbk f n s) (100 * (hol (f &&& (bkm n s ^^^ 4294967295)) + 1 - hol f) + s) := if_pos hb
      obtain ⟨hm1, hm2⟩ := mmC_at hf h1 h6 (show s < 12 by omega) hb
      have es := upS_step4 (pr := A 192) (st := st) (r := r) (v := rbk f n s) (m := hol (f &&& (bkm n s ^^^ 4294967295)) + 1 - hol f) (s := s) (by omega) (by omega) hm2 hpart
      rw [← e0] at es
      rw [es] at ih'
      clear es e0
      have e137 := fun P' => m_137 (X := X) (D := D) (P := P') (G := G) (A := A) (h := h) (r := r) (s := s) (n := n) (who := a) (by omega) hh (by omega) (by omega)
      have o1 : oRow (aF A 211 (fun i => if 72 * h + 12 * r + s ≤ i ∧ i < 72 * h + 12 * r + s + n then a else A 211 i)) h r (f &&& (bkm n s ^^^ 4294967295)) := by
        unfold oRow
        rw [aF_nf (by omega), aF_ef]
        refine ⟨off_lt ho.1, fun j hj => ?_⟩
        obtain ⟨p1, p2⟩ := ho.2 j hj
        rw [off_bit hf]
        by_cases z : s ≤ j ∧ j < s + n
        · rw [if_pos (by omega)]
          refine ⟨by omega, ?_⟩
          simp only [z.1, z.2, decide_true, Bool.and_self, Bool.not_true, Bool.and_false, Bool.false_eq_true, iff_false]
          omega
        · rw [if_neg (by omega)]
          refine ⟨p1, ?_⟩
          rw [p2]
          have : (decide (s ≤ j) && decide (j < s + n)) = false := by
            rw [Bool.and_eq_false_iff, decide_eq_false_iff_not, decide_eq_false_iff_not]
            omega
          rw [this, Bool.not_false, Bool.and_true]
      have e135 := fun P' => m_135 (X := X) (D := D) (P := P') (G := G) (h := h) (r := r) (by omega) hh (by omega) (by rw [aF_nf (by omega)]; exact hw1) (by rw [aF_nf (by omega)]; exact hw2) o1
      have e137b := fun P' => m_137 (X := X) (D := D) (P := P') (G := G) (A := aF A 211 (fun i => if 72 * h + 12 * r + s ≤ i ∧ i < 72 * h + 12 * r + s + n then a else A 211 i)) (h := h) (r := r) (s := s) (n := n) (who := 4294967295) (by omega) hh (by omega) (by omega)
      have eid : aF A 211 (fun i => if 72 * h + 12 * r + s ≤ i ∧ i < 72 * h + 12 * r + s + n then 4294967295 else (if 72 * h + 12 * r + s ≤ i ∧ i < 72 * h + 12 * r + s + n then a else A 211 i)) = A := by
        refine aF_id (fun i => ?_)
        by_cases z : 72 * h + 12 * r + s ≤ i ∧ i < 72 * h + 12 * r + s + n
        · rw [if_pos z]
          have q2 := ((ho.2 (i - (72 * h + 12 * r)) (by omega)).2).mpr (bkm_on.mp hb _ (by omega) (by omega))
          rw [show 72 * h + 12 * r + (i - (72 * h + 12 * r)) = i by omega] at q2
          exact q2.symm
        · rw [if_neg z, if_neg z]
      rw [aF_ef, aF_aF, eid] at e137b
      generalize aF A 211 (fun i => if 72 * h + 12 * r + s ≤ i ∧ i < 72 * h + 12 * r + s + n then a else A 211 i) = A1 at e137 e135 e137b
      generalize hol (f &&& (bkm n s ^^^ 4294967295)) = x at *
      generalize hol f = y at *
      generalize upS (A 192) st r (rbk f n s) = q at *
      obtain ⟨q1, q2, q3⟩ := q
      have p1 := hp r hr
      by_cases c1 : q1 = 4294967295
      · have eu : (if q1 = 4294967295 ∨ x + 1 - y < q3 ∨ (x + 1 - y = q3 ∧ A 192 r < A 192 q1) then (r, s, x + 1 - y) else (q1, q2, q3)) = (r, s, x + 1 - y) := if_pos (.inl c1)
        simp only [eu, bst, lst', show ¬ r = 4294967295 by omega, if_false, Nat.mul_comm r 100] at ih'
        simp only [bst, lst', c1, if_true]
        simp (disch := first | omega | assumption | exact mOk_int | exact mOk_null | exact mOk_ref | (simp (disch := omega) only [aF_ef, aF_nf, aU_ne, aU_eq, aU_ne2]; first | done | omega | assumption)) only [k_134_0, k_134_1, k_134_2, r_push, is_4, is_5, is_6, il_6, al_0, gq_0, gq_1, gq_2, gq_3, gq_4, q_iald, ri_icge, il_2, ri_icle, r_goto, il_1, q_callV2, is_7, is_8, il_8, il_3, r_iadd, ri_icgt, is_9, is_10, il_10, il_9, ri_ifeq, q_callV3, ii_10, ri_ifne, q_callV5, il_7, r_isub, il_4, ri_iceq, il_5, ri_iclt, ri_icne, r_idiv, r_imul, ii_8, ii_6, r_iret, kd_0, kd_1, kd_2, kd_3, kd_4, kd_5, ln_0, ln_1, ln_2, ln_3, ln_4, ln_5, Option.some.injEq, Value.int.injEq, Value.ref.injEq, Value.long.injEq, Prod.mk.injEq, exists_eq_left', exists_eq_left, true_and, and_true, mLk, Option.any_some, mC1, Value.category, Option.toList_some, Option.toList_none, List.nil_append, List.cons_append, List.length_cons, List.length_nil, ne_eq, Nat.reduceEqDiff, not_false_eq_true, reduceCtorEq, exists_and_left, exists_and_right, Nat.reduceLeDiff, Nat.reduceAdd, and_self, exists_eq, exists_eq_right, exists_const, eq_self, exists_eq', not_true_eq_false, false_implies, true_implies, implies_true, forall_const, or_true, true_or, false_or, or_false, and_false, false_and, if_true, if_false, ite_true, ite_false, mB, mOk_int, mOk_ref, mOk_null, mOk_long, Nat.reduceLT, Nat.reduceSub, Nat.reduceMul, Nat.reduceDiv, Nat.reduceMod, Classical.not_not, ↓reduceIte, Nat.zero_add, Nat.add_zero, Nat.add_sub_cancel, Bool.false_eq_true, tN_l, tN_m1, tN_n1, tN_n8, aF_ef, aF_nf, aF_U, tN_lt, tN_le, tN_inj, tN_add, tN_mul, tN_and, tN_or, tN_xor, tN_and31, tN_clamp, tN_in, tN_div, nm_rem, tN_shl, tN_shr, tN_b2, nd_lt, nd_nlt, nd_le, nd_nle, nd_eq, nd_ne, mN_at, mN_U, aU_ne, aU_eq, aU_ne2, c, e137, e135, e137b, tN_mo]
        exact ih' _ _ mOk_int mOk_int
      · have hk : q1 < r + 1 ∧ q2 < 12 ∧ q3 < 4 := by
          rcases hq with z | z
          · exact absurd (congrArg (fun z => z.1) z) c1
          · exact z
        have p2 := hp q1 (by omega)
        have ed : (q1 * 100 + q2) / 100 = q1 := by omega
        simp only [bst, lst', c1, if_false]
        by_cases c2 : x + 1 - y < q3
        · have eu : (if q1 = 4294967295 ∨ x + 1 - y < q3 ∨ (x + 1 - y = q3 ∧ A 192 r < A 192 q1) then (r, s, x + 1 - y) else (q1, q2, q3)) = (r, s, x + 1 - y) := if_pos (.inr (.inl c2))
          simp only [eu, bst, lst', show ¬ r = 4294967295 by omega, if_false, Nat.mul_comm r 100] at ih'
          simp (disch := first | omega | assumption | exact mOk_int | exact mOk_null | exact mOk_ref | (simp (disch := omega) only [aF_ef, aF_nf, aU_ne, aU_eq, aU_ne2]; first | done | omega | assumption)) only [k_134_0, k_134_1, k_134_2, r_push, is_4, is_5, is_6, il_6, al_0, gq_0, gq_1, gq_2, gq_3, gq_4, q_iald, ri_icge, il_2, ri_icle, r_goto, il_1, q_callV2, is_7, is_8, il_8, il_3, r_iadd, ri_icgt, is_9, is_10, il_10, il_9, ri_ifeq, q_callV3, ii_10, ri_ifne, q_callV5, il_7, r_isub, il_4, ri_iceq, il_5, ri_iclt, ri_icne, r_idiv, r_imul, ii_8, ii_6, r_iret, kd_0, kd_1, kd_2, kd_3, kd_4, kd_5, ln_0, ln_1, ln_2, ln_3, ln_4, ln_5, Option.some.injEq, Value.int.injEq, Value.ref.injEq, Value.long.injEq, Prod.mk.injEq, exists_eq_left', exists_eq_left, true_and, and_true, mLk, Option.any_some, mC1, Value.category, Option.toList_some, Option.toList_none, List.nil_append, List.cons_append, List.length_cons, List.length_nil, ne_eq, Nat.reduceEqDiff, not_false_eq_true, reduceCtorEq, exists_and_left, exists_and_right, Nat.reduceLeDiff, Nat.reduceAdd, and_self, exists_eq, exists_eq_right, exists_const, eq_self, exists_eq', not_true_eq_false, false_implies, true_implies, implies_true, forall_const, or_true, true_or, false_or, or_false, and_false, false_and, if_true, if_false, ite_true, ite_false, mB, mOk_int, mOk_ref, mOk_null, mOk_long, Nat.reduceLT, Nat.reduceSub, Nat.reduceMul, Nat.reduceDiv, Nat.reduceMod, Classical.not_not, ↓reduceIte, Nat.zero_add, Nat.add_zero, Nat.add_sub_cancel, Bool.false_eq_true, tN_l, tN_m1, tN_n1, tN_n8, aF_ef, aF_nf, aF_U, tN_lt, tN_le, tN_inj, tN_add, tN_mul, tN_and, tN_or, tN_xor, tN_and31, tN_clamp, tN_in, tN_div, nm_rem, tN_shl, tN_shr, tN_b2, nd_lt, nd_nlt, nd_le, nd_nle, nd_eq, nd_ne, mN_at, mN_U, aU_ne, aU_eq, aU_ne2, c, e137, e135, e137b, tN_mo, mo_lt, c2]
          exact ih' _ _ mOk_int mOk_int
        · by_cases c3 : x + 1 - y = q3
          · by_cases c4 : A 192 r < A 192 q1
            · have eu : (if q1 = 4294967295 ∨ x + 1 - y < q3 ∨ (x + 1 - y = q3 ∧ A 192 r < A 192 q1) then (r, s, x + 1 - y) else (q1, q2, q3)) = (r, s, x + 1 - y) := if_pos (.inr (.inr ⟨c3, c4⟩))
              simp only [eu, bst, lst', show ¬ r = 4294967295 by omega, if_false, Nat.mul_comm r 100] at ih'
              simp (disch := first | omega | assumption | exact mOk_int | exact mOk_null | exact mOk_ref | (simp (disch := omega) only [aF_ef, aF_nf, aU_ne, aU_eq, aU_ne2]; first | done | omega | assumption)) only [k_134_0, k_134_1, k_134_2, r_push, is_4, is_5, is_6, il_6, al_0, gq_0, gq_1, gq_2, gq_3, gq_4, q_iald, ri_icge, il_2, ri_icle, r_goto, il_1, q_callV2, is_7, is_8, il_8, il_3, r_iadd, ri_icgt, is_9, is_10, il_10, il_9, ri_ifeq, q_callV3, ii_10, ri_ifne, q_callV5, il_7, r_isub, il_4, ri_iceq, il_5, ri_iclt, ri_icne, r_idiv, r_imul, ii_8, ii_6, r_iret, kd_0, kd_1, kd_2, kd_3, kd_4, kd_5, ln_0, ln_1, ln_2, ln_3, ln_4, ln_5, Option.some.injEq, Value.int.injEq, Value.ref.injEq, Value.long.injEq, Prod.mk.injEq, exists_eq_left', exists_eq_left, true_and, and_true, mLk, Option.any_some, mC1, Value.category, Option.toList_some, Option.toList_none, List.nil_append, List.cons_append, List.length_cons, List.length_nil, ne_eq, Nat.reduceEqDiff, not_false_eq_true, reduceCtorEq, exists_and_left, exists_and_right, Nat.reduceLeDiff, Nat.reduceAdd, and_self, exists_eq, exists_eq_right, exists_const, eq_self, exists_eq', not_true_eq_false, false_implies, true_implies, implies_true, forall_const, or_true, true_or, false_or, or_false, and_false, false_and, if_true, if_false, ite_true, ite_false, mB, mOk_int, mOk_ref, mOk_null, mOk_long, Nat.reduceLT, Nat.reduceSub, Nat.reduceMul, Nat.reduceDiv, Nat.reduceMod, Classical.not_not, ↓reduceIte, Nat.zero_add, Nat.add_zero, Nat.add_sub_cancel, Bool.false_eq_true, tN_l, tN_m1, tN_n1, tN_n8, aF_ef, aF_nf, aF_U, tN_lt, tN_le, tN_inj, tN_add, tN_mul, tN_and, tN_or, tN_xor, tN_and31, tN_clamp, tN_in, tN_div, nm_rem, tN_shl, tN_shr, tN_b2, nd_lt, nd_nlt, nd_le, nd_nle, nd_eq, nd_ne, mN_at, mN_U, aU_ne, aU_eq, aU_ne2, c, e137, e135, e137b, tN_mo, mo_lt, mo_eq, c2, c3, ed]
              rw [c3] at ih'
              exact ih' _ _ mOk_int mOk_int
            · have eu : (if q1 = 4294967295 ∨ x + 1 - y < q3 ∨ (x + 1 - y = q3 ∧ A 192 r < A 192 q1) then (r, s, x + 1 - y) else (q1, q2, q3)) = (q1, q2, q3) := if_neg (fun z => by omega)
              simp only [eu] at ih'
              simp only [bst, lst', c1, if_false] at ih'
              simp (disch := first | omega | assumption | exact mOk_int | exact mOk_null | exact mOk_ref | (simp (disch := omega) only [aF_ef, aF_nf, aU_ne, aU_eq, aU_ne2]; first | done | omega | assumption)) only [k_134_0, k_134_1, k_134_2, r_push, is_4, is_5, is_6, il_6, al_0, gq_0, gq_1, gq_2, gq_3, gq_4, q_iald, ri_icge, il_2, ri_icle, r_goto, il_1, q_callV2, is_7, is_8, il_8, il_3, r_iadd, ri_icgt, is_9, is_10, il_10, il_9, ri_ifeq, q_callV3, ii_10, ri_ifne, q_callV5, il_7, r_isub, il_4, ri_iceq, il_5, ri_iclt, ri_icne, r_idiv, r_imul, ii_8, ii_6, r_iret, kd_0, kd_1, kd_2, kd_3, kd_4, kd_5, ln_0, ln_1, ln_2, ln_3, ln_4, ln_5, Option.some.injEq, Value.int.injEq, Value.ref.injEq, Value.long.injEq, Prod.mk.injEq, exists_eq_left', exists_eq_left, true_and, and_true, mLk, Option.any_some, mC1, Value.category, Option.toList_some, Option.toList_none, List.nil_append, List.cons_append, List.length_cons, List.length_nil, ne_eq, Nat.reduceEqDiff, not_false_eq_true, reduceCtorEq, exists_and_left, exists_and_right, Nat.reduceLeDiff, Nat.reduceAdd, and_self, exists_eq, exists_eq_right, exists_const, eq_self, exists_eq', not_true_eq_false, false_implies, true_implies, implies_true, forall_const, or_true, true_or, false_or, or_false, and_false, false_and, if_true, if_false, ite_true, ite_false, mB, mOk_int, mOk_ref, mOk_null, mOk_long, Nat.reduceLT, Nat.reduceSub, Nat.reduceMul, Nat.reduceDiv, Nat.reduceMod, Classical.not_not, ↓reduceIte, Nat.zero_add, Nat.add_zero, Nat.add_sub_cancel, Bool.false_eq_true, tN_l, tN_m1, tN_n1, tN_n8, aF_ef, aF_nf, aF_U, tN_lt, tN_le, tN_inj, tN_add, tN_mul, tN_and, tN_or, tN_xor, tN_and31, tN_clamp, tN_in, tN_div, nm_rem, tN_shl, tN_shr, tN_b2, nd_lt, nd_nlt, nd_le, nd_nle, nd_eq, nd_ne, mN_at, mN_U, aU_ne, aU_eq, aU_ne2, c, e137, e135, e137b, tN_mo, mo_lt, mo_eq, c2, c3, ed]
              exact ih' _ _ mOk_int mOk_int
          · have eu : (if q1 = 4294967295 ∨ x + 1 - y < q3 ∨ (x + 1 - y = q3 ∧ A 192 r < A 192 q1) then (r, s, x + 1 - y) else (q1, q2, q3)) = (q1, q2, q3) := if_neg (fun z => by omega)
            simp only [eu] at ih'
            simp only [bst, lst', c1, if_false] at ih'
            simp (disch := first | omega | assumption | exact mOk_int | exact mOk_null | exact mOk_ref | (simp (disch := omega) only [aF_ef, aF_nf, aU_ne, aU_eq, aU_ne2]; first | done | omega | assumption)) only [k_134_0, k_134_1, k_134_2, r_push, is_4, is_5, is_6, il_6, al_0, gq_0, gq_1, gq_2, gq_3, gq_4, q_iald, ri_icge, il_2, ri_icle, r_goto, il_1, q_callV2, is_7, is_8, il_8, il_3, r_iadd, ri_icgt, is_9, is_10, il_10, il_9, ri_ifeq, q_callV3, ii_10, ri_ifne, q_callV5, il_7, r_isub, il_4, ri_iceq, il_5, ri_iclt, ri_icne, r_idiv, r_imul, ii_8, ii_6, r_iret, kd_0, kd_1, kd_2, kd_3, kd_4, kd_5, ln_0, ln_1, ln_2, ln_3, ln_4, ln_5, Option.some.injEq, Value.int.injEq, Value.ref.injEq, Value.long.injEq, Prod.mk.injEq, exists_eq_left', exists_eq_left, true_and, and_true, mLk, Option.any_some, mC1, Value.category, Option.toList_some, Option.toList_none, List.nil_append, List.cons_append, List.length_cons, List.length_nil, ne_eq, Nat.reduceEqDiff, not_false_eq_true, reduceCtorEq, exists_and_left, exists_and_right, Nat.reduceLeDiff, Nat.reduceAdd, and_self, exists_eq, exists_eq_right, exists_const, eq_self, exists_eq', not_true_eq_false, false_implies, true_implies, implies_true, forall_const, or_true, true_or, false_or, or_false, and_false, false_and, if_true, if_false, ite_true, ite_false, mB, mOk_int, mOk_ref, mOk_null, mOk_long, Nat.reduceLT, Nat.reduceSub, Nat.reduceMul, Nat.reduceDiv, Nat.reduceMod, Classical.not_not, ↓reduceIte, Nat.zero_add, Nat.add_zero, Nat.add_sub_cancel, Bool.false_eq_true, tN_l, tN_m1, tN_n1, tN_n8, aF_ef, aF_nf, aF_U, tN_lt, tN_le, tN_inj, tN_add, tN_mul, tN_and, tN_or, tN_xor, tN_and31, tN_clamp, tN_in, tN_div, nm_rem, tN_shl, tN_shr, tN_b2, nd_lt, nd_nlt, nd_le, nd_nle, nd_eq, nd_ne, mN_at, mN_U, aU_ne, aU_eq, aU_ne2, c, e137, e135, e137b, tN_mo, mo_lt, mo_eq, c2, c3]
            exact ih' _ _ mOk_int mOk_int
    · have e0 : rbk f n (s + 1) = rbk f n s := if_neg (fun z => c (cnb_bk.mpr z))
      rw [e0] at ih'
      simp (disch := first | omega | assumption | exact mOk_int | exact mOk_null | exact mOk_ref | (simp (disch := omega) only [aF_ef, aF_nf, aU_ne, aU_eq, aU_ne2]; first | done | omega | assumption)) only [k_134_0, k_134_1, k_134_2, r_push, is_4, is_5, is_6, il_6, al_0, gq_0, gq_1, gq_2, gq_3, gq_4, q_iald, ri_icge, il_2, ri_icle, r_goto, il_1, q_callV2, is_7, is_8, il_8, il_3, r_iadd, ri_icgt, is_9, is_10, il_10, il_9, ri_ifeq, q_callV3, ii_10, ri_ifne, q_callV5, il_7, r_isub, il_4, ri_iceq, il_5, ri_iclt, ri_icne, r_idiv, r_imul, ii_8, ii_6, r_iret, kd_0, kd_1, kd_2, kd_3, kd_4, kd_5, ln_0, ln_1, ln_2, ln_3, ln_4, ln_5, Option.some.injEq, Value.int.injEq, Value.ref.injEq, Value.long.injEq, Prod.mk.injEq, exists_eq_left', exists_eq_left, true_and, and_true, mLk, Option.any_some, mC1, Value.category, Option.toList_some, Option.toList_none, List.nil_append, List.cons_append, List.length_cons, List.length_nil, ne_eq, Nat.reduceEqDiff, not_false_eq_true, reduceCtorEq, exists_and_left, exists_and_right, Nat.reduceLeDiff, Nat.reduceAdd, and_self, exists_eq, exists_eq_right, exists_const, eq_self, exists_eq', not_true_eq_false, false_implies, true_implies, implies_true, forall_const, or_true, true_or, false_or, or_false, and_false, false_and, if_true, if_false, ite_true, ite_false, mB, mOk_int, mOk_ref, mOk_null, mOk_long, Nat.reduceLT, Nat.reduceSub, Nat.reduceMul, Nat.reduceDiv, Nat.reduceMod, Classical.not_not, ↓reduceIte, Nat.zero_add, Nat.add_zero, Nat.add_sub_cancel, Bool.false_eq_true, tN_l, tN_m1, tN_n1, tN_n8, tN_dec, tN_dec8, aF_ef, aF_nf, aF_U, tN_lt, tN_le, tN_inj, tN_add, tN_mul, tN_and, tN_or, tN_xor, tN_and31, tN_clamp, tN_in, tN_div, nm_rem, tN_shl, tN_shr, tN_b2, nd_lt, nd_nlt, nd_le, nd_nle, nd_eq, nd_ne, mN_at, mN_U, aU_ne, aU_eq, aU_ne2, c, Bool.false_eq_true]
      exact ih' _ _ mOk_int mOk_int
theorem ml_134 {X : mX} {D : Nat} {cap : Nat × Nat} {P : mPost} {G : mG} {A : Nat → Nat → Nat} {h a n : Nat} {F : Nat → Nat} (hD : 3 ≤ D) (hh : h ≤ 4) (ha : a < 12) (hnr : A 190 0 ≤ 6) (h1 : 1 ≤ n) (h6 : n ≤ 6) (hm : A 195 a ≤ 999) (hw : ∀ r, r < A 190 0 → 1 ≤ A 191 r ∧ A 191 r ≤ 12) (ho : ∀ r, r < A 190 0 → oRow A h r (F r)) (hp : ∀ r, r < A 190 0 → A 192 r ≤ 999) : ∀ m r u7 u8 u9 u10, r + m = A 190 0 → mOk u7 = true → mOk u8 = true → mOk u9 = true → mOk u10 = true → mW (mCall X D) X cap 134 P 9 [.ref 185, .int (tN h), .int (tN a), .int (tN n), .int (tN (bst (bbS (A 192) F n (A 195 a) r))), .int (tN (lst' (bbS (A 192) F n (A 195 a) r))), .int (tN r), u7, u8, u9, u10] [] (mN A, RF, G, mSh) = P (some (.int (tN (bbv (A 192) F n (A 195 a) (A 190 0))))) (mN A, RF, G, mSh) := by
  intro m
  induction m with
  | zero =>
    intro r u7 u8 u9 u10 e g7 g8 g9 g10
    obtain rfl : r = A 190 0 := by omega
    rw [kh_134_9]
    simp (disch := first | omega | assumption | exact mOk_int | exact mOk_null | exact mOk_ref | (simp (disch := omega) only [aF_ef, aF_nf, aU_ne, aU_eq, aU_ne2]; first | done | omega | assumption)) only [k_134_0, k_134_1, k_134_2, r_push, is_4, is_5, is_6, il_6, al_0, gq_0, gq_1, gq_2, gq_3, gq_4, q_iald, ri_icge, il_2, ri_icle, r_goto, il_1, q_callV2, is_7, is_8, il_8, il_3, r_iadd, ri_icgt, is_9, is_10, il_10, il_9, ri_ifeq, q_callV3, ii_10, ri_ifne, q_callV5, il_7, r_isub, il_4, ri_iceq, il_5, ri_iclt, ri_icne, r_idiv, r_imul, ii_8, ii_6, r_iret, kd_0, kd_1, kd_2, kd_3, kd_4, kd_5, ln_0, ln_1, ln_2, ln_3, ln_4, ln_5, Option.some.injEq, Value.int.injEq, Value.ref.injEq, Value.long.injEq, Prod.mk.injEq, exists_eq_left', exists_eq_left, true_and, and_true, mLk, Option.any_some, mC1, Value.category, Option.toList_some, Option.toList_none, List.nil_append, List.cons_append, List.length_cons, List.length_nil, ne_eq, Nat.reduceEqDiff, not_false_eq_true, reduceCtorEq, exists_and_left, exists_and_right, Nat.reduceLeDiff, Nat.reduceAdd, and_self, exists_eq, exists_eq_right, exists_const, eq_self, exists_eq', not_true_eq_false, false_implies, true_implies, implies_true, forall_const, or_true, true_or, false_or, or_false, and_false, false_and, if_true, if_false, ite_true, ite_false, mB, mOk_int, mOk_ref, mOk_null, mOk_long, Nat.reduceLT, Nat.reduceSub, Nat.reduceMul, Nat.reduceDiv, Nat.reduceMod, Classical.not_not, ↓reduceIte, Nat.zero_add, Nat.add_zero, Nat.add_sub_cancel, Bool.false_eq_true, tN_l, tN_m1, tN_n1, tN_n8, tN_dec, tN_dec8, aF_ef, aF_nf, aF_U, tN_lt, tN_le, tN_inj, tN_add, tN_mul, tN_sub, tN_and, tN_or, tN_xor, tN_and31, tN_clamp, tN_in, tN_div, nm_rem, tN_shl, tN_shr, tN_b2, nd_lt, nd_nlt, nd_le, nd_nle, nd_eq, nd_ne, mN_at, mN_U, aU_ne, aU_eq, aU_ne2]
    rfl
  | succ m ih =>
    intro r u7 u8 u9 u10 e g7 g8 g9 g10
    have hr : r < A 190 0 := by omega
    have hF : ∀ r, r < A 190 0 → F r < 4096 := fun r hr => pw_4096 (hw r hr).2 (ho r hr).1
    have hst : okS (bbS (A 192) F n (A 195 a) r) r := by
      rcases bbS_ok h1 h6 r (fun r hr => hF r (by omega)) (by omega) (pr := A 192) (most := A 195 a) with q | ⟨q1, q2, q3, _, _⟩
      · exact .inl q
      · exact .inr ⟨q1, q2, by omega⟩
    have ih' := ih (r + 1)
    have hb : bbS (A 192) F n (A 195 a) (r + 1) = if A 192 r ≤ A 195 a then upS (A 192) (bbS (A 192) F n (A 195 a) r) r (rbk (F r) n 12) else bbS (A 192) F n (A 195 a) r := rfl
    rw [hb] at ih'
    have p1 := hp r hr
    obtain ⟨w1, w2⟩ := hw r hr
    by_cases c : A 192 r ≤ A 195 a
    · rw [if_pos c] at ih'
      have lb := ml_134b (X := X) (D := D) (cap := cap) (P := P) (G := G) (A := A) (h := h) (a := a) (r := r) (f := F r) (n := n) (st := bbS (A 192) F n (A 195 a) r) hD hh ha hr hnr h1 h6 w1 w2 (ho r hr) hp hst (fun v8 v9 v10 z8 z9 z10 => ih' _ v8 v9 v10 (by omega) mOk_int z8 z9 z10) (A 191 r + 1 - n) 0 u9 u10 (by omega) g9 g10
      have e0 : upS (A 192) (bbS (A 192) F n (A 195 a) r) r (rbk (F r) n 0) = bbS (A 192) F n (A 195 a) r := if_neg (fun z => absurd z.1 (by show ¬ (1000 < 1000); omega))
      rw [e0] at lb
      have e135 := fun P' => m_135 (X := X) (D := D) (P := P') (G := G) (A := A) (h := h) (r := r) (by omega) hh (by omega) w1 w2 (ho r hr)
      generalize bbS (A 192) F n (A 195 a) r = st at *
      rw [kh_134_9]
      simp (disch := first | omega | assumption | exact mOk_int | exact mOk_null | exact mOk_ref | (simp (disch := omega) only [aF_ef, aF_nf, aU_ne, aU_eq, aU_ne2]; first | done | omega | assumption)) only [k_134_0, k_134_1, k_134_2, r_push, is_4, is_5, is_6, il_6, al_0, gq_0, gq_1, gq_2, gq_3, gq_4, q_iald, ri_icge, il_2, ri_icle, r_goto, il_1, q_callV2, is_7, is_8, il_8, il_3, r_iadd, ri_icgt, is_9, is_10, il_10, il_9, ri_ifeq, q_callV3, ii_10, ri_ifne, q_callV5, il_7, r_isub, il_4, ri_iceq, il_5, ri_iclt, ri_icne, r_idiv, r_imul, ii_8, ii_6, r_iret, kd_0, kd_1, kd_2, kd_3, kd_4, kd_5, ln_0, ln_1, ln_2, ln_3, ln_4, ln_5, Option.some.injEq, Value.int.injEq, Value.ref.injEq, Value.long.injEq, Prod.mk.injEq, exists_eq_left', exists_eq_left, true_and, and_true, mLk, Option.any_some, mC1, Value.category, Option.toList_some, Option.toList_none, List.nil_append, List.cons_append, List.length_cons, List.length_nil, ne_eq, Nat.reduceEqDiff, not_false_eq_true, reduceCtorEq, exists_and_left, exists_and_right, Nat.reduceLeDiff, Nat.reduceAdd, and_self, exists_eq, exists_eq_right, exists_const, eq_self, exists_eq', not_true_eq_false, false_implies, true_implies, implies_true, forall_const, or_true, true_or, false_or, or_false, and_false, false_and, if_true, if_false, ite_true, ite_false, mB, mOk_int, mOk_ref, mOk_null, mOk_long, Nat.reduceLT, Nat.reduceSub, Nat.reduceMul, Nat.reduceDiv, Nat.reduceMod, Classical.not_not, ↓reduceIte, Nat.zero_add, Nat.add_zero, Nat.add_sub_cancel, Bool.false_eq_true, tN_l, tN_m1, tN_n1, tN_n8, tN_dec, tN_dec8, aF_ef, aF_nf, aF_U, tN_lt, tN_le, tN_inj, tN_add, tN_mul, tN_sub, tN_and, tN_or, tN_xor, tN_and31, tN_clamp, tN_in, tN_div, nm_rem, tN_shl, tN_shr, tN_b2, nd_lt, nd_nlt, nd_le, nd_nle, nd_eq, nd_ne, mN_at, mN_U, aU_ne, aU_eq, aU_ne2, e135]
      exact lb
    · rw [if_neg c] at ih'
      generalize bbS (A 192) F n (A 195 a) r = st at *
      rw [kh_134_9]
      simp (disch := first | omega | assumption | exact mOk_int | exact mOk_null | exact mOk_ref | (simp (disch := omega) only [aF_ef, aF_nf, aU_ne, aU_eq, aU_ne2]; first | done | omega | assumption)) only [k_134_0, k_134_1, k_134_2, r_push, is_4, is_5, is_6, il_6, al_0, gq_0, gq_1, gq_2, gq_3, gq_4, q_iald, ri_icge, il_2, ri_icle, r_goto, il_1, q_callV2, is_7, is_8, il_8, il_3, r_iadd, ri_icgt, is_9, is_10, il_10, il_9, ri_ifeq, q_callV3, ii_10, ri_ifne, q_callV5, il_7, r_isub, il_4, ri_iceq, il_5, ri_iclt, ri_icne, r_idiv, r_imul, ii_8, ii_6, r_iret, kd_0, kd_1, kd_2, kd_3, kd_4, kd_5, ln_0, ln_1, ln_2, ln_3, ln_4, ln_5, Option.some.injEq, Value.int.injEq, Value.ref.injEq, Value.long.injEq, Prod.mk.injEq, exists_eq_left', exists_eq_left, true_and, and_true, mLk, Option.any_some, mC1, Value.category, Option.toList_some, Option.toList_none, List.nil_append, List.cons_append, List.length_cons, List.length_nil, ne_eq, Nat.reduceEqDiff, not_false_eq_true, reduceCtorEq, exists_and_left, exists_and_right, Nat.reduceLeDiff, Nat.reduceAdd, and_self, exists_eq, exists_eq_right, exists_const, eq_self, exists_eq', not_true_eq_false, false_implies, true_implies, implies_true, forall_const, or_true, true_or, false_or, or_false, and_false, false_and, if_true, if_false, ite_true, ite_false, mB, mOk_int, mOk_ref, mOk_null, mOk_long, Nat.reduceLT, Nat.reduceSub, Nat.reduceMul, Nat.reduceDiv, Nat.reduceMod, Classical.not_not, ↓reduceIte, Nat.zero_add, Nat.add_zero, Nat.add_sub_cancel, Bool.false_eq_true, tN_l, tN_m1, tN_n1, tN_n8, tN_dec, tN_dec8, aF_ef, aF_nf, aF_U, tN_lt, tN_le, tN_inj, tN_add, tN_mul, tN_sub, tN_and, tN_or, tN_xor, tN_and31, tN_clamp, tN_in, tN_div, nm_rem, tN_shl, tN_shr, tN_b2, nd_lt, nd_nlt, nd_le, nd_nle, nd_eq, nd_ne, mN_at, mN_U, aU_ne, aU_eq, aU_ne2]
      exact ih' _ _ _ _ (by omega) g7 g8 g9 g10
theorem m_134 {X : mX} {D : Nat} {P : mPost} {A : Nat → Nat → Nat} {G : mG} {h a n : Nat} {F : Nat → Nat} (hD : 4 ≤ D) (hh : h ≤ 4) (ha : a < 12) (hnr : A 190 0 ≤ 6) (h1 : 1 ≤ n) (h6 : n ≤ 6) (hm : A 195 a ≤ 999) (hw : ∀ r, r < A 190 0 → 1 ≤ A 191 r ∧ A 191 r ≤ 12) (ho : ∀ r, r < A 190 0 → oRow A h r (F r)) (hp : ∀ r, r < A 190 0 → A 192 r ≤ 999) : mCall X D 134 [.ref 185, .int (tN h), .int (tN a), .int (tN n)] (mN A, RF, G, mSh) P = P (some (.int (tN (bbv (A 192) F n (A 195 a) (A 190 0))))) (mN A, RF, G, mSh) := by
  have := ml_134 (X := X) (D := D - 1) (cap := (mSh.length + (mAl 134).fst, mSum mSh + (mAl 134).snd)) (P := P) (G := G) (by omega) hh ha hnr h1 h6 hm hw ho hp (A 190 0) 0 .null .null .null .null (by omega) mOk_null mOk_null mOk_null mOk_null
  rw [e_134 (by omega)]
  simp (disch := first | omega | assumption | exact mOk_int | exact mOk_null | exact mOk_ref | (simp (disch := omega) only [aF_ef, aF_nf, aU_ne, aU_eq, aU_ne2]; first | done | omega | assumption)) only [k_134_0, k_134_1, k_134_2, r_push, is_4, is_5, is_6, il_6, al_0, gq_0, gq_1, gq_2, gq_3, gq_4, q_iald, ri_icge, il_2, ri_icle, r_goto, il_1, q_callV2, is_7, is_8, il_8, il_3, r_iadd, ri_icgt, is_9, is_10, il_10, il_9, ri_ifeq, q_callV3, ii_10, ri_ifne, q_callV5, il_7, r_isub, il_4, ri_iceq, il_5, ri_iclt, ri_icne, r_idiv, r_imul, ii_8, ii_6, r_iret, kd_0, kd_1, kd_2, kd_3, kd_4, kd_5, ln_0, ln_1, ln_2, ln_3, ln_4, ln_5, Option.some.injEq, Value.int.injEq, Value.ref.injEq, Value.long.injEq, Prod.mk.injEq, exists_eq_left', exists_eq_left, true_and, and_true, mLk, Option.any_some, mC1, Value.category, Option.toList_some, Option.toList_none, List.nil_append, List.cons_append, List.length_cons, List.length_nil, ne_eq, Nat.reduceEqDiff, not_false_eq_true, reduceCtorEq, exists_and_left, exists_and_right, Nat.reduceLeDiff, Nat.reduceAdd, and_self, exists_eq, exists_eq_right, exists_const, eq_self, exists_eq', not_true_eq_false, false_implies, true_implies, implies_true, forall_const, or_true, true_or, false_or, or_false, and_false, false_and, if_true, if_false, ite_true, ite_false, mB, mOk_int, mOk_ref, mOk_null, mOk_long, Nat.reduceLT, Nat.reduceSub, Nat.reduceMul, Nat.reduceDiv, Nat.reduceMod, Classical.not_not, ↓reduceIte, Nat.zero_add, Nat.add_zero, Nat.add_sub_cancel, Bool.false_eq_true, tN_l, tN_m1, tN_n1, tN_n8, tN_dec, tN_dec8, aF_ef, aF_nf, aF_U, tN_lt, tN_le, tN_inj, tN_add, tN_mul, tN_sub, tN_and, tN_or, tN_xor, tN_and31, tN_clamp, tN_in, tN_div, nm_rem, tN_shl, tN_shr, tN_b2, nd_lt, nd_nlt, nd_le, nd_nle, nd_eq, nd_ne, mN_at, mN_U, aU_ne, aU_eq, aU_ne2]
  exact this
