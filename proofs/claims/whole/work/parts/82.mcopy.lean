set_option maxRecDepth 20000
set_option maxHeartbeats 4000000
/-! MODEL: a slot is copied -/
def nbo (x : Nat) : Nat := (vp_nar .boolean (tN x)).toUInt32.toNat
def nby (x : Nat) : Nat := (vp_nar .byte (tN x)).toUInt32.toNat
theorem tN_to (x : Int32) : x = tN x.toUInt32.toNat := by
  apply Int32.toBitVec_inj.mp
  apply BitVec.eq_of_toNat_eq
  show _ = (Int32.ofNat _).toBitVec.toNat
  rw [Int32.toBitVec_ofNat', BitVec.toNat_ofNat]
  exact (Nat.mod_eq_of_lt x.toUInt32.toNat_lt).symm
theorem nbo_at {x : Nat} : vp_nar .boolean (tN x) = tN (nbo x) := tN_to _
theorem nby_at {x : Nat} : vp_nar .byte (tN x) = tN (nby x) := tN_to _
theorem nbo_1 {x : Nat} (h : x ≤ 1) : nbo x = x := by
  have : x = 0 ∨ x = 1 := by omega
  rcases this with rfl | rfl <;> decide
theorem nby_sb {b : Nat} (h : b < 256) : nby (sb b) = sb b := by
  have : ∀ b, b < 256 → nby (sb b) = sb b := by decide +kernel
  exact this b h
def mvF (v f : Nat → Nat) (n fr to : Nat) : Nat → Nat := fun i => if n * to ≤ i ∧ i < n * to + n then v (f (n * fr + (i - n * to))) else f i
def idN (x : Nat) : Nat := x
theorem mv_dis {n fr to : Nat} (h : fr ≠ to) (h3 : fr ≤ 3) (h4 : to ≤ 3) : (n * fr + n ≤ n * to ∨ n * to + n ≤ n * fr) ∧ n * fr + n ≤ 4 * n ∧ n * to + n ≤ 4 * n := by
  have e1 : n * fr + n = n * (fr + 1) := rfl
  have e2 : n * to + n = n * (to + 1) := rfl
  have e3 : 4 * n = n * 4 := Nat.mul_comm 4 n
  rw [e1, e2, e3]
  refine ⟨?_, Nat.mul_le_mul_left n (by omega), Nat.mul_le_mul_left n (by omega)⟩
  by_cases c : fr < to
  · exact .inl (Nat.mul_le_mul_left n (by omega))
  · exact .inr (Nat.mul_le_mul_left n (by omega))
theorem ml_179 {X : mX} {D : Nat} {cap : Nat × Nat} {P : mPost} {G : mG} {A : Nat → Nat → Nat} {c n fr to : Nat} (hc : c < 221) (hk : mKd c = 21) (hl : 4 * n ≤ mLn c) (h5 : mLn c ≤ 400) (h : fr ≠ to) (h3 : fr ≤ 3) (h4 : to ≤ 3) : ∀ m k, k + m = n → mW (mCall X D) X cap 179 P 3 [.ref c, .int (tN n), .int (tN fr), .int (tN to), .int (tN k)] [] (mN (aF A c (fun i => if n * to ≤ i ∧ i < n * to + k then A c (n * fr + (i - n * to)) else A c i)), RF, G, mSh) = P none (mN (aF A c (mvF idN (A c) n fr to)), RF, G, mSh) := by
  obtain ⟨d1, d2, d3⟩ := mv_dis (n := n) h h3 h4
  intro m
  induction m with
  | zero =>
    intro k e
    obtain rfl : k = n := by omega
    rw [kh_179_3]
    simp (disch := first | omega | assumption | exact mOk_int | exact mOk_null | exact mOk_ref | (simp (disch := omega) only [aF_ef, aF_nf, aU_ne, aU_eq, aU_ne2]; first | done | omega | assumption)) only [k_179_0, r_push, is_4, il_4, il_1, ri_icge, al_0, il_3, r_imul, r_iadd, il_2, q_iald, q_iast, ii_4, r_goto, r_vret, kd_0, kd_1, kd_2, kd_3, kd_4, kd_5, ln_0, ln_1, ln_2, ln_3, ln_4, ln_5, Option.some.injEq, Value.int.injEq, Value.ref.injEq, Value.long.injEq, Prod.mk.injEq, exists_eq_left', exists_eq_left, true_and, and_true, mLk, Option.any_some, mC1, Value.category, Option.toList_some, Option.toList_none, List.nil_append, List.cons_append, List.length_cons, List.length_nil, ne_eq, Nat.reduceEqDiff, not_false_eq_true, reduceCtorEq, exists_and_left, exists_and_right, Nat.reduceLeDiff, Nat.reduceAdd, and_self, exists_eq, exists_eq_right, exists_const, eq_self, exists_eq', not_true_eq_false, false_implies, true_implies, implies_true, forall_const, or_true, true_or, false_or, or_false, and_false, false_and, if_true, if_false, ite_true, ite_false, mB, mOk_int, mOk_ref, mOk_null, mOk_long, Nat.reduceLT, Nat.reduceSub, Nat.reduceMul, Nat.reduceDiv, Nat.reduceMod, Classical.not_not, ↓reduceIte, Nat.zero_add, Nat.add_zero, Nat.add_sub_cancel, Bool.false_eq_true, tN_l, tN_m1, tN_n1, tN_n8, tN_dec, tN_dec8, aF_ef, aF_nf, aF_U, tN_lt, tN_le, tN_inj, tN_add, tN_mul, tN_sub, tN_and, tN_or, tN_xor, tN_and31, tN_clamp, tN_in, tN_div, nm_rem, tN_shl, tN_shr, tN_b2, nd_lt, nd_nlt, nd_le, nd_nle, nd_eq, nd_ne, mN_at, mN_U, aU_ne, aU_eq, aU_ne2]
    rfl
  | succ m ih =>
    intro k e
    have er : (if n * to ≤ n * fr + k ∧ n * fr + k < n * to + k then A c (n * fr + (n * fr + k - n * to)) else A c (n * fr + k)) = A c (n * fr + k) := if_neg (by omega)
    rw [← ih (k + 1) (by omega), kh_179_3]
    simp (disch := first | omega | assumption | exact mOk_int | exact mOk_null | exact mOk_ref | (simp (disch := omega) only [aF_ef, aF_nf, aU_ne, aU_eq, aU_ne2]; first | done | omega | assumption)) only [k_179_0, r_push, is_4, il_4, il_1, ri_icge, al_0, il_3, r_imul, r_iadd, il_2, q_iald, q_iast, ii_4, r_goto, r_vret, kd_0, kd_1, kd_2, kd_3, kd_4, kd_5, ln_0, ln_1, ln_2, ln_3, ln_4, ln_5, Option.some.injEq, Value.int.injEq, Value.ref.injEq, Value.long.injEq, Prod.mk.injEq, exists_eq_left', exists_eq_left, true_and, and_true, mLk, Option.any_some, mC1, Value.category, Option.toList_some, Option.toList_none, List.nil_append, List.cons_append, List.length_cons, List.length_nil, ne_eq, Nat.reduceEqDiff, not_false_eq_true, reduceCtorEq, exists_and_left, exists_and_right, Nat.reduceLeDiff, Nat.reduceAdd, and_self, exists_eq, exists_eq_right, exists_const, eq_self, exists_eq', not_true_eq_false, false_implies, true_implies, implies_true, forall_const, or_true, true_or, false_or, or_false, and_false, false_and, if_true, if_false, ite_true, ite_false, mB, mOk_int, mOk_ref, mOk_null, mOk_long, Nat.reduceLT, Nat.reduceSub, Nat.reduceMul, Nat.reduceDiv, Nat.reduceMod, Classical.not_not, ↓reduceIte, Nat.zero_add, Nat.add_zero, Nat.add_sub_cancel, Bool.false_eq_true, tN_l, tN_m1, tN_n1, tN_n8, tN_dec, tN_dec8, aF_ef, aF_nf, aF_U, tN_lt, tN_le, tN_inj, tN_add, tN_mul, tN_sub, tN_and, tN_or, tN_xor, tN_and31, tN_clamp, tN_in, tN_div, nm_rem, tN_shl, tN_shr, tN_b2, nd_lt, nd_nlt, nd_le, nd_nle, nd_eq, nd_ne, mN_at, mN_U, aU_ne, aU_eq, aU_ne2, hk, er]
    rw [lp_up2 (g := fun i => A c (n * fr + (i - n * to))) (h := A c) (by show _ = A c (n * fr + (n * to + k - n * to)); rw [Nat.add_sub_cancel_left])]
theorem m_179 {X : mX} {D : Nat} {P : mPost} {A : Nat → Nat → Nat} {G : mG} {c n fr to : Nat} (hD : 1 ≤ D) (hc : c < 221) (hk : mKd c = 21) (hl : 4 * n ≤ mLn c) (h5 : mLn c ≤ 400) (h : fr ≠ to) (h3 : fr ≤ 3) (h4 : to ≤ 3) : mCall X D 179 [.ref c, .int (tN n), .int (tN fr), .int (tN to)] (mN A, RF, G, mSh) P = P none (mN (aF A c (mvF idN (A c) n fr to)), RF, G, mSh) := by
  have l := ml_179 (X := X) (D := D - 1) (cap := (mSh.length + (mAl 179).fst, mSum mSh + (mAl 179).snd)) (P := P) (G := G) (A := A) hc hk hl h5 h h3 h4 n 0 (by omega)
  rw [aF_id (c := c) (g := fun i => if n * to ≤ i ∧ i < n * to + 0 then A c (n * fr + (i - n * to)) else A c i) (fun j => if_neg (by omega))] at l
  rw [e_179 hD]
  simp (disch := first | omega | assumption | exact mOk_int | exact mOk_null | exact mOk_ref | (simp (disch := omega) only [aF_ef, aF_nf, aU_ne, aU_eq, aU_ne2]; first | done | omega | assumption)) only [k_179_0, r_push, is_4, il_4, il_1, ri_icge, al_0, il_3, r_imul, r_iadd, il_2, q_iald, q_iast, ii_4, r_goto, r_vret, kd_0, kd_1, kd_2, kd_3, kd_4, kd_5, ln_0, ln_1, ln_2, ln_3, ln_4, ln_5, Option.some.injEq, Value.int.injEq, Value.ref.injEq, Value.long.injEq, Prod.mk.injEq, exists_eq_left', exists_eq_left, true_and, and_true, mLk, Option.any_some, mC1, Value.category, Option.toList_some, Option.toList_none, List.nil_append, List.cons_append, List.length_cons, List.length_nil, ne_eq, Nat.reduceEqDiff, not_false_eq_true, reduceCtorEq, exists_and_left, exists_and_right, Nat.reduceLeDiff, Nat.reduceAdd, and_self, exists_eq, exists_eq_right, exists_const, eq_self, exists_eq', not_true_eq_false, false_implies, true_implies, implies_true, forall_const, or_true, true_or, false_or, or_false, and_false, false_and, if_true, if_false, ite_true, ite_false, mB, mOk_int, mOk_ref, mOk_null, mOk_long, Nat.reduceLT, Nat.reduceSub, Nat.reduceMul, Nat.reduceDiv, Nat.reduceMod, Classical.not_not, ↓reduceIte, Nat.zero_add, Nat.add_zero, Nat.add_sub_cancel, Bool.false_eq_true, tN_l, tN_m1, tN_n1, tN_n8, tN_dec, tN_dec8, aF_ef, aF_nf, aF_U, tN_lt, tN_le, tN_inj, tN_add, tN_mul, tN_sub, tN_and, tN_or, tN_xor, tN_and31, tN_clamp, tN_in, tN_div, nm_rem, tN_shl, tN_shr, tN_b2, nd_lt, nd_nlt, nd_le, nd_nle, nd_eq, nd_ne, mN_at, mN_U, aU_ne, aU_eq, aU_ne2]
  exact l
theorem ml_180 {X : mX} {D : Nat} {cap : Nat × Nat} {P : mPost} {G : mG} {A : Nat → Nat → Nat} {c n fr to : Nat} (hc : c < 221) (hk : mKd c = 22) (hl : 4 * n ≤ mLn c) (h5 : mLn c ≤ 400) (h : fr ≠ to) (h3 : fr ≤ 3) (h4 : to ≤ 3) : ∀ m k, k + m = n → mW (mCall X D) X cap 180 P 3 [.ref c, .int (tN n), .int (tN fr), .int (tN to), .int (tN k)] [] (mN (aF A c (fun i => if n * to ≤ i ∧ i < n * to + k then nbo (A c (n * fr + (i - n * to))) else A c i)), RF, G, mSh) = P none (mN (aF A c (mvF nbo (A c) n fr to)), RF, G, mSh) := by
  obtain ⟨d1, d2, d3⟩ := mv_dis (n := n) h h3 h4
  intro m
  induction m with
  | zero =>
    intro k e
    obtain rfl : k = n := by omega
    rw [kh_180_3]
    simp (disch := first | omega | assumption | exact mOk_int | exact mOk_null | exact mOk_ref | (simp (disch := omega) only [aF_ef, aF_nf, aU_ne, aU_eq, aU_ne2]; first | done | omega | assumption)) only [k_180_0, r_push, is_4, il_4, il_1, ri_icge, al_0, il_3, r_imul, r_iadd, il_2, q_bald, q_bast, ii_4, r_goto, r_vret, kd_0, kd_1, kd_2, kd_3, kd_4, kd_5, ln_0, ln_1, ln_2, ln_3, ln_4, ln_5, Option.some.injEq, Value.int.injEq, Value.ref.injEq, Value.long.injEq, Prod.mk.injEq, exists_eq_left', exists_eq_left, true_and, and_true, mLk, Option.any_some, mC1, Value.category, Option.toList_some, Option.toList_none, List.nil_append, List.cons_append, List.length_cons, List.length_nil, ne_eq, Nat.reduceEqDiff, not_false_eq_true, reduceCtorEq, exists_and_left, exists_and_right, Nat.reduceLeDiff, Nat.reduceAdd, and_self, exists_eq, exists_eq_right, exists_const, eq_self, exists_eq', not_true_eq_false, false_implies, true_implies, implies_true, forall_const, or_true, true_or, false_or, or_false, and_false, false_and, if_true, if_false, ite_true, ite_false, mB, mOk_int, mOk_ref, mOk_null, mOk_long, Nat.reduceLT, Nat.reduceSub, Nat.reduceMul, Nat.reduceDiv, Nat.reduceMod, Classical.not_not, ↓reduceIte, Nat.zero_add, Nat.add_zero, Nat.add_sub_cancel, Bool.false_eq_true, tN_l, tN_m1, tN_n1, tN_n8, tN_dec, tN_dec8, aF_ef, aF_nf, aF_U, tN_lt, tN_le, tN_inj, tN_add, tN_mul, tN_sub, tN_and, tN_or, tN_xor, tN_and31, tN_clamp, tN_in, tN_div, nm_rem, tN_shl, tN_shr, tN_b2, nd_lt, nd_nlt, nd_le, nd_nle, nd_eq, nd_ne, mN_at, mN_U, aU_ne, aU_eq, aU_ne2]
    rfl
  | succ m ih =>
    intro k e
    have er : (if n * to ≤ n * fr + k ∧ n * fr + k < n * to + k then nbo (A c (n * fr + (n * fr + k - n * to))) else A c (n * fr + k)) = A c (n * fr + k) := if_neg (by omega)
    rw [← ih (k + 1) (by omega), kh_180_3]
    simp (disch := first | omega | assumption | exact mOk_int | exact mOk_null | exact mOk_ref | (simp (disch := omega) only [aF_ef, aF_nf, aU_ne, aU_eq, aU_ne2]; first | done | omega | assumption)) only [k_180_0, r_push, is_4, il_4, il_1, ri_icge, al_0, il_3, r_imul, r_iadd, il_2, q_bald, q_bast, ii_4, r_goto, r_vret, kd_0, kd_1, kd_2, kd_3, kd_4, kd_5, ln_0, ln_1, ln_2, ln_3, ln_4, ln_5, Option.some.injEq, Value.int.injEq, Value.ref.injEq, Value.long.injEq, Prod.mk.injEq, exists_eq_left', exists_eq_left, true_and, and_true, mLk, Option.any_some, mC1, Value.category, Option.toList_some, Option.toList_none, List.nil_append, List.cons_append, List.length_cons, List.length_nil, ne_eq, Nat.reduceEqDiff, not_false_eq_true, reduceCtorEq, exists_and_left, exists_and_right, Nat.reduceLeDiff, Nat.reduceAdd, and_self, exists_eq, exists_eq_right, exists_const, eq_self, exists_eq', not_true_eq_false, false_implies, true_implies, implies_true, forall_const, or_true, true_or, false_or, or_false, and_false, false_and, if_true, if_false, ite_true, ite_false, mB, mOk_int, mOk_ref, mOk_null, mOk_long, Nat.reduceLT, Nat.reduceSub, Nat.reduceMul, Nat.reduceDiv, Nat.reduceMod, Classical.not_not, ↓reduceIte, Nat.zero_add, Nat.add_zero, Nat.add_sub_cancel, Bool.false_eq_true, tN_l, tN_m1, tN_n1, tN_n8, tN_dec, tN_dec8, aF_ef, aF_nf, aF_U, tN_lt, tN_le, tN_inj, tN_add, tN_mul, tN_sub, tN_and, tN_or, tN_xor, tN_and31, tN_clamp, tN_in, tN_div, nm_rem, tN_shl, tN_shr, tN_b2, nd_lt, nd_nlt, nd_le, nd_nle, nd_eq, nd_ne, mN_at, mN_U, aU_ne, aU_eq, aU_ne2, hk, er, nbo_at]
    rw [lp_up2 (g := fun i => nbo (A c (n * fr + (i - n * to)))) (h := A c) (by show _ = nbo (A c (n * fr + (n * to + k - n * to))); rw [Nat.add_sub_cancel_left])]
theorem m_180 {X : mX} {D : Nat} {P : mPost} {A : Nat → Nat → Nat} {G : mG} {c n fr to : Nat} (hD : 1 ≤ D) (hc : c < 221) (hk : mKd c = 22) (hl : 4 * n ≤ mLn c) (h5 : mLn c ≤ 400) (h : fr ≠ to) (h3 : fr ≤ 3) (h4 : to ≤ 3) : mCall X D 180 [.ref c, .int (tN n), .int (tN fr), .int (tN to)] (mN A, RF, G, mSh) P = P none (mN (aF A c (mvF nbo (A c) n fr to)), RF, G, mSh) := by
  have l := ml_180 (X := X) (D := D - 1) (cap := (mSh.length + (mAl 180).fst, mSum mSh + (mAl 180).snd)) (P := P) (G := G) (A := A) hc hk hl h5 h h3 h4 n 0 (by omega)
  rw [aF_id (c := c) (g := fun i => if n * to ≤ i ∧ i < n * to + 0 then nbo (A c (n * fr + (i - n * to))) else A c i) (fun j => if_neg (by omega))] at l
  rw [e_180 hD]
  simp (disch := first | omega | assumption | exact mOk_int | exact mOk_null | exact mOk_ref | (simp (disch := omega) only [aF_ef, aF_nf, aU_ne, aU_eq, aU_ne2]; first | done | omega | assumption)) only [k_180_0, r_push, is_4, il_4, il_1, ri_icge, al_0, il_3, r_imul, r_iadd, il_2, q_bald, q_bast, ii_4, r_goto, r_vret, kd_0, kd_1, kd_2, kd_3, kd_4, kd_5, ln_0, ln_1, ln_2, ln_3, ln_4, ln_5, Option.some.injEq, Value.int.injEq, Value.ref.injEq, Value.long.injEq, Prod.mk.injEq, exists_eq_left', exists_eq_left, true_and, and_true, mLk, Option.any_some, mC1, Value.category, Option.toList_some, Option.toList_none, List.nil_append, List.cons_append, List.length_cons, List.length_nil, ne_eq, Nat.reduceEqDiff, not_false_eq_true, reduceCtorEq, exists_and_left, exists_and_right, Nat.reduceLeDiff, Nat.reduceAdd, and_self, exists_eq, exists_eq_right, exists_const, eq_self, exists_eq', not_true_eq_false, false_implies, true_implies, implies_true, forall_const, or_true, true_or, false_or, or_false, and_false, false_and, if_true, if_false, ite_true, ite_false, mB, mOk_int, mOk_ref, mOk_null, mOk_long, Nat.reduceLT, Nat.reduceSub, Nat.reduceMul, Nat.reduceDiv, Nat.reduceMod, Classical.not_not, ↓reduceIte, Nat.zero_add, Nat.add_zero, Nat.add_sub_cancel, Bool.false_eq_true, tN_l, tN_m1, tN_n1, tN_n8, tN_dec, tN_dec8, aF_ef, aF_nf, aF_U, tN_lt, tN_le, tN_inj, tN_add, tN_mul, tN_sub, tN_and, tN_or, tN_xor, tN_and31, tN_clamp, tN_in, tN_div, nm_rem, tN_shl, tN_shr, tN_b2, nd_lt, nd_nlt, nd_le, nd_nle, nd_eq, nd_ne, mN_at, mN_U, aU_ne, aU_eq, aU_ne2]
  exact l
theorem ml_178 {X : mX} {D : Nat} {cap : Nat × Nat} {P : mPost} {G : mG} {A : Nat → Nat → Nat} {fr to : Nat} (h : fr ≠ to) (h3 : fr ≤ 3) (h4 : to ≤ 3) : ∀ m k, k + m = 300 → mW (mCall X D) X cap 178 P 2 [.ref 185, .int (tN fr), .int (tN to), .int (tN k)] [] (mN (aF A 186 (fun i => if 300 * to ≤ i ∧ i < 300 * to + k then nby (A 186 (300 * fr + (i - 300 * to))) else A 186 i)), RF, G, mSh) = mW (mCall X D) X cap 178 P 2 [.ref 185, .int (tN fr), .int (tN to), .int (tN 300)] [] (mN (aF A 186 (mvF nby (A 186) 300 fr to)), RF, G, mSh) := by
  intro m
  induction m with
  | zero =>
    intro k e
    obtain rfl : k = 300 := by omega
    rfl
  | succ m ih =>
    intro k e
    have er : (if 300 * to ≤ 300 * fr + k ∧ 300 * fr + k < 300 * to + k then nby (A 186 (300 * fr + (300 * fr + k - 300 * to))) else A 186 (300 * fr + k)) = A 186 (300 * fr + k) := if_neg (by omega)
    rw [← ih (k + 1) (by omega), kh_178_2]
    simp (disch := first | omega | assumption | exact mOk_int | exact mOk_null | exact mOk_ref | (simp (disch := omega) only [aF_ef, aF_nf, aU_ne, aU_eq, aU_ne2]; first | done | omega | assumption)) only [k_178_0, k_178_1, k_178_2, k_178_3, k_178_4, r_push, is_3, il_3, ri_icge, al_0, gq_0, gq_1, gq_2, gq_3, gq_4, il_2, r_imul, r_iadd, il_1, q_bald, q_bast, ii_3, r_goto, r_callS4, r_vret, kd_0, kd_1, kd_2, kd_3, kd_4, kd_5, ln_0, ln_1, ln_2, ln_3, ln_4, ln_5, Option.some.injEq, Value.int.injEq, Value.ref.injEq, Value.long.injEq, Prod.mk.injEq, exists_eq_left', exists_eq_left, true_and, and_true, mLk, Option.any_some, mC1, Value.category, Option.toList_some, Option.toList_none, List.nil_append, List.cons_append, List.length_cons, List.length_nil, ne_eq, Nat.reduceEqDiff, not_false_eq_true, reduceCtorEq, exists_and_left, exists_and_right, Nat.reduceLeDiff, Nat.reduceAdd, and_self, exists_eq, exists_eq_right, exists_const, eq_self, exists_eq', not_true_eq_false, false_implies, true_implies, implies_true, forall_const, or_true, true_or, false_or, or_false, and_false, false_and, if_true, if_false, ite_true, ite_false, mB, mOk_int, mOk_ref, mOk_null, mOk_long, Nat.reduceLT, Nat.reduceSub, Nat.reduceMul, Nat.reduceDiv, Nat.reduceMod, Classical.not_not, ↓reduceIte, Nat.zero_add, Nat.add_zero, Nat.add_sub_cancel, Bool.false_eq_true, tN_l, tN_m1, tN_n1, tN_n8, tN_dec, tN_dec8, aF_ef, aF_nf, aF_U, tN_lt, tN_le, tN_inj, tN_add, tN_mul, tN_sub, tN_and, tN_or, tN_xor, tN_and31, tN_clamp, tN_in, tN_div, nm_rem, tN_shl, tN_shr, tN_b2, nd_lt, nd_nlt, nd_le, nd_nle, nd_eq, nd_ne, mN_at, mN_U, aU_ne, aU_eq, aU_ne2, er, nby_at]
    rw [lp_up2 (g := fun i => nby (A 186 (300 * fr + (i - 300 * to)))) (h := A 186) (by show _ = nby (A 186 (300 * fr + (300 * to + k - 300 * to))); rw [Nat.add_sub_cancel_left])]
def cpM (A : Nat → Nat → Nat) (fr to : Nat) : Nat → Nat → Nat := aF (aF (aF (aF (aF (aF (aF (aF (aF (aF (aF (aF (aF (aF (aF (aF (aF (aF (aF (aF (aF (aF (aF (aF (aF (aF (aF (aF A 186 (mvF nby (A 186) 300 fr to)) 187 (mvF idN (A 187) 1 fr to)) 188 (mvF idN (A 188) 1 fr to)) 189 (mvF idN (A 189) 1 fr to)) 190 (mvF idN (A 190) 1 fr to)) 191 (mvF idN (A 191) 6 fr to)) 192 (mvF idN (A 192) 6 fr to)) 193 (mvF idN (A 193) 1 fr to)) 194 (mvF idN (A 194) 12 fr to)) 195 (mvF idN (A 195) 12 fr to)) 196 (mvF idN (A 196) 12 fr to)) 197 (mvF nbo (A 197) 12 fr to)) 198 (mvF nbo (A 198) 1 fr to)) 199 (mvF idN (A 199) 1 fr to)) 200 (mvF idN (A 200) 12 fr to)) 201 (mvF idN (A 201) 12 fr to)) 202 (mvF idN (A 202) 1 fr to)) 203 (mvF idN (A 203) 12 fr to)) 204 (mvF nbo (A 204) 72 fr to)) 205 (mvF idN (A 205) 1 fr to)) 206 (mvF idN (A 206) 12 fr to)) 207 (mvF idN (A 207) 48 fr to)) 208 (mvF idN (A 208) 48 fr to)) 209 (mvF idN (A 209) 48 fr to)) 210 (mvF idN (A 210) 12 fr to)) 211 (mvF idN (A 211) 72 fr to)) 212 (mvF idN (A 212) 12 fr to)) 213 (mvF idN (A 213) 72 fr to)
theorem m_178 {X : mX} {D : Nat} {P : mPost} {A : Nat → Nat → Nat} {G : mG} {fr to : Nat} (hD : 2 ≤ D) (h : fr ≠ to) (h3 : fr ≤ 3) (h4 : to ≤ 3) : mCall X D 178 [.ref 185, .int (tN fr), .int (tN to)] (mN A, RF, G, mSh) P = P none (mN (cpM A fr to), RF, G, mSh) := by
  have l := ml_178 (X := X) (D := D - 1) (cap := (mSh.length + (mAl 178).fst, mSum mSh + (mAl 178).snd)) (P := P) (G := G) (A := A) h h3 h4 300 0 (by omega)
  rw [aF_id (c := 186) (g := fun i => if 300 * to ≤ i ∧ i < 300 * to + 0 then nby (A 186 (300 * fr + (i - 300 * to))) else A 186 i) (fun j => if_neg (by omega))] at l
  have e187 := fun B P' => m_179 (X := X) (D := D - 1) (P := P') (G := G) (A := B) (c := 187) (n := 1) (fr := fr) (to := to) (by omega) (by omega) (by decide +kernel) (by decide +kernel) (by decide +kernel) h h3 h4
  have e188 := fun B P' => m_179 (X := X) (D := D - 1) (P := P') (G := G) (A := B) (c := 188) (n := 1) (fr := fr) (to := to) (by omega) (by omega) (by decide +kernel) (by decide +kernel) (by decide +kernel) h h3 h4
  have e189 := fun B P' => m_179 (X := X) (D := D - 1) (P := P') (G := G) (A := B) (c := 189) (n := 1) (fr := fr) (to := to) (by omega) (by omega) (by decide +kernel) (by decide +kernel) (by decide +kernel) h h3 h4
  have e190 := fun B P' => m_179 (X := X) (D := D - 1) (P := P') (G := G) (A := B) (c := 190) (n := 1) (fr := fr) (to := to) (by omega) (by omega) (by decide +kernel) (by decide +kernel) (by decide +kernel) h h3 h4
  have e191 := fun B P' => m_179 (X := X) (D := D - 1) (P := P') (G := G) (A := B) (c := 191) (n := 6) (fr := fr) (to := to) (by omega) (by omega) (by decide +kernel) (by decide +kernel) (by decide +kernel) h h3 h4
  have e192 := fun B P' => m_179 (X := X) (D := D - 1) (P := P') (G := G) (A := B) (c := 192) (n := 6) (fr := fr) (to := to) (by omega) (by omega) (by decide +kernel) (by decide +kernel) (by decide +kernel) h h3 h4
  have e193 := fun B P' => m_179 (X := X) (D := D - 1) (P := P') (G := G) (A := B) (c := 193) (n := 1) (fr := fr) (to := to) (by omega) (by omega) (by decide +kernel) (by decide +kernel) (by decide +kernel) h h3 h4
  have e194 := fun B P' => m_179 (X := X) (D := D - 1) (P := P') (G := G) (A := B) (c := 194) (n := 12) (fr := fr) (to := to) (by omega) (by omega) (by decide +kernel) (by decide +kernel) (by decide +kernel) h h3 h4
  have e195 := fun B P' => m_179 (X := X) (D := D - 1) (P := P') (G := G) (A := B) (c := 195) (n := 12) (fr := fr) (to := to) (by omega) (by omega) (by decide +kernel) (by decide +kernel) (by decide +kernel) h h3 h4
  have e196 := fun B P' => m_179 (X := X) (D := D - 1) (P := P') (G := G) (A := B) (c := 196) (n := 12) (fr := fr) (to := to) (by omega) (by omega) (by decide +kernel) (by decide +kernel) (by decide +kernel) h h3 h4
  have e197 := fun B P' => m_180 (X := X) (D := D - 1) (P := P') (G := G) (A := B) (c := 197) (n := 12) (fr := fr) (to := to) (by omega) (by omega) (by decide +kernel) (by decide +kernel) (by decide +kernel) h h3 h4
  have e198 := fun B P' => m_180 (X := X) (D := D - 1) (P := P') (G := G) (A := B) (c := 198) (n := 1) (fr := fr) (to := to) (by omega) (by omega) (by decide +kernel) (by decide +kernel) (by decide +kernel) h h3 h4
  have e199 := fun B P' => m_179 (X := X) (D := D - 1) (P := P') (G := G) (A := B) (c := 199) (n := 1) (fr := fr) (to := to) (by omega) (by omega) (by decide +kernel) (by decide +kernel) (by decide +kernel) h h3 h4
  have e200 := fun B P' => m_179 (X := X) (D := D - 1) (P := P') (G := G) (A := B) (c := 200) (n := 12) (fr := fr) (to := to) (by omega) (by omega) (by decide +kernel) (by decide +kernel) (by decide +kernel) h h3 h4
  have e201 := fun B P' => m_179 (X := X) (D := D - 1) (P := P') (G := G) (A := B) (c := 201) (n := 12) (fr := fr) (to := to) (by omega) (by omega) (by decide +kernel) (by decide +kernel) (by decide +kernel) h h3 h4
  have e202 := fun B P' => m_179 (X := X) (D := D - 1) (P := P') (G := G) (A := B) (c := 202) (n := 1) (fr := fr) (to := to) (by omega) (by omega) (by decide +kernel) (by decide +kernel) (by decide +kernel) h h3 h4
  have e203 := fun B P' => m_179 (X := X) (D := D - 1) (P := P') (G := G) (A := B) (c := 203) (n := 12) (fr := fr) (to := to) (by omega) (by omega) (by decide +kernel) (by decide +kernel) (by decide +kernel) h h3 h4
  have e204 := fun B P' => m_180 (X := X) (D := D - 1) (P := P') (G := G) (A := B) (c := 204) (n := 72) (fr := fr) (to := to) (by omega) (by omega) (by decide +kernel) (by decide +kernel) (by decide +kernel) h h3 h4
  have e205 := fun B P' => m_179 (X := X) (D := D - 1) (P := P') (G := G) (A := B) (c := 205) (n := 1) (fr := fr) (to := to) (by omega) (by omega) (by decide +kernel) (by decide +kernel) (by decide +kernel) h h3 h4
  have e206 := fun B P' => m_179 (X := X) (D := D - 1) (P := P') (G := G) (A := B) (c := 206) (n := 12) (fr := fr) (to := to) (by omega) (by omega) (by decide +kernel) (by decide +kernel) (by decide +kernel) h h3 h4
  have e207 := fun B P' => m_179 (X := X) (D := D - 1) (P := P') (G := G) (A := B) (c := 207) (n := 48) (fr := fr) (to := to) (by omega) (by omega) (by decide +kernel) (by decide +kernel) (by decide +kernel) h h3 h4
  have e208 := fun B P' => m_179 (X := X) (D := D - 1) (P := P') (G := G) (A := B) (c := 208) (n := 48) (fr := fr) (to := to) (by omega) (by omega) (by decide +kernel) (by decide +kernel) (by decide +kernel) h h3 h4
  have e209 := fun B P' => m_179 (X := X) (D := D - 1) (P := P') (G := G) (A := B) (c := 209) (n := 48) (fr := fr) (to := to) (by omega) (by omega) (by decide +kernel) (by decide +kernel) (by decide +kernel) h h3 h4
  have e210 := fun B P' => m_179 (X := X) (D := D - 1) (P := P') (G := G) (A := B) (c := 210) (n := 12) (fr := fr) (to := to) (by omega) (by omega) (by decide +kernel) (by decide +kernel) (by decide +kernel) h h3 h4
  have e211 := fun B P' => m_179 (X := X) (D := D - 1) (P := P') (G := G) (A := B) (c := 211) (n := 72) (fr := fr) (to := to) (by omega) (by omega) (by decide +kernel) (by decide +kernel) (by decide +kernel) h h3 h4
  have e212 := fun B P' => m_179 (X := X) (D := D - 1) (P := P') (G := G) (A := B) (c := 212) (n := 12) (fr := fr) (to := to) (by omega) (by omega) (by decide +kernel) (by decide +kernel) (by decide +kernel) h h3 h4
  have e213 := fun B P' => m_179 (X := X) (D := D - 1) (P := P') (G := G) (A := B) (c := 213) (n := 72) (fr := fr) (to := to) (by omega) (by omega) (by decide +kernel) (by decide +kernel) (by decide +kernel) h h3 h4
  rw [e_178 (by omega)]
  simp (disch := first | omega | assumption | exact mOk_int | exact mOk_null | exact mOk_ref | (simp (disch := omega) only [aF_ef, aF_nf, aU_ne, aU_eq, aU_ne2]; first | done | omega | assumption)) only [k_178_0, k_178_1, k_178_2, k_178_3, k_178_4, r_push, is_3, il_3, ri_icge, al_0, gq_0, gq_1, gq_2, gq_3, gq_4, il_2, r_imul, r_iadd, il_1, q_bald, q_bast, ii_3, r_goto, r_callS4, r_vret, kd_0, kd_1, kd_2, kd_3, kd_4, kd_5, ln_0, ln_1, ln_2, ln_3, ln_4, ln_5, Option.some.injEq, Value.int.injEq, Value.ref.injEq, Value.long.injEq, Prod.mk.injEq, exists_eq_left', exists_eq_left, true_and, and_true, mLk, Option.any_some, mC1, Value.category, Option.toList_some, Option.toList_none, List.nil_append, List.cons_append, List.length_cons, List.length_nil, ne_eq, Nat.reduceEqDiff, not_false_eq_true, reduceCtorEq, exists_and_left, exists_and_right, Nat.reduceLeDiff, Nat.reduceAdd, and_self, exists_eq, exists_eq_right, exists_const, eq_self, exists_eq', not_true_eq_false, false_implies, true_implies, implies_true, forall_const, or_true, true_or, false_or, or_false, and_false, false_and, if_true, if_false, ite_true, ite_false, mB, mOk_int, mOk_ref, mOk_null, mOk_long, Nat.reduceLT, Nat.reduceSub, Nat.reduceMul, Nat.reduceDiv, Nat.reduceMod, Classical.not_not, ↓reduceIte, Nat.zero_add, Nat.add_zero, Nat.add_sub_cancel, Bool.false_eq_true, tN_l, tN_m1, tN_n1, tN_n8, tN_dec, tN_dec8, aF_ef, aF_nf, aF_U, tN_lt, tN_le, tN_inj, tN_add, tN_mul, tN_sub, tN_and, tN_or, tN_xor, tN_and31, tN_clamp, tN_in, tN_div, nm_rem, tN_shl, tN_shr, tN_b2, nd_lt, nd_nlt, nd_le, nd_nle, nd_eq, nd_ne, mN_at, mN_U, aU_ne, aU_eq, aU_ne2]
  rw [l, kh_178_2]
  unfold cpM
  simp (disch := first | omega | assumption | exact mOk_int | exact mOk_null | exact mOk_ref | (simp (disch := omega) only [aF_ef, aF_nf, aU_ne, aU_eq, aU_ne2]; first | done | omega | assumption)) only [k_178_0, k_178_1, k_178_2, k_178_3, k_178_4, r_push, is_3, il_3, ri_icge, al_0, gq_0, gq_1, gq_2, gq_3, gq_4, il_2, r_imul, r_iadd, il_1, q_bald, q_bast, ii_3, r_goto, r_callS4, r_vret, kd_0, kd_1, kd_2, kd_3, kd_4, kd_5, ln_0, ln_1, ln_2, ln_3, ln_4, ln_5, Option.some.injEq, Value.int.injEq, Value.ref.injEq, Value.long.injEq, Prod.mk.injEq, exists_eq_left', exists_eq_left, true_and, and_true, mLk, Option.any_some, mC1, Value.category, Option.toList_some, Option.toList_none, List.nil_append, List.cons_append, List.length_cons, List.length_nil, ne_eq, Nat.reduceEqDiff, not_false_eq_true, reduceCtorEq, exists_and_left, exists_and_right, Nat.reduceLeDiff, Nat.reduceAdd, and_self, exists_eq, exists_eq_right, exists_const, eq_self, exists_eq', not_true_eq_false, false_implies, true_implies, implies_true, forall_const, or_true, true_or, false_or, or_false, and_false, false_and, if_true, if_false, ite_true, ite_false, mB, mOk_int, mOk_ref, mOk_null, mOk_long, Nat.reduceLT, Nat.reduceSub, Nat.reduceMul, Nat.reduceDiv, Nat.reduceMod, Classical.not_not, ↓reduceIte, Nat.zero_add, Nat.add_zero, Nat.add_sub_cancel, Bool.false_eq_true, tN_l, tN_m1, tN_n1, tN_n8, tN_dec, tN_dec8, aF_ef, aF_nf, aF_U, tN_lt, tN_le, tN_inj, tN_add, tN_mul, tN_sub, tN_and, tN_or, tN_xor, tN_and31, tN_clamp, tN_in, tN_div, nm_rem, tN_shl, tN_shr, tN_b2, nd_lt, nd_nlt, nd_le, nd_nle, nd_eq, nd_ne, mN_at, mN_U, aU_ne, aU_eq, aU_ne2, e187, e188, e189, e190, e191, e192, e193, e194, e195, e196, e197, e198, e199, e200, e201, e202, e203, e204, e205, e206, e207, e208, e209, e210, e211, e212, e213]
theorem cpM_o {A : Nat → Nat → Nat} {fr to c : Nat} (h : c < 186 ∨ 213 < c) : cpM A fr to c = A c := by
  unfold cpM
  rw [aF_nf (by omega), aF_nf (by omega), aF_nf (by omega), aF_nf (by omega), aF_nf (by omega), aF_nf (by omega), aF_nf (by omega), aF_nf (by omega), aF_nf (by omega), aF_nf (by omega), aF_nf (by omega), aF_nf (by omega), aF_nf (by omega), aF_nf (by omega), aF_nf (by omega), aF_nf (by omega), aF_nf (by omega), aF_nf (by omega), aF_nf (by omega), aF_nf (by omega), aF_nf (by omega), aF_nf (by omega), aF_nf (by omega), aF_nf (by omega), aF_nf (by omega), aF_nf (by omega), aF_nf (by omega), aF_nf (by omega)]
theorem cpM_186 {A : Nat → Nat → Nat} {fr to : Nat} : cpM A fr to 186 = mvF nby (A 186) 300 fr to := by
  unfold cpM
  rw [aF_nf (by decide), aF_nf (by decide), aF_nf (by decide), aF_nf (by decide), aF_nf (by decide), aF_nf (by decide), aF_nf (by decide), aF_nf (by decide), aF_nf (by decide), aF_nf (by decide), aF_nf (by decide), aF_nf (by decide), aF_nf (by decide), aF_nf (by decide), aF_nf (by decide), aF_nf (by decide), aF_nf (by decide), aF_nf (by decide), aF_nf (by decide), aF_nf (by decide), aF_nf (by decide), aF_nf (by decide), aF_nf (by decide), aF_nf (by decide), aF_nf (by decide), aF_nf (by decide), aF_nf (by decide), aF_ef]
theorem cpM_187 {A : Nat → Nat → Nat} {fr to : Nat} : cpM A fr to 187 = mvF idN (A 187) 1 fr to := by
  unfold cpM
  rw [aF_nf (by decide), aF_nf (by decide), aF_nf (by decide), aF_nf (by decide), aF_nf (by decide), aF_nf (by decide), aF_nf (by decide), aF_nf (by decide), aF_nf (by decide), aF_nf (by decide), aF_nf (by decide), aF_nf (by decide), aF_nf (by decide), aF_nf (by decide), aF_nf (by decide), aF_nf (by decide), aF_nf (by decide), aF_nf (by decide), aF_nf (by decide), aF_nf (by decide), aF_nf (by decide), aF_nf (by decide), aF_nf (by decide), aF_nf (by decide), aF_nf (by decide), aF_nf (by decide), aF_ef]
theorem cpM_188 {A : Nat → Nat → Nat} {fr to : Nat} : cpM A fr to 188 = mvF idN (A 188) 1 fr to := by
  unfold cpM
  rw [aF_nf (by decide), aF_nf (by decide), aF_nf (by decide), aF_nf (by decide), aF_nf (by decide), aF_nf (by decide), aF_nf (by decide), aF_nf (by decide), aF_nf (by decide), aF_nf (by decide), aF_nf (by decide), aF_nf (by decide), aF_nf (by decide), aF_nf (by decide), aF_nf (by decide), aF_nf (by decide), aF_nf (by decide), aF_nf (by decide), aF_nf (by decide), aF_nf (by decide), aF_nf (by decide), aF_nf (by decide), aF_nf (by decide), aF_nf (by decide), aF_nf (by decide), aF_ef]
theorem cpM_189 {A : Nat → Nat → Nat} {fr to : Nat} : cpM A fr to 189 = mvF idN (A 189) 1 fr to := by
  unfold cpM
  rw [aF_nf (by decide), aF_nf (by decide), aF_nf (by decide), aF_nf (by decide), aF_nf (by decide), aF_nf (by decide), aF_nf (by decide), aF_nf (by decide), aF_nf (by decide), aF_nf (by decide), aF_nf (by decide), aF_nf (by decide), aF_nf (by decide), aF_nf (by decide), aF_nf (by decide), aF_nf (by decide), aF_nf (by decide), aF_nf (by decide), aF_nf (by decide), aF_nf (by decide), aF_nf (by decide), aF_nf (by decide), aF_nf (by decide), aF_nf (by decide), aF_ef]
theorem cpM_190 {A : Nat → Nat → Nat} {fr to : Nat} : cpM A fr to 190 = mvF idN (A 190) 1 fr to := by
  unfold cpM
  rw [aF_nf (by decide), aF_nf (by decide), aF_nf (by decide), aF_nf (by decide), aF_nf (by decide), aF_nf (by decide), aF_nf (by decide), aF_nf (by decide), aF_nf (by decide), aF_nf (by decide), aF_nf (by decide), aF_nf (by decide), aF_nf (by decide), aF_nf (by decide), aF_nf (by decide), aF_nf (by decide), aF_nf (by decide), aF_nf (by decide), aF_nf (by decide), aF_nf (by decide), aF_nf (by decide), aF_nf (by decide), aF_nf (by decide), aF_ef]
theorem cpM_191 {A : Nat → Nat → Nat} {fr to : Nat} : cpM A fr to 191 = mvF idN (A 191) 6 fr to := by
  unfold cpM
  rw [aF_nf (by decide), aF_nf (by decide), aF_nf (by decide), aF_nf (by decide), aF_nf (by decide), aF_nf (by decide), aF_nf (by decide), aF_nf (by decide), aF_nf (by decide), aF_nf (by decide), aF_nf (by decide), aF_nf (by decide), aF_nf (by decide), aF_nf (by decide), aF_nf (by decide), aF_nf (by decide), aF_nf (by decide), aF_nf (by decide), aF_nf (by decide), aF_nf (by decide), aF_nf (by decide), aF_nf (by decide), aF_ef]
theorem cpM_192 {A : Nat → Nat → Nat} {fr to : Nat} : cpM A fr to 192 = mvF idN (A 192) 6 fr to := by
  unfold cpM
  rw [aF_nf (by decide), aF_nf (by decide), aF_nf (by decide), aF_nf (by decide), aF_nf (by decide), aF_nf (by decide), aF_nf (by decide), aF_nf (by decide), aF_nf (by decide), aF_nf (by decide), aF_nf (by decide), aF_nf (by decide), aF_nf (by decide), aF_nf (by decide), aF_nf (by decide), aF_nf (by decide), aF_nf (by decide), aF_nf (by decide), aF_nf (by decide), aF_nf (by decide), aF_nf (by decide), aF_ef]
theorem cpM_193 {A : Nat → Nat → Nat} {fr to : Nat} : cpM A fr to 193 = mvF idN (A 193) 1 fr to := by
  unfold cpM
  rw [aF_nf (by decide), aF_nf (by decide), aF_nf (by decide), aF_nf (by decide), aF_nf (by decide), aF_nf (by decide), aF_nf (by decide), aF_nf (by decide), aF_nf (by decide), aF_nf (by decide), aF_nf (by decide), aF_nf (by decide), aF_nf (by decide), aF_nf (by decide), aF_nf (by decide), aF_nf (by decide), aF_nf (by decide), aF_nf (by decide), aF_nf (by decide), aF_nf (by decide), aF_ef]
theorem cpM_194 {A : Nat → Nat → Nat} {fr to : Nat} : cpM A fr to 194 = mvF idN (A 194) 12 fr to := by
  unfold cpM
  rw [aF_nf (by decide), aF_nf (by decide), aF_nf (by decide), aF_nf (by decide), aF_nf (by decide), aF_nf (by decide), aF_nf (by decide), aF_nf (by decide), aF_nf (by decide), aF_nf (by decide), aF_nf (by decide), aF_nf (by decide), aF_nf (by decide), aF_nf (by decide), aF_nf (by decide), aF_nf (by decide), aF_nf (by decide), aF_nf (by decide), aF_nf (by decide), aF_ef]
theorem cpM_195 {A : Nat → Nat → Nat} {fr to : Nat} : cpM A fr to 195 = mvF idN (A 195) 12 fr to := by
  unfold cpM
  rw [aF_nf (by decide), aF_nf (by decide), aF_nf (by decide), aF_nf (by decide), aF_nf (by decide), aF_nf (by decide), aF_nf (by decide), aF_nf (by decide), aF_nf (by decide), aF_nf (by decide), aF_nf (by decide), aF_nf (by decide), aF_nf (by decide), aF_nf (by decide), aF_nf (by decide), aF_nf (by decide), aF_nf (by decide), aF_nf (by decide), aF_ef]
theorem cpM_196 {A : Nat → Nat → Nat} {fr to : Nat} : cpM A fr to 196 = mvF idN (A 196) 12 fr to := by
  unfold cpM
  rw [aF_nf (by decide), aF_nf (by decide), aF_nf (by decide), aF_nf (by decide), aF_nf (by decide), aF_nf (by decide), aF_nf (by decide), aF_nf (by decide), aF_nf (by decide), aF_nf (by decide), aF_nf (by decide), aF_nf (by decide), aF_nf (by decide), aF_nf (by decide), aF_nf (by decide), aF_nf (by decide), aF_nf (by decide), aF_ef]
theorem cpM_197 {A : Nat → Nat → Nat} {fr to : Nat} : cpM A fr to 197 = mvF nbo (A 197) 12 fr to := by
  unfold cpM
  rw [aF_nf (by decide), aF_nf (by decide), aF_nf (by decide), aF_nf (by decide), aF_nf (by decide), aF_nf (by decide), aF_nf (by decide), aF_nf (by decide), aF_nf (by decide), aF_nf (by decide), aF_nf (by decide), aF_nf (by decide), aF_nf (by decide), aF_nf (by decide), aF_nf (by decide), aF_nf (by decide), aF_ef]
theorem cpM_198 {A : Nat → Nat → Nat} {fr to : Nat} : cpM A fr to 198 = mvF nbo (A 198) 1 fr to := by
  unfold cpM
  rw [aF_nf (by decide), aF_nf (by decide), aF_nf (by decide), aF_nf (by decide), aF_nf (by decide), aF_nf (by decide), aF_nf (by decide), aF_nf (by decide), aF_nf (by decide), aF_nf (by decide), aF_nf (by decide), aF_nf (by decide), aF_nf (by decide), aF_nf (by decide), aF_nf (by decide), aF_ef]
theorem cpM_199 {A : Nat → Nat → Nat} {fr to : Nat} : cpM A fr to 199 = mvF idN (A 199) 1 fr to := by
  unfold cpM
  rw [aF_nf (by decide), aF_nf (by decide), aF_nf (by decide), aF_nf (by decide), aF_nf (by decide), aF_nf (by decide), aF_nf (by decide), aF_nf (by decide), aF_nf (by decide), aF_nf (by decide), aF_nf (by decide), aF_nf (by decide), aF_nf (by decide), aF_nf (by decide), aF_ef]
theorem cpM_200 {A : Nat → Nat → Nat} {fr to : Nat} : cpM A fr to 200 = mvF idN (A 200) 12 fr to := by
  unfold cpM
  rw [aF_nf (by decide), aF_nf (by decide), aF_nf (by decide), aF_nf (by decide), aF_nf (by decide), aF_nf (by decide), aF_nf (by decide), aF_nf (by decide), aF_nf (by decide), aF_nf (by decide), aF_nf (by decide), aF_nf (by decide), aF_nf (by decide), aF_ef]
theorem cpM_201 {A : Nat → Nat → Nat} {fr to : Nat} : cpM A fr to 201 = mvF idN (A 201) 12 fr to := by
  unfold cpM
  rw [aF_nf (by decide), aF_nf (by decide), aF_nf (by decide), aF_nf (by decide), aF_nf (by decide), aF_nf (by decide), aF_nf (by decide), aF_nf (by decide), aF_nf (by decide), aF_nf (by decide), aF_nf (by decide), aF_nf (by decide), aF_ef]
theorem cpM_202 {A : Nat → Nat → Nat} {fr to : Nat} : cpM A fr to 202 = mvF idN (A 202) 1 fr to := by
  unfold cpM
  rw [aF_nf (by decide), aF_nf (by decide), aF_nf (by decide), aF_nf (by decide), aF_nf (by decide), aF_nf (by decide), aF_nf (by decide), aF_nf (by decide), aF_nf (by decide), aF_nf (by decide), aF_nf (by decide), aF_ef]
theorem cpM_203 {A : Nat → Nat → Nat} {fr to : Nat} : cpM A fr to 203 = mvF idN (A 203) 12 fr to := by
  unfold cpM
  rw [aF_nf (by decide), aF_nf (by decide), aF_nf (by decide), aF_nf (by decide), aF_nf (by decide), aF_nf (by decide), aF_nf (by decide), aF_nf (by decide), aF_nf (by decide), aF_nf (by decide), aF_ef]
theorem cpM_204 {A : Nat → Nat → Nat} {fr to : Nat} : cpM A fr to 204 = mvF nbo (A 204) 72 fr to := by
  unfold cpM
  rw [aF_nf (by decide), aF_nf (by decide), aF_nf (by decide), aF_nf (by decide), aF_nf (by decide), aF_nf (by decide), aF_nf (by decide), aF_nf (by decide), aF_nf (by decide), aF_ef]
theorem cpM_205 {A : Nat → Nat → Nat} {fr to : Nat} : cpM A fr to 205 = mvF idN (A 205) 1 fr to := by
  unfold cpM
  rw [aF_nf (by decide), aF_nf (by decide), aF_nf (by decide), aF_nf (by decide), aF_nf (by decide), aF_nf (by decide), aF_nf (by decide), aF_nf (by decide), aF_ef]
theorem cpM_206 {A : Nat → Nat → Nat} {fr to : Nat} : cpM A fr to 206 = mvF idN (A 206) 12 fr to := by
  unfold cpM
  rw [aF_nf (by decide), aF_nf (by decide), aF_nf (by decide), aF_nf (by decide), aF_nf (by decide), aF_nf (by decide), aF_nf (by decide), aF_ef]
theorem cpM_207 {A : Nat → Nat → Nat} {fr to : Nat} : cpM A fr to 207 = mvF idN (A 207) 48 fr to := by
  unfold cpM
  rw [aF_nf (by decide), aF_nf (by decide), aF_nf (by decide), aF_nf (by decide), aF_nf (by decide), aF_nf (by decide), aF_ef]
theorem cpM_208 {A : Nat → Nat → Nat} {fr to : Nat} : cpM A fr to 208 = mvF idN (A 208) 48 fr to := by
  unfold cpM
  rw [aF_nf (by decide), aF_nf (by decide), aF_nf (by decide), aF_nf (by decide), aF_nf (by decide), aF_ef]
theorem cpM_209 {A : Nat → Nat → Nat} {fr to : Nat} : cpM A fr to 209 = mvF idN (A 209) 48 fr to := by
  unfold cpM
  rw [aF_nf (by decide), aF_nf (by decide), aF_nf (by decide), aF_nf (by decide), aF_ef]
theorem cpM_210 {A : Nat → Nat → Nat} {fr to : Nat} : cpM A fr to 210 = mvF idN (A 210) 12 fr to := by
  unfold cpM
  rw [aF_nf (by decide), aF_nf (by decide), aF_nf (by decide), aF_ef]
theorem cpM_211 {A : Nat → Nat → Nat} {fr to : Nat} : cpM A fr to 211 = mvF idN (A 211) 72 fr to := by
  unfold cpM
  rw [aF_nf (by decide), aF_nf (by decide), aF_ef]
theorem cpM_212 {A : Nat → Nat → Nat} {fr to : Nat} : cpM A fr to 212 = mvF idN (A 212) 12 fr to := by
  unfold cpM
  rw [aF_nf (by decide), aF_ef]
theorem cpM_213 {A : Nat → Nat → Nat} {fr to : Nat} : cpM A fr to 213 = mvF idN (A 213) 72 fr to := by
  unfold cpM
  rw [aF_ef]
theorem mvF_to {v f : Nat → Nat} {n fr to i : Nat} (hi : i < n) : mvF v f n fr to (i + n * to) = v (f (i + n * fr)) := by
  unfold mvF
  rw [if_pos (by omega), show n * fr + (i + n * to - n * to) = i + n * fr by omega]
theorem mvF_ne {v f : Nat → Nat} {n fr to s i : Nat} (hi : i < n) (h : s ≠ to) : mvF v f n fr to (i + n * s) = f (i + n * s) := by
  unfold mvF
  refine if_neg (fun z => ?_)
  have : n * s + n ≤ n * to ∨ n * to + n ≤ n * s := by
    by_cases c : s < to
    · exact .inl (show n * (s + 1) ≤ n * to from Nat.mul_le_mul_left n (by omega))
    · exact .inr (show n * (to + 1) ≤ n * s from Nat.mul_le_mul_left n (by omega))
  omega
theorem cpM_ag {A : Nat → Nat → Nat} {fr to c : Nat} (h1 : 187 ≤ c) (h2 : c ≤ 213) (h3 : c ≠ 197) (b1 : A 198 (0 + 1 * fr) ≤ 1) (b2 : ∀ i, i < 72 → A 204 (i + 72 * fr) ≤ 1) : agM A (cpM A fr to) fr to c := by
  have cs : c = 187 ∨ c = 188 ∨ c = 189 ∨ c = 190 ∨ c = 191 ∨ c = 192 ∨ c = 193 ∨ c = 194 ∨ c = 195 ∨ c = 196 ∨ c = 198 ∨ c = 199 ∨ c = 200 ∨ c = 201 ∨ c = 202 ∨ c = 203 ∨ c = 204 ∨ c = 205 ∨ c = 206 ∨ c = 207 ∨ c = 208 ∨ c = 209 ∨ c = 210 ∨ c = 211 ∨ c = 212 ∨ c = 213 := by omega
  rcases cs with rfl | rfl | rfl | rfl | rfl | rfl | rfl | rfl | rfl | rfl | rfl | rfl | rfl | rfl | rfl | rfl | rfl | rfl | rfl | rfl | rfl | rfl | rfl | rfl | rfl | rfl
  · intro i hi
    have hi : i < 1 := hi
    show cpM A fr to 187 (i + 1 * to) = A 187 (i + 1 * fr)
    rw [cpM_187, mvF_to hi]
    rfl
  · intro i hi
    have hi : i < 1 := hi
    show cpM A fr to 188 (i + 1 * to) = A 188 (i + 1 * fr)
    rw [cpM_188, mvF_to hi]
    rfl
  · intro i hi
    have hi : i < 1 := hi
    show cpM A fr to 189 (i + 1 * to) = A 189 (i + 1 * fr)
    rw [cpM_189, mvF_to hi]
    rfl
  · intro i hi
    have hi : i < 1 := hi
    show cpM A fr to 190 (i + 1 * to) = A 190 (i + 1 * fr)
    rw [cpM_190, mvF_to hi]
    rfl
  · intro i hi
    have hi : i < 6 := hi
    show cpM A fr to 191 (i + 6 * to) = A 191 (i + 6 * fr)
    rw [cpM_191, mvF_to hi]
    rfl
  · intro i hi
    have hi : i < 6 := hi
    show cpM A fr to 192 (i + 6 * to) = A 192 (i + 6 * fr)
    rw [cpM_192, mvF_to hi]
    rfl
  · intro i hi
    have hi : i < 1 := hi
    show cpM A fr to 193 (i + 1 * to) = A 193 (i + 1 * fr)
    rw [cpM_193, mvF_to hi]
    rfl
  · intro i hi
    have hi : i < 12 := hi
    show cpM A fr to 194 (i + 12 * to) = A 194 (i + 12 * fr)
    rw [cpM_194, mvF_to hi]
    rfl
  · intro i hi
    have hi : i < 12 := hi
    show cpM A fr to 195 (i + 12 * to) = A 195 (i + 12 * fr)
    rw [cpM_195, mvF_to hi]
    rfl
  · intro i hi
    have hi : i < 12 := hi
    show cpM A fr to 196 (i + 12 * to) = A 196 (i + 12 * fr)
    rw [cpM_196, mvF_to hi]
    rfl
  · intro i hi
    have hi : i < 1 := hi
    obtain rfl : i = 0 := by omega
    show cpM A fr to 198 (0 + 1 * to) = A 198 (0 + 1 * fr)
    rw [cpM_198, mvF_to hi, nbo_1 b1]
  · intro i hi
    have hi : i < 1 := hi
    show cpM A fr to 199 (i + 1 * to) = A 199 (i + 1 * fr)
    rw [cpM_199, mvF_to hi]
    rfl
  · intro i hi
    have hi : i < 12 := hi
    show cpM A fr to 200 (i + 12 * to) = A 200 (i + 12 * fr)
    rw [cpM_200, mvF_to hi]
    rfl
  · intro i hi
    have hi : i < 12 := hi
    show cpM A fr to 201 (i + 12 * to) = A 201 (i + 12 * fr)
    rw [cpM_201, mvF_to hi]
    rfl
  · intro i hi
    have hi : i < 1 := hi
    show cpM A fr to 202 (i + 1 * to) = A 202 (i + 1 * fr)
    rw [cpM_202, mvF_to hi]
    rfl
  · intro i hi
    have hi : i < 12 := hi
    show cpM A fr to 203 (i + 12 * to) = A 203 (i + 12 * fr)
    rw [cpM_203, mvF_to hi]
    rfl
  · intro i hi
    have hi : i < 72 := hi
    show cpM A fr to 204 (i + 72 * to) = A 204 (i + 72 * fr)
    rw [cpM_204, mvF_to hi, nbo_1 (b2 i hi)]
  · intro i hi
    have hi : i < 1 := hi
    show cpM A fr to 205 (i + 1 * to) = A 205 (i + 1 * fr)
    rw [cpM_205, mvF_to hi]
    rfl
  · intro i hi
    have hi : i < 12 := hi
    show cpM A fr to 206 (i + 12 * to) = A 206 (i + 12 * fr)
    rw [cpM_206, mvF_to hi]
    rfl
  · intro i hi
    have hi : i < 48 := hi
    show cpM A fr to 207 (i + 48 * to) = A 207 (i + 48 * fr)
    rw [cpM_207, mvF_to hi]
    rfl
  · intro i hi
    have hi : i < 48 := hi
    show cpM A fr to 208 (i + 48 * to) = A 208 (i + 48 * fr)
    rw [cpM_208, mvF_to hi]
    rfl
  · intro i hi
    have hi : i < 48 := hi
    show cpM A fr to 209 (i + 48 * to) = A 209 (i + 48 * fr)
    rw [cpM_209, mvF_to hi]
    rfl
  · intro i hi
    have hi : i < 12 := hi
    show cpM A fr to 210 (i + 12 * to) = A 210 (i + 12 * fr)
    rw [cpM_210, mvF_to hi]
    rfl
  · intro i hi
    have hi : i < 72 := hi
    show cpM A fr to 211 (i + 72 * to) = A 211 (i + 72 * fr)
    rw [cpM_211, mvF_to hi]
    rfl
  · intro i hi
    have hi : i < 12 := hi
    show cpM A fr to 212 (i + 12 * to) = A 212 (i + 12 * fr)
    rw [cpM_212, mvF_to hi]
    rfl
  · intro i hi
    have hi : i < 72 := hi
    show cpM A fr to 213 (i + 72 * to) = A 213 (i + 72 * fr)
    rw [cpM_213, mvF_to hi]
    rfl
theorem cpM_st {A : Nat → Nat → Nat} {fr to s c : Nat} (h1 : 186 ≤ c) (h2 : c ≤ 213) (hs : s ≠ to) : agM A (cpM A fr to) s s c := by
  have cs : c = 186 ∨ c = 187 ∨ c = 188 ∨ c = 189 ∨ c = 190 ∨ c = 191 ∨ c = 192 ∨ c = 193 ∨ c = 194 ∨ c = 195 ∨ c = 196 ∨ c = 197 ∨ c = 198 ∨ c = 199 ∨ c = 200 ∨ c = 201 ∨ c = 202 ∨ c = 203 ∨ c = 204 ∨ c = 205 ∨ c = 206 ∨ c = 207 ∨ c = 208 ∨ c = 209 ∨ c = 210 ∨ c = 211 ∨ c = 212 ∨ c = 213 := by omega
  rcases cs with rfl | rfl | rfl | rfl | rfl | rfl | rfl | rfl | rfl | rfl | rfl | rfl | rfl | rfl | rfl | rfl | rfl | rfl | rfl | rfl | rfl | rfl | rfl | rfl | rfl | rfl | rfl | rfl
  · intro i hi
    have hi : i < 300 := hi
    show cpM A fr to 186 (i + 300 * s) = A 186 (i + 300 * s)
    rw [cpM_186, mvF_ne hi hs]
  · intro i hi
    have hi : i < 1 := hi
    show cpM A fr to 187 (i + 1 * s) = A 187 (i + 1 * s)
    rw [cpM_187, mvF_ne hi hs]
  · intro i hi
    have hi : i < 1 := hi
    show cpM A fr to 188 (i + 1 * s) = A 188 (i + 1 * s)
    rw [cpM_188, mvF_ne hi hs]
  · intro i hi
    have hi : i < 1 := hi
    show cpM A fr to 189 (i + 1 * s) = A 189 (i + 1 * s)
    rw [cpM_189, mvF_ne hi hs]
  · intro i hi
    have hi : i < 1 := hi
    show cpM A fr to 190 (i + 1 * s) = A 190 (i + 1 * s)
    rw [cpM_190, mvF_ne hi hs]
  · intro i hi
    have hi : i < 6 := hi
    show cpM A fr to 191 (i + 6 * s) = A 191 (i + 6 * s)
    rw [cpM_191, mvF_ne hi hs]
  · intro i hi
    have hi : i < 6 := hi
    show cpM A fr to 192 (i + 6 * s) = A 192 (i + 6 * s)
    rw [cpM_192, mvF_ne hi hs]
  · intro i hi
    have hi : i < 1 := hi
    show cpM A fr to 193 (i + 1 * s) = A 193 (i + 1 * s)
    rw [cpM_193, mvF_ne hi hs]
  · intro i hi
    have hi : i < 12 := hi
    show cpM A fr to 194 (i + 12 * s) = A 194 (i + 12 * s)
    rw [cpM_194, mvF_ne hi hs]
  · intro i hi
    have hi : i < 12 := hi
    show cpM A fr to 195 (i + 12 * s) = A 195 (i + 12 * s)
    rw [cpM_195, mvF_ne hi hs]
  · intro i hi
    have hi : i < 12 := hi
    show cpM A fr to 196 (i + 12 * s) = A 196 (i + 12 * s)
    rw [cpM_196, mvF_ne hi hs]
  · intro i hi
    have hi : i < 12 := hi
    show cpM A fr to 197 (i + 12 * s) = A 197 (i + 12 * s)
    rw [cpM_197, mvF_ne hi hs]
  · intro i hi
    have hi : i < 1 := hi
    show cpM A fr to 198 (i + 1 * s) = A 198 (i + 1 * s)
    rw [cpM_198, mvF_ne hi hs]
  · intro i hi
    have hi : i < 1 := hi
    show cpM A fr to 199 (i + 1 * s) = A 199 (i + 1 * s)
    rw [cpM_199, mvF_ne hi hs]
  · intro i hi
    have hi : i < 12 := hi
    show cpM A fr to 200 (i + 12 * s) = A 200 (i + 12 * s)
    rw [cpM_200, mvF_ne hi hs]
  · intro i hi
    have hi : i < 12 := hi
    show cpM A fr to 201 (i + 12 * s) = A 201 (i + 12 * s)
    rw [cpM_201, mvF_ne hi hs]
  · intro i hi
    have hi : i < 1 := hi
    show cpM A fr to 202 (i + 1 * s) = A 202 (i + 1 * s)
    rw [cpM_202, mvF_ne hi hs]
  · intro i hi
    have hi : i < 12 := hi
    show cpM A fr to 203 (i + 12 * s) = A 203 (i + 12 * s)
    rw [cpM_203, mvF_ne hi hs]
  · intro i hi
    have hi : i < 72 := hi
    show cpM A fr to 204 (i + 72 * s) = A 204 (i + 72 * s)
    rw [cpM_204, mvF_ne hi hs]
  · intro i hi
    have hi : i < 1 := hi
    show cpM A fr to 205 (i + 1 * s) = A 205 (i + 1 * s)
    rw [cpM_205, mvF_ne hi hs]
  · intro i hi
    have hi : i < 12 := hi
    show cpM A fr to 206 (i + 12 * s) = A 206 (i + 12 * s)
    rw [cpM_206, mvF_ne hi hs]
  · intro i hi
    have hi : i < 48 := hi
    show cpM A fr to 207 (i + 48 * s) = A 207 (i + 48 * s)
    rw [cpM_207, mvF_ne hi hs]
  · intro i hi
    have hi : i < 48 := hi
    show cpM A fr to 208 (i + 48 * s) = A 208 (i + 48 * s)
    rw [cpM_208, mvF_ne hi hs]
  · intro i hi
    have hi : i < 48 := hi
    show cpM A fr to 209 (i + 48 * s) = A 209 (i + 48 * s)
    rw [cpM_209, mvF_ne hi hs]
  · intro i hi
    have hi : i < 12 := hi
    show cpM A fr to 210 (i + 12 * s) = A 210 (i + 12 * s)
    rw [cpM_210, mvF_ne hi hs]
  · intro i hi
    have hi : i < 72 := hi
    show cpM A fr to 211 (i + 72 * s) = A 211 (i + 72 * s)
    rw [cpM_211, mvF_ne hi hs]
  · intro i hi
    have hi : i < 12 := hi
    show cpM A fr to 212 (i + 12 * s) = A 212 (i + 12 * s)
    rw [cpM_212, mvF_ne hi hs]
  · intro i hi
    have hi : i < 72 := hi
    show cpM A fr to 213 (i + 72 * s) = A 213 (i + 72 * s)
    rw [cpM_213, mvF_ne hi hs]
