set_option maxRecDepth 20000
set_option maxHeartbeats 4000000
/-! MODEL: its steps at a token's number -/
section
variable {B : Nat → Nat → Nat} {b : Nat → Nat} {L t : Nat}
theorem mt_32 : mT B b L t 185 32 = t := rfl
theorem mt_33 : mT B b L t 185 33 = moS b L t := rfl
theorem mt_34 : mT B b L t 185 34 = moV b L t := rfl
theorem mt_36 : mT B b L t 185 36 = B 185 36 := rfl
theorem mt_37 : mT B b L t 185 37 = B 185 37 := rfl
theorem mt_38 : mT B b L t 185 38 = B 185 38 := rfl
theorem mt_39 : mT B b L t 185 39 = B 185 39 := rfl
theorem mt_o {c : Nat} (h : c ≠ 185) : mT B b L t c = B c := mo_o h
theorem mtw_s {i v : Nat} (h1 : i ≠ 30) (h2 : i ≠ 32) (h3 : i ≠ 33) (h4 : i ≠ 34) : aU (mT B b L t) 185 i v = mT (aU B 185 i v) b L t := by
  funext c j
  unfold mT moW aU
  by_cases e : c = 185
  · by_cases d : j = i
    · simp only [e, d, h1, h2, h3, h4, and_self, if_true, if_false]
    · simp only [e, d, and_false, if_true, if_false]
  · simp only [e, false_and, if_false]
theorem mtw_o {c i v : Nat} (h : c ≠ 185) : aU (mT B b L t) c i v = mT (aU B c i v) b L t := by
  funext d j
  unfold mT moW aU
  by_cases e : d = 185
  · have h' : ¬ 185 = c := fun z => h z.symm
    simp only [e, h', false_and, if_true, if_false]
  · simp only [e, if_false]
theorem moP_s {i v : Nat} (h : moP B b L) (hi : i ≠ 31) : moP (aU B 185 i v) b L := by
  obtain ⟨h1, h2, h3⟩ := h
  refine ⟨h1, ?_, ?_⟩
  · rw [aU_ne2 (fun z => hi z.symm)]; exact h2
  · intro i hi
    rw [aU_ne (by decide)]
    exact h3 i hi
theorem moP_o {c i v : Nat} (h : moP B b L) (h1 : c ≠ 185) (h2 : c ≠ 186) : moP (aU B c i v) b L := by
  obtain ⟨g1, g2, g3⟩ := h
  refine ⟨g1, ?_, ?_⟩
  · rw [aU_nf (fun z => h1 z.symm)]; exact g2
  · intro i hi
    rw [aU_nf (fun z => h2 z.symm)]
    exact g3 i hi
end
/-- a fault kept for later -/
def lat (B : Nat → Nat → Nat) (f p : Nat) : Nat → Nat → Nat := if B 185 37 = 0 then aU (aU B 185 37 f) 185 38 p else B
theorem moP_lat {B : Nat → Nat → Nat} {b : Nat → Nat} {L f p : Nat} (h : moP B b L) : moP (lat B f p) b L := by
  unfold lat
  by_cases c : B 185 37 = 0
  · rw [if_pos c]; exact moP_s (moP_s h (by decide)) (by decide)
  · rw [if_neg c]; exact h
section
variable {X : mX} {D : Nat} {P : mPost} {G : mG} {B : Nat → Nat → Nat} {b : Nat → Nat} {L N : Nat} {K V S : Nat → Nat} {n : Nat}
theorem i_154 (hD : 2 ≤ D) (h : TK b L N K V S) (hP : moP B b L) (hn : n ≤ N) : mCall X D 154 [.ref 185] (mN (mT (B) b L (S n)), RF, moQ G b L (S n), mSh) P = P none (mN (mT (B) b L (S (stI N n))), RF, moQ G b L (S (stI N n)), mSh) := by
  obtain ⟨h1, -, -, h4, -⟩ := h.2.2.2.2 n hn
  rw [m_154t hD hP h1, h4]
theorem i_158 {j : Nat} {w : Int64} {kd : Nat} (hj : j < 11) (hw : tL (wdN (wB j) 0 (wLn j)) = w) (hk : kdW j = kd) (hD : 1 ≤ D) (h : TK b L N K V S) (hn : n ≤ N) : mCall X D 158 [.ref 185, .long w] (mN (mT (B) b L (S n)), RF, moQ G b L (S n), mSh) P = P (some (.int (tN (if K n = kd then 1 else 0)))) (mN (mT (B) b L (S n)), RF, moQ G b L (S n), mSh) := by
  rw [← hw, ← hk, m_158t hD hj, (h.2.2.2.2 n hn).2.1]
theorem i_158_if (hD : 1 ≤ D) (h : TK b L N K V S) (hn : n ≤ N) : mCall X D 158 [.ref 185, .long 26982] (mN (mT (B) b L (S n)), RF, moQ G b L (S n), mSh) P = P (some (.int (tN (if K n = 10 then 1 else 0)))) (mN (mT (B) b L (S n)), RF, moQ G b L (S n), mSh) := i_158 (j := 0) (by decide) (by decide) rfl hD h hn
theorem i_158_and (hD : 1 ≤ D) (h : TK b L N K V S) (hn : n ≤ N) : mCall X D 158 [.ref 185, .long 6385252] (mN (mT (B) b L (S n)), RF, moQ G b L (S n), mSh) P = P (some (.int (tN (if K n = 11 then 1 else 0)))) (mN (mT (B) b L (S n)), RF, moQ G b L (S n), mSh) := i_158 (j := 1) (by decide) (by decide) rfl hD h hn
theorem i_158_not (hD : 1 ≤ D) (h : TK b L N K V S) (hn : n ≤ N) : mCall X D 158 [.ref 185, .long 7237492] (mN (mT (B) b L (S n)), RF, moQ G b L (S n), mSh) P = P (some (.int (tN (if K n = 12 then 1 else 0)))) (mN (mT (B) b L (S n)), RF, moQ G b L (S n), mSh) := i_158 (j := 2) (by decide) (by decide) rfl hD h hn
theorem i_158_part (hD : 1 ≤ D) (h : TK b L N K V S) (hn : n ≤ N) : mCall X D 158 [.ref 185, .long 1885434484] (mN (mT (B) b L (S n)), RF, moQ G b L (S n), mSh) P = P (some (.int (tN (if K n = 13 then 1 else 0)))) (mN (mT (B) b L (S n)), RF, moQ G b L (S n), mSh) := i_158 (j := 3) (by decide) (by decide) rfl hD h hn
theorem i_158_whole (hD : 1 ≤ D) (h : TK b L N K V S) (hn : n ≤ N) : mCall X D 158 [.ref 185, .long 512853240933] (mN (mT (B) b L (S n)), RF, moQ G b L (S n), mSh) P = P (some (.int (tN (if K n = 14 then 1 else 0)))) (mN (mT (B) b L (S n)), RF, moQ G b L (S n), mSh) := i_158 (j := 4) (by decide) (by decide) rfl hD h hn
theorem i_158_none (hD : 1 ≤ D) (h : TK b L N K V S) (hn : n ≤ N) : mCall X D 158 [.ref 185, .long 1852796517] (mN (mT (B) b L (S n)), RF, moQ G b L (S n), mSh) P = P (some (.int (tN (if K n = 15 then 1 else 0)))) (mN (mT (B) b L (S n)), RF, moQ G b L (S n), mSh) := i_158 (j := 5) (by decide) (by decide) rfl hD h hn
theorem i_158_days (hD : 1 ≤ D) (h : TK b L N K V S) (hn : n ≤ N) : mCall X D 158 [.ref 185, .long 1684109683] (mN (mT (B) b L (S n)), RF, moQ G b L (S n), mSh) P = P (some (.int (tN (if K n = 20 then 1 else 0)))) (mN (mT (B) b L (S n)), RF, moQ G b L (S n), mSh) := i_158 (j := 6) (by decide) (by decide) rfl hD h hn
theorem i_158_price (hD : 1 ≤ D) (h : TK b L N K V S) (hn : n ≤ N) : mCall X D 158 [.ref 185, .long 482955846501] (mN (mT (B) b L (S n)), RF, moQ G b L (S n), mSh) P = P (some (.int (tN (if K n = 21 then 1 else 0)))) (mN (mT (B) b L (S n)), RF, moQ G b L (S n), mSh) := i_158 (j := 7) (by decide) (by decide) rfl hD h hn
theorem i_158_size (hD : 1 ≤ D) (h : TK b L N K V S) (hn : n ≤ N) : mCall X D 158 [.ref 185, .long 1936292453] (mN (mT (B) b L (S n)), RF, moQ G b L (S n), mSh) P = P (some (.int (tN (if K n = 22 then 1 else 0)))) (mN (mT (B) b L (S n)), RF, moQ G b L (S n), mSh) := i_158 (j := 8) (by decide) (by decide) rfl hD h hn
theorem i_158_row (hD : 1 ≤ D) (h : TK b L N K V S) (hn : n ≤ N) : mCall X D 158 [.ref 185, .long 7499639] (mN (mT (B) b L (S n)), RF, moQ G b L (S n), mSh) P = P (some (.int (tN (if K n = 23 then 1 else 0)))) (mN (mT (B) b L (S n)), RF, moQ G b L (S n), mSh) := i_158 (j := 9) (by decide) (by decide) rfl hD h hn
theorem i_158_back (hD : 1 ≤ D) (h : TK b L N K V S) (hn : n ≤ N) : mCall X D 158 [.ref 185, .long 1650549611] (mN (mT (B) b L (S n)), RF, moQ G b L (S n), mSh) P = P (some (.int (tN (if K n = 24 then 1 else 0)))) (mN (mT (B) b L (S n)), RF, moQ G b L (S n), mSh) := i_158 (j := 10) (by decide) (by decide) rfl hD h hn
theorem i_162 {c : Nat} (hD : 1 ≤ D) (h : TK b L N K V S) (hn : n ≤ N) (h1 : 58 ≤ c) (h2 : c ≤ 62) : mCall X D 162 [.ref 185, .int (tN c)] (mN (mT (B) b L (S n)), RF, moQ G b L (S n), mSh) P = P (some (.int (tN (if K n = c then 1 else 0)))) (mN (mT (B) b L (S n)), RF, moQ G b L (S n), mSh) := by
  rw [m_162t hD h1 h2 (moV_lt h.2.2.1), (h.2.2.2.2 n hn).2.1]
theorem i_160 {t : Nat} (hD : 1 ≤ D) : mCall X D 160 [.ref 185] (mN (mT (B) b L (t)), RF, moQ G b L (t), mSh) P = P (some (.int (tN (0)))) (mN (mT (aU B 185 36 t) b L (t)), RF, moQ G b L (t), mSh) := by
  rw [m_160 hD, mt_32, mtw_s (by decide) (by decide) (by decide) (by decide)]
theorem i_157 {t f p : Nat} (hD : 1 ≤ D) (hf : B 185 37 ≤ 3) : mCall X D 157 [.ref 185, .int (tN f), .int (tN p)] (mN (mT (B) b L (t)), RF, moQ G b L (t), mSh) P = P none (mN (mT (lat B f p) b L (t)), RF, moQ G b L (t), mSh) := by
  rw [m_157 hD (by rw [mt_37]; exact hf), mt_37]
  unfold lat
  by_cases c : B 185 37 = 0
  · rw [if_pos c, if_pos c, mtw_s (by decide) (by decide) (by decide) (by decide), mtw_s (by decide) (by decide) (by decide) (by decide)]
  · rw [if_neg c, if_neg c]
theorem i_161 {c : Nat} (hD : 3 ≤ D) (h : TK b L N K V S) (hP : moP B b L) (hn : n ≤ N) (h1 : 58 ≤ c) (h2 : c ≤ 62) : mCall X D 161 [.ref 185, .int (tN c)] (mN (mT (B) b L (S n)), RF, moQ G b L (S n), mSh) P = if K n = c then P (some (.int (tN (1)))) (mN (mT (B) b L (S (stI N n))), RF, moQ G b L (S (stI N n)), mSh) else P (some (.int (tN (0)))) (mN (mT (aU B 185 36 (S n)) b L (S n)), RF, moQ G b L (S n), mSh) := by
  have e162 := fun P' => i_162 (X := X) (D := D - 1) (P := P') (G := G) (B := B) (c := c) (by omega) h hn h1 h2
  have e154 := fun P' => i_154 (X := X) (D := D - 1) (P := P') (G := G) (B := B) (by omega) h hP hn
  have e160 := fun P' => i_160 (X := X) (D := D - 1) (P := P') (G := G) (B := B) (b := b) (L := L) (t := S n) (by omega)
  rw [e_161 (by omega)]
  by_cases z : K n = c
  · rw [if_pos z]
    simp (disch := first | omega | assumption | exact mOk_int | exact mOk_null | exact mOk_ref | (simp (disch := omega) only [aF_ef, aF_nf, aU_ne, aU_eq, aU_ne2]; first | done | omega | assumption)) only [k_161_0, al_0, il_1, q_callV1, ri_ifne, q_callV0, r_zret, r_push, kd_0, kd_1, kd_2, kd_3, kd_4, kd_5, ln_0, ln_1, ln_2, ln_3, ln_4, ln_5, Option.some.injEq, Value.int.injEq, Value.ref.injEq, Value.long.injEq, Prod.mk.injEq, exists_eq_left', exists_eq_left, true_and, and_true, mLk, Option.any_some, mC1, Value.category, Option.toList_some, Option.toList_none, List.nil_append, List.cons_append, List.length_cons, List.length_nil, ne_eq, Nat.reduceEqDiff, not_false_eq_true, reduceCtorEq, exists_and_left, exists_and_right, Nat.reduceLeDiff, Nat.reduceAdd, and_self, exists_eq, exists_eq_right, exists_const, eq_self, exists_eq', not_true_eq_false, false_implies, true_implies, implies_true, forall_const, or_true, true_or, false_or, or_false, and_false, false_and, if_true, if_false, ite_true, ite_false, mB, mOk_int, mOk_ref, mOk_null, mOk_long, Nat.reduceLT, Nat.reduceSub, Nat.reduceMul, Nat.reduceDiv, Nat.reduceMod, Classical.not_not, ↓reduceIte, Nat.zero_add, Nat.add_zero, Nat.add_sub_cancel, Bool.false_eq_true, tN_l, tN_m1, tN_n1, tN_n8, tN_dec, tN_dec8, aF_ef, aF_nf, aF_U, tN_lt, tN_le, tN_inj, tN_add, tN_mul, tN_sub, tN_and, tN_or, tN_xor, tN_and31, tN_clamp, tN_in, tN_div, nm_rem, tN_shl, tN_shr, tN_b2, nd_lt, nd_nlt, nd_le, nd_nle, nd_eq, nd_ne, mN_at, mN_U, aU_ne, aU_eq, aU_ne2, e162, e154, z]
  · rw [if_neg z]
    simp (disch := first | omega | assumption | exact mOk_int | exact mOk_null | exact mOk_ref | (simp (disch := omega) only [aF_ef, aF_nf, aU_ne, aU_eq, aU_ne2]; first | done | omega | assumption)) only [k_161_0, al_0, il_1, q_callV1, ri_ifne, q_callV0, r_zret, r_push, kd_0, kd_1, kd_2, kd_3, kd_4, kd_5, ln_0, ln_1, ln_2, ln_3, ln_4, ln_5, Option.some.injEq, Value.int.injEq, Value.ref.injEq, Value.long.injEq, Prod.mk.injEq, exists_eq_left', exists_eq_left, true_and, and_true, mLk, Option.any_some, mC1, Value.category, Option.toList_some, Option.toList_none, List.nil_append, List.cons_append, List.length_cons, List.length_nil, ne_eq, Nat.reduceEqDiff, not_false_eq_true, reduceCtorEq, exists_and_left, exists_and_right, Nat.reduceLeDiff, Nat.reduceAdd, and_self, exists_eq, exists_eq_right, exists_const, eq_self, exists_eq', not_true_eq_false, false_implies, true_implies, implies_true, forall_const, or_true, true_or, false_or, or_false, and_false, false_and, if_true, if_false, ite_true, ite_false, mB, mOk_int, mOk_ref, mOk_null, mOk_long, Nat.reduceLT, Nat.reduceSub, Nat.reduceMul, Nat.reduceDiv, Nat.reduceMod, Classical.not_not, ↓reduceIte, Nat.zero_add, Nat.add_zero, Nat.add_sub_cancel, Bool.false_eq_true, tN_l, tN_m1, tN_n1, tN_n8, tN_dec, tN_dec8, aF_ef, aF_nf, aF_U, tN_lt, tN_le, tN_inj, tN_add, tN_mul, tN_sub, tN_and, tN_or, tN_xor, tN_and31, tN_clamp, tN_in, tN_div, nm_rem, tN_shl, tN_shr, tN_b2, nd_lt, nd_nlt, nd_le, nd_nle, nd_eq, nd_ne, mN_at, mN_U, aU_ne, aU_eq, aU_ne2, e162, e160, z]
end
