set_option maxRecDepth 20000
set_option maxHeartbeats 4000000
/-! CLASS: the tape is cut up; THE TOKENS -/
def tkS (b : Nat → Nat) (L pos : Nat) : Nat := rE cyB b L pos (L - pos)
def tkK (b : Nat → Nat) (L pos : Nat) : Nat := if tkS b L pos < L then lxK b L (tkS b L pos) else 0
def tkV (b : Nat → Nat) (L pos : Nat) : Nat := if tkS b L pos < L then lxV b L (tkS b L pos) else 0
def tkN (b : Nat → Nat) (L pos : Nat) : Nat := if tkS b L pos < L then lxE b L (tkS b L pos) else L
def tps (b : Nat → Nat) (L : Nat) : Nat → Nat
  | 0 => 0
  | n + 1 => tkN b L (tps b L n)
theorem lxE_ok {b : Nat → Nat} {L i : Nat} (hi : i < L) : i < lxE b L i ∧ lxE b L i ≤ L := by
  unfold lxE
  have a := rE_ge (p := cyL) (b := b) (L := L) (L - (i + 1)) (i + 1)
  have c := rE_ge (p := cyD) (b := b) (L := L) (L - (i + 1)) (i + 1)
  split
  · omega
  · split
    · omega
    · omega
theorem tkS_le {b : Nat → Nat} {L pos : Nat} (h : pos ≤ L) : pos ≤ tkS b L pos ∧ tkS b L pos ≤ L := by
  have := rE_ge (p := cyB) (b := b) (L := L) (L - pos) pos
  unfold tkS
  omega
theorem tkN_le {b : Nat → Nat} {L pos : Nat} (h : pos ≤ L) : tkN b L pos ≤ L := by
  unfold tkN
  split
  · next c => exact (lxE_ok c).2
  · exact Nat.le_refl _
theorem tps_le {b : Nat → Nat} {L : Nat} : ∀ n, tps b L n ≤ L
  | 0 => Nat.zero_le _
  | n + 1 => tkN_le (tps_le n)
/-- the table of the tokens: N of them before the end -/
def tabN (A : Nat → Nat → Nat) (b : Nat → Nat) (L n : Nat) : Prop := (∀ k, k < n → tkS b L (tps b L k) < L) ∧ ∀ k, k < n → A 182 k = tkK b L (tps b L k) ∧ A 183 k = tkV b L (tps b L k) ∧ A 184 k = tkS b L (tps b L k)
def tabOK (A : Nat → Nat → Nat) (b : Nat → Nat) (L N : Nat) : Prop := N ≤ 300 ∧ A 181 0 = N + 1 ∧ (∀ k, k < N → tkS b L (tps b L k) < L) ∧ tkS b L (tps b L N) = L ∧ ∀ k, k ≤ N → A 182 k = tkK b L (tps b L k) ∧ A 183 k = tkV b L (tps b L k) ∧ A 184 k = tkS b L (tps b L k)
theorem putA_o {A : Nat → Nat → Nat} {k v s c : Nat} (h : c < 181 ∨ 184 < c) : putA A k v s c = A c := by
  unfold putA
  rw [aU_nf (by omega), aU_nf (by omega), aU_nf (by omega), aU_nf (by omega)]
theorem putA_at {A : Nat → Nat → Nat} {k v s : Nat} : putA A k v s 181 0 = A 181 0 + 1 ∧ (∀ i, putA A k v s 182 i = if i = A 181 0 then k else A 182 i) ∧ (∀ i, putA A k v s 183 i = if i = A 181 0 then v else A 183 i) ∧ (∀ i, putA A k v s 184 i = if i = A 181 0 then s else A 184 i) := by
  unfold putA
  refine ⟨aU_eq, fun i => ?_, fun i => ?_, fun i => ?_⟩
  · rw [aU_ne (by decide), aU_ne (by decide), aU_ne (by decide)]
    by_cases z : i = A 181 0
    · rw [if_pos z, z, aU_eq]
    · rw [if_neg z, aU_ne2 z]
  · rw [aU_ne (by decide), aU_ne (by decide)]
    by_cases z : i = A 181 0
    · rw [if_pos z, z, aU_eq]
    · rw [if_neg z, aU_ne2 z, aU_ne (by decide)]
  · rw [aU_ne (by decide)]
    by_cases z : i = A 181 0
    · rw [if_pos z, z, aU_eq]
    · rw [if_neg z, aU_ne2 z, aU_ne (by decide), aU_ne (by decide)]
theorem l_56 {X : mX} {D : Nat} {cap : Nat × Nat} {G : mG} {b : Nat → Nat} {L : Nat} (hD : 7 ≤ D) (hL : L ≤ 300) (hb : ∀ x, x < L → b x < 256) : ∀ m fr kk (A : Nat → Nat → Nat), L ≤ fr + m → fr ≤ L → kk ≤ fr → A 38 0 = L → A 39 = b → A 181 0 ≤ fr → tkS b L fr = tkS b L (tps b L (A 181 0)) → tabN A b L (A 181 0) → ∃ (A' : Nat → Nat → Nat) (N : Nat), (∀ c, c < 181 ∨ 184 < c → A' c = A c) ∧ tabOK A' b L N ∧ ∀ P, mW (mCall X D) X cap 56 P 9 [.ref 181, .ref 38, .int (tN fr), .int (tN kk)] [] (mN A, RF, G, mSh) = P none (mN (A'), RF, G, mSh) := by
  intro m
  induction m with
  | zero =>
    intro fr kk A h1 h2 gu a1 a2 a3 a4 a5
    obtain rfl : fr = L := by omega
    have e73 := fun P' => c_73 (X := X) (D := D) (P := P') (G := G) (A := A) (k := 0) (v := 0) (s := fr) (by omega) (by omega)
    have ts : tkS b fr fr = fr := by have := tkS_le (b := b) (L := fr) (pos := fr) (Nat.le_refl _); omega
    rw [ts] at a4
    obtain ⟨p1, p2, p3, p4⟩ := putA_at (A := A) (k := 0) (v := 0) (s := fr)
    refine ⟨putA A 0 0 fr, A 181 0, fun c hc => putA_o hc, ⟨by omega, p1, a5.1, a4.symm, fun k hk => ?_⟩, fun P => ?_⟩
    · rw [p2, p3, p4]
      by_cases z : k = A 181 0
      · rw [if_pos z, if_pos z, if_pos z, z]
        unfold tkK tkV
        rw [← a4, if_neg (by omega), if_neg (by omega)]
        exact ⟨rfl, rfl, rfl⟩
      · rw [if_neg z, if_neg z, if_neg z]
        exact a5.2 k (by omega)
    · by_cases c3 : kk < 300
      · rw [kh_56_9]
        simp (disch := first | omega | assumption | exact mOk_int | exact mOk_null | exact mOk_ref | (simp (disch := omega) only [aF_ef, aF_nf, aU_ne, aU_eq, aU_ne2]; first | done | omega | assumption)) only [k_56_0, al_0, r_push, q_putI, is_2, is_3, il_3, ri_icge, il_2, al_1, q_getI, gq_0, gq_1, gq_2, gq_3, gq_4, q_iald, r_callS1, ri_ifeq, r_iadd, r_goto, q_callV2, ii_3, q_callV3, r_vret, kd_0, kd_1, kd_2, kd_3, kd_4, kd_5, ln_0, ln_1, ln_2, ln_3, ln_4, ln_5, Option.some.injEq, Value.int.injEq, Value.ref.injEq, Value.long.injEq, Prod.mk.injEq, exists_eq_left', exists_eq_left, true_and, and_true, mLk, Option.any_some, mC1, Value.category, Option.toList_some, Option.toList_none, List.nil_append, List.cons_append, List.length_cons, List.length_nil, ne_eq, Nat.reduceEqDiff, not_false_eq_true, reduceCtorEq, exists_and_left, exists_and_right, Nat.reduceLeDiff, Nat.reduceAdd, and_self, exists_eq, exists_eq_right, exists_const, eq_self, exists_eq', not_true_eq_false, false_implies, true_implies, implies_true, forall_const, or_true, true_or, false_or, or_false, and_false, false_and, if_true, if_false, ite_true, ite_false, mB, mOk_int, mOk_ref, mOk_null, mOk_long, Nat.reduceLT, Nat.reduceSub, Nat.reduceMul, Nat.reduceDiv, Nat.reduceMod, Classical.not_not, ↓reduceIte, Nat.zero_add, Nat.add_zero, Nat.add_sub_cancel, Bool.false_eq_true, tN_l, tN_m1, tN_n1, tN_n8, tN_dec, tN_dec8, aF_ef, aF_nf, aF_U, tN_lt, tN_le, tN_inj, tN_add, tN_mul, tN_sub, tN_and, tN_or, tN_xor, tN_and31, tN_clamp, tN_in, tN_div, nm_rem, tN_shl, tN_shr, tN_b2, nd_lt, nd_nlt, nd_le, nd_nle, nd_eq, nd_ne, mN_at, mN_U, aU_ne, aU_eq, aU_ne2, a1, e73]
      · rw [kh_56_9]
        simp (disch := first | omega | assumption | exact mOk_int | exact mOk_null | exact mOk_ref | (simp (disch := omega) only [aF_ef, aF_nf, aU_ne, aU_eq, aU_ne2]; first | done | omega | assumption)) only [k_56_0, al_0, r_push, q_putI, is_2, is_3, il_3, ri_icge, il_2, al_1, q_getI, gq_0, gq_1, gq_2, gq_3, gq_4, q_iald, r_callS1, ri_ifeq, r_iadd, r_goto, q_callV2, ii_3, q_callV3, r_vret, kd_0, kd_1, kd_2, kd_3, kd_4, kd_5, ln_0, ln_1, ln_2, ln_3, ln_4, ln_5, Option.some.injEq, Value.int.injEq, Value.ref.injEq, Value.long.injEq, Prod.mk.injEq, exists_eq_left', exists_eq_left, true_and, and_true, mLk, Option.any_some, mC1, Value.category, Option.toList_some, Option.toList_none, List.nil_append, List.cons_append, List.length_cons, List.length_nil, ne_eq, Nat.reduceEqDiff, not_false_eq_true, reduceCtorEq, exists_and_left, exists_and_right, Nat.reduceLeDiff, Nat.reduceAdd, and_self, exists_eq, exists_eq_right, exists_const, eq_self, exists_eq', not_true_eq_false, false_implies, true_implies, implies_true, forall_const, or_true, true_or, false_or, or_false, and_false, false_and, if_true, if_false, ite_true, ite_false, mB, mOk_int, mOk_ref, mOk_null, mOk_long, Nat.reduceLT, Nat.reduceSub, Nat.reduceMul, Nat.reduceDiv, Nat.reduceMod, Classical.not_not, ↓reduceIte, Nat.zero_add, Nat.add_zero, Nat.add_sub_cancel, Bool.false_eq_true, tN_l, tN_m1, tN_n1, tN_n8, tN_dec, tN_dec8, aF_ef, aF_nf, aF_U, tN_lt, tN_le, tN_inj, tN_add, tN_mul, tN_sub, tN_and, tN_or, tN_xor, tN_and31, tN_clamp, tN_in, tN_div, nm_rem, tN_shl, tN_shr, tN_b2, nd_lt, nd_nlt, nd_le, nd_nle, nd_eq, nd_ne, mN_at, mN_U, aU_ne, aU_eq, aU_ne2, a1, e73]
  | succ m ih =>
    intro fr kk A h1 h2 gu a1 a2 a3 a4 a5
    by_cases c0 : fr = L
    · exact ih fr kk A (by omega) h2 gu a1 a2 a3 a4 a5
    · have hfr : fr < L := by omega
      have b1 := hb fr hfr
      have e57 := fun P' => c_57 (X := X) (D := D) (P := P') (σ := (mN A, RF, G, mSh)) (x := b fr) (by omega) b1
      by_cases c : cyB (b fr) = true
      · have ts : tkS b L fr = tkS b L (fr + 1) := by
          unfold tkS
          rw [show L - fr = (L - (fr + 1)) + 1 by omega]
          show (if fr < L ∧ cyB (b fr) = true then rE cyB b L (fr + 1) (L - (fr + 1)) else fr) = _
          rw [if_pos ⟨hfr, c⟩]
        obtain ⟨A', N, g1, g2, g3⟩ := ih (fr + 1) (kk + 1) A (by omega) (by omega) (by omega) a1 a2 (by omega) (by rw [← ts]; exact a4) a5
        refine ⟨A', N, g1, g2, fun P => ?_⟩
        have g := g3 P
        rw [kh_56_9]
        simp (disch := first | omega | assumption | exact mOk_int | exact mOk_null | exact mOk_ref | (simp (disch := omega) only [aF_ef, aF_nf, aU_ne, aU_eq, aU_ne2]; first | done | omega | assumption)) only [k_56_0, al_0, r_push, q_putI, is_2, is_3, il_3, ri_icge, il_2, al_1, q_getI, gq_0, gq_1, gq_2, gq_3, gq_4, q_iald, r_callS1, ri_ifeq, r_iadd, r_goto, q_callV2, ii_3, q_callV3, r_vret, kd_0, kd_1, kd_2, kd_3, kd_4, kd_5, ln_0, ln_1, ln_2, ln_3, ln_4, ln_5, Option.some.injEq, Value.int.injEq, Value.ref.injEq, Value.long.injEq, Prod.mk.injEq, exists_eq_left', exists_eq_left, true_and, and_true, mLk, Option.any_some, mC1, Value.category, Option.toList_some, Option.toList_none, List.nil_append, List.cons_append, List.length_cons, List.length_nil, ne_eq, Nat.reduceEqDiff, not_false_eq_true, reduceCtorEq, exists_and_left, exists_and_right, Nat.reduceLeDiff, Nat.reduceAdd, and_self, exists_eq, exists_eq_right, exists_const, eq_self, exists_eq', not_true_eq_false, false_implies, true_implies, implies_true, forall_const, or_true, true_or, false_or, or_false, and_false, false_and, if_true, if_false, ite_true, ite_false, mB, mOk_int, mOk_ref, mOk_null, mOk_long, Nat.reduceLT, Nat.reduceSub, Nat.reduceMul, Nat.reduceDiv, Nat.reduceMod, Classical.not_not, ↓reduceIte, Nat.zero_add, Nat.add_zero, Nat.add_sub_cancel, Bool.false_eq_true, tN_l, tN_m1, tN_n1, tN_n8, tN_dec, tN_dec8, aF_ef, aF_nf, aF_U, tN_lt, tN_le, tN_inj, tN_add, tN_mul, tN_sub, tN_and, tN_or, tN_xor, tN_and31, tN_clamp, tN_in, tN_div, nm_rem, tN_shl, tN_shr, tN_b2, nd_lt, nd_nlt, nd_le, nd_nle, nd_eq, nd_ne, mN_at, mN_U, aU_ne, aU_eq, aU_ne2, a1, a2, e57, c]
        exact g
      · have ts : tkS b L fr = fr := by
          unfold tkS
          rw [show L - fr = (L - (fr + 1)) + 1 by omega]
          show (if fr < L ∧ cyB (b fr) = true then rE cyB b L (fr + 1) (L - (fr + 1)) else fr) = _
          rw [if_neg (fun z => c z.2)]
        obtain ⟨x1, x2⟩ := lxE_ok (b := b) hfr
        have e58 := fun P' => c_58 (X := X) (D := D) (P := P') (G := G) (A := A) (i := fr) hD (by omega) (by omega) (by rw [a1, a2]; exact hb) (by omega)
        rw [a1, a2] at e58
        obtain ⟨p1, p2, p3, p4⟩ := putA_at (A := A) (k := lxK b L fr) (v := lxV b L fr) (s := fr)
        rw [ts] at a4
        have tn : tps b L (A 181 0 + 1) = lxE b L fr := by
          show tkN b L (tps b L (A 181 0)) = _
          unfold tkN
          rw [← a4, if_pos hfr]
        obtain ⟨A', N, g1, g2, g3⟩ := ih (lxE b L fr) (kk + 1) (putA A (lxK b L fr) (lxV b L fr) fr) (by omega) x2 (by omega) (by rw [putA_o (by omega)]; exact a1) (by rw [putA_o (by omega)]; exact a2) (by rw [p1]; omega) (by rw [p1, tn]) (by
          rw [p1]
          refine ⟨fun k hk => ?_, fun k hk => ?_⟩
          · by_cases z : k = A 181 0
            · rw [z, ← a4]; exact hfr
            · exact a5.1 k (by omega)
          · rw [p2, p3, p4]
            by_cases z : k = A 181 0
            · rw [if_pos z, if_pos z, if_pos z, z]
              unfold tkK tkV
              rw [← a4, if_pos hfr, if_pos hfr]
              exact ⟨rfl, rfl, rfl⟩
            · rw [if_neg z, if_neg z, if_neg z]
              exact a5.2 k (by omega))
        refine ⟨A', N, fun c hc => by rw [g1 c hc, putA_o hc], g2, fun P => ?_⟩
        have g := g3 P
        generalize putA A (lxK b L fr) (lxV b L fr) fr = C at *
        rw [kh_56_9]
        simp (disch := first | omega | assumption | exact mOk_int | exact mOk_null | exact mOk_ref | (simp (disch := omega) only [aF_ef, aF_nf, aU_ne, aU_eq, aU_ne2]; first | done | omega | assumption)) only [k_56_0, al_0, r_push, q_putI, is_2, is_3, il_3, ri_icge, il_2, al_1, q_getI, gq_0, gq_1, gq_2, gq_3, gq_4, q_iald, r_callS1, ri_ifeq, r_iadd, r_goto, q_callV2, ii_3, q_callV3, r_vret, kd_0, kd_1, kd_2, kd_3, kd_4, kd_5, ln_0, ln_1, ln_2, ln_3, ln_4, ln_5, Option.some.injEq, Value.int.injEq, Value.ref.injEq, Value.long.injEq, Prod.mk.injEq, exists_eq_left', exists_eq_left, true_and, and_true, mLk, Option.any_some, mC1, Value.category, Option.toList_some, Option.toList_none, List.nil_append, List.cons_append, List.length_cons, List.length_nil, ne_eq, Nat.reduceEqDiff, not_false_eq_true, reduceCtorEq, exists_and_left, exists_and_right, Nat.reduceLeDiff, Nat.reduceAdd, and_self, exists_eq, exists_eq_right, exists_const, eq_self, exists_eq', not_true_eq_false, false_implies, true_implies, implies_true, forall_const, or_true, true_or, false_or, or_false, and_false, false_and, if_true, if_false, ite_true, ite_false, mB, mOk_int, mOk_ref, mOk_null, mOk_long, Nat.reduceLT, Nat.reduceSub, Nat.reduceMul, Nat.reduceDiv, Nat.reduceMod, Classical.not_not, ↓reduceIte, Nat.zero_add, Nat.add_zero, Nat.add_sub_cancel, Bool.false_eq_true, tN_l, tN_m1, tN_n1, tN_n8, tN_dec, tN_dec8, aF_ef, aF_nf, aF_U, tN_lt, tN_le, tN_inj, tN_add, tN_mul, tN_sub, tN_and, tN_or, tN_xor, tN_and31, tN_clamp, tN_in, tN_div, nm_rem, tN_shl, tN_shr, tN_b2, nd_lt, nd_nlt, nd_le, nd_nle, nd_eq, nd_ne, mN_at, mN_U, aU_ne, aU_eq, aU_ne2, a1, a2, e57, c, e58]
        exact g
theorem c_56 {X : mX} {D : Nat} {G : mG} {A : Nat → Nat → Nat} (hD : 8 ≤ D) (hL : A 38 0 ≤ 300) (hb : ∀ x, x < A 38 0 → A 39 x < 256) : ∃ (A' : Nat → Nat → Nat) (N : Nat), (∀ c, c < 181 ∨ 184 < c → A' c = A c) ∧ tabOK A' (A 39) (A 38 0) N ∧ ∀ P, mCall X D 56 [.ref 181, .ref 38] (mN A, RF, G, mSh) P = P none (mN (A'), RF, G, mSh) := by
  obtain ⟨A', N, g1, g2, g3⟩ := l_56 (X := X) (D := D - 1) (cap := (mSh.length + (mAl 56).fst, mSum mSh + (mAl 56).snd)) (G := G) (b := A 39) (L := A 38 0) (by omega) hL hb (A 38 0) 0 0 (aU A 181 0 0) (by omega) (by omega) (by omega) (aU_ne (by decide)) (aU_nf (by decide)) (by rw [aU_eq]; exact Nat.le_refl _) (by rw [aU_eq]; rfl) (by
    rw [aU_eq]
    exact ⟨fun k hk => absurd hk (by omega), fun k hk => absurd hk (by omega)⟩)
  refine ⟨A', N, fun c hc => by rw [g1 c hc, aU_nf (by omega)], g2, fun P => ?_⟩
  rw [e_56 (by omega)]
  simp (disch := first | omega | assumption | exact mOk_int | exact mOk_null | exact mOk_ref | (simp (disch := omega) only [aF_ef, aF_nf, aU_ne, aU_eq, aU_ne2]; first | done | omega | assumption)) only [k_56_0, al_0, r_push, q_putI, is_2, is_3, il_3, ri_icge, il_2, al_1, q_getI, gq_0, gq_1, gq_2, gq_3, gq_4, q_iald, r_callS1, ri_ifeq, r_iadd, r_goto, q_callV2, ii_3, q_callV3, r_vret, kd_0, kd_1, kd_2, kd_3, kd_4, kd_5, ln_0, ln_1, ln_2, ln_3, ln_4, ln_5, Option.some.injEq, Value.int.injEq, Value.ref.injEq, Value.long.injEq, Prod.mk.injEq, exists_eq_left', exists_eq_left, true_and, and_true, mLk, Option.any_some, mC1, Value.category, Option.toList_some, Option.toList_none, List.nil_append, List.cons_append, List.length_cons, List.length_nil, ne_eq, Nat.reduceEqDiff, not_false_eq_true, reduceCtorEq, exists_and_left, exists_and_right, Nat.reduceLeDiff, Nat.reduceAdd, and_self, exists_eq, exists_eq_right, exists_const, eq_self, exists_eq', not_true_eq_false, false_implies, true_implies, implies_true, forall_const, or_true, true_or, false_or, or_false, and_false, false_and, if_true, if_false, ite_true, ite_false, mB, mOk_int, mOk_ref, mOk_null, mOk_long, Nat.reduceLT, Nat.reduceSub, Nat.reduceMul, Nat.reduceDiv, Nat.reduceMod, Classical.not_not, ↓reduceIte, Nat.zero_add, Nat.add_zero, Nat.add_sub_cancel, Bool.false_eq_true, tN_l, tN_m1, tN_n1, tN_n8, tN_dec, tN_dec8, aF_ef, aF_nf, aF_U, tN_lt, tN_le, tN_inj, tN_add, tN_mul, tN_sub, tN_and, tN_or, tN_xor, tN_and31, tN_clamp, tN_in, tN_div, nm_rem, tN_shl, tN_shr, tN_b2, nd_lt, nd_nlt, nd_le, nd_nle, nd_eq, nd_ne, mN_at, mN_U, aU_ne, aU_eq, aU_ne2]
  exact g3 P
