set_option maxRecDepth 20000
set_option maxHeartbeats 4000000
/-! A LINE'S END, on both sides -/
def prG (K : Nat → Nat) (N n : Nat) : Prop := K n = 14 ∨ K n = 15 ∨ (K n = 13 ∧ K (stI N n) = 2)
def prE (K : Nat → Nat) (N n : Nat) : Nat := if K n = 13 then stI N (stI N n) else stI N n
def prV (K V : Nat → Nat) (N n : Nat) : Nat := if K n = 14 then 100 else if K n = 15 then 0 else V (stI N n)
def prK (K V : Nat → Nat) (N n fk : Nat) : Nat := if K n = 13 ∧ 100 < V (stI N n) then rmK fk 2 else fk
def prP (K V S : Nat → Nat) (N n fk fp : Nat) : Nat := if K n = 13 ∧ 100 < V (stI N n) then rmP fk (S (stI N n)) fp else fp
def prW (K : Nat → Nat) (N n : Nat) : Nat := if K n = 14 ∨ K n = 15 then stI N n else if K n = 13 then (if K (stI N n) = 2 then stI N (stI N n) else stI N n) else n
def prOk (K : Nat → Nat) (N n : Nat) : Prop := prG K N n ∧ K (prE K N n) = 59
def fnA (A : Nat → Nat → Nat) (p : Nat) : Nat → Nat → Nat := if A 173 0 < 12 then aU (aU A 174 (A 173 0) p) 173 0 (A 173 0 + 1) else A
theorem fnA_rd {A : Nat → Nat → Nat} {fk fp n p : Nat} : fnA (rdW A fk fp n) p = rdW (fnA A p) fk fp n := by
  unfold fnA
  rw [rq_o (c := 173) (by decide)]
  by_cases c : A 173 0 < 12
  · rw [if_pos c, if_pos c, rw_c (by decide), rw_c (by decide)]
  · rw [if_neg c, if_neg c]
section
variable {X : mX} {D : Nat} {cap : Nat × Nat} {P : mPost} {G : mG} {A : Nat → Nat → Nat} {fk fp n N nl : Nat} {u : Value}
theorem l_78u {fk' fp' m v : Nat} (gu : mOk u = true) (hD : 3 ≤ D) (hm' : m ≤ N) (hN : N ≤ 300) (hm : A 181 0 = N + 1) (hk : ∀ n, n ≤ N → A 182 n < 256) (hl : A 173 0 ≤ 12) (hv : v < 65536) (e87 : ∀ P', mCall X D 87 [.ref 172] (mN (rdW A fk fp n), RF, G, mSh) P' = P' (some (.int (tN (v)))) (mN (rdW A fk' fp' m), RF, G, mSh)) : (A 182 m = 59 → mW (mCall X D) X cap 78 P 36 [.ref 172, .int (tN nl), u] [] (mN (rdW A fk fp n), RF, G, mSh) = P (some (.int (tN (1)))) (mN (rdW (fnA A v) fk' fp' (stI N m)), RF, G, mSh)) ∧ (¬ A 182 m = 59 → mW (mCall X D) X cap 78 P 36 [.ref 172, .int (tN nl), u] [] (mN (rdW A fk fp n), RF, G, mSh) = P (some (.int (tN (0)))) (mN (rdW A 1 (A 184 m) m), RF, G, mSh)) := by
  have e85 := fun P' => c_85 (X := X) (D := D) (P := P') (G := G) (A := A) (fk := fk') (fp := fp') (n := m) (w := 59) (by omega) hm' hN hm (by omega) (hk m hm')
  have e88 := fun P' n => c_88 (X := X) (D := D) (P := P') (G := G) (A := rdW A fk' fp' n) (p := v) (by omega) (by rw [rq_o (by decide)]; exact hl) hv
  have e88' := fun P' n => (e88 P' n).trans (congrArg (fun B => P' none (mN B, RF, G, mSh)) (fnA_rd (A := A) (fk := fk') (fp := fp') (n := n) (p := v)))
  constructor
  · intro z
    simp only [if_pos z] at e85
    simp (disch := first | omega | assumption | exact mOk_int | exact mOk_null | exact mOk_ref | (simp (disch := omega) only [aF_ef, aF_nf, aU_ne, aU_eq, aU_ne2]; first | done | omega | assumption)) only [kc_78_36_67, il_1, r_push, ri_iclt, al_0, q_callV1, gq_0, gq_1, gq_2, gq_3, gq_4, q_callV0, ri_icne, ri_ifne, r_zret, is_2, il_2, ri_iceq, kd_0, kd_1, kd_2, kd_3, kd_4, kd_5, ln_0, ln_1, ln_2, ln_3, ln_4, ln_5, Option.some.injEq, Value.int.injEq, Value.ref.injEq, Value.long.injEq, Prod.mk.injEq, exists_eq_left', exists_eq_left, true_and, and_true, mLk, Option.any_some, mC1, Value.category, Option.toList_some, Option.toList_none, List.nil_append, List.cons_append, List.length_cons, List.length_nil, ne_eq, Nat.reduceEqDiff, not_false_eq_true, reduceCtorEq, exists_and_left, exists_and_right, Nat.reduceLeDiff, Nat.reduceAdd, and_self, exists_eq, exists_eq_right, exists_const, eq_self, exists_eq', not_true_eq_false, false_implies, true_implies, implies_true, forall_const, or_true, true_or, false_or, or_false, and_false, false_and, if_true, if_false, ite_true, ite_false, mB, mOk_int, mOk_ref, mOk_null, mOk_long, Nat.reduceLT, Nat.reduceSub, Nat.reduceMul, Nat.reduceDiv, Nat.reduceMod, Classical.not_not, ↓reduceIte, Nat.zero_add, Nat.add_zero, Nat.add_sub_cancel, Bool.false_eq_true, tN_l, tN_m1, tN_n1, tN_n8, tN_dec, tN_dec8, aF_ef, aF_nf, aF_U, tN_lt, tN_le, tN_inj, tN_add, tN_mul, tN_sub, tN_and, tN_or, tN_xor, tN_and31, tN_clamp, tN_in, tN_div, nm_rem, tN_shl, tN_shr, tN_b2, nd_lt, nd_nlt, nd_le, nd_nle, nd_eq, nd_ne, mN_at, mN_U, aU_ne, aU_eq, aU_ne2, e87, e85, e88']
  · intro z
    simp only [if_neg z] at e85
    simp (disch := first | omega | assumption | exact mOk_int | exact mOk_null | exact mOk_ref | (simp (disch := omega) only [aF_ef, aF_nf, aU_ne, aU_eq, aU_ne2]; first | done | omega | assumption)) only [kc_78_36_67, il_1, r_push, ri_iclt, al_0, q_callV1, gq_0, gq_1, gq_2, gq_3, gq_4, q_callV0, ri_icne, ri_ifne, r_zret, is_2, il_2, ri_iceq, kd_0, kd_1, kd_2, kd_3, kd_4, kd_5, ln_0, ln_1, ln_2, ln_3, ln_4, ln_5, Option.some.injEq, Value.int.injEq, Value.ref.injEq, Value.long.injEq, Prod.mk.injEq, exists_eq_left', exists_eq_left, true_and, and_true, mLk, Option.any_some, mC1, Value.category, Option.toList_some, Option.toList_none, List.nil_append, List.cons_append, List.length_cons, List.length_nil, ne_eq, Nat.reduceEqDiff, not_false_eq_true, reduceCtorEq, exists_and_left, exists_and_right, Nat.reduceLeDiff, Nat.reduceAdd, and_self, exists_eq, exists_eq_right, exists_const, eq_self, exists_eq', not_true_eq_false, false_implies, true_implies, implies_true, forall_const, or_true, true_or, false_or, or_false, and_false, false_and, if_true, if_false, ite_true, ite_false, mB, mOk_int, mOk_ref, mOk_null, mOk_long, Nat.reduceLT, Nat.reduceSub, Nat.reduceMul, Nat.reduceDiv, Nat.reduceMod, Classical.not_not, ↓reduceIte, Nat.zero_add, Nat.add_zero, Nat.add_sub_cancel, Bool.false_eq_true, tN_l, tN_m1, tN_n1, tN_n8, tN_dec, tN_dec8, aF_ef, aF_nf, aF_U, tN_lt, tN_le, tN_inj, tN_add, tN_mul, tN_sub, tN_and, tN_or, tN_xor, tN_and31, tN_clamp, tN_in, tN_div, nm_rem, tN_shl, tN_shr, tN_b2, nd_lt, nd_nlt, nd_le, nd_nle, nd_eq, nd_ne, mN_at, mN_U, aU_ne, aU_eq, aU_ne2, e87, e85]
theorem l_78v {σ : mS} (gu : mOk u = true) (e87 : ∀ P', mCall X D 87 [.ref 172] (mN (rdW A fk fp n), RF, G, mSh) P' = P' (some (.int (tN (4294967295)))) σ) : mW (mCall X D) X cap 78 P 36 [.ref 172, .int (tN nl), u] [] (mN (rdW A fk fp n), RF, G, mSh) = P (some (.int (tN (0)))) σ := by
  simp (disch := first | omega | assumption | exact mOk_int | exact mOk_null | exact mOk_ref | (simp (disch := omega) only [aF_ef, aF_nf, aU_ne, aU_eq, aU_ne2]; first | done | omega | assumption)) only [kc_78_36_67, il_1, r_push, ri_iclt, al_0, q_callV1, gq_0, gq_1, gq_2, gq_3, gq_4, q_callV0, ri_icne, ri_ifne, r_zret, is_2, il_2, ri_iceq, kd_0, kd_1, kd_2, kd_3, kd_4, kd_5, ln_0, ln_1, ln_2, ln_3, ln_4, ln_5, Option.some.injEq, Value.int.injEq, Value.ref.injEq, Value.long.injEq, Prod.mk.injEq, exists_eq_left', exists_eq_left, true_and, and_true, mLk, Option.any_some, mC1, Value.category, Option.toList_some, Option.toList_none, List.nil_append, List.cons_append, List.length_cons, List.length_nil, ne_eq, Nat.reduceEqDiff, not_false_eq_true, reduceCtorEq, exists_and_left, exists_and_right, Nat.reduceLeDiff, Nat.reduceAdd, and_self, exists_eq, exists_eq_right, exists_const, eq_self, exists_eq', not_true_eq_false, false_implies, true_implies, implies_true, forall_const, or_true, true_or, false_or, or_false, and_false, false_and, if_true, if_false, ite_true, ite_false, mB, mOk_int, mOk_ref, mOk_null, mOk_long, Nat.reduceLT, Nat.reduceSub, Nat.reduceMul, Nat.reduceDiv, Nat.reduceMod, Classical.not_not, ↓reduceIte, Nat.zero_add, Nat.add_zero, Nat.add_sub_cancel, Bool.false_eq_true, tN_l, tN_m1, tN_n1, tN_n8, tN_dec, tN_dec8, aF_ef, aF_nf, aF_U, tN_lt, tN_le, tN_inj, tN_add, tN_mul, tN_sub, tN_and, tN_or, tN_xor, tN_and31, tN_clamp, tN_in, tN_div, nm_rem, tN_shl, tN_shr, tN_b2, nd_lt, nd_nlt, nd_le, nd_nle, nd_eq, nd_ne, mN_at, mN_U, aU_ne, aU_eq, aU_ne2, e87]
theorem l_78t (gu : mOk u = true) (hD : 3 ≤ D) (hn : n ≤ N) (hN : N ≤ 300) (hm : A 181 0 = N + 1) (hk : ∀ n, n ≤ N → A 182 n < 256) (hv : ∀ n, n ≤ N → A 182 n = 2 → A 183 n < 65536) (hl : A 173 0 ≤ 12) (hf : fk ≤ 3) : (prOk (A 182) N n → mW (mCall X D) X cap 78 P 36 [.ref 172, .int (tN nl), u] [] (mN (rdW A fk fp n), RF, G, mSh) = P (some (.int (tN (1)))) (mN (rdW (fnA A (prV (A 182) (A 183) N n)) (prK (A 182) (A 183) N n fk) (prP (A 182) (A 183) (A 184) N n fk fp) (stI N (prE (A 182) N n))), RF, G, mSh)) ∧ (¬ prOk (A 182) N n → mW (mCall X D) X cap 78 P 36 [.ref 172, .int (tN nl), u] [] (mN (rdW A fk fp n), RF, G, mSh) = P (some (.int (tN (0)))) (mN (rdW A 1 (A 184 (prW (A 182) N n)) (prW (A 182) N n)), RF, G, mSh)) := by
  have e87 := fun P' => c_87 (X := X) (D := D) (P := P') (G := G) (A := A) (fk := fk) (fp := fp) (n := n) hD hn hN hm hk hv hf
  have hn1 := stI_le hn
  have hn2 := stI_le hn1
  unfold prOk prG prE prV prK prP prW
  by_cases c0 : A 182 n = 14
  · have d : ¬ A 182 n = 13 := by omega
    simp only [if_pos c0] at e87
    rw [if_neg d, if_pos c0, if_neg (fun q => d q.1), if_neg (fun q => d q.1), if_pos (Or.inl c0)]
    have l' := l_78u (X := X) (D := D) (cap := cap) (P := P) (G := G) (A := A) (nl := nl) (v := 100) gu hD hn1 hN hm hk hl (by omega) e87
    exact ⟨fun q => l'.1 q.2, fun q => l'.2 (fun y => q ⟨Or.inl c0, y⟩)⟩
  · simp only [if_neg c0] at e87
    by_cases c1 : A 182 n = 15
    · have d : ¬ A 182 n = 13 := by omega
      simp only [if_pos c1] at e87
      rw [if_neg d, if_neg c0, if_pos c1, if_neg (fun q => d q.1), if_neg (fun q => d q.1), if_pos (Or.inr c1)]
      have l' := l_78u (X := X) (D := D) (cap := cap) (P := P) (G := G) (A := A) (nl := nl) (v := 0) gu hD hn1 hN hm hk hl (by omega) e87
      exact ⟨fun q => l'.1 q.2, fun q => l'.2 (fun y => q ⟨Or.inr (Or.inl c1), y⟩)⟩
    · simp only [if_neg c1] at e87
      have c01 : ¬ (A 182 n = 14 ∨ A 182 n = 15) := fun q => q.elim c0 c1
      rw [if_neg c0, if_neg c1, if_neg c01]
      by_cases c2 : A 182 n = 13
      · simp only [if_pos c2] at e87
        rw [if_pos c2, if_pos c2]
        by_cases c3 : A 182 (stI N n) = 2
        · simp only [if_pos c3] at e87
          rw [if_pos c3]
          have v1 := hv _ hn1 c3
          by_cases c4 : A 183 (stI N n) ≤ 100
          · simp only [if_pos c4] at e87
            rw [if_neg (fun q => absurd q.2 (by omega)), if_neg (fun q => absurd q.2 (by omega))]
            have l' := l_78u (X := X) (D := D) (cap := cap) (P := P) (G := G) (A := A) (nl := nl) (v := A 183 (stI N n)) gu hD hn2 hN hm hk hl v1 e87
            exact ⟨fun q => l'.1 q.2, fun q => l'.2 (fun y => q ⟨Or.inr (Or.inr ⟨c2, c3⟩), y⟩)⟩
          · simp only [if_neg c4] at e87
            rw [if_pos ⟨c2, by omega⟩, if_pos ⟨c2, by omega⟩]
            have l' := l_78u (X := X) (D := D) (cap := cap) (P := P) (G := G) (A := A) (nl := nl) (v := A 183 (stI N n)) gu hD hn2 hN hm hk hl v1 e87
            exact ⟨fun q => l'.1 q.2, fun q => l'.2 (fun y => q ⟨Or.inr (Or.inr ⟨c2, c3⟩), y⟩)⟩
        · simp only [if_neg c3] at e87
          rw [if_neg c3]
          refine ⟨fun q => ?_, fun _ => l_78v gu e87⟩
          rcases q.1 with y | y | y
          · exact absurd y c0
          · exact absurd y c1
          · exact absurd y.2 c3
      · simp only [if_neg c2] at e87
        rw [if_neg c2, if_neg c2]
        refine ⟨fun q => ?_, fun _ => l_78v gu e87⟩
        rcases q.1 with y | y | y
        · exact absurd y c0
        · exact absurd y c1
        · exact absurd y.1 c2
end
def frB (B B' : Nat → Nat → Nat) : Prop := ∀ c, c ≠ 185 → c < 215 ∨ 219 < c → B' c = B c
def pmO (B B1 : Nat → Nat → Nat) (b : Nat → Nat) (L l k' p' : Nat) : Prop := moP B1 b L ∧ B1 185 37 = k' ∧ B1 185 38 = p' ∧ B1 185 39 = B 185 39 ∧ frB B B1 ∧ (∀ c, 215 ≤ c → c ≤ 218 → B1 c = B c) ∧ ∀ i, i ≠ l → B1 219 i = B 219 i
section
variable {B B1 : Nat → Nat → Nat} {b : Nat → Nat} {L l k' p' : Nat}
theorem pmO_0 (h : moP B b L) : pmO B B b L l (B 185 37) (B 185 38) := ⟨h, rfl, rfl, rfl, fun _ _ _ => rfl, fun _ _ _ => rfl, fun _ _ => rfl⟩
theorem pmO_1 {v : Nat} (h : pmO B B1 b L l k' p') : pmO B (aU B1 219 l v) b L l k' p' := by
  obtain ⟨h1, h2, h3, h4, h5, h6, h7⟩ := h
  refine ⟨moP_o h1 (by decide) (by decide), ?_, ?_, ?_, fun c c1 c2 => ?_, fun c c1 c2 => ?_, fun i hi => ?_⟩
  · rw [aU_ne (by decide)]; exact h2
  · rw [aU_ne (by decide)]; exact h3
  · rw [aU_ne (by decide)]; exact h4
  · rw [aU_nf (by omega)]; exact h5 c c1 c2
  · rw [aU_nf (by omega)]; exact h6 c c1 c2
  · rw [aU_ne2 hi]; exact h7 i hi
theorem lat_o {f p c : Nat} (h : c ≠ 185) : lat B f p c = B c := by
  unfold lat
  by_cases z : B 185 37 = 0
  · rw [if_pos z, aU_nf h, aU_nf h]
  · rw [if_neg z]
theorem lat_s {f p : Nat} : lat B f p 185 37 = rmK (B 185 37) f ∧ lat B f p 185 38 = rmP (B 185 37) p (B 185 38) ∧ lat B f p 185 39 = B 185 39 := by
  unfold lat rmK rmP
  by_cases z : B 185 37 = 0
  · rw [if_pos z, if_pos z, if_pos z]
    refine ⟨?_, ?_, ?_⟩
    · rw [aU_ne2 (by decide), aU_eq]
    · rw [aU_eq]
    · rw [aU_ne2 (by decide), aU_ne2 (by decide)]
  · rw [if_neg z, if_neg z, if_neg z]
    exact ⟨rfl, rfl, rfl⟩
theorem pmO_2 {f p : Nat} (h : pmO B B1 b L l k' p') : pmO B (lat B1 f p) b L l (rmK k' f) (rmP k' p p') := by
  obtain ⟨h1, h2, h3, h4, h5, h6, h7⟩ := h
  obtain ⟨s1, s2, s3⟩ := lat_s (B := B1) (f := f) (p := p)
  refine ⟨moP_lat h1, ?_, ?_, ?_, fun c c1 c2 => ?_, fun c c1 c2 => ?_, fun i hi => ?_⟩
  · rw [s1, h2]
  · rw [s2, h2, h3]
  · rw [s3, h4]
  · rw [lat_o c1]; exact h5 c c1 c2
  · rw [lat_o (by omega)]; exact h6 c c1 c2
  · rw [lat_o (by decide)]; exact h7 i hi
end
