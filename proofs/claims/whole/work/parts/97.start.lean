set_option maxRecDepth 20000
set_option maxHeartbeats 4000000
/-! THE START: both objects are made, and the loop begins -/
theorem mSum_Sh : mSum mSh = 7862 := by decide +kernel
theorem mShr_rev : mShr.reverse = mSh := by decide +kernel
theorem ml_122 {X : mX} {D : Nat} {P : mPost} {G : mG} {A : Nat → Nat → Nat} : ∀ m k, k + m = 72 → mW (mCall X D) X (221, 7862) 122 P 298 [.ref 185, .int (tN k)] [] (mN (aF A 211 (fun i => if i < k then 4294967295 else A 211 i)), RF, G, mSh) = P none (mN (aF A 211 (fun i => if i < 72 then 4294967295 else A 211 i)), RF, G, mSh) := by
  intro m
  induction m with
  | zero =>
    intro k e
    obtain rfl : k = 72 := by omega
    rw [kh_122_298]
    simp (disch := first | omega | assumption | exact mOk_int | exact mOk_null | exact mOk_ref | (simp (disch := omega) only [aF_ef, aF_nf, aU_ne, aU_eq, aU_ne2]; first | done | omega | assumption)) only [k_122_0, k_122_1, k_122_2, k_122_3, k_122_4, al_0, r_objI, r_push, r_newa, r_putR, gq_0, gq_1, gq_2, gq_3, gq_4, q_iast, is_1, il_1, ri_icge, ii_1, r_goto, r_vretC, kd_0, kd_1, kd_2, kd_3, kd_4, kd_5, ln_0, ln_1, ln_2, ln_3, ln_4, ln_5, Option.some.injEq, Value.int.injEq, Value.ref.injEq, Value.long.injEq, Prod.mk.injEq, exists_eq_left', exists_eq_left, true_and, and_true, mLk, Option.any_some, mC1, Value.category, Option.toList_some, Option.toList_none, List.nil_append, List.cons_append, List.length_cons, List.length_nil, ne_eq, Nat.reduceEqDiff, not_false_eq_true, reduceCtorEq, exists_and_left, exists_and_right, Nat.reduceLeDiff, Nat.reduceAdd, and_self, exists_eq, exists_eq_right, exists_const, eq_self, exists_eq', not_true_eq_false, false_implies, true_implies, implies_true, forall_const, or_true, true_or, false_or, or_false, and_false, false_and, if_true, if_false, ite_true, ite_false, mB, mOk_int, mOk_ref, mOk_null, mOk_long, Nat.reduceLT, Nat.reduceSub, Nat.reduceMul, Nat.reduceDiv, Nat.reduceMod, Classical.not_not, ↓reduceIte, Nat.zero_add, Nat.add_zero, Nat.add_sub_cancel, Bool.false_eq_true, tN_l, tN_m1, tN_n1, tN_n8, tN_dec, tN_dec8, aF_ef, aF_nf, aF_U, tN_lt, tN_le, tN_inj, tN_add, tN_mul, tN_sub, tN_and, tN_or, tN_xor, tN_and31, tN_clamp, tN_in, tN_div, nm_rem, tN_shl, tN_shr, tN_b2, nd_lt, nd_nlt, nd_le, nd_nle, nd_eq, nd_ne, mN_at, mN_U, aU_ne, aU_eq, aU_ne2, mSh_len, mSum_Sh]
  | succ m ih =>
    intro k e
    rw [← ih (k + 1) (by omega), kh_122_298]
    simp (disch := first | omega | assumption | exact mOk_int | exact mOk_null | exact mOk_ref | (simp (disch := omega) only [aF_ef, aF_nf, aU_ne, aU_eq, aU_ne2]; first | done | omega | assumption)) only [k_122_0, k_122_1, k_122_2, k_122_3, k_122_4, al_0, r_objI, r_push, r_newa, r_putR, gq_0, gq_1, gq_2, gq_3, gq_4, q_iast, is_1, il_1, ri_icge, ii_1, r_goto, r_vretC, kd_0, kd_1, kd_2, kd_3, kd_4, kd_5, ln_0, ln_1, ln_2, ln_3, ln_4, ln_5, Option.some.injEq, Value.int.injEq, Value.ref.injEq, Value.long.injEq, Prod.mk.injEq, exists_eq_left', exists_eq_left, true_and, and_true, mLk, Option.any_some, mC1, Value.category, Option.toList_some, Option.toList_none, List.nil_append, List.cons_append, List.length_cons, List.length_nil, ne_eq, Nat.reduceEqDiff, not_false_eq_true, reduceCtorEq, exists_and_left, exists_and_right, Nat.reduceLeDiff, Nat.reduceAdd, and_self, exists_eq, exists_eq_right, exists_const, eq_self, exists_eq', not_true_eq_false, false_implies, true_implies, implies_true, forall_const, or_true, true_or, false_or, or_false, and_false, false_and, if_true, if_false, ite_true, ite_false, mB, mOk_int, mOk_ref, mOk_null, mOk_long, Nat.reduceLT, Nat.reduceSub, Nat.reduceMul, Nat.reduceDiv, Nat.reduceMod, Classical.not_not, ↓reduceIte, Nat.zero_add, Nat.add_zero, Nat.add_sub_cancel, Bool.false_eq_true, tN_l, tN_m1, tN_n1, tN_n8, tN_dec, tN_dec8, aF_ef, aF_nf, aF_U, tN_lt, tN_le, tN_inj, tN_add, tN_mul, tN_sub, tN_and, tN_or, tN_xor, tN_and31, tN_clamp, tN_in, tN_div, nm_rem, tN_shl, tN_shr, tN_b2, nd_lt, nd_nlt, nd_le, nd_nle, nd_eq, nd_ne, mN_at, mN_U, aU_ne, aU_eq, aU_ne2, mSh_len, mSum_Sh]
    rw [lp_up (g := fun _ => 4294967295) (h := A 211) rfl]
noncomputable def bgA0 : Nat → Nat → Nat := fun c i => (rD.1 c i).toUInt32.toNat
theorem bgA0_N : mN bgA0 = rD.1 := by
  funext c i
  exact (tN_to _).symm
theorem bg_in {c i : Nat} {v : Int32} (h : (c, i, v) ∈ mInx ++ mInm) : bgA0 c i = v.toUInt32.toNat := by
  have key := rD_all.2.2.2
  unfold bgA0
  generalize rD.1 = M at key ⊢
  rw [show M c i = v from key (c, i, v) h]
noncomputable def bgS : Nat → Nat → Nat := aF bgA0 211 (fun i => if i < 72 then 4294967295 else bgA0 211 i)
theorem bgS_o {c : Nat} (h : c ≠ 211) : bgS c = bgA0 c := aF_nf h
theorem bg_inv : Inv bgS := by
  have z : ∀ c i, c ≠ 211 → (c, i, (0 : Int32)) ∈ mInx ++ mInm → bgS c i = 0 := fun c i h1 h2 => by rw [bgS_o h1, bg_in h2]; rfl
  have a2 := z 2 0 (by decide) (by decide +kernel)
  have a5 := z 5 0 (by decide) (by decide +kernel)
  have a100 := z 10 0 (by decide) (by decide +kernel)
  have a102 := z 10 2 (by decide) (by decide +kernel)
  have a101 : bgS 10 1 = 30 := by rw [bgS_o (by decide), bg_in (v := 30) (by decide +kernel)]; rfl
  have a13 : ∀ r, r < 6 → bgS 13 r = 0 := fun r hr => z 13 r (by decide) ((by decide +kernel : ∀ r, r < 6 → (13, r, (0 : Int32)) ∈ mInx ++ mInm) r hr)
  have a14 : ∀ r, r < 12 → bgS 14 r = 0 := fun r hr => z 14 r (by decide) ((by decide +kernel : ∀ r, r < 12 → (14, r, (0 : Int32)) ∈ mInx ++ mInm) r hr)
  have a15 : ∀ r, r < 12 → bgS 15 r = 0 := fun r hr => z 15 r (by decide) ((by decide +kernel : ∀ r, r < 12 → (15, r, (0 : Int32)) ∈ mInx ++ mInm) r hr)
  have a16 : ∀ r, r < 12 → bgS 16 r = 0 := fun r hr => z 16 r (by decide) ((by decide +kernel : ∀ r, r < 12 → (16, r, (0 : Int32)) ∈ mInx ++ mInm) r hr)
  have a30 := z 30 0 (by decide) (by decide +kernel)
  have a38 := z 38 0 (by decide) (by decide +kernel)
  have a15' := z 1 5 (by decide) (by decide +kernel)
  have a16' : bgS 1 6 = 4294967295 := by rw [bgS_o (by decide), bg_in (v := -1) (by decide +kernel)]; rfl
  have a158 : ∀ k, k < 3 → bgS 158 k = 0 := fun r hr => z 158 r (by decide) ((by decide +kernel : ∀ r, r < 3 → (158, r, (0 : Int32)) ∈ mInx ++ mInm) r hr)
  have a161 := z 161 0 (by decide) (by decide +kernel)
  have m187 := z 187 0 (by decide) (by decide +kernel)
  have m188 := z 188 0 (by decide) (by decide +kernel)
  have m189 : bgS 189 0 = 4294967295 := by rw [bgS_o (by decide), bg_in (v := -1) (by decide +kernel)]; rfl
  have m190 := z 190 0 (by decide) (by decide +kernel)
  have m193 := z 193 0 (by decide) (by decide +kernel)
  have m198 := z 198 0 (by decide) (by decide +kernel)
  have m199 : bgS 199 0 = 30 := by rw [bgS_o (by decide), bg_in (v := 30) (by decide +kernel)]; rfl
  have m202 := z 202 0 (by decide) (by decide +kernel)
  have m205 := z 205 0 (by decide) (by decide +kernel)
  have m200 : ∀ r, r < 12 → bgS 200 r = 0 := fun r hr => z 200 r (by decide) ((by decide +kernel : ∀ r, r < 12 → (200, r, (0 : Int32)) ∈ mInx ++ mInm) r hr)
  have m201 : ∀ r, r < 12 → bgS 201 r = 0 := fun r hr => z 201 r (by decide) ((by decide +kernel : ∀ r, r < 12 → (201, r, (0 : Int32)) ∈ mInx ++ mInm) r hr)
  have m212 : ∀ r, r < 12 → bgS 212 r = 0 := fun r hr => z 212 r (by decide) ((by decide +kernel : ∀ r, r < 12 → (212, r, (0 : Int32)) ∈ mInx ++ mInm) r hr)
  have m204 : ∀ r, r < 72 → bgS 204 r = 0 := fun r hr => z 204 r (by decide) ((by decide +kernel : ∀ r, r < 72 → (204, r, (0 : Int32)) ∈ mInx ++ mInm) r hr)
  have m211 : ∀ i, i < 72 → bgS 211 i = 4294967295 := fun i hi => by
    unfold bgS
    rw [aF_ef, if_pos hi]
  have m220 : ∀ k, k < 3 → bgS 220 k = 0 := fun r hr => z 220 r (by decide) ((by decide +kernel : ∀ r, r < 3 → (220, r, (0 : Int32)) ∈ mInx ++ mInm) r hr)
  refine ⟨⟨⟨show bgS 2 0 = bgS 190 0 by omega, by omega, fun r hr => absurd hr (by omega)⟩, ⟨show bgS 5 0 = bgS 193 0 by omega, by omega, fun r hr => absurd hr (by omega)⟩, rlH_un ⟨by omega, fun r hr => absurd hr (by omega)⟩ a100 m198 (by omega) (by omega) a102 m202 (fun a ha => ⟨a14 a ha, a15 a ha, a16 a ha, m212 a ha, m200 a ha, m201 a ha⟩) (fun i hi => ⟨m211 i hi, m204 i hi⟩) a13 (fun r hr => absurd hr (by omega)), ⟨show bgS 30 0 = bgS 205 0 by omega, by omega, fun r hr => absurd hr (by omega)⟩, ⟨show bgS 38 0 = bgS 187 0 by omega, by omega, fun r hr => absurd hr (by omega)⟩, ⟨show bgS 1 5 = bgS 188 0 by omega, show bgS 1 6 = bgS 189 0 by omega⟩⟩, fun k hk => ?_, by omega, fun y => absurd y (by omega)⟩
  rw [a158 k hk, m220 k hk]
  exact ⟨rfl, by omega, fun y => absurd y (by omega)⟩
theorem rZ_I : rI rZ := ⟨rfl, rfl⟩
theorem rB_all : rEx = some rB ∧ rB.2.2.2 = (mShx, 185, 4271) := by
  have h := rChk_ok rB_chk
  unfold rB
  generalize rEx = o at h ⊢
  exact ⟨h.1, h.2.1⟩
theorem rA_S : rS rA = mNew mS0 10 6 ∧ rI rA := by
  have h := rNew_ok rZ_I 10 6
  exact ⟨h.1, h.2⟩
theorem cls_made {X : mX} {Q : mPost} (hQ : Q none (rS rB)) : mCall X 2000 1 [.ref 0] (mNew mS0 10 6) Q ∧ rI rB := by
  have h := ev_ok X 3000 8 1 (185, 4271) 0 (mLoc 1 [.ref 0]) [] rA rB rA_S.2 rB_all.1
  refine ⟨mCall_le X (show 9 ≤ 2000 by omega) ?_, h.1⟩
  rw [e_1 (by omega)]
  have := h.2 Q hQ
  rw [rA_S.1] at this
  exact this
theorem rC_S (h : rI rB) : rS rC = mNew (rS rB) 11 46 ∧ rI rC := by
  have e : (rB.1, rB.2.1, rB.2.2.1, mShx, 185, 4271) = rB := by
    have := rB_all.2
    rw [← this]
  unfold rC
  rw [e]
  exact rNew_ok h 11 46
theorem rD_S : rS rD = (mN bgA0, RF, rD.2.2.1, mSh) := by
  have h := rD_all.2.1
  unfold rS
  rw [bgA0_N, RF_eq, ← mShr_rev, show rD.2.2.2.1 = mShr by rw [h]]
theorem mod_made {X : mX} {Q : mPost} (h : rI rB) (hQ : ∀ G, Q none (mN bgS, RF, G, mSh)) : mCall X 2000 122 [.ref 185] (mNew (rS rB) 11 46) Q := by
  obtain ⟨c1, c2⟩ := rC_S h
  have hb := rB_all.2
  have l1 : (mNew (rS rB) 11 46).2.2.2.length = 186 := by
    rw [← c1, rLen c2]
    unfold rC
    rfl
  have l2 : mSum (mNew (rS rB) 11 46).2.2.2 = 4317 := by
    rw [← c1, rSum c2]
    unfold rC
    rfl
  have ha : mAl 122 = (35, 3545) := by decide +kernel
  rw [e_122 (by omega), l1, l2, ha]
  have j := evJ_ok X 300 1999 122 298 (221, 7862) 0 (mLoc 122 [.ref 185]) [] rC (298, [.ref 185, .int 0], [], rD) c2 rD_all.1
  have j2 := j.2 Q
  rw [c1] at j2
  refine j2 ?_
  show mW (mCall X 1999) X (221, 7862) 122 Q 298 [.ref 185, .int 0] [] (rS rD)
  rw [rD_S]
  have l := ml_122 (X := X) (D := 1999) (P := Q) (G := rD.2.2.1) (A := bgA0) 72 0 (by omega)
  rw [aF_id (c := 211) (g := fun i => if i < 0 then 4294967295 else bgA0 211 i) (fun j => if_neg (by omega))] at l
  rw [show ([.ref 185, .int 0] : List Value) = [.ref 185, .int (tN 0)] from rfl, l]
  exact hQ _
theorem mLaw_go (X : mX) (hL : X.1 ≤ 3072) (st12 : ∀ (A : Nat → Nat → Nat) (G : mG), Inv A → tdStp X 2000 G A 54 [.ref 0] 153 [.ref 185]) : mW (mCall X 2000) X (600000, 7302250) 0 (fun u _ => u = some (.int 1)) 0 (mLoc 0 [.ref 1000]) [] mS0 := by
  show mW (mCall X 2000) X (600000, 7302250) 0 lwQ 0 [.ref 1000, .null, .null, .null] [] mS0
  rw [(k_0_0).1]
  refine ⟨⟨by decide, by decide, by decide⟩, ?_⟩
  show mW (mCall X 2000) X (600000, 7302250) 0 lwQ 3 [.ref 1000, .null, .null, .null] [.ref 0] (mNew mS0 10 6)
  rw [(k_0_0).2.1]
  refine ⟨_, _, rfl, rfl, ?_⟩
  rw [(k_0_0).2.2.1]
  have hI : rI rB := (cls_made (X := X) (Q := fun _ _ => True) trivial).2
  refine ⟨0, [], [.ref 0], rfl, rfl, by decide, by decide, ⟨?_, ?_⟩, ?_⟩
  · rw [show mAl 1 = (184, 4265) by decide +kernel]
    decide
  · rw [show mAl 1 = (184, 4265) by decide +kernel]
    decide
  · refine (cls_made ?_).1
    show mW (mCall X 2000) X (600000, 7302250) 0 lwQ 7 [.ref 1000, .null, .null, .null] [.ref 0] (rS rB)
    rw [(k_0_0).2.2.2.1]
    refine ⟨0, [], rfl, by decide, rfl, ?_⟩
    show mW (mCall X 2000) X (600000, 7302250) 0 lwQ 8 [.ref 1000, .ref 0, .null, .null] [] (rS rB)
    have hb := rB_all.2
    have l1 : (rS rB).2.2.2.length = 185 := by rw [rLen hI, hb]
    have l2 : mSum (rS rB).2.2.2 = 4271 := by rw [rSum hI, hb]
    rw [(k_0_0).2.2.2.2.1]
    refine ⟨⟨by rw [l1]; decide, by rw [l2]; decide, by rw [l1]; decide⟩, ?_⟩
    rw [l1]
    obtain ⟨c1, c2⟩ := rC_S hI
    rw [(k_0_0).2.2.2.2.2.1]
    refine ⟨_, _, rfl, rfl, ?_⟩
    rw [(k_0_0).2.2.2.2.2.2.1]
    have l3 : (mNew (rS rB) 11 46).2.2.2.length = 186 := by
      rw [← c1, rLen c2]
      unfold rC
      rfl
    have l4 : mSum (mNew (rS rB) 11 46).2.2.2 = 4317 := by
      rw [← c1, rSum c2]
      unfold rC
      rfl
    refine ⟨185, [], [.ref 185], rfl, rfl, by decide, by decide, ⟨?_, ?_⟩, ?_⟩
    · rw [l3, show mAl 122 = (35, 3545) by decide +kernel]
      decide
    · rw [l4, show mAl 122 = (35, 3545) by decide +kernel]
      decide
    · refine mod_made hI (fun G => ?_)
      show mW (mCall X 2000) X (600000, 7302250) 0 lwQ 15 [.ref 1000, .ref 0, .null, .null] [.ref 185] (mN bgS, RF, G, mSh)
      rw [(k_0_0).2.2.2.2.2.2.2.1]
      refine ⟨185, [], rfl, by decide, rfl, ?_⟩
      show mW (mCall X 2000) X (600000, 7302250) 0 lwQ 16 [.ref 1000, .ref 0, .ref 185, .null] [] (mN bgS, RF, G, mSh)
      rw [(k_0_0).2.2.2.2.2.2.2.2.1]
      show mW (mCall X 2000) X (600000, 7302250) 0 lwQ 17 [.ref 1000, .ref 0, .ref 185, .null] [.int 0] (mN bgS, RF, G, mSh)
      rw [(k_0_0).2.2.2.2.2.2.2.2.2.1]
      refine ⟨0, [], rfl, rfl, ?_⟩
      show mW (mCall X 2000) X (600000, 7302250) 0 lwQ 18 [.ref 1000, .ref 0, .ref 185, .int (tN 0)] [] (mN bgS, RF, G, mSh)
      exact lw_all (by omega) hL st12 X.1 0 bgS G (by omega) (by omega) bg_inv
