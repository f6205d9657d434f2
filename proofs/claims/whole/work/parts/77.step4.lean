set_option maxRecDepth 20000
set_option maxHeartbeats 4000000
/-! STEPS: clear, door, turn, would -/
section
variable {X : mX} {D : Nat} {G : mG} {A : Nat → Nat → Nat}
theorem emA_o {c : Nat} (h1 : c ≠ 10) (h2 : c < 12 ∨ 16 < c) : emA A c = A c := by
  unfold emA
  rw [aF_nf (by omega), aF_nf (by omega), aF_nf (by omega), aF_nf (by omega), aF_nf (by omega), aU_aF, aU_aF, aU_aF, aF_nf h1, aF_nf h1, aF_nf h1]
theorem clM_o {c : Nat} (h1 : c ≠ 185) (h2 : c ≠ 211) (h3 : c ≠ 212) (h4 : c ≠ 198) (h5 : c ≠ 202) (h6 : c ≠ 199) (h7 : c ≠ 200) (h8 : c ≠ 201) (h9 : c ≠ 204) : clM A c = A c := by
  unfold clM
  rw [aF_nf h9, aF_nf h8, aF_nf h7, aU_aF, aU_aF, aU_aF, aF_nf h6, aF_nf h5, aF_nf h4, emM_o h2 h3, zA h1]
theorem st_3 (hD : 20 ≤ D) (h : Inv A) : tdStpV X D G A 34 [.ref 0] 141 [.ref 185] := by
  obtain ⟨r1, r2, r3⟩ := nR h
  obtain ⟨h1, -⟩ := nH h
  refine ⟨emA A, clM (emA A), G, fun P => c_34 (by omega) (by omega) (by rw [r1]; exact fun r hr => by rw [(r3 r hr).1]; exact (r3 r hr).2.2.2.1), fun P => m_141 (by omega), ?_⟩
  generalize hA2 : clM (emA A) = A2
  have q : ∀ c, c ≠ 10 → (c < 12 ∨ 16 < c) → c ≠ 185 → c ≠ 211 → c ≠ 212 → c ≠ 198 → c ≠ 202 → c ≠ 199 → c ≠ 200 → c ≠ 201 → c ≠ 204 → A2 c = A c := fun c h1 h2 h3 h4 h5 h6 h7 h8 h9 h10 h11 => by
    rw [← hA2, clM_o h3 h4 h5 h6 h7 h8 h9 h10 h11, emA_o h1 h2]
  have cl : ∀ c, c < 185 → A2 c = emA A c := fun c hc => by rw [← hA2, clM_o (by omega) (by omega) (by omega) (by omega) (by omega) (by omega) (by omega) (by omega) (by omega)]
  have e10 : ∀ i, A2 10 i = if i = 0 then 0 else if i = 1 then 30 else if i = 2 then 0 else A 10 i := fun i => by
    rw [cl 10 (by omega)]
    unfold emA
    rw [aF_nf (by decide), aF_nf (by decide), aF_nf (by decide), aF_nf (by decide), aF_nf (by decide)]
    by_cases z2 : i = 2
    · subst z2; rw [aU_eq]; rfl
    · rw [aU_ne2 z2]
      by_cases z1 : i = 1
      · subst z1; rw [aU_eq]; rfl
      · rw [aU_ne2 z1]
        by_cases z0 : i = 0
        · subst z0; rw [aU_eq]; rfl
        · rw [aU_ne2 z0, if_neg z0, if_neg z1, if_neg z2]
  have e12 : ∀ r, r < A 190 0 → A2 12 r = 1 <<< A 191 r - 1 := fun r hr => by
    rw [cl 12 (by omega)]
    unfold emA
    rw [aF_nf (by decide), aF_nf (by decide), aF_nf (by decide), aF_nf (by decide), aF_ef, if_pos (by omega), (r3 r hr).1]
  have e13 : ∀ r, r < 6 → A2 13 r = 0 := fun r hr => by
    rw [cl 13 (by omega)]
    unfold emA
    rw [aF_nf (by decide), aF_nf (by decide), aF_nf (by decide), aF_ef, if_pos hr]
  have e14 : ∀ a, a < 12 → A2 14 a = 0 := fun r hr => by
    rw [cl 14 (by omega)]
    unfold emA
    rw [aF_nf (by decide), aF_nf (by decide), aF_ef, if_pos hr]
  have e15 : ∀ a, a < 12 → A2 15 a = 0 := fun r hr => by
    rw [cl 15 (by omega)]
    unfold emA
    rw [aF_nf (by decide), aF_ef, if_pos hr]
  have e16 : ∀ a, a < 12 → A2 16 a = 0 := fun r hr => by
    rw [cl 16 (by omega)]
    unfold emA
    rw [aF_ef, if_pos hr]
  have m : ∀ c, 185 < c → emA A c = A c := fun c hc => emA_o (by omega) (by omega)
  have e198 : ∀ i, A2 198 i = if i = 0 then 0 else A 198 i := fun i => by
    rw [← hA2]
    unfold clM
    rw [aF_nf (by decide), aF_nf (by decide), aF_nf (by decide), aU_ne (by decide), aU_ne (by decide)]
    by_cases z : i = 0
    · rw [if_pos z, z, aU_eq]
    · rw [if_neg z, aU_ne2 z, emM_o (by decide) (by decide), zA (by decide), m 198 (by omega)]
  have e202 : ∀ i, A2 202 i = if i = 0 then 0 else A 202 i := fun i => by
    rw [← hA2]
    unfold clM
    rw [aF_nf (by decide), aF_nf (by decide), aF_nf (by decide), aU_ne (by decide)]
    by_cases z : i = 0
    · rw [if_pos z, z, aU_eq]
    · rw [if_neg z, aU_ne2 z, aU_ne (by decide), emM_o (by decide) (by decide), zA (by decide), m 202 (by omega)]
  have e199 : ∀ i, A2 199 i = if i = 0 then 30 else A 199 i := fun i => by
    rw [← hA2]
    unfold clM
    rw [aF_nf (by decide), aF_nf (by decide), aF_nf (by decide)]
    by_cases z : i = 0
    · rw [if_pos z, z, aU_eq]
    · rw [if_neg z, aU_ne2 z, aU_ne (by decide), aU_ne (by decide), emM_o (by decide) (by decide), zA (by decide), m 199 (by omega)]
  have e200 : ∀ i, A2 200 i = if i < 12 then 0 else A 200 i := fun i => by
    rw [← hA2]
    unfold clM
    rw [aF_nf (by decide), aF_nf (by decide), aF_ef, m 200 (by omega)]
  have e201 : ∀ i, A2 201 i = if i < 12 then 0 else A 201 i := fun i => by
    rw [← hA2]
    unfold clM
    rw [aF_nf (by decide), aF_ef, m 201 (by omega)]
  have e204 : ∀ i, A2 204 i = if i < 72 then 0 else A 204 i := fun i => by
    rw [← hA2]
    unfold clM
    rw [aF_ef, m 204 (by omega)]
  have e211 : ∀ i, A2 211 i = if i < 72 then 4294967295 else A 211 i := fun i => by
    rw [← hA2]
    unfold clM emM
    rw [aF_nf (by decide), aF_nf (by decide), aF_nf (by decide), aU_ne (by decide), aU_ne (by decide), aU_ne (by decide), aF_nf (by decide), aF_ef, zA (by decide), m 211 (by omega)]
    by_cases z : i < 72
    · rw [if_pos (by omega), if_pos z]
    · rw [if_neg (by omega), if_neg z]
  have e212 : ∀ i, A2 212 i = if i < 12 then 0 else A 212 i := fun i => by
    rw [← hA2]
    unfold clM emM
    rw [aF_nf (by decide), aF_nf (by decide), aF_nf (by decide), aU_ne (by decide), aU_ne (by decide), aU_ne (by decide), aF_ef, zA (by decide), m 212 (by omega)]
    by_cases z : i < 12
    · rw [if_pos (by omega), if_pos z]
    · rw [if_neg (by omega), if_neg z]
  clear hA2 cl m
  obtain ⟨p1, p2, p3, p4, p5, p6⟩ := h.1
  have w190 := q 190 (by omega) (by omega) (by omega) (by omega) (by omega) (by omega) (by omega) (by omega) (by omega) (by omega) (by omega)
  have w191 := q 191 (by omega) (by omega) (by omega) (by omega) (by omega) (by omega) (by omega) (by omega) (by omega) (by omega) (by omega)
  refine Inv_fr h (fun c h1 h2 => q c (by omega) (by omega) (by omega) (by omega) (by omega) (by omega) (by omega) (by omega) (by omega) (by omega) (by omega)) (q 220 (by omega) (by omega) (by omega) (by omega) (by omega) (by omega) (by omega) (by omega) (by omega) (by omega) (by omega)) (fun c h1 h2 i h3 h4 => ?_) (ShOK_cg (fun c h1 h2 => q c (by omega) (by omega) (by omega) (by omega) (by omega) (by omega) (by omega) (by omega) (by omega) (by omega) (by omega)) (q 161 (by omega) (by omega) (by omega) (by omega) (by omega) (by omega) (by omega) (by omega) (by omega) (by omega) (by omega)) (q 162 (by omega) (by omega) (by omega) (by omega) (by omega) (by omega) (by omega) (by omega) (by omega) (by omega) (by omega)) (Inv_sh h)) ⟨rlR_cg (fun j h1 h2 i hi => by rw [q (1 + j) (by omega) (by omega) (by omega) (by omega) (by omega) (by omega) (by omega) (by omega) (by omega) (by omega) (by omega)]) (fun c h1 h2 i hi => by rw [q c (by omega) (by omega) (by omega) (by omega) (by omega) (by omega) (by omega) (by omega) (by omega) (by omega) (by omega)]) p1, rlK_cg (fun j h1 h2 i hi => by rw [q (1 + j) (by omega) (by omega) (by omega) (by omega) (by omega) (by omega) (by omega) (by omega) (by omega) (by omega) (by omega)]) (fun c h1 h2 i hi => by rw [q c (by omega) (by omega) (by omega) (by omega) (by omega) (by omega) (by omega) (by omega) (by omega) (by omega) (by omega)]) p2, rlH_un ⟨by rw [w190]; exact r2, by rw [w190, w191]; exact fun r hr => (r3 r hr).2.2.2.1⟩ (e10 0) (e198 0) ((e10 1).trans (e199 0).symm) (by rw [e199, if_pos rfl]; exact Nat.le_refl _) (e10 2) (e202 0) (fun a ha => ⟨e14 a ha, e15 a ha, e16 a ha, by rw [e212, if_pos ha], by rw [e200, if_pos ha], by rw [e201, if_pos ha]⟩) (fun i hi => ⟨by rw [e211, if_pos hi], by rw [e204, if_pos hi]⟩) e13 (by rw [w190, w191]; exact e12), rlT_cg (fun j h1 h2 i hi => by rw [q (1 + j) (by omega) (by omega) (by omega) (by omega) (by omega) (by omega) (by omega) (by omega) (by omega) (by omega) (by omega)]) (fun c h1 h2 i hi => by rw [q c (by omega) (by omega) (by omega) (by omega) (by omega) (by omega) (by omega) (by omega) (by omega) (by omega) (by omega)]) p4, rlP_cg (fun j h1 h2 i hi => by rw [q (1 + j) (by omega) (by omega) (by omega) (by omega) (by omega) (by omega) (by omega) (by omega) (by omega) (by omega) (by omega)]) (fun c h1 h2 i hi => by rw [q c (by omega) (by omega) (by omega) (by omega) (by omega) (by omega) (by omega) (by omega) (by omega) (by omega) (by omega)]) p5, rlF_cg (fun i hi => by rw [q (1 + 0) (by omega) (by omega) (by omega) (by omega) (by omega) (by omega) (by omega) (by omega) (by omega) (by omega) (by omega)]) (fun c h1 h2 i hi => by rw [q c (by omega) (by omega) (by omega) (by omega) (by omega) (by omega) (by omega) (by omega) (by omega) (by omega) (by omega)]) p6⟩
  have n1 : nM 198 = 1 ∧ nM 199 = 1 ∧ nM 202 = 1 ∧ nM 200 = 12 ∧ nM 201 = 12 ∧ nM 204 = 72 ∧ nM 211 = 72 ∧ nM 212 = 12 := by decide
  by_cases z1 : c = 198
  · subst z1; rw [e198, if_neg (by omega)]
  by_cases z2 : c = 199
  · subst z2; rw [e199, if_neg (by omega)]
  by_cases z3 : c = 202
  · subst z3; rw [e202, if_neg (by omega)]
  by_cases z4 : c = 200
  · subst z4; rw [e200, if_neg (by omega)]
  by_cases z5 : c = 201
  · subst z5; rw [e201, if_neg (by omega)]
  by_cases z6 : c = 204
  · subst z6; rw [e204, if_neg (by omega)]
  by_cases z7 : c = 211
  · subst z7; rw [e211, if_neg (by omega)]
  by_cases z8 : c = 212
  · subst z8; rw [e212, if_neg (by omega)]
  rw [q c (by omega) (by omega) (by omega) (by omega) (by omega) (by omega) (by omega) (by omega) (by omega) (by omega) (by omega)]
theorem st_6 {t p : Nat} (hD : 20 ≤ D) (h : Inv A) (ht : t < 4294967296) (hp : p < 4294967296) : tdStp X D G A 43 [.ref 0, .int (tN t), .int (tN p)] 145 [.ref 185, .int (tN t), .int (tN p)] := by
  obtain ⟨k1, k2, k3⟩ := nK h
  by_cases c : p < A 193 0 ∧ t < fac (A 193 0)
  · have e193 : aF A 160 (ordA A 0 t) 193 = A 193 := aF_nf (by decide)
    have e214 : aF A 160 (ordA A 0 t) 214 = A 214 := aF_nf (by decide)
    refine ⟨_, aF A 160 (ordA A 0 t), aF (aU (aF A 160 (ordA A 0 t)) 185 0 0) 214 (fun i => if i < A 193 0 then (drS (idO (A 193 0) (A 160)) (A 193 0) t (A 193 0)).1 i else A 214 i), G, fun P => c_43 (by omega) (by omega) (by rw [k1]; exact fun i hi => by rw [(k3 i hi).2.1]; exact (k3 i hi).2.2.2.2.2.2.1) (by omega) (by rw [k1]; exact c.2), fun P => ?_, Inv_id h (fun c h1 h2 h3 h4 h5 => by rw [aF_nf h5, zA h1, aF_nf h2])⟩
    rw [m_145 (O := A 160) (by omega) (by rw [e193]; exact k2) (by rw [e193]; exact c.1) (by rw [e193]; exact c.2), e193, e214]
    unfold ordA ordW
    rw [if_pos rfl, k1]
  · refine ⟨_, A, aU A 185 0 0, G, fun P => c_43n (by omega) ht hp (by omega) (by rw [k1]; exact c), fun P => m_145n (by omega) ht hp k2 c, Inv_185 h⟩
/-- a trial touches the fifth hall alone -/
theorem fl4 {F0 ord : Nat → Nat} : ∀ k, (∀ i, i < 288 → flA A 4 F0 ord k 211 i = A 211 i) ∧ (∀ i, i < 48 → flA A 4 F0 ord k 212 i = A 212 i) ∧ (∀ i, i < 288 → flA A 4 F0 ord k 213 i = A 213 i)
  | 0 => by
    show (∀ i, i < 288 → emM A 4 211 i = A 211 i) ∧ (∀ i, i < 48 → emM A 4 212 i = A 212 i) ∧ (∀ i, i < 288 → emM A 4 213 i = A 213 i)
    refine ⟨fun i hi => ?_, fun i hi => ?_, fun i hi => ?_⟩
    · unfold emM
      rw [aF_nf (by decide), aF_ef, if_neg (by omega)]
    · unfold emM
      rw [aF_ef, if_neg (by omega)]
    · rw [emM_o (by decide) (by decide)]
  | k + 1 => by
    obtain ⟨i1, i2, i3⟩ := fl4 k
    show (∀ i, i < 288 → mtA (flA A 4 F0 ord k) 4 (ord k) _ 211 i = A 211 i) ∧ (∀ i, i < 48 → mtA (flA A 4 F0 ord k) 4 (ord k) _ 212 i = A 212 i) ∧ (∀ i, i < 288 → mtA (flA A 4 F0 ord k) 4 (ord k) _ 213 i = A 213 i)
    refine ⟨fun i hi => ?_, fun i hi => ?_, fun i hi => ?_⟩
    · rw [mtA_211, oSet_miss _ (fun j _ => by unfold posN; omega)]
      exact i1 i hi
    · rw [mtA_212, up_ne (by omega)]
      exact i2 i hi
    · rw [mtA_213]
      exact (if_neg (by omega)).trans (i3 i hi)
/-- the cells of a trial have changed alone -/
theorem Inv_tr {A2 : Nat → Nat → Nat} (h : Inv A) (q : ∀ c, c ≠ 185 → c ≠ 160 → c ≠ 163 → (c < 165 ∨ 171 < c) → c ≠ 214 → c ≠ 211 → c ≠ 212 → c ≠ 213 → A2 c = A c) (q1 : ∀ i, i < 288 → A2 211 i = A 211 i) (q2 : ∀ i, i < 48 → A2 212 i = A 212 i) (q3 : ∀ i, i < 288 → A2 213 i = A 213 i) : Inv A2 := by
  have n1 : nM 211 = 72 ∧ nM 212 = 12 ∧ nM 213 = 72 := by decide
  have m : ∀ c, 186 ≤ c → c ≤ 213 → ∀ i, i < 4 * nM c → A2 c i = A c i := fun c h1 h2 i hi => by
    by_cases z1 : c = 211
    · subst z1; exact q1 i (by omega)
    by_cases z2 : c = 212
    · subst z2; exact q2 i (by omega)
    by_cases z3 : c = 213
    · subst z3; exact q3 i (by omega)
    rw [q c (by omega) (by omega) (by omega) (by omega) (by omega) (by omega) (by omega) (by omega)]
  refine Inv_fr h (fun c h1 h2 => q c (by omega) (by omega) (by omega) (by omega) (by omega) (by omega) (by omega) (by omega)) (q 220 (by omega) (by omega) (by omega) (by omega) (by omega) (by omega) (by omega) (by omega)) (fun c h1 h2 i _ h4 => m c h1 h2 i h4) (ShOK_cg (fun c h1 h2 => q c (by omega) (by omega) (by omega) (by omega) (by omega) (by omega) (by omega) (by omega)) (q 161 (by omega) (by omega) (by omega) (by omega) (by omega) (by omega) (by omega) (by omega)) (q 162 (by omega) (by omega) (by omega) (by omega) (by omega) (by omega) (by omega) (by omega)) (Inv_sh h)) (Rel_cg (fun j hj i hi => by rw [q (1 + j) (by omega) (by omega) (by omega) (by omega) (by omega) (by omega) (by omega) (by omega)]) (fun c h1 h2 i hi => m c h1 h2 _ (by omega)) h.1)
theorem rl_cgp (h : Inv A) {F0 ord : Nat → Nat} (ho : ∀ k, k < A 193 0 → ord k < A 193 0) {k : Nat} (hk : k ≤ A 193 0) : rnS (A 4) (A 190 0) (A 6) (A 7) (A 9) F0 ord k = rnS (A 192) (A 190 0) (A 194) (A 195) (A 197) F0 ord k := by
  obtain ⟨r1, r2, r3⟩ := nR h
  obtain ⟨k1, k2, k3⟩ := nK h
  exact rnS_cgp (n := A 193 0) (fun r hr => (r3 r hr).2.1) (fun a ha => ⟨(k3 a ha).1, (k3 a ha).2.1, (k3 a ha).2.2.2.1⟩) ho k hk
theorem st_4 {way t : Nat} (hD : 20 ≤ D) (h : Inv A) (hw : way < 4294967296) (ht : t < 4294967296) : tdStp X D G A 37 [.ref 0, .int (tN way), .int (tN t)] 142 [.ref 185, .int (tN way), .int (tN t)] := by
  obtain ⟨r1, r2, r3⟩ := nR h
  obtain ⟨k1, k2, k3⟩ := nK h
  by_cases ok : okW (A 193 0) way t
  · obtain ⟨o1, o2⟩ := ordW_ok (mo := A 7) (O := A 160) ok
    have eo : ordA A way t = ordW (A 7) (A 193 0) way t (A 160) := by unfold ordA; rw [k1]
    have eo2 : ordW (A 195) (A 193 0) way t (A 160) = ordA A way t := by rw [eo]; exact (ordW_cgp (fun i hi => (k3 i hi).2.1)).symm
    rw [← eo] at o1 o2
    have q : ∀ c, c ≠ 160 → c ≠ 163 → c ≠ 165 → wdC A (ordA A way t) c = A c := fun c h1 h2 h3 => by unfold wdC; rw [aF_nf h2, aF_nf h3, aF_nf h1]
    refine ⟨_, wdC A (ordA A way t), flA (tuM (wdC A (ordA A way t)) (ordA A way t)) 4 (fun i => if i < A 190 0 then 1 <<< A 191 i - 1 else 0) (ordA A way t) (A 193 0), G, fun P => c_37 (by omega) (nA h) (by rw [k1]; exact ok) (by rw [k1]; exact o1), fun P => ?_, ?_⟩
    · rw [m_142 (O := A 160) (F0 := fun i => if i < A 190 0 then 1 <<< A 191 i - 1 else 0) (by omega) (okM_cg (fun c h1 h2 => q c (by omega) (by omega) (by omega)) (nM' h)) (by rw [q 193 (by decide) (by decide) (by decide)]; exact ok) (by rw [q 190 (by decide) (by decide) (by decide), q 191 (by decide) (by decide) (by decide)]; exact fun r hr => if_pos hr) (by rw [q 195 (by decide) (by decide) (by decide), q 193 (by decide) (by decide) (by decide), eo2]; exact o1) (by rw [q 195 (by decide) (by decide) (by decide), q 193 (by decide) (by decide) (by decide), eo2]; exact o2)]
      rw [q 190 (by decide) (by decide) (by decide), q 192 (by decide) (by decide) (by decide), q 193 (by decide) (by decide) (by decide), q 194 (by decide) (by decide) (by decide), q 195 (by decide) (by decide) (by decide), q 197 (by decide) (by decide) (by decide), eo2, k1, r1, ← rl_cgp h o1 (Nat.le_refl _)]
      rw [rnS_cg (F := fun i => if i < A 190 0 then 1 <<< A 3 i - 1 else A 165 i) (F2 := fun i => if i < A 190 0 then 1 <<< A 191 i - 1 else 0) (fun r hr => by
        show (if r < A 190 0 then 1 <<< A 3 r - 1 else A 165 r) = (if r < A 190 0 then 1 <<< A 191 r - 1 else 0)
        rw [if_pos hr, if_pos hr, (r3 r hr).1]) (A 193 0)]
    · obtain ⟨f1, f2, f3⟩ := fl4 (A := tuM (wdC A (ordA A way t)) (ordA A way t)) (F0 := fun i => if i < A 190 0 then 1 <<< A 191 i - 1 else 0) (ord := ordA A way t) (A 193 0)
      refine Inv_tr h (fun c h1 h2 h3 h4 h5 h6 h7 h8 => by rw [flA_o h6 h7 h8, tuM_o h1 h5, q c h2 h3 (by omega)]) (fun i hi => ?_) (fun i hi => ?_) (fun i hi => ?_)
      · rw [f1 i hi, tuM_o (by decide) (by decide), q 211 (by decide) (by decide) (by decide)]
      · rw [f2 i hi, tuM_o (by decide) (by decide), q 212 (by decide) (by decide) (by decide)]
      · rw [f3 i hi, tuM_o (by decide) (by decide), q 213 (by decide) (by decide) (by decide)]
  · refine ⟨_, A, aU A 185 0 0, G, fun P => c_37n (by omega) hw ht (by omega) (by rw [k1]; exact ok), fun P => m_142n (by omega) hw ht k2 ok, Inv_185 h⟩
theorem st_20 {x : Nat} (hD : 20 ≤ D) (h : Inv A) (hx : x < 4294967296) : tdStp X D G A 109 [.ref 0, .int (tN x)] 176 [.ref 185, .int (tN x)] := by
  obtain ⟨r1, r2, r3⟩ := nR h
  obtain ⟨k1, k2, k3⟩ := nK h
  obtain ⟨h1, h2, h3, h4, h5, h6, h7, h8, h9⟩ := nH h
  obtain ⟨q1, q2⟩ := hd_6 h
  refine ⟨_, A, aU A 185 0 0, G, fun P => c_109 (by omega) hx (by omega) (by omega) q1 (by rw [r1]; exact nW h) (by rw [r1]; exact fun r hr => (h8 r (by omega)).1) (by omega), fun P => ?_, Inv_185 h⟩
  have e2 : smN (fun a => if 0 < A 14 a then 1 else 0) (A 193 0) = smN (fun a => if 0 < A 212 a then 1 else 0) (A 193 0) := smN_cg _ (fun a ha => by rw [(h4 a (by omega)).1])
  have e6 : msm (A 15) (A 16) (A 193 0) = msm (A 200) (A 201) (A 193 0) := msm_cg _ (fun a ha => ⟨(h4 a (by omega)).2.1, (h4 a (by omega)).2.2.1⟩)
  have e9 : smN (fun r => pcn (A 13 r)) (A 190 0) = smN (A 204) 72 := by
    have row : ∀ r, r < 6 → smN (A 204) (12 * r + 12) = smN (A 204) (12 * r) + pcn (A 13 r) := by
      intro r hr
      obtain ⟨g1, g2, g3⟩ := h8 r hr
      have go : ∀ j, j ≤ 12 → smN (A 204) (12 * r + j) = smN (A 204) (12 * r) + fsn (A 13 r) j := by
        intro j
        induction j with
        | zero => intro _; rfl
        | succ j ih =>
          intro hj
          show smN (A 204) (12 * r + j) + A 204 (12 * r + j) = smN (A 204) (12 * r) + (fsn (A 13 r) j + (if (A 13 r).testBit j = true then 1 else 0))
          rw [ih (by omega)]
          have b := (h7 (12 * r + j) (by omega)).2
          by_cases z : (A 13 r).testBit j = true
          · rw [if_pos z, (g3 j (by omega)).mp z]; omega
          · rw [if_neg z]
            have : ¬ A 204 (12 * r + j) = 1 := fun y => z ((g3 j (by omega)).mpr y)
            omega
      rw [go 12 (by omega), (cnC_at (w := 12) (by decide) g1).2]
    have all : ∀ k, k ≤ 6 → smN (fun r => pcn (A 13 r)) k = smN (A 204) (12 * k) := by
      intro k
      induction k with
      | zero => intro _; rfl
      | succ k ih =>
        intro hk
        show smN (fun r => pcn (A 13 r)) k + pcn (A 13 k) = smN (A 204) (12 * k + 12)
        rw [row k (by omega), ih (by omega)]
    have rest : ∀ k, A 190 0 ≤ k → k ≤ 6 → smN (fun r => pcn (A 13 r)) k = smN (fun r => pcn (A 13 r)) (A 190 0) := by
      intro k
      induction k with
      | zero => intro z _; rw [show A 190 0 = 0 by omega]
      | succ k ih =>
        intro z hk
        by_cases y : A 190 0 = k + 1
        · rw [y]
        · show smN (fun r => pcn (A 13 r)) k + pcn (A 13 k) = _
          rw [ih (by omega) (by omega), (h8 k (by omega)).2.1 (by omega), pcn_0, Nat.add_zero]
    rw [← rest 6 r2 (Nat.le_refl 6), all 6 (Nat.le_refl 6)]
  rw [m_176 (F := A 12) (by omega) hx r2 (fun r hr => ⟨(r3 r hr).2.2.1, (r3 r hr).2.2.2.1⟩) (nO h) k2 (fun a ha => h6.2.2.2.2.2 a (by omega)) (fun i hi => (h7 i hi).2) h1.2.1]
  rw [r1, k1, e2, e6, e9, h1.1, h1.2.2.1, h1.2.2.2.2.1, (nT h).1]
end
