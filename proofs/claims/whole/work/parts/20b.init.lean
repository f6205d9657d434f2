/-! both objects, as the law's loop finds them: the second is made over the first's cells, whatever these hold -/
def evJ : Nat → Nat → Nat → Nat × Nat → Nat → List Value → List Value → mR → Option mT4
  | 0, _, _, _, _, _, _, _ => none
  | n + 1, md, stop, cap, pc, lv, st, ρ => if pc = stop then some (pc, lv, st, ρ) else match mAt md pc with
    | none => none
    | some e => (evS e cap lv st ρ).bind fun t => evJ n md stop cap t.1 t.2.1 t.2.2.1 t.2.2.2
theorem evJ_ok (X : mX) : ∀ (n d md stop : Nat) (cap : Nat × Nat) (pc : Nat) (lv st : List Value) (ρ : mR) (t : mT4), rI ρ → evJ n md stop cap pc lv st ρ = some t → rI t.2.2.2 ∧ ∀ Q : mPost, mW (mCall X d) X cap md Q t.1 t.2.1 t.2.2.1 (rS t.2.2.2) → mW (mCall X d) X cap md Q pc lv st (rS ρ) := by
  intro n
  induction n with
  | zero => intro d md stop cap pc lv st ρ t _ h; cases h
  | succ n ih =>
    intro d md stop cap pc lv st ρ t hI h
    unfold evJ at h
    split at h
    · cases h
      exact ⟨hI, fun Q hQ => hQ⟩
    · split at h
      · cases h
      · next e he =>
        obtain ⟨t1, h1, h2⟩ := Option.bind_eq_some_iff.mp h
        obtain ⟨i1, -⟩ := evS_ok (cal := mCall X d) (X := X) (Q := fun _ _ => True) (W := fun _ _ _ _ => True) hI h1
        obtain ⟨i2, g2⟩ := ih d md stop _ _ _ _ _ _ i1 h2
        exact ⟨i2, fun Q hQ => mW_fold (mCall_mono X _) ⟨e, he, (evS_ok hI h1).2 (g2 Q hQ)⟩⟩
def mShm : List (Nat × Nat) := [(22, 3), (21, 13), (21, 48), (21, 48), (21, 48), (21, 13), (21, 12), (21, 360), (21, 60), (21, 360), (21, 48), (21, 192), (21, 192), (21, 192), (21, 48), (21, 4), (22, 288), (21, 48), (21, 4), (21, 48), (21, 48), (21, 4), (22, 4), (22, 48), (21, 48), (21, 48), (21, 48), (21, 4), (21, 24), (21, 24), (21, 4), (21, 4), (21, 4), (21, 4), (20, 1200), (11, 46)]
def mShr : List (Nat × Nat) := mShm ++ mShx
def rC : mR := rNew (rB.1, rB.2.1, rB.2.2.1, mShx, 185, 4271) 11 46
def rEm : Option mT4 := evJ 300 122 298 (221, 7862) 0 (mLoc 122 [.ref 185]) [] rC
def rZ4 : mT4 := (0, [], [], rZ)
def rD : mR := (rEm.getD rZ4).2.2.2
def mRfm : List (Nat × Nat × Nat) := [(185, 1, 186), (185, 2, 187), (185, 3, 188), (185, 4, 189), (185, 5, 190), (185, 6, 191), (185, 7, 192), (185, 8, 193), (185, 9, 194), (185, 10, 195), (185, 11, 196), (185, 12, 197), (185, 13, 198), (185, 14, 199), (185, 15, 200), (185, 16, 201), (185, 17, 202), (185, 18, 203), (185, 19, 204), (185, 20, 205), (185, 21, 206), (185, 22, 207), (185, 23, 208), (185, 24, 209), (185, 25, 210), (185, 26, 211), (185, 27, 212), (185, 28, 213), (185, 29, 214), (185, 40, 215), (185, 41, 216), (185, 42, 217), (185, 43, 218), (185, 44, 219), (185, 45, 220)]
def mInm : List (Nat × Nat × Int32) := [(185, 0, 0), (185, 30, 0), (185, 31, 0), (185, 32, 0), (185, 33, 0), (185, 34, 0), (185, 36, 0), (185, 37, 0), (185, 38, 0), (185, 39, 0), (187, 0, 0), (188, 0, 0), (189, 0, (-1)), (190, 0, 0), (193, 0, 0), (198, 0, 0), (199, 0, 30), (202, 0, 0), (205, 0, 0), (200, 0, 0), (200, 1, 0), (200, 2, 0), (200, 3, 0), (200, 4, 0), (200, 5, 0), (200, 6, 0), (200, 7, 0), (200, 8, 0), (200, 9, 0), (200, 10, 0), (200, 11, 0), (201, 0, 0), (201, 1, 0), (201, 2, 0), (201, 3, 0), (201, 4, 0), (201, 5, 0), (201, 6, 0), (201, 7, 0), (201, 8, 0), (201, 9, 0), (201, 10, 0), (201, 11, 0), (204, 0, 0), (204, 1, 0), (204, 2, 0), (204, 3, 0), (204, 4, 0), (204, 5, 0), (204, 6, 0), (204, 7, 0), (204, 8, 0), (204, 9, 0), (204, 10, 0), (204, 11, 0), (204, 12, 0), (204, 13, 0), (204, 14, 0), (204, 15, 0), (204, 16, 0), (204, 17, 0), (204, 18, 0), (204, 19, 0), (204, 20, 0), (204, 21, 0), (204, 22, 0), (204, 23, 0), (204, 24, 0), (204, 25, 0), (204, 26, 0), (204, 27, 0), (204, 28, 0), (204, 29, 0), (204, 30, 0), (204, 31, 0), (204, 32, 0), (204, 33, 0), (204, 34, 0), (204, 35, 0), (204, 36, 0), (204, 37, 0), (204, 38, 0), (204, 39, 0), (204, 40, 0), (204, 41, 0), (204, 42, 0), (204, 43, 0), (204, 44, 0), (204, 45, 0), (204, 46, 0), (204, 47, 0), (204, 48, 0), (204, 49, 0), (204, 50, 0), (204, 51, 0), (204, 52, 0), (204, 53, 0), (204, 54, 0), (204, 55, 0), (204, 56, 0), (204, 57, 0), (204, 58, 0), (204, 59, 0), (204, 60, 0), (204, 61, 0), (204, 62, 0), (204, 63, 0), (204, 64, 0), (204, 65, 0), (204, 66, 0), (204, 67, 0), (204, 68, 0), (204, 69, 0), (204, 70, 0), (204, 71, 0), (212, 0, 0), (212, 1, 0), (212, 2, 0), (212, 3, 0), (212, 4, 0), (212, 5, 0), (212, 6, 0), (212, 7, 0), (212, 8, 0), (212, 9, 0), (212, 10, 0), (212, 11, 0), (220, 0, 0), (220, 1, 0), (220, 2, 0)]
def rChk4 (o : Option mT4) (p : Nat × List Value × List Value) (s : List (Nat × Nat)) (n z : Nat) (q : List (Nat × Nat × Nat)) (i : List (Nat × Nat × Int32)) : Bool := match o with
  | some t => decide (t.1 = p.1) && decide (t.2.1 = p.2.1) && decide (t.2.2.1 = p.2.2) && decide (t.2.2.2.2.2.2.1 = s) && decide (t.2.2.2.2.2.2.2.1 = n) && decide (t.2.2.2.2.2.2.2.2 = z) && q.all (fun e => decide (t.2.2.2.2.1 e.1 e.2.1 = some e.2.2)) && i.all (fun e => decide (t.2.2.2.1 e.1 e.2.1 = e.2.2))
  | none => false
set_option maxRecDepth 100000 in
theorem rD_chk : rChk4 rEm (298, [.ref 185, .int 0], []) mShr 221 7862 (mRfx ++ mRfm) (mInx ++ mInm) = true := by decide +kernel
theorem rChk4_ok {o : Option mT4} {p : Nat × List Value × List Value} {s : List (Nat × Nat)} {n z : Nat} {q : List (Nat × Nat × Nat)} {i : List (Nat × Nat × Int32)} (h : rChk4 o p s n z q i = true) : o = some (p.1, p.2.1, p.2.2, (o.getD rZ4).2.2.2) ∧ (o.getD rZ4).2.2.2.2.2.2 = (s, n, z) ∧ (∀ e ∈ q, (o.getD rZ4).2.2.2.2.1 e.1 e.2.1 = some e.2.2) ∧ (∀ e ∈ i, (o.getD rZ4).2.2.2.1 e.1 e.2.1 = e.2.2) := by
  unfold rChk4 at h
  split at h
  · next t =>
    simp only [Bool.and_eq_true, decide_eq_true_eq, List.all_eq_true] at h
    obtain ⟨⟨⟨⟨⟨⟨⟨h1, h2⟩, h3⟩, h4⟩, h5⟩, h6⟩, h7⟩, h8⟩ := h
    exact ⟨by rw [← h1, ← h2, ← h3]; rfl, by show t.2.2.2.2.2.2 = _; rw [← h4, ← h5, ← h6], h7, h8⟩
  · cases h
