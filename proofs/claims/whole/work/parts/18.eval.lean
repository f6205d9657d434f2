/-! A RUN WITHOUT UNKNOWNS, reckoned: what the constructors make. The cells are told from the last on, with their number and sum -/
abbrev mR : Type := mI × mQ × mG × List (Nat × Nat) × Nat × Nat
abbrev mT4 : Type := Nat × List Value × List Value × mR
def rS (ρ : mR) : mS := (ρ.1, ρ.2.1, ρ.2.2.1, ρ.2.2.2.1.reverse)
def rI (ρ : mR) : Prop := ρ.2.2.2.2.1 = ρ.2.2.2.1.length ∧ ρ.2.2.2.2.2 = mSum ρ.2.2.2.1.reverse
def rG (ρ : mR) (c : Nat) : Option (Nat × Nat) := if c < ρ.2.2.2.2.1 then ρ.2.2.2.1[ρ.2.2.2.2.1 - 1 - c]? else none
theorem rLen {ρ : mR} (h : rI ρ) : (rS ρ).2.2.2.length = ρ.2.2.2.2.1 := by
  show ρ.2.2.2.1.reverse.length = _
  rw [List.length_reverse, h.1]
theorem rSum {ρ : mR} (h : rI ρ) : mSum (rS ρ).2.2.2 = ρ.2.2.2.2.2 := h.2.symm
theorem rG_ok {ρ : mR} (h : rI ρ) (c : Nat) : (rS ρ).2.2.2[c]? = rG ρ c := by
  unfold rG
  show ρ.2.2.2.1.reverse[c]? = _
  by_cases hc : c < ρ.2.2.2.2.1
  · rw [if_pos hc, List.getElem?_reverse (by rw [← h.1]; exact hc), h.1]
  · rw [if_neg hc]
    exact List.getElem?_eq_none (by rw [List.length_reverse, ← h.1]; omega)
def rNew (ρ : mR) (a n : Nat) : mR := (fun k => if k = ρ.2.2.2.2.1 then fun _ => 0 else ρ.1 k, fun k => if k = ρ.2.2.2.2.1 then fun _ => none else ρ.2.1 k, fun k => if k = ρ.2.2.2.2.1 then fun _ => 0 else ρ.2.2.1 k, (a, n) :: ρ.2.2.2.1, ρ.2.2.2.2.1 + 1, ρ.2.2.2.2.2 + n)
theorem rNew_ok {ρ : mR} (h : rI ρ) (a n : Nat) : rS (rNew ρ a n) = mNew (rS ρ) a n ∧ rI (rNew ρ a n) := by
  refine ⟨?_, ?_, ?_⟩
  · unfold mNew
    rw [rLen h]
    unfold rNew rS
    simp
  · show _ + 1 = ((a, n) :: ρ.2.2.2.1).length
    rw [h.1]
    rfl
  · show ρ.2.2.2.2.2 + n = mSum ((a, n) :: ρ.2.2.2.1).reverse
    rw [List.reverse_cons, mSum_app, h.2]
def rNewG (ρ : mR) (n k : Nat) : mR := (fun c => if ρ.2.2.2.2.1 ≤ c ∧ c ≤ ρ.2.2.2.2.1 + n then fun _ => 0 else ρ.1 c, fun c => if c = ρ.2.2.2.2.1 then fun i => if i < n then some (ρ.2.2.2.2.1 + 1 + i) else none else ρ.2.1 c, ρ.2.2.1, List.replicate n (21, k) ++ ((24, n) :: ρ.2.2.2.1), ρ.2.2.2.2.1 + 1 + n, ρ.2.2.2.2.2 + (n + n * k))
theorem rNewG_ok {ρ : mR} (h : rI ρ) (n k : Nat) : rS (rNewG ρ n k) = mNewG (rS ρ) n k ∧ rI (rNewG ρ n k) := by
  have e : (List.replicate n (21, k) ++ ((24, n) :: ρ.2.2.2.1)).reverse = ρ.2.2.2.1.reverse ++ ((24, n) :: List.replicate n (21, k)) := by simp
  have e1 : rS (rNewG ρ n k) = mNewG (rS ρ) n k := by
    unfold mNewG
    rw [rLen h]
    unfold rNewG rS
    simp only [e]
  refine ⟨e1, ?_, ?_⟩
  · show _ + 1 + n = (List.replicate n (21, k) ++ ((24, n) :: ρ.2.2.2.1)).length
    rw [h.1]
    simp
    omega
  · show ρ.2.2.2.2.2 + (n + n * k) = mSum (rS (rNewG ρ n k)).2.2.2
    rw [e1, mNewG_sum, rSum h]
def ev_push (nx a b : Nat) (v : Value) (cap : Nat × Nat) (lv st : List Value) (ρ : mR) : Option mT4 :=
  some (nx, lv, v :: st, ρ)
theorem eo_push {cal : mCal} {X : mX} {Q : mPost} {W : mWt} {nx a b : Nat} {v : Value} {sw : List (Int32 × Nat)} {cap : Nat × Nat} {lv st : List Value} {ρ : mR} {t : mT4} (hI : rI ρ) (h : ev_push nx a b v cap lv st ρ = some t) : rI t.2.2.2 ∧ (W t.1 t.2.1 t.2.2.1 (rS t.2.2.2) → o_push cal X cap Q W nx a b v sw lv st (rS ρ)) := by
  unfold ev_push at h
  cases h
  exact ⟨hI, fun hW => hW⟩
def ev_iload (nx a b : Nat) (v : Value) (cap : Nat × Nat) (lv st : List Value) (ρ : mR) : Option mT4 :=
  match lv[a]? with
  | some (.int x) => some (nx, lv, .int x :: st, ρ)
  | _ => none
theorem eo_iload {cal : mCal} {X : mX} {Q : mPost} {W : mWt} {nx a b : Nat} {v : Value} {sw : List (Int32 × Nat)} {cap : Nat × Nat} {lv st : List Value} {ρ : mR} {t : mT4} (hI : rI ρ) (h : ev_iload nx a b v cap lv st ρ = some t) : rI t.2.2.2 ∧ (W t.1 t.2.1 t.2.2.1 (rS t.2.2.2) → o_iload cal X cap Q W nx a b v sw lv st (rS ρ)) := by
  unfold ev_iload at h
  split at h
  · next x hx => cases h; exact ⟨hI, fun hW => ⟨x, hx, hW⟩⟩
  · cases h
def ev_aload (nx a b : Nat) (v : Value) (cap : Nat × Nat) (lv st : List Value) (ρ : mR) : Option mT4 :=
  match lv[a]? with
  | some (.ref c) => if c = 1300 then none else some (nx, lv, .ref c :: st, ρ)
  | _ => none
theorem eo_aload {cal : mCal} {X : mX} {Q : mPost} {W : mWt} {nx a b : Nat} {v : Value} {sw : List (Int32 × Nat)} {cap : Nat × Nat} {lv st : List Value} {ρ : mR} {t : mT4} (hI : rI ρ) (h : ev_aload nx a b v cap lv st ρ = some t) : rI t.2.2.2 ∧ (W t.1 t.2.1 t.2.2.1 (rS t.2.2.2) → o_aload cal X cap Q W nx a b v sw lv st (rS ρ)) := by
  unfold ev_aload at h
  split at h
  · next c hc =>
    split at h
    · cases h
    · next hn => cases h; exact ⟨hI, fun hW => ⟨c, hc, hn, hW⟩⟩
  · cases h
def ev_istore (nx a b : Nat) (v : Value) (cap : Nat × Nat) (lv st : List Value) (ρ : mR) : Option mT4 :=
  match st with
  | .int x :: r => if (lv[a]?).any mOk = true then some (nx, lv.set a (.int x), r, ρ) else none
  | _ => none
theorem eo_istore {cal : mCal} {X : mX} {Q : mPost} {W : mWt} {nx a b : Nat} {v : Value} {sw : List (Int32 × Nat)} {cap : Nat × Nat} {lv st : List Value} {ρ : mR} {t : mT4} (hI : rI ρ) (h : ev_istore nx a b v cap lv st ρ = some t) : rI t.2.2.2 ∧ (W t.1 t.2.1 t.2.2.1 (rS t.2.2.2) → o_istore cal X cap Q W nx a b v sw lv st (rS ρ)) := by
  unfold ev_istore at h
  split at h
  · next x r =>
    split at h
    · next hk => cases h; exact ⟨hI, fun hW => ⟨x, r, rfl, hk, hW⟩⟩
    · cases h
  · cases h
def ev_iinc (nx a b : Nat) (v : Value) (cap : Nat × Nat) (lv st : List Value) (ρ : mR) : Option mT4 :=
  match lv[a]?, v with
  | some (.int x), .int y => if (lv[a]?).any mOk = true then some (nx, lv.set a (.int (x + y)), st, ρ) else none
  | _, _ => none
theorem eo_iinc {cal : mCal} {X : mX} {Q : mPost} {W : mWt} {nx a b : Nat} {v : Value} {sw : List (Int32 × Nat)} {cap : Nat × Nat} {lv st : List Value} {ρ : mR} {t : mT4} (hI : rI ρ) (h : ev_iinc nx a b v cap lv st ρ = some t) : rI t.2.2.2 ∧ (W t.1 t.2.1 t.2.2.1 (rS t.2.2.2) → o_iinc cal X cap Q W nx a b v sw lv st (rS ρ)) := by
  unfold ev_iinc at h
  split at h
  · next x y hx =>
    split at h
    · next hk => cases h; exact ⟨hI, fun hW => ⟨x, y, hx, rfl, hk, hW⟩⟩
    · cases h
  · cases h
def ev_dup (nx a b : Nat) (v : Value) (cap : Nat × Nat) (lv st : List Value) (ρ : mR) : Option mT4 :=
  match st with
  | u :: r => if u.category = 1 then some (nx, lv, u :: u :: r, ρ) else none
  | _ => none
theorem eo_dup {cal : mCal} {X : mX} {Q : mPost} {W : mWt} {nx a b : Nat} {v : Value} {sw : List (Int32 × Nat)} {cap : Nat × Nat} {lv st : List Value} {ρ : mR} {t : mT4} (hI : rI ρ) (h : ev_dup nx a b v cap lv st ρ = some t) : rI t.2.2.2 ∧ (W t.1 t.2.1 t.2.2.1 (rS t.2.2.2) → o_dup cal X cap Q W nx a b v sw lv st (rS ρ)) := by
  unfold ev_dup at h
  split at h
  · next u r =>
    split at h
    · next hk => cases h; exact ⟨hI, fun hW => ⟨u, r, rfl, hk, hW⟩⟩
    · cases h
  · cases h
def ev_goto (nx a b : Nat) (v : Value) (cap : Nat × Nat) (lv st : List Value) (ρ : mR) : Option mT4 :=
  some (a, lv, st, ρ)
theorem eo_goto {cal : mCal} {X : mX} {Q : mPost} {W : mWt} {nx a b : Nat} {v : Value} {sw : List (Int32 × Nat)} {cap : Nat × Nat} {lv st : List Value} {ρ : mR} {t : mT4} (hI : rI ρ) (h : ev_goto nx a b v cap lv st ρ = some t) : rI t.2.2.2 ∧ (W t.1 t.2.1 t.2.2.1 (rS t.2.2.2) → o_goto cal X cap Q W nx a b v sw lv st (rS ρ)) := by
  unfold ev_goto at h
  cases h
  exact ⟨hI, fun hW => hW⟩
def ev_icge (nx a b : Nat) (v : Value) (cap : Nat × Nat) (lv st : List Value) (ρ : mR) : Option mT4 :=
  match st with
  | .int y :: .int x :: r => some (if y ≤ x then a else nx, lv, r, ρ)
  | _ => none
theorem eo_icge {cal : mCal} {X : mX} {Q : mPost} {W : mWt} {nx a b : Nat} {v : Value} {sw : List (Int32 × Nat)} {cap : Nat × Nat} {lv st : List Value} {ρ : mR} {t : mT4} (hI : rI ρ) (h : ev_icge nx a b v cap lv st ρ = some t) : rI t.2.2.2 ∧ (W t.1 t.2.1 t.2.2.1 (rS t.2.2.2) → o_icge cal X cap Q W nx a b v sw lv st (rS ρ)) := by
  unfold ev_icge at h
  split at h
  · next y x r =>
    cases h
    refine ⟨hI, fun hW => ⟨x, y, r, rfl, fun z => ?_, fun z => ?_⟩⟩
    · rw [if_pos z] at hW; exact hW
    · rw [if_neg z] at hW; exact hW
  · cases h
def ev_getR (nx a b : Nat) (v : Value) (cap : Nat × Nat) (lv st : List Value) (ρ : mR) : Option mT4 :=
  match st with
  | .ref c :: r => match rG ρ c, ρ.2.1 c b with
    | some q, some d => if q.1 = a then some (nx, lv, .ref d :: r, ρ) else none
    | _, _ => none
  | _ => none
theorem eo_getR {cal : mCal} {X : mX} {Q : mPost} {W : mWt} {nx a b : Nat} {v : Value} {sw : List (Int32 × Nat)} {cap : Nat × Nat} {lv st : List Value} {ρ : mR} {t : mT4} (hI : rI ρ) (h : ev_getR nx a b v cap lv st ρ = some t) : rI t.2.2.2 ∧ (W t.1 t.2.1 t.2.2.1 (rS t.2.2.2) → o_getR cal X cap Q W nx a b v sw lv st (rS ρ)) := by
  unfold ev_getR at h
  split at h
  · next c r =>
    split at h
    · next q d hq hd =>
      split at h
      · next ha => cases h; exact ⟨hI, fun hW => ⟨c, q.2, d, r, rfl, by rw [rG_ok hI, hq, ← ha], hd, hW⟩⟩
      · cases h
    · cases h
  · cases h
def ev_putI (nx a b : Nat) (v : Value) (cap : Nat × Nat) (lv st : List Value) (ρ : mR) : Option mT4 :=
  match st with
  | .int x :: .ref c :: r => match rG ρ c with
    | some q => if q.1 = a then some (nx, lv, r, (mU ρ.1 c b x, ρ.2)) else none
    | none => none
  | _ => none
theorem eo_putI {cal : mCal} {X : mX} {Q : mPost} {W : mWt} {nx a b : Nat} {v : Value} {sw : List (Int32 × Nat)} {cap : Nat × Nat} {lv st : List Value} {ρ : mR} {t : mT4} (hI : rI ρ) (h : ev_putI nx a b v cap lv st ρ = some t) : rI t.2.2.2 ∧ (W t.1 t.2.1 t.2.2.1 (rS t.2.2.2) → o_putI cal X cap Q W nx a b v sw lv st (rS ρ)) := by
  unfold ev_putI at h
  split at h
  · next x c r =>
    split at h
    · next q hq =>
      split at h
      · next ha => cases h; exact ⟨hI, fun hW => ⟨c, q.2, x, r, rfl, by rw [rG_ok hI, hq, ← ha], hW⟩⟩
      · cases h
    · cases h
  · cases h
def ev_putZ (nx a b : Nat) (v : Value) (cap : Nat × Nat) (lv st : List Value) (ρ : mR) : Option mT4 :=
  match st with
  | .int x :: .ref c :: r => match rG ρ c with
    | some q => if q.1 = a ∧ (x = 0 ∨ x = 1) then some (nx, lv, r, (mU ρ.1 c b x, ρ.2)) else none
    | none => none
  | _ => none
theorem eo_putZ {cal : mCal} {X : mX} {Q : mPost} {W : mWt} {nx a b : Nat} {v : Value} {sw : List (Int32 × Nat)} {cap : Nat × Nat} {lv st : List Value} {ρ : mR} {t : mT4} (hI : rI ρ) (h : ev_putZ nx a b v cap lv st ρ = some t) : rI t.2.2.2 ∧ (W t.1 t.2.1 t.2.2.1 (rS t.2.2.2) → o_putZ cal X cap Q W nx a b v sw lv st (rS ρ)) := by
  unfold ev_putZ at h
  split at h
  · next x c r =>
    split at h
    · next q hq =>
      split at h
      · next ha => cases h; exact ⟨hI, fun hW => ⟨c, q.2, x, r, rfl, by rw [rG_ok hI, hq, ← ha.1], ha.2, hW⟩⟩
      · cases h
    · cases h
  · cases h
def ev_putR (nx a b : Nat) (v : Value) (cap : Nat × Nat) (lv st : List Value) (ρ : mR) : Option mT4 :=
  match st with
  | .ref d :: .ref c :: r => match rG ρ c with
    | some q => if q.1 = a ∧ d < ρ.2.2.2.2.1 then some (nx, lv, r, (ρ.1, mV ρ.2.1 c b (some d), ρ.2.2)) else none
    | none => none
  | _ => none
theorem eo_putR {cal : mCal} {X : mX} {Q : mPost} {W : mWt} {nx a b : Nat} {v : Value} {sw : List (Int32 × Nat)} {cap : Nat × Nat} {lv st : List Value} {ρ : mR} {t : mT4} (hI : rI ρ) (h : ev_putR nx a b v cap lv st ρ = some t) : rI t.2.2.2 ∧ (W t.1 t.2.1 t.2.2.1 (rS t.2.2.2) → o_putR cal X cap Q W nx a b v sw lv st (rS ρ)) := by
  unfold ev_putR at h
  split at h
  · next d c r =>
    split at h
    · next q hq =>
      split at h
      · next ha => cases h; exact ⟨hI, fun hW => ⟨c, q.2, d, r, rfl, by rw [rG_ok hI, hq, ← ha.1], by rw [rLen hI]; exact ha.2, hW⟩⟩
      · cases h
    · cases h
  · cases h
def ev_iast (nx a b : Nat) (v : Value) (cap : Nat × Nat) (lv st : List Value) (ρ : mR) : Option mT4 :=
  match st with
  | .int x :: .int i :: .ref c :: r => match rG ρ c with
    | some q => if q.1 = 21 ∧ ¬ (i < 0 ∨ q.2 ≤ i.toNatClampNeg) then some (nx, lv, r, (mU ρ.1 c i.toNatClampNeg x, ρ.2)) else none
    | none => none
  | _ => none
theorem eo_iast {cal : mCal} {X : mX} {Q : mPost} {W : mWt} {nx a b : Nat} {v : Value} {sw : List (Int32 × Nat)} {cap : Nat × Nat} {lv st : List Value} {ρ : mR} {t : mT4} (hI : rI ρ) (h : ev_iast nx a b v cap lv st ρ = some t) : rI t.2.2.2 ∧ (W t.1 t.2.1 t.2.2.1 (rS t.2.2.2) → o_iast cal X cap Q W nx a b v sw lv st (rS ρ)) := by
  unfold ev_iast at h
  split at h
  · next x i c r =>
    split at h
    · next q hq =>
      split at h
      · next ha => cases h; exact ⟨hI, fun hW => ⟨c, i, q.2, x, r, rfl, by rw [rG_ok hI, hq, ← ha.1], ha.2, hW⟩⟩
      · cases h
    · cases h
  · cases h
def ev_aast (nx a b : Nat) (v : Value) (cap : Nat × Nat) (lv st : List Value) (ρ : mR) : Option mT4 :=
  match st with
  | .ref d :: .int i :: .ref c :: r => match rG ρ c, rG ρ d with
    | some q, some w => if q.1 = 23 ∧ w.1 = 6 ∧ ¬ (i < 0 ∨ q.2 ≤ i.toNatClampNeg) then some (nx, lv, r, (ρ.1, mV ρ.2.1 c i.toNatClampNeg (some d), ρ.2.2)) else none
    | _, _ => none
  | _ => none
theorem eo_aast {cal : mCal} {X : mX} {Q : mPost} {W : mWt} {nx a b : Nat} {v : Value} {sw : List (Int32 × Nat)} {cap : Nat × Nat} {lv st : List Value} {ρ : mR} {t : mT4} (hI : rI ρ) (h : ev_aast nx a b v cap lv st ρ = some t) : rI t.2.2.2 ∧ (W t.1 t.2.1 t.2.2.1 (rS t.2.2.2) → o_aast cal X cap Q W nx a b v sw lv st (rS ρ)) := by
  unfold ev_aast at h
  split at h
  · next d i c r =>
    split at h
    · next q w hq hw =>
      split at h
      · next ha => cases h; exact ⟨hI, fun hW => ⟨c, i, q.2, d, w.2, r, rfl, by rw [rG_ok hI, hq, ← ha.1], by rw [rG_ok hI, hw, ← ha.2.1], ha.2.2, hW⟩⟩
      · cases h
    · cases h
  · cases h
def ev_new (nx a b : Nat) (v : Value) (cap : Nat × Nat) (lv st : List Value) (ρ : mR) : Option mT4 :=
  if ρ.2.2.2.2.1 + 1 ≤ cap.1 ∧ ρ.2.2.2.2.2 + b ≤ cap.2 ∧ ρ.2.2.2.2.1 + 1 ≤ 1000 then some (nx, lv, .ref ρ.2.2.2.2.1 :: st, rNew ρ a b) else none
theorem eo_new {cal : mCal} {X : mX} {Q : mPost} {W : mWt} {nx a b : Nat} {v : Value} {sw : List (Int32 × Nat)} {cap : Nat × Nat} {lv st : List Value} {ρ : mR} {t : mT4} (hI : rI ρ) (h : ev_new nx a b v cap lv st ρ = some t) : rI t.2.2.2 ∧ (W t.1 t.2.1 t.2.2.1 (rS t.2.2.2) → o_new cal X cap Q W nx a b v sw lv st (rS ρ)) := by
  unfold ev_new at h
  split at h
  · next hg => cases h; exact ⟨(rNew_ok hI _ _).2, fun hW => ⟨by rw [rLen hI, rSum hI]; exact hg, by rw [← (rNew_ok hI _ _).1, rLen hI]; exact hW⟩⟩
  · cases h
def ev_newa (nx a b : Nat) (v : Value) (cap : Nat × Nat) (lv st : List Value) (ρ : mR) : Option mT4 :=
  match st with
  | .int n :: r => if ¬ n < 0 ∧ n.toNatClampNeg ≤ 4096 ∧ ρ.2.2.2.2.1 + 1 ≤ cap.1 ∧ ρ.2.2.2.2.2 + n.toNatClampNeg ≤ cap.2 ∧ ρ.2.2.2.2.1 + 1 ≤ 1000 then some (nx, lv, .ref ρ.2.2.2.2.1 :: r, rNew ρ a n.toNatClampNeg) else none
  | _ => none
theorem eo_newa {cal : mCal} {X : mX} {Q : mPost} {W : mWt} {nx a b : Nat} {v : Value} {sw : List (Int32 × Nat)} {cap : Nat × Nat} {lv st : List Value} {ρ : mR} {t : mT4} (hI : rI ρ) (h : ev_newa nx a b v cap lv st ρ = some t) : rI t.2.2.2 ∧ (W t.1 t.2.1 t.2.2.1 (rS t.2.2.2) → o_newa cal X cap Q W nx a b v sw lv st (rS ρ)) := by
  unfold ev_newa at h
  split at h
  · next n r =>
    split at h
    · next hg => cases h; exact ⟨(rNew_ok hI _ _).2, fun hW => ⟨n, r, rfl, hg.1, hg.2.1, by rw [rLen hI, rSum hI]; exact hg.2.2, by rw [← (rNew_ok hI _ _).1, rLen hI]; exact hW⟩⟩
    · cases h
  · cases h
def ev_mna (nx a b : Nat) (v : Value) (cap : Nat × Nat) (lv st : List Value) (ρ : mR) : Option mT4 :=
  match st with
  | .int k :: .int n :: r => if ¬ n < 0 ∧ ¬ k < 0 ∧ n.toNatClampNeg ≤ 64 ∧ k.toNatClampNeg ≤ 64 ∧ ρ.2.2.2.2.1 + 1 + n.toNatClampNeg ≤ cap.1 ∧ ρ.2.2.2.2.2 + (n.toNatClampNeg + n.toNatClampNeg * k.toNatClampNeg) ≤ cap.2 ∧ ρ.2.2.2.2.1 + 1 + n.toNatClampNeg ≤ 1000 then some (nx, lv, .ref ρ.2.2.2.2.1 :: r, rNewG ρ n.toNatClampNeg k.toNatClampNeg) else none
  | _ => none
theorem eo_mna {cal : mCal} {X : mX} {Q : mPost} {W : mWt} {nx a b : Nat} {v : Value} {sw : List (Int32 × Nat)} {cap : Nat × Nat} {lv st : List Value} {ρ : mR} {t : mT4} (hI : rI ρ) (h : ev_mna nx a b v cap lv st ρ = some t) : rI t.2.2.2 ∧ (W t.1 t.2.1 t.2.2.1 (rS t.2.2.2) → o_mna cal X cap Q W nx a b v sw lv st (rS ρ)) := by
  unfold ev_mna at h
  split at h
  · next k n r =>
    split at h
    · next hg => cases h; exact ⟨(rNewG_ok hI _ _).2, fun hW => ⟨n, k, r, rfl, hg.1, hg.2.1, hg.2.2.1, hg.2.2.2.1, by rw [rLen hI, rSum hI]; exact hg.2.2.2.2, by rw [← (rNewG_ok hI _ _).1, rLen hI]; exact hW⟩⟩
    · cases h
  · cases h
def ev_objI (nx a b : Nat) (v : Value) (cap : Nat × Nat) (lv st : List Value) (ρ : mR) : Option mT4 :=
  match st with
  | .ref c :: r => if r.length ≤ 4 ∧ c ≠ 1300 then some (nx, lv, r, ρ) else none
  | _ => none
theorem eo_objI {cal : mCal} {X : mX} {Q : mPost} {W : mWt} {nx a b : Nat} {v : Value} {sw : List (Int32 × Nat)} {cap : Nat × Nat} {lv st : List Value} {ρ : mR} {t : mT4} (hI : rI ρ) (h : ev_objI nx a b v cap lv st ρ = some t) : rI t.2.2.2 ∧ (W t.1 t.2.1 t.2.2.1 (rS t.2.2.2) → o_objI cal X cap Q W nx a b v sw lv st (rS ρ)) := by
  unfold ev_objI at h
  split at h
  · next c r =>
    split at h
    · next hg => cases h; exact ⟨hI, fun hW => ⟨c, r, rfl, hg.1, hg.2, hW⟩⟩
    · cases h
  · cases h
def evS (e : mE) (cap : Nat × Nat) (lv st : List Value) (ρ : mR) : Option mT4 :=
  if e.1 = 0 then ev_push e.2.1 e.2.2.1 e.2.2.2.1 e.2.2.2.2.1 cap lv st ρ
  else if e.1 = 1 then ev_iload e.2.1 e.2.2.1 e.2.2.2.1 e.2.2.2.2.1 cap lv st ρ
  else if e.1 = 2 then ev_aload e.2.1 e.2.2.1 e.2.2.2.1 e.2.2.2.2.1 cap lv st ρ
  else if e.1 = 4 then ev_istore e.2.1 e.2.2.1 e.2.2.2.1 e.2.2.2.2.1 cap lv st ρ
  else if e.1 = 6 then ev_iinc e.2.1 e.2.2.1 e.2.2.2.1 e.2.2.2.2.1 cap lv st ρ
  else if e.1 = 24 then ev_dup e.2.1 e.2.2.1 e.2.2.2.1 e.2.2.2.2.1 cap lv st ρ
  else if e.1 = 27 then ev_goto e.2.1 e.2.2.1 e.2.2.2.1 e.2.2.2.2.1 cap lv st ρ
  else if e.1 = 37 then ev_icge e.2.1 e.2.2.1 e.2.2.2.1 e.2.2.2.2.1 cap lv st ρ
  else if e.1 = 42 then ev_getR e.2.1 e.2.2.1 e.2.2.2.1 e.2.2.2.2.1 cap lv st ρ
  else if e.1 = 44 then ev_putI e.2.1 e.2.2.1 e.2.2.2.1 e.2.2.2.2.1 cap lv st ρ
  else if e.1 = 45 then ev_putZ e.2.1 e.2.2.1 e.2.2.2.1 e.2.2.2.2.1 cap lv st ρ
  else if e.1 = 46 then ev_putR e.2.1 e.2.2.1 e.2.2.2.1 e.2.2.2.2.1 cap lv st ρ
  else if e.1 = 53 then ev_iast e.2.1 e.2.2.1 e.2.2.2.1 e.2.2.2.2.1 cap lv st ρ
  else if e.1 = 55 then ev_aast e.2.1 e.2.2.1 e.2.2.2.1 e.2.2.2.2.1 cap lv st ρ
  else if e.1 = 57 then ev_new e.2.1 e.2.2.1 e.2.2.2.1 e.2.2.2.2.1 cap lv st ρ
  else if e.1 = 58 then ev_newa e.2.1 e.2.2.1 e.2.2.2.1 e.2.2.2.2.1 cap lv st ρ
  else if e.1 = 59 then ev_mna e.2.1 e.2.2.1 e.2.2.2.1 e.2.2.2.2.1 cap lv st ρ
  else if e.1 = 64 then ev_objI e.2.1 e.2.2.1 e.2.2.2.1 e.2.2.2.2.1 cap lv st ρ
  else none
theorem evS_ok {cal : mCal} {X : mX} {Q : mPost} {W : mWt} {e : mE} {cap : Nat × Nat} {lv st : List Value} {ρ : mR} {t : mT4} (hI : rI ρ) (h : evS e cap lv st ρ = some t) : rI t.2.2.2 ∧ (W t.1 t.2.1 t.2.2.1 (rS t.2.2.2) → mEx cal X cap Q W e lv st (rS ρ)) := by
  unfold evS at h
  by_cases h0 : e.1 = 0
  · rw [if_pos h0] at h
    exact ⟨(eo_push (cal := cal) (X := X) (Q := Q) (W := W) (sw := e.2.2.2.2.2) hI h).1, fun hW => ⟨o_push, by rw [h0]; rfl, (eo_push hI h).2 hW⟩⟩
  rw [if_neg h0] at h
  by_cases h1 : e.1 = 1
  · rw [if_pos h1] at h
    exact ⟨(eo_iload (cal := cal) (X := X) (Q := Q) (W := W) (sw := e.2.2.2.2.2) hI h).1, fun hW => ⟨o_iload, by rw [h1]; rfl, (eo_iload hI h).2 hW⟩⟩
  rw [if_neg h1] at h
  by_cases h2 : e.1 = 2
  · rw [if_pos h2] at h
    exact ⟨(eo_aload (cal := cal) (X := X) (Q := Q) (W := W) (sw := e.2.2.2.2.2) hI h).1, fun hW => ⟨o_aload, by rw [h2]; rfl, (eo_aload hI h).2 hW⟩⟩
  rw [if_neg h2] at h
  by_cases h4 : e.1 = 4
  · rw [if_pos h4] at h
    exact ⟨(eo_istore (cal := cal) (X := X) (Q := Q) (W := W) (sw := e.2.2.2.2.2) hI h).1, fun hW => ⟨o_istore, by rw [h4]; rfl, (eo_istore hI h).2 hW⟩⟩
  rw [if_neg h4] at h
  by_cases h6 : e.1 = 6
  · rw [if_pos h6] at h
    exact ⟨(eo_iinc (cal := cal) (X := X) (Q := Q) (W := W) (sw := e.2.2.2.2.2) hI h).1, fun hW => ⟨o_iinc, by rw [h6]; rfl, (eo_iinc hI h).2 hW⟩⟩
  rw [if_neg h6] at h
  by_cases h24 : e.1 = 24
  · rw [if_pos h24] at h
    exact ⟨(eo_dup (cal := cal) (X := X) (Q := Q) (W := W) (sw := e.2.2.2.2.2) hI h).1, fun hW => ⟨o_dup, by rw [h24]; rfl, (eo_dup hI h).2 hW⟩⟩
  rw [if_neg h24] at h
  by_cases h27 : e.1 = 27
  · rw [if_pos h27] at h
    exact ⟨(eo_goto (cal := cal) (X := X) (Q := Q) (W := W) (sw := e.2.2.2.2.2) hI h).1, fun hW => ⟨o_goto, by rw [h27]; rfl, (eo_goto hI h).2 hW⟩⟩
  rw [if_neg h27] at h
  by_cases h37 : e.1 = 37
  · rw [if_pos h37] at h
    exact ⟨(eo_icge (cal := cal) (X := X) (Q := Q) (W := W) (sw := e.2.2.2.2.2) hI h).1, fun hW => ⟨o_icge, by rw [h37]; rfl, (eo_icge hI h).2 hW⟩⟩
  rw [if_neg h37] at h
  by_cases h42 : e.1 = 42
  · rw [if_pos h42] at h
    exact ⟨(eo_getR (cal := cal) (X := X) (Q := Q) (W := W) (sw := e.2.2.2.2.2) hI h).1, fun hW => ⟨o_getR, by rw [h42]; rfl, (eo_getR hI h).2 hW⟩⟩
  rw [if_neg h42] at h
  by_cases h44 : e.1 = 44
  · rw [if_pos h44] at h
    exact ⟨(eo_putI (cal := cal) (X := X) (Q := Q) (W := W) (sw := e.2.2.2.2.2) hI h).1, fun hW => ⟨o_putI, by rw [h44]; rfl, (eo_putI hI h).2 hW⟩⟩
  rw [if_neg h44] at h
  by_cases h45 : e.1 = 45
  · rw [if_pos h45] at h
    exact ⟨(eo_putZ (cal := cal) (X := X) (Q := Q) (W := W) (sw := e.2.2.2.2.2) hI h).1, fun hW => ⟨o_putZ, by rw [h45]; rfl, (eo_putZ hI h).2 hW⟩⟩
  rw [if_neg h45] at h
  by_cases h46 : e.1 = 46
  · rw [if_pos h46] at h
    exact ⟨(eo_putR (cal := cal) (X := X) (Q := Q) (W := W) (sw := e.2.2.2.2.2) hI h).1, fun hW => ⟨o_putR, by rw [h46]; rfl, (eo_putR hI h).2 hW⟩⟩
  rw [if_neg h46] at h
  by_cases h53 : e.1 = 53
  · rw [if_pos h53] at h
    exact ⟨(eo_iast (cal := cal) (X := X) (Q := Q) (W := W) (sw := e.2.2.2.2.2) hI h).1, fun hW => ⟨o_iast, by rw [h53]; rfl, (eo_iast hI h).2 hW⟩⟩
  rw [if_neg h53] at h
  by_cases h55 : e.1 = 55
  · rw [if_pos h55] at h
    exact ⟨(eo_aast (cal := cal) (X := X) (Q := Q) (W := W) (sw := e.2.2.2.2.2) hI h).1, fun hW => ⟨o_aast, by rw [h55]; rfl, (eo_aast hI h).2 hW⟩⟩
  rw [if_neg h55] at h
  by_cases h57 : e.1 = 57
  · rw [if_pos h57] at h
    exact ⟨(eo_new (cal := cal) (X := X) (Q := Q) (W := W) (sw := e.2.2.2.2.2) hI h).1, fun hW => ⟨o_new, by rw [h57]; rfl, (eo_new hI h).2 hW⟩⟩
  rw [if_neg h57] at h
  by_cases h58 : e.1 = 58
  · rw [if_pos h58] at h
    exact ⟨(eo_newa (cal := cal) (X := X) (Q := Q) (W := W) (sw := e.2.2.2.2.2) hI h).1, fun hW => ⟨o_newa, by rw [h58]; rfl, (eo_newa hI h).2 hW⟩⟩
  rw [if_neg h58] at h
  by_cases h59 : e.1 = 59
  · rw [if_pos h59] at h
    exact ⟨(eo_mna (cal := cal) (X := X) (Q := Q) (W := W) (sw := e.2.2.2.2.2) hI h).1, fun hW => ⟨o_mna, by rw [h59]; rfl, (eo_mna hI h).2 hW⟩⟩
  rw [if_neg h59] at h
  by_cases h64 : e.1 = 64
  · rw [if_pos h64] at h
    exact ⟨(eo_objI (cal := cal) (X := X) (Q := Q) (W := W) (sw := e.2.2.2.2.2) hI h).1, fun hW => ⟨o_objI, by rw [h64]; rfl, (eo_objI hI h).2 hW⟩⟩
  rw [if_neg h64] at h
  cases h
def evC (e : mE) (cap : Nat × Nat) (st : List Value) (ρ : mR) : Option (List Value × List Value) := match st.drop e.2.2.2.1 with
  | .ref c :: r => if c ≠ 1300 ∧ r.length ≤ 4 ∧ ρ.2.2.2.2.1 + (mAl e.2.2.1).1 ≤ cap.1 ∧ ρ.2.2.2.2.2 + (mAl e.2.2.1).2 ≤ cap.2 ∧ ((Value.ref c :: (st.take e.2.2.2.1).reverse).map fun u => u.category).sum ≤ mML e.2.2.1 then some (Value.ref c :: (st.take e.2.2.2.1).reverse, r) else none
  | _ => none
def ev : Nat → Nat → Nat → Nat × Nat → Nat → List Value → List Value → mR → Option mR
  | 0, _, _, _, _, _, _, _ => none
  | n + 1, d, md, cap, pc, lv, st, ρ => match mAt md pc with
    | none => none
    | some e =>
      if e.1 = 63 then match d, evC e cap st ρ with
        | d' + 1, some w => (ev n d' e.2.2.1 (ρ.2.2.2.2.1 + (mAl e.2.2.1).1, ρ.2.2.2.2.2 + (mAl e.2.2.1).2) 0 (mLoc e.2.2.1 w.1) [] ρ).bind fun τ => ev n (d' + 1) md cap e.2.1 lv w.2 τ
        | _, _ => none
      else if e.1 = 71 then if st = [] ∧ ρ.2.2.2.2.1 = cap.1 ∧ ρ.2.2.2.2.2 = cap.2 then some ρ else none
      else (evS e cap lv st ρ).bind fun t => ev n d md cap t.1 t.2.1 t.2.2.1 t.2.2.2
theorem ev_ok (X : mX) : ∀ (n d md : Nat) (cap : Nat × Nat) (pc : Nat) (lv st : List Value) (ρ τ : mR), rI ρ → ev n d md cap pc lv st ρ = some τ → rI τ ∧ ∀ Q : mPost, Q none (rS τ) → mW (mCall X d) X cap md Q pc lv st (rS ρ) := by
  intro n
  induction n with
  | zero => intro d md cap pc lv st ρ τ _ h; cases h
  | succ n ih =>
    intro d md cap pc lv st ρ τ hI h
    unfold ev at h
    split at h
    · cases h
    · next e he =>
      split at h
      · next hc =>
        split at h
        · next d' w hw =>
          obtain ⟨κ, h1, h2⟩ := Option.bind_eq_some_iff.mp h
          unfold evC at hw
          split at hw
          · next c r hdrop =>
            split at hw
            · next hg =>
              cases hw
              obtain ⟨i1, g1⟩ := ih d' _ _ _ _ _ _ _ hI h1
              obtain ⟨i2, g2⟩ := ih (d' + 1) _ _ _ _ _ _ _ i1 h2
              refine ⟨i2, fun Q hQ => mW_fold (mCall_mono X _) ⟨e, he, o_callI, by rw [hc]; rfl, c, _, r, rfl, hdrop, hg.1, hg.2.1, ⟨by rw [rLen hI]; exact hg.2.2.1, by rw [rSum hI]; exact hg.2.2.2.1⟩, hg.2.2.2.2, ?_⟩⟩
              rw [rLen hI, rSum hI]
              exact g1 _ (g2 Q hQ)
            · cases hw
          · cases hw
        · cases h
      · split at h
        · next hv =>
          split at h
          · next hg =>
            cases h
            exact ⟨hI, fun Q hQ => mW_fold (mCall_mono X _) ⟨e, he, o_vretC, by rw [hv]; rfl, hg.1, by rw [rLen hI, rSum hI]; exact hg.2, hQ⟩⟩
          · cases h
        · obtain ⟨t, h1, h2⟩ := Option.bind_eq_some_iff.mp h
          obtain ⟨i1, -⟩ := evS_ok (cal := mCall X d) (X := X) (Q := fun _ _ => True) (W := fun _ _ _ _ => True) hI h1
          obtain ⟨i2, g2⟩ := ih d _ _ _ _ _ _ _ i1 h2
          exact ⟨i2, fun Q hQ => mW_fold (mCall_mono X _) ⟨e, he, (evS_ok hI h1).2 (g2 Q hQ)⟩⟩
