set_option maxRecDepth 20000
set_option maxHeartbeats 4000000
/-! THE DRAFTS of both sides -/
def drQ (A B : Nat → Nat → Nat) (j : Nat) : Prop := A 176 j < 5 ∧ A 179 j ≤ 1 ∧ B 216 j = A 176 j + 8 * A 179 j ∧ A 177 j = B 217 j ∧ A 178 j = B 218 j ∧ B 217 j < 256 ∧ B 218 j ≤ 999
def drT (A B : Nat → Nat → Nat) (l : Nat) : Prop := A 175 l = B 215 l ∧ B 215 l ≤ 4 ∧ ∀ i, i < B 215 l → drQ A B (4 * l + i)
def drD (A B : Nat → Nat → Nat) (fk nl : Nat) : Prop := ∀ l, l < nl → l < 12 → drT A B l ∧ A 174 l = B 219 l ∧ (fk = 0 → B 219 l ≤ 100)
def mdO (B : Nat → Nat → Nat) (b : Nat → Nat) (L fk fp nl : Nat) : Prop := moP B b L ∧ B 185 37 = fk ∧ (fk ≠ 0 → B 185 38 = fp) ∧ B 185 39 = nl
def frA (A A' : Nat → Nat → Nat) : Prop := ∀ c, c < 173 ∨ 179 < c → A' c = A c
theorem adT_o {A : Nat → Nat → Nat} {g f s v c : Nat} (h : c < 175 ∨ 179 < c) : adT A g f s v c = A c := by
  unfold adT
  by_cases z : A 173 0 < 12 ∧ A 175 (A 173 0) < 4
  · rw [if_pos z, aU_nf (by omega), aU_nf (by omega), aU_nf (by omega), aU_nf (by omega), aU_nf (by omega)]
  · rw [if_neg z]
theorem mdT_o {B : Nat → Nat → Nat} {l k g f s v c : Nat} (h : c < 215 ∨ 218 < c) : mdT B l k g f s v c = B c := by
  unfold mdT
  by_cases z : k < 4 ∧ l < 12
  · rw [if_pos z, aU_nf (by omega), aU_nf (by omega), aU_nf (by omega), aU_nf (by omega)]
  · rw [if_neg z]
theorem aU_if {A : Nat → Nat → Nat} {c i v j : Nat} : aU A c i v c j = if j = i then v else A c j := by
  by_cases z : j = i
  · rw [if_pos z, z, aU_eq]
  · rw [if_neg z, aU_ne2 z]
theorem drQ_cg {A A' B B' : Nat → Nat → Nat} {j : Nat} (h1 : A' 176 j = A 176 j) (h2 : A' 179 j = A 179 j) (h3 : A' 177 j = A 177 j) (h4 : A' 178 j = A 178 j) (h5 : B' 216 j = B 216 j) (h6 : B' 217 j = B 217 j) (h7 : B' 218 j = B 218 j) (h : drQ A B j) : drQ A' B' j := by
  unfold drQ
  rw [h1, h2, h3, h4, h5, h6, h7]
  exact h
theorem dr_t {A B : Nat → Nat → Nat} {l k g f s v nl fk : Nat} (hl : l = min nl 12) (hA : A 173 0 = l) (hk : nl < 12 → A 175 nl = min k 4) (hg : g ≤ 1) (hf : f < 5) (hs : s < 256) (hv : v ≤ 999) (hD : drD A B fk nl) (hU : nl < 12 → drT A B nl) : drD (adT A g f s v) (mdT B l k g f s v) fk nl ∧ (nl < 12 → drT (adT A g f s v) (mdT B l k g f s v) nl) ∧ (nl < 12 → adT A g f s v 175 nl = min (k + 1) 4) := by
  by_cases c : nl < 12 ∧ k < 4
  · obtain ⟨c1, c2⟩ := c
    obtain rfl : l = nl := by omega
    have k1 := hk c1
    obtain ⟨u1, u2, u3⟩ := hU c1
    have k2 : A 175 l = k := by omega
    have ea : adT A g f s v = aU (aU (aU (aU (aU A 179 (4 * l + k) g) 176 (4 * l + k) f) 177 (4 * l + k) s) 178 (4 * l + k) v) 175 l (k + 1) := by
      unfold adT
      rw [hA, k2, if_pos ⟨c1, c2⟩, Nat.mul_comm l 4]
    have eb : mdT B l k g f s v = aU (aU (aU (aU B 216 (4 * l + k) (f + 8 * g)) 217 (4 * l + k) s) 218 (4 * l + k) v) 215 l (k + 1) := by
      unfold mdT
      rw [if_pos ⟨c2, c1⟩]
    have a174 : ∀ j, adT A g f s v 174 j = A 174 j := fun j => by rw [adT_o (by omega)]
    have b219 : ∀ j, mdT B l k g f s v 219 j = B 219 j := fun j => by rw [mdT_o (by omega)]
    have a175 : ∀ j, adT A g f s v 175 j = if j = l then k + 1 else A 175 j := fun j => by
      rw [ea, aU_if, aU_ne (by decide), aU_ne (by decide), aU_ne (by decide), aU_ne (by decide)]
    have a176 : ∀ j, adT A g f s v 176 j = if j = 4 * l + k then f else A 176 j := fun j => by
      rw [ea, aU_ne (by decide), aU_ne (by decide), aU_ne (by decide), aU_if, aU_ne (by decide)]
    have a177 : ∀ j, adT A g f s v 177 j = if j = 4 * l + k then s else A 177 j := fun j => by
      rw [ea, aU_ne (by decide), aU_ne (by decide), aU_if, aU_ne (by decide), aU_ne (by decide)]
    have a178 : ∀ j, adT A g f s v 178 j = if j = 4 * l + k then v else A 178 j := fun j => by
      rw [ea, aU_ne (by decide), aU_if, aU_ne (by decide), aU_ne (by decide), aU_ne (by decide)]
    have a179 : ∀ j, adT A g f s v 179 j = if j = 4 * l + k then g else A 179 j := fun j => by
      rw [ea, aU_ne (by decide), aU_ne (by decide), aU_ne (by decide), aU_ne (by decide), aU_if]
    have b215 : ∀ j, mdT B l k g f s v 215 j = if j = l then k + 1 else B 215 j := fun j => by
      rw [eb, aU_if, aU_ne (by decide), aU_ne (by decide), aU_ne (by decide)]
    have b216 : ∀ j, mdT B l k g f s v 216 j = if j = 4 * l + k then f + 8 * g else B 216 j := fun j => by
      rw [eb, aU_ne (by decide), aU_ne (by decide), aU_ne (by decide), aU_if]
    have b217 : ∀ j, mdT B l k g f s v 217 j = if j = 4 * l + k then s else B 217 j := fun j => by
      rw [eb, aU_ne (by decide), aU_ne (by decide), aU_if, aU_ne (by decide)]
    have b218 : ∀ j, mdT B l k g f s v 218 j = if j = 4 * l + k then v else B 218 j := fun j => by
      rw [eb, aU_ne (by decide), aU_if, aU_ne (by decide), aU_ne (by decide)]
    have old : ∀ j, j ≠ 4 * l + k → drQ A B j → drQ (adT A g f s v) (mdT B l k g f s v) j := fun j hj h => drQ_cg (by rw [a176, if_neg hj]) (by rw [a179, if_neg hj]) (by rw [a177, if_neg hj]) (by rw [a178, if_neg hj]) (by rw [b216, if_neg hj]) (by rw [b217, if_neg hj]) (by rw [b218, if_neg hj]) h
    have new : drQ (adT A g f s v) (mdT B l k g f s v) (4 * l + k) := by
      unfold drQ
      rw [a176, a179, a177, a178, b216, b217, b218, if_pos rfl, if_pos rfl, if_pos rfl, if_pos rfl, if_pos rfl, if_pos rfl, if_pos rfl]
      exact ⟨hf, hg, rfl, rfl, rfl, hs, hv⟩
    refine ⟨fun l' h1 h2 => ?_, fun _ => ⟨?_, ?_, fun i hi => ?_⟩, fun _ => ?_⟩
    · obtain ⟨⟨d1, d2, d3⟩, d4, d5⟩ := hD l' h1 h2
      refine ⟨⟨?_, ?_, fun i hi => ?_⟩, ?_, ?_⟩
      · rw [a175, b215, if_neg (by omega), if_neg (by omega)]; exact d1
      · rw [b215, if_neg (by omega)]; exact d2
      · rw [b215, if_neg (by omega)] at hi
        exact old _ (by omega) (d3 i hi)
      · rw [a174, b219]; exact d4
      · rw [b219]; exact d5
    · rw [a175, b215, if_pos rfl, if_pos rfl]
    · rw [b215, if_pos rfl]; omega
    · rw [b215, if_pos rfl] at hi
      by_cases z : i = k
      · rw [z]; exact new
      · exact old _ (by omega) (u3 i (by omega))
    · rw [a175, if_pos rfl]; omega
  · have ea : adT A g f s v = A := by
      unfold adT
      rw [if_neg (fun q => by
        obtain ⟨q1, q2⟩ := q
        have c1 : nl < 12 := by omega
        have k1 := hk c1
        have e : A 173 0 = nl := by omega
        rw [e] at q2
        exact c ⟨c1, by omega⟩)]
    have eb : mdT B l k g f s v = B := by
      unfold mdT
      rw [if_neg (fun q => c ⟨by omega, q.1⟩)]
    rw [ea, eb]
    refine ⟨hD, hU, fun c1 => ?_⟩
    have k1 := hk c1
    omega
theorem rm_0 {fk f : Nat} (hf : f ≠ 0) : rmK fk f ≠ 0 := by
  unfold rmK
  by_cases z : fk = 0
  · rw [if_pos z]; exact hf
  · rw [if_neg z]; exact z
theorem rm_3 {fk f : Nat} (hf : f ≤ 3) (h : fk ≤ 3) : rmK fk f ≤ 3 := by
  unfold rmK
  by_cases z : fk = 0
  · rw [if_pos z]; exact hf
  · rw [if_neg z]; exact h
theorem rm_p {fk p fp q : Nat} (h : fk ≠ 0 → q = fp) : rmP fk p q = rmP fk p fp := by
  unfold rmP
  by_cases z : fk = 0
  · rw [if_pos z, if_pos z]
  · rw [if_neg z, if_neg z]; exact h z
/-- a fault remembered when w holds -/
def kF (w : Bool) (f fk : Nat) : Nat := if w = true then rmK fk f else fk
def pF (w : Bool) (p fk fp : Nat) : Nat := if w = true then rmP fk p fp else fp
def bFl (w : Bool) (f p : Nat) (B : Nat → Nat → Nat) : Nat → Nat → Nat := if w = true then lat B f p else B
theorem mdO_F {w : Bool} {f p fk fp nl : Nat} {B : Nat → Nat → Nat} {b : Nat → Nat} {L : Nat} (hf : f ≠ 0) (h : mdO B b L fk fp nl) : mdO (bFl w f p B) b L (kF w f fk) (pF w p fk fp) nl := by
  unfold bFl kF pF
  by_cases z : w = true
  · rw [if_pos z, if_pos z, if_pos z]
    obtain ⟨h1, h2, h3, h4⟩ := h
    obtain ⟨s1, s2, s3⟩ := lat_s (B := B) (f := f) (p := p)
    refine ⟨moP_lat h1, ?_, fun _ => ?_, ?_⟩
    · rw [s1, h2]
    · rw [s2, h2]; exact rm_p h3
    · rw [s3, h4]
  · rw [if_neg z, if_neg z, if_neg z]; exact h
theorem bFl_o {w : Bool} {f p c : Nat} {B : Nat → Nat → Nat} (h : c ≠ 185) : bFl w f p B c = B c := by
  unfold bFl
  by_cases z : w = true
  · rw [if_pos z]; exact lat_o h
  · rw [if_neg z]
theorem drT_cg {A A' B B' : Nat → Nat → Nat} {l : Nat} (h1 : ∀ c, 175 ≤ c → c ≤ 179 → A' c = A c) (h2 : ∀ c, 215 ≤ c → c ≤ 218 → B' c = B c) (h : drT A B l) : drT A' B' l := by
  unfold drT drQ
  rw [h1 175 (by omega) (by omega), h1 176 (by omega) (by omega), h1 177 (by omega) (by omega), h1 178 (by omega) (by omega), h1 179 (by omega) (by omega), h2 215 (by omega) (by omega), h2 216 (by omega) (by omega), h2 217 (by omega) (by omega), h2 218 (by omega) (by omega)]
  exact h
theorem drD_cg {A B B' : Nat → Nat → Nat} {fk fk' nl : Nat} (h2 : ∀ c, 215 ≤ c → c ≤ 219 → B' c = B c) (hf : fk' = 0 → fk = 0) (h : drD A B fk nl) : drD A B' fk' nl := by
  intro l h1 h3
  obtain ⟨d1, d2, d3⟩ := h l h1 h3
  rw [h2 219 (by omega) (by omega)]
  exact ⟨drT_cg (fun _ _ _ => rfl) (fun c c1 c2 => h2 c c1 (by omega)) d1, d2, fun z => d3 (hf z)⟩
theorem kF_0 {w : Bool} {f fk : Nat} (hf : f ≠ 0) : kF w f fk = 0 → fk = 0 := by
  unfold kF
  by_cases z : w = true
  · rw [if_pos z]; exact fun q => absurd q (rm_0 hf)
  · rw [if_neg z]; exact id
theorem kF_3 {w : Bool} {f fk : Nat} (hf : f ≤ 3) (h : fk ≤ 3) : kF w f fk ≤ 3 := by
  unfold kF
  by_cases z : w = true
  · rw [if_pos z]; exact rm_3 hf h
  · rw [if_neg z]; exact h
theorem pF_0 {w : Bool} {f p fk fp : Nat} (hf : f ≠ 0) (h : fk = 0 → fp = 4294967295) : kF w f fk = 0 → pF w p fk fp = 4294967295 := by
  unfold kF pF
  by_cases z : w = true
  · rw [if_pos z]; exact fun q => absurd q (rm_0 hf)
  · rw [if_neg z, if_neg z]; exact h
