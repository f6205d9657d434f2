set_option maxRecDepth 20000
set_option maxHeartbeats 4000000
/-! What a turn sees of the free seats: its rows alone -/
theorem bbS_cg {pr F F2 : Nat → Nat} {n most : Nat} : ∀ k, (∀ r, r < k → F r = F2 r) → bbS pr F n most k = bbS pr F2 n most k
  | 0, _ => rfl
  | k + 1, h => by
    unfold bbS
    rw [bbS_cg k (fun r hr => h r (by omega)), h k (by omega)]
theorem bbv_cg {pr F F2 : Nat → Nat} {n most nr : Nat} (h : ∀ r, r < nr → F r = F2 r) : bbv pr F n most nr = bbv pr F2 n most nr := by
  unfold bbv
  rw [bbS_cg nr h]
theorem fut_cg {pr F F2 : Nat → Nat} {most : Nat} : ∀ k, (∀ r, r < k → F r = F2 r) → fut pr F most k = fut pr F2 most k
  | 0, _ => rfl
  | k + 1, h => by
    unfold fut
    rw [fut_cg k (fun r hr => h r (by omega)), h k (by omega)]
theorem tkF_cg {F F2 : Nat → Nat} {b n r : Nat} (h : F r = F2 r) : tkF F b n r = tkF F2 b n r := by
  unfold tkF
  rw [h]
theorem ptF_cg {pr F F2 : Nat → Nat} {most nr : Nat} (h : ∀ r, r < nr → F r = F2 r) : ∀ k, ∀ r, r < nr → ptF pr F most nr k r = ptF pr F2 most nr k r
  | 0, r, hr => h r hr
  | k + 1, r, hr => by
    have ih := ptF_cg h k (pr := pr) (most := most)
    unfold ptF
    rw [bbv_cg ih]
    exact tkF_cg (ih r hr)
theorem ttN_cg {pr F F2 : Nat → Nat} {sz most pt nr : Nat} (h : ∀ r, r < nr → F r = F2 r) : ttN pr F sz most pt nr = ttN pr F2 sz most pt nr := by
  unfold ttN
  rw [bbv_cg h, fut_cg nr h]
theorem ttF_cg {pr F F2 : Nat → Nat} {sz most pt nr : Nat} (h : ∀ r, r < nr → F r = F2 r) : ∀ r, r < nr → ttF pr F sz most pt nr r = ttF pr F2 sz most pt nr r := by
  intro r hr
  unfold ttF
  rw [bbv_cg h, fut_cg nr h]
  split
  · split
    · exact h r hr
    · exact ptF_cg h _ r hr
  · exact tkF_cg (h r hr)
theorem ttP_cg {pr F F2 : Nat → Nat} {sz most nr : Nat} (h : ∀ r, r < nr → F r = F2 r) : ttP pr F sz most nr = ttP pr F2 sz most nr := by
  funext i
  unfold ttP ptB
  rw [bbv_cg h, bbv_cg (ptF_cg h i)]
theorem rnF_cg {pr : Nat → Nat} {nr : Nat} {sz mo pt F F2 ord : Nat → Nat} (h : ∀ r, r < nr → F r = F2 r) : ∀ k, ∀ r, r < nr → rnF pr nr sz mo pt F ord k r = rnF pr nr sz mo pt F2 ord k r
  | 0, r, hr => h r hr
  | k + 1, r, hr => by
    unfold rnF
    exact ttF_cg (rnF_cg h k) r hr
theorem rnN_cg {pr : Nat → Nat} {nr : Nat} {sz mo pt F F2 ord : Nat → Nat} {k : Nat} (h : ∀ r, r < nr → F r = F2 r) : rnN pr nr sz mo pt F ord k = rnN pr nr sz mo pt F2 ord k := ttN_cg (rnF_cg h k)
theorem rnS_cg {pr : Nat → Nat} {nr : Nat} {sz mo pt F F2 ord : Nat → Nat} (h : ∀ r, r < nr → F r = F2 r) : ∀ k, rnS pr nr sz mo pt F ord k = rnS pr nr sz mo pt F2 ord k
  | 0 => rfl
  | k + 1 => by
    unfold rnS
    rw [rnS_cg h k, rnN_cg h]
/-! the shares: a search over all orders -/
def fac : Nat → Nat
  | 0 => 1
  | k + 1 => (k + 1) * fac k
section
variable (pr : Nat → Nat) (nr : Nat) (sz mo pt : Nat → Nat) (n : Nat)
/-- of the asks below b, when m places are left -/
def gSum (g : Nat → Nat → Nat → (Nat → Nat) → Nat → Nat) (m had : Nat) (F : Nat → Nat) (x : Nat) : Nat → Nat
  | 0 => 0
  | b + 1 => gSum g m had F x b + (if had.testBit b = true then 0 else (if b = x ∧ 0 < ttN pr F (sz b) (mo b) (pt b) nr then fac m else 0) + g m (had ||| 1 <<< b) b F x)
def gC : Nat → Nat → (Nat → Nat) → Nat → Nat
  | 0 => fun _ _ _ => 0
  | m + 1 => fun had F x => gSum pr nr sz mo pt (fun m2 h2 b F2 x2 => gC m h2 (ttF pr F2 (sz b) (mo b) (pt b) nr) x2) m had F x n
end
theorem gC_cg {pr : Nat → Nat} {nr : Nat} {sz mo pt : Nat → Nat} {n : Nat} : ∀ m had F F2 x, (∀ r, r < nr → F r = F2 r) → gC pr nr sz mo pt n m had F x = gC pr nr sz mo pt n m had F2 x := by
  intro m
  induction m with
  | zero => intros; rfl
  | succ m ih =>
    intro had F F2 x h
    unfold gC
    have : ∀ b, gSum pr nr sz mo pt (fun m2 h2 b F2 x2 => gC pr nr sz mo pt n m h2 (ttF pr F2 (sz b) (mo b) (pt b) nr) x2) m had F x b = gSum pr nr sz mo pt (fun m2 h2 b F2 x2 => gC pr nr sz mo pt n m h2 (ttF pr F2 (sz b) (mo b) (pt b) nr) x2) m had F2 x b := by
      intro b
      induction b with
      | zero => rfl
      | succ b ihb =>
        unfold gSum
        rw [ihb, ttN_cg h, ih _ _ _ x (ttF_cg h)]
    exact this n
