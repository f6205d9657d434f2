set_option maxRecDepth 20000
set_option maxHeartbeats 4000000
/-! THE SHARES: the search counts the orders -/
theorem smN_add {f g : Nat → Nat} : ∀ n, smN (fun i => f i + g i) n = smN f n + smN g n
  | 0 => rfl
  | n + 1 => by
    show smN (fun i => f i + g i) n + (f n + g n) = (smN f n + f n) + (smN g n + g n)
    rw [smN_add n]
    omega
theorem smN_const {c : Nat} : ∀ n, smN (fun _ => c) n = n * c
  | 0 => (Nat.zero_mul c).symm
  | n + 1 => by
    show smN (fun _ => c) n + c = (n + 1) * c
    rw [smN_const n, Nat.succ_mul]
theorem smN_app {f : Nat → Nat} {a : Nat} : ∀ b, smN f (a + b) = smN f a + smN (fun i => f (a + i)) b
  | 0 => rfl
  | b + 1 => by
    show smN f (a + b) + f (a + b) = smN f a + (smN (fun i => f (a + i)) b + f (a + b))
    rw [smN_app b]
    omega
theorem smN_mul {f : Nat → Nat} {b : Nat} : ∀ a, smN f (a * b) = smN (fun q => smN (fun s => f (q * b + s)) b) a
  | 0 => by rw [Nat.zero_mul]; rfl
  | a + 1 => by
    show smN f ((a + 1) * b) = smN (fun q => smN (fun s => f (q * b + s)) b) a + smN (fun s => f (a * b + s)) b
    rw [Nat.succ_mul, smN_app, smN_mul a]
/-- the q-th of the numbers that are not yet had -/
def nuF (u q b : Nat) : Nat → Nat
  | 0 => b
  | f + 1 => if u.testBit b = false ∧ cu u b = q then b else nuF u q (b + 1) f
theorem nuF_at {u q c : Nat} (h1 : u.testBit c = false) (h2 : cu u c = q) : ∀ f b, b ≤ c → c < b + f → nuF u q b f = c
  | 0, b, h3, h4 => absurd h4 (by omega)
  | f + 1, b, h3, h4 => by
    unfold nuF
    by_cases e : b = c
    · rw [e, if_pos ⟨h1, h2⟩]
    · rw [if_neg (fun z => ?_)]
      · exact nuF_at h1 h2 f (b + 1) (by omega) (by omega)
      · have m := cu_mono (u := u) (a := b + 1) c (by omega)
        have e2 : cu u (b + 1) = cu u b + 1 := by
          show cu u b + _ = _
          rw [z.1, if_neg (by decide)]
        omega
theorem cu_or {u b : Nat} (hb : u.testBit b = false) : ∀ n, cu (u ||| 1 <<< b) n + (if b < n then 1 else 0) = cu u n
  | 0 => rfl
  | n + 1 => by
    have ih := cu_or hb n
    show cu (u ||| 1 <<< b) n + (if (u ||| 1 <<< b).testBit n = true then 0 else 1) + _ = cu u n + (if u.testBit n = true then 0 else 1)
    rw [or_bit]
    by_cases e : b = n
    · subst e
      rw [hb, decide_eq_true rfl, if_neg (show ¬ (false = true) by decide), if_pos (show (false || true) = true from rfl), if_pos (by omega)]
      rw [if_neg (by omega)] at ih
      omega
    · rw [decide_eq_false e, Bool.or_false]
      by_cases l : b < n
      · rw [if_pos l] at ih
        rw [if_pos (show b < n + 1 by omega)]
        omega
      · rw [if_neg l] at ih
        rw [if_neg (show ¬ b < n + 1 by omega)]
        omega
theorem nu_sum {u n : Nat} {g : Nat → Nat} : ∀ b, b ≤ n → smN (fun q => g (nuF u q 0 n)) (cu u b) = smN (fun b => if u.testBit b = true then 0 else g b) b
  | 0, _ => rfl
  | b + 1, hb => by
    have ih := nu_sum (u := u) (n := n) (g := g) b (by omega)
    show smN (fun q => g (nuF u q 0 n)) (cu u b + (if u.testBit b = true then 0 else 1)) = smN (fun b => if u.testBit b = true then 0 else g b) b + (if u.testBit b = true then 0 else g b)
    by_cases c : u.testBit b = true
    · rw [if_pos c, if_pos c, Nat.add_zero, Nat.add_zero]
      exact ih
    · rw [if_neg c, if_neg c]
      show smN (fun q => g (nuF u q 0 n)) (cu u b) + g (nuF u (cu u b) 0 n) = _
      rw [ih, nuF_at (c := b) (by simpa using c) rfl n 0 (by omega) (by omega)]
section
variable (pr : Nat → Nat) (nr : Nat) (sz mo pt : Nat → Nat) (n : Nat)
/-- x sits in the rest of an order, told by t -/
def sitN : Nat → Nat → (Nat → Nat) → Nat → Nat → Nat
  | 0 => fun _ _ _ _ => 0
  | m + 1 => fun u F t x => (if nuF u (t / fac m) 0 n = x ∧ 0 < ttN pr F (sz (nuF u (t / fac m) 0 n)) (mo (nuF u (t / fac m) 0 n)) (pt (nuF u (t / fac m) 0 n)) nr then 1 else 0) + sitN m (u ||| 1 <<< nuF u (t / fac m) 0 n) (ttF pr F (sz (nuF u (t / fac m) 0 n)) (mo (nuF u (t / fac m) 0 n)) (pt (nuF u (t / fac m) 0 n)) nr) (t % fac m) x
end
theorem sitN_s {pr sz mo pt : Nat → Nat} {nr n m u t x : Nat} {F : Nat → Nat} : sitN pr nr sz mo pt n (m + 1) u F t x = (if nuF u (t / fac m) 0 n = x ∧ 0 < ttN pr F (sz (nuF u (t / fac m) 0 n)) (mo (nuF u (t / fac m) 0 n)) (pt (nuF u (t / fac m) 0 n)) nr then 1 else 0) + sitN pr nr sz mo pt n m (u ||| 1 <<< nuF u (t / fac m) 0 n) (ttF pr F (sz (nuF u (t / fac m) 0 n)) (mo (nuF u (t / fac m) 0 n)) (pt (nuF u (t / fac m) 0 n)) nr) (t % fac m) x := rfl
theorem gSum_sm {pr sz mo pt : Nat → Nat} {nr m had x : Nat} {F : Nat → Nat} {g : Nat → Nat → Nat → (Nat → Nat) → Nat → Nat} : ∀ b, gSum pr nr sz mo pt g m had F x b = smN (fun b => if had.testBit b = true then 0 else (if b = x ∧ 0 < ttN pr F (sz b) (mo b) (pt b) nr then fac m else 0) + g m (had ||| 1 <<< b) b F x) b
  | 0 => rfl
  | b + 1 => by
    unfold gSum smN
    rw [gSum_sm b]
theorem gC_sum {pr sz mo pt : Nat → Nat} {nr n x : Nat} : ∀ m had F, cu had n = m → gC pr nr sz mo pt n m had F x = smN (fun t => sitN pr nr sz mo pt n m had F t x) (fac m) := by
  intro m
  induction m with
  | zero => intro had F _; rfl
  | succ m ih =>
    intro had F hc
    have hf := fac_pos m
    show gSum pr nr sz mo pt _ m had F x n = _
    rw [gSum_sm, ← nu_sum (u := had) (n := n) (g := fun b => (if b = x ∧ 0 < ttN pr F (sz b) (mo b) (pt b) nr then fac m else 0) + gC pr nr sz mo pt n m (had ||| 1 <<< b) (ttF pr F (sz b) (mo b) (pt b) nr) x) n (Nat.le_refl n), hc]
    rw [show fac (m + 1) = (m + 1) * fac m from rfl, smN_mul]
    refine smN_cg _ (fun q hq => ?_)
    have e : ∀ s, s < fac m → sitN pr nr sz mo pt n (m + 1) had F (q * fac m + s) x = (if nuF had q 0 n = x ∧ 0 < ttN pr F (sz (nuF had q 0 n)) (mo (nuF had q 0 n)) (pt (nuF had q 0 n)) nr then 1 else 0) + sitN pr nr sz mo pt n m (had ||| 1 <<< nuF had q 0 n) (ttF pr F (sz (nuF had q 0 n)) (mo (nuF had q 0 n)) (pt (nuF had q 0 n)) nr) s x := by
      intro s hs
      have d1 : (q * fac m + s) / fac m = q := by
        rw [Nat.add_comm, Nat.add_mul_div_right _ _ hf, Nat.div_eq_of_lt hs, Nat.zero_add]
      have d2 : (q * fac m + s) % fac m = s := by
        rw [Nat.add_comm, Nat.add_mul_mod_self_right, Nat.mod_eq_of_lt hs]
      rw [sitN_s, d1, d2]
    rw [smN_cg _ e, smN_add, smN_const]
    -- the number is one that is not yet had
    have hex : ∀ B, B ≤ n → q < cu had B → ∃ b, b < B ∧ had.testBit b = false ∧ cu had b = q := by
      intro B
      induction B with
      | zero => intro _ z; exact absurd z (by show ¬ q < 0; omega)
      | succ B ihB =>
        intro hB z
        by_cases y : q < cu had B
        · obtain ⟨b, b1, b2, b3⟩ := ihB (by omega) y
          exact ⟨b, by omega, b2, b3⟩
        · have z : q < cu had B + (if had.testBit B = true then 0 else 1) := z
          by_cases c : had.testBit B = true
          · rw [if_pos c] at z; omega
          · rw [if_neg c] at z
            exact ⟨B, by omega, by simpa using c, by omega⟩
    obtain ⟨b, b1, b2, b3⟩ := hex n (Nat.le_refl n) (by omega)
    have eb := nuF_at b2 b3 n 0 (by omega) (by omega)
    show (if nuF had q 0 n = x ∧ _ then fac m else 0) + gC pr nr sz mo pt n m (had ||| 1 <<< nuF had q 0 n) _ x = _
    rw [eb]
    have hc2 := cu_or b2 n
    rw [if_pos b1] at hc2
    rw [ih (had ||| 1 <<< b) _ (by omega)]
    split
    · rw [Nat.mul_one]
    · rw [Nat.mul_zero]
/-- the rest of an order, as drawn -/
theorem sit_run {pr sz mo pt O F0 : Nat → Nat} {nr n t x : Nat} (ht : t < fac n) : ∀ m k, k + m = n → sitN pr nr sz mo pt n m (usd (drS (idO n O) n t k).1 k) (rnF pr nr sz mo pt F0 (drS (idO n O) n t n).1 k) (drS (idO n O) n t k).2 x + smN (fun j => if (drS (idO n O) n t n).1 j = x ∧ 0 < rnN pr nr sz mo pt F0 (drS (idO n O) n t n).1 j then 1 else 0) k = smN (fun j => if (drS (idO n O) n t n).1 j = x ∧ 0 < rnN pr nr sz mo pt F0 (drS (idO n O) n t n).1 j then 1 else 0) n := by
  intro m
  induction m with
  | zero =>
    intro k e
    obtain rfl : k = n := by omega
    exact Nat.zero_add _
  | succ m ih =>
    intro k e
    have em : n - 1 - k = m := by omega
    have pi := drS_PI (O := O) ht k (by omega)
    have hq := drS_q (O := idO n O) ht (show k < n by omega)
    rw [em] at hq
    have hcu := PI_cu pi _ (show k + (drS (idO n O) n t k).2 / fac m < n by omega)
    have hxn := pi.2.2.1 (k + (drS (idO n O) n t k).2 / fac m) (by omega)
    have hub : (usd (drS (idO n O) n t k).1 k).testBit ((drS (idO n O) n t k).1 (k + (drS (idO n O) n t k).2 / fac m)) = false := (pi.2.1 _ hxn).mpr ⟨_, by omega, by omega, rfl⟩
    have en : nuF (usd (drS (idO n O) n t k).1 k) ((drS (idO n O) n t k).2 / fac m) 0 n = (drS (idO n O) n t k).1 (k + (drS (idO n O) n t k).2 / fac m) := nuF_at hub hcu n 0 (by omega) (by omega)
    have eo : (drS (idO n O) n t n).1 k = (drS (idO n O) n t k).1 (k + (drS (idO n O) n t k).2 / fac m) := by
      have e1 := drS_st (O := idO n O) (n := n) (t := t) (i := k) (n - (k + 1)) (k + 1) (by omega)
      rw [show k + 1 + (n - (k + 1)) = n by omega] at e1
      rw [e1]
      show mvD (drS (idO n O) n t k).1 (k + (drS (idO n O) n t k).2 / fac (n - 1 - k)) k k = _
      rw [em]
      unfold mvD
      rw [if_pos rfl]
    have eu : usd (drS (idO n O) n t (k + 1)).1 (k + 1) = usd (drS (idO n O) n t k).1 k ||| 1 <<< (drS (idO n O) n t n).1 k := by
      show usd _ k ||| 1 <<< (drS (idO n O) n t (k + 1)).1 k = _
      rw [usd_cg (O2 := (drS (idO n O) n t k).1) k (fun i hi => drS_st 1 k hi)]
      have e1 := drS_st (O := idO n O) (n := n) (t := t) (i := k) (n - (k + 1)) (k + 1) (by omega)
      rw [show k + 1 + (n - (k + 1)) = n by omega] at e1
      rw [e1]
    have er : (drS (idO n O) n t (k + 1)).2 = (drS (idO n O) n t k).2 % fac m := by
      show (drS (idO n O) n t k).2 % fac (n - 1 - k) = _
      rw [em]
    have ih' := ih (k + 1) (by omega)
    rw [eu, er] at ih'
    rw [← ih']
    rw [sitN_s, en, ← eo]
    show _ = sitN pr nr sz mo pt n m (usd (drS (idO n O) n t k).1 k ||| 1 <<< (drS (idO n O) n t n).1 k) (ttF pr (rnF pr nr sz mo pt F0 (drS (idO n O) n t n).1 k) (sz ((drS (idO n O) n t n).1 k)) (mo ((drS (idO n O) n t n).1 k)) (pt ((drS (idO n O) n t n).1 k)) nr) ((drS (idO n O) n t k).2 % fac m) x + (smN _ k + (if (drS (idO n O) n t n).1 k = x ∧ 0 < ttN pr (rnF pr nr sz mo pt F0 (drS (idO n O) n t n).1 k) (sz ((drS (idO n O) n t n).1 k)) (mo ((drS (idO n O) n t n).1 k)) (pt ((drS (idO n O) n t n).1 k)) nr then 1 else 0))
    omega
theorem rnH_sum {pr sz mo pt ord F0 : Nat → Nat} {nr n x : Nat} (hi : ∀ i k, i < k → k < n → ord i ≠ ord k) : ∀ k, k ≤ n → (if 0 < rnH pr nr sz mo pt F0 ord (fun _ => 0) k x then 1 else 0) = smN (fun j => if ord j = x ∧ 0 < rnN pr nr sz mo pt F0 ord j then 1 else 0) k
  | 0, _ => rfl
  | k + 1, hk => by
    have ih := rnH_sum (pr := pr) (nr := nr) (sz := sz) (mo := mo) (pt := pt) (F0 := F0) (x := x) hi k (by omega)
    show (if 0 < up (rnH pr nr sz mo pt F0 ord (fun _ => 0) k) (ord k) (rnN pr nr sz mo pt F0 ord k) x then 1 else 0) = smN _ k + (if ord k = x ∧ 0 < rnN pr nr sz mo pt F0 ord k then 1 else 0)
    by_cases e : ord k = x
    · have z : smN (fun j => if ord j = x ∧ 0 < rnN pr nr sz mo pt F0 ord j then 1 else 0) k = 0 := by
        rw [smN_cg (g2 := fun _ => 0) k (fun j hj => if_neg (fun y => hi j k hj (by omega) (by rw [y.1, e]))), smN_const, Nat.mul_zero]
      rw [z, ← e, up_eq, Nat.zero_add]
      by_cases c : 0 < rnN pr nr sz mo pt F0 ord k
      · rw [if_pos c, if_pos ⟨rfl, c⟩]
      · rw [if_neg c, if_neg (fun y => c y.2)]
    · rw [up_ne (fun y => e y.symm), ih, if_neg (fun y => e y.1), Nat.add_zero]
theorem share_eq {pr sz mo pt O F0 : Nat → Nat} {nr n x : Nat} : gC pr nr sz mo pt n n 0 F0 x = smN (fun t => if 0 < rnH pr nr sz mo pt F0 (drS (idO n O) n t n).1 (fun _ => 0) n x then 1 else 0) (fac n) := by
  have hc : cu 0 n = n := by
    have : ∀ b, cu 0 b = b := by
      intro b
      induction b with
      | zero => rfl
      | succ b ih =>
        show cu 0 b + _ = _
        rw [ih, Nat.zero_testBit, if_neg (by decide)]
    exact this n
  rw [gC_sum n 0 F0 hc]
  refine smN_cg _ (fun t ht => ?_)
  have p := drS_PI (O := O) ht n (Nat.le_refl n)
  rw [rnH_sum (fun i k h hk => p.2.2.2.2 i k h hk) n (Nat.le_refl n)]
  exact sit_run (O := O) ht n 0 (by omega)
