/-! EACH OPERATION'S RULE: switches, what is read of the cells, what is read of the cells that nobody writes -/
theorem mSm {n : Int} (h1 : -1000 < n) (h2 : n < 1000) : (Int32.ofInt n).toInt = n := Int32.toInt_ofInt_of_le (by omega) (by omega)
theorem mTg_ok {pc t : Nat} {o : Int} (h : mTg pc o = some t) : (pc : Int) + o = (t : Int) := by
  unfold mTg at h
  by_cases q : (pc : Int) + o < 0
  · rw [if_pos q] at h; cases h
  · rw [if_neg q] at h
    cases h
    omega
theorem mSwT_at {pc : Nat} : ∀ {os : List Int} {lo : Int} {l : List (Int32 × Nat)}, mSwT pc lo os = some l → ∀ {j : Nat} {o : Int}, os[j]? = some o → ∃ t : Nat, (Int32.ofInt (lo + j), t) ∈ l ∧ (pc : Int) + o = (t : Int)
  | [], _, _, _, _, _, hj => by cases hj
  | o :: r, lo, l, h, j, o', hj => by
    unfold mSwT at h
    cases ht : mTg pc o with
    | none => rw [ht] at h; cases h
    | some t =>
      rw [ht] at h
      cases hr : mSwT pc (lo + 1) r with
      | none => rw [hr] at h; cases h
      | some l' =>
        rw [hr] at h
        cases h
        cases j with
        | zero =>
          cases hj
          exact ⟨t, by simp, mTg_ok ht⟩
        | succ j =>
          obtain ⟨t2, h1, h2⟩ := mSwT_at hr (j := j) hj
          refine ⟨t2, List.mem_cons_of_mem _ ?_, h2⟩
          rw [show lo + ((j + 1 : Nat) : Int) = lo + 1 + (j : Int) by omega]
          exact h1
theorem mSwT_in {pc : Nat} : ∀ {os : List Int} {lo : Int} {l : List (Int32 × Nat)}, mSwT pc lo os = some l → ∀ q ∈ l, ∃ j : Nat, j < os.length ∧ q.1 = Int32.ofInt (lo + j)
  | [], _, _, h, q, hq => by
    cases h
    cases hq
  | o :: r, lo, l, h, q, hq => by
    unfold mSwT at h
    cases ht : mTg pc o with
    | none => rw [ht] at h; cases h
    | some t =>
      rw [ht] at h
      cases hr : mSwT pc (lo + 1) r with
      | none => rw [hr] at h; cases h
      | some l' =>
        rw [hr] at h
        cases h
        rcases List.mem_cons.mp hq with e | e
        · subst e
          exact ⟨0, by simp, by simp⟩
        · obtain ⟨j, h1, h2⟩ := mSwT_in hr q e
          refine ⟨j + 1, by simpa using h1, ?_⟩
          rw [h2, show lo + ((j + 1 : Nat) : Int) = lo + 1 + (j : Int) by omega]
theorem mSwL_ok {pc : Nat} {d : Int} {x : Int32} : ∀ {ps : List (Int × Int)} {l : List (Int32 × Nat)}, mSwL pc ps = some l → (∀ q ∈ ps, -1000 < q.1 ∧ q.1 < 1000) → (∃ q ∈ l, x = q.1 ∧ (pc : Int) + Op.lookupswitch.offset ps d x.toInt = (q.2 : Int)) ∨ ((∀ q ∈ l, ¬ x = q.1) ∧ Op.lookupswitch.offset ps d x.toInt = d)
  | [], _, h, _ => by
    cases h
    exact Or.inr ⟨fun q hq => by (cases hq), rfl⟩
  | (k, o) :: r, l, h, hk => by
    unfold mSwL at h
    cases ht : mTg pc o with
    | none => simp only [ht] at h; cases h
    | some t =>
      simp only [ht] at h
      cases hr : mSwL pc r with
      | none => rw [hr] at h; cases h
      | some l' =>
        rw [hr] at h
        cases h
        have hk0 := hk (k, o) List.mem_cons_self
        have hs := mSm hk0.1 hk0.2
        by_cases e : x = Int32.ofInt k
        · refine Or.inl ⟨(Int32.ofInt k, t), List.mem_cons_self, e, ?_⟩
          rw [Op.lookupswitch.offset_cons, if_pos (by rw [e, hs])]
          exact mTg_ok ht
        · have ho := lv_osw (o := o) (d := d) (r := r) e hs
          rcases mSwL_ok hr (fun q hq => hk q (List.mem_cons_of_mem _ hq)) with ⟨q, h1, h2, h3⟩ | ⟨h1, h2⟩
          · exact Or.inl ⟨q, List.mem_cons_of_mem _ h1, h2, by rw [ho]; exact h3⟩
          · refine Or.inr ⟨fun q hq => ?_, by rw [ho]; exact h2⟩
            rcases List.mem_cons.mp hq with z | z
            · subst z; exact e
            · exact h1 q z
section S2
variable {B : mBd} {cap n0 : Nat × Nat} {p : Program} {l : Launch} {e : Env} {R : Room} {s : State} {m : MethodId} {args : Array Value} {below : List Frame} {meth : Method} {c : Code} {Qk : State → Prop}
variable {md pc a b : Nat} {cal : mCal} {X : mX} {Qm : mPost} {v : Value} {sw : List (Int32 × Nat)} {lv st : List Value} {σ : mS}
theorem s_tsw {d lo hi : Int} {os : Array Int} {len nx : Nat} (F : mFx B md p s m args meth c) (hd : decode (mBy md) pc = .ok (.tableswitch d lo hi os, len)) (ht : mTg pc d = some a) (hl9 : mSwT pc lo os.toList = some sw) (g1 : hi - lo + 1 = os.size) (g2 : -1000 < lo) (g3 : hi < 1000) (h : o_switch cal X cap Qm (mGo B cap n0 p l e R s m args below meth c (mML md) Qk) nx a b v sw lv st σ) : (mGo B cap n0 p l e R s m args below meth c (mML md) Qk) pc lv st σ := by
  obtain ⟨x, r, rfl, h⟩ := h
  intro H locs cells slots ls hy hS hl hu
  by_cases hin : x.toInt < lo ∨ hi < x.toInt
  · refine lv_tableOut F.1 F.2.1 hd hin (mTg_ok ht) (h.2 (fun q hq e9 => ?_) H locs cells slots ls hy hS hl hu)
    obtain ⟨j, h1, h2⟩ := mSwT_in hl9 q hq
    have h3 : (j : Int) < os.size := by
      have : j < os.size := by simpa using h1
      omega
    rw [e9, h2, mSm (by omega) (by omega)] at hin
    omega
  · have h1 : ¬ x.toInt < lo := fun z => hin (Or.inl z)
    have h2 : ¬ hi < x.toInt := fun z => hin (Or.inr z)
    have hj : (x.toInt - lo).toNat < os.size := by omega
    have ho : os[(x.toInt - lo).toNat]? = some os[(x.toInt - lo).toNat] := by simp [hj]
    obtain ⟨t, h3, h4⟩ := mSwT_at hl9 (j := (x.toInt - lo).toNat) (o := os[(x.toInt - lo).toNat]) (by simp [hj])
    refine lv_tableIn F.1 F.2.1 hd h1 h2 ho h4 (h.1 _ h3 ?_ H locs cells slots ls hy hS hl hu)
    show x = Int32.ofInt (lo + ((x.toInt - lo).toNat : Int))
    rw [show lo + ((x.toInt - lo).toNat : Int) = x.toInt by omega, Int32.ofInt_toInt]
theorem s_lsw {d : Int} {ps : Array (Int × Int)} {len nx : Nat} (F : mFx B md p s m args meth c) (hd : decode (mBy md) pc = .ok (.lookupswitch d ps, len)) (ht : mTg pc d = some a) (hl9 : mSwL pc ps.toList = some sw) (g1 : (ps.toList.zip (ps.toList.drop 1)).all (fun (a, next) => a.1 < next.1) = true) (g2 : ∀ q ∈ ps.toList, -1000 < q.1 ∧ q.1 < 1000) (h : o_switch cal X cap Qm (mGo B cap n0 p l e R s m args below meth c (mML md) Qk) nx a b v sw lv st σ) : (mGo B cap n0 p l e R s m args below meth c (mML md) Qk) pc lv st σ := by
  obtain ⟨x, r, rfl, h⟩ := h
  intro H locs cells slots ls hy hS hl hu
  rcases mSwL_ok (d := d) (x := x) hl9 g2 with ⟨q, h1, h2, h3⟩ | ⟨h1, h2⟩
  · exact lv_lookup F.1 F.2.1 hd g1 rfl h3 (h.1 q h1 h2 H locs cells slots ls hy hS hl hu)
  · exact lv_lookup F.1 F.2.1 hd g1 rfl (by rw [h2]; exact mTg_ok ht) (h.2 h1 H locs cells slots ls hy hS hl hu)
/-! what nobody writes -/
theorem mAd_str {B : mBd} {j : Nat} (h : j < 11) : mAd B (1100 + j) = bK B j := by
  unfold mAd
  rw [if_neg (by omega), if_neg (by omega), if_pos (by omega), Nat.add_sub_cancel_left]
theorem mAd_byt {B : mBd} {j : Nat} (h : j < 11) : mAd B (1200 + j) = bV B j := by
  unfold mAd
  rw [if_neg (by omega), if_neg (by omega), if_neg (by omega), if_pos (by omega), Nat.add_sub_cancel_left]
theorem s_ldc {n j : Nat} (F : mFx B md p s m args meth c) (hd : decode (mBy md) pc = .ok (.ldc n, 2)) (hj : j < 11) (hn : mSix.getD j 0 = n) (ho : mCn md = "TicketsDrawn$Tokens") (h : o_push cal X cap Qm (mGo B cap n0 p l e R s m args below meth c (mML md) Qk) (pc + 2) a b (.ref (1100 + j)) sw lv st σ) : (mGo B cap n0 p l e R s m args below meth c (mML md) Qk) pc lv st σ := by
  intro H locs cells slots ls hy hS hl hu
  obtain ⟨-, -, -, -, -, -, -, -, -, -, -, -, hR, -⟩ := F.2.2.2.2.2.2
  have h2 := h H locs cells slots ls hy hS hl hu
  rw [List.map_cons, mTr_ref (by omega), mAd_str hj] at h2
  have h3 := hR j hj
  rw [hn, ← ho] at h3
  exact va_ldcS F.1 F.2.1 F.2.2.2.1 h3 hd h2
theorem s_gsF {n : Nat} (F : mFx B md p s m args meth c) (hd : decode (mBy md) pc = .ok (.getstatic n, 3)) (hw : Cond.fieldLinkNest (mCn md) n "TicketsDrawn" "FACTORIALS" "[I" "TicketsDrawn" ∈ mNest) (h : o_push cal X cap Qm (mGo B cap n0 p l e R s m args below meth c (mML md) Qk) (pc + 3) a b (.ref 1001) sw lv st σ) : (mGo B cap n0 p l e R s m args below meth c (mML md) Qk) pc lv st σ := by
  intro H locs cells slots ls hy hS hl hu
  obtain ⟨-, hN, -, -, -, -, -, hZ, -⟩ := F.2.2.2.2.2.2
  exact va_getsN F.1 F.2.1 hZ hS F.2.2.2.1 (va_Nw.use rfl (hN _ hw)) (fun _ h9 => h9) hd (h H locs cells slots ls hy hS hl hu)
theorem s_gsC {n : Nat} (F : mFx B md p s m args meth c) (hd : decode (mBy md) pc = .ok (.getstatic n, 3)) (hw : Cond.fieldLink (mCn md) n "java/lang/String" "COMPACT_STRINGS" "Z" ∈ gT) (h : o_push cal X cap Qm (mGo B cap n0 p l e R s m args below meth c (mML md) Qk) (pc + 3) a b (.int 1) sw lv st σ) : (mGo B cap n0 p l e R s m args below meth c (mML md) Qk) pc lv st σ := by
  intro H locs cells slots ls hy hS hl hu
  obtain ⟨-, hN, -, -, -, -, -, -, -, hZ, -⟩ := F.2.2.2.2.2.2
  exact va_gets F.1 F.2.1 hZ hS F.2.2.2.1 (F.2.2.2.2.1 _ hw) (fun _ h9 => h9) hd (h H locs cells slots ls hy hS hl hu)
theorem s_gsM {n : Nat} (F : mFx B md p s m args meth c) (hd : decode (mBy md) pc = .ok (.getstatic n, 3)) (hw : Cond.fieldLink (mCn md) n "jdk/internal/util/Preconditions" "SIOOBE_FORMATTER" "Ljava/util/function/BiFunction;" ∈ gT) (h : o_push cal X cap Qm (mGo B cap n0 p l e R s m args below meth c (mML md) Qk) (pc + 3) a b (.ref 1300) sw lv st σ) : (mGo B cap n0 p l e R s m args below meth c (mML md) Qk) pc lv st σ := by
  intro H locs cells slots ls hy hS hl hu
  obtain ⟨-, hN, -, -, -, -, -, -, -, -, hZ, -⟩ := F.2.2.2.2.2.2
  exact va_gets F.1 F.2.1 hZ hS F.2.2.2.1 (F.2.2.2.2.1 _ hw) (fun _ h9 => h9) hd (h H locs cells slots ls hy hS hl hu)
theorem s_strV {n : Nat} (F : mFx B md p s m args meth c) (hd : decode (mBy md) pc = .ok (.getfield n, 3)) (hw : Cond.fieldLink (mCn md) n "java/lang/String" "value" "[B" ∈ gT) (h : o_strV cal X cap Qm (mGo B cap n0 p l e R s m args below meth c (mML md) Qk) (pc + 3) a b v sw lv st σ) : (mGo B cap n0 p l e R s m args below meth c (mML md) Qk) pc lv st σ := by
  obtain ⟨j, r, rfl, hj, h⟩ := h
  intro H locs cells slots ls hy hS hl hu
  obtain ⟨-, -, -, -, -, -, -, -, -, -, -, -, -, hK, -⟩ := F.2.2.2.2.2.2
  have h2 := h H locs cells slots ls hy hS hl hu
  rw [List.map_cons, mTr_ref (by omega), mAd_byt hj] at h2
  rw [List.map_cons, mTr_ref (by omega), mAd_str hj]
  exact vk_getf F.1 F.2.1 (hK.1 j hj).2.2.1 hS F.2.2.2.1 (F.2.2.2.2.1 _ hw) (fun _ h9 => h9) hd h2
theorem s_strC {n : Nat} (F : mFx B md p s m args meth c) (hd : decode (mBy md) pc = .ok (.getfield n, 3)) (hw : Cond.fieldLink (mCn md) n "java/lang/String" "coder" "B" ∈ gT) (h : o_strC cal X cap Qm (mGo B cap n0 p l e R s m args below meth c (mML md) Qk) (pc + 3) a b v sw lv st σ) : (mGo B cap n0 p l e R s m args below meth c (mML md) Qk) pc lv st σ := by
  obtain ⟨j, r, rfl, hj, h⟩ := h
  intro H locs cells slots ls hy hS hl hu
  obtain ⟨-, -, -, -, -, -, -, -, -, -, -, -, -, hK, -⟩ := F.2.2.2.2.2.2
  have h2 := h H locs cells slots ls hy hS hl hu
  rw [List.map_cons, mTr_ref (by omega), mAd_str hj]
  exact vk_getf F.1 F.2.1 (hK.1 j hj).2.1 hS F.2.2.2.1 (F.2.2.2.2.1 _ hw) (fun _ h9 => h9) hd h2
/-! fields that are read -/
theorem mCl {B : mBd} {σ : mS} {H : Heap} (hy : mDy B σ H) {q t n : Nat} (hq : σ.2.2.2[q]? = some (t, n)) : q < 1000 := by
  have := (List.getElem?_eq_some_iff.mp hq).1
  have := hy.2.2.1
  omega
theorem mObj {B : mBd} {σ : mS} {q t n : Nat} (hq : σ.2.2.2[q]? = some (t, n)) (ht : t < 12) : (mWs B σ)[q]? = some (bO B + q, .inr (t, (List.range n).map (mFv B σ q t))) := by
  rw [mWs_get hq]
  unfold mCellOf
  rw [if_pos ht]
theorem mObjN {B : mBd} {σ : mS} {H : Heap} (hy : mDy B σ H) {q t n : Nat} (hq : σ.2.2.2[q]? = some (t, n)) {C : String} {T : u_T} {N : Nat} (hc : vwCl[t]? = some (C, T, N)) : n = N ∧ t < 12 := by
  have ht : t < 12 := (List.getElem?_eq_some_iff.mp hc).1
  rcases hy.2.2.2.2.1 q t n hq with ⟨z, h1, h2, h3⟩ | h1
  · cases h1.symm.trans hc
    exact ⟨h2.symm, h3⟩
  · omega
theorem mFld {B : mBd} {σ : mS} {q t n k : Nat} (hk : k < n) : ((List.range n).map (mFv B σ q t))[k]? = some (mFv B σ q t k) := by
  rw [List.getElem?_map, List.getElem?_range hk]
  rfl
theorem s_getA {i k ci : Nat} {C : String} {T : u_T} {N : Nat} {u : Value} {r : List Value} {q n : Nat} (F : mFx B md p s m args meth c) (hd : decode (mBy md) pc = .ok (.getfield i, 3)) (hc : vwCl[ci]? = some (C, T, N)) (hin : ∀ w ∈ u_ws C T N, w ∈ gT) (hk : k < N) (hw : Cond.fieldLink (mCn md) i (T k).1 (T k).2.1 (T k).2.2.1 ∈ gT) (hq : σ.2.2.2[q]? = some (ci, n)) (hu9 : ∀ H, mDy B σ H → mFv B σ q ci k = mTr B u) (h : (mGo B cap n0 p l e R s m args below meth c (mML md) Qk) (pc + 3) lv (u :: r) σ) : (mGo B cap n0 p l e R s m args below meth c (mML md) Qk) pc lv (.ref q :: r) σ := by
  intro H locs cells slots ls hy hS hl hu
  obtain ⟨hK, -⟩ := F.2.2.2.2.2.2
  obtain ⟨hn, ht⟩ := mObjN hy hq hc
  subst hn
  have h2 := h H locs cells slots ls hy hS hl hu
  rw [List.map_cons, mTr_lt (mCl hy hq)]
  rw [List.map_cons, ← hu9 H hy] at h2
  exact va_get (ci := ci) (C := C) (T := T) (N := n) F.1 F.2.1 F.2.2.2.2.1 hin F.2.2.2.1 hK hy.2.1 q (mObj hq ht) hc k hk (F.2.2.2.2.1 _ hw) (fun _ h9 => h9) (mFld hk) hd h2
end S2
