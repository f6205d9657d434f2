/-! THE LAW, out of its run on the small machine -/
def mS0 : mS := (fun _ _ => 0, fun _ _ => none, fun _ _ => 0, [])
theorem mDy_0 {B : mBd} {s : State} (h : bO B = s.heap.size) : mDy B mS0 s.heap := by
  refine ⟨by rw [h]; rfl, fun k q hk => ?_, by decide, (fun c k d h => by cases h), (fun c t n h => by cases h), (fun c n h => by cases h)⟩
  have := (mWs_at hk).1
  cases this
theorem mLawGo {p : Program} {l : Launch} {e : Env} {s : State} {m : MethodId} {below : List Frame} {meth : Method} {c : Code} {b L : Nat} {xs : Nat → Int32} (C0 : lw_At p s m meth c b L xs) {B : mBd} (hO : bO B = s.heap.size) (hb0 : bS B = b) (hSt : mSt B s) (hcall : mW (mCall (bX B) 2000) (bX B) (600000, 7302250) 0 (fun u _ => u = some (.int 1)) 0 (mLoc 0 [.ref 1000]) [] mS0) : W p l e room_1 s m #[Value.ref b] below meth c s.heap [] 0 0 (lw_Z below #[Value.ref b] s) (entryFrame m ([Value.ref b] : List Value).toArray 4) := by
  obtain ⟨hx, hb, hr, hml, hown, hts, hX, hbl, hlocks, hgv⟩ := C0
  have F : mFx B 0 p s m #[Value.ref b] meth c := ⟨hx, hb, hml, hown, fun w hw => hts w (List.mem_filter.mp hw).1, fun h => absurd (by decide +kernel : mAl 0 = (0, 0)) h, hSt⟩
  have hm := hSt.2.2.2.2.2.2.2.2.2.2.2.1
  have hav : [Value.ref b] = ([.ref 1000] : List Value).map (mTr B) := by
    rw [List.map_cons, mTr_ref (by decide), ← hb0]
    rfl
  have key := hcall (mGo B (600000, 7302250) (0, 0) p l e room_1 s m #[Value.ref b] below meth c (mML 0) (lw_Z below #[Value.ref b] s)) (mStep F ⟨by decide, by decide⟩ (fun md2 av σ2 Q2 g1 g2 g3 z => ⟨mRm 1999 md2, mMet B l 1999 md2 av σ2 Q2 g1 g2 g3 z, rfl, rfl, (by show 1999 + 1 + 1 ≤ 2048; decide), (by show 40 + (40 * 1999 + 200) ≤ 84000; decide)⟩) ?_ ?_)
  · have hk := key s.heap [] 0 0 _ (mDy_0 hO) va_S.rf (mEnt (md := 0) hm (by decide)) ⟨Nat.zero_le _, Nat.zero_le _, by decide, by decide, Nat.le_refl _, Nat.le_refl _⟩
    rw [← hav] at hk
    rw [lg_entry_eq]
    exact hk
  · intro ty x τ H locs cells slots ls pc hrt hnar hd hQ hy hS hu
    cases hQ
    refine va_forget (fun q hq => by have := hS.2.2 q hq; unfold bA at this; rw [hO] at this; exact this) ?_
    obtain ⟨u1, u2, u3, u4, u5, u6⟩ := hu
    have u3 : cells + (600000 - τ.2.2.2.length) ≤ 600000 := u3
    have u4 : slots + (7302250 - mSum τ.2.2.2) ≤ 7302250 := u4
    refine W.widen (k := 600000) (n := 7302250) (by omega) (by omega) ?_
    exact lw_ret hx hb hr hlocks hd
  · intro τ H locs cells slots ls pc hrt
    cases hrt
