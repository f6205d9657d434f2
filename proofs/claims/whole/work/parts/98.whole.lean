theorem mLaw_pure (X : mX) (hL : X.1 ≤ 3072) : mW (mCall X 2000) X (600000, 7302250) 0 (fun u _ => u = some (.int 1)) 0 (mLoc 0 [.ref 1000]) [] mS0 := mLaw_go X hL (fun A G h => st_12 (by omega) h)
/-- THE LAW, from its entry -/
theorem whole_start {p : Program} {e : Env} {s : State} {m : MethodId} {below : List Frame} {meth : Method} {c : Code} (l : Launch) {b L : Nat} {xs : Nat → Int32} (hL : L ≤ 3072) (C0 : lw_At p s m meth c b L xs) : W p l e room_1 s m #[Value.ref b] below meth c s.heap [] 0 0 (lw_Z below #[Value.ref b] s) (entryFrame m ([Value.ref b] : List Value).toArray 4) := by
  obtain ⟨B, h1, h2, h3, h4⟩ := mStart hL C0
  exact mLawGo C0 h1 h2 h4 (mLaw_pure (bX B) (by rw [h3]; exact hL))
