def mCf (w : Cond) : Option (MethodName × ByteArray × Nat × Option FieldType) := match w with
  | .code y b n r => some (y, b, n, r)
  | _ => none
set_option maxRecDepth 100000 in
set_option maxHeartbeats 4000000 in
theorem mTf : tables_1.filterMap mCf = mTl.drop 1 := by rfl
theorem mT_code {md : Nat} (h0 : 0 < md) (h : md < mTl.length) : Cond.code (mYs md) (mBy md) (mML md) (mRt md) ∈ gT := by
  have h1 : (mTl.drop 1)[md - 1]? = some mTl[md] := by
    rw [List.getElem?_drop, show 1 + (md - 1) = md by omega]
    simp [h]
  have h2 := List.mem_of_getElem? h1
  rw [← mTf] at h2
  obtain ⟨w, hw, he⟩ := List.mem_filterMap.mp h2
  have hq : mTl.getD md (⟨"", "", ""⟩, code, 0, none) = mTl[md] := by simp [List.getD_eq_getElem?_getD, h]
  unfold mYs mBy mML mRt
  rw [hq]
  generalize mTl[md] = q at he
  cases w <;> first | (cases he; exact List.mem_filter.mpr ⟨List.mem_append_right _ hw, rfl⟩) | cases he
