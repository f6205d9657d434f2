/-! THE TABLES' WORDS, by their places -/
theorem gT_of {i : Nat} {w : Cond} (h : lw_tbl[i]? = some w) (hg : goodWord w = true) : w ∈ gT := List.mem_filter.mpr ⟨List.mem_of_getElem? h, hg⟩
def mLay (pl : List Nat) (C : String) (T : u_T) (N : Nat) : Bool := (List.range N).all (fun k => decide (lw_tbl[pl.getD k 0]? = some (u_lay C T k)) && goodWord (u_lay C T k))
theorem mLay_ok {pl : List Nat} {C : String} {T : u_T} {N : Nat} (h : mLay pl C T N = true) : ∀ w ∈ u_ws C T N, w ∈ gT := by
  intro w hw
  obtain ⟨k, hk, rfl⟩ := List.mem_map.mp hw
  have h1 := List.all_eq_true.mp h k hk
  simp only [Bool.and_eq_true, decide_eq_true_eq] at h1
  exact gT_of h1.1 h1.2
def mDef (ty : FieldType) : Value := match ty with
  | .int => .int 0
  | .boolean => .int 0
  | .long => .long 0
  | _ => .null
def mFin (ci N : Nat) (T : u_T) : Bool := (List.range N).all (fun k => ((T k).2.2.2 == (mFop false .null (mTy ci k) == 46)) && decide (defaultValue (mTy ci k) = mDef (mTy ci k)) && decide ((T k).1 = mCnl.getD ci ""))
def mCk (ci : Nat) (C : String) (T : u_T) (N : Nat) : Prop := (∀ w ∈ u_ws C T N, w ∈ gT) ∧ (∀ k, k < N → parseFieldDescriptor (T k).2.2.1 = some (mTy ci k)) ∧ (∀ a, a < N → ∀ b, b < N → a ≠ b → (T a).2.1 ≠ (T b).2.1) ∧ mFin ci N T = true ∧ Cond.instantiable C N ∈ gT ∧ Cond.initialized C ∈ gT
set_option maxRecDepth 20000 in
theorem mCk_0 : mCk 0 RX0 TX0 5 := ⟨mLay_ok (pl := [131, 133, 135, 137, 139]) (by decide +kernel), tyX0_ok, nmX0, by decide +kernel, gT_of (i := 108) (by decide +kernel) rfl, gT_of (i := 56) (by decide +kernel) rfl⟩
set_option maxRecDepth 20000 in
theorem mCk_1 : mCk 1 RX1 TX1 10 := ⟨mLay_ok (pl := [169, 171, 173, 175, 177, 179, 181, 183, 185, 187]) (by decide +kernel), tyX1_ok, nmX1, by decide +kernel, gT_of (i := 144) (by decide +kernel) rfl, gT_of (i := 57) (by decide +kernel) rfl⟩
set_option maxRecDepth 20000 in
theorem mCk_2 : mCk 2 RX2 TX2 1 := ⟨mLay_ok (pl := [280]) (by decide +kernel), tyX2_ok, nmX2, by decide +kernel, gT_of (i := 273) (by decide +kernel) rfl, gT_of (i := 60) (by decide +kernel) rfl⟩
set_option maxRecDepth 20000 in
theorem mCk_3 : mCk 3 RX3 TX3 5 := ⟨mLay_ok (pl := [344, 346, 348, 350, 352]) (by decide +kernel), tyX3_ok, nmX3, by decide +kernel, gT_of (i := 306) (by decide +kernel) rfl, gT_of (i := 62) (by decide +kernel) rfl⟩
set_option maxRecDepth 20000 in
theorem mCk_4 : mCk 4 RX4 TX4 3 := ⟨mLay_ok (pl := [99, 101, 103]) (by decide +kernel), tyX4_ok, nmX4, by decide +kernel, gT_of (i := 86) (by decide +kernel) rfl, gT_of (i := 55) (by decide +kernel) rfl⟩
set_option maxRecDepth 20000 in
theorem mCk_5 : mCk 5 RX5 TX5 8 := ⟨mLay_ok (pl := [206, 208, 210, 212, 214, 216, 218, 220]) (by decide +kernel), tyX5_ok, nmX5, by decide +kernel, gT_of (i := 191) (by decide +kernel) rfl, gT_of (i := 58) (by decide +kernel) rfl⟩
set_option maxRecDepth 20000 in
theorem mCk_6 : mCk 6 RX6 TX6 7 := ⟨mLay_ok (pl := [256, 258, 260, 262, 264, 266, 268]) (by decide +kernel), tyX6_ok, nmX6, by decide +kernel, gT_of (i := 80) (by decide +kernel) rfl, gT_of (i := 54) (by decide +kernel) rfl⟩
set_option maxRecDepth 20000 in
theorem mCk_7 : mCk 7 RX7 TX7 2 := ⟨mLay_ok (pl := [234, 236]) (by decide +kernel), tyX7_ok, nmX7, by decide +kernel, gT_of (i := 224) (by decide +kernel) rfl, gT_of (i := 59) (by decide +kernel) rfl⟩
set_option maxRecDepth 20000 in
theorem mCk_8 : mCk 8 RX8 TX8 4 := ⟨mLay_ok (pl := [327, 329, 331, 333]) (by decide +kernel), tyX8_ok, nmX8, by decide +kernel, gT_of (i := 314) (by decide +kernel) rfl, gT_of (i := 63) (by decide +kernel) rfl⟩
set_option maxRecDepth 20000 in
theorem mCk_9 : mCk 9 RX9 TX9 4 := ⟨mLay_ok (pl := [296, 298, 300, 302]) (by decide +kernel), tyX9_ok, nmX9, by decide +kernel, gT_of (i := 284) (by decide +kernel) rfl, gT_of (i := 61) (by decide +kernel) rfl⟩
set_option maxRecDepth 20000 in
theorem mCk_10 : mCk 10 RX10 TX10 6 := ⟨mLay_ok (pl := [361, 363, 365, 367, 369, 371]) (by decide +kernel), tyX10_ok, nmX10, by decide +kernel, gT_of (i := 72) (by decide +kernel) rfl, gT_of (i := 53) (by decide +kernel) rfl⟩
set_option maxRecDepth 20000 in
theorem mCk_11 : mCk 11 RX11 TX11 46 := ⟨mLay_ok (pl := [887, 889, 891, 893, 895, 897, 899, 901, 903, 905, 907, 909, 911, 913, 915, 917, 919, 921, 923, 925, 927, 929, 931, 933, 935, 937, 939, 941, 943, 945, 947, 949, 951, 953, 955, 957, 959, 961, 963, 965, 967, 969, 971, 973, 975, 977]) (by decide +kernel), tyX11_ok, nmX11, by decide +kernel, gT_of (i := 836) (by decide +kernel) rfl, gT_of (i := 64) (by decide +kernel) rfl⟩
theorem mCls {ci : Nat} {C : String} {T : u_T} {N : Nat} (h : vwCl[ci]? = some (C, T, N)) : mCk ci C T N := by
  have hl : ci < 12 := (List.getElem?_eq_some_iff.mp h).1
  match ci, hl, h with
  | 0, _, h => cases h; exact mCk_0
  | 1, _, h => cases h; exact mCk_1
  | 2, _, h => cases h; exact mCk_2
  | 3, _, h => cases h; exact mCk_3
  | 4, _, h => cases h; exact mCk_4
  | 5, _, h => cases h; exact mCk_5
  | 6, _, h => cases h; exact mCk_6
  | 7, _, h => cases h; exact mCk_7
  | 8, _, h => cases h; exact mCk_8
  | 9, _, h => cases h; exact mCk_9
  | 10, _, h => cases h; exact mCk_10
  | 11, _, h => cases h; exact mCk_11
  | n + 12, hl, _ => omega
