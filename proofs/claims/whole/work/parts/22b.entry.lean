/-! ENTRIES: a call as its first instruction -/
theorem e_1 {X : mX} {D : Nat} {P : mPost} {σ : mS} {a0 : Nat} (hD : 1 ≤ D) : mCall X D 1 [.ref a0] σ P = mW (mCall X (D - 1)) X (σ.2.2.2.length + (mAl 1).1, mSum σ.2.2.2 + (mAl 1).2) 1 P 0 [.ref a0, .null] [] σ := by
  obtain ⟨d, rfl⟩ : ∃ d, D = d + 1 := ⟨D - 1, by omega⟩
  exact propext ⟨fun h => h.2, fun h => ⟨Nat.le_of_ble_eq_true rfl, h⟩⟩
theorem e_3 {X : mX} {D : Nat} {P : mPost} {σ : mS} {a0 : Nat} (hD : 1 ≤ D) : mCall X D 3 [.ref a0] σ P = mW (mCall X (D - 1)) X (σ.2.2.2.length + (mAl 3).1, mSum σ.2.2.2 + (mAl 3).2) 3 P 0 [.ref a0] [] σ := by
  obtain ⟨d, rfl⟩ : ∃ d, D = d + 1 := ⟨D - 1, by omega⟩
  exact propext ⟨fun h => h.2, fun h => ⟨Nat.le_of_ble_eq_true rfl, h⟩⟩
theorem e_4 {X : mX} {D : Nat} {P : mPost} {σ : mS} {a0 : Nat} (hD : 1 ≤ D) : mCall X D 4 [.ref a0] σ P = mW (mCall X (D - 1)) X (σ.2.2.2.length + (mAl 4).1, mSum σ.2.2.2 + (mAl 4).2) 4 P 0 [.ref a0] [] σ := by
  obtain ⟨d, rfl⟩ : ∃ d, D = d + 1 := ⟨D - 1, by omega⟩
  exact propext ⟨fun h => h.2, fun h => ⟨Nat.le_of_ble_eq_true rfl, h⟩⟩
theorem e_5 {X : mX} {D : Nat} {P : mPost} {σ : mS} {a0 : Nat} (hD : 1 ≤ D) : mCall X D 5 [.ref a0] σ P = mW (mCall X (D - 1)) X (σ.2.2.2.length + (mAl 5).1, mSum σ.2.2.2 + (mAl 5).2) 5 P 0 [.ref a0] [] σ := by
  obtain ⟨d, rfl⟩ : ∃ d, D = d + 1 := ⟨D - 1, by omega⟩
  exact propext ⟨fun h => h.2, fun h => ⟨Nat.le_of_ble_eq_true rfl, h⟩⟩
theorem e_6 {X : mX} {D : Nat} {P : mPost} {σ : mS} {a0 : Nat} (hD : 1 ≤ D) : mCall X D 6 [.ref a0] σ P = mW (mCall X (D - 1)) X (σ.2.2.2.length + (mAl 6).1, mSum σ.2.2.2 + (mAl 6).2) 6 P 0 [.ref a0] [] σ := by
  obtain ⟨d, rfl⟩ : ∃ d, D = d + 1 := ⟨D - 1, by omega⟩
  exact propext ⟨fun h => h.2, fun h => ⟨Nat.le_of_ble_eq_true rfl, h⟩⟩
theorem e_7 {X : mX} {D : Nat} {P : mPost} {σ : mS} {a0 : Nat} (hD : 1 ≤ D) : mCall X D 7 [.ref a0] σ P = mW (mCall X (D - 1)) X (σ.2.2.2.length + (mAl 7).1, mSum σ.2.2.2 + (mAl 7).2) 7 P 0 [.ref a0] [] σ := by
  obtain ⟨d, rfl⟩ : ∃ d, D = d + 1 := ⟨D - 1, by omega⟩
  exact propext ⟨fun h => h.2, fun h => ⟨Nat.le_of_ble_eq_true rfl, h⟩⟩
theorem e_8 {X : mX} {D : Nat} {P : mPost} {σ : mS} {a0 : Nat} (hD : 1 ≤ D) : mCall X D 8 [.ref a0] σ P = mW (mCall X (D - 1)) X (σ.2.2.2.length + (mAl 8).1, mSum σ.2.2.2 + (mAl 8).2) 8 P 0 [.ref a0] [] σ := by
  obtain ⟨d, rfl⟩ : ∃ d, D = d + 1 := ⟨D - 1, by omega⟩
  exact propext ⟨fun h => h.2, fun h => ⟨Nat.le_of_ble_eq_true rfl, h⟩⟩
theorem e_9 {X : mX} {D : Nat} {P : mPost} {σ : mS} {a0 : Nat} (hD : 1 ≤ D) : mCall X D 9 [.ref a0] σ P = mW (mCall X (D - 1)) X (σ.2.2.2.length + (mAl 9).1, mSum σ.2.2.2 + (mAl 9).2) 9 P 0 [.ref a0] [] σ := by
  obtain ⟨d, rfl⟩ : ∃ d, D = d + 1 := ⟨D - 1, by omega⟩
  exact propext ⟨fun h => h.2, fun h => ⟨Nat.le_of_ble_eq_true rfl, h⟩⟩
theorem e_10 {X : mX} {D : Nat} {P : mPost} {σ : mS} {a0 : Nat} (hD : 1 ≤ D) : mCall X D 10 [.ref a0] σ P = mW (mCall X (D - 1)) X (σ.2.2.2.length + (mAl 10).1, mSum σ.2.2.2 + (mAl 10).2) 10 P 0 [.ref a0] [] σ := by
  obtain ⟨d, rfl⟩ : ∃ d, D = d + 1 := ⟨D - 1, by omega⟩
  exact propext ⟨fun h => h.2, fun h => ⟨Nat.le_of_ble_eq_true rfl, h⟩⟩
theorem e_11 {X : mX} {D : Nat} {P : mPost} {σ : mS} {a0 : Nat} (hD : 1 ≤ D) : mCall X D 11 [.ref a0] σ P = mW (mCall X (D - 1)) X (σ.2.2.2.length + (mAl 11).1, mSum σ.2.2.2 + (mAl 11).2) 11 P 0 [.ref a0] [] σ := by
  obtain ⟨d, rfl⟩ : ∃ d, D = d + 1 := ⟨D - 1, by omega⟩
  exact propext ⟨fun h => h.2, fun h => ⟨Nat.le_of_ble_eq_true rfl, h⟩⟩
theorem e_12 {X : mX} {D : Nat} {P : mPost} {σ : mS} {a0 : Nat} (hD : 1 ≤ D) : mCall X D 12 [.ref a0] σ P = mW (mCall X (D - 1)) X (σ.2.2.2.length + (mAl 12).1, mSum σ.2.2.2 + (mAl 12).2) 12 P 0 [.ref a0] [] σ := by
  obtain ⟨d, rfl⟩ : ∃ d, D = d + 1 := ⟨D - 1, by omega⟩
  exact propext ⟨fun h => h.2, fun h => ⟨Nat.le_of_ble_eq_true rfl, h⟩⟩
theorem e_13 {X : mX} {D : Nat} {P : mPost} {σ : mS} {a0 : Nat} {a1 : Int32} {a2 : Int32} (hD : 1 ≤ D) : mCall X D 13 [.ref a0, .int a1, .int a2] σ P = mW (mCall X (D - 1)) X (σ.2.2.2.length + (mAl 13).1, mSum σ.2.2.2 + (mAl 13).2) 13 P 0 [.ref a0, .int a1, .int a2, .null, .null] [] σ := by
  obtain ⟨d, rfl⟩ : ∃ d, D = d + 1 := ⟨D - 1, by omega⟩
  exact propext ⟨fun h => h.2, fun h => ⟨Nat.le_of_ble_eq_true rfl, h⟩⟩
theorem e_14 {X : mX} {D : Nat} {P : mPost} {σ : mS} {a0 : Nat} {a1 : Int32} {a2 : Int32} (hD : 1 ≤ D) : mCall X D 14 [.ref a0, .int a1, .int a2] σ P = mW (mCall X (D - 1)) X (σ.2.2.2.length + (mAl 14).1, mSum σ.2.2.2 + (mAl 14).2) 14 P 0 [.ref a0, .int a1, .int a2] [] σ := by
  obtain ⟨d, rfl⟩ : ∃ d, D = d + 1 := ⟨D - 1, by omega⟩
  exact propext ⟨fun h => h.2, fun h => ⟨Nat.le_of_ble_eq_true rfl, h⟩⟩
theorem e_15 {X : mX} {D : Nat} {P : mPost} {σ : mS} {a0 : Nat} {a1 : Int32} (hD : 1 ≤ D) : mCall X D 15 [.ref a0, .int a1] σ P = mW (mCall X (D - 1)) X (σ.2.2.2.length + (mAl 15).1, mSum σ.2.2.2 + (mAl 15).2) 15 P 0 [.ref a0, .int a1] [] σ := by
  obtain ⟨d, rfl⟩ : ∃ d, D = d + 1 := ⟨D - 1, by omega⟩
  exact propext ⟨fun h => h.2, fun h => ⟨Nat.le_of_ble_eq_true rfl, h⟩⟩
theorem e_16 {X : mX} {D : Nat} {P : mPost} {σ : mS} {a0 : Nat} {a1 : Int32} {a2 : Int32} {a3 : Int32} {a4 : Int32} (hD : 1 ≤ D) : mCall X D 16 [.ref a0, .int a1, .int a2, .int a3, .int a4] σ P = mW (mCall X (D - 1)) X (σ.2.2.2.length + (mAl 16).1, mSum σ.2.2.2 + (mAl 16).2) 16 P 0 [.ref a0, .int a1, .int a2, .int a3, .int a4, .null] [] σ := by
  obtain ⟨d, rfl⟩ : ∃ d, D = d + 1 := ⟨D - 1, by omega⟩
  exact propext ⟨fun h => h.2, fun h => ⟨Nat.le_of_ble_eq_true rfl, h⟩⟩
theorem e_17 {X : mX} {D : Nat} {P : mPost} {σ : mS} {a0 : Nat} {a1 : Int32} {a2 : Int32} {a3 : Int32} {a4 : Int32} (hD : 1 ≤ D) : mCall X D 17 [.ref a0, .int a1, .int a2, .int a3, .int a4] σ P = mW (mCall X (D - 1)) X (σ.2.2.2.length + (mAl 17).1, mSum σ.2.2.2 + (mAl 17).2) 17 P 0 [.ref a0, .int a1, .int a2, .int a3, .int a4] [] σ := by
  obtain ⟨d, rfl⟩ : ∃ d, D = d + 1 := ⟨D - 1, by omega⟩
  exact propext ⟨fun h => h.2, fun h => ⟨Nat.le_of_ble_eq_true rfl, h⟩⟩
theorem e_18 {X : mX} {D : Nat} {P : mPost} {σ : mS} {a0 : Nat} {a1 : Int32} {a2 : Int32} (hD : 1 ≤ D) : mCall X D 18 [.ref a0, .int a1, .int a2] σ P = mW (mCall X (D - 1)) X (σ.2.2.2.length + (mAl 18).1, mSum σ.2.2.2 + (mAl 18).2) 18 P 0 [.ref a0, .int a1, .int a2] [] σ := by
  obtain ⟨d, rfl⟩ : ∃ d, D = d + 1 := ⟨D - 1, by omega⟩
  exact propext ⟨fun h => h.2, fun h => ⟨Nat.le_of_ble_eq_true rfl, h⟩⟩
theorem e_19 {X : mX} {D : Nat} {P : mPost} {σ : mS} {a0 : Nat} {a1 : Nat} {a2 : Int32} {a3 : Int32} (hD : 1 ≤ D) : mCall X D 19 [.ref a0, .ref a1, .int a2, .int a3] σ P = mW (mCall X (D - 1)) X (σ.2.2.2.length + (mAl 19).1, mSum σ.2.2.2 + (mAl 19).2) 19 P 0 [.ref a0, .ref a1, .int a2, .int a3, .null, .null] [] σ := by
  obtain ⟨d, rfl⟩ : ∃ d, D = d + 1 := ⟨D - 1, by omega⟩
  exact propext ⟨fun h => h.2, fun h => ⟨Nat.le_of_ble_eq_true rfl, h⟩⟩
theorem e_20 {X : mX} {D : Nat} {P : mPost} {σ : mS} {a0 : Nat} {a1 : Int32} {a2 : Int32} (hD : 1 ≤ D) : mCall X D 20 [.ref a0, .int a1, .int a2] σ P = mW (mCall X (D - 1)) X (σ.2.2.2.length + (mAl 20).1, mSum σ.2.2.2 + (mAl 20).2) 20 P 0 [.ref a0, .int a1, .int a2, .null, .null, .null] [] σ := by
  obtain ⟨d, rfl⟩ : ∃ d, D = d + 1 := ⟨D - 1, by omega⟩
  exact propext ⟨fun h => h.2, fun h => ⟨Nat.le_of_ble_eq_true rfl, h⟩⟩
theorem e_21 {X : mX} {D : Nat} {P : mPost} {σ : mS} {a0 : Nat} {a1 : Int32} {a2 : Int32} (hD : 1 ≤ D) : mCall X D 21 [.ref a0, .int a1, .int a2] σ P = mW (mCall X (D - 1)) X (σ.2.2.2.length + (mAl 21).1, mSum σ.2.2.2 + (mAl 21).2) 21 P 0 [.ref a0, .int a1, .int a2, .null, .null] [] σ := by
  obtain ⟨d, rfl⟩ : ∃ d, D = d + 1 := ⟨D - 1, by omega⟩
  exact propext ⟨fun h => h.2, fun h => ⟨Nat.le_of_ble_eq_true rfl, h⟩⟩
theorem e_22 {X : mX} {D : Nat} {P : mPost} {σ : mS} {a0 : Nat} {a1 : Nat} (hD : 1 ≤ D) : mCall X D 22 [.ref a0, .ref a1] σ P = mW (mCall X (D - 1)) X (σ.2.2.2.length + (mAl 22).1, mSum σ.2.2.2 + (mAl 22).2) 22 P 0 [.ref a0, .ref a1, .null, .null] [] σ := by
  obtain ⟨d, rfl⟩ : ∃ d, D = d + 1 := ⟨D - 1, by omega⟩
  exact propext ⟨fun h => h.2, fun h => ⟨Nat.le_of_ble_eq_true rfl, h⟩⟩
theorem e_23 {X : mX} {D : Nat} {P : mPost} {σ : mS} {a0 : Nat} {a1 : Nat} {a2 : Nat} {a3 : Nat} (hD : 1 ≤ D) : mCall X D 23 [.ref a0, .ref a1, .ref a2, .ref a3] σ P = mW (mCall X (D - 1)) X (σ.2.2.2.length + (mAl 23).1, mSum σ.2.2.2 + (mAl 23).2) 23 P 0 [.ref a0, .ref a1, .ref a2, .ref a3, .null, .null] [] σ := by
  obtain ⟨d, rfl⟩ : ∃ d, D = d + 1 := ⟨D - 1, by omega⟩
  exact propext ⟨fun h => h.2, fun h => ⟨Nat.le_of_ble_eq_true rfl, h⟩⟩
theorem e_24 {X : mX} {D : Nat} {P : mPost} {σ : mS} {a0 : Nat} {a1 : Nat} {a2 : Nat} {a3 : Int32} (hD : 1 ≤ D) : mCall X D 24 [.ref a0, .ref a1, .ref a2, .int a3] σ P = mW (mCall X (D - 1)) X (σ.2.2.2.length + (mAl 24).1, mSum σ.2.2.2 + (mAl 24).2) 24 P 0 [.ref a0, .ref a1, .ref a2, .int a3, .null] [] σ := by
  obtain ⟨d, rfl⟩ : ∃ d, D = d + 1 := ⟨D - 1, by omega⟩
  exact propext ⟨fun h => h.2, fun h => ⟨Nat.le_of_ble_eq_true rfl, h⟩⟩
theorem e_25 {X : mX} {D : Nat} {P : mPost} {σ : mS} {a0 : Nat} {a1 : Nat} {a2 : Nat} {a3 : Int32} {a4 : Nat} (hD : 1 ≤ D) : mCall X D 25 [.ref a0, .ref a1, .ref a2, .int a3, .ref a4] σ P = mW (mCall X (D - 1)) X (σ.2.2.2.length + (mAl 25).1, mSum σ.2.2.2 + (mAl 25).2) 25 P 0 [.ref a0, .ref a1, .ref a2, .int a3, .ref a4, .null, .null, .null, .null] [] σ := by
  obtain ⟨d, rfl⟩ : ∃ d, D = d + 1 := ⟨D - 1, by omega⟩
  exact propext ⟨fun h => h.2, fun h => ⟨Nat.le_of_ble_eq_true rfl, h⟩⟩
theorem e_26 {X : mX} {D : Nat} {P : mPost} {σ : mS} {a0 : Nat} {a1 : Nat} {a2 : Int32} {a3 : Int32} (hD : 1 ≤ D) : mCall X D 26 [.ref a0, .ref a1, .int a2, .int a3] σ P = mW (mCall X (D - 1)) X (σ.2.2.2.length + (mAl 26).1, mSum σ.2.2.2 + (mAl 26).2) 26 P 0 [.ref a0, .ref a1, .int a2, .int a3, .null, .null, .null, .null, .null, .null, .null] [] σ := by
  obtain ⟨d, rfl⟩ : ∃ d, D = d + 1 := ⟨D - 1, by omega⟩
  exact propext ⟨fun h => h.2, fun h => ⟨Nat.le_of_ble_eq_true rfl, h⟩⟩
theorem e_27 {X : mX} {D : Nat} {P : mPost} {σ : mS} {a0 : Int32} {a1 : Int32} (hD : 1 ≤ D) : mCall X D 27 [.int a0, .int a1] σ P = mW (mCall X (D - 1)) X (σ.2.2.2.length + (mAl 27).1, mSum σ.2.2.2 + (mAl 27).2) 27 P 0 [.int a0, .int a1, .null, .null] [] σ := by
  obtain ⟨d, rfl⟩ : ∃ d, D = d + 1 := ⟨D - 1, by omega⟩
  exact propext ⟨fun h => h.2, fun h => ⟨Nat.le_of_ble_eq_true rfl, h⟩⟩
theorem e_28 {X : mX} {D : Nat} {P : mPost} {σ : mS} {a0 : Int32} {a1 : Int32} {a2 : Int32} (hD : 1 ≤ D) : mCall X D 28 [.int a0, .int a1, .int a2] σ P = mW (mCall X (D - 1)) X (σ.2.2.2.length + (mAl 28).1, mSum σ.2.2.2 + (mAl 28).2) 28 P 0 [.int a0, .int a1, .int a2, .null, .null, .null, .null] [] σ := by
  obtain ⟨d, rfl⟩ : ∃ d, D = d + 1 := ⟨D - 1, by omega⟩
  exact propext ⟨fun h => h.2, fun h => ⟨Nat.le_of_ble_eq_true rfl, h⟩⟩
theorem e_29 {X : mX} {D : Nat} {P : mPost} {σ : mS} {a0 : Int32} (hD : 1 ≤ D) : mCall X D 29 [.int a0] σ P = mW (mCall X (D - 1)) X (σ.2.2.2.length + (mAl 29).1, mSum σ.2.2.2 + (mAl 29).2) 29 P 0 [.int a0, .null] [] σ := by
  obtain ⟨d, rfl⟩ : ∃ d, D = d + 1 := ⟨D - 1, by omega⟩
  exact propext ⟨fun h => h.2, fun h => ⟨Nat.le_of_ble_eq_true rfl, h⟩⟩
theorem e_30 {X : mX} {D : Nat} {P : mPost} {σ : mS} {a0 : Nat} {a1 : Int32} {a2 : Int32} {a3 : Nat} {a4 : Int32} (hD : 1 ≤ D) : mCall X D 30 [.ref a0, .int a1, .int a2, .ref a3, .int a4] σ P = mW (mCall X (D - 1)) X (σ.2.2.2.length + (mAl 30).1, mSum σ.2.2.2 + (mAl 30).2) 30 P 0 [.ref a0, .int a1, .int a2, .ref a3, .int a4, .null] [] σ := by
  obtain ⟨d, rfl⟩ : ∃ d, D = d + 1 := ⟨D - 1, by omega⟩
  exact propext ⟨fun h => h.2, fun h => ⟨Nat.le_of_ble_eq_true rfl, h⟩⟩
theorem e_31 {X : mX} {D : Nat} {P : mPost} {σ : mS} {a0 : Int32} {a1 : Int32} (hD : 1 ≤ D) : mCall X D 31 [.int a0, .int a1] σ P = mW (mCall X (D - 1)) X (σ.2.2.2.length + (mAl 31).1, mSum σ.2.2.2 + (mAl 31).2) 31 P 0 [.int a0, .int a1] [] σ := by
  obtain ⟨d, rfl⟩ : ∃ d, D = d + 1 := ⟨D - 1, by omega⟩
  exact propext ⟨fun h => h.2, fun h => ⟨Nat.le_of_ble_eq_true rfl, h⟩⟩
theorem e_32 {X : mX} {D : Nat} {P : mPost} {σ : mS} {a0 : Nat} {a1 : Nat} {a2 : Int32} (hD : 1 ≤ D) : mCall X D 32 [.ref a0, .ref a1, .int a2] σ P = mW (mCall X (D - 1)) X (σ.2.2.2.length + (mAl 32).1, mSum σ.2.2.2 + (mAl 32).2) 32 P 0 [.ref a0, .ref a1, .int a2, .null, .null] [] σ := by
  obtain ⟨d, rfl⟩ : ∃ d, D = d + 1 := ⟨D - 1, by omega⟩
  exact propext ⟨fun h => h.2, fun h => ⟨Nat.le_of_ble_eq_true rfl, h⟩⟩
theorem e_33 {X : mX} {D : Nat} {P : mPost} {σ : mS} {a0 : Int32} (hD : 1 ≤ D) : mCall X D 33 [.int a0] σ P = mW (mCall X (D - 1)) X (σ.2.2.2.length + (mAl 33).1, mSum σ.2.2.2 + (mAl 33).2) 33 P 0 [.int a0] [] σ := by
  obtain ⟨d, rfl⟩ : ∃ d, D = d + 1 := ⟨D - 1, by omega⟩
  exact propext ⟨fun h => h.2, fun h => ⟨Nat.le_of_ble_eq_true rfl, h⟩⟩
theorem e_34 {X : mX} {D : Nat} {P : mPost} {σ : mS} {a0 : Nat} (hD : 1 ≤ D) : mCall X D 34 [.ref a0] σ P = mW (mCall X (D - 1)) X (σ.2.2.2.length + (mAl 34).1, mSum σ.2.2.2 + (mAl 34).2) 34 P 0 [.ref a0] [] σ := by
  obtain ⟨d, rfl⟩ : ∃ d, D = d + 1 := ⟨D - 1, by omega⟩
  exact propext ⟨fun h => h.2, fun h => ⟨Nat.le_of_ble_eq_true rfl, h⟩⟩
theorem e_35 {X : mX} {D : Nat} {P : mPost} {σ : mS} {a0 : Nat} {a1 : Nat} (hD : 1 ≤ D) : mCall X D 35 [.ref a0, .ref a1] σ P = mW (mCall X (D - 1)) X (σ.2.2.2.length + (mAl 35).1, mSum σ.2.2.2 + (mAl 35).2) 35 P 0 [.ref a0, .ref a1, .null] [] σ := by
  obtain ⟨d, rfl⟩ : ∃ d, D = d + 1 := ⟨D - 1, by omega⟩
  exact propext ⟨fun h => h.2, fun h => ⟨Nat.le_of_ble_eq_true rfl, h⟩⟩
theorem e_36 {X : mX} {D : Nat} {P : mPost} {σ : mS} {a0 : Nat} {a1 : Nat} (hD : 1 ≤ D) : mCall X D 36 [.ref a0, .ref a1] σ P = mW (mCall X (D - 1)) X (σ.2.2.2.length + (mAl 36).1, mSum σ.2.2.2 + (mAl 36).2) 36 P 0 [.ref a0, .ref a1, .null] [] σ := by
  obtain ⟨d, rfl⟩ : ∃ d, D = d + 1 := ⟨D - 1, by omega⟩
  exact propext ⟨fun h => h.2, fun h => ⟨Nat.le_of_ble_eq_true rfl, h⟩⟩
theorem e_37 {X : mX} {D : Nat} {P : mPost} {σ : mS} {a0 : Nat} {a1 : Int32} {a2 : Int32} (hD : 1 ≤ D) : mCall X D 37 [.ref a0, .int a1, .int a2] σ P = mW (mCall X (D - 1)) X (σ.2.2.2.length + (mAl 37).1, mSum σ.2.2.2 + (mAl 37).2) 37 P 0 [.ref a0, .int a1, .int a2] [] σ := by
  obtain ⟨d, rfl⟩ : ∃ d, D = d + 1 := ⟨D - 1, by omega⟩
  exact propext ⟨fun h => h.2, fun h => ⟨Nat.le_of_ble_eq_true rfl, h⟩⟩
theorem e_38 {X : mX} {D : Nat} {P : mPost} {σ : mS} {a0 : Nat} {a1 : Nat} {a2 : Nat} {a3 : Nat} (hD : 1 ≤ D) : mCall X D 38 [.ref a0, .ref a1, .ref a2, .ref a3] σ P = mW (mCall X (D - 1)) X (σ.2.2.2.length + (mAl 38).1, mSum σ.2.2.2 + (mAl 38).2) 38 P 0 [.ref a0, .ref a1, .ref a2, .ref a3, .null, .null] [] σ := by
  obtain ⟨d, rfl⟩ : ∃ d, D = d + 1 := ⟨D - 1, by omega⟩
  exact propext ⟨fun h => h.2, fun h => ⟨Nat.le_of_ble_eq_true rfl, h⟩⟩
theorem e_39 {X : mX} {D : Nat} {P : mPost} {σ : mS} {a0 : Nat} {a1 : Int32} (hD : 1 ≤ D) : mCall X D 39 [.ref a0, .int a1] σ P = mW (mCall X (D - 1)) X (σ.2.2.2.length + (mAl 39).1, mSum σ.2.2.2 + (mAl 39).2) 39 P 0 [.ref a0, .int a1] [] σ := by
  obtain ⟨d, rfl⟩ : ∃ d, D = d + 1 := ⟨D - 1, by omega⟩
  exact propext ⟨fun h => h.2, fun h => ⟨Nat.le_of_ble_eq_true rfl, h⟩⟩
theorem e_40 {X : mX} {D : Nat} {P : mPost} {σ : mS} {a0 : Nat} {a1 : Int32} (hD : 1 ≤ D) : mCall X D 40 [.ref a0, .int a1] σ P = mW (mCall X (D - 1)) X (σ.2.2.2.length + (mAl 40).1, mSum σ.2.2.2 + (mAl 40).2) 40 P 0 [.ref a0, .int a1] [] σ := by
  obtain ⟨d, rfl⟩ : ∃ d, D = d + 1 := ⟨D - 1, by omega⟩
  exact propext ⟨fun h => h.2, fun h => ⟨Nat.le_of_ble_eq_true rfl, h⟩⟩
theorem e_41 {X : mX} {D : Nat} {P : mPost} {σ : mS} {a0 : Nat} {a1 : Nat} {a2 : Nat} (hD : 1 ≤ D) : mCall X D 41 [.ref a0, .ref a1, .ref a2] σ P = mW (mCall X (D - 1)) X (σ.2.2.2.length + (mAl 41).1, mSum σ.2.2.2 + (mAl 41).2) 41 P 0 [.ref a0, .ref a1, .ref a2, .null] [] σ := by
  obtain ⟨d, rfl⟩ : ∃ d, D = d + 1 := ⟨D - 1, by omega⟩
  exact propext ⟨fun h => h.2, fun h => ⟨Nat.le_of_ble_eq_true rfl, h⟩⟩
theorem e_42 {X : mX} {D : Nat} {P : mPost} {σ : mS} {a0 : Nat} {a1 : Nat} {a2 : Nat} {a3 : Int32} {a4 : Int32} (hD : 1 ≤ D) : mCall X D 42 [.ref a0, .ref a1, .ref a2, .int a3, .int a4] σ P = mW (mCall X (D - 1)) X (σ.2.2.2.length + (mAl 42).1, mSum σ.2.2.2 + (mAl 42).2) 42 P 0 [.ref a0, .ref a1, .ref a2, .int a3, .int a4, .null, .null, .null] [] σ := by
  obtain ⟨d, rfl⟩ : ∃ d, D = d + 1 := ⟨D - 1, by omega⟩
  exact propext ⟨fun h => h.2, fun h => ⟨Nat.le_of_ble_eq_true rfl, h⟩⟩
theorem e_43 {X : mX} {D : Nat} {P : mPost} {σ : mS} {a0 : Nat} {a1 : Int32} {a2 : Int32} (hD : 1 ≤ D) : mCall X D 43 [.ref a0, .int a1, .int a2] σ P = mW (mCall X (D - 1)) X (σ.2.2.2.length + (mAl 43).1, mSum σ.2.2.2 + (mAl 43).2) 43 P 0 [.ref a0, .int a1, .int a2] [] σ := by
  obtain ⟨d, rfl⟩ : ∃ d, D = d + 1 := ⟨D - 1, by omega⟩
  exact propext ⟨fun h => h.2, fun h => ⟨Nat.le_of_ble_eq_true rfl, h⟩⟩
theorem e_44 {X : mX} {D : Nat} {P : mPost} {σ : mS} {a0 : Nat} {a1 : Int32} (hD : 1 ≤ D) : mCall X D 44 [.ref a0, .int a1] σ P = mW (mCall X (D - 1)) X (σ.2.2.2.length + (mAl 44).1, mSum σ.2.2.2 + (mAl 44).2) 44 P 0 [.ref a0, .int a1] [] σ := by
  obtain ⟨d, rfl⟩ : ∃ d, D = d + 1 := ⟨D - 1, by omega⟩
  exact propext ⟨fun h => h.2, fun h => ⟨Nat.le_of_ble_eq_true rfl, h⟩⟩
theorem e_45 {X : mX} {D : Nat} {P : mPost} {σ : mS} {a0 : Nat} {a1 : Int32} (hD : 1 ≤ D) : mCall X D 45 [.ref a0, .int a1] σ P = mW (mCall X (D - 1)) X (σ.2.2.2.length + (mAl 45).1, mSum σ.2.2.2 + (mAl 45).2) 45 P 0 [.ref a0, .int a1, .null, .null] [] σ := by
  obtain ⟨d, rfl⟩ : ∃ d, D = d + 1 := ⟨D - 1, by omega⟩
  exact propext ⟨fun h => h.2, fun h => ⟨Nat.le_of_ble_eq_true rfl, h⟩⟩
theorem e_46 {X : mX} {D : Nat} {P : mPost} {σ : mS} {a0 : Nat} {a1 : Int32} (hD : 1 ≤ D) : mCall X D 46 [.ref a0, .int a1] σ P = mW (mCall X (D - 1)) X (σ.2.2.2.length + (mAl 46).1, mSum σ.2.2.2 + (mAl 46).2) 46 P 0 [.ref a0, .int a1, .null, .null, .null] [] σ := by
  obtain ⟨d, rfl⟩ : ∃ d, D = d + 1 := ⟨D - 1, by omega⟩
  exact propext ⟨fun h => h.2, fun h => ⟨Nat.le_of_ble_eq_true rfl, h⟩⟩
theorem e_47 {X : mX} {D : Nat} {P : mPost} {σ : mS} {a0 : Nat} {a1 : Int32} {a2 : Int32} (hD : 1 ≤ D) : mCall X D 47 [.ref a0, .int a1, .int a2] σ P = mW (mCall X (D - 1)) X (σ.2.2.2.length + (mAl 47).1, mSum σ.2.2.2 + (mAl 47).2) 47 P 0 [.ref a0, .int a1, .int a2, .null, .null] [] σ := by
  obtain ⟨d, rfl⟩ : ∃ d, D = d + 1 := ⟨D - 1, by omega⟩
  exact propext ⟨fun h => h.2, fun h => ⟨Nat.le_of_ble_eq_true rfl, h⟩⟩
theorem e_48 {X : mX} {D : Nat} {P : mPost} {σ : mS} {a0 : Nat} {a1 : Int32} {a2 : Int32} (hD : 1 ≤ D) : mCall X D 48 [.ref a0, .int a1, .int a2] σ P = mW (mCall X (D - 1)) X (σ.2.2.2.length + (mAl 48).1, mSum σ.2.2.2 + (mAl 48).2) 48 P 0 [.ref a0, .int a1, .int a2] [] σ := by
  obtain ⟨d, rfl⟩ : ∃ d, D = d + 1 := ⟨D - 1, by omega⟩
  exact propext ⟨fun h => h.2, fun h => ⟨Nat.le_of_ble_eq_true rfl, h⟩⟩
theorem e_49 {X : mX} {D : Nat} {P : mPost} {σ : mS} {a0 : Nat} {a1 : Int32} (hD : 1 ≤ D) : mCall X D 49 [.ref a0, .int a1] σ P = mW (mCall X (D - 1)) X (σ.2.2.2.length + (mAl 49).1, mSum σ.2.2.2 + (mAl 49).2) 49 P 0 [.ref a0, .int a1] [] σ := by
  obtain ⟨d, rfl⟩ : ∃ d, D = d + 1 := ⟨D - 1, by omega⟩
  exact propext ⟨fun h => h.2, fun h => ⟨Nat.le_of_ble_eq_true rfl, h⟩⟩
theorem e_50 {X : mX} {D : Nat} {P : mPost} {σ : mS} {a0 : Nat} {a1 : Int32} {a2 : Int32} {a3 : Int32} {a4 : Int32} {a5 : Int32} (hD : 1 ≤ D) : mCall X D 50 [.ref a0, .int a1, .int a2, .int a3, .int a4, .int a5] σ P = mW (mCall X (D - 1)) X (σ.2.2.2.length + (mAl 50).1, mSum σ.2.2.2 + (mAl 50).2) 50 P 0 [.ref a0, .int a1, .int a2, .int a3, .int a4, .int a5] [] σ := by
  obtain ⟨d, rfl⟩ : ∃ d, D = d + 1 := ⟨D - 1, by omega⟩
  exact propext ⟨fun h => h.2, fun h => ⟨Nat.le_of_ble_eq_true rfl, h⟩⟩
theorem e_51 {X : mX} {D : Nat} {P : mPost} {σ : mS} {a0 : Nat} (hD : 1 ≤ D) : mCall X D 51 [.ref a0] σ P = mW (mCall X (D - 1)) X (σ.2.2.2.length + (mAl 51).1, mSum σ.2.2.2 + (mAl 51).2) 51 P 0 [.ref a0] [] σ := by
  obtain ⟨d, rfl⟩ : ∃ d, D = d + 1 := ⟨D - 1, by omega⟩
  exact propext ⟨fun h => h.2, fun h => ⟨Nat.le_of_ble_eq_true rfl, h⟩⟩
theorem e_52 {X : mX} {D : Nat} {P : mPost} {σ : mS} {a0 : Nat} {a1 : Int32} (hD : 1 ≤ D) : mCall X D 52 [.ref a0, .int a1] σ P = mW (mCall X (D - 1)) X (σ.2.2.2.length + (mAl 52).1, mSum σ.2.2.2 + (mAl 52).2) 52 P 0 [.ref a0, .int a1, .null] [] σ := by
  obtain ⟨d, rfl⟩ : ∃ d, D = d + 1 := ⟨D - 1, by omega⟩
  exact propext ⟨fun h => h.2, fun h => ⟨Nat.le_of_ble_eq_true rfl, h⟩⟩
theorem e_53 {X : mX} {D : Nat} {P : mPost} {σ : mS} {a0 : Nat} {a1 : Int32} (hD : 1 ≤ D) : mCall X D 53 [.ref a0, .int a1] σ P = mW (mCall X (D - 1)) X (σ.2.2.2.length + (mAl 53).1, mSum σ.2.2.2 + (mAl 53).2) 53 P 0 [.ref a0, .int a1] [] σ := by
  obtain ⟨d, rfl⟩ : ∃ d, D = d + 1 := ⟨D - 1, by omega⟩
  exact propext ⟨fun h => h.2, fun h => ⟨Nat.le_of_ble_eq_true rfl, h⟩⟩
theorem e_54 {X : mX} {D : Nat} {P : mPost} {σ : mS} {a0 : Nat} (hD : 1 ≤ D) : mCall X D 54 [.ref a0] σ P = mW (mCall X (D - 1)) X (σ.2.2.2.length + (mAl 54).1, mSum σ.2.2.2 + (mAl 54).2) 54 P 0 [.ref a0, .null] [] σ := by
  obtain ⟨d, rfl⟩ : ∃ d, D = d + 1 := ⟨D - 1, by omega⟩
  exact propext ⟨fun h => h.2, fun h => ⟨Nat.le_of_ble_eq_true rfl, h⟩⟩
theorem e_55 {X : mX} {D : Nat} {P : mPost} {σ : mS} {a0 : Nat} {a1 : Nat} (hD : 1 ≤ D) : mCall X D 55 [.ref a0, .ref a1] σ P = mW (mCall X (D - 1)) X (σ.2.2.2.length + (mAl 55).1, mSum σ.2.2.2 + (mAl 55).2) 55 P 0 [.ref a0, .ref a1, .null, .null] [] σ := by
  obtain ⟨d, rfl⟩ : ∃ d, D = d + 1 := ⟨D - 1, by omega⟩
  exact propext ⟨fun h => h.2, fun h => ⟨Nat.le_of_ble_eq_true rfl, h⟩⟩
theorem e_56 {X : mX} {D : Nat} {P : mPost} {σ : mS} {a0 : Nat} {a1 : Nat} (hD : 1 ≤ D) : mCall X D 56 [.ref a0, .ref a1] σ P = mW (mCall X (D - 1)) X (σ.2.2.2.length + (mAl 56).1, mSum σ.2.2.2 + (mAl 56).2) 56 P 0 [.ref a0, .ref a1, .null, .null] [] σ := by
  obtain ⟨d, rfl⟩ : ∃ d, D = d + 1 := ⟨D - 1, by omega⟩
  exact propext ⟨fun h => h.2, fun h => ⟨Nat.le_of_ble_eq_true rfl, h⟩⟩
theorem e_57 {X : mX} {D : Nat} {P : mPost} {σ : mS} {a0 : Int32} (hD : 1 ≤ D) : mCall X D 57 [.int a0] σ P = mW (mCall X (D - 1)) X (σ.2.2.2.length + (mAl 57).1, mSum σ.2.2.2 + (mAl 57).2) 57 P 0 [.int a0] [] σ := by
  obtain ⟨d, rfl⟩ : ∃ d, D = d + 1 := ⟨D - 1, by omega⟩
  exact propext ⟨fun h => h.2, fun h => ⟨Nat.le_of_ble_eq_true rfl, h⟩⟩
theorem e_58 {X : mX} {D : Nat} {P : mPost} {σ : mS} {a0 : Nat} {a1 : Nat} {a2 : Int32} (hD : 1 ≤ D) : mCall X D 58 [.ref a0, .ref a1, .int a2] σ P = mW (mCall X (D - 1)) X (σ.2.2.2.length + (mAl 58).1, mSum σ.2.2.2 + (mAl 58).2) 58 P 0 [.ref a0, .ref a1, .int a2, .null, .null, .null] [] σ := by
  obtain ⟨d, rfl⟩ : ∃ d, D = d + 1 := ⟨D - 1, by omega⟩
  exact propext ⟨fun h => h.2, fun h => ⟨Nat.le_of_ble_eq_true rfl, h⟩⟩
theorem e_59 {X : mX} {D : Nat} {P : mPost} {σ : mS} {a0 : Int32} (hD : 1 ≤ D) : mCall X D 59 [.int a0] σ P = mW (mCall X (D - 1)) X (σ.2.2.2.length + (mAl 59).1, mSum σ.2.2.2 + (mAl 59).2) 59 P 0 [.int a0] [] σ := by
  obtain ⟨d, rfl⟩ : ∃ d, D = d + 1 := ⟨D - 1, by omega⟩
  exact propext ⟨fun h => h.2, fun h => ⟨Nat.le_of_ble_eq_true rfl, h⟩⟩
theorem e_60 {X : mX} {D : Nat} {P : mPost} {σ : mS} {a0 : Nat} {a1 : Int32} {a2 : Int32} (hD : 1 ≤ D) : mCall X D 60 [.ref a0, .int a1, .int a2] σ P = mW (mCall X (D - 1)) X (σ.2.2.2.length + (mAl 60).1, mSum σ.2.2.2 + (mAl 60).2) 60 P 0 [.ref a0, .int a1, .int a2] [] σ := by
  obtain ⟨d, rfl⟩ : ∃ d, D = d + 1 := ⟨D - 1, by omega⟩
  exact propext ⟨fun h => h.2, fun h => ⟨Nat.le_of_ble_eq_true rfl, h⟩⟩
theorem e_61 {X : mX} {D : Nat} {P : mPost} {σ : mS} {a0 : Nat} {a1 : Int32} {a2 : Int32} {a3 : Nat} (hD : 1 ≤ D) : mCall X D 61 [.ref a0, .int a1, .int a2, .ref a3] σ P = mW (mCall X (D - 1)) X (σ.2.2.2.length + (mAl 61).1, mSum σ.2.2.2 + (mAl 61).2) 61 P 0 [.ref a0, .int a1, .int a2, .ref a3, .null] [] σ := by
  obtain ⟨d, rfl⟩ : ∃ d, D = d + 1 := ⟨D - 1, by omega⟩
  exact propext ⟨fun h => h.2, fun h => ⟨Nat.le_of_ble_eq_true rfl, h⟩⟩
theorem e_62 {X : mX} {D : Nat} {P : mPost} {σ : mS} {a0 : Nat} (hD : 1 ≤ D) : mCall X D 62 [.ref a0] σ P = mW (mCall X (D - 1)) X (σ.2.2.2.length + (mAl 62).1, mSum σ.2.2.2 + (mAl 62).2) 62 P 0 [.ref a0] [] σ := by
  obtain ⟨d, rfl⟩ : ∃ d, D = d + 1 := ⟨D - 1, by omega⟩
  exact propext ⟨fun h => h.2, fun h => ⟨Nat.le_of_ble_eq_true rfl, h⟩⟩
theorem e_63 {X : mX} {D : Nat} {P : mPost} {σ : mS} {a0 : Nat} (hD : 1 ≤ D) : mCall X D 63 [.ref a0] σ P = mW (mCall X (D - 1)) X (σ.2.2.2.length + (mAl 63).1, mSum σ.2.2.2 + (mAl 63).2) 63 P 0 [.ref a0] [] σ := by
  obtain ⟨d, rfl⟩ : ∃ d, D = d + 1 := ⟨D - 1, by omega⟩
  exact propext ⟨fun h => h.2, fun h => ⟨Nat.le_of_ble_eq_true rfl, h⟩⟩
theorem e_64 {X : mX} {D : Nat} {P : mPost} {σ : mS} {a0 : Nat} {a1 : Int32} (hD : 1 ≤ D) : mCall X D 64 [.ref a0, .int a1] σ P = mW (mCall X (D - 1)) X (σ.2.2.2.length + (mAl 64).1, mSum σ.2.2.2 + (mAl 64).2) 64 P 0 [.ref a0, .int a1] [] σ := by
  obtain ⟨d, rfl⟩ : ∃ d, D = d + 1 := ⟨D - 1, by omega⟩
  exact propext ⟨fun h => h.2, fun h => ⟨Nat.le_of_ble_eq_true rfl, h⟩⟩
theorem e_65 {X : mX} {D : Nat} {P : mPost} {σ : mS} {a0 : Nat} (hD : 1 ≤ D) : mCall X D 65 [.ref a0] σ P = mW (mCall X (D - 1)) X (σ.2.2.2.length + (mAl 65).1, mSum σ.2.2.2 + (mAl 65).2) 65 P 0 [.ref a0] [] σ := by
  obtain ⟨d, rfl⟩ : ∃ d, D = d + 1 := ⟨D - 1, by omega⟩
  exact propext ⟨fun h => h.2, fun h => ⟨Nat.le_of_ble_eq_true rfl, h⟩⟩
theorem e_66 {X : mX} {D : Nat} {P : mPost} {σ : mS} {a0 : Nat} {a1 : Int32} (hD : 1 ≤ D) : mCall X D 66 [.ref a0, .int a1] σ P = mW (mCall X (D - 1)) X (σ.2.2.2.length + (mAl 66).1, mSum σ.2.2.2 + (mAl 66).2) 66 P 0 [.ref a0, .int a1] [] σ := by
  obtain ⟨d, rfl⟩ : ∃ d, D = d + 1 := ⟨D - 1, by omega⟩
  exact propext ⟨fun h => h.2, fun h => ⟨Nat.le_of_ble_eq_true rfl, h⟩⟩
theorem e_67 {X : mX} {D : Nat} {P : mPost} {σ : mS} {a0 : Int32} {a1 : Int32} (hD : 1 ≤ D) : mCall X D 67 [.int a0, .int a1] σ P = mW (mCall X (D - 1)) X (σ.2.2.2.length + (mAl 67).1, mSum σ.2.2.2 + (mAl 67).2) 67 P 0 [.int a0, .int a1] [] σ := by
  obtain ⟨d, rfl⟩ : ∃ d, D = d + 1 := ⟨D - 1, by omega⟩
  exact propext ⟨fun h => h.2, fun h => ⟨Nat.le_of_ble_eq_true rfl, h⟩⟩
theorem e_68 {X : mX} {D : Nat} {P : mPost} {σ : mS} {a0 : Int32} {a1 : Int32} {a2 : Nat} (hD : 1 ≤ D) : mCall X D 68 [.int a0, .int a1, .ref a2] σ P = mW (mCall X (D - 1)) X (σ.2.2.2.length + (mAl 68).1, mSum σ.2.2.2 + (mAl 68).2) 68 P 0 [.int a0, .int a1, .ref a2] [] σ := by
  obtain ⟨d, rfl⟩ : ∃ d, D = d + 1 := ⟨D - 1, by omega⟩
  exact propext ⟨fun h => h.2, fun h => ⟨Nat.le_of_ble_eq_true rfl, h⟩⟩
theorem e_73 {X : mX} {D : Nat} {P : mPost} {σ : mS} {a0 : Nat} {a1 : Int32} {a2 : Int32} {a3 : Int32} (hD : 1 ≤ D) : mCall X D 73 [.ref a0, .int a1, .int a2, .int a3] σ P = mW (mCall X (D - 1)) X (σ.2.2.2.length + (mAl 73).1, mSum σ.2.2.2 + (mAl 73).2) 73 P 0 [.ref a0, .int a1, .int a2, .int a3] [] σ := by
  obtain ⟨d, rfl⟩ : ∃ d, D = d + 1 := ⟨D - 1, by omega⟩
  exact propext ⟨fun h => h.2, fun h => ⟨Nat.le_of_ble_eq_true rfl, h⟩⟩
theorem e_74 {X : mX} {D : Nat} {P : mPost} {σ : mS} {a0 : Int32} (hD : 1 ≤ D) : mCall X D 74 [.int a0] σ P = mW (mCall X (D - 1)) X (σ.2.2.2.length + (mAl 74).1, mSum σ.2.2.2 + (mAl 74).2) 74 P 0 [.int a0] [] σ := by
  obtain ⟨d, rfl⟩ : ∃ d, D = d + 1 := ⟨D - 1, by omega⟩
  exact propext ⟨fun h => h.2, fun h => ⟨Nat.le_of_ble_eq_true rfl, h⟩⟩
theorem e_75 {X : mX} {D : Nat} {P : mPost} {σ : mS} {a0 : Nat} {a1 : Int32} {a2 : Int32} (hD : 1 ≤ D) : mCall X D 75 [.ref a0, .int a1, .int a2] σ P = mW (mCall X (D - 1)) X (σ.2.2.2.length + (mAl 75).1, mSum σ.2.2.2 + (mAl 75).2) 75 P 0 [.ref a0, .int a1, .int a2, .null, .null] [] σ := by
  obtain ⟨d, rfl⟩ : ∃ d, D = d + 1 := ⟨D - 1, by omega⟩
  exact propext ⟨fun h => h.2, fun h => ⟨Nat.le_of_ble_eq_true rfl, h⟩⟩
theorem e_76 {X : mX} {D : Nat} {P : mPost} {σ : mS} {a0 : Int32} (hD : 1 ≤ D) : mCall X D 76 [.int a0] σ P = mW (mCall X (D - 1)) X (σ.2.2.2.length + (mAl 76).1, mSum σ.2.2.2 + (mAl 76).2) 76 P 0 [.int a0] [] σ := by
  obtain ⟨d, rfl⟩ : ∃ d, D = d + 1 := ⟨D - 1, by omega⟩
  exact propext ⟨fun h => h.2, fun h => ⟨Nat.le_of_ble_eq_true rfl, h⟩⟩
theorem e_77 {X : mX} {D : Nat} {P : mPost} {σ : mS} {a0 : Nat} (hD : 1 ≤ D) : mCall X D 77 [.ref a0] σ P = mW (mCall X (D - 1)) X (σ.2.2.2.length + (mAl 77).1, mSum σ.2.2.2 + (mAl 77).2) 77 P 0 [.ref a0] [] σ := by
  obtain ⟨d, rfl⟩ : ∃ d, D = d + 1 := ⟨D - 1, by omega⟩
  exact propext ⟨fun h => h.2, fun h => ⟨Nat.le_of_ble_eq_true rfl, h⟩⟩
theorem e_78 {X : mX} {D : Nat} {P : mPost} {σ : mS} {a0 : Nat} {a1 : Int32} (hD : 1 ≤ D) : mCall X D 78 [.ref a0, .int a1] σ P = mW (mCall X (D - 1)) X (σ.2.2.2.length + (mAl 78).1, mSum σ.2.2.2 + (mAl 78).2) 78 P 0 [.ref a0, .int a1, .null] [] σ := by
  obtain ⟨d, rfl⟩ : ∃ d, D = d + 1 := ⟨D - 1, by omega⟩
  exact propext ⟨fun h => h.2, fun h => ⟨Nat.le_of_ble_eq_true rfl, h⟩⟩
theorem e_79 {X : mX} {D : Nat} {P : mPost} {σ : mS} {a0 : Nat} {a1 : Int32} (hD : 1 ≤ D) : mCall X D 79 [.ref a0, .int a1] σ P = mW (mCall X (D - 1)) X (σ.2.2.2.length + (mAl 79).1, mSum σ.2.2.2 + (mAl 79).2) 79 P 0 [.ref a0, .int a1] [] σ := by
  obtain ⟨d, rfl⟩ : ∃ d, D = d + 1 := ⟨D - 1, by omega⟩
  exact propext ⟨fun h => h.2, fun h => ⟨Nat.le_of_ble_eq_true rfl, h⟩⟩
theorem e_80 {X : mX} {D : Nat} {P : mPost} {σ : mS} {a0 : Nat} (hD : 1 ≤ D) : mCall X D 80 [.ref a0] σ P = mW (mCall X (D - 1)) X (σ.2.2.2.length + (mAl 80).1, mSum σ.2.2.2 + (mAl 80).2) 80 P 0 [.ref a0] [] σ := by
  obtain ⟨d, rfl⟩ : ∃ d, D = d + 1 := ⟨D - 1, by omega⟩
  exact propext ⟨fun h => h.2, fun h => ⟨Nat.le_of_ble_eq_true rfl, h⟩⟩
theorem e_81 {X : mX} {D : Nat} {P : mPost} {σ : mS} {a0 : Nat} (hD : 1 ≤ D) : mCall X D 81 [.ref a0] σ P = mW (mCall X (D - 1)) X (σ.2.2.2.length + (mAl 81).1, mSum σ.2.2.2 + (mAl 81).2) 81 P 0 [.ref a0, .null, .null] [] σ := by
  obtain ⟨d, rfl⟩ : ∃ d, D = d + 1 := ⟨D - 1, by omega⟩
  exact propext ⟨fun h => h.2, fun h => ⟨Nat.le_of_ble_eq_true rfl, h⟩⟩
theorem e_82 {X : mX} {D : Nat} {P : mPost} {σ : mS} {a0 : Nat} (hD : 1 ≤ D) : mCall X D 82 [.ref a0] σ P = mW (mCall X (D - 1)) X (σ.2.2.2.length + (mAl 82).1, mSum σ.2.2.2 + (mAl 82).2) 82 P 0 [.ref a0] [] σ := by
  obtain ⟨d, rfl⟩ : ∃ d, D = d + 1 := ⟨D - 1, by omega⟩
  exact propext ⟨fun h => h.2, fun h => ⟨Nat.le_of_ble_eq_true rfl, h⟩⟩
theorem e_83 {X : mX} {D : Nat} {P : mPost} {σ : mS} {a0 : Nat} (hD : 1 ≤ D) : mCall X D 83 [.ref a0] σ P = mW (mCall X (D - 1)) X (σ.2.2.2.length + (mAl 83).1, mSum σ.2.2.2 + (mAl 83).2) 83 P 0 [.ref a0, .null, .null, .null, .null] [] σ := by
  obtain ⟨d, rfl⟩ : ∃ d, D = d + 1 := ⟨D - 1, by omega⟩
  exact propext ⟨fun h => h.2, fun h => ⟨Nat.le_of_ble_eq_true rfl, h⟩⟩
theorem e_84 {X : mX} {D : Nat} {P : mPost} {σ : mS} {a0 : Nat} (hD : 1 ≤ D) : mCall X D 84 [.ref a0] σ P = mW (mCall X (D - 1)) X (σ.2.2.2.length + (mAl 84).1, mSum σ.2.2.2 + (mAl 84).2) 84 P 0 [.ref a0] [] σ := by
  obtain ⟨d, rfl⟩ : ∃ d, D = d + 1 := ⟨D - 1, by omega⟩
  exact propext ⟨fun h => h.2, fun h => ⟨Nat.le_of_ble_eq_true rfl, h⟩⟩
theorem e_85 {X : mX} {D : Nat} {P : mPost} {σ : mS} {a0 : Nat} {a1 : Int32} (hD : 1 ≤ D) : mCall X D 85 [.ref a0, .int a1] σ P = mW (mCall X (D - 1)) X (σ.2.2.2.length + (mAl 85).1, mSum σ.2.2.2 + (mAl 85).2) 85 P 0 [.ref a0, .int a1] [] σ := by
  obtain ⟨d, rfl⟩ : ∃ d, D = d + 1 := ⟨D - 1, by omega⟩
  exact propext ⟨fun h => h.2, fun h => ⟨Nat.le_of_ble_eq_true rfl, h⟩⟩
theorem e_86 {X : mX} {D : Nat} {P : mPost} {σ : mS} {a0 : Nat} {a1 : Int32} {a2 : Int32} {a3 : Int32} {a4 : Int32} (hD : 1 ≤ D) : mCall X D 86 [.ref a0, .int a1, .int a2, .int a3, .int a4] σ P = mW (mCall X (D - 1)) X (σ.2.2.2.length + (mAl 86).1, mSum σ.2.2.2 + (mAl 86).2) 86 P 0 [.ref a0, .int a1, .int a2, .int a3, .int a4, .null] [] σ := by
  obtain ⟨d, rfl⟩ : ∃ d, D = d + 1 := ⟨D - 1, by omega⟩
  exact propext ⟨fun h => h.2, fun h => ⟨Nat.le_of_ble_eq_true rfl, h⟩⟩
theorem e_87 {X : mX} {D : Nat} {P : mPost} {σ : mS} {a0 : Nat} (hD : 1 ≤ D) : mCall X D 87 [.ref a0] σ P = mW (mCall X (D - 1)) X (σ.2.2.2.length + (mAl 87).1, mSum σ.2.2.2 + (mAl 87).2) 87 P 0 [.ref a0, .null] [] σ := by
  obtain ⟨d, rfl⟩ : ∃ d, D = d + 1 := ⟨D - 1, by omega⟩
  exact propext ⟨fun h => h.2, fun h => ⟨Nat.le_of_ble_eq_true rfl, h⟩⟩
theorem e_88 {X : mX} {D : Nat} {P : mPost} {σ : mS} {a0 : Nat} {a1 : Int32} (hD : 1 ≤ D) : mCall X D 88 [.ref a0, .int a1] σ P = mW (mCall X (D - 1)) X (σ.2.2.2.length + (mAl 88).1, mSum σ.2.2.2 + (mAl 88).2) 88 P 0 [.ref a0, .int a1] [] σ := by
  obtain ⟨d, rfl⟩ : ∃ d, D = d + 1 := ⟨D - 1, by omega⟩
  exact propext ⟨fun h => h.2, fun h => ⟨Nat.le_of_ble_eq_true rfl, h⟩⟩
theorem e_89 {X : mX} {D : Nat} {P : mPost} {σ : mS} {a0 : Nat} {a1 : Nat} (hD : 1 ≤ D) : mCall X D 89 [.ref a0, .ref a1] σ P = mW (mCall X (D - 1)) X (σ.2.2.2.length + (mAl 89).1, mSum σ.2.2.2 + (mAl 89).2) 89 P 0 [.ref a0, .ref a1] [] σ := by
  obtain ⟨d, rfl⟩ : ∃ d, D = d + 1 := ⟨D - 1, by omega⟩
  exact propext ⟨fun h => h.2, fun h => ⟨Nat.le_of_ble_eq_true rfl, h⟩⟩
theorem e_90 {X : mX} {D : Nat} {P : mPost} {σ : mS} {a0 : Nat} {a1 : Int32} (hD : 1 ≤ D) : mCall X D 90 [.ref a0, .int a1] σ P = mW (mCall X (D - 1)) X (σ.2.2.2.length + (mAl 90).1, mSum σ.2.2.2 + (mAl 90).2) 90 P 0 [.ref a0, .int a1] [] σ := by
  obtain ⟨d, rfl⟩ : ∃ d, D = d + 1 := ⟨D - 1, by omega⟩
  exact propext ⟨fun h => h.2, fun h => ⟨Nat.le_of_ble_eq_true rfl, h⟩⟩
theorem e_91 {X : mX} {D : Nat} {P : mPost} {σ : mS} {a0 : Nat} {a1 : Int32} {a2 : Int32} (hD : 1 ≤ D) : mCall X D 91 [.ref a0, .int a1, .int a2] σ P = mW (mCall X (D - 1)) X (σ.2.2.2.length + (mAl 91).1, mSum σ.2.2.2 + (mAl 91).2) 91 P 0 [.ref a0, .int a1, .int a2] [] σ := by
  obtain ⟨d, rfl⟩ : ∃ d, D = d + 1 := ⟨D - 1, by omega⟩
  exact propext ⟨fun h => h.2, fun h => ⟨Nat.le_of_ble_eq_true rfl, h⟩⟩
theorem e_92 {X : mX} {D : Nat} {P : mPost} {σ : mS} {a0 : Nat} {a1 : Int32} (hD : 1 ≤ D) : mCall X D 92 [.ref a0, .int a1] σ P = mW (mCall X (D - 1)) X (σ.2.2.2.length + (mAl 92).1, mSum σ.2.2.2 + (mAl 92).2) 92 P 0 [.ref a0, .int a1, .null, .null] [] σ := by
  obtain ⟨d, rfl⟩ : ∃ d, D = d + 1 := ⟨D - 1, by omega⟩
  exact propext ⟨fun h => h.2, fun h => ⟨Nat.le_of_ble_eq_true rfl, h⟩⟩
theorem e_93 {X : mX} {D : Nat} {P : mPost} {σ : mS} {a0 : Nat} {a1 : Int32} (hD : 1 ≤ D) : mCall X D 93 [.ref a0, .int a1] σ P = mW (mCall X (D - 1)) X (σ.2.2.2.length + (mAl 93).1, mSum σ.2.2.2 + (mAl 93).2) 93 P 0 [.ref a0, .int a1] [] σ := by
  obtain ⟨d, rfl⟩ : ∃ d, D = d + 1 := ⟨D - 1, by omega⟩
  exact propext ⟨fun h => h.2, fun h => ⟨Nat.le_of_ble_eq_true rfl, h⟩⟩
theorem e_94 {X : mX} {D : Nat} {P : mPost} {σ : mS} {a0 : Nat} {a1 : Nat} {a2 : Int32} {a3 : Int32} (hD : 1 ≤ D) : mCall X D 94 [.ref a0, .ref a1, .int a2, .int a3] σ P = mW (mCall X (D - 1)) X (σ.2.2.2.length + (mAl 94).1, mSum σ.2.2.2 + (mAl 94).2) 94 P 0 [.ref a0, .ref a1, .int a2, .int a3, .null, .null, .null, .null, .null] [] σ := by
  obtain ⟨d, rfl⟩ : ∃ d, D = d + 1 := ⟨D - 1, by omega⟩
  exact propext ⟨fun h => h.2, fun h => ⟨Nat.le_of_ble_eq_true rfl, h⟩⟩
theorem e_95 {X : mX} {D : Nat} {P : mPost} {σ : mS} {a0 : Nat} {a1 : Int32} {a2 : Int32} {a3 : Int32} {a4 : Int32} {a5 : Int32} (hD : 1 ≤ D) : mCall X D 95 [.ref a0, .int a1, .int a2, .int a3, .int a4, .int a5] σ P = mW (mCall X (D - 1)) X (σ.2.2.2.length + (mAl 95).1, mSum σ.2.2.2 + (mAl 95).2) 95 P 0 [.ref a0, .int a1, .int a2, .int a3, .int a4, .int a5, .null] [] σ := by
  obtain ⟨d, rfl⟩ : ∃ d, D = d + 1 := ⟨D - 1, by omega⟩
  exact propext ⟨fun h => h.2, fun h => ⟨Nat.le_of_ble_eq_true rfl, h⟩⟩
theorem e_96 {X : mX} {D : Nat} {P : mPost} {σ : mS} {a0 : Nat} {a1 : Int32} (hD : 1 ≤ D) : mCall X D 96 [.ref a0, .int a1] σ P = mW (mCall X (D - 1)) X (σ.2.2.2.length + (mAl 96).1, mSum σ.2.2.2 + (mAl 96).2) 96 P 0 [.ref a0, .int a1, .null, .null] [] σ := by
  obtain ⟨d, rfl⟩ : ∃ d, D = d + 1 := ⟨D - 1, by omega⟩
  exact propext ⟨fun h => h.2, fun h => ⟨Nat.le_of_ble_eq_true rfl, h⟩⟩
theorem e_97 {X : mX} {D : Nat} {P : mPost} {σ : mS} {a0 : Int32} {a1 : Int32} {a2 : Int32} (hD : 1 ≤ D) : mCall X D 97 [.int a0, .int a1, .int a2] σ P = mW (mCall X (D - 1)) X (σ.2.2.2.length + (mAl 97).1, mSum σ.2.2.2 + (mAl 97).2) 97 P 0 [.int a0, .int a1, .int a2] [] σ := by
  obtain ⟨d, rfl⟩ : ∃ d, D = d + 1 := ⟨D - 1, by omega⟩
  exact propext ⟨fun h => h.2, fun h => ⟨Nat.le_of_ble_eq_true rfl, h⟩⟩
theorem e_98 {X : mX} {D : Nat} {P : mPost} {σ : mS} {a0 : Nat} {a1 : Nat} {a2 : Nat} (hD : 1 ≤ D) : mCall X D 98 [.ref a0, .ref a1, .ref a2] σ P = mW (mCall X (D - 1)) X (σ.2.2.2.length + (mAl 98).1, mSum σ.2.2.2 + (mAl 98).2) 98 P 0 [.ref a0, .ref a1, .ref a2, .null, .null, .null] [] σ := by
  obtain ⟨d, rfl⟩ : ∃ d, D = d + 1 := ⟨D - 1, by omega⟩
  exact propext ⟨fun h => h.2, fun h => ⟨Nat.le_of_ble_eq_true rfl, h⟩⟩
theorem e_99 {X : mX} {D : Nat} {P : mPost} {σ : mS} {a0 : Nat} {a1 : Int32} {a2 : Int32} (hD : 1 ≤ D) : mCall X D 99 [.ref a0, .int a1, .int a2] σ P = mW (mCall X (D - 1)) X (σ.2.2.2.length + (mAl 99).1, mSum σ.2.2.2 + (mAl 99).2) 99 P 0 [.ref a0, .int a1, .int a2] [] σ := by
  obtain ⟨d, rfl⟩ : ∃ d, D = d + 1 := ⟨D - 1, by omega⟩
  exact propext ⟨fun h => h.2, fun h => ⟨Nat.le_of_ble_eq_true rfl, h⟩⟩
theorem e_100 {X : mX} {D : Nat} {P : mPost} {σ : mS} {a0 : Nat} {a1 : Int32} {a2 : Int32} (hD : 1 ≤ D) : mCall X D 100 [.ref a0, .int a1, .int a2] σ P = mW (mCall X (D - 1)) X (σ.2.2.2.length + (mAl 100).1, mSum σ.2.2.2 + (mAl 100).2) 100 P 0 [.ref a0, .int a1, .int a2] [] σ := by
  obtain ⟨d, rfl⟩ : ∃ d, D = d + 1 := ⟨D - 1, by omega⟩
  exact propext ⟨fun h => h.2, fun h => ⟨Nat.le_of_ble_eq_true rfl, h⟩⟩
theorem e_101 {X : mX} {D : Nat} {P : mPost} {σ : mS} {a0 : Nat} {a1 : Int32} (hD : 1 ≤ D) : mCall X D 101 [.ref a0, .int a1] σ P = mW (mCall X (D - 1)) X (σ.2.2.2.length + (mAl 101).1, mSum σ.2.2.2 + (mAl 101).2) 101 P 0 [.ref a0, .int a1] [] σ := by
  obtain ⟨d, rfl⟩ : ∃ d, D = d + 1 := ⟨D - 1, by omega⟩
  exact propext ⟨fun h => h.2, fun h => ⟨Nat.le_of_ble_eq_true rfl, h⟩⟩
theorem e_102 {X : mX} {D : Nat} {P : mPost} {σ : mS} {a0 : Nat} {a1 : Nat} {a2 : Int32} (hD : 1 ≤ D) : mCall X D 102 [.ref a0, .ref a1, .int a2] σ P = mW (mCall X (D - 1)) X (σ.2.2.2.length + (mAl 102).1, mSum σ.2.2.2 + (mAl 102).2) 102 P 0 [.ref a0, .ref a1, .int a2, .null, .null] [] σ := by
  obtain ⟨d, rfl⟩ : ∃ d, D = d + 1 := ⟨D - 1, by omega⟩
  exact propext ⟨fun h => h.2, fun h => ⟨Nat.le_of_ble_eq_true rfl, h⟩⟩
theorem e_103 {X : mX} {D : Nat} {P : mPost} {σ : mS} {a0 : Nat} {a1 : Int32} {a2 : Int32} (hD : 1 ≤ D) : mCall X D 103 [.ref a0, .int a1, .int a2] σ P = mW (mCall X (D - 1)) X (σ.2.2.2.length + (mAl 103).1, mSum σ.2.2.2 + (mAl 103).2) 103 P 0 [.ref a0, .int a1, .int a2] [] σ := by
  obtain ⟨d, rfl⟩ : ∃ d, D = d + 1 := ⟨D - 1, by omega⟩
  exact propext ⟨fun h => h.2, fun h => ⟨Nat.le_of_ble_eq_true rfl, h⟩⟩
theorem e_104 {X : mX} {D : Nat} {P : mPost} {σ : mS} {a0 : Nat} {a1 : Int32} {a2 : Int32} (hD : 1 ≤ D) : mCall X D 104 [.ref a0, .int a1, .int a2] σ P = mW (mCall X (D - 1)) X (σ.2.2.2.length + (mAl 104).1, mSum σ.2.2.2 + (mAl 104).2) 104 P 0 [.ref a0, .int a1, .int a2] [] σ := by
  obtain ⟨d, rfl⟩ : ∃ d, D = d + 1 := ⟨D - 1, by omega⟩
  exact propext ⟨fun h => h.2, fun h => ⟨Nat.le_of_ble_eq_true rfl, h⟩⟩
theorem e_105 {X : mX} {D : Nat} {P : mPost} {σ : mS} {a0 : Nat} {a1 : Int32} (hD : 1 ≤ D) : mCall X D 105 [.ref a0, .int a1] σ P = mW (mCall X (D - 1)) X (σ.2.2.2.length + (mAl 105).1, mSum σ.2.2.2 + (mAl 105).2) 105 P 0 [.ref a0, .int a1, .null] [] σ := by
  obtain ⟨d, rfl⟩ : ∃ d, D = d + 1 := ⟨D - 1, by omega⟩
  exact propext ⟨fun h => h.2, fun h => ⟨Nat.le_of_ble_eq_true rfl, h⟩⟩
theorem e_106 {X : mX} {D : Nat} {P : mPost} {σ : mS} {a0 : Nat} {a1 : Int32} {a2 : Int32} (hD : 1 ≤ D) : mCall X D 106 [.ref a0, .int a1, .int a2] σ P = mW (mCall X (D - 1)) X (σ.2.2.2.length + (mAl 106).1, mSum σ.2.2.2 + (mAl 106).2) 106 P 0 [.ref a0, .int a1, .int a2] [] σ := by
  obtain ⟨d, rfl⟩ : ∃ d, D = d + 1 := ⟨D - 1, by omega⟩
  exact propext ⟨fun h => h.2, fun h => ⟨Nat.le_of_ble_eq_true rfl, h⟩⟩
theorem e_107 {X : mX} {D : Nat} {P : mPost} {σ : mS} {a0 : Nat} {a1 : Int32} {a2 : Int32} (hD : 1 ≤ D) : mCall X D 107 [.ref a0, .int a1, .int a2] σ P = mW (mCall X (D - 1)) X (σ.2.2.2.length + (mAl 107).1, mSum σ.2.2.2 + (mAl 107).2) 107 P 0 [.ref a0, .int a1, .int a2] [] σ := by
  obtain ⟨d, rfl⟩ : ∃ d, D = d + 1 := ⟨D - 1, by omega⟩
  exact propext ⟨fun h => h.2, fun h => ⟨Nat.le_of_ble_eq_true rfl, h⟩⟩
theorem e_108 {X : mX} {D : Nat} {P : mPost} {σ : mS} {a0 : Int32} (hD : 1 ≤ D) : mCall X D 108 [.int a0] σ P = mW (mCall X (D - 1)) X (σ.2.2.2.length + (mAl 108).1, mSum σ.2.2.2 + (mAl 108).2) 108 P 0 [.int a0] [] σ := by
  obtain ⟨d, rfl⟩ : ∃ d, D = d + 1 := ⟨D - 1, by omega⟩
  exact propext ⟨fun h => h.2, fun h => ⟨Nat.le_of_ble_eq_true rfl, h⟩⟩
theorem e_109 {X : mX} {D : Nat} {P : mPost} {σ : mS} {a0 : Nat} {a1 : Int32} (hD : 1 ≤ D) : mCall X D 109 [.ref a0, .int a1] σ P = mW (mCall X (D - 1)) X (σ.2.2.2.length + (mAl 109).1, mSum σ.2.2.2 + (mAl 109).2) 109 P 0 [.ref a0, .int a1] [] σ := by
  obtain ⟨d, rfl⟩ : ∃ d, D = d + 1 := ⟨D - 1, by omega⟩
  exact propext ⟨fun h => h.2, fun h => ⟨Nat.le_of_ble_eq_true rfl, h⟩⟩
theorem e_110 {X : mX} {D : Nat} {P : mPost} {σ : mS} {a0 : Nat} {a1 : Nat} (hD : 1 ≤ D) : mCall X D 110 [.ref a0, .ref a1] σ P = mW (mCall X (D - 1)) X (σ.2.2.2.length + (mAl 110).1, mSum σ.2.2.2 + (mAl 110).2) 110 P 0 [.ref a0, .ref a1, .null, .null] [] σ := by
  obtain ⟨d, rfl⟩ : ∃ d, D = d + 1 := ⟨D - 1, by omega⟩
  exact propext ⟨fun h => h.2, fun h => ⟨Nat.le_of_ble_eq_true rfl, h⟩⟩
theorem e_111 {X : mX} {D : Nat} {P : mPost} {σ : mS} {a0 : Nat} {a1 : Nat} (hD : 1 ≤ D) : mCall X D 111 [.ref a0, .ref a1] σ P = mW (mCall X (D - 1)) X (σ.2.2.2.length + (mAl 111).1, mSum σ.2.2.2 + (mAl 111).2) 111 P 0 [.ref a0, .ref a1, .null, .null] [] σ := by
  obtain ⟨d, rfl⟩ : ∃ d, D = d + 1 := ⟨D - 1, by omega⟩
  exact propext ⟨fun h => h.2, fun h => ⟨Nat.le_of_ble_eq_true rfl, h⟩⟩
theorem e_112 {X : mX} {D : Nat} {P : mPost} {σ : mS} {a0 : Nat} {a1 : Nat} (hD : 1 ≤ D) : mCall X D 112 [.ref a0, .ref a1] σ P = mW (mCall X (D - 1)) X (σ.2.2.2.length + (mAl 112).1, mSum σ.2.2.2 + (mAl 112).2) 112 P 0 [.ref a0, .ref a1, .null, .null] [] σ := by
  obtain ⟨d, rfl⟩ : ∃ d, D = d + 1 := ⟨D - 1, by omega⟩
  exact propext ⟨fun h => h.2, fun h => ⟨Nat.le_of_ble_eq_true rfl, h⟩⟩
theorem e_113 {X : mX} {D : Nat} {P : mPost} {σ : mS} {a0 : Nat} {a1 : Nat} (hD : 1 ≤ D) : mCall X D 113 [.ref a0, .ref a1] σ P = mW (mCall X (D - 1)) X (σ.2.2.2.length + (mAl 113).1, mSum σ.2.2.2 + (mAl 113).2) 113 P 0 [.ref a0, .ref a1, .null, .null] [] σ := by
  obtain ⟨d, rfl⟩ : ∃ d, D = d + 1 := ⟨D - 1, by omega⟩
  exact propext ⟨fun h => h.2, fun h => ⟨Nat.le_of_ble_eq_true rfl, h⟩⟩
theorem e_114 {X : mX} {D : Nat} {P : mPost} {σ : mS} {a0 : Nat} {a1 : Nat} (hD : 1 ≤ D) : mCall X D 114 [.ref a0, .ref a1] σ P = mW (mCall X (D - 1)) X (σ.2.2.2.length + (mAl 114).1, mSum σ.2.2.2 + (mAl 114).2) 114 P 0 [.ref a0, .ref a1, .null, .null] [] σ := by
  obtain ⟨d, rfl⟩ : ∃ d, D = d + 1 := ⟨D - 1, by omega⟩
  exact propext ⟨fun h => h.2, fun h => ⟨Nat.le_of_ble_eq_true rfl, h⟩⟩
theorem e_115 {X : mX} {D : Nat} {P : mPost} {σ : mS} {a0 : Nat} {a1 : Int32} (hD : 1 ≤ D) : mCall X D 115 [.ref a0, .int a1] σ P = mW (mCall X (D - 1)) X (σ.2.2.2.length + (mAl 115).1, mSum σ.2.2.2 + (mAl 115).2) 115 P 0 [.ref a0, .int a1] [] σ := by
  obtain ⟨d, rfl⟩ : ∃ d, D = d + 1 := ⟨D - 1, by omega⟩
  exact propext ⟨fun h => h.2, fun h => ⟨Nat.le_of_ble_eq_true rfl, h⟩⟩
theorem e_116 {X : mX} {D : Nat} {P : mPost} {σ : mS} {a0 : Nat} {a1 : Nat} (hD : 1 ≤ D) : mCall X D 116 [.ref a0, .ref a1] σ P = mW (mCall X (D - 1)) X (σ.2.2.2.length + (mAl 116).1, mSum σ.2.2.2 + (mAl 116).2) 116 P 0 [.ref a0, .ref a1] [] σ := by
  obtain ⟨d, rfl⟩ : ∃ d, D = d + 1 := ⟨D - 1, by omega⟩
  exact propext ⟨fun h => h.2, fun h => ⟨Nat.le_of_ble_eq_true rfl, h⟩⟩
theorem e_117 {X : mX} {D : Nat} {P : mPost} {σ : mS} {a0 : Nat} {a1 : Nat} (hD : 1 ≤ D) : mCall X D 117 [.ref a0, .ref a1] σ P = mW (mCall X (D - 1)) X (σ.2.2.2.length + (mAl 117).1, mSum σ.2.2.2 + (mAl 117).2) 117 P 0 [.ref a0, .ref a1] [] σ := by
  obtain ⟨d, rfl⟩ : ∃ d, D = d + 1 := ⟨D - 1, by omega⟩
  exact propext ⟨fun h => h.2, fun h => ⟨Nat.le_of_ble_eq_true rfl, h⟩⟩
theorem e_118 {X : mX} {D : Nat} {P : mPost} {σ : mS} {a0 : Nat} {a1 : Nat} (hD : 1 ≤ D) : mCall X D 118 [.ref a0, .ref a1] σ P = mW (mCall X (D - 1)) X (σ.2.2.2.length + (mAl 118).1, mSum σ.2.2.2 + (mAl 118).2) 118 P 0 [.ref a0, .ref a1] [] σ := by
  obtain ⟨d, rfl⟩ : ∃ d, D = d + 1 := ⟨D - 1, by omega⟩
  exact propext ⟨fun h => h.2, fun h => ⟨Nat.le_of_ble_eq_true rfl, h⟩⟩
theorem e_119 {X : mX} {D : Nat} {P : mPost} {σ : mS} {a0 : Nat} {a1 : Nat} (hD : 1 ≤ D) : mCall X D 119 [.ref a0, .ref a1] σ P = mW (mCall X (D - 1)) X (σ.2.2.2.length + (mAl 119).1, mSum σ.2.2.2 + (mAl 119).2) 119 P 0 [.ref a0, .ref a1, .null] [] σ := by
  obtain ⟨d, rfl⟩ : ∃ d, D = d + 1 := ⟨D - 1, by omega⟩
  exact propext ⟨fun h => h.2, fun h => ⟨Nat.le_of_ble_eq_true rfl, h⟩⟩
theorem e_120 {X : mX} {D : Nat} {P : mPost} {σ : mS} {a0 : Nat} {a1 : Nat} (hD : 1 ≤ D) : mCall X D 120 [.ref a0, .ref a1] σ P = mW (mCall X (D - 1)) X (σ.2.2.2.length + (mAl 120).1, mSum σ.2.2.2 + (mAl 120).2) 120 P 0 [.ref a0, .ref a1] [] σ := by
  obtain ⟨d, rfl⟩ : ∃ d, D = d + 1 := ⟨D - 1, by omega⟩
  exact propext ⟨fun h => h.2, fun h => ⟨Nat.le_of_ble_eq_true rfl, h⟩⟩
theorem e_121 {X : mX} {D : Nat} {P : mPost} {σ : mS} {a0 : Nat} {a1 : Int32} (hD : 1 ≤ D) : mCall X D 121 [.ref a0, .int a1] σ P = mW (mCall X (D - 1)) X (σ.2.2.2.length + (mAl 121).1, mSum σ.2.2.2 + (mAl 121).2) 121 P 0 [.ref a0, .int a1] [] σ := by
  obtain ⟨d, rfl⟩ : ∃ d, D = d + 1 := ⟨D - 1, by omega⟩
  exact propext ⟨fun h => h.2, fun h => ⟨Nat.le_of_ble_eq_true rfl, h⟩⟩
theorem e_122 {X : mX} {D : Nat} {P : mPost} {σ : mS} {a0 : Nat} (hD : 1 ≤ D) : mCall X D 122 [.ref a0] σ P = mW (mCall X (D - 1)) X (σ.2.2.2.length + (mAl 122).1, mSum σ.2.2.2 + (mAl 122).2) 122 P 0 [.ref a0, .null] [] σ := by
  obtain ⟨d, rfl⟩ : ∃ d, D = d + 1 := ⟨D - 1, by omega⟩
  exact propext ⟨fun h => h.2, fun h => ⟨Nat.le_of_ble_eq_true rfl, h⟩⟩
theorem e_123 {X : mX} {D : Nat} {P : mPost} {σ : mS} {a0 : Nat} {a1 : Int32} {a2 : Int32} (hD : 1 ≤ D) : mCall X D 123 [.ref a0, .int a1, .int a2] σ P = mW (mCall X (D - 1)) X (σ.2.2.2.length + (mAl 123).1, mSum σ.2.2.2 + (mAl 123).2) 123 P 0 [.ref a0, .int a1, .int a2] [] σ := by
  obtain ⟨d, rfl⟩ : ∃ d, D = d + 1 := ⟨D - 1, by omega⟩
  exact propext ⟨fun h => h.2, fun h => ⟨Nat.le_of_ble_eq_true rfl, h⟩⟩
theorem e_124 {X : mX} {D : Nat} {P : mPost} {σ : mS} {a0 : Int32} {a1 : Int32} {a2 : Int32} (hD : 1 ≤ D) : mCall X D 124 [.int a0, .int a1, .int a2] σ P = mW (mCall X (D - 1)) X (σ.2.2.2.length + (mAl 124).1, mSum σ.2.2.2 + (mAl 124).2) 124 P 0 [.int a0, .int a1, .int a2] [] σ := by
  obtain ⟨d, rfl⟩ : ∃ d, D = d + 1 := ⟨D - 1, by omega⟩
  exact propext ⟨fun h => h.2, fun h => ⟨Nat.le_of_ble_eq_true rfl, h⟩⟩
theorem e_125 {X : mX} {D : Nat} {P : mPost} {σ : mS} {a0 : Nat} {a1 : Int32} {a2 : Int32} {a3 : Int32} {a4 : Int32} (hD : 1 ≤ D) : mCall X D 125 [.ref a0, .int a1, .int a2, .int a3, .int a4] σ P = mW (mCall X (D - 1)) X (σ.2.2.2.length + (mAl 125).1, mSum σ.2.2.2 + (mAl 125).2) 125 P 0 [.ref a0, .int a1, .int a2, .int a3, .int a4, .null] [] σ := by
  obtain ⟨d, rfl⟩ : ∃ d, D = d + 1 := ⟨D - 1, by omega⟩
  exact propext ⟨fun h => h.2, fun h => ⟨Nat.le_of_ble_eq_true rfl, h⟩⟩
theorem e_126 {X : mX} {D : Nat} {P : mPost} {σ : mS} {a0 : Nat} {a1 : Int32} {a2 : Int32} (hD : 1 ≤ D) : mCall X D 126 [.ref a0, .int a1, .int a2] σ P = mW (mCall X (D - 1)) X (σ.2.2.2.length + (mAl 126).1, mSum σ.2.2.2 + (mAl 126).2) 126 P 0 [.ref a0, .int a1, .int a2, .null, .null, .null] [] σ := by
  obtain ⟨d, rfl⟩ : ∃ d, D = d + 1 := ⟨D - 1, by omega⟩
  exact propext ⟨fun h => h.2, fun h => ⟨Nat.le_of_ble_eq_true rfl, h⟩⟩
theorem e_127 {X : mX} {D : Nat} {P : mPost} {σ : mS} {a0 : Nat} {a1 : Int32} {a2 : Int32} (hD : 1 ≤ D) : mCall X D 127 [.ref a0, .int a1, .int a2] σ P = mW (mCall X (D - 1)) X (σ.2.2.2.length + (mAl 127).1, mSum σ.2.2.2 + (mAl 127).2) 127 P 0 [.ref a0, .int a1, .int a2] [] σ := by
  obtain ⟨d, rfl⟩ : ∃ d, D = d + 1 := ⟨D - 1, by omega⟩
  exact propext ⟨fun h => h.2, fun h => ⟨Nat.le_of_ble_eq_true rfl, h⟩⟩
theorem e_128 {X : mX} {D : Nat} {P : mPost} {σ : mS} {a0 : Int32} (hD : 1 ≤ D) : mCall X D 128 [.int a0] σ P = mW (mCall X (D - 1)) X (σ.2.2.2.length + (mAl 128).1, mSum σ.2.2.2 + (mAl 128).2) 128 P 0 [.int a0, .null, .null] [] σ := by
  obtain ⟨d, rfl⟩ : ∃ d, D = d + 1 := ⟨D - 1, by omega⟩
  exact propext ⟨fun h => h.2, fun h => ⟨Nat.le_of_ble_eq_true rfl, h⟩⟩
theorem e_129 {X : mX} {D : Nat} {P : mPost} {σ : mS} {a0 : Nat} {a1 : Int32} (hD : 1 ≤ D) : mCall X D 129 [.ref a0, .int a1] σ P = mW (mCall X (D - 1)) X (σ.2.2.2.length + (mAl 129).1, mSum σ.2.2.2 + (mAl 129).2) 129 P 0 [.ref a0, .int a1, .null, .null, .null, .null, .null, .null, .null, .null] [] σ := by
  obtain ⟨d, rfl⟩ : ∃ d, D = d + 1 := ⟨D - 1, by omega⟩
  exact propext ⟨fun h => h.2, fun h => ⟨Nat.le_of_ble_eq_true rfl, h⟩⟩
theorem e_130 {X : mX} {D : Nat} {P : mPost} {σ : mS} {a0 : Nat} (hD : 1 ≤ D) : mCall X D 130 [.ref a0] σ P = mW (mCall X (D - 1)) X (σ.2.2.2.length + (mAl 130).1, mSum σ.2.2.2 + (mAl 130).2) 130 P 0 [.ref a0, .null, .null] [] σ := by
  obtain ⟨d, rfl⟩ : ∃ d, D = d + 1 := ⟨D - 1, by omega⟩
  exact propext ⟨fun h => h.2, fun h => ⟨Nat.le_of_ble_eq_true rfl, h⟩⟩
theorem e_131 {X : mX} {D : Nat} {P : mPost} {σ : mS} {a0 : Nat} {a1 : Int32} (hD : 1 ≤ D) : mCall X D 131 [.ref a0, .int a1] σ P = mW (mCall X (D - 1)) X (σ.2.2.2.length + (mAl 131).1, mSum σ.2.2.2 + (mAl 131).2) 131 P 0 [.ref a0, .int a1, .null, .null] [] σ := by
  obtain ⟨d, rfl⟩ : ∃ d, D = d + 1 := ⟨D - 1, by omega⟩
  exact propext ⟨fun h => h.2, fun h => ⟨Nat.le_of_ble_eq_true rfl, h⟩⟩
theorem e_132 {X : mX} {D : Nat} {P : mPost} {σ : mS} {a0 : Nat} {a1 : Int32} (hD : 1 ≤ D) : mCall X D 132 [.ref a0, .int a1] σ P = mW (mCall X (D - 1)) X (σ.2.2.2.length + (mAl 132).1, mSum σ.2.2.2 + (mAl 132).2) 132 P 0 [.ref a0, .int a1, .null] [] σ := by
  obtain ⟨d, rfl⟩ : ∃ d, D = d + 1 := ⟨D - 1, by omega⟩
  exact propext ⟨fun h => h.2, fun h => ⟨Nat.le_of_ble_eq_true rfl, h⟩⟩
theorem e_133 {X : mX} {D : Nat} {P : mPost} {σ : mS} {a0 : Nat} {a1 : Int32} {a2 : Int32} (hD : 1 ≤ D) : mCall X D 133 [.ref a0, .int a1, .int a2] σ P = mW (mCall X (D - 1)) X (σ.2.2.2.length + (mAl 133).1, mSum σ.2.2.2 + (mAl 133).2) 133 P 0 [.ref a0, .int a1, .int a2, .null, .null, .null] [] σ := by
  obtain ⟨d, rfl⟩ : ∃ d, D = d + 1 := ⟨D - 1, by omega⟩
  exact propext ⟨fun h => h.2, fun h => ⟨Nat.le_of_ble_eq_true rfl, h⟩⟩
theorem e_134 {X : mX} {D : Nat} {P : mPost} {σ : mS} {a0 : Nat} {a1 : Int32} {a2 : Int32} {a3 : Int32} (hD : 1 ≤ D) : mCall X D 134 [.ref a0, .int a1, .int a2, .int a3] σ P = mW (mCall X (D - 1)) X (σ.2.2.2.length + (mAl 134).1, mSum σ.2.2.2 + (mAl 134).2) 134 P 0 [.ref a0, .int a1, .int a2, .int a3, .null, .null, .null, .null, .null, .null, .null] [] σ := by
  obtain ⟨d, rfl⟩ : ∃ d, D = d + 1 := ⟨D - 1, by omega⟩
  exact propext ⟨fun h => h.2, fun h => ⟨Nat.le_of_ble_eq_true rfl, h⟩⟩
theorem e_135 {X : mX} {D : Nat} {P : mPost} {σ : mS} {a0 : Nat} {a1 : Int32} {a2 : Int32} (hD : 1 ≤ D) : mCall X D 135 [.ref a0, .int a1, .int a2] σ P = mW (mCall X (D - 1)) X (σ.2.2.2.length + (mAl 135).1, mSum σ.2.2.2 + (mAl 135).2) 135 P 0 [.ref a0, .int a1, .int a2, .null, .null] [] σ := by
  obtain ⟨d, rfl⟩ : ∃ d, D = d + 1 := ⟨D - 1, by omega⟩
  exact propext ⟨fun h => h.2, fun h => ⟨Nat.le_of_ble_eq_true rfl, h⟩⟩
theorem e_136 {X : mX} {D : Nat} {P : mPost} {σ : mS} {a0 : Nat} {a1 : Int32} {a2 : Int32} {a3 : Int32} (hD : 1 ≤ D) : mCall X D 136 [.ref a0, .int a1, .int a2, .int a3] σ P = mW (mCall X (D - 1)) X (σ.2.2.2.length + (mAl 136).1, mSum σ.2.2.2 + (mAl 136).2) 136 P 0 [.ref a0, .int a1, .int a2, .int a3] [] σ := by
  obtain ⟨d, rfl⟩ : ∃ d, D = d + 1 := ⟨D - 1, by omega⟩
  exact propext ⟨fun h => h.2, fun h => ⟨Nat.le_of_ble_eq_true rfl, h⟩⟩
theorem e_137 {X : mX} {D : Nat} {P : mPost} {σ : mS} {a0 : Nat} {a1 : Int32} {a2 : Int32} {a3 : Int32} {a4 : Int32} {a5 : Int32} (hD : 1 ≤ D) : mCall X D 137 [.ref a0, .int a1, .int a2, .int a3, .int a4, .int a5] σ P = mW (mCall X (D - 1)) X (σ.2.2.2.length + (mAl 137).1, mSum σ.2.2.2 + (mAl 137).2) 137 P 0 [.ref a0, .int a1, .int a2, .int a3, .int a4, .int a5, .null] [] σ := by
  obtain ⟨d, rfl⟩ : ∃ d, D = d + 1 := ⟨D - 1, by omega⟩
  exact propext ⟨fun h => h.2, fun h => ⟨Nat.le_of_ble_eq_true rfl, h⟩⟩
theorem e_138 {X : mX} {D : Nat} {P : mPost} {σ : mS} {a0 : Nat} {a1 : Int32} {a2 : Int32} {a3 : Int32} {a4 : Int32} (hD : 1 ≤ D) : mCall X D 138 [.ref a0, .int a1, .int a2, .int a3, .int a4] σ P = mW (mCall X (D - 1)) X (σ.2.2.2.length + (mAl 138).1, mSum σ.2.2.2 + (mAl 138).2) 138 P 0 [.ref a0, .int a1, .int a2, .int a3, .int a4, .null, .null, .null] [] σ := by
  obtain ⟨d, rfl⟩ : ∃ d, D = d + 1 := ⟨D - 1, by omega⟩
  exact propext ⟨fun h => h.2, fun h => ⟨Nat.le_of_ble_eq_true rfl, h⟩⟩
theorem e_139 {X : mX} {D : Nat} {P : mPost} {σ : mS} {a0 : Nat} {a1 : Int32} {a2 : Int32} (hD : 1 ≤ D) : mCall X D 139 [.ref a0, .int a1, .int a2] σ P = mW (mCall X (D - 1)) X (σ.2.2.2.length + (mAl 139).1, mSum σ.2.2.2 + (mAl 139).2) 139 P 0 [.ref a0, .int a1, .int a2, .null, .null] [] σ := by
  obtain ⟨d, rfl⟩ : ∃ d, D = d + 1 := ⟨D - 1, by omega⟩
  exact propext ⟨fun h => h.2, fun h => ⟨Nat.le_of_ble_eq_true rfl, h⟩⟩
theorem e_140 {X : mX} {D : Nat} {P : mPost} {σ : mS} {a0 : Nat} {a1 : Int32} (hD : 1 ≤ D) : mCall X D 140 [.ref a0, .int a1] σ P = mW (mCall X (D - 1)) X (σ.2.2.2.length + (mAl 140).1, mSum σ.2.2.2 + (mAl 140).2) 140 P 0 [.ref a0, .int a1, .null] [] σ := by
  obtain ⟨d, rfl⟩ : ∃ d, D = d + 1 := ⟨D - 1, by omega⟩
  exact propext ⟨fun h => h.2, fun h => ⟨Nat.le_of_ble_eq_true rfl, h⟩⟩
theorem e_141 {X : mX} {D : Nat} {P : mPost} {σ : mS} {a0 : Nat} (hD : 1 ≤ D) : mCall X D 141 [.ref a0] σ P = mW (mCall X (D - 1)) X (σ.2.2.2.length + (mAl 141).1, mSum σ.2.2.2 + (mAl 141).2) 141 P 0 [.ref a0, .null] [] σ := by
  obtain ⟨d, rfl⟩ : ∃ d, D = d + 1 := ⟨D - 1, by omega⟩
  exact propext ⟨fun h => h.2, fun h => ⟨Nat.le_of_ble_eq_true rfl, h⟩⟩
theorem e_142 {X : mX} {D : Nat} {P : mPost} {σ : mS} {a0 : Nat} {a1 : Int32} {a2 : Int32} (hD : 1 ≤ D) : mCall X D 142 [.ref a0, .int a1, .int a2] σ P = mW (mCall X (D - 1)) X (σ.2.2.2.length + (mAl 142).1, mSum σ.2.2.2 + (mAl 142).2) 142 P 0 [.ref a0, .int a1, .int a2] [] σ := by
  obtain ⟨d, rfl⟩ : ∃ d, D = d + 1 := ⟨D - 1, by omega⟩
  exact propext ⟨fun h => h.2, fun h => ⟨Nat.le_of_ble_eq_true rfl, h⟩⟩
theorem e_143 {X : mX} {D : Nat} {P : mPost} {σ : mS} {a0 : Nat} {a1 : Int32} (hD : 1 ≤ D) : mCall X D 143 [.ref a0, .int a1] σ P = mW (mCall X (D - 1)) X (σ.2.2.2.length + (mAl 143).1, mSum σ.2.2.2 + (mAl 143).2) 143 P 0 [.ref a0, .int a1, .null, .null, .null, .null] [] σ := by
  obtain ⟨d, rfl⟩ : ∃ d, D = d + 1 := ⟨D - 1, by omega⟩
  exact propext ⟨fun h => h.2, fun h => ⟨Nat.le_of_ble_eq_true rfl, h⟩⟩
theorem e_144 {X : mX} {D : Nat} {P : mPost} {σ : mS} {a0 : Nat} {a1 : Int32} (hD : 1 ≤ D) : mCall X D 144 [.ref a0, .int a1] σ P = mW (mCall X (D - 1)) X (σ.2.2.2.length + (mAl 144).1, mSum σ.2.2.2 + (mAl 144).2) 144 P 0 [.ref a0, .int a1] [] σ := by
  obtain ⟨d, rfl⟩ : ∃ d, D = d + 1 := ⟨D - 1, by omega⟩
  exact propext ⟨fun h => h.2, fun h => ⟨Nat.le_of_ble_eq_true rfl, h⟩⟩
theorem e_145 {X : mX} {D : Nat} {P : mPost} {σ : mS} {a0 : Nat} {a1 : Int32} {a2 : Int32} (hD : 1 ≤ D) : mCall X D 145 [.ref a0, .int a1, .int a2] σ P = mW (mCall X (D - 1)) X (σ.2.2.2.length + (mAl 145).1, mSum σ.2.2.2 + (mAl 145).2) 145 P 0 [.ref a0, .int a1, .int a2] [] σ := by
  obtain ⟨d, rfl⟩ : ∃ d, D = d + 1 := ⟨D - 1, by omega⟩
  exact propext ⟨fun h => h.2, fun h => ⟨Nat.le_of_ble_eq_true rfl, h⟩⟩
theorem e_146 {X : mX} {D : Nat} {P : mPost} {σ : mS} {a0 : Nat} {a1 : Int32} (hD : 1 ≤ D) : mCall X D 146 [.ref a0, .int a1] σ P = mW (mCall X (D - 1)) X (σ.2.2.2.length + (mAl 146).1, mSum σ.2.2.2 + (mAl 146).2) 146 P 0 [.ref a0, .int a1, .null, .null, .null, .null] [] σ := by
  obtain ⟨d, rfl⟩ : ∃ d, D = d + 1 := ⟨D - 1, by omega⟩
  exact propext ⟨fun h => h.2, fun h => ⟨Nat.le_of_ble_eq_true rfl, h⟩⟩
theorem e_147 {X : mX} {D : Nat} {P : mPost} {σ : mS} {a0 : Nat} {a1 : Int32} {a2 : Int32} (hD : 1 ≤ D) : mCall X D 147 [.ref a0, .int a1, .int a2] σ P = mW (mCall X (D - 1)) X (σ.2.2.2.length + (mAl 147).1, mSum σ.2.2.2 + (mAl 147).2) 147 P 0 [.ref a0, .int a1, .int a2, .null] [] σ := by
  obtain ⟨d, rfl⟩ : ∃ d, D = d + 1 := ⟨D - 1, by omega⟩
  exact propext ⟨fun h => h.2, fun h => ⟨Nat.le_of_ble_eq_true rfl, h⟩⟩
theorem e_148 {X : mX} {D : Nat} {P : mPost} {σ : mS} {a0 : Nat} {a1 : Int32} {a2 : Int32} (hD : 1 ≤ D) : mCall X D 148 [.ref a0, .int a1, .int a2] σ P = mW (mCall X (D - 1)) X (σ.2.2.2.length + (mAl 148).1, mSum σ.2.2.2 + (mAl 148).2) 148 P 0 [.ref a0, .int a1, .int a2] [] σ := by
  obtain ⟨d, rfl⟩ : ∃ d, D = d + 1 := ⟨D - 1, by omega⟩
  exact propext ⟨fun h => h.2, fun h => ⟨Nat.le_of_ble_eq_true rfl, h⟩⟩
theorem e_149 {X : mX} {D : Nat} {P : mPost} {σ : mS} {a0 : Nat} {a1 : Int32} (hD : 1 ≤ D) : mCall X D 149 [.ref a0, .int a1] σ P = mW (mCall X (D - 1)) X (σ.2.2.2.length + (mAl 149).1, mSum σ.2.2.2 + (mAl 149).2) 149 P 0 [.ref a0, .int a1] [] σ := by
  obtain ⟨d, rfl⟩ : ∃ d, D = d + 1 := ⟨D - 1, by omega⟩
  exact propext ⟨fun h => h.2, fun h => ⟨Nat.le_of_ble_eq_true rfl, h⟩⟩
theorem e_150 {X : mX} {D : Nat} {P : mPost} {σ : mS} {a0 : Nat} {a1 : Int32} {a2 : Int32} {a3 : Int32} {a4 : Int32} {a5 : Int32} (hD : 1 ≤ D) : mCall X D 150 [.ref a0, .int a1, .int a2, .int a3, .int a4, .int a5] σ P = mW (mCall X (D - 1)) X (σ.2.2.2.length + (mAl 150).1, mSum σ.2.2.2 + (mAl 150).2) 150 P 0 [.ref a0, .int a1, .int a2, .int a3, .int a4, .int a5] [] σ := by
  obtain ⟨d, rfl⟩ : ∃ d, D = d + 1 := ⟨D - 1, by omega⟩
  exact propext ⟨fun h => h.2, fun h => ⟨Nat.le_of_ble_eq_true rfl, h⟩⟩
theorem e_151 {X : mX} {D : Nat} {P : mPost} {σ : mS} {a0 : Nat} {a1 : Int32} (hD : 1 ≤ D) : mCall X D 151 [.ref a0, .int a1] σ P = mW (mCall X (D - 1)) X (σ.2.2.2.length + (mAl 151).1, mSum σ.2.2.2 + (mAl 151).2) 151 P 0 [.ref a0, .int a1, .null] [] σ := by
  obtain ⟨d, rfl⟩ : ∃ d, D = d + 1 := ⟨D - 1, by omega⟩
  exact propext ⟨fun h => h.2, fun h => ⟨Nat.le_of_ble_eq_true rfl, h⟩⟩
theorem e_152 {X : mX} {D : Nat} {P : mPost} {σ : mS} {a0 : Nat} {a1 : Int32} (hD : 1 ≤ D) : mCall X D 152 [.ref a0, .int a1] σ P = mW (mCall X (D - 1)) X (σ.2.2.2.length + (mAl 152).1, mSum σ.2.2.2 + (mAl 152).2) 152 P 0 [.ref a0, .int a1] [] σ := by
  obtain ⟨d, rfl⟩ : ∃ d, D = d + 1 := ⟨D - 1, by omega⟩
  exact propext ⟨fun h => h.2, fun h => ⟨Nat.le_of_ble_eq_true rfl, h⟩⟩
theorem e_153 {X : mX} {D : Nat} {P : mPost} {σ : mS} {a0 : Nat} (hD : 1 ≤ D) : mCall X D 153 [.ref a0] σ P = mW (mCall X (D - 1)) X (σ.2.2.2.length + (mAl 153).1, mSum σ.2.2.2 + (mAl 153).2) 153 P 0 [.ref a0, .null, .null, .null] [] σ := by
  obtain ⟨d, rfl⟩ : ∃ d, D = d + 1 := ⟨D - 1, by omega⟩
  exact propext ⟨fun h => h.2, fun h => ⟨Nat.le_of_ble_eq_true rfl, h⟩⟩
theorem e_154 {X : mX} {D : Nat} {P : mPost} {σ : mS} {a0 : Nat} (hD : 1 ≤ D) : mCall X D 154 [.ref a0] σ P = mW (mCall X (D - 1)) X (σ.2.2.2.length + (mAl 154).1, mSum σ.2.2.2 + (mAl 154).2) 154 P 0 [.ref a0, .null, .null] [] σ := by
  obtain ⟨d, rfl⟩ : ∃ d, D = d + 1 := ⟨D - 1, by omega⟩
  exact propext ⟨fun h => h.2, fun h => ⟨Nat.le_of_ble_eq_true rfl, h⟩⟩
theorem e_155 {X : mX} {D : Nat} {P : mPost} {σ : mS} {a0 : Nat} (hD : 1 ≤ D) : mCall X D 155 [.ref a0] σ P = mW (mCall X (D - 1)) X (σ.2.2.2.length + (mAl 155).1, mSum σ.2.2.2 + (mAl 155).2) 155 P 0 [.ref a0] [] σ := by
  obtain ⟨d, rfl⟩ : ∃ d, D = d + 1 := ⟨D - 1, by omega⟩
  exact propext ⟨fun h => h.2, fun h => ⟨Nat.le_of_ble_eq_true rfl, h⟩⟩
theorem e_156 {X : mX} {D : Nat} {P : mPost} {σ : mS} {a0 : Nat} (hD : 1 ≤ D) : mCall X D 156 [.ref a0] σ P = mW (mCall X (D - 1)) X (σ.2.2.2.length + (mAl 156).1, mSum σ.2.2.2 + (mAl 156).2) 156 P 0 [.ref a0, .null, .null, .null] [] σ := by
  obtain ⟨d, rfl⟩ : ∃ d, D = d + 1 := ⟨D - 1, by omega⟩
  exact propext ⟨fun h => h.2, fun h => ⟨Nat.le_of_ble_eq_true rfl, h⟩⟩
theorem e_157 {X : mX} {D : Nat} {P : mPost} {σ : mS} {a0 : Nat} {a1 : Int32} {a2 : Int32} (hD : 1 ≤ D) : mCall X D 157 [.ref a0, .int a1, .int a2] σ P = mW (mCall X (D - 1)) X (σ.2.2.2.length + (mAl 157).1, mSum σ.2.2.2 + (mAl 157).2) 157 P 0 [.ref a0, .int a1, .int a2] [] σ := by
  obtain ⟨d, rfl⟩ : ∃ d, D = d + 1 := ⟨D - 1, by omega⟩
  exact propext ⟨fun h => h.2, fun h => ⟨Nat.le_of_ble_eq_true rfl, h⟩⟩
theorem e_158 {X : mX} {D : Nat} {P : mPost} {σ : mS} {a0 : Nat} {a1 : Int64} (hD : 1 ≤ D) : mCall X D 158 [.ref a0, .long a1] σ P = mW (mCall X (D - 1)) X (σ.2.2.2.length + (mAl 158).1, mSum σ.2.2.2 + (mAl 158).2) 158 P 0 [.ref a0, .long a1, .retAddr 0] [] σ := by
  obtain ⟨d, rfl⟩ : ∃ d, D = d + 1 := ⟨D - 1, by omega⟩
  exact propext ⟨fun h => h.2, fun h => ⟨Nat.le_of_ble_eq_true rfl, h⟩⟩
theorem e_159 {X : mX} {D : Nat} {P : mPost} {σ : mS} {a0 : Nat} {a1 : Int32} {a2 : Int32} (hD : 1 ≤ D) : mCall X D 159 [.ref a0, .int a1, .int a2] σ P = mW (mCall X (D - 1)) X (σ.2.2.2.length + (mAl 159).1, mSum σ.2.2.2 + (mAl 159).2) 159 P 0 [.ref a0, .int a1, .int a2, .null, .null, .null, .null, .null] [] σ := by
  obtain ⟨d, rfl⟩ : ∃ d, D = d + 1 := ⟨D - 1, by omega⟩
  exact propext ⟨fun h => h.2, fun h => ⟨Nat.le_of_ble_eq_true rfl, h⟩⟩
theorem e_160 {X : mX} {D : Nat} {P : mPost} {σ : mS} {a0 : Nat} (hD : 1 ≤ D) : mCall X D 160 [.ref a0] σ P = mW (mCall X (D - 1)) X (σ.2.2.2.length + (mAl 160).1, mSum σ.2.2.2 + (mAl 160).2) 160 P 0 [.ref a0] [] σ := by
  obtain ⟨d, rfl⟩ : ∃ d, D = d + 1 := ⟨D - 1, by omega⟩
  exact propext ⟨fun h => h.2, fun h => ⟨Nat.le_of_ble_eq_true rfl, h⟩⟩
theorem e_161 {X : mX} {D : Nat} {P : mPost} {σ : mS} {a0 : Nat} {a1 : Int32} (hD : 1 ≤ D) : mCall X D 161 [.ref a0, .int a1] σ P = mW (mCall X (D - 1)) X (σ.2.2.2.length + (mAl 161).1, mSum σ.2.2.2 + (mAl 161).2) 161 P 0 [.ref a0, .int a1] [] σ := by
  obtain ⟨d, rfl⟩ : ∃ d, D = d + 1 := ⟨D - 1, by omega⟩
  exact propext ⟨fun h => h.2, fun h => ⟨Nat.le_of_ble_eq_true rfl, h⟩⟩
theorem e_162 {X : mX} {D : Nat} {P : mPost} {σ : mS} {a0 : Nat} {a1 : Int32} (hD : 1 ≤ D) : mCall X D 162 [.ref a0, .int a1] σ P = mW (mCall X (D - 1)) X (σ.2.2.2.length + (mAl 162).1, mSum σ.2.2.2 + (mAl 162).2) 162 P 0 [.ref a0, .int a1] [] σ := by
  obtain ⟨d, rfl⟩ : ∃ d, D = d + 1 := ⟨D - 1, by omega⟩
  exact propext ⟨fun h => h.2, fun h => ⟨Nat.le_of_ble_eq_true rfl, h⟩⟩
theorem e_163 {X : mX} {D : Nat} {P : mPost} {σ : mS} {a0 : Nat} {a1 : Int32} (hD : 1 ≤ D) : mCall X D 163 [.ref a0, .int a1] σ P = mW (mCall X (D - 1)) X (σ.2.2.2.length + (mAl 163).1, mSum σ.2.2.2 + (mAl 163).2) 163 P 0 [.ref a0, .int a1] [] σ := by
  obtain ⟨d, rfl⟩ : ∃ d, D = d + 1 := ⟨D - 1, by omega⟩
  exact propext ⟨fun h => h.2, fun h => ⟨Nat.le_of_ble_eq_true rfl, h⟩⟩
theorem e_164 {X : mX} {D : Nat} {P : mPost} {σ : mS} {a0 : Nat} {a1 : Int32} {a2 : Int32} (hD : 1 ≤ D) : mCall X D 164 [.ref a0, .int a1, .int a2] σ P = mW (mCall X (D - 1)) X (σ.2.2.2.length + (mAl 164).1, mSum σ.2.2.2 + (mAl 164).2) 164 P 0 [.ref a0, .int a1, .int a2, .null, .null, .null, .null] [] σ := by
  obtain ⟨d, rfl⟩ : ∃ d, D = d + 1 := ⟨D - 1, by omega⟩
  exact propext ⟨fun h => h.2, fun h => ⟨Nat.le_of_ble_eq_true rfl, h⟩⟩
theorem e_165 {X : mX} {D : Nat} {P : mPost} {σ : mS} {a0 : Nat} {a1 : Int32} (hD : 1 ≤ D) : mCall X D 165 [.ref a0, .int a1] σ P = mW (mCall X (D - 1)) X (σ.2.2.2.length + (mAl 165).1, mSum σ.2.2.2 + (mAl 165).2) 165 P 0 [.ref a0, .int a1, .null] [] σ := by
  obtain ⟨d, rfl⟩ : ∃ d, D = d + 1 := ⟨D - 1, by omega⟩
  exact propext ⟨fun h => h.2, fun h => ⟨Nat.le_of_ble_eq_true rfl, h⟩⟩
theorem e_166 {X : mX} {D : Nat} {P : mPost} {σ : mS} {a0 : Nat} {a1 : Int32} (hD : 1 ≤ D) : mCall X D 166 [.ref a0, .int a1] σ P = mW (mCall X (D - 1)) X (σ.2.2.2.length + (mAl 166).1, mSum σ.2.2.2 + (mAl 166).2) 166 P 0 [.ref a0, .int a1] [] σ := by
  obtain ⟨d, rfl⟩ : ∃ d, D = d + 1 := ⟨D - 1, by omega⟩
  exact propext ⟨fun h => h.2, fun h => ⟨Nat.le_of_ble_eq_true rfl, h⟩⟩
theorem e_167 {X : mX} {D : Nat} {P : mPost} {σ : mS} {a0 : Nat} {a1 : Int32} {a2 : Int32} {a3 : Int32} (hD : 1 ≤ D) : mCall X D 167 [.ref a0, .int a1, .int a2, .int a3] σ P = mW (mCall X (D - 1)) X (σ.2.2.2.length + (mAl 167).1, mSum σ.2.2.2 + (mAl 167).2) 167 P 0 [.ref a0, .int a1, .int a2, .int a3, .null] [] σ := by
  obtain ⟨d, rfl⟩ : ∃ d, D = d + 1 := ⟨D - 1, by omega⟩
  exact propext ⟨fun h => h.2, fun h => ⟨Nat.le_of_ble_eq_true rfl, h⟩⟩
theorem e_168 {X : mX} {D : Nat} {P : mPost} {σ : mS} {a0 : Nat} {a1 : Int32} {a2 : Int32} {a3 : Int32} {a4 : Int32} (hD : 1 ≤ D) : mCall X D 168 [.ref a0, .int a1, .int a2, .int a3, .int a4] σ P = mW (mCall X (D - 1)) X (σ.2.2.2.length + (mAl 168).1, mSum σ.2.2.2 + (mAl 168).2) 168 P 0 [.ref a0, .int a1, .int a2, .int a3, .int a4, .null, .null, .null, .null, .null] [] σ := by
  obtain ⟨d, rfl⟩ : ∃ d, D = d + 1 := ⟨D - 1, by omega⟩
  exact propext ⟨fun h => h.2, fun h => ⟨Nat.le_of_ble_eq_true rfl, h⟩⟩
theorem e_169 {X : mX} {D : Nat} {P : mPost} {σ : mS} {a0 : Nat} {a1 : Int32} {a2 : Int32} (hD : 1 ≤ D) : mCall X D 169 [.ref a0, .int a1, .int a2] σ P = mW (mCall X (D - 1)) X (σ.2.2.2.length + (mAl 169).1, mSum σ.2.2.2 + (mAl 169).2) 169 P 0 [.ref a0, .int a1, .int a2] [] σ := by
  obtain ⟨d, rfl⟩ : ∃ d, D = d + 1 := ⟨D - 1, by omega⟩
  exact propext ⟨fun h => h.2, fun h => ⟨Nat.le_of_ble_eq_true rfl, h⟩⟩
theorem e_170 {X : mX} {D : Nat} {P : mPost} {σ : mS} {a0 : Nat} {a1 : Int32} {a2 : Int32} (hD : 1 ≤ D) : mCall X D 170 [.ref a0, .int a1, .int a2] σ P = mW (mCall X (D - 1)) X (σ.2.2.2.length + (mAl 170).1, mSum σ.2.2.2 + (mAl 170).2) 170 P 0 [.ref a0, .int a1, .int a2] [] σ := by
  obtain ⟨d, rfl⟩ : ∃ d, D = d + 1 := ⟨D - 1, by omega⟩
  exact propext ⟨fun h => h.2, fun h => ⟨Nat.le_of_ble_eq_true rfl, h⟩⟩
theorem e_171 {X : mX} {D : Nat} {P : mPost} {σ : mS} {a0 : Nat} {a1 : Int32} (hD : 1 ≤ D) : mCall X D 171 [.ref a0, .int a1] σ P = mW (mCall X (D - 1)) X (σ.2.2.2.length + (mAl 171).1, mSum σ.2.2.2 + (mAl 171).2) 171 P 0 [.ref a0, .int a1] [] σ := by
  obtain ⟨d, rfl⟩ : ∃ d, D = d + 1 := ⟨D - 1, by omega⟩
  exact propext ⟨fun h => h.2, fun h => ⟨Nat.le_of_ble_eq_true rfl, h⟩⟩
theorem e_172 {X : mX} {D : Nat} {P : mPost} {σ : mS} {a0 : Nat} {a1 : Int32} {a2 : Int32} (hD : 1 ≤ D) : mCall X D 172 [.ref a0, .int a1, .int a2] σ P = mW (mCall X (D - 1)) X (σ.2.2.2.length + (mAl 172).1, mSum σ.2.2.2 + (mAl 172).2) 172 P 0 [.ref a0, .int a1, .int a2] [] σ := by
  obtain ⟨d, rfl⟩ : ∃ d, D = d + 1 := ⟨D - 1, by omega⟩
  exact propext ⟨fun h => h.2, fun h => ⟨Nat.le_of_ble_eq_true rfl, h⟩⟩
theorem e_173 {X : mX} {D : Nat} {P : mPost} {σ : mS} {a0 : Nat} {a1 : Int32} {a2 : Int32} (hD : 1 ≤ D) : mCall X D 173 [.ref a0, .int a1, .int a2] σ P = mW (mCall X (D - 1)) X (σ.2.2.2.length + (mAl 173).1, mSum σ.2.2.2 + (mAl 173).2) 173 P 0 [.ref a0, .int a1, .int a2, .null] [] σ := by
  obtain ⟨d, rfl⟩ : ∃ d, D = d + 1 := ⟨D - 1, by omega⟩
  exact propext ⟨fun h => h.2, fun h => ⟨Nat.le_of_ble_eq_true rfl, h⟩⟩
theorem e_174 {X : mX} {D : Nat} {P : mPost} {σ : mS} {a0 : Nat} {a1 : Int32} {a2 : Int32} (hD : 1 ≤ D) : mCall X D 174 [.ref a0, .int a1, .int a2] σ P = mW (mCall X (D - 1)) X (σ.2.2.2.length + (mAl 174).1, mSum σ.2.2.2 + (mAl 174).2) 174 P 0 [.ref a0, .int a1, .int a2] [] σ := by
  obtain ⟨d, rfl⟩ : ∃ d, D = d + 1 := ⟨D - 1, by omega⟩
  exact propext ⟨fun h => h.2, fun h => ⟨Nat.le_of_ble_eq_true rfl, h⟩⟩
theorem e_175 {X : mX} {D : Nat} {P : mPost} {σ : mS} {a0 : Nat} {a1 : Int32} {a2 : Int32} (hD : 1 ≤ D) : mCall X D 175 [.ref a0, .int a1, .int a2] σ P = mW (mCall X (D - 1)) X (σ.2.2.2.length + (mAl 175).1, mSum σ.2.2.2 + (mAl 175).2) 175 P 0 [.ref a0, .int a1, .int a2] [] σ := by
  obtain ⟨d, rfl⟩ : ∃ d, D = d + 1 := ⟨D - 1, by omega⟩
  exact propext ⟨fun h => h.2, fun h => ⟨Nat.le_of_ble_eq_true rfl, h⟩⟩
theorem e_176 {X : mX} {D : Nat} {P : mPost} {σ : mS} {a0 : Nat} {a1 : Int32} (hD : 1 ≤ D) : mCall X D 176 [.ref a0, .int a1] σ P = mW (mCall X (D - 1)) X (σ.2.2.2.length + (mAl 176).1, mSum σ.2.2.2 + (mAl 176).2) 176 P 0 [.ref a0, .int a1, .null, .null] [] σ := by
  obtain ⟨d, rfl⟩ : ∃ d, D = d + 1 := ⟨D - 1, by omega⟩
  exact propext ⟨fun h => h.2, fun h => ⟨Nat.le_of_ble_eq_true rfl, h⟩⟩
theorem e_177 {X : mX} {D : Nat} {P : mPost} {σ : mS} {a0 : Nat} {a1 : Int32} (hD : 1 ≤ D) : mCall X D 177 [.ref a0, .int a1] σ P = mW (mCall X (D - 1)) X (σ.2.2.2.length + (mAl 177).1, mSum σ.2.2.2 + (mAl 177).2) 177 P 0 [.ref a0, .int a1] [] σ := by
  obtain ⟨d, rfl⟩ : ∃ d, D = d + 1 := ⟨D - 1, by omega⟩
  exact propext ⟨fun h => h.2, fun h => ⟨Nat.le_of_ble_eq_true rfl, h⟩⟩
theorem e_178 {X : mX} {D : Nat} {P : mPost} {σ : mS} {a0 : Nat} {a1 : Int32} {a2 : Int32} (hD : 1 ≤ D) : mCall X D 178 [.ref a0, .int a1, .int a2] σ P = mW (mCall X (D - 1)) X (σ.2.2.2.length + (mAl 178).1, mSum σ.2.2.2 + (mAl 178).2) 178 P 0 [.ref a0, .int a1, .int a2, .null] [] σ := by
  obtain ⟨d, rfl⟩ : ∃ d, D = d + 1 := ⟨D - 1, by omega⟩
  exact propext ⟨fun h => h.2, fun h => ⟨Nat.le_of_ble_eq_true rfl, h⟩⟩
theorem e_179 {X : mX} {D : Nat} {P : mPost} {σ : mS} {a0 : Nat} {a1 : Int32} {a2 : Int32} {a3 : Int32} (hD : 1 ≤ D) : mCall X D 179 [.ref a0, .int a1, .int a2, .int a3] σ P = mW (mCall X (D - 1)) X (σ.2.2.2.length + (mAl 179).1, mSum σ.2.2.2 + (mAl 179).2) 179 P 0 [.ref a0, .int a1, .int a2, .int a3, .null] [] σ := by
  obtain ⟨d, rfl⟩ : ∃ d, D = d + 1 := ⟨D - 1, by omega⟩
  exact propext ⟨fun h => h.2, fun h => ⟨Nat.le_of_ble_eq_true rfl, h⟩⟩
theorem e_180 {X : mX} {D : Nat} {P : mPost} {σ : mS} {a0 : Nat} {a1 : Int32} {a2 : Int32} {a3 : Int32} (hD : 1 ≤ D) : mCall X D 180 [.ref a0, .int a1, .int a2, .int a3] σ P = mW (mCall X (D - 1)) X (σ.2.2.2.length + (mAl 180).1, mSum σ.2.2.2 + (mAl 180).2) 180 P 0 [.ref a0, .int a1, .int a2, .int a3, .null] [] σ := by
  obtain ⟨d, rfl⟩ : ∃ d, D = d + 1 := ⟨D - 1, by omega⟩
  exact propext ⟨fun h => h.2, fun h => ⟨Nat.le_of_ble_eq_true rfl, h⟩⟩
theorem e_181 {X : mX} {D : Nat} {P : mPost} {σ : mS} {a0 : Nat} {a1 : Int32} (hD : 1 ≤ D) : mCall X D 181 [.ref a0, .int a1] σ P = mW (mCall X (D - 1)) X (σ.2.2.2.length + (mAl 181).1, mSum σ.2.2.2 + (mAl 181).2) 181 P 0 [.ref a0, .int a1] [] σ := by
  obtain ⟨d, rfl⟩ : ∃ d, D = d + 1 := ⟨D - 1, by omega⟩
  exact propext ⟨fun h => h.2, fun h => ⟨Nat.le_of_ble_eq_true rfl, h⟩⟩
