/-! THE SMALL MACHINE: the methods' bytecode over cells that are told by numbers, ints as functions of (cell, place) -/
abbrev mE : Type := Nat × Nat × Nat × Nat × Value × List (Int32 × Nat)
abbrev mI : Type := Nat → Nat → Int32
abbrev mQ : Type := Nat → Nat → Option Nat
abbrev mG : Type := Nat → Nat → Int64
abbrev mS : Type := mI × mQ × mG × List (Nat × Nat)
abbrev mX : Type := Nat × (Nat → Int32)
abbrev mPost : Type := Option Value → mS → Prop
abbrev mWt : Type := Nat → List Value → List Value → mS → Prop
abbrev mCal : Type := Nat → List Value → mS → mPost → Prop
abbrev mOp : Type := mCal → mX → Nat × Nat → mPost → mWt → Nat → Nat → Nat → Value → List (Int32 × Nat) → List Value → List Value → mS → Prop
def mU (M : mI) (c i : Nat) (x : Int32) : mI := fun k => if k = c then upd (M k) i x else M k
def mV {α : Type} (F : Nat → Nat → α) (c i : Nat) (z : α) : Nat → Nat → α := fun k j => if k = c ∧ j = i then z else F k j
def mOk (u : Value) : Bool := match u with
  | .retAddr _ => false
  | _ => true
def mLk (lv : List Value) (a : Nat) : Prop := (lv[a]?).any mOk = true
def mC1 (u : Value) : Prop := u.category = 1
def mB (x : Int32) : Prop := x = 0 ∨ x = 1
def mSum (sh : List (Nat × Nat)) : Nat := (sh.map (fun p => p.2)).sum
def mFac : List Int32 := [1, 1, 2, 6, 24, 120, 720, 5040, 40320, 362880, 3628800, 39916800, 479001600]
def mStr : List (List Int32) := [[105, 102], [97, 110, 100], [110, 111, 116], [112, 97, 114, 116], [119, 104, 111, 108, 101], [110, 111, 110, 101], [100, 97, 121, 115], [112, 114, 105, 99, 101], [115, 105, 122, 101], [114, 111, 119], [98, 97, 99, 107]]
/-- the cells that nobody writes: 1000 the script, 1001 the factorials, 1200 on the constants' bytes -/
def mExt (X : mX) (c : Nat) : Option (Nat × Nat × (Nat → Int32)) :=
  if c = 1000 then some (21, X.1, X.2) else if c = 1001 then some (21, 13, fun i => mFac.getD i 0)
  else if 1200 ≤ c ∧ c < 1211 then some (20, (mStr.getD (c - 1200) []).length, fun i => (mStr.getD (c - 1200) []).getD i 0) else none
def mRd (X : mX) (M : mI) (sh : List (Nat × Nat)) (c : Nat) : Option (Nat × Nat × (Nat → Int32)) := match sh[c]? with
  | some p => some (p.1, p.2, M c)
  | none => mExt X c
def mNew (σ : mS) (a n : Nat) : mS := (fun k => if k = σ.2.2.2.length then fun _ => 0 else σ.1 k, fun k => if k = σ.2.2.2.length then fun _ => none else σ.2.1 k, fun k => if k = σ.2.2.2.length then fun _ => 0 else σ.2.2.1 k, σ.2.2.2 ++ [(a, n)])
def mNewG (σ : mS) (n k : Nat) : mS := (fun c => if σ.2.2.2.length ≤ c ∧ c ≤ σ.2.2.2.length + n then fun _ => 0 else σ.1 c, fun c => if c = σ.2.2.2.length then fun i => if i < n then some (σ.2.2.2.length + 1 + i) else none else σ.2.1 c, σ.2.2.1, σ.2.2.2 ++ ((24, n) :: List.replicate n (21, k)))
def mCpy (M : mI) (c d i j n : Nat) : mI := fun k => if k = d then va_cpy (M c) (M d) i j n else M k
def mCM (cal : mCal) : Prop := ∀ (md : Nat) (args : List Value) (σ : mS) (Q1 Q2 : mPost), (∀ v s, Q1 v s → Q2 v s) → cal md args σ Q1 → cal md args σ Q2
def mMono (o : mOp) : Prop := ∀ (cal : mCal) (X : mX) (cap : Nat × Nat) (Q1 Q2 : mPost) (W1 W2 : mWt) (nx a b : Nat) (v : Value) (sw : List (Int32 × Nat)) (lv st : List Value) (σ : mS), mCM cal → (∀ v s, Q1 v s → Q2 v s) → (∀ pc lv st σ, W1 pc lv st σ → W2 pc lv st σ) → o cal X cap Q1 W1 nx a b v sw lv st σ → o cal X cap Q2 W2 nx a b v sw lv st σ
def mUp (o : mOp) : Prop := ∀ (c1 c2 : mCal) (X : mX) (cap : Nat × Nat) (Q : mPost) (W : mWt) (nx a b : Nat) (v : Value) (sw : List (Int32 × Nat)) (lv st : List Value) (σ : mS), (∀ a p s R, c1 a p s R → c2 a p s R) → o c1 X cap Q W nx a b v sw lv st σ → o c2 X cap Q W nx a b v sw lv st σ
def RX0 : String := "TicketsDrawn$Asks"
def TX0 : u_T := fun k => match k with
  | 0 => ("TicketsDrawn$Asks", "count", "I", false)
  | 1 => ("TicketsDrawn$Asks", "size", "[I", true)
  | 2 => ("TicketsDrawn$Asks", "most", "[I", true)
  | 3 => ("TicketsDrawn$Asks", "marks", "[I", true)
  | _ => ("TicketsDrawn$Asks", "parted", "[Z", true)
def tyX0 : Nat → FieldType := fun k => match k with
  | 0 => .int
  | 1 => .array .int
  | 2 => .array .int
  | 3 => .array .int
  | _ => .array .boolean
theorem nmX0 : ∀ a, a < 5 → ∀ b, b < 5 → a ≠ b → (TX0 a).2.1 ≠ (TX0 b).2.1 := by decide +kernel
theorem tyX0_ok : ∀ k, k < 5 → parseFieldDescriptor (TX0 k).2.2.1 = some (tyX0 k) := by decide +kernel
def RX1 : String := "TicketsDrawn$Hall"
def TX1 : u_T := fun k => match k with
  | 0 => ("TicketsDrawn$Hall", "seated", "Z", false)
  | 1 => ("TicketsDrawn$Hall", "daysLeft", "I", false)
  | 2 => ("TicketsDrawn$Hall", "inLine", "I", false)
  | 3 => ("TicketsDrawn$Hall", "line", "[I", true)
  | 4 => ("TicketsDrawn$Hall", "free", "[I", true)
  | 5 => ("TicketsDrawn$Hall", "opened", "[I", true)
  | 6 => ("TicketsDrawn$Hall", "held", "[I", true)
  | 7 => ("TicketsDrawn$Hall", "paid", "[I", true)
  | 8 => ("TicketsDrawn$Hall", "refunds", "[I", true)
  | _ => ("TicketsDrawn$Hall", "took", "[[I", true)
def tyX1 : Nat → FieldType := fun k => match k with
  | 0 => .boolean
  | 1 => .int
  | 2 => .int
  | 3 => .array .int
  | 4 => .array .int
  | 5 => .array .int
  | 6 => .array .int
  | 7 => .array .int
  | 8 => .array .int
  | _ => .array (.array .int)
theorem nmX1 : ∀ a, a < 10 → ∀ b, b < 10 → a ≠ b → (TX1 a).2.1 ≠ (TX1 b).2.1 := by decide +kernel
theorem tyX1_ok : ∀ k, k < 10 → parseFieldDescriptor (TX1 k).2.2.1 = some (tyX1 k) := by decide +kernel
def RX2 : String := "TicketsDrawn$Order"
def TX2 : u_T := fun k => match k with
  | _ => ("TicketsDrawn$Order", "asks", "[I", true)
def tyX2 : Nat → FieldType := fun k => match k with
  | _ => .array .int
theorem nmX2 : ∀ a, a < 1 → ∀ b, b < 1 → a ≠ b → (TX2 a).2.1 ≠ (TX2 b).2.1 := by decide +kernel
theorem tyX2_ok : ∀ k, k < 1 → parseFieldDescriptor (TX2 k).2.2.1 = some (tyX2 k) := by decide +kernel
def RX3 : String := "TicketsDrawn$Reader"
def TX3 : u_T := fun k => match k with
  | 0 => ("TicketsDrawn$Reader", "draft", "LTicketsDrawn$Rules;", true)
  | 1 => ("TicketsDrawn$Reader", "faultKind", "I", false)
  | 2 => ("TicketsDrawn$Reader", "faultPlace", "I", false)
  | 3 => ("TicketsDrawn$Reader", "tokens", "LTicketsDrawn$Tokens;", true)
  | _ => ("TicketsDrawn$Reader", "next", "I", false)
def tyX3 : Nat → FieldType := fun k => match k with
  | 0 => .object "TicketsDrawn$Rules"
  | 1 => .int
  | 2 => .int
  | 3 => .object "TicketsDrawn$Tokens"
  | _ => .int
theorem nmX3 : ∀ a, a < 5 → ∀ b, b < 5 → a ≠ b → (TX3 a).2.1 ≠ (TX3 b).2.1 := by decide +kernel
theorem tyX3_ok : ∀ k, k < 5 → parseFieldDescriptor (TX3 k).2.2.1 = some (tyX3 k) := by decide +kernel
def RX4 : String := "TicketsDrawn$Rows"
def TX4 : u_T := fun k => match k with
  | 0 => ("TicketsDrawn$Rows", "count", "I", false)
  | 1 => ("TicketsDrawn$Rows", "seats", "[I", true)
  | _ => ("TicketsDrawn$Rows", "price", "[I", true)
def tyX4 : Nat → FieldType := fun k => match k with
  | 0 => .int
  | 1 => .array .int
  | _ => .array .int
theorem nmX4 : ∀ a, a < 3 → ∀ b, b < 3 → a ≠ b → (TX4 a).2.1 ≠ (TX4 b).2.1 := by decide +kernel
theorem tyX4_ok : ∀ k, k < 3 → parseFieldDescriptor (TX4 k).2.2.1 = some (tyX4 k) := by decide +kernel
def RX5 : String := "TicketsDrawn$Rules"
def TX5 : u_T := fun k => match k with
  | 0 => ("TicketsDrawn$Rules", "lines", "I", false)
  | 1 => ("TicketsDrawn$Rules", "percent", "[I", true)
  | 2 => ("TicketsDrawn$Rules", "tests", "[I", true)
  | 3 => ("TicketsDrawn$Rules", "fact", "[I", true)
  | 4 => ("TicketsDrawn$Rules", "sign", "[I", true)
  | 5 => ("TicketsDrawn$Rules", "number", "[I", true)
  | 6 => ("TicketsDrawn$Rules", "negated", "[Z", true)
  | _ => ("TicketsDrawn$Rules", "known", "[I", true)
def tyX5 : Nat → FieldType := fun k => match k with
  | 0 => .int
  | 1 => .array .int
  | 2 => .array .int
  | 3 => .array .int
  | 4 => .array .int
  | 5 => .array .int
  | 6 => .array .boolean
  | _ => .array .int
theorem nmX5 : ∀ a, a < 8 → ∀ b, b < 8 → a ≠ b → (TX5 a).2.1 ≠ (TX5 b).2.1 := by decide +kernel
theorem tyX5_ok : ∀ k, k < 8 → parseFieldDescriptor (TX5 k).2.2.1 = some (tyX5 k) := by decide +kernel
def RX6 : String := "TicketsDrawn$State"
def TX6 : u_T := fun k => match k with
  | 0 => ("TicketsDrawn$State", "rows", "LTicketsDrawn$Rows;", true)
  | 1 => ("TicketsDrawn$State", "asks", "LTicketsDrawn$Asks;", true)
  | 2 => ("TicketsDrawn$State", "hall", "LTicketsDrawn$Hall;", true)
  | 3 => ("TicketsDrawn$State", "rules", "LTicketsDrawn$Rules;", true)
  | 4 => ("TicketsDrawn$State", "tape", "LTicketsDrawn$Tape;", true)
  | 5 => ("TicketsDrawn$State", "faultKind", "I", false)
  | _ => ("TicketsDrawn$State", "faultPlace", "I", false)
def tyX6 : Nat → FieldType := fun k => match k with
  | 0 => .object "TicketsDrawn$Rows"
  | 1 => .object "TicketsDrawn$Asks"
  | 2 => .object "TicketsDrawn$Hall"
  | 3 => .object "TicketsDrawn$Rules"
  | 4 => .object "TicketsDrawn$Tape"
  | 5 => .int
  | _ => .int
theorem nmX6 : ∀ a, a < 7 → ∀ b, b < 7 → a ≠ b → (TX6 a).2.1 ≠ (TX6 b).2.1 := by decide +kernel
theorem tyX6_ok : ∀ k, k < 7 → parseFieldDescriptor (TX6 k).2.2.1 = some (tyX6 k) := by decide +kernel
def RX7 : String := "TicketsDrawn$Tape"
def TX7 : u_T := fun k => match k with
  | 0 => ("TicketsDrawn$Tape", "length", "I", false)
  | _ => ("TicketsDrawn$Tape", "bytes", "[I", true)
def tyX7 : Nat → FieldType := fun k => match k with
  | 0 => .int
  | _ => .array .int
theorem nmX7 : ∀ a, a < 2 → ∀ b, b < 2 → a ≠ b → (TX7 a).2.1 ≠ (TX7 b).2.1 := by decide +kernel
theorem tyX7_ok : ∀ k, k < 2 → parseFieldDescriptor (TX7 k).2.2.1 = some (tyX7 k) := by decide +kernel
def RX8 : String := "TicketsDrawn$Tokens"
def TX8 : u_T := fun k => match k with
  | 0 => ("TicketsDrawn$Tokens", "many", "I", false)
  | 1 => ("TicketsDrawn$Tokens", "kind", "[I", true)
  | 2 => ("TicketsDrawn$Tokens", "value", "[I", true)
  | _ => ("TicketsDrawn$Tokens", "start", "[I", true)
def tyX8 : Nat → FieldType := fun k => match k with
  | 0 => .int
  | 1 => .array .int
  | 2 => .array .int
  | _ => .array .int
theorem nmX8 : ∀ a, a < 4 → ∀ b, b < 4 → a ≠ b → (TX8 a).2.1 ≠ (TX8 b).2.1 := by decide +kernel
theorem tyX8_ok : ∀ k, k < 4 → parseFieldDescriptor (TX8 k).2.2.1 = some (tyX8 k) := by decide +kernel
def RX9 : String := "TicketsDrawn$Trial"
def TX9 : u_T := fun k => match k with
  | 0 => ("TicketsDrawn$Trial", "sharesKnown", "Z", false)
  | 1 => ("TicketsDrawn$Trial", "shares", "[I", true)
  | 2 => ("TicketsDrawn$Trial", "taken", "[I", true)
  | _ => ("TicketsDrawn$Trial", "free", "[[I", true)
def tyX9 : Nat → FieldType := fun k => match k with
  | 0 => .boolean
  | 1 => .array .int
  | 2 => .array .int
  | _ => .array (.array .int)
theorem nmX9 : ∀ a, a < 4 → ∀ b, b < 4 → a ≠ b → (TX9 a).2.1 ≠ (TX9 b).2.1 := by decide +kernel
theorem tyX9_ok : ∀ k, k < 4 → parseFieldDescriptor (TX9 k).2.2.1 = some (tyX9 k) := by decide +kernel
def RX10 : String := "TicketsDrawn"
def TX10 : u_T := fun k => match k with
  | 0 => ("TicketsDrawn", "now", "LTicketsDrawn$State;", true)
  | 1 => ("TicketsDrawn", "images", "[LTicketsDrawn$State;", true)
  | 2 => ("TicketsDrawn", "kept", "[Z", true)
  | 3 => ("TicketsDrawn", "order", "LTicketsDrawn$Order;", true)
  | 4 => ("TicketsDrawn", "trial", "LTicketsDrawn$Trial;", true)
  | _ => ("TicketsDrawn", "reader", "LTicketsDrawn$Reader;", true)
def tyX10 : Nat → FieldType := fun k => match k with
  | 0 => .object "TicketsDrawn$State"
  | 1 => .array (.object "TicketsDrawn$State")
  | 2 => .array .boolean
  | 3 => .object "TicketsDrawn$Order"
  | 4 => .object "TicketsDrawn$Trial"
  | _ => .object "TicketsDrawn$Reader"
theorem nmX10 : ∀ a, a < 6 → ∀ b, b < 6 → a ≠ b → (TX10 a).2.1 ≠ (TX10 b).2.1 := by decide +kernel
theorem tyX10_ok : ∀ k, k < 6 → parseFieldDescriptor (TX10 k).2.2.1 = some (tyX10 k) := by decide +kernel
def RX11 : String := "TicketsDrawnModel"
def TX11 : u_T := fun k => match k with
  | 0 => ("TicketsDrawnModel", "code", "I", false)
  | 1 => ("TicketsDrawnModel", "tape", "[B", true)
  | 2 => ("TicketsDrawnModel", "size", "[I", true)
  | 3 => ("TicketsDrawnModel", "fault", "[I", true)
  | 4 => ("TicketsDrawnModel", "faultPlace", "[I", true)
  | 5 => ("TicketsDrawnModel", "rows", "[I", true)
  | 6 => ("TicketsDrawnModel", "wide", "[I", true)
  | 7 => ("TicketsDrawnModel", "price", "[I", true)
  | 8 => ("TicketsDrawnModel", "asks", "[I", true)
  | 9 => ("TicketsDrawnModel", "want", "[I", true)
  | 10 => ("TicketsDrawnModel", "most", "[I", true)
  | 11 => ("TicketsDrawnModel", "mark", "[I", true)
  | 12 => ("TicketsDrawnModel", "parted", "[Z", true)
  | 13 => ("TicketsDrawnModel", "seated", "[Z", true)
  | 14 => ("TicketsDrawnModel", "left", "[I", true)
  | 15 => ("TicketsDrawnModel", "paid", "[I", true)
  | 16 => ("TicketsDrawnModel", "refund", "[I", true)
  | 17 => ("TicketsDrawnModel", "lineMany", "[I", true)
  | 18 => ("TicketsDrawnModel", "line", "[I", true)
  | 19 => ("TicketsDrawnModel", "opened", "[Z", true)
  | 20 => ("TicketsDrawnModel", "lines", "[I", true)
  | 21 => ("TicketsDrawnModel", "lineTests", "[I", true)
  | 22 => ("TicketsDrawnModel", "testWhat", "[I", true)
  | 23 => ("TicketsDrawnModel", "testSign", "[I", true)
  | 24 => ("TicketsDrawnModel", "testThan", "[I", true)
  | 25 => ("TicketsDrawnModel", "linePart", "[I", true)
  | 26 => ("TicketsDrawnModel", "owner", "[I", true)
  | 27 => ("TicketsDrawnModel", "many", "[I", true)
  | 28 => ("TicketsDrawnModel", "took", "[I", true)
  | 29 => ("TicketsDrawnModel", "turns", "[I", true)
  | 30 => ("TicketsDrawnModel", "ahead", "I", false)
  | 31 => ("TicketsDrawnModel", "length", "I", false)
  | 32 => ("TicketsDrawnModel", "begins", "I", false)
  | 33 => ("TicketsDrawnModel", "sort", "I", false)
  | 34 => ("TicketsDrawnModel", "value", "I", false)
  | 35 => ("TicketsDrawnModel", "word", "J", false)
  | 36 => ("TicketsDrawnModel", "wrongAt", "I", false)
  | 37 => ("TicketsDrawnModel", "laterFault", "I", false)
  | 38 => ("TicketsDrawnModel", "laterPlace", "I", false)
  | 39 => ("TicketsDrawnModel", "newLines", "I", false)
  | 40 => ("TicketsDrawnModel", "newTests", "[I", true)
  | 41 => ("TicketsDrawnModel", "newWhat", "[I", true)
  | 42 => ("TicketsDrawnModel", "newSign", "[I", true)
  | 43 => ("TicketsDrawnModel", "newThan", "[I", true)
  | 44 => ("TicketsDrawnModel", "newPart", "[I", true)
  | _ => ("TicketsDrawnModel", "kept", "[Z", true)
def tyX11 : Nat → FieldType := fun k => match k with
  | 0 => .int
  | 1 => .array .byte
  | 2 => .array .int
  | 3 => .array .int
  | 4 => .array .int
  | 5 => .array .int
  | 6 => .array .int
  | 7 => .array .int
  | 8 => .array .int
  | 9 => .array .int
  | 10 => .array .int
  | 11 => .array .int
  | 12 => .array .boolean
  | 13 => .array .boolean
  | 14 => .array .int
  | 15 => .array .int
  | 16 => .array .int
  | 17 => .array .int
  | 18 => .array .int
  | 19 => .array .boolean
  | 20 => .array .int
  | 21 => .array .int
  | 22 => .array .int
  | 23 => .array .int
  | 24 => .array .int
  | 25 => .array .int
  | 26 => .array .int
  | 27 => .array .int
  | 28 => .array .int
  | 29 => .array .int
  | 30 => .int
  | 31 => .int
  | 32 => .int
  | 33 => .int
  | 34 => .int
  | 35 => .long
  | 36 => .int
  | 37 => .int
  | 38 => .int
  | 39 => .int
  | 40 => .array .int
  | 41 => .array .int
  | 42 => .array .int
  | 43 => .array .int
  | 44 => .array .int
  | _ => .array .boolean
theorem nmX11 : ∀ a, a < 46 → ∀ b, b < 46 → a ≠ b → (TX11 a).2.1 ≠ (TX11 b).2.1 := by decide +kernel
theorem tyX11_ok : ∀ k, k < 46 → parseFieldDescriptor (TX11 k).2.2.1 = some (tyX11 k) := by decide +kernel
abbrev vwCl : List vw_C := [(RX0, TX0, 5), (RX1, TX1, 10), (RX2, TX2, 1), (RX3, TX3, 5), (RX4, TX4, 3), (RX5, TX5, 8), (RX6, TX6, 7), (RX7, TX7, 2), (RX8, TX8, 4), (RX9, TX9, 4), (RX10, TX10, 6), (RX11, TX11, 46)]
/-- the methods: name, bytes, how many locals, what it answers; 0 is the law -/
def mTl : List (MethodName × ByteArray × Nat × Option FieldType) := [(⟨"TicketsDrawnLaw", "law", "([I)Z"⟩, code, 4, (some .boolean)), (⟨"TicketsDrawn", "<init>", "()V"⟩, prog_1_method_1_code, 2, none), (⟨"java/lang/Object", "<init>", "()V"⟩, object_method_1_code, 1, none), (⟨"TicketsDrawn$State", "<init>", "()V"⟩, prog_8_method_1_code, 1, none), (⟨"TicketsDrawn$Rows", "<init>", "()V"⟩, prog_6_method_1_code, 1, none), (⟨"TicketsDrawn$Asks", "<init>", "()V"⟩, prog_2_method_1_code, 1, none), (⟨"TicketsDrawn$Hall", "<init>", "()V"⟩, prog_3_method_1_code, 1, none), (⟨"TicketsDrawn$Rules", "<init>", "()V"⟩, prog_7_method_1_code, 1, none), (⟨"TicketsDrawn$Tape", "<init>", "()V"⟩, prog_9_method_1_code, 1, none), (⟨"TicketsDrawn$Order", "<init>", "()V"⟩, prog_4_method_1_code, 1, none), (⟨"TicketsDrawn$Trial", "<init>", "()V"⟩, prog_11_method_1_code, 1, none), (⟨"TicketsDrawn$Reader", "<init>", "()V"⟩, prog_5_method_1_code, 1, none), (⟨"TicketsDrawn$Tokens", "<init>", "()V"⟩, prog_10_method_1_code, 1, none), (⟨"TicketsDrawn", "row", "(II)I"⟩, prog_1_method_2_code, 5, (some .int)), (⟨"TicketsDrawn$Rows", "add", "(II)I"⟩, prog_6_method_4_code, 3, (some .int)), (⟨"TicketsDrawn$Rows", "allOf", "(I)I"⟩, prog_6_method_5_code, 2, (some .int)), (⟨"TicketsDrawn", "ask", "(IIIZ)I"⟩, prog_1_method_3_code, 6, (some .int)), (⟨"TicketsDrawn$Asks", "add", "(IIIZ)I"⟩, prog_2_method_4_code, 5, (some .int)), (⟨"TicketsDrawn", "seat", "(II)I"⟩, prog_1_method_4_code, 3, (some .int)), (⟨"TicketsDrawn$Order", "arrange", "(LTicketsDrawn$Asks;II)Z"⟩, prog_4_method_2_code, 6, (some .boolean)), (⟨"TicketsDrawn$Order", "draw", "(II)V"⟩, prog_4_method_3_code, 6, none), (⟨"TicketsDrawn$Order", "moveDown", "(II)V"⟩, prog_4_method_5_code, 5, none), (⟨"TicketsDrawn$Order", "sortByMost", "(LTicketsDrawn$Asks;)V"⟩, prog_4_method_4_code, 4, none), (⟨"TicketsDrawn$Hall", "seatAll", "(LTicketsDrawn$Rows;LTicketsDrawn$Asks;[I)I"⟩, prog_3_method_4_code, 6, (some .int)), (⟨"TicketsDrawn$Hall", "sitsDown", "(LTicketsDrawn$Rows;LTicketsDrawn$Asks;I)Z"⟩, prog_3_method_5_code, 5, (some .boolean)), (⟨"TicketsDrawn$Rows", "takeTurn", "([ILTicketsDrawn$Asks;I[I)I"⟩, prog_6_method_13_code, 9, (some .int)), (⟨"TicketsDrawn$Rows", "bestBlock", "([III)I"⟩, prog_6_method_11_code, 11, (some .int)), (⟨"TicketsDrawn$Rows", "startsIn", "(II)I"⟩, prog_6_method_9_code, 4, (some .int)), (⟨"TicketsDrawn$Rows", "bestStart", "(III)I"⟩, prog_6_method_10_code, 7, (some .int)), (⟨"java/lang/Integer", "numberOfTrailingZeros", "(I)I"⟩, prog_14_method_48_code, 2, (some .int)), (⟨"TicketsDrawn$Rows", "takeBlock", "([III[II)V"⟩, prog_6_method_14_code, 6, none), (⟨"TicketsDrawn$Rows", "bitsOf", "(II)I"⟩, prog_6_method_8_code, 2, (some .int)), (⟨"TicketsDrawn$Rows", "freeUpTo", "([II)I"⟩, prog_6_method_12_code, 5, (some .int)), (⟨"java/lang/Integer", "bitCount", "(I)I"⟩, prog_14_method_49_code, 1, (some .int)), (⟨"TicketsDrawn", "clear", "()V"⟩, prog_1_method_5_code, 1, none), (⟨"TicketsDrawn$Hall", "emptyOut", "(LTicketsDrawn$Rows;)V"⟩, prog_3_method_3_code, 3, none), (⟨"TicketsDrawn$Rows", "freeAll", "([I)V"⟩, prog_6_method_6_code, 3, none), (⟨"TicketsDrawn", "would", "(II)I"⟩, prog_1_method_6_code, 3, (some .int)), (⟨"TicketsDrawn$Trial", "howManySit", "(LTicketsDrawn$Rows;LTicketsDrawn$Asks;[I)I"⟩, prog_11_method_2_code, 6, (some .int)), (⟨"TicketsDrawn", "share", "(I)I"⟩, prog_1_method_7_code, 2, (some .int)), (⟨"TicketsDrawn$Asks", "has", "(I)Z"⟩, prog_2_method_3_code, 2, (some .boolean)), (⟨"TicketsDrawn$Trial", "findShares", "(LTicketsDrawn$Rows;LTicketsDrawn$Asks;)V"⟩, prog_11_method_3_code, 4, none), (⟨"TicketsDrawn$Trial", "goOn", "(LTicketsDrawn$Trial;LTicketsDrawn$Rows;LTicketsDrawn$Asks;II)V"⟩, prog_11_method_4_code, 8, none), (⟨"TicketsDrawn", "turn", "(II)I"⟩, prog_1_method_8_code, 3, (some .int)), (⟨"TicketsDrawn", "heap", "(I)I"⟩, prog_1_method_9_code, 2, (some .int)), (⟨"TicketsDrawn$Asks", "leastOfHeap", "(I)I"⟩, prog_2_method_6_code, 4, (some .int)), (⟨"TicketsDrawn$Asks", "reachOut", "(I)I"⟩, prog_2_method_7_code, 5, (some .int)), (⟨"TicketsDrawn$Asks", "areAlike", "(II)Z"⟩, prog_2_method_5_code, 5, (some .boolean)), (⟨"TicketsDrawn", "alike", "(II)Z"⟩, prog_1_method_10_code, 3, (some .boolean)), (⟨"TicketsDrawn", "days", "(I)Z"⟩, prog_1_method_11_code, 2, (some .boolean)), (⟨"TicketsDrawn", "feed", "(IIIII)I"⟩, prog_1_method_12_code, 6, (some .int)), (⟨"TicketsDrawn$Tape", "hasRoom", "()Z"⟩, prog_9_method_3_code, 1, (some .boolean)), (⟨"TicketsDrawn$Tape", "addNumber", "(I)V"⟩, prog_9_method_4_code, 3, none), (⟨"TicketsDrawn", "end", "(I)I"⟩, prog_1_method_13_code, 2, (some .int)), (⟨"TicketsDrawn", "terms", "()I"⟩, prog_1_method_14_code, 2, (some .int)), (⟨"TicketsDrawn$Reader", "readAll", "(LTicketsDrawn$Tape;)Z"⟩, prog_5_method_2_code, 4, (some .boolean)), (⟨"TicketsDrawn$Tokens", "cutUp", "(LTicketsDrawn$Tape;)V"⟩, prog_10_method_2_code, 4, none), (⟨"TicketsDrawn$Tokens", "isBlank", "(I)Z"⟩, prog_10_method_8_code, 1, (some .boolean)), (⟨"TicketsDrawn$Tokens", "cutOne", "(LTicketsDrawn$Tape;I)I"⟩, prog_10_method_4_code, 6, (some .int)), (⟨"TicketsDrawn$Tokens", "isLetter", "(I)Z"⟩, prog_10_method_9_code, 1, (some .boolean)), (⟨"TicketsDrawn$Tokens", "wordKind", "(LTicketsDrawn$Tape;II)I"⟩, prog_10_method_6_code, 3, (some .int)), (⟨"TicketsDrawn$Tokens", "spells", "(LTicketsDrawn$Tape;IILjava/lang/String;)Z"⟩, prog_10_method_7_code, 5, (some .boolean)), (⟨"java/lang/String", "length", "()I"⟩, prog_15_method_54_code, 1, (some .int)), (⟨"java/lang/String", "coder", "()B"⟩, prog_15_method_152_code, 1, (some .byte)), (⟨"java/lang/String", "charAt", "(I)C"⟩, prog_15_method_56_code, 2, (some .char)), (⟨"java/lang/String", "isLatin1", "()Z"⟩, prog_15_method_154_code, 1, (some .boolean)), (⟨"java/lang/StringLatin1", "charAt", "([BI)C"⟩, prog_16_method_2_code, 2, (some .char)), (⟨"java/lang/String", "checkIndex", "(II)V"⟩, prog_15_method_155_code, 2, none), (⟨"jdk/internal/util/Preconditions", "checkIndex", "(IILjava/util/function/BiFunction;)I"⟩, prog_19_method_11_code, 3, (some .int)), (⟨"java/lang/StringUTF16", "charAt", "([BI)C"⟩, prog_17_method_83_code, 2, (some .char)), (⟨"java/lang/StringUTF16", "checkIndex", "(I[B)V"⟩, prog_17_method_91_code, 2, none), (⟨"java/lang/StringUTF16", "length", "([B)I"⟩, prog_17_method_6_code, 1, (some .int)), (⟨"java/lang/StringUTF16", "getChar", "([BI)C"⟩, prog_17_method_5_code, 2, (some .char)), (⟨"TicketsDrawn$Tokens", "put", "(III)V"⟩, prog_10_method_3_code, 4, none), (⟨"TicketsDrawn$Tokens", "isDigit", "(I)Z"⟩, prog_10_method_10_code, 1, (some .boolean)), (⟨"TicketsDrawn$Tokens", "numberIn", "(LTicketsDrawn$Tape;II)I"⟩, prog_10_method_5_code, 5, (some .int)), (⟨"TicketsDrawn$Tokens", "isSign", "(I)Z"⟩, prog_10_method_11_code, 1, (some .boolean)), (⟨"TicketsDrawn$Reader", "kindNow", "()I"⟩, prog_5_method_3_code, 1, (some .int)), (⟨"TicketsDrawn$Reader", "readLine", "(I)Z"⟩, prog_5_method_5_code, 3, (some .boolean)), (⟨"TicketsDrawn$Reader", "remember", "(I)V"⟩, prog_5_method_11_code, 2, none), (⟨"TicketsDrawn$Rules", "beginLine", "()V"⟩, prog_7_method_4_code, 1, none), (⟨"TicketsDrawn$Reader", "readTests", "()Z"⟩, prog_5_method_6_code, 3, (some .boolean)), (⟨"TicketsDrawn$Reader", "step", "()V"⟩, prog_5_method_4_code, 1, none), (⟨"TicketsDrawn$Reader", "readTest", "()Z"⟩, prog_5_method_7_code, 5, (some .boolean)), (⟨"TicketsDrawn$Reader", "refuse", "()Z"⟩, prog_5_method_10_code, 1, (some .boolean)), (⟨"TicketsDrawn$Reader", "pass", "(I)Z"⟩, prog_5_method_9_code, 2, (some .boolean)), (⟨"TicketsDrawn$Rules", "addTest", "(ZIII)V"⟩, prog_7_method_3_code, 6, none), (⟨"TicketsDrawn$Reader", "readPercent", "()I"⟩, prog_5_method_8_code, 2, (some .int)), (⟨"TicketsDrawn$Rules", "finishLine", "(I)V"⟩, prog_7_method_5_code, 2, none), (⟨"TicketsDrawn$Rules", "copyFrom", "(LTicketsDrawn$Rules;)V"⟩, prog_7_method_2_code, 2, none), (⟨"TicketsDrawn", "fault", "(I)I"⟩, prog_1_method_15_code, 2, (some .int)), (⟨"TicketsDrawn", "back", "(II)I"⟩, prog_1_method_16_code, 3, (some .int)), (⟨"TicketsDrawn$Hall", "mayGive", "(I)I"⟩, prog_3_method_7_code, 4, (some .int)), (⟨"TicketsDrawn$Hall", "hasOpened", "(I)Z"⟩, prog_3_method_8_code, 2, (some .boolean)), (⟨"TicketsDrawn$Hall", "giveBack", "(LTicketsDrawn$State;II)V"⟩, prog_3_method_9_code, 9, none), (⟨"TicketsDrawn$Rules", "percentFor", "(IIIII)I"⟩, prog_7_method_6_code, 7, (some .int)), (⟨"TicketsDrawn$Rules", "allHold", "(I)Z"⟩, prog_7_method_7_code, 4, (some .boolean)), (⟨"TicketsDrawn$Rules", "compares", "(III)Z"⟩, prog_7_method_8_code, 3, (some .boolean)), (⟨"TicketsDrawn$Hall", "callLine", "(LTicketsDrawn$Rows;LTicketsDrawn$Asks;)I"⟩, prog_3_method_6_code, 6, (some .int)), (⟨"TicketsDrawn", "door", "(II)Z"⟩, prog_1_method_17_code, 3, (some .boolean)), (⟨"TicketsDrawn", "at", "(II)I"⟩, prog_1_method_18_code, 3, (some .int)), (⟨"TicketsDrawn$Rows", "has", "(I)Z"⟩, prog_6_method_3_code, 2, (some .boolean)), (⟨"TicketsDrawn$Hall", "holderOf", "(LTicketsDrawn$Asks;I)I"⟩, prog_3_method_11_code, 5, (some .int)), (⟨"TicketsDrawn$Hall", "openDoor", "(II)Z"⟩, prog_3_method_10_code, 3, (some .boolean)), (⟨"TicketsDrawn", "tell", "(II)I"⟩, prog_1_method_19_code, 3, (some .int)), (⟨"TicketsDrawn$Hall", "placeInLine", "(I)I"⟩, prog_3_method_12_code, 3, (some .int)), (⟨"TicketsDrawn", "seats", "(II)I"⟩, prog_1_method_20_code, 3, (some .int)), (⟨"TicketsDrawn", "about", "(II)I"⟩, prog_1_method_21_code, 3, (some .int)), (⟨"TicketsDrawn$Rows", "holesIn", "(I)I"⟩, prog_6_method_7_code, 1, (some .int)), (⟨"TicketsDrawn", "count", "(I)I"⟩, prog_1_method_22_code, 2, (some .int)), (⟨"TicketsDrawn$Hall", "howManySit", "(LTicketsDrawn$Asks;)I"⟩, prog_3_method_13_code, 4, (some .int)), (⟨"TicketsDrawn$Hall", "freeSeats", "(LTicketsDrawn$Rows;)I"⟩, prog_3_method_14_code, 4, (some .int)), (⟨"TicketsDrawn$Hall", "holes", "(LTicketsDrawn$Rows;)I"⟩, prog_3_method_15_code, 4, (some .int)), (⟨"TicketsDrawn$Hall", "money", "(LTicketsDrawn$Asks;)I"⟩, prog_3_method_17_code, 4, (some .int)), (⟨"TicketsDrawn$Hall", "openDoors", "(LTicketsDrawn$Rows;)I"⟩, prog_3_method_16_code, 4, (some .int)), (⟨"TicketsDrawn", "image", "(I)Z"⟩, prog_1_method_23_code, 2, (some .boolean)), (⟨"TicketsDrawn$State", "copyFrom", "(LTicketsDrawn$State;)V"⟩, prog_8_method_2_code, 2, none), (⟨"TicketsDrawn$Rows", "copyFrom", "(LTicketsDrawn$Rows;)V"⟩, prog_6_method_2_code, 2, none), (⟨"TicketsDrawn$Asks", "copyFrom", "(LTicketsDrawn$Asks;)V"⟩, prog_2_method_2_code, 2, none), (⟨"TicketsDrawn$Hall", "copyFrom", "(LTicketsDrawn$Hall;)V"⟩, prog_3_method_2_code, 3, none), (⟨"TicketsDrawn$Tape", "copyFrom", "(LTicketsDrawn$Tape;)V"⟩, prog_9_method_2_code, 2, none), (⟨"TicketsDrawn", "again", "(I)Z"⟩, prog_1_method_24_code, 2, (some .boolean)), (⟨"TicketsDrawnModel", "<init>", "()V"⟩, prog_13_method_1_code, 2, none), (⟨"TicketsDrawnModel", "row", "(II)I"⟩, prog_13_method_10_code, 3, (some .int)), (⟨"TicketsDrawnModel", "in", "(III)Z"⟩, prog_13_method_3_code, 3, (some .boolean)), (⟨"TicketsDrawnModel", "ask", "(IIIZ)I"⟩, prog_13_method_11_code, 6, (some .int)), (⟨"TicketsDrawnModel", "seat", "(II)I"⟩, prog_13_method_26_code, 6, (some .int)), (⟨"TicketsDrawnModel", "setTurns", "(II)Z"⟩, prog_13_method_22_code, 3, (some .boolean)), (⟨"TicketsDrawnModel", "factorial", "(I)I"⟩, prog_13_method_19_code, 3, (some .int)), (⟨"TicketsDrawnModel", "byNumber", "(I)V"⟩, prog_13_method_20_code, 10, none), (⟨"TicketsDrawnModel", "byMost", "()V"⟩, prog_13_method_21_code, 3, none), (⟨"TicketsDrawnModel", "fill", "(I)I"⟩, prog_13_method_24_code, 4, (some .int)), (⟨"TicketsDrawnModel", "empty", "(I)V"⟩, prog_13_method_23_code, 3, none), (⟨"TicketsDrawnModel", "takesTurn", "(II)Z"⟩, prog_13_method_18_code, 6, (some .boolean)), (⟨"TicketsDrawnModel", "block", "(III)I"⟩, prog_13_method_16_code, 11, (some .int)), (⟨"TicketsDrawnModel", "holes", "(II)I"⟩, prog_13_method_14_code, 5, (some .int)), (⟨"TicketsDrawnModel", "isFree", "(III)Z"⟩, prog_13_method_12_code, 4, (some .boolean)), (⟨"TicketsDrawnModel", "setAll", "(IIIII)V"⟩, prog_13_method_15_code, 7, none), (⟨"TicketsDrawnModel", "sits", "(IIII)V"⟩, prog_13_method_17_code, 8, none), (⟨"TicketsDrawnModel", "free", "(II)I"⟩, prog_13_method_13_code, 5, (some .int)), (⟨"TicketsDrawnModel", "pays", "(I)V"⟩, prog_13_method_25_code, 3, none), (⟨"TicketsDrawnModel", "clear", "()V"⟩, prog_13_method_27_code, 2, none), (⟨"TicketsDrawnModel", "would", "(II)I"⟩, prog_13_method_28_code, 3, (some .int)), (⟨"TicketsDrawnModel", "share", "(I)I"⟩, prog_13_method_29_code, 6, (some .int)), (⟨"TicketsDrawnModel", "isAsk", "(I)Z"⟩, prog_13_method_7_code, 2, (some .boolean)), (⟨"TicketsDrawnModel", "turn", "(II)I"⟩, prog_13_method_30_code, 3, (some .int)), (⟨"TicketsDrawnModel", "heap", "(I)I"⟩, prog_13_method_32_code, 6, (some .int)), (⟨"TicketsDrawnModel", "areAlike", "(II)Z"⟩, prog_13_method_31_code, 4, (some .boolean)), (⟨"TicketsDrawnModel", "alike", "(II)Z"⟩, prog_13_method_33_code, 3, (some .boolean)), (⟨"TicketsDrawnModel", "days", "(I)Z"⟩, prog_13_method_34_code, 2, (some .boolean)), (⟨"TicketsDrawnModel", "feed", "(IIIII)I"⟩, prog_13_method_35_code, 6, (some .int)), (⟨"TicketsDrawnModel", "four", "(I)V"⟩, prog_13_method_36_code, 3, none), (⟨"TicketsDrawnModel", "end", "(I)I"⟩, prog_13_method_37_code, 2, (some .int)), (⟨"TicketsDrawnModel", "terms", "()I"⟩, prog_13_method_47_code, 4, (some .int)), (⟨"TicketsDrawnModel", "next", "()V"⟩, prog_13_method_39_code, 3, none), (⟨"TicketsDrawnModel", "see", "()I"⟩, prog_13_method_38_code, 1, (some .int)), (⟨"TicketsDrawnModel", "oneLine", "()Z"⟩, prog_13_method_45_code, 4, (some .boolean)), (⟨"TicketsDrawnModel", "later", "(II)V"⟩, prog_13_method_43_code, 3, none), (⟨"TicketsDrawnModel", "isWord", "(J)Z"⟩, prog_13_method_40_code, 3, (some .boolean)), (⟨"TicketsDrawnModel", "test", "(II)Z"⟩, prog_13_method_46_code, 8, (some .boolean)), (⟨"TicketsDrawnModel", "wrong", "()Z"⟩, prog_13_method_42_code, 1, (some .boolean)), (⟨"TicketsDrawnModel", "need", "(I)Z"⟩, prog_13_method_44_code, 2, (some .boolean)), (⟨"TicketsDrawnModel", "isSign", "(I)Z"⟩, prog_13_method_41_code, 2, (some .boolean)), (⟨"TicketsDrawnModel", "fault", "(I)I"⟩, prog_13_method_48_code, 2, (some .int)), (⟨"TicketsDrawnModel", "back", "(II)I"⟩, prog_13_method_53_code, 7, (some .int)), (⟨"TicketsDrawnModel", "mayBack", "(I)I"⟩, prog_13_method_52_code, 3, (some .int)), (⟨"TicketsDrawnModel", "cell", "(I)I"⟩, prog_13_method_51_code, 2, (some .int)), (⟨"TicketsDrawnModel", "percent", "(III)I"⟩, prog_13_method_50_code, 5, (some .int)), (⟨"TicketsDrawnModel", "lineHolds", "(IIII)Z"⟩, prog_13_method_49_code, 10, (some .boolean)), (⟨"TicketsDrawnModel", "door", "(II)Z"⟩, prog_13_method_54_code, 3, (some .boolean)), (⟨"TicketsDrawnModel", "isSeat", "(II)Z"⟩, prog_13_method_9_code, 3, (some .boolean)), (⟨"TicketsDrawnModel", "isRow", "(I)Z"⟩, prog_13_method_8_code, 2, (some .boolean)), (⟨"TicketsDrawnModel", "at", "(II)I"⟩, prog_13_method_55_code, 3, (some .int)), (⟨"TicketsDrawnModel", "tell", "(II)I"⟩, prog_13_method_56_code, 4, (some .int)), (⟨"TicketsDrawnModel", "seats", "(II)I"⟩, prog_13_method_57_code, 3, (some .int)), (⟨"TicketsDrawnModel", "about", "(II)I"⟩, prog_13_method_58_code, 3, (some .int)), (⟨"TicketsDrawnModel", "count", "(I)I"⟩, prog_13_method_59_code, 4, (some .int)), (⟨"TicketsDrawnModel", "image", "(I)Z"⟩, prog_13_method_60_code, 2, (some .boolean)), (⟨"TicketsDrawnModel", "copy", "(II)V"⟩, prog_13_method_6_code, 4, none), (⟨"TicketsDrawnModel", "move", "([IIII)V"⟩, prog_13_method_4_code, 5, none), (⟨"TicketsDrawnModel", "moveBits", "([ZIII)V"⟩, prog_13_method_5_code, 5, none), (⟨"TicketsDrawnModel", "again", "(I)Z"⟩, prog_13_method_61_code, 2, (some .boolean))]
def mOcl : List Nat := [12, 10, 18, 6, 4, 0, 1, 5, 7, 2, 9, 3, 8, 10, 4, 4, 10, 0, 10, 2, 2, 2, 2, 1, 1, 4, 4, 4, 4, 13, 4, 4, 4, 13, 10, 1, 4, 10, 9, 10, 0, 9, 9, 10, 10, 0, 0, 0, 10, 10, 10, 7, 7, 10, 10, 3, 8, 8, 8, 8, 8, 8, 14, 14, 14, 14, 15, 14, 16, 17, 17, 17, 17, 8, 8, 8, 8, 3, 3, 3, 5, 3, 3, 3, 3, 3, 5, 3, 5, 5, 10, 10, 1, 1, 1, 5, 5, 5, 1, 10, 10, 4, 1, 1, 10, 1, 10, 10, 4, 10, 1, 1, 1, 1, 1, 10, 6, 4, 0, 1, 7, 10, 11, 11, 11, 11, 11, 11, 11, 11, 11, 11, 11, 11, 11, 11, 11, 11, 11, 11, 11, 11, 11, 11, 11, 11, 11, 11, 11, 11, 11, 11, 11, 11, 11, 11, 11, 11, 11, 11, 11, 11, 11, 11, 11, 11, 11, 11, 11, 11, 11, 11, 11, 11, 11, 11, 11, 11, 11, 11, 11, 11]
def mCnl : List String := ["TicketsDrawn$Asks", "TicketsDrawn$Hall", "TicketsDrawn$Order", "TicketsDrawn$Reader", "TicketsDrawn$Rows", "TicketsDrawn$Rules", "TicketsDrawn$State", "TicketsDrawn$Tape", "TicketsDrawn$Tokens", "TicketsDrawn$Trial", "TicketsDrawn", "TicketsDrawnModel", "TicketsDrawnLaw", "java/lang/Integer", "java/lang/String", "java/lang/StringLatin1", "jdk/internal/util/Preconditions", "java/lang/StringUTF16", "java/lang/Object", "java/lang/System"]
def mYs (md : Nat) : MethodName := (mTl.getD md (⟨"", "", ""⟩, code, 0, none)).1
def mBy (md : Nat) : ByteArray := (mTl.getD md (⟨"", "", ""⟩, code, 0, none)).2.1
def mML (md : Nat) : Nat := (mTl.getD md (⟨"", "", ""⟩, code, 0, none)).2.2.1
def mRt (md : Nat) : Option FieldType := (mTl.getD md (⟨"", "", ""⟩, code, 0, none)).2.2.2
def mOc (md : Nat) : Nat := mOcl.getD md 99
def mCn (md : Nat) : String := mCnl.getD (mOc md) ""
/-- fields: the owner of the constant, its entry, the kind, the place in it, the word in lw_tbl -/
def mFR : List (Nat × Nat × Nat × Nat × Nat) := [(0, 9, 0, 0, 113), (0, 15, 0, 1, 118), (0, 19, 0, 2, 122), (0, 22, 0, 3, 126), (0, 25, 0, 4, 128), (1, 9, 1, 0, 151), (1, 15, 1, 1, 153), (1, 19, 1, 2, 155), (1, 22, 1, 3, 157), (1, 26, 1, 4, 158), (1, 29, 1, 5, 160), (1, 32, 1, 6, 161), (1, 35, 1, 7, 163), (1, 38, 1, 8, 165), (1, 43, 1, 9, 167), (1, 58, 0, 0, 117), (1, 71, 4, 2, 97), (1, 78, 6, 0, 241), (1, 84, 6, 3, 248), (1, 88, 6, 1, 244), (1, 92, 0, 1, 119), (1, 101, 4, 0, 93), (2, 9, 2, 0, 278), (2, 15, 0, 0, 115), (2, 35, 0, 2, 123), (3, 12, 3, 0, 336), (3, 18, 3, 1, 338), (3, 22, 3, 2, 340), (3, 28, 3, 3, 342), (3, 32, 3, 4, 343), (3, 39, 5, 0, 197), (3, 50, 8, 1, 322), (3, 54, 8, 0, 320), (3, 86, 8, 2, 324), (3, 93, 8, 3, 326), (4, 9, 4, 0, 91), (4, 15, 4, 1, 94), (4, 19, 4, 2, 96), (4, 48, 0, 1, 120), (4, 53, 0, 2, 124), (4, 64, 0, 4, 129), (5, 9, 5, 0, 196), (5, 15, 5, 1, 199), (5, 19, 5, 2, 200), (5, 22, 5, 3, 201), (5, 25, 5, 4, 202), (5, 28, 5, 5, 203), (5, 31, 5, 6, 204), (5, 35, 5, 7, 205), (6, 12, 6, 0, 239), (6, 21, 6, 1, 242), (6, 28, 6, 2, 245), (6, 35, 6, 3, 247), (6, 42, 6, 4, 250), (6, 46, 6, 5, 252), (6, 50, 6, 6, 254), (7, 9, 7, 0, 229), (7, 15, 7, 1, 232), (8, 9, 8, 0, 319), (8, 15, 8, 1, 321), (8, 19, 8, 2, 323), (8, 22, 8, 3, 325), (8, 25, 7, 0, 230), (8, 30, 7, 1, 233), (9, 9, 9, 0, 290), (9, 15, 9, 1, 292), (9, 19, 9, 2, 294), (9, 24, 9, 3, 295), (9, 33, 0, 0, 114), (10, 10, 10, 0, 355), (10, 16, 10, 1, 356), (10, 20, 10, 2, 357), (10, 27, 10, 3, 358), (10, 34, 10, 4, 359), (10, 41, 10, 5, 360), (10, 45, 6, 2, 246), (10, 49, 1, 0, 152), (10, 55, 6, 0, 240), (10, 59, 4, 0, 92), (10, 65, 9, 0, 291), (10, 72, 1, 4, 159), (10, 80, 6, 1, 243), (10, 84, 0, 0, 116), (10, 94, 2, 0, 279), (10, 115, 9, 1, 293), (10, 125, 1, 1, 154), (10, 128, 6, 4, 251), (10, 142, 7, 0, 231), (10, 149, 3, 1, 339), (10, 152, 6, 5, 253), (10, 153, 3, 2, 341), (10, 156, 6, 6, 255), (10, 157, 6, 3, 249), (10, 161, 3, 0, 337), (10, 170, 5, 0, 198), (10, 191, 4, 1, 95), (10, 198, 0, 1, 121), (10, 201, 0, 2, 125), (10, 204, 0, 3, 127), (10, 207, 0, 4, 130), (10, 210, 1, 6, 162), (10, 213, 1, 7, 164), (10, 216, 1, 8, 166), (10, 222, 1, 9, 168), (10, 226, 4, 2, 98), (10, 240, 1, 2, 156), (11, 7, 11, 1, 842), (11, 13, 11, 2, 843), (11, 17, 11, 3, 844), (11, 20, 11, 4, 845), (11, 23, 11, 5, 846), (11, 26, 11, 6, 847), (11, 29, 11, 7, 848), (11, 32, 11, 8, 849), (11, 35, 11, 9, 850), (11, 38, 11, 10, 851), (11, 41, 11, 11, 852), (11, 44, 11, 12, 853), (11, 48, 11, 13, 854), (11, 51, 11, 14, 855), (11, 54, 11, 15, 856), (11, 57, 11, 16, 857), (11, 60, 11, 17, 858), (11, 63, 11, 18, 859), (11, 66, 11, 19, 860), (11, 69, 11, 20, 861), (11, 72, 11, 21, 862), (11, 75, 11, 22, 863), (11, 78, 11, 23, 864), (11, 81, 11, 24, 865), (11, 84, 11, 25, 866), (11, 87, 11, 26, 867), (11, 90, 11, 27, 868), (11, 93, 11, 28, 869), (11, 96, 11, 29, 870), (11, 99, 11, 40, 881), (11, 102, 11, 41, 882), (11, 105, 11, 42, 883), (11, 108, 11, 43, 884), (11, 111, 11, 44, 885), (11, 114, 11, 45, 886), (11, 117, 11, 0, 841), (11, 195, 11, 30, 871), (11, 198, 11, 31, 872), (11, 205, 11, 32, 873), (11, 208, 11, 34, 875), (11, 211, 11, 35, 876), (11, 215, 11, 33, 874), (11, 218, 11, 36, 877), (11, 221, 11, 37, 878), (11, 224, 11, 38, 879), (11, 237, 11, 39, 880), (14, 9, 30, 0, 1223), (14, 15, 30, 1, 1224)]
/-- calls: owner, entry, way (0 virtual, 1 static, 2 special, 3 special of a nest mate, 4 the root's, 5 arraycopy, 6 of a text), method, how many it takes, four words in lw_tbl -/
def mMR : List (Nat × Nat × Nat × Nat × Nat × Nat × Nat × Nat × Nat) := [(0, 3, 4, 0, 0, 112, 77, 0, 0), (0, 29, 5, 0, 0, 819, 498, 499, 66), (0, 35, 0, 46, 1, 512, 514, 6, 56), (0, 39, 1, 29, 1, 520, 439, 0, 65), (0, 44, 0, 47, 2, 516, 517, 518, 56), (1, 3, 4, 0, 0, 148, 77, 0, 0), (1, 46, 5, 0, 0, 824, 498, 499, 66), (1, 52, 0, 36, 1, 466, 467, 468, 55), (1, 63, 0, 24, 3, 420, 422, 3, 57), (1, 67, 0, 25, 4, 424, 425, 426, 55), (1, 74, 0, 93, 1, 712, 714, 18, 57), (1, 95, 0, 95, 5, 720, 721, 722, 58), (1, 102, 1, 33, 1, 788, 453, 0, 65), (1, 108, 1, 108, 1, 793, 774, 0, 55), (2, 3, 4, 0, 0, 277, 77, 0, 0), (2, 24, 0, 20, 2, 404, 406, 0, 60), (2, 28, 0, 22, 1, 412, 414, 2, 60), (2, 32, 0, 21, 2, 408, 410, 1, 60), (3, 3, 4, 0, 0, 310, 77, 0, 0), (3, 11, 3, 7, 0, 312, 193, 0, 58), (3, 27, 3, 12, 0, 315, 316, 0, 63), (3, 35, 0, 56, 1, 554, 555, 556, 63), (3, 42, 0, 77, 0, 646, 648, 9, 62), (3, 46, 0, 78, 1, 650, 652, 10, 62), (3, 57, 0, 79, 1, 654, 656, 11, 62), (3, 61, 0, 80, 0, 658, 659, 660, 58), (3, 64, 0, 81, 0, 662, 664, 12, 62), (3, 68, 0, 87, 0, 686, 688, 17, 62), (3, 71, 0, 85, 1, 678, 680, 16, 62), (3, 74, 0, 88, 1, 690, 691, 692, 58), (3, 77, 0, 82, 0, 666, 668, 13, 62), (3, 80, 0, 83, 0, 670, 672, 14, 62), (3, 83, 0, 84, 0, 674, 676, 15, 62), (3, 89, 0, 86, 4, 682, 683, 684, 58), (4, 3, 4, 0, 0, 90, 77, 0, 0), (4, 22, 5, 0, 0, 814, 498, 499, 66), (4, 28, 0, 15, 1, 470, 383, 384, 55), (4, 32, 1, 33, 1, 452, 453, 0, 65), (4, 37, 1, 29, 1, 438, 439, 0, 65), (4, 40, 1, 27, 2, 432, 433, 0, 55), (4, 44, 1, 28, 3, 435, 436, 0, 55), (4, 56, 0, 26, 3, 428, 430, 4, 55), (4, 60, 1, 30, 5, 442, 443, 0, 55), (4, 68, 0, 32, 2, 448, 450, 5, 55), (4, 72, 1, 31, 2, 445, 446, 0, 55), (5, 3, 4, 0, 0, 195, 77, 0, 0), (5, 38, 5, 0, 0, 698, 498, 499, 66), (5, 46, 0, 96, 1, 724, 726, 19, 58), (5, 50, 1, 97, 3, 728, 729, 0, 58), (6, 3, 4, 0, 0, 84, 77, 0, 0), (6, 11, 3, 4, 0, 87, 88, 0, 55), (6, 20, 3, 5, 0, 109, 110, 0, 56), (6, 27, 3, 6, 0, 145, 146, 0, 57), (6, 34, 3, 7, 0, 192, 193, 0, 58), (6, 41, 3, 8, 0, 225, 226, 0, 59), (6, 53, 0, 117, 1, 810, 811, 812, 55), (6, 57, 0, 118, 1, 815, 816, 817, 56), (6, 60, 0, 119, 1, 820, 821, 822, 57), (6, 63, 0, 89, 1, 825, 695, 696, 58), (6, 66, 0, 120, 1, 826, 827, 828, 59), (7, 3, 4, 0, 0, 228, 77, 0, 0), (7, 19, 5, 0, 0, 830, 498, 499, 66), (8, 3, 4, 0, 0, 318, 77, 0, 0), (8, 33, 1, 57, 1, 558, 559, 0, 63), (8, 37, 0, 58, 2, 561, 563, 7, 63), (8, 41, 0, 73, 3, 633, 635, 8, 63), (8, 45, 1, 59, 1, 565, 566, 0, 63), (8, 48, 1, 60, 3, 568, 569, 0, 63), (8, 52, 1, 74, 1, 637, 638, 0, 63), (8, 55, 1, 75, 3, 640, 641, 0, 63), (8, 58, 1, 76, 1, 643, 644, 0, 63), (8, 63, 1, 61, 4, 572, 573, 0, 63), (8, 87, 6, 62, 0, 575, 576, 577, 67), (8, 92, 6, 64, 1, 585, 586, 587, 67), (9, 3, 4, 0, 0, 288, 77, 0, 0), (9, 27, 0, 36, 1, 479, 467, 468, 55), (9, 39, 0, 25, 4, 480, 425, 426, 55), (9, 43, 1, 42, 5, 493, 494, 0, 61), (9, 50, 5, 0, 0, 497, 498, 499, 66), (10, 1, 4, 0, 0, 76, 77, 0, 0), (10, 9, 3, 3, 0, 81, 82, 0, 54), (10, 26, 3, 9, 0, 274, 275, 0, 60), (10, 33, 3, 10, 0, 285, 286, 0, 61), (10, 40, 3, 11, 0, 307, 308, 0, 62), (10, 68, 0, 14, 2, 378, 379, 380, 55), (10, 76, 0, 15, 1, 382, 383, 384, 55), (10, 87, 0, 17, 4, 390, 391, 392, 56), (10, 90, 0, 19, 3, 398, 399, 400, 60), (10, 96, 0, 23, 3, 416, 417, 418, 57), (10, 100, 0, 35, 1, 462, 463, 464, 57), (10, 104, 0, 38, 3, 475, 476, 477, 61), (10, 107, 0, 40, 1, 485, 486, 487, 56), (10, 111, 0, 41, 2, 489, 490, 491, 61), (10, 118, 0, 45, 1, 508, 509, 510, 56), (10, 121, 0, 47, 2, 525, 517, 518, 56), (10, 132, 0, 51, 0, 534, 535, 536, 59), (10, 138, 0, 52, 1, 538, 539, 540, 59), (10, 145, 0, 55, 1, 550, 551, 552, 62), (10, 164, 0, 89, 1, 694, 695, 696, 58), (10, 173, 0, 92, 1, 708, 709, 710, 57), (10, 176, 0, 94, 3, 716, 717, 718, 57), (10, 180, 0, 98, 2, 731, 732, 733, 57), (10, 184, 0, 100, 2, 739, 740, 741, 53), (10, 187, 0, 103, 2, 751, 752, 753, 57), (10, 190, 0, 101, 1, 743, 744, 745, 55), (10, 194, 0, 102, 2, 747, 748, 749, 57), (10, 219, 0, 105, 1, 760, 761, 762, 57), (10, 229, 1, 33, 1, 772, 453, 0, 65), (10, 234, 1, 108, 1, 773, 774, 0, 55), (10, 237, 0, 110, 1, 780, 781, 782, 57), (10, 243, 0, 111, 1, 784, 785, 786, 57), (10, 247, 0, 112, 1, 789, 790, 791, 57), (10, 250, 0, 113, 1, 794, 795, 796, 57), (10, 253, 0, 114, 1, 798, 799, 800, 57), (10, 256, 0, 116, 1, 806, 807, 808, 54), (11, 1, 4, 0, 0, 840, 77, 0, 0), (11, 121, 1, 179, 4, 1213, 1214, 0, 64), (11, 125, 1, 180, 4, 1216, 1217, 0, 64), (11, 129, 1, 124, 3, 984, 985, 0, 64), (11, 133, 0, 171, 1, 1181, 1183, 50, 64), (11, 137, 0, 136, 3, 1030, 1032, 28, 64), (11, 140, 0, 135, 2, 1026, 1028, 27, 64), (11, 144, 0, 137, 5, 1034, 1036, 29, 64), (11, 148, 0, 134, 3, 1022, 1024, 26, 64), (11, 152, 0, 138, 4, 1038, 1040, 30, 64), (11, 156, 0, 139, 2, 1042, 1044, 31, 64), (11, 159, 1, 128, 1, 999, 1000, 0, 64), (11, 163, 0, 129, 1, 1002, 1004, 21, 64), (11, 167, 0, 130, 0, 1006, 1008, 22, 64), (11, 170, 0, 132, 1, 1014, 1016, 24, 64), (11, 173, 0, 133, 2, 1018, 1020, 25, 64), (11, 177, 0, 127, 2, 995, 997, 20, 64), (11, 180, 0, 131, 1, 1010, 1012, 23, 64), (11, 183, 0, 140, 1, 1046, 1048, 32, 64), (11, 186, 0, 144, 1, 1062, 1064, 33, 64), (11, 189, 0, 147, 2, 1074, 1076, 34, 64), (11, 192, 0, 151, 1, 1090, 1092, 35, 64), (11, 201, 0, 155, 0, 1106, 1108, 37, 64), (11, 227, 0, 162, 1, 1142, 1144, 44, 64), (11, 230, 0, 160, 0, 1133, 1135, 42, 64), (11, 234, 0, 154, 0, 1102, 1104, 36, 64), (11, 240, 0, 157, 2, 1114, 1116, 39, 64), (11, 246, 0, 158, 1, 1119, 1121, 40, 64), (11, 250, 0, 159, 2, 1123, 1125, 41, 64), (11, 255, 0, 161, 1, 1138, 1140, 43, 64), (11, 276, 0, 156, 0, 1110, 1112, 38, 64), (11, 279, 0, 168, 4, 1169, 1171, 48, 64), (11, 283, 0, 166, 1, 1161, 1163, 46, 64), (11, 286, 0, 165, 1, 1157, 1159, 45, 64), (11, 289, 0, 167, 3, 1165, 1167, 47, 64), (11, 292, 0, 170, 2, 1177, 1179, 49, 64), (11, 295, 0, 178, 2, 1209, 1211, 51, 64), (12, 9, 2, 1, 0, 73, 74, 0, 53), (12, 12, 2, 122, 0, 837, 838, 0, 64), (12, 13, 0, 13, 2, 374, 375, 376, 53), (12, 17, 0, 123, 2, 980, 981, 982, 64), (12, 18, 0, 16, 4, 386, 387, 388, 53), (12, 22, 0, 125, 4, 987, 988, 989, 64), (12, 23, 0, 18, 2, 394, 395, 396, 53), (12, 26, 0, 126, 2, 991, 992, 993, 64), (12, 27, 0, 34, 0, 458, 459, 460, 53), (12, 30, 0, 141, 0, 1050, 1051, 1052, 64), (12, 31, 0, 37, 2, 471, 472, 473, 53), (12, 34, 0, 142, 2, 1054, 1055, 1056, 64), (12, 35, 0, 39, 1, 481, 482, 483, 53), (12, 39, 0, 143, 1, 1058, 1059, 1060, 64), (12, 40, 0, 43, 2, 500, 501, 502, 53), (12, 43, 0, 145, 2, 1066, 1067, 1068, 64), (12, 44, 0, 44, 1, 504, 505, 506, 53), (12, 47, 0, 146, 1, 1070, 1071, 1072, 64), (12, 48, 0, 48, 2, 521, 522, 523, 53), (12, 52, 0, 148, 2, 1078, 1079, 1080, 64), (12, 53, 0, 49, 1, 526, 527, 528, 53), (12, 57, 0, 149, 1, 1082, 1083, 1084, 64), (12, 58, 0, 50, 5, 530, 531, 532, 53), (12, 62, 0, 150, 5, 1086, 1087, 1088, 64), (12, 63, 0, 53, 1, 542, 543, 544, 53), (12, 66, 0, 152, 1, 1094, 1095, 1096, 64), (12, 67, 0, 54, 0, 546, 547, 548, 53), (12, 71, 0, 153, 0, 1098, 1099, 1100, 64), (12, 72, 0, 90, 1, 700, 701, 702, 53), (12, 75, 0, 163, 1, 1149, 1150, 1151, 64), (12, 76, 0, 91, 2, 704, 705, 706, 53), (12, 79, 0, 164, 2, 1153, 1154, 1155, 64), (12, 80, 0, 99, 2, 735, 736, 737, 53), (12, 83, 0, 169, 2, 1173, 1174, 1175, 64), (12, 84, 0, 100, 2, 755, 740, 741, 53), (12, 87, 0, 172, 2, 1185, 1186, 1187, 64), (12, 88, 0, 104, 2, 756, 757, 758, 53), (12, 91, 0, 173, 2, 1189, 1190, 1191, 64), (12, 92, 0, 106, 2, 764, 765, 766, 53), (12, 95, 0, 174, 2, 1193, 1194, 1195, 64), (12, 96, 0, 107, 2, 768, 769, 770, 53), (12, 99, 0, 175, 2, 1197, 1198, 1199, 64), (12, 100, 0, 109, 1, 776, 777, 778, 53), (12, 103, 0, 176, 1, 1201, 1202, 1203, 64), (12, 104, 0, 115, 1, 802, 803, 804, 53), (12, 107, 0, 177, 1, 1205, 1206, 1207, 64), (12, 108, 0, 121, 1, 831, 832, 833, 53), (12, 111, 0, 181, 1, 1219, 1220, 1221, 64), (14, 335, 6, 63, 0, 579, 580, 581, 67), (14, 492, 6, 65, 0, 589, 590, 591, 67), (14, 495, 1, 66, 2, 593, 594, 0, 68), (14, 498, 1, 69, 2, 604, 605, 0, 70), (14, 1059, 1, 68, 3, 601, 602, 0, 69), (15, 9, 1, 67, 2, 596, 597, 0, 67), (17, 48, 1, 71, 1, 610, 611, 0, 70), (17, 67, 1, 70, 2, 607, 608, 0, 70), (17, 71, 1, 72, 2, 614, 615, 0, 70), (17, 414, 1, 67, 2, 613, 597, 0, 67)]
def mKS : List (Nat × Nat × Nat × Nat) := [(8, 61, 0, 571), (8, 67, 1, 623), (8, 69, 2, 624), (8, 71, 3, 625), (8, 73, 4, 626), (8, 75, 5, 627), (8, 77, 6, 628), (8, 79, 7, 629), (8, 81, 8, 630), (8, 83, 9, 631), (8, 85, 10, 632)]
def mKI : List (Nat × Nat × Int32 × Nat) := [(13, 264, 65536, 441), (13, 265, 1431655765, 455), (13, 266, 858993459, 456), (13, 267, 252645135, 457)]
def mKL : List (Nat × Nat × Int64 × Nat) := [(11, 244, 26982, 1118), (11, 253, 6385252, 1137), (11, 258, 1885434484, 1146), (11, 260, 512853240933, 1147), (11, 262, 1852796517, 1148), (11, 264, 7237492, 1127), (11, 266, 1684109683, 1128), (11, 268, 482955846501, 1129), (11, 270, 1936292453, 1130), (11, 272, 7499639, 1131), (11, 274, 1650549611, 1132)]
def mKG : List (Nat × Nat × Nat × Nat) := [(2, 21, 0, 402), (9, 47, 0, 496), (14, 38, 2, 583), (14, 1053, 3, 599)]
def mKC : List (Nat × Nat × Nat × Nat × Nat) := [(10, 7, 6, 7, 79), (10, 24, 2, 1, 272), (10, 31, 9, 4, 283), (10, 38, 3, 5, 305), (3, 9, 5, 8, 311), (3, 25, 8, 4, 313), (6, 9, 4, 3, 85), (6, 18, 0, 5, 107), (6, 25, 1, 10, 143), (6, 32, 5, 8, 190), (6, 39, 7, 2, 223), (12, 7, 10, 6, 71), (12, 10, 11, 46, 835)]
def mAlT : List (Nat × Nat × Nat) := [(1, 184, 4265), (3, 38, 753), (4, 2, 12), (5, 4, 48), (6, 19, 144), (7, 7, 221), (8, 1, 300), (9, 1, 12), (10, 10, 61), (11, 12, 1136), (12, 3, 903), (122, 35, 3545)]
def mAl (md : Nat) : Nat × Nat := ((mAlT.find? (fun e => e.1 == md)).map (fun e => e.2)).getD (0, 0)
def mGsv (k : Nat) : Value := if k = 2 then .int 1 else if k = 3 then .ref 1300 else .ref 1001
def mTg (pc : Nat) (off : Int) : Option Nat := if (pc : Int) + off < 0 then none else some ((pc : Int) + off).toNat
def mFop (get : Bool) (d : Value) (ty : FieldType) : Nat := match ty with
  | .int => if get then 41 else 44
  | .boolean => if get then 41 else 45
  | .long => if get then 43 else 47
  | _ => if get then 42 else 46
def mTyl : List (Nat → FieldType) := [tyX0, tyX1, tyX2, tyX3, tyX4, tyX5, tyX6, tyX7, tyX8, tyX9, tyX10, tyX11]
def mTy (ci k : Nat) : FieldType := (mTyl.getD ci (fun _ => .int)) k
def mSwT (pc : Nat) (lo : Int) : List Int → Option (List (Int32 × Nat))
  | [] => some []
  | o :: r => (mTg pc o).bind fun t => (mSwT pc (lo + 1) r).map fun l => (Int32.ofInt lo, t) :: l
def mSwL (pc : Nat) : List (Int × Int) → Option (List (Int32 × Nat))
  | [] => some []
  | o :: r => (mTg pc o.2).bind fun t => (mSwL pc r).map fun l => (Int32.ofInt o.1, t) :: l
def mRop (md : Nat) : Nat := match mRt md with
  | none => if mAl md = (0, 0) then 70 else 71
  | some .int => 66
  | some .boolean => 67
  | some .char => 68
  | some .byte => 69
  | _ => 99
def mIf (b : Bool) (e : mE) : Option mE := if b then some e else none
def mCp (md pc len : Nat) (ins : Instr) : Option mE := match ins with
  | .iconst n => mIf (len == 1) (0, pc + 1, 0, 0, .int (Int32.ofInt n), [])
  | .bipush n => mIf (len == 2) (0, pc + 2, 0, 0, .int (Int8.ofInt n).toInt32, [])
  | .sipush n => mIf (len == 3) (0, pc + 3, 0, 0, .int (Int16.ofInt n).toInt32, [])
  | .lconst n => mIf (len == 1) (0, pc + 1, 0, 0, .long (Int64.ofNat n), [])
  | .ldc i => (mKS.find? (fun q => q.1 == mOc md && q.2.1 == i)).bind fun q => mIf (len == 2) (0, pc + 2, 0, 0, .ref (1100 + q.2.2.1), [])
  | .ldc_w i => (mKI.find? (fun q => q.1 == mOc md && q.2.1 == i)).bind fun q => mIf (len == 3) (0, pc + 3, 0, 0, .int q.2.2.1, [])
  | .ldc2_w i => (mKL.find? (fun q => q.1 == mOc md && q.2.1 == i)).bind fun q => mIf (len == 3) (0, pc + 3, 0, 0, .long q.2.2.1, [])
  | .getstatic i => (mKG.find? (fun q => q.1 == mOc md && q.2.1 == i)).bind fun q => mIf (len == 3) (0, pc + 3, 0, 0, mGsv q.2.2.1, [])
  | .iload i => mIf (len == 2) (1, pc + 2, i, 0, .null, [])
  | .iload_n i => mIf (len == 1) (1, pc + 1, i.val, 0, .null, [])
  | .aload i => mIf (len == 2) (2, pc + 2, i, 0, .null, [])
  | .aload_n i => mIf (len == 1) (2, pc + 1, i.val, 0, .null, [])
  | .lload i => mIf (len == 2) (3, pc + 2, i, 0, .null, [])
  | .lload_n i => mIf (len == 1) (3, pc + 1, i.val, 0, .null, [])
  | .istore i => mIf (len == 2) (4, pc + 2, i, 0, .null, [])
  | .istore_n i => mIf (len == 1) (4, pc + 1, i.val, 0, .null, [])
  | .astore i => mIf (len == 2) (5, pc + 2, i, 0, .null, [])
  | .astore_n i => mIf (len == 1) (5, pc + 1, i.val, 0, .null, [])
  | .iinc i n => mIf (len == 3) (6, pc + 3, i, 0, .int (Int32.ofInt n), [])
  | .iadd => mIf (len == 1) (7, pc + 1, 0, 0, .null, [])
  | .isub => mIf (len == 1) (8, pc + 1, 0, 0, .null, [])
  | .imul => mIf (len == 1) (9, pc + 1, 0, 0, .null, [])
  | .idiv => mIf (len == 1) (10, pc + 1, 0, 0, .null, [])
  | .irem => mIf (len == 1) (11, pc + 1, 0, 0, .null, [])
  | .iand => mIf (len == 1) (12, pc + 1, 0, 0, .null, [])
  | .ior => mIf (len == 1) (13, pc + 1, 0, 0, .null, [])
  | .ixor => mIf (len == 1) (14, pc + 1, 0, 0, .null, [])
  | .ishl => mIf (len == 1) (15, pc + 1, 0, 0, .null, [])
  | .ishr => mIf (len == 1) (16, pc + 1, 0, 0, .null, [])
  | .iushr => mIf (len == 1) (17, pc + 1, 0, 0, .null, [])
  | .i2b => mIf (len == 1) (18, pc + 1, 0, 0, .null, [])
  | .i2c => mIf (len == 1) (19, pc + 1, 0, 0, .null, [])
  | .i2l => mIf (len == 1) (20, pc + 1, 0, 0, .null, [])
  | .lor => mIf (len == 1) (21, pc + 1, 0, 0, .null, [])
  | .lshl => mIf (len == 1) (22, pc + 1, 0, 0, .null, [])
  | .lcmp => mIf (len == 1) (23, pc + 1, 0, 0, .null, [])
  | .dup => mIf (len == 1) (24, pc + 1, 0, 0, .null, [])
  | .pop => mIf (len == 1) (25, pc + 1, 0, 0, .null, [])
  | .dup2 => mIf (len == 1) (26, pc + 1, 0, 0, .null, [])
  | .goto o => (mTg pc o).bind fun t => mIf (len == 3) (27, pc + 3, t, 0, .null, [])
  | .ifCond .eq o => (mTg pc o).bind fun t => mIf (len == 3) (28, pc + 3, t, 0, .null, [])
  | .if_icmp .eq o => (mTg pc o).bind fun t => mIf (len == 3) (34, pc + 3, t, 0, .null, [])
  | .ifCond .ne o => (mTg pc o).bind fun t => mIf (len == 3) (29, pc + 3, t, 0, .null, [])
  | .if_icmp .ne o => (mTg pc o).bind fun t => mIf (len == 3) (35, pc + 3, t, 0, .null, [])
  | .ifCond .lt o => (mTg pc o).bind fun t => mIf (len == 3) (30, pc + 3, t, 0, .null, [])
  | .if_icmp .lt o => (mTg pc o).bind fun t => mIf (len == 3) (36, pc + 3, t, 0, .null, [])
  | .ifCond .ge o => (mTg pc o).bind fun t => mIf (len == 3) (31, pc + 3, t, 0, .null, [])
  | .if_icmp .ge o => (mTg pc o).bind fun t => mIf (len == 3) (37, pc + 3, t, 0, .null, [])
  | .ifCond .gt o => (mTg pc o).bind fun t => mIf (len == 3) (32, pc + 3, t, 0, .null, [])
  | .if_icmp .gt o => (mTg pc o).bind fun t => mIf (len == 3) (38, pc + 3, t, 0, .null, [])
  | .ifCond .le o => (mTg pc o).bind fun t => mIf (len == 3) (33, pc + 3, t, 0, .null, [])
  | .if_icmp .le o => (mTg pc o).bind fun t => mIf (len == 3) (39, pc + 3, t, 0, .null, [])
  | .tableswitch d lo hi os => (mTg pc d).bind fun t => (mSwT pc lo os.toList).bind fun l => mIf (decide (hi - lo + 1 = os.size) && decide (-1000 < lo) && decide (hi < 1000)) (40, pc + len, t, 0, .null, l)
  | .lookupswitch d ps => (mTg pc d).bind fun t => (mSwL pc ps.toList).bind fun l => mIf ((ps.toList.zip (ps.toList.drop 1)).all (fun (a, next) => a.1 < next.1) && ps.toList.all (fun p => decide (-1000 < p.1) && decide (p.1 < 1000))) (40, pc + len, t, 0, .null, l)
  | .getfield i => (mFR.find? (fun q => q.1 == mOc md && q.2.1 == i)).bind fun q => if q.2.2.1 = 30 then mIf (len == 3) (if q.2.2.2.1 = 0 then 48 else 49, pc + 3, 0, 0, .null, []) else mIf (len == 3) (mFop true .null (mTy q.2.2.1 q.2.2.2.1), pc + 3, q.2.2.1, q.2.2.2.1, .null, [])
  | .putfield i => (mFR.find? (fun q => q.1 == mOc md && q.2.1 == i)).bind fun q => if q.2.2.1 = 30 then none else mIf (len == 3 && (mFop false .null (mTy q.2.2.1 q.2.2.2.1) != 46 || (mOc md == q.2.2.1 && mAl md != (0, 0)))) (mFop false .null (mTy q.2.2.1 q.2.2.2.1), pc + 3, q.2.2.1, q.2.2.2.1, .null, [])
  | .iaload => mIf (len == 1) (50, pc + 1, 0, 0, .null, [])
  | .baload => mIf (len == 1) (51, pc + 1, 0, 0, .null, [])
  | .aaload => mIf (len == 1) (52, pc + 1, 0, 0, .null, [])
  | .iastore => mIf (len == 1) (53, pc + 1, 0, 0, .null, [])
  | .bastore => mIf (len == 1) (54, pc + 1, 0, 0, .null, [])
  | .aastore => mIf (len == 1) (55, pc + 1, 0, 0, .null, [])
  | .arraylength => mIf (len == 1) (56, pc + 1, 0, 0, .null, [])
  | .new i => (mKC.find? (fun q => q.1 == mOc md && q.2.1 == i)).bind fun q => mIf (len == 3) (57, pc + 3, q.2.2.1, q.2.2.2.1, .null, [])
  | .newarray t => (match t with | .byte => some 20 | .int => some 21 | .boolean => some 22 | _ => none).bind fun k => mIf (len == 2) (58, pc + 2, k, 0, .null, [])
  | .anewarray i => mIf (len == 3 && mOc md == 10 && i == 7) (58, pc + 3, 23, 0, .null, [])
  | .multianewarray i k => mIf (len == 4 && k == 2 && ((mOc md == 1 && i == 41) || (mOc md == 9 && i == 22))) (59, pc + 4, 0, 0, .null, [])
  | .invokevirtual i => (mMR.find? (fun q => q.1 == mOc md && q.2.1 == i)).bind fun q => if q.2.2.1 = 0 then mIf (len == 3) (60, pc + 3, q.2.2.2.1, q.2.2.2.2.1, .ref (mOc q.2.2.2.1), []) else if q.2.2.1 = 6 then mIf (len == 3) (61, pc + 3, q.2.2.2.1, q.2.2.2.2.1, .null, []) else none
  | .invokestatic i => (mMR.find? (fun q => q.1 == mOc md && q.2.1 == i)).bind fun q => if q.2.2.1 = 1 then mIf (len == 3) (62, pc + 3, q.2.2.2.1, q.2.2.2.2.1, .null, []) else if q.2.2.1 = 5 then mIf (len == 3) (65, pc + 3, 0, 0, .null, []) else none
  | .invokespecial i => (mMR.find? (fun q => q.1 == mOc md && q.2.1 == i)).bind fun q => if q.2.2.1 = 2 ∨ q.2.2.1 = 3 then mIf (len == 3) (63, pc + 3, q.2.2.2.1, q.2.2.2.2.1, .null, []) else if q.2.2.1 = 4 then mIf (len == 3) (64, pc + 3, 0, 0, .null, []) else none
  | .ireturn => mIf (len == 1 && mRop md != 70 && mRop md != 71) (mRop md, pc + 1, 0, 0, .null, [])
  | .return_ => mIf (len == 1 && (mRop md == 70 || mRop md == 71)) (mRop md, pc + 1, 0, 0, .null, [])
  | _ => none
def mAt (md pc : Nat) : Option mE := match decode (mBy md) pc with
  | .ok (ins, len) => mCp md pc len ins
  | .error _ => none
def o_push (cal : mCal) (X : mX) (cap : Nat × Nat) (Q : mPost) (W : mWt) (nx a b : Nat) (v : Value) (sw : List (Int32 × Nat)) (lv st : List Value) (σ : mS) : Prop := W nx lv (v :: st) σ
def o_iload (cal : mCal) (X : mX) (cap : Nat × Nat) (Q : mPost) (W : mWt) (nx a b : Nat) (v : Value) (sw : List (Int32 × Nat)) (lv st : List Value) (σ : mS) : Prop := ∃ (x : Int32), lv[a]? = some (.int x) ∧ W nx lv (.int x :: st) σ
def o_aload (cal : mCal) (X : mX) (cap : Nat × Nat) (Q : mPost) (W : mWt) (nx a b : Nat) (v : Value) (sw : List (Int32 × Nat)) (lv st : List Value) (σ : mS) : Prop := ∃ (c : Nat), lv[a]? = some (.ref c) ∧ c ≠ 1300 ∧ W nx lv (.ref c :: st) σ
def o_lload (cal : mCal) (X : mX) (cap : Nat × Nat) (Q : mPost) (W : mWt) (nx a b : Nat) (v : Value) (sw : List (Int32 × Nat)) (lv st : List Value) (σ : mS) : Prop := ∃ (x : Int64), lv[a]? = some (.long x) ∧ W nx lv (.long x :: st) σ
def o_istore (cal : mCal) (X : mX) (cap : Nat × Nat) (Q : mPost) (W : mWt) (nx a b : Nat) (v : Value) (sw : List (Int32 × Nat)) (lv st : List Value) (σ : mS) : Prop := ∃ (x : Int32) (r : List Value), st = .int x :: r ∧ mLk lv a ∧ W nx (lv.set a (.int x)) r σ
def o_astore (cal : mCal) (X : mX) (cap : Nat × Nat) (Q : mPost) (W : mWt) (nx a b : Nat) (v : Value) (sw : List (Int32 × Nat)) (lv st : List Value) (σ : mS) : Prop := ∃ (c : Nat) (r : List Value), st = .ref c :: r ∧ c ≠ 1300 ∧ mLk lv a ∧ W nx (lv.set a (.ref c)) r σ
def o_iinc (cal : mCal) (X : mX) (cap : Nat × Nat) (Q : mPost) (W : mWt) (nx a b : Nat) (v : Value) (sw : List (Int32 × Nat)) (lv st : List Value) (σ : mS) : Prop := ∃ (x : Int32) (y : Int32), lv[a]? = some (.int x) ∧ v = .int y ∧ mLk lv a ∧ W nx (lv.set a (.int (x + y))) st σ
def o_iadd (cal : mCal) (X : mX) (cap : Nat × Nat) (Q : mPost) (W : mWt) (nx a b : Nat) (v : Value) (sw : List (Int32 × Nat)) (lv st : List Value) (σ : mS) : Prop := ∃ (x : Int32) (y : Int32) (r : List Value), st = .int y :: .int x :: r ∧ W nx lv (.int (x + y) :: r) σ
def o_isub (cal : mCal) (X : mX) (cap : Nat × Nat) (Q : mPost) (W : mWt) (nx a b : Nat) (v : Value) (sw : List (Int32 × Nat)) (lv st : List Value) (σ : mS) : Prop := ∃ (x : Int32) (y : Int32) (r : List Value), st = .int y :: .int x :: r ∧ W nx lv (.int (x - y) :: r) σ
def o_imul (cal : mCal) (X : mX) (cap : Nat × Nat) (Q : mPost) (W : mWt) (nx a b : Nat) (v : Value) (sw : List (Int32 × Nat)) (lv st : List Value) (σ : mS) : Prop := ∃ (x : Int32) (y : Int32) (r : List Value), st = .int y :: .int x :: r ∧ W nx lv (.int (x * y) :: r) σ
def o_idiv (cal : mCal) (X : mX) (cap : Nat × Nat) (Q : mPost) (W : mWt) (nx a b : Nat) (v : Value) (sw : List (Int32 × Nat)) (lv st : List Value) (σ : mS) : Prop := ∃ (x : Int32) (y : Int32) (r : List Value), st = .int y :: .int x :: r ∧ ¬ y = 0 ∧ W nx lv (.int (x / y) :: r) σ
def o_irem (cal : mCal) (X : mX) (cap : Nat × Nat) (Q : mPost) (W : mWt) (nx a b : Nat) (v : Value) (sw : List (Int32 × Nat)) (lv st : List Value) (σ : mS) : Prop := ∃ (x : Int32) (y : Int32) (r : List Value), st = .int y :: .int x :: r ∧ ¬ y = 0 ∧ W nx lv (.int (x - x / y * y) :: r) σ
def o_iand (cal : mCal) (X : mX) (cap : Nat × Nat) (Q : mPost) (W : mWt) (nx a b : Nat) (v : Value) (sw : List (Int32 × Nat)) (lv st : List Value) (σ : mS) : Prop := ∃ (x : Int32) (y : Int32) (r : List Value), st = .int y :: .int x :: r ∧ W nx lv (.int (x &&& y) :: r) σ
def o_ior (cal : mCal) (X : mX) (cap : Nat × Nat) (Q : mPost) (W : mWt) (nx a b : Nat) (v : Value) (sw : List (Int32 × Nat)) (lv st : List Value) (σ : mS) : Prop := ∃ (x : Int32) (y : Int32) (r : List Value), st = .int y :: .int x :: r ∧ W nx lv (.int (x ||| y) :: r) σ
def o_ixor (cal : mCal) (X : mX) (cap : Nat × Nat) (Q : mPost) (W : mWt) (nx a b : Nat) (v : Value) (sw : List (Int32 × Nat)) (lv st : List Value) (σ : mS) : Prop := ∃ (x : Int32) (y : Int32) (r : List Value), st = .int y :: .int x :: r ∧ W nx lv (.int (x ^^^ y) :: r) σ
def o_ishl (cal : mCal) (X : mX) (cap : Nat × Nat) (Q : mPost) (W : mWt) (nx a b : Nat) (v : Value) (sw : List (Int32 × Nat)) (lv st : List Value) (σ : mS) : Prop := ∃ (x : Int32) (y : Int32) (r : List Value), st = .int y :: .int x :: r ∧ W nx lv (.int (x <<< (y &&& 31)) :: r) σ
def o_ishr (cal : mCal) (X : mX) (cap : Nat × Nat) (Q : mPost) (W : mWt) (nx a b : Nat) (v : Value) (sw : List (Int32 × Nat)) (lv st : List Value) (σ : mS) : Prop := ∃ (x : Int32) (y : Int32) (r : List Value), st = .int y :: .int x :: r ∧ W nx lv (.int (x >>> (y &&& 31)) :: r) σ
def o_iushr (cal : mCal) (X : mX) (cap : Nat × Nat) (Q : mPost) (W : mWt) (nx a b : Nat) (v : Value) (sw : List (Int32 × Nat)) (lv st : List Value) (σ : mS) : Prop := ∃ (x : Int32) (y : Int32) (r : List Value), st = .int y :: .int x :: r ∧ W nx lv (.int ((x.toUInt32 >>> (y.toUInt32 &&& Int32.toUInt32 31)).toInt32) :: r) σ
def o_i2b (cal : mCal) (X : mX) (cap : Nat × Nat) (Q : mPost) (W : mWt) (nx a b : Nat) (v : Value) (sw : List (Int32 × Nat)) (lv st : List Value) (σ : mS) : Prop := ∃ (x : Int32) (r : List Value), st = .int x :: r ∧ W nx lv (.int (x.toInt8.toInt32) :: r) σ
def o_i2c (cal : mCal) (X : mX) (cap : Nat × Nat) (Q : mPost) (W : mWt) (nx a b : Nat) (v : Value) (sw : List (Int32 × Nat)) (lv st : List Value) (σ : mS) : Prop := ∃ (x : Int32) (r : List Value), st = .int x :: r ∧ W nx lv (.int ((x.toUInt32 % 65536).toInt32) :: r) σ
def o_i2l (cal : mCal) (X : mX) (cap : Nat × Nat) (Q : mPost) (W : mWt) (nx a b : Nat) (v : Value) (sw : List (Int32 × Nat)) (lv st : List Value) (σ : mS) : Prop := ∃ (x : Int32) (r : List Value), st = .int x :: r ∧ W nx lv (.long (x.toInt64) :: r) σ
def o_lor (cal : mCal) (X : mX) (cap : Nat × Nat) (Q : mPost) (W : mWt) (nx a b : Nat) (v : Value) (sw : List (Int32 × Nat)) (lv st : List Value) (σ : mS) : Prop := ∃ (x : Int64) (y : Int64) (r : List Value), st = .long y :: .long x :: r ∧ W nx lv (.long (x ||| y) :: r) σ
def o_lshl (cal : mCal) (X : mX) (cap : Nat × Nat) (Q : mPost) (W : mWt) (nx a b : Nat) (v : Value) (sw : List (Int32 × Nat)) (lv st : List Value) (σ : mS) : Prop := ∃ (x : Int64) (y : Int32) (r : List Value), st = .int y :: .long x :: r ∧ W nx lv (.long (x <<< (y.toInt64 &&& 63)) :: r) σ
def o_lcmp (cal : mCal) (X : mX) (cap : Nat × Nat) (Q : mPost) (W : mWt) (nx a b : Nat) (v : Value) (sw : List (Int32 × Nat)) (lv st : List Value) (σ : mS) : Prop := ∃ (x : Int64) (y : Int64) (r : List Value), st = .long y :: .long x :: r ∧ W nx lv (.int (lg_cmp x y) :: r) σ
def o_dup (cal : mCal) (X : mX) (cap : Nat × Nat) (Q : mPost) (W : mWt) (nx a b : Nat) (v : Value) (sw : List (Int32 × Nat)) (lv st : List Value) (σ : mS) : Prop := ∃ (u : Value) (r : List Value), st = u :: r ∧ mC1 u ∧ W nx lv (u :: u :: r) σ
def o_pop (cal : mCal) (X : mX) (cap : Nat × Nat) (Q : mPost) (W : mWt) (nx a b : Nat) (v : Value) (sw : List (Int32 × Nat)) (lv st : List Value) (σ : mS) : Prop := ∃ (u : Value) (r : List Value), st = u :: r ∧ mC1 u ∧ W nx lv r σ
def o_dup2 (cal : mCal) (X : mX) (cap : Nat × Nat) (Q : mPost) (W : mWt) (nx a b : Nat) (v : Value) (sw : List (Int32 × Nat)) (lv st : List Value) (σ : mS) : Prop := ∃ (u : Value) (w : Value) (r : List Value), st = u :: w :: r ∧ mC1 u ∧ mC1 w ∧ W nx lv (u :: w :: u :: w :: r) σ
def o_goto (cal : mCal) (X : mX) (cap : Nat × Nat) (Q : mPost) (W : mWt) (nx a b : Nat) (v : Value) (sw : List (Int32 × Nat)) (lv st : List Value) (σ : mS) : Prop := W a lv st σ
def o_ifeq (cal : mCal) (X : mX) (cap : Nat × Nat) (Q : mPost) (W : mWt) (nx a b : Nat) (v : Value) (sw : List (Int32 × Nat)) (lv st : List Value) (σ : mS) : Prop := ∃ (x : Int32) (r : List Value), st = .int x :: r ∧ (((x = 0 → W a lv r σ) ∧ (¬ x = 0 → W nx lv r σ)))
def o_ifne (cal : mCal) (X : mX) (cap : Nat × Nat) (Q : mPost) (W : mWt) (nx a b : Nat) (v : Value) (sw : List (Int32 × Nat)) (lv st : List Value) (σ : mS) : Prop := ∃ (x : Int32) (r : List Value), st = .int x :: r ∧ (((x = 0 → W nx lv r σ) ∧ (¬ x = 0 → W a lv r σ)))
def o_iflt (cal : mCal) (X : mX) (cap : Nat × Nat) (Q : mPost) (W : mWt) (nx a b : Nat) (v : Value) (sw : List (Int32 × Nat)) (lv st : List Value) (σ : mS) : Prop := ∃ (x : Int32) (r : List Value), st = .int x :: r ∧ (((x < 0 → W a lv r σ) ∧ (¬ x < 0 → W nx lv r σ)))
def o_ifge (cal : mCal) (X : mX) (cap : Nat × Nat) (Q : mPost) (W : mWt) (nx a b : Nat) (v : Value) (sw : List (Int32 × Nat)) (lv st : List Value) (σ : mS) : Prop := ∃ (x : Int32) (r : List Value), st = .int x :: r ∧ (((0 ≤ x → W a lv r σ) ∧ (¬ 0 ≤ x → W nx lv r σ)))
def o_ifgt (cal : mCal) (X : mX) (cap : Nat × Nat) (Q : mPost) (W : mWt) (nx a b : Nat) (v : Value) (sw : List (Int32 × Nat)) (lv st : List Value) (σ : mS) : Prop := ∃ (x : Int32) (r : List Value), st = .int x :: r ∧ (((0 < x → W a lv r σ) ∧ (¬ 0 < x → W nx lv r σ)))
def o_ifle (cal : mCal) (X : mX) (cap : Nat × Nat) (Q : mPost) (W : mWt) (nx a b : Nat) (v : Value) (sw : List (Int32 × Nat)) (lv st : List Value) (σ : mS) : Prop := ∃ (x : Int32) (r : List Value), st = .int x :: r ∧ (((x ≤ 0 → W a lv r σ) ∧ (¬ x ≤ 0 → W nx lv r σ)))
def o_iceq (cal : mCal) (X : mX) (cap : Nat × Nat) (Q : mPost) (W : mWt) (nx a b : Nat) (v : Value) (sw : List (Int32 × Nat)) (lv st : List Value) (σ : mS) : Prop := ∃ (x : Int32) (y : Int32) (r : List Value), st = .int y :: .int x :: r ∧ (((x = y → W a lv r σ) ∧ (¬ x = y → W nx lv r σ)))
def o_icne (cal : mCal) (X : mX) (cap : Nat × Nat) (Q : mPost) (W : mWt) (nx a b : Nat) (v : Value) (sw : List (Int32 × Nat)) (lv st : List Value) (σ : mS) : Prop := ∃ (x : Int32) (y : Int32) (r : List Value), st = .int y :: .int x :: r ∧ (((x = y → W nx lv r σ) ∧ (¬ x = y → W a lv r σ)))
def o_iclt (cal : mCal) (X : mX) (cap : Nat × Nat) (Q : mPost) (W : mWt) (nx a b : Nat) (v : Value) (sw : List (Int32 × Nat)) (lv st : List Value) (σ : mS) : Prop := ∃ (x : Int32) (y : Int32) (r : List Value), st = .int y :: .int x :: r ∧ (((x < y → W a lv r σ) ∧ (¬ x < y → W nx lv r σ)))
def o_icge (cal : mCal) (X : mX) (cap : Nat × Nat) (Q : mPost) (W : mWt) (nx a b : Nat) (v : Value) (sw : List (Int32 × Nat)) (lv st : List Value) (σ : mS) : Prop := ∃ (x : Int32) (y : Int32) (r : List Value), st = .int y :: .int x :: r ∧ (((y ≤ x → W a lv r σ) ∧ (¬ y ≤ x → W nx lv r σ)))
def o_icgt (cal : mCal) (X : mX) (cap : Nat × Nat) (Q : mPost) (W : mWt) (nx a b : Nat) (v : Value) (sw : List (Int32 × Nat)) (lv st : List Value) (σ : mS) : Prop := ∃ (x : Int32) (y : Int32) (r : List Value), st = .int y :: .int x :: r ∧ (((y < x → W a lv r σ) ∧ (¬ y < x → W nx lv r σ)))
def o_icle (cal : mCal) (X : mX) (cap : Nat × Nat) (Q : mPost) (W : mWt) (nx a b : Nat) (v : Value) (sw : List (Int32 × Nat)) (lv st : List Value) (σ : mS) : Prop := ∃ (x : Int32) (y : Int32) (r : List Value), st = .int y :: .int x :: r ∧ (((x ≤ y → W a lv r σ) ∧ (¬ x ≤ y → W nx lv r σ)))
def o_switch (cal : mCal) (X : mX) (cap : Nat × Nat) (Q : mPost) (W : mWt) (nx a b : Nat) (v : Value) (sw : List (Int32 × Nat)) (lv st : List Value) (σ : mS) : Prop := ∃ (x : Int32) (r : List Value), st = .int x :: r ∧ (((∀ p ∈ sw, x = p.1 → W p.2 lv r σ) ∧ ((∀ p ∈ sw, ¬ x = p.1) → W a lv r σ)))
def o_getI (cal : mCal) (X : mX) (cap : Nat × Nat) (Q : mPost) (W : mWt) (nx a b : Nat) (v : Value) (sw : List (Int32 × Nat)) (lv st : List Value) (σ : mS) : Prop := ∃ (c : Nat) (n : Nat) (r : List Value), st = .ref c :: r ∧ σ.2.2.2[c]? = some (a, n) ∧ W nx lv (.int (σ.1 c b) :: r) σ
def o_getR (cal : mCal) (X : mX) (cap : Nat × Nat) (Q : mPost) (W : mWt) (nx a b : Nat) (v : Value) (sw : List (Int32 × Nat)) (lv st : List Value) (σ : mS) : Prop := ∃ (c : Nat) (n : Nat) (d : Nat) (r : List Value), st = .ref c :: r ∧ σ.2.2.2[c]? = some (a, n) ∧ σ.2.1 c b = some d ∧ W nx lv (.ref d :: r) σ
def o_getL (cal : mCal) (X : mX) (cap : Nat × Nat) (Q : mPost) (W : mWt) (nx a b : Nat) (v : Value) (sw : List (Int32 × Nat)) (lv st : List Value) (σ : mS) : Prop := ∃ (c : Nat) (n : Nat) (r : List Value), st = .ref c :: r ∧ σ.2.2.2[c]? = some (a, n) ∧ W nx lv (.long (σ.2.2.1 c b) :: r) σ
def o_putI (cal : mCal) (X : mX) (cap : Nat × Nat) (Q : mPost) (W : mWt) (nx a b : Nat) (v : Value) (sw : List (Int32 × Nat)) (lv st : List Value) (σ : mS) : Prop := ∃ (c : Nat) (n : Nat) (x : Int32) (r : List Value), st = .int x :: .ref c :: r ∧ σ.2.2.2[c]? = some (a, n) ∧ W nx lv r (mU σ.1 c b x, σ.2)
def o_putZ (cal : mCal) (X : mX) (cap : Nat × Nat) (Q : mPost) (W : mWt) (nx a b : Nat) (v : Value) (sw : List (Int32 × Nat)) (lv st : List Value) (σ : mS) : Prop := ∃ (c : Nat) (n : Nat) (x : Int32) (r : List Value), st = .int x :: .ref c :: r ∧ σ.2.2.2[c]? = some (a, n) ∧ mB x ∧ W nx lv r (mU σ.1 c b x, σ.2)
def o_putR (cal : mCal) (X : mX) (cap : Nat × Nat) (Q : mPost) (W : mWt) (nx a b : Nat) (v : Value) (sw : List (Int32 × Nat)) (lv st : List Value) (σ : mS) : Prop := ∃ (c : Nat) (n : Nat) (d : Nat) (r : List Value), st = .ref d :: .ref c :: r ∧ σ.2.2.2[c]? = some (a, n) ∧ d < σ.2.2.2.length ∧ W nx lv r (σ.1, mV σ.2.1 c b (some d), σ.2.2)
def o_putL (cal : mCal) (X : mX) (cap : Nat × Nat) (Q : mPost) (W : mWt) (nx a b : Nat) (v : Value) (sw : List (Int32 × Nat)) (lv st : List Value) (σ : mS) : Prop := ∃ (c : Nat) (n : Nat) (x : Int64) (r : List Value), st = .long x :: .ref c :: r ∧ σ.2.2.2[c]? = some (a, n) ∧ W nx lv r (σ.1, σ.2.1, mV σ.2.2.1 c b x, σ.2.2.2)
def o_strV (cal : mCal) (X : mX) (cap : Nat × Nat) (Q : mPost) (W : mWt) (nx a b : Nat) (v : Value) (sw : List (Int32 × Nat)) (lv st : List Value) (σ : mS) : Prop := ∃ (j : Nat) (r : List Value), st = .ref (1100 + j) :: r ∧ j < 11 ∧ W nx lv (.ref (1200 + j) :: r) σ
def o_strC (cal : mCal) (X : mX) (cap : Nat × Nat) (Q : mPost) (W : mWt) (nx a b : Nat) (v : Value) (sw : List (Int32 × Nat)) (lv st : List Value) (σ : mS) : Prop := ∃ (j : Nat) (r : List Value), st = .ref (1100 + j) :: r ∧ j < 11 ∧ W nx lv (.int 0 :: r) σ
def o_iald (cal : mCal) (X : mX) (cap : Nat × Nat) (Q : mPost) (W : mWt) (nx a b : Nat) (v : Value) (sw : List (Int32 × Nat)) (lv st : List Value) (σ : mS) : Prop := ∃ (c : Nat) (i : Int32) (n : Nat) (f : Nat → Int32) (r : List Value), st = .int i :: .ref c :: r ∧ mRd X σ.1 σ.2.2.2 c = some (21, n, f) ∧ vp_in i n ∧ W nx lv (.int (f i.toNatClampNeg) :: r) σ
def o_bald (cal : mCal) (X : mX) (cap : Nat × Nat) (Q : mPost) (W : mWt) (nx a b : Nat) (v : Value) (sw : List (Int32 × Nat)) (lv st : List Value) (σ : mS) : Prop := ∃ (c : Nat) (i : Int32) (t : Nat) (n : Nat) (f : Nat → Int32) (r : List Value), st = .int i :: .ref c :: r ∧ mRd X σ.1 σ.2.2.2 c = some (t, n, f) ∧ (t = 20 ∨ t = 22) ∧ vp_in i n ∧ W nx lv (.int (f i.toNatClampNeg) :: r) σ
def o_aald (cal : mCal) (X : mX) (cap : Nat × Nat) (Q : mPost) (W : mWt) (nx a b : Nat) (v : Value) (sw : List (Int32 × Nat)) (lv st : List Value) (σ : mS) : Prop := ∃ (c : Nat) (i : Int32) (t : Nat) (n : Nat) (d : Nat) (r : List Value), st = .int i :: .ref c :: r ∧ σ.2.2.2[c]? = some (t, n) ∧ (t = 23 ∨ t = 24) ∧ vp_in i n ∧ σ.2.1 c i.toNatClampNeg = some d ∧ W nx lv (.ref d :: r) σ
def o_iast (cal : mCal) (X : mX) (cap : Nat × Nat) (Q : mPost) (W : mWt) (nx a b : Nat) (v : Value) (sw : List (Int32 × Nat)) (lv st : List Value) (σ : mS) : Prop := ∃ (c : Nat) (i : Int32) (n : Nat) (x : Int32) (r : List Value), st = .int x :: .int i :: .ref c :: r ∧ σ.2.2.2[c]? = some (21, n) ∧ vp_in i n ∧ W nx lv r (mU σ.1 c i.toNatClampNeg x, σ.2)
def o_bast (cal : mCal) (X : mX) (cap : Nat × Nat) (Q : mPost) (W : mWt) (nx a b : Nat) (v : Value) (sw : List (Int32 × Nat)) (lv st : List Value) (σ : mS) : Prop := ∃ (c : Nat) (i : Int32) (t : Nat) (n : Nat) (x : Int32) (r : List Value), st = .int x :: .int i :: .ref c :: r ∧ σ.2.2.2[c]? = some (t, n) ∧ (t = 20 ∨ t = 22) ∧ vp_in i n ∧ W nx lv r (mU σ.1 c i.toNatClampNeg (if t = 20 then vp_nar .byte x else vp_nar .boolean x), σ.2)
def o_aast (cal : mCal) (X : mX) (cap : Nat × Nat) (Q : mPost) (W : mWt) (nx a b : Nat) (v : Value) (sw : List (Int32 × Nat)) (lv st : List Value) (σ : mS) : Prop := ∃ (c : Nat) (i : Int32) (n : Nat) (d : Nat) (n2 : Nat) (r : List Value), st = .ref d :: .int i :: .ref c :: r ∧ σ.2.2.2[c]? = some (23, n) ∧ σ.2.2.2[d]? = some (6, n2) ∧ vp_in i n ∧ W nx lv r (σ.1, mV σ.2.1 c i.toNatClampNeg (some d), σ.2.2)
def o_alen (cal : mCal) (X : mX) (cap : Nat × Nat) (Q : mPost) (W : mWt) (nx a b : Nat) (v : Value) (sw : List (Int32 × Nat)) (lv st : List Value) (σ : mS) : Prop := ∃ (c : Nat) (t : Nat) (n : Nat) (f : Nat → Int32) (r : List Value), st = .ref c :: r ∧ mRd X σ.1 σ.2.2.2 c = some (t, n, f) ∧ 20 ≤ t ∧ W nx lv (.int (Int32.ofNat n) :: r) σ
def o_new (cal : mCal) (X : mX) (cap : Nat × Nat) (Q : mPost) (W : mWt) (nx a b : Nat) (v : Value) (sw : List (Int32 × Nat)) (lv st : List Value) (σ : mS) : Prop := (σ.2.2.2.length + 1 ≤ cap.1 ∧ mSum σ.2.2.2 + b ≤ cap.2 ∧ σ.2.2.2.length + 1 ≤ 1000) ∧ W nx lv (.ref σ.2.2.2.length :: st) (mNew σ a b)
def o_newa (cal : mCal) (X : mX) (cap : Nat × Nat) (Q : mPost) (W : mWt) (nx a b : Nat) (v : Value) (sw : List (Int32 × Nat)) (lv st : List Value) (σ : mS) : Prop := ∃ (n : Int32) (r : List Value), st = .int n :: r ∧ ¬ n < 0 ∧ n.toNatClampNeg ≤ 4096 ∧ (σ.2.2.2.length + 1 ≤ cap.1 ∧ mSum σ.2.2.2 + n.toNatClampNeg ≤ cap.2 ∧ σ.2.2.2.length + 1 ≤ 1000) ∧ W nx lv (.ref σ.2.2.2.length :: r) (mNew σ a n.toNatClampNeg)
def o_mna (cal : mCal) (X : mX) (cap : Nat × Nat) (Q : mPost) (W : mWt) (nx a b : Nat) (v : Value) (sw : List (Int32 × Nat)) (lv st : List Value) (σ : mS) : Prop := ∃ (n : Int32) (k : Int32) (r : List Value), st = .int k :: .int n :: r ∧ ¬ n < 0 ∧ ¬ k < 0 ∧ n.toNatClampNeg ≤ 64 ∧ k.toNatClampNeg ≤ 64 ∧ (σ.2.2.2.length + 1 + n.toNatClampNeg ≤ cap.1 ∧ mSum σ.2.2.2 + (n.toNatClampNeg + n.toNatClampNeg * k.toNatClampNeg) ≤ cap.2 ∧ σ.2.2.2.length + 1 + n.toNatClampNeg ≤ 1000) ∧ W nx lv (.ref σ.2.2.2.length :: r) (mNewG σ n.toNatClampNeg k.toNatClampNeg)
def o_callV (cal : mCal) (X : mX) (cap : Nat × Nat) (Q : mPost) (W : mWt) (nx a b : Nat) (v : Value) (sw : List (Int32 × Nat)) (lv st : List Value) (σ : mS) : Prop := ∃ (c : Nat) (k : Nat) (n : Nat) (p : List Value) (r : List Value), st.take b = p ∧ st.drop b = .ref c :: r ∧ v = .ref k ∧ σ.2.2.2[c]? = some (k, n) ∧ r.length ≤ 4 ∧ cal a (.ref c :: p.reverse) σ (fun u σ2 => W nx lv (u.toList ++ r) σ2)
def o_callT (cal : mCal) (X : mX) (cap : Nat × Nat) (Q : mPost) (W : mWt) (nx a b : Nat) (v : Value) (sw : List (Int32 × Nat)) (lv st : List Value) (σ : mS) : Prop := ∃ (j : Nat) (p : List Value) (r : List Value), st.take b = p ∧ st.drop b = .ref (1100 + j) :: r ∧ j < 11 ∧ r.length ≤ 4 ∧ cal a (.ref (1100 + j) :: p.reverse) σ (fun u σ2 => W nx lv (u.toList ++ r) σ2)
def o_callS (cal : mCal) (X : mX) (cap : Nat × Nat) (Q : mPost) (W : mWt) (nx a b : Nat) (v : Value) (sw : List (Int32 × Nat)) (lv st : List Value) (σ : mS) : Prop := ∃ (p : List Value) (r : List Value), b ≤ st.length ∧ st.take b = p ∧ st.drop b = r ∧ r.length ≤ 4 ∧ cal a p.reverse σ (fun u σ2 => W nx lv (u.toList ++ r) σ2)
def o_callI (cal : mCal) (X : mX) (cap : Nat × Nat) (Q : mPost) (W : mWt) (nx a b : Nat) (v : Value) (sw : List (Int32 × Nat)) (lv st : List Value) (σ : mS) : Prop := ∃ (c : Nat) (p : List Value) (r : List Value), st.take b = p ∧ st.drop b = .ref c :: r ∧ c ≠ 1300 ∧ r.length ≤ 4 ∧ (σ.2.2.2.length + (mAl a).1 ≤ cap.1 ∧ mSum σ.2.2.2 + (mAl a).2 ≤ cap.2) ∧ cal a (.ref c :: p.reverse) σ (fun u σ2 => W nx lv (u.toList ++ r) σ2)
def o_objI (cal : mCal) (X : mX) (cap : Nat × Nat) (Q : mPost) (W : mWt) (nx a b : Nat) (v : Value) (sw : List (Int32 × Nat)) (lv st : List Value) (σ : mS) : Prop := ∃ (c : Nat) (r : List Value), st = .ref c :: r ∧ r.length ≤ 4 ∧ c ≠ 1300 ∧ W nx lv r σ
def o_acopy (cal : mCal) (X : mX) (cap : Nat × Nat) (Q : mPost) (W : mWt) (nx a b : Nat) (v : Value) (sw : List (Int32 × Nat)) (lv st : List Value) (σ : mS) : Prop := ∃ (c : Nat) (d : Nat) (t : Nat) (m : Nat) (k : Nat) (i : Int32) (j : Int32) (n : Int32) (r : List Value), st = .int n :: .int j :: .ref d :: .int i :: .ref c :: r ∧ σ.2.2.2[c]? = some (t, m) ∧ σ.2.2.2[d]? = some (t, k) ∧ (t = 21 ∨ t = 22) ∧ ¬ i < 0 ∧ ¬ j < 0 ∧ ¬ n < 0 ∧ i.toNatClampNeg + n.toNatClampNeg ≤ m ∧ j.toNatClampNeg + n.toNatClampNeg ≤ k ∧ r.length ≤ 4 ∧ W nx lv r (mCpy σ.1 c d i.toNatClampNeg j.toNatClampNeg n.toNatClampNeg, σ.2)
def o_iret (cal : mCal) (X : mX) (cap : Nat × Nat) (Q : mPost) (W : mWt) (nx a b : Nat) (v : Value) (sw : List (Int32 × Nat)) (lv st : List Value) (σ : mS) : Prop := ∃ (x : Int32), st = [.int x] ∧ Q (some (.int x)) σ
def o_zret (cal : mCal) (X : mX) (cap : Nat × Nat) (Q : mPost) (W : mWt) (nx a b : Nat) (v : Value) (sw : List (Int32 × Nat)) (lv st : List Value) (σ : mS) : Prop := ∃ (x : Int32), st = [.int x] ∧ mB x ∧ Q (some (.int x)) σ
def o_cret (cal : mCal) (X : mX) (cap : Nat × Nat) (Q : mPost) (W : mWt) (nx a b : Nat) (v : Value) (sw : List (Int32 × Nat)) (lv st : List Value) (σ : mS) : Prop := ∃ (x : Int32), st = [.int x] ∧ narrow .char (.int x) = .int x ∧ Q (some (.int x)) σ
def o_bret (cal : mCal) (X : mX) (cap : Nat × Nat) (Q : mPost) (W : mWt) (nx a b : Nat) (v : Value) (sw : List (Int32 × Nat)) (lv st : List Value) (σ : mS) : Prop := ∃ (x : Int32), st = [.int x] ∧ narrow .byte (.int x) = .int x ∧ Q (some (.int x)) σ
def o_vret (cal : mCal) (X : mX) (cap : Nat × Nat) (Q : mPost) (W : mWt) (nx a b : Nat) (v : Value) (sw : List (Int32 × Nat)) (lv st : List Value) (σ : mS) : Prop := st = [] ∧ Q none σ
def o_vretC (cal : mCal) (X : mX) (cap : Nat × Nat) (Q : mPost) (W : mWt) (nx a b : Nat) (v : Value) (sw : List (Int32 × Nat)) (lv st : List Value) (σ : mS) : Prop := st = [] ∧ (σ.2.2.2.length = cap.1 ∧ mSum σ.2.2.2 = cap.2) ∧ Q none σ
def mOps : List mOp := [o_push, o_iload, o_aload, o_lload, o_istore, o_astore, o_iinc, o_iadd, o_isub, o_imul, o_idiv, o_irem, o_iand, o_ior, o_ixor, o_ishl, o_ishr, o_iushr, o_i2b, o_i2c, o_i2l, o_lor, o_lshl, o_lcmp, o_dup, o_pop, o_dup2, o_goto, o_ifeq, o_ifne, o_iflt, o_ifge, o_ifgt, o_ifle, o_iceq, o_icne, o_iclt, o_icge, o_icgt, o_icle, o_switch, o_getI, o_getR, o_getL, o_putI, o_putZ, o_putR, o_putL, o_strV, o_strC, o_iald, o_bald, o_aald, o_iast, o_bast, o_aast, o_alen, o_new, o_newa, o_mna, o_callV, o_callT, o_callS, o_callI, o_objI, o_acopy, o_iret, o_zret, o_cret, o_bret, o_vret, o_vretC]
theorem mo_push : mMono o_push := fun _ _ _ _ _ _ _ _ _ _ _ _ _ _ _ hC hQ hW h => hW _ _ _ _ h
theorem mo_iload : mMono o_iload := by
  intro cal X cap Q1 Q2 W1 W2 nx a b v sw lv st σ hC hQ hW h
  obtain ⟨x, g0, h⟩ := h
  exact ⟨x, g0, hW _ _ _ _ h⟩
theorem mo_aload : mMono o_aload := by
  intro cal X cap Q1 Q2 W1 W2 nx a b v sw lv st σ hC hQ hW h
  obtain ⟨c, g0, g1, h⟩ := h
  exact ⟨c, g0, g1, hW _ _ _ _ h⟩
theorem mo_lload : mMono o_lload := by
  intro cal X cap Q1 Q2 W1 W2 nx a b v sw lv st σ hC hQ hW h
  obtain ⟨x, g0, h⟩ := h
  exact ⟨x, g0, hW _ _ _ _ h⟩
theorem mo_istore : mMono o_istore := by
  intro cal X cap Q1 Q2 W1 W2 nx a b v sw lv st σ hC hQ hW h
  obtain ⟨x, r, g0, g1, h⟩ := h
  exact ⟨x, r, g0, g1, hW _ _ _ _ h⟩
theorem mo_astore : mMono o_astore := by
  intro cal X cap Q1 Q2 W1 W2 nx a b v sw lv st σ hC hQ hW h
  obtain ⟨c, r, g0, g1, g2, h⟩ := h
  exact ⟨c, r, g0, g1, g2, hW _ _ _ _ h⟩
theorem mo_iinc : mMono o_iinc := by
  intro cal X cap Q1 Q2 W1 W2 nx a b v sw lv st σ hC hQ hW h
  obtain ⟨x, y, g0, g1, g2, h⟩ := h
  exact ⟨x, y, g0, g1, g2, hW _ _ _ _ h⟩
theorem mo_iadd : mMono o_iadd := by
  intro cal X cap Q1 Q2 W1 W2 nx a b v sw lv st σ hC hQ hW h
  obtain ⟨x, y, r, g0, h⟩ := h
  exact ⟨x, y, r, g0, hW _ _ _ _ h⟩
theorem mo_isub : mMono o_isub := by
  intro cal X cap Q1 Q2 W1 W2 nx a b v sw lv st σ hC hQ hW h
  obtain ⟨x, y, r, g0, h⟩ := h
  exact ⟨x, y, r, g0, hW _ _ _ _ h⟩
theorem mo_imul : mMono o_imul := by
  intro cal X cap Q1 Q2 W1 W2 nx a b v sw lv st σ hC hQ hW h
  obtain ⟨x, y, r, g0, h⟩ := h
  exact ⟨x, y, r, g0, hW _ _ _ _ h⟩
theorem mo_idiv : mMono o_idiv := by
  intro cal X cap Q1 Q2 W1 W2 nx a b v sw lv st σ hC hQ hW h
  obtain ⟨x, y, r, g0, g1, h⟩ := h
  exact ⟨x, y, r, g0, g1, hW _ _ _ _ h⟩
theorem mo_irem : mMono o_irem := by
  intro cal X cap Q1 Q2 W1 W2 nx a b v sw lv st σ hC hQ hW h
  obtain ⟨x, y, r, g0, g1, h⟩ := h
  exact ⟨x, y, r, g0, g1, hW _ _ _ _ h⟩
theorem mo_iand : mMono o_iand := by
  intro cal X cap Q1 Q2 W1 W2 nx a b v sw lv st σ hC hQ hW h
  obtain ⟨x, y, r, g0, h⟩ := h
  exact ⟨x, y, r, g0, hW _ _ _ _ h⟩
theorem mo_ior : mMono o_ior := by
  intro cal X cap Q1 Q2 W1 W2 nx a b v sw lv st σ hC hQ hW h
  obtain ⟨x, y, r, g0, h⟩ := h
  exact ⟨x, y, r, g0, hW _ _ _ _ h⟩
theorem mo_ixor : mMono o_ixor := by
  intro cal X cap Q1 Q2 W1 W2 nx a b v sw lv st σ hC hQ hW h
  obtain ⟨x, y, r, g0, h⟩ := h
  exact ⟨x, y, r, g0, hW _ _ _ _ h⟩
theorem mo_ishl : mMono o_ishl := by
  intro cal X cap Q1 Q2 W1 W2 nx a b v sw lv st σ hC hQ hW h
  obtain ⟨x, y, r, g0, h⟩ := h
  exact ⟨x, y, r, g0, hW _ _ _ _ h⟩
theorem mo_ishr : mMono o_ishr := by
  intro cal X cap Q1 Q2 W1 W2 nx a b v sw lv st σ hC hQ hW h
  obtain ⟨x, y, r, g0, h⟩ := h
  exact ⟨x, y, r, g0, hW _ _ _ _ h⟩
theorem mo_iushr : mMono o_iushr := by
  intro cal X cap Q1 Q2 W1 W2 nx a b v sw lv st σ hC hQ hW h
  obtain ⟨x, y, r, g0, h⟩ := h
  exact ⟨x, y, r, g0, hW _ _ _ _ h⟩
theorem mo_i2b : mMono o_i2b := by
  intro cal X cap Q1 Q2 W1 W2 nx a b v sw lv st σ hC hQ hW h
  obtain ⟨x, r, g0, h⟩ := h
  exact ⟨x, r, g0, hW _ _ _ _ h⟩
theorem mo_i2c : mMono o_i2c := by
  intro cal X cap Q1 Q2 W1 W2 nx a b v sw lv st σ hC hQ hW h
  obtain ⟨x, r, g0, h⟩ := h
  exact ⟨x, r, g0, hW _ _ _ _ h⟩
theorem mo_i2l : mMono o_i2l := by
  intro cal X cap Q1 Q2 W1 W2 nx a b v sw lv st σ hC hQ hW h
  obtain ⟨x, r, g0, h⟩ := h
  exact ⟨x, r, g0, hW _ _ _ _ h⟩
theorem mo_lor : mMono o_lor := by
  intro cal X cap Q1 Q2 W1 W2 nx a b v sw lv st σ hC hQ hW h
  obtain ⟨x, y, r, g0, h⟩ := h
  exact ⟨x, y, r, g0, hW _ _ _ _ h⟩
theorem mo_lshl : mMono o_lshl := by
  intro cal X cap Q1 Q2 W1 W2 nx a b v sw lv st σ hC hQ hW h
  obtain ⟨x, y, r, g0, h⟩ := h
  exact ⟨x, y, r, g0, hW _ _ _ _ h⟩
theorem mo_lcmp : mMono o_lcmp := by
  intro cal X cap Q1 Q2 W1 W2 nx a b v sw lv st σ hC hQ hW h
  obtain ⟨x, y, r, g0, h⟩ := h
  exact ⟨x, y, r, g0, hW _ _ _ _ h⟩
theorem mo_dup : mMono o_dup := by
  intro cal X cap Q1 Q2 W1 W2 nx a b v sw lv st σ hC hQ hW h
  obtain ⟨u, r, g0, g1, h⟩ := h
  exact ⟨u, r, g0, g1, hW _ _ _ _ h⟩
theorem mo_pop : mMono o_pop := by
  intro cal X cap Q1 Q2 W1 W2 nx a b v sw lv st σ hC hQ hW h
  obtain ⟨u, r, g0, g1, h⟩ := h
  exact ⟨u, r, g0, g1, hW _ _ _ _ h⟩
theorem mo_dup2 : mMono o_dup2 := by
  intro cal X cap Q1 Q2 W1 W2 nx a b v sw lv st σ hC hQ hW h
  obtain ⟨u, w, r, g0, g1, g2, h⟩ := h
  exact ⟨u, w, r, g0, g1, g2, hW _ _ _ _ h⟩
theorem mo_goto : mMono o_goto := fun _ _ _ _ _ _ _ _ _ _ _ _ _ _ _ hC hQ hW h => hW _ _ _ _ h
theorem mo_ifeq : mMono o_ifeq := by
  intro cal X cap Q1 Q2 W1 W2 nx a b v sw lv st σ hC hQ hW h
  obtain ⟨x, r, g0, h⟩ := h
  exact ⟨x, r, g0, ⟨fun q => hW _ _ _ _ (h.1 q), fun q => hW _ _ _ _ (h.2 q)⟩⟩
theorem mo_ifne : mMono o_ifne := by
  intro cal X cap Q1 Q2 W1 W2 nx a b v sw lv st σ hC hQ hW h
  obtain ⟨x, r, g0, h⟩ := h
  exact ⟨x, r, g0, ⟨fun q => hW _ _ _ _ (h.1 q), fun q => hW _ _ _ _ (h.2 q)⟩⟩
theorem mo_iflt : mMono o_iflt := by
  intro cal X cap Q1 Q2 W1 W2 nx a b v sw lv st σ hC hQ hW h
  obtain ⟨x, r, g0, h⟩ := h
  exact ⟨x, r, g0, ⟨fun q => hW _ _ _ _ (h.1 q), fun q => hW _ _ _ _ (h.2 q)⟩⟩
theorem mo_ifge : mMono o_ifge := by
  intro cal X cap Q1 Q2 W1 W2 nx a b v sw lv st σ hC hQ hW h
  obtain ⟨x, r, g0, h⟩ := h
  exact ⟨x, r, g0, ⟨fun q => hW _ _ _ _ (h.1 q), fun q => hW _ _ _ _ (h.2 q)⟩⟩
theorem mo_ifgt : mMono o_ifgt := by
  intro cal X cap Q1 Q2 W1 W2 nx a b v sw lv st σ hC hQ hW h
  obtain ⟨x, r, g0, h⟩ := h
  exact ⟨x, r, g0, ⟨fun q => hW _ _ _ _ (h.1 q), fun q => hW _ _ _ _ (h.2 q)⟩⟩
theorem mo_ifle : mMono o_ifle := by
  intro cal X cap Q1 Q2 W1 W2 nx a b v sw lv st σ hC hQ hW h
  obtain ⟨x, r, g0, h⟩ := h
  exact ⟨x, r, g0, ⟨fun q => hW _ _ _ _ (h.1 q), fun q => hW _ _ _ _ (h.2 q)⟩⟩
theorem mo_iceq : mMono o_iceq := by
  intro cal X cap Q1 Q2 W1 W2 nx a b v sw lv st σ hC hQ hW h
  obtain ⟨x, y, r, g0, h⟩ := h
  exact ⟨x, y, r, g0, ⟨fun q => hW _ _ _ _ (h.1 q), fun q => hW _ _ _ _ (h.2 q)⟩⟩
theorem mo_icne : mMono o_icne := by
  intro cal X cap Q1 Q2 W1 W2 nx a b v sw lv st σ hC hQ hW h
  obtain ⟨x, y, r, g0, h⟩ := h
  exact ⟨x, y, r, g0, ⟨fun q => hW _ _ _ _ (h.1 q), fun q => hW _ _ _ _ (h.2 q)⟩⟩
theorem mo_iclt : mMono o_iclt := by
  intro cal X cap Q1 Q2 W1 W2 nx a b v sw lv st σ hC hQ hW h
  obtain ⟨x, y, r, g0, h⟩ := h
  exact ⟨x, y, r, g0, ⟨fun q => hW _ _ _ _ (h.1 q), fun q => hW _ _ _ _ (h.2 q)⟩⟩
theorem mo_icge : mMono o_icge := by
  intro cal X cap Q1 Q2 W1 W2 nx a b v sw lv st σ hC hQ hW h
  obtain ⟨x, y, r, g0, h⟩ := h
  exact ⟨x, y, r, g0, ⟨fun q => hW _ _ _ _ (h.1 q), fun q => hW _ _ _ _ (h.2 q)⟩⟩
theorem mo_icgt : mMono o_icgt := by
  intro cal X cap Q1 Q2 W1 W2 nx a b v sw lv st σ hC hQ hW h
  obtain ⟨x, y, r, g0, h⟩ := h
  exact ⟨x, y, r, g0, ⟨fun q => hW _ _ _ _ (h.1 q), fun q => hW _ _ _ _ (h.2 q)⟩⟩
theorem mo_icle : mMono o_icle := by
  intro cal X cap Q1 Q2 W1 W2 nx a b v sw lv st σ hC hQ hW h
  obtain ⟨x, y, r, g0, h⟩ := h
  exact ⟨x, y, r, g0, ⟨fun q => hW _ _ _ _ (h.1 q), fun q => hW _ _ _ _ (h.2 q)⟩⟩
theorem mo_switch : mMono o_switch := by
  intro cal X cap Q1 Q2 W1 W2 nx a b v sw lv st σ hC hQ hW h
  obtain ⟨x, r, g0, h⟩ := h
  exact ⟨x, r, g0, ⟨fun p hp q => hW _ _ _ _ (h.1 p hp q), fun q => hW _ _ _ _ (h.2 q)⟩⟩
theorem mo_getI : mMono o_getI := by
  intro cal X cap Q1 Q2 W1 W2 nx a b v sw lv st σ hC hQ hW h
  obtain ⟨c, n, r, g0, g1, h⟩ := h
  exact ⟨c, n, r, g0, g1, hW _ _ _ _ h⟩
theorem mo_getR : mMono o_getR := by
  intro cal X cap Q1 Q2 W1 W2 nx a b v sw lv st σ hC hQ hW h
  obtain ⟨c, n, d, r, g0, g1, g2, h⟩ := h
  exact ⟨c, n, d, r, g0, g1, g2, hW _ _ _ _ h⟩
theorem mo_getL : mMono o_getL := by
  intro cal X cap Q1 Q2 W1 W2 nx a b v sw lv st σ hC hQ hW h
  obtain ⟨c, n, r, g0, g1, h⟩ := h
  exact ⟨c, n, r, g0, g1, hW _ _ _ _ h⟩
theorem mo_putI : mMono o_putI := by
  intro cal X cap Q1 Q2 W1 W2 nx a b v sw lv st σ hC hQ hW h
  obtain ⟨c, n, x, r, g0, g1, h⟩ := h
  exact ⟨c, n, x, r, g0, g1, hW _ _ _ _ h⟩
theorem mo_putZ : mMono o_putZ := by
  intro cal X cap Q1 Q2 W1 W2 nx a b v sw lv st σ hC hQ hW h
  obtain ⟨c, n, x, r, g0, g1, g2, h⟩ := h
  exact ⟨c, n, x, r, g0, g1, g2, hW _ _ _ _ h⟩
theorem mo_putR : mMono o_putR := by
  intro cal X cap Q1 Q2 W1 W2 nx a b v sw lv st σ hC hQ hW h
  obtain ⟨c, n, d, r, g0, g1, g2, h⟩ := h
  exact ⟨c, n, d, r, g0, g1, g2, hW _ _ _ _ h⟩
theorem mo_putL : mMono o_putL := by
  intro cal X cap Q1 Q2 W1 W2 nx a b v sw lv st σ hC hQ hW h
  obtain ⟨c, n, x, r, g0, g1, h⟩ := h
  exact ⟨c, n, x, r, g0, g1, hW _ _ _ _ h⟩
theorem mo_strV : mMono o_strV := by
  intro cal X cap Q1 Q2 W1 W2 nx a b v sw lv st σ hC hQ hW h
  obtain ⟨j, r, g0, g1, h⟩ := h
  exact ⟨j, r, g0, g1, hW _ _ _ _ h⟩
theorem mo_strC : mMono o_strC := by
  intro cal X cap Q1 Q2 W1 W2 nx a b v sw lv st σ hC hQ hW h
  obtain ⟨j, r, g0, g1, h⟩ := h
  exact ⟨j, r, g0, g1, hW _ _ _ _ h⟩
theorem mo_iald : mMono o_iald := by
  intro cal X cap Q1 Q2 W1 W2 nx a b v sw lv st σ hC hQ hW h
  obtain ⟨c, i, n, f, r, g0, g1, g2, h⟩ := h
  exact ⟨c, i, n, f, r, g0, g1, g2, hW _ _ _ _ h⟩
theorem mo_bald : mMono o_bald := by
  intro cal X cap Q1 Q2 W1 W2 nx a b v sw lv st σ hC hQ hW h
  obtain ⟨c, i, t, n, f, r, g0, g1, g2, g3, h⟩ := h
  exact ⟨c, i, t, n, f, r, g0, g1, g2, g3, hW _ _ _ _ h⟩
theorem mo_aald : mMono o_aald := by
  intro cal X cap Q1 Q2 W1 W2 nx a b v sw lv st σ hC hQ hW h
  obtain ⟨c, i, t, n, d, r, g0, g1, g2, g3, g4, h⟩ := h
  exact ⟨c, i, t, n, d, r, g0, g1, g2, g3, g4, hW _ _ _ _ h⟩
theorem mo_iast : mMono o_iast := by
  intro cal X cap Q1 Q2 W1 W2 nx a b v sw lv st σ hC hQ hW h
  obtain ⟨c, i, n, x, r, g0, g1, g2, h⟩ := h
  exact ⟨c, i, n, x, r, g0, g1, g2, hW _ _ _ _ h⟩
theorem mo_bast : mMono o_bast := by
  intro cal X cap Q1 Q2 W1 W2 nx a b v sw lv st σ hC hQ hW h
  obtain ⟨c, i, t, n, x, r, g0, g1, g2, g3, h⟩ := h
  exact ⟨c, i, t, n, x, r, g0, g1, g2, g3, hW _ _ _ _ h⟩
theorem mo_aast : mMono o_aast := by
  intro cal X cap Q1 Q2 W1 W2 nx a b v sw lv st σ hC hQ hW h
  obtain ⟨c, i, n, d, n2, r, g0, g1, g2, g3, h⟩ := h
  exact ⟨c, i, n, d, n2, r, g0, g1, g2, g3, hW _ _ _ _ h⟩
theorem mo_alen : mMono o_alen := by
  intro cal X cap Q1 Q2 W1 W2 nx a b v sw lv st σ hC hQ hW h
  obtain ⟨c, t, n, f, r, g0, g1, g2, h⟩ := h
  exact ⟨c, t, n, f, r, g0, g1, g2, hW _ _ _ _ h⟩
theorem mo_new : mMono o_new := by
  intro cal X cap Q1 Q2 W1 W2 nx a b v sw lv st σ hC hQ hW h
  obtain ⟨g0, h⟩ := h
  exact ⟨g0, hW _ _ _ _ h⟩
theorem mo_newa : mMono o_newa := by
  intro cal X cap Q1 Q2 W1 W2 nx a b v sw lv st σ hC hQ hW h
  obtain ⟨n, r, g0, g1, g2, g3, h⟩ := h
  exact ⟨n, r, g0, g1, g2, g3, hW _ _ _ _ h⟩
theorem mo_mna : mMono o_mna := by
  intro cal X cap Q1 Q2 W1 W2 nx a b v sw lv st σ hC hQ hW h
  obtain ⟨n, k, r, g0, g1, g2, g3, g4, g5, h⟩ := h
  exact ⟨n, k, r, g0, g1, g2, g3, g4, g5, hW _ _ _ _ h⟩
theorem mo_callV : mMono o_callV := by
  intro cal X cap Q1 Q2 W1 W2 nx a b v sw lv st σ hC hQ hW h
  obtain ⟨c, k, n, p, r, g0, g1, g2, g3, g4, h⟩ := h
  exact ⟨c, k, n, p, r, g0, g1, g2, g3, g4, hC _ _ _ _ _ (fun _ _ z => hW _ _ _ _ z) h⟩
theorem mo_callT : mMono o_callT := by
  intro cal X cap Q1 Q2 W1 W2 nx a b v sw lv st σ hC hQ hW h
  obtain ⟨j, p, r, g0, g1, g2, g3, h⟩ := h
  exact ⟨j, p, r, g0, g1, g2, g3, hC _ _ _ _ _ (fun _ _ z => hW _ _ _ _ z) h⟩
theorem mo_callS : mMono o_callS := by
  intro cal X cap Q1 Q2 W1 W2 nx a b v sw lv st σ hC hQ hW h
  obtain ⟨p, r, g0, g1, g2, g3, h⟩ := h
  exact ⟨p, r, g0, g1, g2, g3, hC _ _ _ _ _ (fun _ _ z => hW _ _ _ _ z) h⟩
theorem mo_callI : mMono o_callI := by
  intro cal X cap Q1 Q2 W1 W2 nx a b v sw lv st σ hC hQ hW h
  obtain ⟨c, p, r, g0, g1, g2, g3, g4, h⟩ := h
  exact ⟨c, p, r, g0, g1, g2, g3, g4, hC _ _ _ _ _ (fun _ _ z => hW _ _ _ _ z) h⟩
theorem mo_objI : mMono o_objI := by
  intro cal X cap Q1 Q2 W1 W2 nx a b v sw lv st σ hC hQ hW h
  obtain ⟨c, r, g0, g1, g2, h⟩ := h
  exact ⟨c, r, g0, g1, g2, hW _ _ _ _ h⟩
theorem mo_acopy : mMono o_acopy := by
  intro cal X cap Q1 Q2 W1 W2 nx a b v sw lv st σ hC hQ hW h
  obtain ⟨c, d, t, m, k, i, j, n, r, g0, g1, g2, g3, g4, g5, g6, g7, g8, g9, h⟩ := h
  exact ⟨c, d, t, m, k, i, j, n, r, g0, g1, g2, g3, g4, g5, g6, g7, g8, g9, hW _ _ _ _ h⟩
theorem mo_iret : mMono o_iret := by
  intro cal X cap Q1 Q2 W1 W2 nx a b v sw lv st σ hC hQ hW h
  obtain ⟨x, g0, h⟩ := h
  exact ⟨x, g0, hQ _ _ h⟩
theorem mo_zret : mMono o_zret := by
  intro cal X cap Q1 Q2 W1 W2 nx a b v sw lv st σ hC hQ hW h
  obtain ⟨x, g0, g1, h⟩ := h
  exact ⟨x, g0, g1, hQ _ _ h⟩
theorem mo_cret : mMono o_cret := by
  intro cal X cap Q1 Q2 W1 W2 nx a b v sw lv st σ hC hQ hW h
  obtain ⟨x, g0, g1, h⟩ := h
  exact ⟨x, g0, g1, hQ _ _ h⟩
theorem mo_bret : mMono o_bret := by
  intro cal X cap Q1 Q2 W1 W2 nx a b v sw lv st σ hC hQ hW h
  obtain ⟨x, g0, g1, h⟩ := h
  exact ⟨x, g0, g1, hQ _ _ h⟩
theorem mo_vret : mMono o_vret := by
  intro cal X cap Q1 Q2 W1 W2 nx a b v sw lv st σ hC hQ hW h
  obtain ⟨g0, h⟩ := h
  exact ⟨g0, hQ _ _ h⟩
theorem mo_vretC : mMono o_vretC := by
  intro cal X cap Q1 Q2 W1 W2 nx a b v sw lv st σ hC hQ hW h
  obtain ⟨g0, g1, h⟩ := h
  exact ⟨g0, g1, hQ _ _ h⟩
theorem mo_all : ∀ o ∈ mOps, mMono o := by
  unfold mOps
  exact List.forall_mem_cons.mpr ⟨mo_push, List.forall_mem_cons.mpr ⟨mo_iload, List.forall_mem_cons.mpr ⟨mo_aload, List.forall_mem_cons.mpr ⟨mo_lload, List.forall_mem_cons.mpr ⟨mo_istore, List.forall_mem_cons.mpr ⟨mo_astore, List.forall_mem_cons.mpr ⟨mo_iinc, List.forall_mem_cons.mpr ⟨mo_iadd, List.forall_mem_cons.mpr ⟨mo_isub, List.forall_mem_cons.mpr ⟨mo_imul, List.forall_mem_cons.mpr ⟨mo_idiv, List.forall_mem_cons.mpr ⟨mo_irem, List.forall_mem_cons.mpr ⟨mo_iand, List.forall_mem_cons.mpr ⟨mo_ior, List.forall_mem_cons.mpr ⟨mo_ixor, List.forall_mem_cons.mpr ⟨mo_ishl, List.forall_mem_cons.mpr ⟨mo_ishr, List.forall_mem_cons.mpr ⟨mo_iushr, List.forall_mem_cons.mpr ⟨mo_i2b, List.forall_mem_cons.mpr ⟨mo_i2c, List.forall_mem_cons.mpr ⟨mo_i2l, List.forall_mem_cons.mpr ⟨mo_lor, List.forall_mem_cons.mpr ⟨mo_lshl, List.forall_mem_cons.mpr ⟨mo_lcmp, List.forall_mem_cons.mpr ⟨mo_dup, List.forall_mem_cons.mpr ⟨mo_pop, List.forall_mem_cons.mpr ⟨mo_dup2, List.forall_mem_cons.mpr ⟨mo_goto, List.forall_mem_cons.mpr ⟨mo_ifeq, List.forall_mem_cons.mpr ⟨mo_ifne, List.forall_mem_cons.mpr ⟨mo_iflt, List.forall_mem_cons.mpr ⟨mo_ifge, List.forall_mem_cons.mpr ⟨mo_ifgt, List.forall_mem_cons.mpr ⟨mo_ifle, List.forall_mem_cons.mpr ⟨mo_iceq, List.forall_mem_cons.mpr ⟨mo_icne, List.forall_mem_cons.mpr ⟨mo_iclt, List.forall_mem_cons.mpr ⟨mo_icge, List.forall_mem_cons.mpr ⟨mo_icgt, List.forall_mem_cons.mpr ⟨mo_icle, List.forall_mem_cons.mpr ⟨mo_switch, List.forall_mem_cons.mpr ⟨mo_getI, List.forall_mem_cons.mpr ⟨mo_getR, List.forall_mem_cons.mpr ⟨mo_getL, List.forall_mem_cons.mpr ⟨mo_putI, List.forall_mem_cons.mpr ⟨mo_putZ, List.forall_mem_cons.mpr ⟨mo_putR, List.forall_mem_cons.mpr ⟨mo_putL, List.forall_mem_cons.mpr ⟨mo_strV, List.forall_mem_cons.mpr ⟨mo_strC, List.forall_mem_cons.mpr ⟨mo_iald, List.forall_mem_cons.mpr ⟨mo_bald, List.forall_mem_cons.mpr ⟨mo_aald, List.forall_mem_cons.mpr ⟨mo_iast, List.forall_mem_cons.mpr ⟨mo_bast, List.forall_mem_cons.mpr ⟨mo_aast, List.forall_mem_cons.mpr ⟨mo_alen, List.forall_mem_cons.mpr ⟨mo_new, List.forall_mem_cons.mpr ⟨mo_newa, List.forall_mem_cons.mpr ⟨mo_mna, List.forall_mem_cons.mpr ⟨mo_callV, List.forall_mem_cons.mpr ⟨mo_callT, List.forall_mem_cons.mpr ⟨mo_callS, List.forall_mem_cons.mpr ⟨mo_callI, List.forall_mem_cons.mpr ⟨mo_objI, List.forall_mem_cons.mpr ⟨mo_acopy, List.forall_mem_cons.mpr ⟨mo_iret, List.forall_mem_cons.mpr ⟨mo_zret, List.forall_mem_cons.mpr ⟨mo_cret, List.forall_mem_cons.mpr ⟨mo_bret, List.forall_mem_cons.mpr ⟨mo_vret, List.forall_mem_cons.mpr ⟨mo_vretC, fun _ h => absurd h List.not_mem_nil⟩⟩⟩⟩⟩⟩⟩⟩⟩⟩⟩⟩⟩⟩⟩⟩⟩⟩⟩⟩⟩⟩⟩⟩⟩⟩⟩⟩⟩⟩⟩⟩⟩⟩⟩⟩⟩⟩⟩⟩⟩⟩⟩⟩⟩⟩⟩⟩⟩⟩⟩⟩⟩⟩⟩⟩⟩⟩⟩⟩⟩⟩⟩⟩⟩⟩⟩⟩⟩⟩⟩⟩
theorem mu_push : mUp o_push := fun _ _ _ _ _ _ _ _ _ _ _ _ _ _ _ h => h
theorem mu_iload : mUp o_iload := fun _ _ _ _ _ _ _ _ _ _ _ _ _ _ _ h => h
theorem mu_aload : mUp o_aload := fun _ _ _ _ _ _ _ _ _ _ _ _ _ _ _ h => h
theorem mu_lload : mUp o_lload := fun _ _ _ _ _ _ _ _ _ _ _ _ _ _ _ h => h
theorem mu_istore : mUp o_istore := fun _ _ _ _ _ _ _ _ _ _ _ _ _ _ _ h => h
theorem mu_astore : mUp o_astore := fun _ _ _ _ _ _ _ _ _ _ _ _ _ _ _ h => h
theorem mu_iinc : mUp o_iinc := fun _ _ _ _ _ _ _ _ _ _ _ _ _ _ _ h => h
theorem mu_iadd : mUp o_iadd := fun _ _ _ _ _ _ _ _ _ _ _ _ _ _ _ h => h
theorem mu_isub : mUp o_isub := fun _ _ _ _ _ _ _ _ _ _ _ _ _ _ _ h => h
theorem mu_imul : mUp o_imul := fun _ _ _ _ _ _ _ _ _ _ _ _ _ _ _ h => h
theorem mu_idiv : mUp o_idiv := fun _ _ _ _ _ _ _ _ _ _ _ _ _ _ _ h => h
theorem mu_irem : mUp o_irem := fun _ _ _ _ _ _ _ _ _ _ _ _ _ _ _ h => h
theorem mu_iand : mUp o_iand := fun _ _ _ _ _ _ _ _ _ _ _ _ _ _ _ h => h
theorem mu_ior : mUp o_ior := fun _ _ _ _ _ _ _ _ _ _ _ _ _ _ _ h => h
theorem mu_ixor : mUp o_ixor := fun _ _ _ _ _ _ _ _ _ _ _ _ _ _ _ h => h
theorem mu_ishl : mUp o_ishl := fun _ _ _ _ _ _ _ _ _ _ _ _ _ _ _ h => h
theorem mu_ishr : mUp o_ishr := fun _ _ _ _ _ _ _ _ _ _ _ _ _ _ _ h => h
theorem mu_iushr : mUp o_iushr := fun _ _ _ _ _ _ _ _ _ _ _ _ _ _ _ h => h
theorem mu_i2b : mUp o_i2b := fun _ _ _ _ _ _ _ _ _ _ _ _ _ _ _ h => h
theorem mu_i2c : mUp o_i2c := fun _ _ _ _ _ _ _ _ _ _ _ _ _ _ _ h => h
theorem mu_i2l : mUp o_i2l := fun _ _ _ _ _ _ _ _ _ _ _ _ _ _ _ h => h
theorem mu_lor : mUp o_lor := fun _ _ _ _ _ _ _ _ _ _ _ _ _ _ _ h => h
theorem mu_lshl : mUp o_lshl := fun _ _ _ _ _ _ _ _ _ _ _ _ _ _ _ h => h
theorem mu_lcmp : mUp o_lcmp := fun _ _ _ _ _ _ _ _ _ _ _ _ _ _ _ h => h
theorem mu_dup : mUp o_dup := fun _ _ _ _ _ _ _ _ _ _ _ _ _ _ _ h => h
theorem mu_pop : mUp o_pop := fun _ _ _ _ _ _ _ _ _ _ _ _ _ _ _ h => h
theorem mu_dup2 : mUp o_dup2 := fun _ _ _ _ _ _ _ _ _ _ _ _ _ _ _ h => h
theorem mu_goto : mUp o_goto := fun _ _ _ _ _ _ _ _ _ _ _ _ _ _ _ h => h
theorem mu_ifeq : mUp o_ifeq := fun _ _ _ _ _ _ _ _ _ _ _ _ _ _ _ h => h
theorem mu_ifne : mUp o_ifne := fun _ _ _ _ _ _ _ _ _ _ _ _ _ _ _ h => h
theorem mu_iflt : mUp o_iflt := fun _ _ _ _ _ _ _ _ _ _ _ _ _ _ _ h => h
theorem mu_ifge : mUp o_ifge := fun _ _ _ _ _ _ _ _ _ _ _ _ _ _ _ h => h
theorem mu_ifgt : mUp o_ifgt := fun _ _ _ _ _ _ _ _ _ _ _ _ _ _ _ h => h
theorem mu_ifle : mUp o_ifle := fun _ _ _ _ _ _ _ _ _ _ _ _ _ _ _ h => h
theorem mu_iceq : mUp o_iceq := fun _ _ _ _ _ _ _ _ _ _ _ _ _ _ _ h => h
theorem mu_icne : mUp o_icne := fun _ _ _ _ _ _ _ _ _ _ _ _ _ _ _ h => h
theorem mu_iclt : mUp o_iclt := fun _ _ _ _ _ _ _ _ _ _ _ _ _ _ _ h => h
theorem mu_icge : mUp o_icge := fun _ _ _ _ _ _ _ _ _ _ _ _ _ _ _ h => h
theorem mu_icgt : mUp o_icgt := fun _ _ _ _ _ _ _ _ _ _ _ _ _ _ _ h => h
theorem mu_icle : mUp o_icle := fun _ _ _ _ _ _ _ _ _ _ _ _ _ _ _ h => h
theorem mu_switch : mUp o_switch := fun _ _ _ _ _ _ _ _ _ _ _ _ _ _ _ h => h
theorem mu_getI : mUp o_getI := fun _ _ _ _ _ _ _ _ _ _ _ _ _ _ _ h => h
theorem mu_getR : mUp o_getR := fun _ _ _ _ _ _ _ _ _ _ _ _ _ _ _ h => h
theorem mu_getL : mUp o_getL := fun _ _ _ _ _ _ _ _ _ _ _ _ _ _ _ h => h
theorem mu_putI : mUp o_putI := fun _ _ _ _ _ _ _ _ _ _ _ _ _ _ _ h => h
theorem mu_putZ : mUp o_putZ := fun _ _ _ _ _ _ _ _ _ _ _ _ _ _ _ h => h
theorem mu_putR : mUp o_putR := fun _ _ _ _ _ _ _ _ _ _ _ _ _ _ _ h => h
theorem mu_putL : mUp o_putL := fun _ _ _ _ _ _ _ _ _ _ _ _ _ _ _ h => h
theorem mu_strV : mUp o_strV := fun _ _ _ _ _ _ _ _ _ _ _ _ _ _ _ h => h
theorem mu_strC : mUp o_strC := fun _ _ _ _ _ _ _ _ _ _ _ _ _ _ _ h => h
theorem mu_iald : mUp o_iald := fun _ _ _ _ _ _ _ _ _ _ _ _ _ _ _ h => h
theorem mu_bald : mUp o_bald := fun _ _ _ _ _ _ _ _ _ _ _ _ _ _ _ h => h
theorem mu_aald : mUp o_aald := fun _ _ _ _ _ _ _ _ _ _ _ _ _ _ _ h => h
theorem mu_iast : mUp o_iast := fun _ _ _ _ _ _ _ _ _ _ _ _ _ _ _ h => h
theorem mu_bast : mUp o_bast := fun _ _ _ _ _ _ _ _ _ _ _ _ _ _ _ h => h
theorem mu_aast : mUp o_aast := fun _ _ _ _ _ _ _ _ _ _ _ _ _ _ _ h => h
theorem mu_alen : mUp o_alen := fun _ _ _ _ _ _ _ _ _ _ _ _ _ _ _ h => h
theorem mu_new : mUp o_new := fun _ _ _ _ _ _ _ _ _ _ _ _ _ _ _ h => h
theorem mu_newa : mUp o_newa := fun _ _ _ _ _ _ _ _ _ _ _ _ _ _ _ h => h
theorem mu_mna : mUp o_mna := fun _ _ _ _ _ _ _ _ _ _ _ _ _ _ _ h => h
theorem mu_callV : mUp o_callV := by
  intro c1 c2 X cap Q W nx a b v sw lv st σ hc h
  obtain ⟨c, k, n, p, r, g0, g1, g2, g3, g4, h⟩ := h
  exact ⟨c, k, n, p, r, g0, g1, g2, g3, g4, hc _ _ _ _ h⟩
theorem mu_callT : mUp o_callT := by
  intro c1 c2 X cap Q W nx a b v sw lv st σ hc h
  obtain ⟨j, p, r, g0, g1, g2, g3, h⟩ := h
  exact ⟨j, p, r, g0, g1, g2, g3, hc _ _ _ _ h⟩
theorem mu_callS : mUp o_callS := by
  intro c1 c2 X cap Q W nx a b v sw lv st σ hc h
  obtain ⟨p, r, g0, g1, g2, g3, h⟩ := h
  exact ⟨p, r, g0, g1, g2, g3, hc _ _ _ _ h⟩
theorem mu_callI : mUp o_callI := by
  intro c1 c2 X cap Q W nx a b v sw lv st σ hc h
  obtain ⟨c, p, r, g0, g1, g2, g3, g4, h⟩ := h
  exact ⟨c, p, r, g0, g1, g2, g3, g4, hc _ _ _ _ h⟩
theorem mu_objI : mUp o_objI := fun _ _ _ _ _ _ _ _ _ _ _ _ _ _ _ h => h
theorem mu_acopy : mUp o_acopy := fun _ _ _ _ _ _ _ _ _ _ _ _ _ _ _ h => h
theorem mu_iret : mUp o_iret := fun _ _ _ _ _ _ _ _ _ _ _ _ _ _ _ h => h
theorem mu_zret : mUp o_zret := fun _ _ _ _ _ _ _ _ _ _ _ _ _ _ _ h => h
theorem mu_cret : mUp o_cret := fun _ _ _ _ _ _ _ _ _ _ _ _ _ _ _ h => h
theorem mu_bret : mUp o_bret := fun _ _ _ _ _ _ _ _ _ _ _ _ _ _ _ h => h
theorem mu_vret : mUp o_vret := fun _ _ _ _ _ _ _ _ _ _ _ _ _ _ _ h => h
theorem mu_vretC : mUp o_vretC := fun _ _ _ _ _ _ _ _ _ _ _ _ _ _ _ h => h
theorem mo_up : ∀ o ∈ mOps, mUp o := by
  unfold mOps
  exact List.forall_mem_cons.mpr ⟨mu_push, List.forall_mem_cons.mpr ⟨mu_iload, List.forall_mem_cons.mpr ⟨mu_aload, List.forall_mem_cons.mpr ⟨mu_lload, List.forall_mem_cons.mpr ⟨mu_istore, List.forall_mem_cons.mpr ⟨mu_astore, List.forall_mem_cons.mpr ⟨mu_iinc, List.forall_mem_cons.mpr ⟨mu_iadd, List.forall_mem_cons.mpr ⟨mu_isub, List.forall_mem_cons.mpr ⟨mu_imul, List.forall_mem_cons.mpr ⟨mu_idiv, List.forall_mem_cons.mpr ⟨mu_irem, List.forall_mem_cons.mpr ⟨mu_iand, List.forall_mem_cons.mpr ⟨mu_ior, List.forall_mem_cons.mpr ⟨mu_ixor, List.forall_mem_cons.mpr ⟨mu_ishl, List.forall_mem_cons.mpr ⟨mu_ishr, List.forall_mem_cons.mpr ⟨mu_iushr, List.forall_mem_cons.mpr ⟨mu_i2b, List.forall_mem_cons.mpr ⟨mu_i2c, List.forall_mem_cons.mpr ⟨mu_i2l, List.forall_mem_cons.mpr ⟨mu_lor, List.forall_mem_cons.mpr ⟨mu_lshl, List.forall_mem_cons.mpr ⟨mu_lcmp, List.forall_mem_cons.mpr ⟨mu_dup, List.forall_mem_cons.mpr ⟨mu_pop, List.forall_mem_cons.mpr ⟨mu_dup2, List.forall_mem_cons.mpr ⟨mu_goto, List.forall_mem_cons.mpr ⟨mu_ifeq, List.forall_mem_cons.mpr ⟨mu_ifne, List.forall_mem_cons.mpr ⟨mu_iflt, List.forall_mem_cons.mpr ⟨mu_ifge, List.forall_mem_cons.mpr ⟨mu_ifgt, List.forall_mem_cons.mpr ⟨mu_ifle, List.forall_mem_cons.mpr ⟨mu_iceq, List.forall_mem_cons.mpr ⟨mu_icne, List.forall_mem_cons.mpr ⟨mu_iclt, List.forall_mem_cons.mpr ⟨mu_icge, List.forall_mem_cons.mpr ⟨mu_icgt, List.forall_mem_cons.mpr ⟨mu_icle, List.forall_mem_cons.mpr ⟨mu_switch, List.forall_mem_cons.mpr ⟨mu_getI, List.forall_mem_cons.mpr ⟨mu_getR, List.forall_mem_cons.mpr ⟨mu_getL, List.forall_mem_cons.mpr ⟨mu_putI, List.forall_mem_cons.mpr ⟨mu_putZ, List.forall_mem_cons.mpr ⟨mu_putR, List.forall_mem_cons.mpr ⟨mu_putL, List.forall_mem_cons.mpr ⟨mu_strV, List.forall_mem_cons.mpr ⟨mu_strC, List.forall_mem_cons.mpr ⟨mu_iald, List.forall_mem_cons.mpr ⟨mu_bald, List.forall_mem_cons.mpr ⟨mu_aald, List.forall_mem_cons.mpr ⟨mu_iast, List.forall_mem_cons.mpr ⟨mu_bast, List.forall_mem_cons.mpr ⟨mu_aast, List.forall_mem_cons.mpr ⟨mu_alen, List.forall_mem_cons.mpr ⟨mu_new, List.forall_mem_cons.mpr ⟨mu_newa, List.forall_mem_cons.mpr ⟨mu_mna, List.forall_mem_cons.mpr ⟨mu_callV, List.forall_mem_cons.mpr ⟨mu_callT, List.forall_mem_cons.mpr ⟨mu_callS, List.forall_mem_cons.mpr ⟨mu_callI, List.forall_mem_cons.mpr ⟨mu_objI, List.forall_mem_cons.mpr ⟨mu_acopy, List.forall_mem_cons.mpr ⟨mu_iret, List.forall_mem_cons.mpr ⟨mu_zret, List.forall_mem_cons.mpr ⟨mu_cret, List.forall_mem_cons.mpr ⟨mu_bret, List.forall_mem_cons.mpr ⟨mu_vret, List.forall_mem_cons.mpr ⟨mu_vretC, fun _ h => absurd h List.not_mem_nil⟩⟩⟩⟩⟩⟩⟩⟩⟩⟩⟩⟩⟩⟩⟩⟩⟩⟩⟩⟩⟩⟩⟩⟩⟩⟩⟩⟩⟩⟩⟩⟩⟩⟩⟩⟩⟩⟩⟩⟩⟩⟩⟩⟩⟩⟩⟩⟩⟩⟩⟩⟩⟩⟩⟩⟩⟩⟩⟩⟩⟩⟩⟩⟩⟩⟩⟩⟩⟩⟩⟩⟩
def mEx (cal : mCal) (X : mX) (cap : Nat × Nat) (Q : mPost) (W : mWt) (e : mE) (lv st : List Value) (σ : mS) : Prop := ∃ o : mOp, mOps[e.1]? = some o ∧ o cal X cap Q W e.2.1 e.2.2.1 e.2.2.2.1 e.2.2.2.2.1 e.2.2.2.2.2 lv st σ
def mF (cal : mCal) (X : mX) (cap : Nat × Nat) (md : Nat) (Q : mPost) (W : mWt) (pc : Nat) (lv st : List Value) (σ : mS) : Prop := ∃ e : mE, mAt md pc = some e ∧ mEx cal X cap Q W e lv st σ
/-- from here on the method comes to an end with Q -/
def mW (cal : mCal) (X : mX) (cap : Nat × Nat) (md : Nat) (Q : mPost) (pc : Nat) (lv st : List Value) (σ : mS) : Prop :=
  ∀ W : mWt, (∀ pc lv st σ, mF cal X cap md Q W pc lv st σ → W pc lv st σ) → W pc lv st σ
def mLoc (md : Nat) (args : List Value) : List Value := (args.flatMap fun u => if u.category = 2 then [u, .retAddr 0] else [u]) ++ List.replicate (mML md - (args.map fun u => u.category).sum) .null
def mCall (X : mX) : Nat → mCal
  | 0 => fun _ _ _ _ => False
  | d + 1 => fun md args σ Q => (args.map fun u => u.category).sum ≤ mML md ∧ mW (mCall X d) X (σ.2.2.2.length + (mAl md).1, mSum σ.2.2.2 + (mAl md).2) md Q 0 (mLoc md args) [] σ
theorem mEx_mono {cal : mCal} {X : mX} {cap : Nat × Nat} {Q1 Q2 : mPost} {W1 W2 : mWt} {e : mE} {lv st : List Value} {σ : mS} (hC : mCM cal) (hQ : ∀ v s, Q1 v s → Q2 v s) (hW : ∀ pc lv st σ, W1 pc lv st σ → W2 pc lv st σ) (h : mEx cal X cap Q1 W1 e lv st σ) : mEx cal X cap Q2 W2 e lv st σ := by
  obtain ⟨o, h1, h2⟩ := h
  exact ⟨o, h1, mo_all o (List.mem_of_getElem? h1) _ _ _ _ _ _ _ _ _ _ _ _ _ _ _ hC hQ hW h2⟩
theorem mF_mono {cal : mCal} {X : mX} {cap : Nat × Nat} {md : Nat} {Q1 Q2 : mPost} {W1 W2 : mWt} {pc : Nat} {lv st : List Value} {σ : mS} (hC : mCM cal) (hQ : ∀ v s, Q1 v s → Q2 v s) (hW : ∀ pc lv st σ, W1 pc lv st σ → W2 pc lv st σ) (h : mF cal X cap md Q1 W1 pc lv st σ) : mF cal X cap md Q2 W2 pc lv st σ := by
  obtain ⟨e, h1, h2⟩ := h
  exact ⟨e, h1, mEx_mono hC hQ hW h2⟩
theorem mW_mono {cal : mCal} {X : mX} {cap : Nat × Nat} {md : Nat} {Q1 Q2 : mPost} {pc : Nat} {lv st : List Value} {σ : mS} (hC : mCM cal) (hQ : ∀ v s, Q1 v s → Q2 v s) (h : mW cal X cap md Q1 pc lv st σ) : mW cal X cap md Q2 pc lv st σ :=
  fun W hW => h W (fun pc lv st σ g => hW pc lv st σ (mF_mono hC hQ (fun _ _ _ _ z => z) g))
theorem mCall_mono (X : mX) : ∀ d, mCM (mCall X d)
  | 0 => fun _ _ _ _ _ _ h => h
  | d + 1 => fun _ _ _ _ _ hQ h => ⟨h.1, mW_mono (mCall_mono X d) hQ h.2⟩
theorem mW_fold {cal : mCal} {X : mX} {cap : Nat × Nat} {md : Nat} {Q : mPost} {pc : Nat} {lv st : List Value} {σ : mS} (hC : mCM cal) (h : mF cal X cap md Q (mW cal X cap md Q) pc lv st σ) : mW cal X cap md Q pc lv st σ :=
  fun W hW => hW pc lv st σ (mF_mono hC (fun _ _ z => z) (fun pc lv st σ z => z W hW) h)
theorem mW_unfold {cal : mCal} {X : mX} {cap : Nat × Nat} {md : Nat} {Q : mPost} {pc : Nat} {lv st : List Value} {σ : mS} (hC : mCM cal) (h : mW cal X cap md Q pc lv st σ) : mF cal X cap md Q (mW cal X cap md Q) pc lv st σ :=
  h (mF cal X cap md Q (mW cal X cap md Q)) (fun _ _ _ _ g => mF_mono hC (fun _ _ z => z) (fun _ _ _ _ z => mW_fold hC z) g)
/-- one instruction: its rule in place of the judgement -/
theorem mW_k {X : mX} {d : Nat} {cap : Nat × Nat} {md : Nat} {Q : mPost} {pc : Nat} {lv st : List Value} {σ : mS} {n nx a b : Nat} {v : Value} {sw : List (Int32 × Nat)} {o : mOp} (h : mAt md pc = some (n, nx, a, b, v, sw)) (ho : mOps[n]? = some o) :
    mW (mCall X d) X cap md Q pc lv st σ = o (mCall X d) X cap Q (mW (mCall X d) X cap md Q) nx a b v sw lv st σ := by
  refine propext ⟨fun z => ?_, fun z => mW_fold (mCall_mono X d) ⟨_, h, o, ho, z⟩⟩
  obtain ⟨e, h1, o', h2, h3⟩ := mW_unfold (mCall_mono X d) z
  cases h.symm.trans h1
  cases ho.symm.trans h2
  exact h3
theorem mCall_up (X : mX) : ∀ d, ∀ md args σ Q, mCall X d md args σ Q → mCall X (d + 1) md args σ Q
  | 0 => fun _ _ _ _ h => h.elim
  | d + 1 => fun md args σ Q h => by
    refine ⟨h.1, fun W hW => h.2 W (fun pc lv st σ g => hW pc lv st σ ?_)⟩
    obtain ⟨e, h1, o, h2, h3⟩ := g
    exact ⟨e, h1, o, h2, mo_up o (List.mem_of_getElem? h2) _ _ _ _ _ _ _ _ _ _ _ _ _ _ (fun a p s R => mCall_up X d a p s R) h3⟩
theorem mCall_le (X : mX) {d e : Nat} (h : d ≤ e) {md : Nat} {args : List Value} {σ : mS} {Q : mPost} (hc : mCall X d md args σ Q) : mCall X e md args σ Q := by
  induction h with
  | refl => exact hc
  | step _ ih => exact mCall_up X _ _ _ _ _ ih
def mEq (x : Option mE) (b : mE) : Bool := match x with
  | some a => a.1 == b.1 && a.2.1 == b.2.1 && a.2.2.1 == b.2.2.1 && a.2.2.2.1 == b.2.2.2.1 && decide (a.2.2.2.2 = b.2.2.2.2)
  | none => false
theorem mEq_ok {x : Option mE} {y : mE} (h : mEq x y = true) : x = some y := by
  obtain ⟨b1, b2, b3, b4, b5⟩ := y
  cases x with
  | none => cases h
  | some a =>
    obtain ⟨a1, a2, a3, a4, a5⟩ := a
    simp only [mEq, Bool.and_eq_true, beq_iff_eq, decide_eq_true_eq] at h
    obtain ⟨⟨⟨⟨h1, h2⟩, h3⟩, h4⟩, h5⟩ := h
    rw [h1, h2, h3, h4, h5]
