/-! new int[n][k]: the outer array, then its rows, one cell behind the other -/
def gO (c N h0 i : Nat) : Cell := arrV c N (fun j => va_rf (if j < i then some (h0 + 1 + j) else none))
def gI (c M : Nat) : Cell := arrV c M (fun _ => .int 0)
def gF (s : State) (c comp N M : Nat) : Nat → State
  | 0 => s.pushCell (gO c N s.heap.size 0)
  | i + 1 => ((gF s c comp N M i).pushCell (gI comp M)).setCell s.heap.size (gO c N s.heap.size (i + 1))
theorem gO_0 (c N h0 : Nat) : ({ cls := c, slots := Array.replicate N .null, vm := .none } : Cell) = gO c N h0 0 := by
  rw [arrV_new]
  rfl
theorem gI_0 (c M : Nat) : ({ cls := c, slots := Array.replicate M (.int 0), vm := .none } : Cell) = gI c M := arrV_new c M (.int 0)
theorem gO_s (c N h0 i : Nat) : (gO c N h0 i).setSlot i (.ref (h0 + 1 + i)) = gO c N h0 (i + 1) := by
  unfold gO
  rw [arrV_store]
  congr 1
  funext j
  unfold updV
  by_cases e : j = i
  · subst e
    simp [va_rf]
  · have e2 : j < i + 1 ↔ j < i := by omega
    simp [e, e2]
theorem gO_z (c N h0 i : Nat) : (gO c N h0 i).slots.size = N := arrV_size _ _ _
theorem gI_z (c M : Nat) : (gI c M).slots.size = M := arrV_size _ _ _
theorem gF_f (s : State) (c comp N M : Nat) : ∀ i, (gF s c comp N M i).heap.size = s.heap.size + 1 + i ∧ (gF s c comp N M i).heap[s.heap.size]? = some (gO c N s.heap.size i) ∧ (gF s c comp N M i).vm = s.vm ∧ (gF s c comp N M i).slotsUsed = s.slotsUsed + N + i * M
  | 0 => ⟨by simp [gF], by simp [gF], rfl, by simp [gF, gO_z]⟩
  | i + 1 => by
    obtain ⟨a, b, d, u⟩ := gF_f s c comp N M i
    have hlt : s.heap.size < (gF s c comp N M i).heap.size := by omega
    have hb' : ((gF s c comp N M i).pushCell (gI comp M)).heap[s.heap.size]? = some (gO c N s.heap.size i) := by rw [State.heap_pushCell_of_lt (h := hlt)]; exact b
    refine ⟨?_, State.heap_setCell_self hb', by simp [gF, d], ?_⟩
    · simp [gF, State.setCell, a]; omega
    · simp [gF, u, gI_z, Nat.succ_mul]; omega
theorem gF_top (s : State) (f : JFrame) (c comp N M : Nat) : ∀ i, gF (s.setTop f) c comp N M i = (gF s c comp N M i).setTop f
  | 0 => rfl
  | i + 1 => by simp only [gF, gF_top s f c comp N M i, State.heap_setTop, State.pushCell_setTop, State.setCell_setTop]
theorem gF_old (s : State) (c comp N M : Nat) {a : Addr} (ha : a < s.heap.size) : ∀ i, (gF s c comp N M i).heap[a]? = s.heap[a]?
  | 0 => State.heap_pushCell_of_lt _ _ ha
  | i + 1 => by
    have f1 := (gF_f s c comp N M i).1
    have hlt : a < (gF s c comp N M i).heap.size := Nat.lt_of_lt_of_le ha (by rw [f1]; omega)
    show (((gF s c comp N M i).pushCell (gI comp M)).setCell s.heap.size _).heap[a]? = _
    rw [State.heap_setCell_other (Nat.ne_of_gt ha), State.heap_pushCell_of_lt (h := hlt)]
    exact gF_old s c comp N M ha i
theorem gF_row (s : State) (c comp N M : Nat) : ∀ i j, j < i → (gF s c comp N M i).heap[s.heap.size + 1 + j]? = some (gI comp M)
  | 0, _, h => absurd h (Nat.not_lt_zero _)
  | i + 1, j, h => by
    have f1 := (gF_f s c comp N M i).1
    show (((gF s c comp N M i).pushCell (gI comp M)).setCell s.heap.size _).heap[s.heap.size + 1 + j]? = _
    rw [State.heap_setCell_other (show s.heap.size ≠ s.heap.size + 1 + j by omega)]
    rcases Nat.lt_or_ge j i with hj | hj
    · have hlt : s.heap.size + 1 + j < (gF s c comp N M i).heap.size := by rw [f1]; omega
      rw [State.heap_pushCell_of_lt (h := hlt)]
      exact gF_row s c comp N M i j hj
    · have e : j = i := by omega
      subst e
      rw [← f1]
      exact State.heap_pushCell_size _ _
theorem gNew {E : CtlPost} {e : Env} {d : Bool} {acts : List Action} {s : State} {c comp : ClassId} {k : Class} {ty : FieldType} {len : Nat} {ini : Value} (hk : s.vm.classes[c]? = some k) (hkind : k.kind = .array comp ty)
    (hlim : ¬ len > e.platform.arrayLengthLimit) (hheap : ¬ len * componentBytes ty > e.platform.maxHeapBytes) (hfit : fits ty ini = true) (hdef : ini.isDefault = true) {Q : Addr → Pre}
    (h1 : s.heap.size < e.platform.maxCells) (h2 : s.slotsUsed + len ≤ e.platform.maxSlots)
    (hq : Q s.heap.size d acts (s.pushCell { cls := c, slots := Array.replicate len ini, vm := .none })) :
    wp (Jvm.newArray c len ini) Q E e d acts s := by
  have hfits : ∀ i v, (Array.replicate len ini)[i]? = some v → s.fitsSlot c .none i v = true := by
    intro i v hv
    simp only [Array.getElem?_replicate] at hv
    split at hv
    · cases hv; simp [State.fitsSlot, State.slotType?, hk, hkind, hfit]
    · cases hv
  have hda : allocActs (Array.replicate len ini) s.heap.size acts = acts := by
    have hall : ((Array.replicate len ini).all (·.isDefault)) = true := by
      rw [Array.all_replicate]; split <;> simp [hdef]
    unfold allocActs; rw [if_pos hall]
  simp only [Jvm.newArray, Jvm.arrayFits, wp_bind', _root_.Jvm.W.ask, _root_.Jvm.W.ite, hlim, if_false, wp_pure', _root_.Jvm.W.theClass, hk, hkind, hheap, _root_.Jvm.W.alloc, _root_.Jvm.W.stop, Option.some.injEq, exists_eq_left', Array.size_replicate, hda]
  rw [if_neg (by omega)]
  exact ⟨h1, h2, hfits, hq⟩

theorem gMk1 {E : CtlPost} {e : Env} {d : Bool} {acts : List Action} {s : State} {comp cc : ClassId} {kc : Class} {k : Int32} (hkc : s.vm.classes[comp]? = some kc) (hkindc : kc.kind = .array cc .int) (hm : ¬ k < 0)
    (hl2 : ¬ k.toNatClampNeg > e.platform.arrayLengthLimit) (hh2 : ¬ k.toNatClampNeg * 4 > e.platform.maxHeapBytes) (h1 : s.heap.size < e.platform.maxCells) (h2 : s.slotsUsed + k.toNatClampNeg ≤ e.platform.maxSlots)
    {Q : Addr → Pre} (hq : Q s.heap.size d acts (s.pushCell (gI comp k.toNatClampNeg))) : wp (multianewarray.make comp [k]) Q E e d acts s := by
  rw [multianewarray.make]
  simp only [wp_bind', _root_.Jvm.W.ite, hm, if_false, wp_pure', _root_.Jvm.W.theClass, hkc, hkindc, Option.some.injEq, exists_eq_left']
  refine gNew hkc hkindc hl2 hh2 rfl rfl h1 h2 ?_
  rw [← gI_0] at hq
  exact hq
theorem gMk2 {E : CtlPost} {e : Env} {d : Bool} {acts : List Action} {s : State} {c comp cc : ClassId} {k kc : Class} {n m : Int32} (hk : s.vm.classes[c]? = some k) (hkind : k.kind = .array comp (.array .int)) (hkc : s.vm.classes[comp]? = some kc) (hkindc : kc.kind = .array cc .int) (hn : ¬ n < 0) (hm : ¬ m < 0)
    (hl1 : ¬ n.toNatClampNeg > e.platform.arrayLengthLimit) (hh1 : ¬ n.toNatClampNeg * 4 > e.platform.maxHeapBytes) (hl2 : ¬ m.toNatClampNeg > e.platform.arrayLengthLimit) (hh2 : ¬ m.toNatClampNeg * 4 > e.platform.maxHeapBytes)
    (hc : s.heap.size + 1 + n.toNatClampNeg ≤ e.platform.maxCells) (hs : s.slotsUsed + n.toNatClampNeg + n.toNatClampNeg * m.toNatClampNeg ≤ e.platform.maxSlots)
    {Q : Addr → Pre} (hq : ∀ d' acts', Q s.heap.size d' acts' (gF s c comp n.toNatClampNeg m.toNatClampNeg n.toNatClampNeg)) : wp (multianewarray.make c [n, m]) Q E e d acts s := by
  have hfind : ([m].find? (· < 0)) = none := by simp [hm]
  rw [multianewarray.make]
  simp only [wp_bind', _root_.Jvm.W.ite, hn, if_false, wp_pure', _root_.Jvm.W.theClass, hk, hkind, Option.some.injEq, exists_eq_left']
  refine gNew hk hkind hl1 hh1 rfl rfl (by omega) (by have := Nat.zero_le (n.toNatClampNeg * m.toNatClampNeg); omega) ?_
  simp only [hfind]
  rw [ite_self, wp_bind', Std.Legacy.Range.forIn_eq_forIn_range']
  have hsz : ([:n.toNatClampNeg] : Std.Legacy.Range).size = n.toNatClampNeg := by simp [Std.Legacy.Range.size]
  rw [hsz]
  show wp (forIn (List.range' 0 n.toNatClampNeg 1) PUnit.unit _) _ E e d acts _
  refine wp_forIn_inv (fun rest s' => ∃ i, i ≤ n.toNatClampNeg ∧ rest = List.range' i (n.toNatClampNeg - i) ∧ s' = gF s c comp n.toNatClampNeg m.toNatClampNeg i) _ _ ⟨0, Nat.zero_le _, rfl, by rw [gO_0 c n.toNatClampNeg s.heap.size]; rfl⟩ ?_ ?_
  · rintro x rest s' d' acts' Q' ⟨i, hi, hl, rfl⟩ hnext
    have hlt : i < n.toNatClampNeg := by
      rcases Nat.lt_or_ge i n.toNatClampNeg with h | h
      · exact h
      · rw [show n.toNatClampNeg - i = 0 from by omega] at hl; simp at hl
    obtain ⟨rfl, hrest⟩ : x = i ∧ rest = List.range' (i + 1) (n.toNatClampNeg - (i + 1)) := by
      rw [show n.toNatClampNeg - i = (n.toNatClampNeg - (i + 1)) + 1 from by omega, List.range'_succ] at hl
      exact ⟨(List.cons.inj hl).1, (List.cons.inj hl).2⟩
    obtain ⟨f1, f2, f3, f4⟩ := gF_f s c comp n.toNatClampNeg m.toNatClampNeg x
    have hmul : x * m.toNatClampNeg + m.toNatClampNeg ≤ n.toNatClampNeg * m.toNatClampNeg := by
      have := Nat.mul_le_mul_right m.toNatClampNeg (show x + 1 ≤ n.toNatClampNeg from hlt)
      rw [Nat.succ_mul] at this; exact this
    simp only [wp_bind']
    refine gMk1 (by rw [f3]; exact hkc) hkindc hm hl2 hh2 (by rw [f1]; omega) (by rw [f4]; omega) ?_
    have hlt0 : s.heap.size < (gF s c comp n.toNatClampNeg m.toNatClampNeg x).heap.size := by rw [f1]; omega
    simp only [wp_bind', _root_.Jvm.W.writeLoc, wp_pure']
    refine ⟨gO c n.toNatClampNeg s.heap.size x, by rw [State.heap_pushCell_of_lt (h := hlt0)]; exact f2, (fun z => by cases z), by rw [gO_z]; exact hlt, ?_, hnext _ _ _ ⟨x + 1, hlt, hrest, ?_⟩⟩
    · show State.fitsSlot _ c .none x _ = true
      simp [State.fitsSlot, State.slotType?, f3, hk, hkind]
      rfl
    · rw [f1, gO_s]; rfl
  · rintro s' d' acts' ⟨i, hi, hl, rfl⟩
    have hiN : i = n.toNatClampNeg := by
      rcases Nat.lt_or_ge i n.toNatClampNeg with h | h
      · rw [show n.toNatClampNeg - i = (n.toNatClampNeg - (i + 1)) + 1 from by omega, List.range'_succ] at hl; cases hl
      · omega
    subst hiN
    simp only [wp_pure']
    exact hq _ _
section GS
variable {p : Program} {l : Launch} {e : Env} {R : Room} {s : State} {m : MethodId} {args : Array Value} {below : List Frame} {meth : Method} {c : Code} {T : State} {locs : List Loc} {cells slots : Nat}
theorem gStand (X : Stand p l e R s m args below meth c T locs cells slots) (cA comp N M : Nat) : ∀ i, Stand p l e R s m args below meth c (gF T cA comp N M i) (locs ++ (List.range i).map fun j => ⟨T.heap.size, j⟩) (cells + 1 + i) (slots + N + i * M)
  | 0 => by
    have h := X.pushed (gO cA N T.heap.size 0)
    rw [gO_z] at h
    simpa [gF] using h
  | i + 1 => by
    have Xi := gStand X cA comp N M i
    obtain ⟨f1, f2, f3, f4⟩ := gF_f T cA comp N M i
    have hlt0 : T.heap.size < (gF T cA comp N M i).heap.size := by rw [f1]; omega
    have hcell : ((gF T cA comp N M i).pushCell (gI comp M)).heap[T.heap.size]? = some (gO cA N T.heap.size i) := by rw [State.heap_pushCell_of_lt (h := hlt0)]; exact f2
    have h := (Xi.pushed (gI comp M)).stored hcell i (.ref (T.heap.size + 1 + i))
    rw [gI_z, gO_s] at h
    have e2 : (locs ++ (List.range (i + 1)).map fun j => (⟨T.heap.size, j⟩ : Loc)) = (locs ++ (List.range i).map fun j => (⟨T.heap.size, j⟩ : Loc)) ++ [⟨T.heap.size, i⟩] := by simp [List.range_succ, List.append_assoc]
    have e3 : slots + N + (i + 1) * M = slots + N + i * M + M := by rw [Nat.succ_mul]; omega
    rw [e2, e3]
    exact h
theorem gGo (X : Stand p l e R s m args below meth c T locs cells slots) (hexec : p.tables.exec = Jvm.exec) {own : String} {index : Nat} {cA comp cc : ClassId} {kA kC : Class} (hown : s.vm.findClass own = some m.cls) (hclink : (Cond.classLink own index "[[I").before args s = true)
    (hnameA : s.vm.findClass "[[I" = some cA) (hkA : s.vm.classes[cA]? = some kA) (hkindA : kA.kind = .array comp (.array .int)) (hkC : s.vm.classes[comp]? = some kC) (hkindC : kC.kind = .array cc .int)
    {g : JFrame} (hg : g.method = m) (hdg : decode c.code g.pc = .ok (.multianewarray index 2, 4)) {n k : Int32} {rest : List Value} (hstack : g.stack = .int k :: .int n :: rest)
    (hn : ¬ n < 0) (hk : ¬ k < 0) (hb1 : n.toNatClampNeg ≤ 64) (hb2 : k.toNatClampNeg ≤ 64)
    (hcells : cells + (1 + n.toNatClampNeg) ≤ R.cells) (hslots : slots + (n.toNatClampNeg + n.toNatClampNeg * k.toNatClampNeg) ≤ R.slots) :
    ∃ vm₁ : Vm, Stand p l e R s m args below meth c (gF (T.setVm vm₁) cA comp n.toNatClampNeg k.toNatClampNeg n.toNatClampNeg) (locs ++ (List.range n.toNatClampNeg).map fun j => ⟨T.heap.size, j⟩) (cells + 1 + n.toNatClampNeg) (slots + n.toNatClampNeg + n.toNatClampNeg * k.toNatClampNeg) ∧
      ∀ target, Steps p.tables e below ((gF (T.setVm vm₁) cA comp n.toNatClampNeg k.toNatClampNeg n.toNatClampNeg).setTop { g with pc := g.pc + 4, stack := .ref T.heap.size :: rest }) target → Steps p.tables e below (T.setTop g) target := by
  subst hg
  have hpl : e.platform.magicAccessors = ({} : Platform).magicAccessors := by rw [X.admits.platform]
  obtain ⟨c0, hfc0, hcl⟩ := Cond.classLink_spec hown hclink e.platform hpl
  cases hnameA.symm.trans hfc0
  obtain ⟨hg₁, hwarm₁, hready₁⟩ := State.classEntry (e := e) X.warmed hcl
  generalize T.vm.noted g.method.cls index (.cls cA) = vm₁ at hg₁ hwarm₁ hready₁
  have hal : s.vm.Alike vm₁ := hwarm₁.alike
  obtain ⟨kA₁, hkA₁, heA⟩ := hal.2.2 _ _ hkA
  obtain ⟨kC₁, hkC₁, heC⟩ := hal.2.2 _ _ hkC
  have hkindA₁ : kA₁.kind = .array comp (.array .int) := by rw [heA]; exact hkindA
  have hkindC₁ : kC₁.kind = .array cc .int := by rw [heC]; exact hkindC
  have X₁ := X.noted hwarm₁
  obtain ⟨hr1, hr2⟩ := X.roomAbove hcells hslots
  refine ⟨vm₁, gStand X₁ cA comp _ _ _, fun target hrest => ?_⟩
  have hl1 : ¬ n.toNatClampNeg > e.platform.arrayLengthLimit := by rw [Launch.admits_arrayLengthLimit X.admits]; omega
  have hh1 : ¬ n.toNatClampNeg * 4 > e.platform.maxHeapBytes := by rw [Launch.admits_maxHeapBytes X.admits]; omega
  have hl2 : ¬ k.toNatClampNeg > e.platform.arrayLengthLimit := by rw [Launch.admits_arrayLengthLimit X.admits]; omega
  have hh2 : ¬ k.toNatClampNeg * 4 > e.platform.maxHeapBytes := by rw [Launch.admits_maxHeapBytes X.admits]; omega
  jvm_step X.here [hexec, hdg]
  simp only [multianewarray.sem, wp_bind', _root_.Jvm.W.resolveClassAt_links (State.method?_setTop g X.here.top) hg₁]
  rw [_root_.Jvm.W.popN, if_neg (by decide)]
  refine ⟨g, State.topJava?_setTop' (s := T.setVm vm₁) g X.here.top, [.int n, .int k], rest, rfl, hstack, ?_⟩
  simp only [List.mapM_cons, List.mapM_nil, wp_bind', wp_pure']
  refine gMk2 (k := kA₁) (kc := kC₁) (comp := comp) (cc := cc) hkA₁ hkindA₁ hkC₁ hkindC₁ hn hk hl1 hh1 hl2 hh2 (by show T.heap.size + 1 + _ ≤ _; omega) (by show T.slotsUsed + _ + _ ≤ _; omega) (fun d' acts' => ?_)
  have XF := gStand X₁ cA comp n.toNatClampNeg k.toNatClampNeg n.toNatClampNeg
  have eS : ((T.setTop g).setVm vm₁).setTop { g with stack := rest } = (T.setVm vm₁).setTop { g with stack := rest } := by
    show ((T.setVm vm₁).setTop g).setTop _ = _
    rw [State.setTop_setTop]
  rw [eS, gF_top]
  simp only [wp_bind', _root_.Jvm.W.mark, _root_.Jvm.W.pushRef, State.topJava?_setTop' _ XF.here.top, Option.some.injEq, exists_eq_left', State.setTop_setTop, State.heap_setTop]
  intro acts
  simp [jvm, XF.here.top]
  exact hrest
end GS
theorem mNewG_len (σ : mS) (n k : Nat) : (mNewG σ n k).2.2.2.length = σ.2.2.2.length + 1 + n := by
  simp [mNewG]; omega
theorem mNewG_sum (σ : mS) (n k : Nat) : mSum (mNewG σ n k).2.2.2 = mSum σ.2.2.2 + (n + n * k) := by
  unfold mSum mNewG
  simp
theorem mNewG_get (σ : mS) (n k c : Nat) : (mNewG σ n k).2.2.2[c]? = if c < σ.2.2.2.length then σ.2.2.2[c]? else if c = σ.2.2.2.length then some (24, n) else if c ≤ σ.2.2.2.length + n then some (21, k) else none := by
  show (σ.2.2.2 ++ ((24, n) :: List.replicate n (21, k)))[c]? = _
  by_cases h : c < σ.2.2.2.length
  · rw [if_pos h, List.getElem?_append_left h]
  · rw [if_neg h, List.getElem?_append_right (by omega)]
    by_cases h2 : c = σ.2.2.2.length
    · rw [if_pos h2, h2, Nat.sub_self]
      rfl
    · rw [if_neg h2]
      obtain ⟨j, hj⟩ : ∃ j, c - σ.2.2.2.length = j + 1 := ⟨c - σ.2.2.2.length - 1, by omega⟩
      rw [hj, List.getElem?_cons_succ, List.getElem?_replicate]
      by_cases h3 : c ≤ σ.2.2.2.length + n
      · rw [if_pos h3, if_pos (by omega)]
      · rw [if_neg h3, if_neg (by omega)]
theorem mDy_newG {B : mBd} {σ : mS} {H H1 : Heap} {n k : Nat} (hy : mDy B σ H) (hz : H1.size = H.size + 1 + n) (oq : ∀ x : Nat, x < H.size → H1[x]? = H[x]?) (hO : H1[H.size]? = some (gO (bC B 24) n H.size n)) (hR : ∀ j, j < n → H1[H.size + 1 + j]? = some (gI (bC B 21) k)) (hl : σ.2.2.2.length + 1 + n ≤ 1000) : mDy B (mNewG σ n k) H1 := by
  have hlen := mNewG_len σ n k
  have hold : ∀ q, q < σ.2.2.2.length → ∀ r, mCellOf B (mNewG σ n k) q r = mCellOf B σ q r := by
    intro q hq r
    have h1 : (mNewG σ n k).1 q = σ.1 q := if_neg (by omega)
    have h2 : (mNewG σ n k).2.1 q = σ.2.1 q := if_neg (by omega)
    unfold mCellOf
    have e : ∀ t, mFv B (mNewG σ n k) q t = mFv B σ q t := by
      intro t
      funext j
      unfold mFv
      simp only [h1, h2]
      rfl
    simp only [e, h1, h2]
  refine ⟨by rw [hz, hy.1, hlen]; omega, fun q x hx => ?_, by rw [hlen]; exact hl, fun c j d h => ?_, fun c t n' h => ?_, fun c n' h i => ?_⟩
  · obtain ⟨h1, rfl⟩ := mWs_at hx
    rw [hlen] at h1
    unfold mCell
    rw [List.getD_eq_getElem?_getD, mNewG_get]
    by_cases e : q < σ.2.2.2.length
    · rw [if_pos e, hold q e]
      have hk : (mWs B σ)[q]? = some (bO B + q, mCellOf B σ q (σ.2.2.2[q]?.getD (99, 0))) := by
        unfold mWs mCell
        rw [List.getElem?_map, List.getElem?_range e, ← List.getD_eq_getElem?_getD]
        rfl
      have hlt := (hy.2.1 q _ hk).lt
      exact (hy.2.1 q _ hk).kept (oq _ hlt)
    · rw [if_neg e]
      by_cases e2 : q = σ.2.2.2.length
      · subst e2
        rw [if_pos rfl]
        show va_at _ _ (_, mCellOf B (mNewG σ n k) σ.2.2.2.length (24, n)) H1
        rw [mCo_ref (Or.inr rfl)]
        show H1[bO B + σ.2.2.2.length]? = some (vp_cell _ _)
        rw [← hy.1, hO, vp_cell_q]
        unfold gO
        congr 2
        funext j
        have h2 : (mNewG σ n k).2.1 σ.2.2.2.length j = if j < n then some (σ.2.2.2.length + 1 + j) else none := by
          simp [mNewG]
        rw [h2]
        by_cases hj : j < n
        · rw [if_pos hj, if_pos hj, hy.1]
          show va_rf _ = va_rf (some (bO B + (σ.2.2.2.length + 1 + j)))
          rw [show bO B + σ.2.2.2.length + 1 + j = bO B + (σ.2.2.2.length + 1 + j) by omega]
        · rw [if_neg hj, if_neg hj]
          rfl
      · rw [if_neg e2, if_pos (by omega)]
        show va_at _ _ (_, mCellOf B (mNewG σ n k) q (21, k)) H1
        rw [mCo_int (Or.inr (Or.inl rfl))]
        show H1[bO B + q]? = some (vp_cell _ _)
        have h1' : (mNewG σ n k).1 q = fun _ => 0 := if_pos (by omega)
        rw [h1', vp_cell_i]
        have := hR (q - σ.2.2.2.length - 1) (by omega)
        rw [hy.1, show bO B + σ.2.2.2.length + 1 + (q - σ.2.2.2.length - 1) = bO B + q by omega] at this
        exact this
  · rw [hlen]
    have h : (if c = σ.2.2.2.length then fun i => if i < n then some (σ.2.2.2.length + 1 + i) else none else σ.2.1 c) j = some d := h
    by_cases e : c = σ.2.2.2.length
    · rw [if_pos e] at h
      by_cases hj : j < n
      · rw [if_pos hj] at h
        cases h
        omega
      · rw [if_neg hj] at h
        cases h
    · rw [if_neg e] at h
      have := hy.2.2.2.1 c j d h
      omega
  · rw [mNewG_get] at h
    by_cases e : c < σ.2.2.2.length
    · rw [if_pos e] at h
      exact hy.2.2.2.2.1 c t n' h
    · rw [if_neg e] at h
      by_cases e2 : c = σ.2.2.2.length
      · rw [if_pos e2] at h
        cases h
        exact Or.inr (by omega)
      · rw [if_neg e2] at h
        by_cases e3 : c ≤ σ.2.2.2.length + n
        · rw [if_pos e3] at h
          cases h
          exact Or.inr (by omega)
        · rw [if_neg e3] at h
          cases h
  · rw [mNewG_get] at h
    by_cases e : c < σ.2.2.2.length
    · rw [if_pos e] at h
      have h1 : (mNewG σ n k).1 c = σ.1 c := if_neg (by omega)
      rw [h1]
      exact hy.2.2.2.2.2 c n' h i
    · rw [if_neg e] at h
      by_cases e2 : c = σ.2.2.2.length
      · rw [if_pos e2] at h
        cases h
      · rw [if_neg e2] at h
        by_cases e3 : c ≤ σ.2.2.2.length + n
        · rw [if_pos e3] at h
          cases h
        · rw [if_neg e3] at h
          cases h
theorem s_mna {B : mBd} {cap n0 : Nat × Nat} {p : Program} {l : Launch} {e : Env} {R : Room} {s : State} {m : MethodId} {args : Array Value} {below : List Frame} {meth : Method} {c : Code} {Qk : State → Prop} {md pc a b i : Nat} {cal : mCal} {X : mX} {Qm : mPost} {v : Value} {sw : List (Int32 × Nat)} {lv st : List Value} {σ : mS} (F : mFx B md p s m args meth c) (hd : decode (mBy md) pc = .ok (.multianewarray i 2, 4)) (hw : Cond.classLink (mCn md) i "[[I" ∈ gT) (h : o_mna cal X cap Qm (mGo B cap n0 p l e R s m args below meth c (mML md) Qk) (pc + 4) a b v sw lv st σ) : (mGo B cap n0 p l e R s m args below meth c (mML md) Qk) pc lv st σ := by
  obtain ⟨n, k, r, rfl, hn, hk, hn6, hk6, hg, h⟩ := h
  intro H locs cells slots ls hy hS hl hu
  obtain ⟨hK, -, -, ⟨kA, hkA, hkindA⟩, -⟩ := F.2.2.2.2.2.2
  have hnA : s.vm.findClass "[[I" = some (bC B 24) := (hK.2 4 _ rfl).2
  obtain ⟨-, kC, hkC, cc, hkindC⟩ := (hK.2 1 _ rfl).1 0 (fun _ => .int 0)
  obtain ⟨u1, u2, u3, u4, u5, u6⟩ := hu
  intro T hT X9
  obtain ⟨vm₁, XF, step⟩ := gGo X9 F.1 F.2.2.2.1 (F.2.2.2.2.1 _ hw) hnA hkA hkindA hkC hkindC (g := F0 m pc ls (.int k :: .int n :: r.map (mTr B))) rfl (by rw [F.2.1]; exact hd) (n := n) (k := k) (rest := r.map (mTr B)) rfl hn hk hn6 hk6 (by omega) (by omega)
  obtain ⟨f1, f2, -, -⟩ := gF_f (T.setVm vm₁) (bC B 24) (bC B 21) n.toNatClampNeg k.toNatClampNeg n.toNatClampNeg
  have hTh : (T.setVm vm₁).heap = H := hT
  rw [hTh] at f1 f2
  have hd9 : mDy B (mNewG σ n.toNatClampNeg k.toNatClampNeg) (gF (T.setVm vm₁) (bC B 24) (bC B 21) n.toNatClampNeg k.toNatClampNeg n.toNatClampNeg).heap := by
    refine mDy_newG hy f1 (fun x hx => ?_) f2 (fun j hj => ?_) hg.2.2
    · rw [gF_old (T.setVm vm₁) _ _ _ _ (by rw [hTh]; exact hx), hTh]
    · have := gF_row (T.setVm vm₁) (bC B 24) (bC B 21) n.toNatClampNeg k.toNatClampNeg n.toNatClampNeg j hj
      rw [hTh] at this
      exact this
  have hS9 : va_S (bA B) s.heap (gF (T.setVm vm₁) (bC B 24) (bC B 21) n.toNatClampNeg k.toNatClampNeg n.toNatClampNeg).heap (locs ++ (List.range n.toNatClampNeg).map fun j => ⟨T.heap.size, j⟩) := by
    refine ⟨by rw [f1]; have := hS.1; omega, fun x h1 h2 => ?_, fun z hz => ?_⟩
    · rw [gF_old (T.setVm vm₁) _ _ _ _ (by rw [hTh]; exact Nat.lt_of_lt_of_le h1 hS.1), hTh]
      exact hS.2.1 x h1 h2
    · rcases List.mem_append.mp hz with h9 | h9
      · exact hS.2.2 z h9
      · obtain ⟨j, -, hz9⟩ := List.mem_map.mp h9
        rw [← hz9]
        show bO B ≤ T.heap.size
        rw [hT, hy.1]
        omega
  have hb9 : mBud cap n0 R (mNewG σ n.toNatClampNeg k.toNatClampNeg) (cells + 1 + n.toNatClampNeg) (slots + n.toNatClampNeg + n.toNatClampNeg * k.toNatClampNeg) := by
    unfold mBud
    rw [mNewG_len, mNewG_sum]
    omega
  have h2 := h _ _ _ _ ls hd9 hS9 hl hb9
  rw [List.map_cons, mTr_lt (by omega), ← hy.1] at h2
  obtain ⟨t, a1, b1⟩ := h2 _ rfl XF
  refine ⟨t, step t ?_, b1⟩
  have eT : T.heap.size = H.size := by rw [hT]
  rw [eT]
  exact a1
