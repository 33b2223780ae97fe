/-! an array of int arrays is made: multianewarray of two dimensions -/
/-- the outer array, with i rows laid behind it -/
def mz_o (c : ClassId) (N h i : Nat) : Cell := arrV c N (fun j => if j < i then .ref (h + 1 + j) else .null)
def mz_r (c : ClassId) (M : Nat) : Cell := arrV c M (fun _ => .int 0)
def mz_s (T : State) (c cr : ClassId) (N M : Nat) : Nat → State
  | 0 => T.pushCell (mz_o c N T.heap.size 0)
  | i + 1 => ((mz_s T c cr N M i).pushCell (mz_r cr M)).setCell T.heap.size (mz_o c N T.heap.size (i + 1))
theorem mz_o0 (c : ClassId) (N h : Nat) : ({ cls := c, slots := Array.replicate N .null, vm := .none } : Cell) = mz_o c N h 0 := by
  rw [arrV_new]
  unfold mz_o
  congr 1
theorem mz_put (c : ClassId) (N h i : Nat) : (mz_o c N h i).setSlot i (.ref (h + 1 + i)) = mz_o c N h (i + 1) := by
  unfold mz_o
  rw [arrV_store]
  congr 1
  funext j
  unfold updV
  by_cases q1 : j = i
  · rw [if_pos q1, if_pos (by (first | (apply Int.le_antisymm <;> omega) | omega)), q1]
  · rw [if_neg q1]
    dsimp only
    by_cases q2 : j < i
    · rw [if_pos q2, if_pos (by (first | (apply Int.le_antisymm <;> omega) | omega))]
    · rw [if_neg q2, if_neg (by (first | (apply Int.le_antisymm <;> omega) | omega))]
section MZ1
variable (T : State) (c cr : ClassId) (N M : Nat)
theorem mz_at (i : Nat) : (mz_s T c cr N M i).heap.size = T.heap.size + 1 + i ∧ (mz_s T c cr N M i).heap[T.heap.size]? = some (mz_o c N T.heap.size i) ∧ (mz_s T c cr N M i).vm = T.vm ∧ (mz_s T c cr N M i).slotsUsed = T.slotsUsed + N + i * M := by
  induction i with
  | zero =>
    refine ⟨by simp [mz_s], by simp [mz_s], rfl, ?_⟩
    simp [mz_s, mz_o, arrV_size]
  | succ i ih =>
    obtain ⟨h1, h2, h3, h4⟩ := ih
    have lt : T.heap.size < (mz_s T c cr N M i).heap.size := by (first | (apply Int.le_antisymm <;> omega) | omega)
    have h5 : ((mz_s T c cr N M i).pushCell (mz_r cr M)).heap[T.heap.size]? = some (mz_o c N T.heap.size i) := by rw [State.heap_pushCell_of_lt (h := lt)]; exact h2
    refine ⟨?_, State.heap_setCell_self h5, ?_, ?_⟩
    · simp [mz_s, State.setCell, h1]
      (first | (apply Int.le_antisymm <;> omega) | omega)
    · simp [mz_s, h3]
    · simp [mz_s, h4, mz_r, arrV_size, Nat.succ_mul]
      (first | (apply Int.le_antisymm <;> omega) | omega)
theorem mz_old {a : Addr} (ha : a < T.heap.size) (i : Nat) : (mz_s T c cr N M i).heap[a]? = T.heap[a]? := by
  induction i with
  | zero => exact State.heap_pushCell_of_lt _ _ ha
  | succ i ih =>
    have lt : a < (mz_s T c cr N M i).heap.size := by rw [(mz_at T c cr N M i).1]; exact Nat.lt_of_lt_of_le ha (by (first | (apply Int.le_antisymm <;> omega) | omega))
    show (((mz_s T c cr N M i).pushCell (mz_r cr M)).setCell T.heap.size _).heap[a]? = _
    rw [State.heap_setCell_other (Nat.ne_of_gt ha), State.heap_pushCell_of_lt (h := lt)]
    exact ih
theorem mz_row (i j : Nat) (hj : j < i) : (mz_s T c cr N M i).heap[T.heap.size + 1 + j]? = some (mz_r cr M) := by
  induction i with
  | zero => exact absurd hj (Nat.not_lt_zero _)
  | succ i ih =>
    have h1 := (mz_at T c cr N M i).1
    show (((mz_s T c cr N M i).pushCell (mz_r cr M)).setCell T.heap.size _).heap[T.heap.size + 1 + j]? = _
    rw [State.heap_setCell_other (show T.heap.size ≠ T.heap.size + 1 + j by (first | (apply Int.le_antisymm <;> omega) | omega))]
    by_cases q : j < i
    · have lt2 : T.heap.size + 1 + j < (mz_s T c cr N M i).heap.size := by (first | (apply Int.le_antisymm <;> omega) | omega)
      rw [State.heap_pushCell_of_lt (h := lt2)]
      exact ih q
    · rw [show T.heap.size + 1 + j = (mz_s T c cr N M i).heap.size by (first | (apply Int.le_antisymm <;> omega) | omega)]
      exact State.heap_pushCell_size _ _
theorem mz_top (f : JFrame) (i : Nat) : mz_s (T.setTop f) c cr N M i = (mz_s T c cr N M i).setTop f := by
  induction i with
  | zero => rfl
  | succ i ih => simp only [mz_s, ih, State.heap_setTop, State.pushCell_setTop, State.setCell_setTop]
end MZ1
section MZ2
variable {E : CtlPost} {e : Env} {d : Bool} {acts : List Action} {s : State}
theorem mz_wp1 {cr c0 : ClassId} {kr : Class} {k : Int32} (hkr : s.vm.classes[cr]? = some kr) (hkd : kr.kind = .array c0 .int) (hk : ¬ k < 0) (hl : ¬ k.toNatClampNeg > e.platform.arrayLengthLimit) (hh : ¬ k.toNatClampNeg * componentBytes .int > e.platform.maxHeapBytes) (h1 : s.heap.size < e.platform.maxCells) (h2 : s.slotsUsed + k.toNatClampNeg ≤ e.platform.maxSlots) {Q : Addr → Pre} (hq : ∀ acts', Q s.heap.size d acts' (s.pushCell (mz_r cr k.toNatClampNeg))) : wp (multianewarray.make cr [k]) Q E e d acts s := by
  rw [multianewarray.make]
  simp only [wp_bind', W.ite, hk, if_false, wp_pure', W.theClass, hkr, hkd, Option.some.injEq, exists_eq_left']
  refine W.newArray_of hkr hkd hl hh h1 h2 rfl (fun acts' => ?_)
  have q := hq acts'
  unfold mz_r at q
  rw [← arrV_new] at q
  exact q
theorem mz_wp2 {c cr c0 : ClassId} {kO kr : Class} {n k : Int32} (hkO : s.vm.classes[c]? = some kO) (hdO : kO.kind = .array cr (.array .int)) (hkr : s.vm.classes[cr]? = some kr) (hkd : kr.kind = .array c0 .int) (hn : ¬ n < 0) (hk : ¬ k < 0) (hl1 : ¬ n.toNatClampNeg > e.platform.arrayLengthLimit) (hh1 : ¬ n.toNatClampNeg * componentBytes (.array .int) > e.platform.maxHeapBytes) (hl2 : ¬ k.toNatClampNeg > e.platform.arrayLengthLimit) (hh2 : ¬ k.toNatClampNeg * componentBytes .int > e.platform.maxHeapBytes) (hc : s.heap.size + 1 + n.toNatClampNeg ≤ e.platform.maxCells) (hs : s.slotsUsed + n.toNatClampNeg + n.toNatClampNeg * k.toNatClampNeg ≤ e.platform.maxSlots) {Q : Addr → Pre} (hq : ∀ d' acts', Q s.heap.size d' acts' (mz_s s c cr n.toNatClampNeg k.toNatClampNeg n.toNatClampNeg)) : wp (multianewarray.make c [n, k]) Q E e d acts s := by
  generalize hN : n.toNatClampNeg = N at *
  generalize hM : k.toNatClampNeg = M at *
  have hfind : ([k].find? (· < 0)) = none := by simp [hk]
  have nm := Nat.zero_le (N * M)
  rw [multianewarray.make]
  simp only [wp_bind', W.ite, hn, if_false, wp_pure', W.theClass, hkO, hdO, Option.some.injEq, exists_eq_left']
  rw [hN]
  refine W.newArray_of hkO hdO hl1 hh1 (by (first | (apply Int.le_antisymm <;> omega) | omega)) (by (first | (apply Int.le_antisymm <;> omega) | omega)) rfl (fun acts1 => ?_)
  have e0 : s.pushCell { cls := c, slots := Array.replicate N .null } = mz_s s c cr N M 0 := by
    show s.pushCell ({ cls := c, slots := Array.replicate N .null, vm := .none } : Cell) = s.pushCell (mz_o c N s.heap.size 0)
    rw [mz_o0]
  rw [e0]
  simp only [hfind]
  rw [ite_self, wp_bind', Std.Legacy.Range.forIn_eq_forIn_range']
  have hz : ([:N] : Std.Legacy.Range).size = N := by simp [Std.Legacy.Range.size]
  rw [hz]
  show wp (forIn (List.range' 0 N 1) PUnit.unit _) _ E e d acts1 _
  refine wp_forIn_inv (fun rest t => ∃ i, i ≤ N ∧ rest = List.range' i (N - i) ∧ t = mz_s s c cr N M i) _ _ ⟨0, Nat.zero_le _, rfl, rfl⟩ ?_ ?_
  · rintro x rest t d' acts' Q' ⟨i, hi, hl, rfl⟩ hnext
    have lt : i < N := by
      apply Nat.lt_of_not_le
      intro q
      rw [show N - i = 0 by (first | (apply Int.le_antisymm <;> omega) | omega)] at hl
      cases hl
    rw [show N - i = (N - (i + 1)) + 1 by (first | (apply Int.le_antisymm <;> omega) | omega), List.range'_succ] at hl
    obtain ⟨ex, er⟩ := List.cons.inj hl
    subst ex
    obtain ⟨a1, a2, a3, a4⟩ := mz_at s c cr N M x
    have mul : x * M + M ≤ N * M := by
      have q := Nat.mul_le_mul_right M (show x + 1 ≤ N from lt)
      rw [Nat.succ_mul] at q
      exact q
    have lt0 : s.heap.size < (mz_s s c cr N M x).heap.size := by (first | (apply Int.le_antisymm <;> omega) | omega)
    simp only [wp_bind']
    refine mz_wp1 (by rw [a3]; exact hkr) hkd hk (by rw [hM]; exact hl2) (by rw [hM]; exact hh2) (by (first | (apply Int.le_antisymm <;> omega) | omega)) (by rw [hM]; (first | (apply Int.le_antisymm <;> omega) | omega)) (fun acts2 => ?_)
    rw [hM]
    simp only [wp_bind', W.writeLoc, wp_pure']
    refine ⟨mz_o c N s.heap.size x, by rw [State.heap_pushCell_of_lt (h := lt0)]; exact a2, (fun q => by cases q), by unfold mz_o; rw [arrV_size]; exact lt, ?_, hnext _ _ _ ⟨x + 1, lt, er, ?_⟩⟩
    · show State.fitsSlot _ c .none x _ = true
      simp [State.fitsSlot, State.slotType?, a3, hkO, hdO]
      rfl
    · rw [a1, mz_put]
      rfl
  · rintro t d' acts' ⟨i, hi, hl, rfl⟩
    have ei : i = N := by
      apply Nat.le_antisymm hi
      apply Nat.le_of_not_lt
      intro q
      rw [show N - i = (N - (i + 1)) + 1 by (first | (apply Int.le_antisymm <;> omega) | omega), List.range'_succ] at hl
      cases hl
    subst ei
    simp only [wp_pure']
    exact hq _ _
end MZ2
/-- the classes of int arrays and of arrays of them are there -/
def mz_O (U : State) : Prop := ∃ (cO cr : ClassId) (kO : Class), U.vm.findClass ("[" ++ (FieldType.array .int).toString) = some cO ∧ U.vm.classes[cO]? = some kO ∧ kO.kind = .array cr (.array .int) ∧ U.vm.findClass (FieldType.array .int).toString = some cr
theorem mz_O.of {B : Array Value} {U : State} (h : (Cond.arrayOver (.array .int)).before B U = true) : mz_O U := by
  obtain ⟨cr, cO, kO, h1, -, h2, h3, h4⟩ := arrayOverA_spec h
  exact ⟨cO, cr, kO, h4, h2, h3, h1⟩
theorem mz_O.moved {u U : State} (hvm : u.vm.Alike U.vm) (h : mz_O u) : mz_O U := by
  obtain ⟨cO, cr, kO, o1, o2, o3, o4⟩ := h
  obtain ⟨k, hk, he⟩ := hvm.2.2 _ _ o2
  exact ⟨cO, cr, k, by rw [hvm.findClass]; exact o1, hk, by rw [he]; exact o3, by rw [hvm.findClass]; exact o4⟩
section MZ3
variable {p : Program} {l : Launch} {e : Env} {R : Room} {s : State} {m : MethodId} {args : Array Value} {below : List Frame} {meth : Method} {c : Code} {T : State} {locs : List Loc} {cells slots : Nat}
theorem mz_st (X : Stand p l e R s m args below meth c T locs cells slots) (cO cr : ClassId) (N M : Nat) (i : Nat) : Stand p l e R s m args below meth c (mz_s T cO cr N M i) (locs ++ (List.range i).map (fun j => (⟨T.heap.size, j⟩ : Loc))) (cells + 1 + i) (slots + N + i * M) := by
  induction i with
  | zero =>
    have h := X.pushed (mz_o cO N T.heap.size 0)
    rw [show (mz_o cO N T.heap.size 0).slots.size = N from arrV_size _ _ _] at h
    simpa [mz_s] using h
  | succ i ih =>
    obtain ⟨a1, a2, -, -⟩ := mz_at T cO cr N M i
    have lt0 : T.heap.size < (mz_s T cO cr N M i).heap.size := by (first | (apply Int.le_antisymm <;> omega) | omega)
    have h5 : ((mz_s T cO cr N M i).pushCell (mz_r cr M)).heap[T.heap.size]? = some (mz_o cO N T.heap.size i) := by rw [State.heap_pushCell_of_lt (h := lt0)]; exact a2
    have h := (ih.pushed (mz_r cr M)).stored h5 i (.ref (T.heap.size + 1 + i))
    rw [show (mz_r cr M).slots.size = M from arrV_size _ _ _, mz_put] at h
    have e2 : locs ++ (List.range (i + 1)).map (fun j => (⟨T.heap.size, j⟩ : Loc)) = (locs ++ (List.range i).map (fun j => (⟨T.heap.size, j⟩ : Loc))) ++ [⟨T.heap.size, i⟩] := by simp [List.range_succ]
    rw [e2, show slots + N + (i + 1) * M = slots + N + i * M + M by rw [Nat.succ_mul]; (first | (apply Int.le_antisymm <;> omega) | omega)]
    exact h
end MZ3
section MZ4
variable {p : Program} {l : Launch} {e : Env} {R : Room} {s : State} {m : MethodId} {args : Array Value} {below : List Frame} {meth : Method} {c : Code} {H : Heap} {locs : List Loc} {cells slots : Nat} {Q : State → Prop}
theorem W.mz {cc : ByteArray} (hexec : p.tables.exec = Jvm.exec) (hb : c.code = cc) {own nm : String} {index : Nat} (hown : s.vm.findClass own = some m.cls) (hclink : (Cond.classLink own index nm).before args s = true) (hnm : nm = "[" ++ (FieldType.array .int).toString) (hO : mz_O s) (harr : (Cond.arrayClass .int).before args s = true)
    {g : JFrame} (hg : g.method = m) (hdg : decode cc g.pc = .ok (.multianewarray index 2, 4)) {n k : Int32} {rest : List Value} (hstack : g.stack = .int k :: .int n :: rest) (hn : ¬ n < 0) (hk : ¬ k < 0) (hb1 : n.toNatClampNeg ≤ 1000) (hb2 : k.toNatClampNeg ≤ 1000) (hcells : cells + (1 + n.toNatClampNeg) ≤ R.cells) (hslots : slots + (n.toNatClampNeg + n.toNatClampNeg * k.toNatClampNeg) ≤ R.slots)
    (kk : ∀ (cO cr : ClassId) (H1 : Heap), ArrOfT s cO (.array .int) → s.vm.findClass ("[" ++ (FieldType.array .int).toString) = some cO → ArrOfT s cr .int → s.vm.findClass ("[" ++ FieldType.int.toString) = some cr → H1.size = H.size + 1 + n.toNatClampNeg → H1[H.size]? = some (mz_o cO n.toNatClampNeg H.size n.toNatClampNeg) → (∀ j, j < n.toNatClampNeg → H1[H.size + 1 + j]? = some (mz_r cr k.toNatClampNeg)) → (∀ q, q < H.size → H1[q]? = H[q]?) →
      W p l e R s m args below meth c H1 (locs ++ (List.range n.toNatClampNeg).map (fun j => (⟨H.size, j⟩ : Loc))) (cells + 1 + n.toNatClampNeg) (slots + n.toNatClampNeg + n.toNatClampNeg * k.toNatClampNeg) Q { g with pc := g.pc + 4, stack := .ref H.size :: rest }) : W p l e R s m args below meth c H locs cells slots Q g := by
  intro T hT X
  subst hT; subst hb; subst hg; subst hnm
  obtain ⟨cO, cr, kO, o1, o2, o3, o4⟩ := hO
  obtain ⟨cr2, kr, c0, r1, r2, r3⟩ := Cond.arrayClass_spec harr
  have ec : cr2 = cr := Option.some.inj (r1.symm.trans o4)
  subst ec
  have hpl : e.platform.magicAccessors = ({} : Platform).magicAccessors := by rw [X.admits.platform]
  obtain ⟨c9, f9, hcl⟩ := Cond.classLink_spec hown hclink e.platform hpl
  cases o1.symm.trans f9
  obtain ⟨hg₁, hwarm₁, hready₁⟩ := State.classEntry (e := e) X.warmed hcl
  generalize T.vm.noted g.method.cls index (.cls cO) = vm₁ at hg₁ hwarm₁ hready₁
  have hal : s.vm.Alike vm₁ := hwarm₁.alike
  obtain ⟨kO₁, q1, q2⟩ := hal.2.2 _ _ o2
  obtain ⟨kr₁, q3, q4⟩ := hal.2.2 _ _ r2
  have dO : kO₁.kind = .array cr2 (.array .int) := by rw [q2]; exact o3
  have dr : kr₁.kind = .array c0 .int := by rw [q4]; exact r3
  have X₁ := X.noted hwarm₁
  obtain ⟨hr1, hr2⟩ := X.roomAbove hcells hslots
  have hl1 : ¬ n.toNatClampNeg > e.platform.arrayLengthLimit := by rw [Launch.admits_arrayLengthLimit X.admits]; (first | (apply Int.le_antisymm <;> omega) | omega)
  have hh1 : ¬ n.toNatClampNeg * componentBytes (.array .int) > e.platform.maxHeapBytes := by rw [Launch.admits_maxHeapBytes X.admits]; show ¬ n.toNatClampNeg * 4 > 536870912; (first | (apply Int.le_antisymm <;> omega) | omega)
  have hl2 : ¬ k.toNatClampNeg > e.platform.arrayLengthLimit := by rw [Launch.admits_arrayLengthLimit X.admits]; (first | (apply Int.le_antisymm <;> omega) | omega)
  have hh2 : ¬ k.toNatClampNeg * componentBytes .int > e.platform.maxHeapBytes := by rw [Launch.admits_maxHeapBytes X.admits]; show ¬ k.toNatClampNeg * 4 > 536870912; (first | (apply Int.le_antisymm <;> omega) | omega)
  have XF := mz_st X₁ cO cr2 n.toNatClampNeg k.toNatClampNeg n.toNatClampNeg
  obtain ⟨z1, z2, -, -⟩ := mz_at (T.setVm vm₁) cO cr2 n.toNatClampNeg k.toNatClampNeg n.toNatClampNeg
  obtain ⟨t, a1, b1⟩ := kk cO cr2 (mz_s (T.setVm vm₁) cO cr2 n.toNatClampNeg k.toNatClampNeg n.toNatClampNeg).heap (fun N z => ⟨(fun j h => by cases h), kO, o2, cr2, o3⟩) o1 (fun N z => ⟨(fun j h => by cases h), kr, r2, c0, r3⟩) r1 z1 z2 (fun j hj => mz_row (T.setVm vm₁) cO cr2 _ _ _ j hj) (fun q hq => mz_old (T.setVm vm₁) cO cr2 _ _ hq _) _ rfl XF
  refine ⟨t, ?_, b1⟩
  jvm_step X.here [hexec, hdg]
  simp only [multianewarray.sem, wp_bind', W.resolveClassAt_links (State.method?_setTop g X.here.top) hg₁]
  rw [W.popN, if_neg (by decide)]
  refine ⟨g, State.topJava?_setTop' (s := T.setVm vm₁) g X.here.top, [.int n, .int k], rest, rfl, hstack, ?_⟩
  simp only [List.mapM_cons, List.mapM_nil, wp_bind', wp_pure']
  refine mz_wp2 q1 dO q3 dr hn hk hl1 hh1 hl2 hh2 (by show T.heap.size + 1 + _ ≤ _; (first | (apply Int.le_antisymm <;> omega) | omega)) (by show T.slotsUsed + _ + _ ≤ _; (first | (apply Int.le_antisymm <;> omega) | omega)) (fun d' acts' => ?_)
  have eS : ((T.setTop g).setVm vm₁).setTop { g with stack := rest } = (T.setVm vm₁).setTop { g with stack := rest } := by
    show ((T.setVm vm₁).setTop g).setTop _ = _
    rw [State.setTop_setTop]
  rw [eS, mz_top]
  simp only [wp_bind', W.mark, W.pushRef, State.topJava?_setTop' _ XF.here.top, Option.some.injEq, exists_eq_left', State.setTop_setTop, State.heap_setTop]
  intro acts
  simp [jvm, XF.here.top]
  exact a1
/-- the rows' addresses -/
def mz_L (q N : Nat) : List Nat := (List.range N).map (fun t => q + 1 + t)
def mz_g (q N : Nat) : Nat → Option Nat := fun t => if t < N then some (q + 1 + t) else none
theorem va_newm {D : va_G} {cl : List vw_C} {tys : List (ClassId × FieldType)} {ws : va_W} {A : Nat → Prop} {H0 : Heap} {cc : ByteArray} {pc : Nat} {ls : Array Slot} {rest : List Value} (hexec : p.tables.exec = Jvm.exec) (hb : c.code = cc) {own nm : String} {index : Nat} (hown : s.vm.findClass own = some m.cls) (hclink : (Cond.classLink own index nm).before args s = true) (hnm : nm = "[" ++ (FieldType.array .int).toString) (hO : mz_O s) (harr : (Cond.arrayClass .int).before args s = true)
    (hK : va_K D cl tys s) (hP : va_P D cl ws H) (hD : va_D A ws) (hS : va_S A H0 H locs) (hA : ∀ q, H0.size ≤ q → A q) {n k : Int32} {N M : Nat} (hn : ¬ n < 0) (hk : ¬ k < 0) (hN : n.toNatClampNeg = N) (hM : k.toNatClampNeg = M) (hb1 : N ≤ 1000) (hb2 : M ≤ 1000) (hcells : cells + (1 + N) ≤ R.cells) (hslots : slots + (N + N * M) ≤ R.slots) (hdg : decode cc pc = .ok (.multianewarray index 2, 4))
    (kk : ∀ (q : Nat) (cO cr : ClassId) (H1 : Heap) (locs1 : List Loc), va_K D cl (tys ++ [(cO, .array .int), (cr, .int)]) s → va_P D cl ((ws ++ ([(q, .inl (cO, N, .inr (.inr (.inr (.inr (mz_g q N))))))] : va_W)) ++ va_pl (mz_L q N) (fun _ => .inl (cr, M, .inl (fun _ => 0)))) H1 → va_D A ((ws ++ ([(q, .inl (cO, N, .inr (.inr (.inr (.inr (mz_g q N))))))] : va_W)) ++ va_pl (mz_L q N) (fun _ => .inl (cr, M, .inl (fun _ => 0)))) → va_S A H0 H1 locs1 →
      W p l e R s m args below meth c H1 locs1 (cells + 1 + N) (slots + N + N * M) Q (F0 m (pc + 4) ls (.ref q :: rest))) : W p l e R s m args below meth c H locs cells slots Q (F0 m pc ls (.int k :: .int n :: rest)) := by
  subst hN; subst hM
  refine W.mz hexec hb hown hclink hnm hO harr rfl hdg rfl hn hk hb1 hb2 hcells hslots fun cO cr H1 f1 f2 f3 f4 z1 z2 z3 z4 => ?_
  have hlt : ∀ x, x ∈ ws → x.1 < H.size := fun x hx => (vq_P.mp hP x hx).lt
  refine kk H.size cO cr H1 _ ⟨hK.1, fun j x hx => ?_⟩ ?_ ?_ ⟨by have := hS.1; (first | (apply Int.le_antisymm <;> omega) | omega), fun x h1 h2 => (z4 x (Nat.lt_of_lt_of_le h1 hS.1)).trans (hS.2.1 x h1 h2), fun x hx => ?_⟩
  · by_cases hl : j < tys.length
    · rw [List.getElem?_append_left hl] at hx
      exact hK.2 j x hx
    · rw [List.getElem?_append_right (by (first | (apply Int.le_antisymm <;> omega) | omega))] at hx
      obtain ⟨i, hi⟩ : ∃ i, i = j - tys.length := ⟨_, rfl⟩
      rw [← hi] at hx
      have hz : i < 2 := (List.getElem?_eq_some_iff.mp hx).1
      rcases (show i = 0 ∨ i = 1 by (first | (apply Int.le_antisymm <;> omega) | omega)) with q | q
      · rw [q] at hx
        cases hx
        exact ⟨f1, f2⟩
      · rw [q] at hx
        cases hx
        exact ⟨f3, f4⟩
  · refine vq_P.mpr (fun x hx => ?_)
    rcases List.mem_append.mp hx with q | q
    · rcases List.mem_append.mp q with q | q
      · exact (vq_P.mp hP x q).kept (z4 x.1 (hlt x q))
      · rw [List.mem_singleton.mp q]
        show H1[H.size]? = some (vp_cell _ _)
        rw [z2]
        unfold mz_o
        show some (arrV cO _ _) = some (arrV cO _ (fun j => va_rf (mz_g H.size n.toNatClampNeg j)))
        congr 2
        funext j
        unfold mz_g
        by_cases w : j < n.toNatClampNeg
        · rw [if_pos w, if_pos w]; rfl
        · rw [if_neg w, if_neg w]; rfl
    · obtain ⟨a, ha, rfl⟩ := List.mem_map.mp q
      obtain ⟨t, ht, rfl⟩ := List.mem_map.mp ha
      show H1[H.size + 1 + t]? = some (vp_cell _ _)
      rw [z3 t (List.mem_range.mp ht)]
      rfl
  · obtain ⟨d1, d2⟩ := vq_D.mp hD
    refine vq_D.mpr ⟨?_, fun x hx => ?_⟩
    · rw [List.map_append, List.map_append, show (va_pl (mz_L H.size n.toNatClampNeg) (fun _ => (.inl (cr, k.toNatClampNeg, .inl (fun _ => 0)) : va_E))).map (·.1) = mz_L H.size n.toNatClampNeg from by unfold va_pl; rw [List.map_map]; exact List.map_id'' (fun _ => rfl) _]
      refine List.nodup_append.mpr ⟨List.nodup_append.mpr ⟨d1, List.pairwise_singleton _ _, fun a ha b hb2 => ?_⟩, ?_, fun a ha b hb2 => ?_⟩
      · obtain ⟨x, hx, rfl⟩ := List.mem_map.mp ha
        rw [List.mem_singleton.mp hb2]
        have := hlt x hx
        show x.1 ≠ H.size
        (first | (apply Int.le_antisymm <;> omega) | omega)
      · unfold mz_L
        refine List.pairwise_map.mpr (List.Pairwise.imp (fun {a b} w => ?_) List.nodup_range)
        intro w2
        exact w (by (first | (apply Int.le_antisymm <;> omega) | omega))
      · obtain ⟨t, ht, rfl⟩ := List.mem_map.mp hb2
        rcases List.mem_append.mp ha with w | w
        · obtain ⟨x, hx, rfl⟩ := List.mem_map.mp w
          have := hlt x hx
          show x.1 ≠ H.size + 1 + t
          (first | (apply Int.le_antisymm <;> omega) | omega)
        · rw [List.mem_singleton.mp w]
          show H.size ≠ H.size + 1 + t
          (first | (apply Int.le_antisymm <;> omega) | omega)
    · have hs := hS.1
      rcases List.mem_append.mp hx with w | w
      · rcases List.mem_append.mp w with w | w
        · exact d2 x w
        · rw [List.mem_singleton.mp w]; exact hA _ hs
      · obtain ⟨a, ha, rfl⟩ := List.mem_map.mp w
        obtain ⟨t, ht, rfl⟩ := List.mem_map.mp ha
        exact hA _ (by show _ ≤ H.size + 1 + t; (first | (apply Int.le_antisymm <;> omega) | omega))
  · rcases List.mem_append.mp hx with w | w
    · exact hS.2.2 x w
    · obtain ⟨t, ht, rfl⟩ := List.mem_map.mp w
      exact hA _ hS.1
end MZ4
