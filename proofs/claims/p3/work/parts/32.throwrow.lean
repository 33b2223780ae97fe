/-! 'throw new X()': the method ends so; what was there stays as it is -/
section TR1
variable {p : Program} {l : Launch} {e : Env} {R : Room} {s : State} {m : MethodId} {args : Array Value} {below : List Frame} {meth : Method} {c : Code} {T : State} {locs : List Loc} {cells slots : Nat}
theorem tz_hears {s T : State} {m : MethodId} {below : List Frame} (hv : s.vm.Alike T.vm) (h : s.hears m below = true) : T.hears m below = true := by
  have e1 : ∀ g, T.code? g = s.code? g := fun g => by rw [State.code?_eq, State.code?_eq, hv.method?]
  have e2 : T.vm.method? m = s.vm.method? m := hv.method? ..
  unfold State.hears at h ⊢
  split at h
  · rw [e1]
    exact h
  · rfl
  · rfl
  · rw [e2]
    exact h
theorem tz_rebase (X : Stand p l e R s m args below meth c T locs cells slots) {R' : Room} (h1 : R'.frames ≤ R.frames) (h2 : R'.locals ≤ R.locals) (h3 : cells + R'.cells ≤ R.cells) (h4 : slots + R'.slots ≤ R.slots) :
    Stand p l e R' (T.setFrames (.invoking m args :: below)) m args below meth c T [] 0 0 := by
  obtain ⟨g₀, hg0⟩ := Option.isSome_iff_exists.mp X.here.top
  obtain ⟨r, hr⟩ := State.topJava?_eq_some.mp hg0
  have hcur : T.cur < T.threads.size := State.cur_lt_of_frames hr
  have hF : (T.setFrames (.invoking m args :: below)).frames = .invoking m args :: below := State.frames_setFrames _ hcur
  have hm' : (T.setFrames (.invoking m args :: below)).vm.method? m = some meth := X.method'
  refine ⟨X.admits, X.cas, X.clock, hF, ?_, tz_hears X.warmed.alike X.hears, hm', X.code, X.here, X.tail, State.WarmedH.refl _, (State.stackLimits_setFrames _ _ _).symm, (State.stackBytes_setFrames _ _).symm, ?_⟩
  · have hr0 := X.room
    have hl0 := State.localsInUse_invoking X.frames X.method X.code
    have hl1 := State.localsInUse_invoking hF hm' X.code
    have hb := X.book
    have hz := X.heapSize
    have hu := X.used
    simp only [State.hasRoom, Bool.and_eq_true, decide_eq_true_eq] at hr0 ⊢
    rw [hl1, hF, State.stackLimits_setFrames, State.stackBytes_setFrames, X.limits, X.bytes]
    rw [hl0, X.frames] at hr0
    obtain ⟨⟨⟨⟨q1, q2, q3, q4, q5, q6⟩, q7⟩, q8⟩, q9⟩ := hr0
    have e1 : (T.setFrames (.invoking m args :: below)).heap.size = T.heap.size := rfl
    have e2 : (T.setFrames (.invoking m args :: below)).slotsUsed = T.slotsUsed := rfl
    refine ⟨⟨⟨⟨by omega, by omega, by omega, by omega, by omega, q6⟩, by omega⟩, by omega⟩, hb⟩
  · obtain ⟨t, ht, -⟩ := State.frames_cons hF
    obtain ⟨t0, ht0, -⟩ := State.frames_cons hr
    have h := (State.sameButNew.refl (T.setFrames (.invoking m args :: below)) ht).setFrames T.frames (State.cur_lt_of_frames hF)
    rw [State.setFrames_setFrames, State.setFrames_self ht0] at h
    exact h
end TR1
def xo (C : String) (x : Nat) (U : State) (H : Heap) : Prop := ∃ cell : Cell, H[x]? = some cell ∧ cell.vm.isStatics = false ∧ U.vm.findClass C = some cell.cls
theorem xo.moved {C : String} {x : Nat} {u U : State} {H : Heap} (hv : u.vm.Alike U.vm) (h : xo C x u H) : xo C x U H := by
  obtain ⟨cell, h1, h2, h3⟩ := h
  exact ⟨cell, h1, h2, by rw [hv.findClass]; exact h3⟩
theorem xo.back {C : String} {x : Nat} {u U : State} {H : Heap} (hv : u.vm.Alike U.vm) (h : xo C x U H) : xo C x u H := by
  obtain ⟨cell, h1, h2, h3⟩ := h
  exact ⟨cell, h1, h2, by rw [← hv.findClass]; exact h3⟩
theorem sb_frames {A B : State} {F : List Frame} {locs : List Loc} {cells slots : Nat} (h : (A.setFrames F).sameButNew B locs cells slots) : A.sameButNew B locs cells slots := by
  obtain ⟨h1, h2⟩ := h
  refine ⟨?_, h2⟩
  rw [State.setFrames_setFrames] at h1
  exact h1
theorem sb_old {A B : State} {cells slots : Nat} (h : A.sameButNew B [] cells slots) {q : Nat} (hq : q < A.heap.size) : B.heap[q]? = A.heap[q]? := by
  obtain ⟨c, hc⟩ : ∃ c, A.heap[q]? = some c := ⟨A.heap[q], Array.getElem?_eq_getElem hq⟩
  obtain ⟨c', h1, h2, h3, h4⟩ := h.2.2.2.2.2 q c hc
  have e : c'.slots = c.slots := by
    apply Array.ext_getElem?
    intro i
    exact h4 i (by simp)
  rw [h1, hc, h2, e]
section TR2
variable {p : Program} {l : Launch} {e : Env} {R : Room} {s : State} {m : MethodId} {args : Array Value} {below : List Frame} {meth : Method} {c : Code} {H : Heap} {locs : List Loc} {cells slots : Nat}
set_option maxHeartbeats 2000000 in
theorem tz_throwNew {cc : ByteArray} {Qc : Array Value → State → Outcome → State → Prop} {free : Addr → Prop} {k : tz_K} {own X : String} {names : List String} {ix ic pc : Nat} {ls : Array Slot} {rest : List Value}
    (hexec : p.tables.exec = Jvm.exec) (hb : c.code = cc) (hno : c.exceptionTable.isEmpty = true) (hlocks : meth.locks = false) (htr : l.stackTraces = false) (hml : ls.size = c.maxLocals) (hown : s.vm.findClass own = some m.cls)
    (hX : Bundle.fit X = true) (hnm : ∀ n ∈ names, Bundle.fit n = true)
    (hat : ∀ U : State, U.heap = H → s.WarmedH U.vm → (∀ a ∈ Bundle.ownAtoms0 own ic X names, a.before args U = true) ∧ (Cond.classLink own ix X).before args U = true ∧ (Cond.instantiable X 6).before args U = true ∧ (Cond.initialized X).before args U = true)
    (hd0 : decode cc pc = .ok (.new ix, 3)) (hd3 : decode cc (pc + 3) = .ok (.dup, 1)) (hd4 : decode cc (pc + 4) = .ok (.invokespecial ic, 3)) (hd7 : decode cc (pc + 7) = .ok (.athrow, 1))
    (hfr : names.length + 3 < R.frames) (hlo : 1 + (rest.map fun v => v.category).sum + (13 * (names.length + 1) + 41) ≤ R.locals) (hc : cells + 1 ≤ R.cells) (hs : slots + 6 ≤ R.slots)
    (hk : ∀ x, k (.threw x) = (cells + 1, slots + 6))
    (hq : ∀ (x : Nat) (t : State), H.size ≤ t.heap.size → (∀ q, q < H.size → t.heap[q]? = H[q]?) → xo X x t t.heap → s.WarmedH t.vm → Qc args s (.threw x) t) (hf : ∀ q ∈ locs, free q.base) :
    W p l e R s m args below meth c H locs cells slots (tz_MQ below Qc args s k free) (F0 m pc ls rest) := by
  intro T hT X0
  subst hb
  subst hT
  have htr' : e.platform.stackTraces = false := by rw [X0.admits.platform]; exact htr
  have X1 := tz_rebase X0 (R' := { frames := R.frames, cells := 1, slots := 6, locals := R.locals }) (Nat.le_refl _) (Nat.le_refl _) hc hs
  have hW0 : s.WarmedH (T.setFrames (.invoking m args :: below)).vm := X0.warmed
  obtain ⟨ha, hcl, hin, hini⟩ := hat (T.setFrames (.invoking m args :: below)) rfl hW0
  have hown' : (T.setFrames (.invoking m args :: below)).vm.findClass own = some m.cls := by
    have := X0.warmed.alike.findClass own
    show T.vm.findClass own = _
    rw [this]
    exact hown
  obtain ⟨vm₁, cX, kX, hfX, hkX, -, -, X2, st1⟩ := X1.newCold hexec (own := own) (C := X) (index := ix) (n := 6) hown' hcl hin hini (g := F0 m pc ls rest) rfl hd0 (Nat.le_refl _) (Nat.le_refl _)
  generalize hT2 : (T.setVm vm₁).pushCell { cls := cX, slots := kX.instanceTypes.map defaultValue, vm := .none } = T2 at X2 st1
  have hcellA : T2.heap[T.heap.size]? = some (freshCell cX kX) := by rw [← hT2]; exact State.heap_pushCell_size _ _
  obtain ⟨U, hsteps, hrun, hend, hW, hsame, ce, hce, K⟩ := X2.ctorThrow0 hexec htr' (own := own) (cls := X) (names := names) (ic := ic) hown' hX hnm ha (fun y hy => by cases hy) hfX hkX hcellA (Nat.le_refl _)
    (g := F0 m (pc + 4) ls (.ref T.heap.size :: .ref T.heap.size :: rest)) rfl hml rfl rfl (rest := rest) rfl hd4 hd7 (tx_none hno _) hfr (by
      show 2 * 0 + ((Value.ref T.heap.size :: rest).map fun v => v.category).sum + (13 * (names.length + 1) + 41) ≤ R.locals
      rw [List.map_cons, List.sum_cons]
      show 2 * 0 + (1 + (rest.map fun v => v.category).sum) + (13 * (names.length + 1) + 41) ≤ R.locals
      omega) hlocks
  have hsT : T.sameButNew ({ U with vm := T.vm } : State) [] 1 6 := sb_frames (F := .invoking m args :: below) hsame
  have hall : s.sameButNew ({ U with vm := s.vm } : State) (locs ++ []) (cells + 1) (slots + 6) := X0.same.trans (hsT.setVm s.vm)
  rw [List.append_nil] at hall
  have hWs : s.WarmedH U.vm := State.WarmedH.trans X0.warmed hW
  refine ⟨U, ?_, .threw T.heap.size, hrun, hend, hq _ U hsT.2.1 (fun q h => sb_old hsT h) ⟨ce, hce, by rw [K.vm]; rfl, ?_⟩ hWs, locs, ?_, hf⟩
  · refine st1 _ ?_
    show Steps p.tables e below (T2.setTop (F0 m (pc + 3) ls (.ref T.heap.size :: rest))) _
    jvm_step X2.here [X2.here.top, hexec, hd3, Value.category]
    exact hsteps
  · have h1 := K.cls
    have h2 := hW.alike.findClass X
    rw [h2]
    exact h1
  · rw [hk]
    exact ⟨hWs, hall⟩
end TR2
