/-! A HANDLER OF THE METHOD'S OWN: the exception of a callee is caught; its class at the entry may be cold -/
/-- the search over the entries ts, begun in s, ends with h, and leaves the tables v -/
def tc_G (e : Env) (s : State) (f : JFrame) (a : Addr) (ts : List ClassFile.ExceptionTableEntry) (h : Handler) (v : Vm) : Prop :=
  ∀ (Q : Handler → Pre) (E : CtlPost) (d : Bool) (acts : List Action), wp (findHandler.go f a ts) Q E e d acts s ↔ Q h d acts (s.setVm v)
section TC1
variable {e : Env} {s : State} {f : JFrame} {a : Addr} {ts : List ClassFile.ExceptionTableEntry} {x : ClassFile.ExceptionTableEntry} {c : ClassId} {cell : Cell}
theorem tc_one (hx : covers x f.pc = true) (h0 : x.catchType ≠ 0) (hl : s.vm.ClassLinks e.platform f.method.cls x.catchType c) (hcell : s.heap[a]? = some cell) (hobj : cell.vm.isStatics = false)
    (hk : ∃ k, s.vm.classes[cell.cls]? = some k) (Q : Handler → Pre) (E : CtlPost) (d : Bool) (acts : List Action) :
    wp (findHandler.go f a (x :: ts)) Q E e d acts s ↔ (if s.vm.assignable cell.cls c = true then Q (.found x.handlerPc) d acts (s.setVm (s.vm.noted f.method.cls x.catchType (.cls c)))
      else wp (findHandler.go f a ts) Q E e d acts (s.setVm (s.vm.noted f.method.cls x.catchType (.cls c)))) := by
  have hc : ∃ k, s.vm.classes[c]? = some k := by
    obtain ⟨_, _, _, ck, _, _, _, _, _, z, _⟩ := hl.here
    exact ⟨ck, z⟩
  have al : s.vm.Alike (s.vm.noted f.method.cls x.catchType (.cls c)) := (Vm.Alike.refl s.vm).noted _ _ _
  have as : (s.vm.noted f.method.cls x.catchType (.cls c)).assignable cell.cls c = s.vm.assignable cell.cls c := al.assignable ..
  obtain ⟨g1, g2⟩ := (resolveClass_links e.toSetting hl).op (op := VmOp.resolveClass f.method.cls x.catchType) rfl
  obtain ⟨k, hk⟩ := hk
  obtain ⟨k', hk', -⟩ := al.2.2 _ _ hk
  obtain ⟨q, hq⟩ := hc
  obtain ⟨q', hq', -⟩ := al.2.2 _ _ hq
  have ho := VmData.ne_statics_of hobj
  simp only [covers] at hx
  by_cases z : s.vm.assignable cell.cls c = true
  · have z' : (s.vm.noted f.method.cls x.catchType (.cls c)).assignable cell.cls c = true := as.trans z
    rw [if_pos z]
    simp [findHandler.go, hx, h0, g1, g2, hcell, ho, hk', hq', z', VmOp.dirties, VmOp.acts]
  · have z1 : s.vm.assignable cell.cls c = false := by simpa using z
    have z' : (s.vm.noted f.method.cls x.catchType (.cls c)).assignable cell.cls c = false := as.trans z1
    rw [if_neg z]
    simp [findHandler.go, hx, h0, g1, g2, hcell, ho, hk', hq', z', VmOp.dirties, VmOp.acts]
end TC1
section TC2
variable {p : Program} {l : Launch} {e : Env} {R : Room} {s : State} {m : MethodId} {args : Array Value} {below : List Frame} {meth : Method} {c : Code} {H : Heap} {locs : List Loc} {cells slots : Nat} {Q : State → Prop}
theorem tc_into {T : State} (X : Stand p l e R s m args below meth c T locs cells slots) {g : JFrame} (hg : g.method = m) {a : Addr} {hp : Nat} {v : Vm} (hv : s.WarmedH v)
    (hG : tc_G e ((T.setTop g).pushFrame (.throwing a)) g a c.exceptionTable.toList (.found hp) v) {t : State}
    (h : Steps p.tables e below ((T.setVm v).setTop { g with pc := hp, stack := [.ref a] }) t) : Steps p.tables e below ((T.setTop g).pushFrame (.throwing a)) t := by
  subst hg
  have hA := X.here
  have hF : ∀ (Q : Handler → Pre) (E : CtlPost) (d : Bool) (acts : List Action), wp (findHandler g a) Q E e d acts ((T.setTop g).pushFrame (.throwing a)) ↔ Q (.found hp) d acts (((T.setTop g).pushFrame (.throwing a)).setVm v) := fun Q E d acts => by
    rw [W.findHandler_eq (s := (T.setTop g).pushFrame (.throwing a)) (meth := meth) (code := c) X.method' X.code]
    exact hG Q E d acts
  have hI : (stepThrowing e ((T.setTop g).pushFrame (.throwing a)) a (.java g :: T.frames.tail)).Is ((((T.setTop g).pushFrame (.throwing a)).setVm v).setFrames (.java { g with pc := hp, stack := [.ref a] } :: T.frames.tail)) [] := by
    simp only [stepThrowing, searchFrame, vmDo]
    generalize hr : Sem.go _ e false [] ((T.setTop g).pushFrame (.throwing a)) = res
    obtain ⟨as, rfl, ha⟩ := Sem.eq_ok_of hr (a := Handler.found hp) (s' := ((T.setTop g).pushFrame (.throwing a)).setVm v) (acts' := []) (by simp [hF _ _ _ _])
    exact ⟨rfl, ha⟩
  obtain ⟨hgo, hw⟩ := hA.throwing a
  refine Steps.head hgo hw ?_
  rw [stepThread_throwing (frames_entered hA.top _), hI.1]
  obtain ⟨g₀, h0⟩ := Option.isSome_iff_exists.mp hA.top
  obtain ⟨r, hr⟩ := State.topJava?_eq_some.mp h0
  have hr' : (T.setVm v).frames = .java g₀ :: r := hr
  rw [State.setTop_of_frames _ hr'] at h
  have e1 : ((T.setTop g).pushFrame (.throwing a)).setVm v = ((T.setVm v).setTop g).pushFrame (.throwing a) := by
    rw [State.pushFrame, State.pushFrame, State.setTop_of_frames _ hr, State.setTop_of_frames _ hr']
    rfl
  rw [e1, State.pushFrame, State.setTop_of_frames _ hr', State.setFrames_setFrames, State.setFrames_setFrames, hr]
  exact h
/-- the only entry, or the first of them that covers the place: its class is the one that was thrown -/
theorem tc_caught {x : Addr} {pc hp : Nat} {ls : Array Slot} {st : List Value} {own C : String} {a b ct : Nat} {more : List (Nat × Nat × Nat × Nat)} (hE : c.exceptionTable.toList.map (fun h => (h.startPc, h.endPc, h.handlerPc, h.catchType)) = (a, b, hp, ct) :: more)
    (ha : a ≤ pc) (hb : pc < b) (h0 : ct ≠ 0) (hown : s.vm.findClass own = some m.cls) (hlink : (Cond.classLink own ct C).before args s = true) (hx : xo C x s H)
    (h : W p l e R s m args below meth c H locs cells slots Q (F0 m hp ls [.ref x])) : tx_T p l e R s m args below meth c H locs cells slots Q (F0 m pc ls st) x := by
  intro T hT X
  subst hT
  obtain ⟨cell, hcell, hobj, hcls⟩ := hx
  obtain ⟨c', hc', hcl⟩ := Cond.classLink_spec hown hlink e.platform (by rw [X.admits.platform])
  cases hcls.symm.trans hc'
  obtain ⟨dk, _, _, kt, hd, _, _, _, _, hkt, _, hopen⟩ := hcl.here
  have hcl1 := X.warmed.classLinks hcl
  have hW : s.WarmedH (T.vm.noted m.cls ct (.cls cell.cls)) := X.warmed.noted hd hopen (State.rightAt_cls hcl)
  obtain ⟨t, h1, h2⟩ := h (T.setVm (T.vm.noted m.cls ct (.cls cell.cls))) rfl (X.noted hW)
  obtain ⟨kt', hkt', -⟩ := X.warmed.alike.2.2 _ _ hkt
  refine ⟨t, tc_into X (g := F0 m pc ls st) rfl hW ?_ h1, h2⟩
  cases hl : c.exceptionTable.toList with
  | nil => rw [hl] at hE; cases hE
  | cons y ys =>
    rw [hl, List.map_cons] at hE
    injection hE with e1 e2
    injection e1 with q1 e1
    injection e1 with q2 e1
    injection e1 with q3 q4
    intro Q E d acts
    subst q1; subst q2; subst q3; subst q4
    refine (tc_one (s := (T.setTop (F0 m pc ls st)).pushFrame (.throwing x)) (c := cell.cls) (cell := cell) (f := F0 m pc ls st) (by simp only [covers, F0]; simpa using ⟨ha, hb⟩) h0 hcl1 hcell hobj ⟨kt', hkt'⟩ Q E d acts).trans ?_
    rw [if_pos (va_asg _ _)]
    exact Iff.rfl
end TC2
