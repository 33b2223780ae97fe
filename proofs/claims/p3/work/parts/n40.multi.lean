/-! the law: a call that may throw one of several classes, and a table with an entry for each -/
section TML
variable {p : Program} {l : Launch} {e : Env} {R : Room} {s : State} {m : MethodId} {args : Array Value} {below : List Frame} {meth : Method} {c : Code} {H : Heap} {locs : List Loc} {cells slots mr sr mt st : Nat}
variable {A0 A1 : Nat → Prop} {H0 : Heap} {pc : Nat} {ls : Array Slot} {st0 rest : List Value} {a : Array Value} {Q : State → Prop} {free : Addr → Prop} {Cs : List String}
variable {S : Type} {B : S → State → Prop} {pt : S → Prop}
theorem tm_calli {pr : Int32 → S → Prop} (hr : tz_Run p l e R s m args below meth c H locs cells slots (tz_k mr sr mt st) (F0 m pc ls st0) rest (tq_Q (tm_i pr Cs pt) B A1 a) free) (hS : va_S A0 H0 H locs) (hA : ∀ q, q < H.size → A1 q → A0 q) (hf : ∀ q, free q → A0 q)
    (kr : ∀ (r : Int32) (u : S) (t : State) (H1 : Heap) (locs1 : List Loc), t.heap = H1 → s.vm.Alike t.vm → pr r u → B u t → H.size ≤ H1.size → (∀ q : Nat, q < H.size → ¬ A1 q → H1[q]? = H[q]?) → va_S A0 H0 H1 locs1 → W p l e R s m args below meth c H1 locs1 (cells + mr) (slots + sr) Q (F0 m (pc + 3) ls (.int r :: rest)))
    (kt : ∀ (x : Addr) (u : S) (t : State) (H1 : Heap) (locs1 : List Loc), t.heap = H1 → s.vm.Alike t.vm → pt u → (∃ C, C ∈ Cs ∧ xo C x s H1) → B u t → H.size ≤ H1.size → (∀ q : Nat, q < H.size → ¬ A1 q → H1[q]? = H[q]?) → va_S A0 H0 H1 locs1 → tx_T p l e R s m args below meth c H1 locs1 (cells + mt) (slots + st) Q (F0 m pc ls rest) x) :
    W p l e R s m args below meth c H locs cells slots Q (F0 m pc ls st0) :=
  tq_core hr hS hA hf (fun v u t H1 locs1 h1 h2 h3 h4 h5 h6 h7 => by obtain ⟨r, rfl, h3⟩ := h3; exact kr r u t H1 locs1 h1 h2 h3 h4 h5 h6 h7)
    (fun x u t H1 locs1 h1 h2 h3 h4 h5 h6 h7 => by obtain ⟨h8, C, h9, h10⟩ := h3; exact kt x u t H1 locs1 h1 h2 h8 ⟨C, h9, by rw [← h1]; exact h10.back h2⟩ h4 h5 h6 h7)
theorem tm_calll {pr : Int64 → S → Prop} (hr : tz_Run p l e R s m args below meth c H locs cells slots (tz_k mr sr mt st) (F0 m pc ls st0) rest (tq_Q (tm_l pr Cs pt) B A1 a) free) (hS : va_S A0 H0 H locs) (hA : ∀ q, q < H.size → A1 q → A0 q) (hf : ∀ q, free q → A0 q)
    (kr : ∀ (r : Int64) (u : S) (t : State) (H1 : Heap) (locs1 : List Loc), t.heap = H1 → s.vm.Alike t.vm → pr r u → B u t → H.size ≤ H1.size → (∀ q : Nat, q < H.size → ¬ A1 q → H1[q]? = H[q]?) → va_S A0 H0 H1 locs1 → W p l e R s m args below meth c H1 locs1 (cells + mr) (slots + sr) Q (F0 m (pc + 3) ls (.long r :: rest)))
    (kt : ∀ (x : Addr) (u : S) (t : State) (H1 : Heap) (locs1 : List Loc), t.heap = H1 → s.vm.Alike t.vm → pt u → (∃ C, C ∈ Cs ∧ xo C x s H1) → B u t → H.size ≤ H1.size → (∀ q : Nat, q < H.size → ¬ A1 q → H1[q]? = H[q]?) → va_S A0 H0 H1 locs1 → tx_T p l e R s m args below meth c H1 locs1 (cells + mt) (slots + st) Q (F0 m pc ls rest) x) :
    W p l e R s m args below meth c H locs cells slots Q (F0 m pc ls st0) :=
  tq_core hr hS hA hf (fun v u t H1 locs1 h1 h2 h3 h4 h5 h6 h7 => by obtain ⟨r, rfl, h3⟩ := h3; exact kr r u t H1 locs1 h1 h2 h3 h4 h5 h6 h7)
    (fun x u t H1 locs1 h1 h2 h3 h4 h5 h6 h7 => by obtain ⟨h8, C, h9, h10⟩ := h3; exact kt x u t H1 locs1 h1 h2 h8 ⟨C, h9, by rw [← h1]; exact h10.back h2⟩ h4 h5 h6 h7)
end TML
section TCM
variable {p : Program} {l : Launch} {e : Env} {R : Room} {s : State} {m : MethodId} {args : Array Value} {below : List Frame} {meth : Method} {c : Code} {H : Heap} {locs : List Loc} {cells slots : Nat} {Q : State → Prop}
/-- entries that all cover the place, one of them of the class that was thrown: the search ends at one of them -/
theorem tc_list {x : Addr} {own C : String} {nm : Nat → String} {g : JFrame} {cell : Cell} (hg : g.method = m) (hown : s.vm.findClass own = some m.cls) (hcell : H[x]? = some cell) (hobj : cell.vm.isStatics = false) (hcls : s.vm.findClass C = some cell.cls) : ∀ (ts : List ClassFile.ExceptionTableEntry) (T : State) (X : Stand p l e R s m args below meth c T locs cells slots) (hT : T.heap = H) (hcov : ∀ y ∈ ts, covers y g.pc = true ∧ y.catchType ≠ 0 ∧ (Cond.classLink own y.catchType (nm y.catchType)).before args s = true) (hC : ∃ y ∈ ts, nm y.catchType = C), ∃ y ∈ ts, ∃ v : Vm, s.WarmedH v ∧ tc_G e ((T.setTop g).pushFrame (.throwing x)) g x ts (.found y.handlerPc) v := by
  intro ts
  induction ts with
  | nil => intro T X hT hcov hC; obtain ⟨y, hy, -⟩ := hC; cases hy
  | cons y ys ih =>
    intro T X hT hcov hC
    subst hg
    have hC2 := hC
    obtain ⟨y0, hy0, hn0⟩ := hC2
    have hl0 := (hcov y0 hy0).2.2
    rw [hn0] at hl0
    obtain ⟨c0, hc0, hcl0⟩ := Cond.classLink_spec hown hl0 e.platform (by rw [X.admits.platform])
    cases hcls.symm.trans hc0
    obtain ⟨_, _, _, kt, _, _, _, _, _, hkt, _, _⟩ := hcl0.here
    obtain ⟨kt', hkt', -⟩ := X.warmed.alike.2.2 _ _ hkt
    obtain ⟨h1, h2, h3⟩ := hcov y List.mem_cons_self
    obtain ⟨cD, hcD, hclD⟩ := Cond.classLink_spec hown h3 e.platform (by rw [X.admits.platform])
    obtain ⟨dk, _, _, _, hd, _, _, _, _, _, _, hopen⟩ := hclD.here
    have hcl1 := X.warmed.classLinks hclD
    have hW : s.WarmedH (T.vm.noted g.method.cls y.catchType (.cls cD)) := X.warmed.noted hd hopen (State.rightAt_cls hclD)
    have one := tc_one (s := (T.setTop g).pushFrame (.throwing x)) (c := cD) (cell := cell) (f := g) (a := x) (ts := ys) (x := y) h1 h2 hcl1 (by show T.heap[x]? = _; rw [hT]; exact hcell) hobj ⟨kt', hkt'⟩
    by_cases z : ((T.setTop g).pushFrame (.throwing x)).vm.assignable cell.cls cD = true
    · refine ⟨y, List.mem_cons_self, _, hW, fun Q E d acts => (one Q E d acts).trans ?_⟩
      rw [if_pos z]
      exact Iff.rfl
    · have X2 := X.noted hW
      obtain ⟨y2, hy2, v, hv, hG⟩ := ih (T.setVm (T.vm.noted g.method.cls y.catchType (.cls cD))) X2 hT (fun w hw => hcov w (List.mem_cons_of_mem _ hw)) (by
        obtain ⟨w, hw, hlw⟩ := hC
        rcases List.mem_cons.mp hw with rfl | hw
        · exfalso
          rw [hlw] at hcD
          have q1 : cD = cell.cls := Option.some.inj (hcD.symm.trans hcls)
          exact z (by rw [q1]; exact va_asg _ _)
        · exact ⟨w, hw, hlw⟩)
      refine ⟨y2, List.mem_cons_of_mem _ hy2, v, hv, fun Q E d acts => (one Q E d acts).trans ?_⟩
      rw [if_neg z]
      exact hG Q E d acts
theorem tc_multi {x : Addr} {pc : Nat} {ls : Array Slot} {st : List Value} {own C : String} {nm : Nat → String} {hs : List (Nat × Nat × Nat × Nat)} (hE : c.exceptionTable.toList.map (fun h => (h.startPc, h.endPc, h.handlerPc, h.catchType)) = hs) (hcov : ∀ q ∈ hs, q.1 ≤ pc ∧ pc < q.2.1 ∧ q.2.2.2 ≠ 0 ∧ (Cond.classLink own q.2.2.2 (nm q.2.2.2)).before args s = true) (hC : ∃ q ∈ hs, nm q.2.2.2 = C) (hown : s.vm.findClass own = some m.cls) (hx : xo C x s H)
    (h : ∀ q ∈ hs, W p l e R s m args below meth c H locs cells slots Q (F0 m q.2.2.1 ls [.ref x])) : tx_T p l e R s m args below meth c H locs cells slots Q (F0 m pc ls st) x := by
  intro T hT X
  subst hE
  obtain ⟨cell, hcell, hobj, hcls⟩ := hx
  obtain ⟨y, hy, v, hv, hG⟩ := tc_list (g := F0 m pc ls st) (nm := nm) rfl hown hcell hobj hcls c.exceptionTable.toList T X hT (fun y hy => by
    obtain ⟨h1, h2, h3, h4⟩ := hcov _ (List.mem_map.mpr ⟨y, hy, rfl⟩)
    exact ⟨by simp only [covers, F0]; simpa using ⟨h1, h2⟩, h3, h4⟩) (by
    obtain ⟨q, hq, hn⟩ := hC
    obtain ⟨y, hy, rfl⟩ := List.mem_map.mp hq
    exact ⟨y, hy, hn⟩)
  obtain ⟨t, h1, h2⟩ := h _ (List.mem_map.mpr ⟨y, hy, rfl⟩) (T.setVm v) hT (X.noted hv)
  exact ⟨t, tc_into X (g := F0 m pc ls st) rfl hv hG h1, h2⟩
end TCM
