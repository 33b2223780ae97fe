section q_02
/-! CONTRACTS OF METHODS THAT MAY THROW: the kit's Met asks that the method returns; here it may also throw. -/
def tx_End (first t : State) (L : List Loc) (k n : Nat) : Prop := first.WarmedH t.vm ∧ first.sameButNew ({ t with vm := first.vm } : State) L k n
def tx_Met (l : Launch) (y : MethodName) (ws : List Cond) (rm : Room) (Pc : Array Value → State → Prop) (Qc : Array Value → State → Outcome → State → Prop) (mc ms : Nat) (free : Addr → Prop) : Prop :=
  MetFree l y (headSpec ws rm) Pc (fun _ _ _ _ _ => True) (fun a st o t => Qc a st o t ∧ ∃ L, tx_End st t L mc ms ∧ ∀ q ∈ L, free q.base)
def tx_MQ (below : List Frame) (Qc : Array Value → State → Outcome → State → Prop) (a : Array Value) (s : State) (mc ms : Nat) (free : Addr → Prop) : State → Prop := fun t =>
  ∃ o, t.status = .running ∧ Ended t below o ∧ Qc a s o t ∧ ∃ L, tx_End s t L mc ms ∧ ∀ q ∈ L, free q.base
section TX1
variable {p : Program} {l : Launch} {e : Env} {R : Room} {s : State} {m : MethodId} {args : Array Value} {below : List Frame} {meth : Method} {c : Code} {H : Heap} {locs : List Loc} {cells slots : Nat} {Q : State → Prop}
/-- a walk that ends in the kit's own end ends in this one -/
theorem tx_up {Qc : Array Value → State → Outcome → State → Prop} {mc ms : Nat} {free : Addr → Prop} {g : JFrame} (h : W p l e R s m args below meth c H locs cells slots (MQ below Qc args s mc ms free) g) :
    W p l e R s m args below meth c H locs cells slots (tx_MQ below Qc args s mc ms free) g := by
  intro T hT X
  obtain ⟨t, h1, o, h2, h3, h4, L, hF, hL⟩ := h T hT X
  exact ⟨t, h1, o, h2, h3, h4, L, ⟨hF.2.1, hF.2.2⟩, hL⟩
/-- a contract that returns is one that may throw -/
theorem tx_of {y : MethodName} {ws : List Cond} {rm : Room} {Pc : Array Value → State → Prop} {Qc : Array Value → State → Outcome → State → Prop} {mc ms : Nat} {free : Addr → Prop} (h : Met l y ws rm Pc Qc mc ms free) : tx_Met l y ws rm Pc Qc mc ms free := by
  intro p e ha hc hk s m args below hf happ hP hK
  obtain ⟨n, o, h1, h2, h3, h4, L, hF, hL⟩ := h p e ha hc hk s m args below hf happ hP hK
  exact ⟨n, o, h1, h2, h3, h4, L, ⟨hF.2.1, hF.2.2⟩, hL⟩
theorem tx_ofW {y : MethodName} {ws ws' : List Cond} {rm : Room} {Pc : Array Value → State → Prop} {Qc : Array Value → State → Outcome → State → Prop} {mc ms : Nat} {free : Addr → Prop} {cc : ByteArray} {maxL : Nat} {ret : Option FieldType}
    (hy : plainName y.cls = true) (hw : ws = Cond.code y cc maxL ret :: ws')
    (body : ∀ p e s m args below meth c s₁, BodyLoose p l y (headSpec ws rm) cc maxL ret e s m args below meth c s₁ → c.maxLocals = maxL → c.exceptionTable.isEmpty = true → Pc args s →
      W p l e (headSpec ws rm).room s m args below meth c s.heap [] 0 0 (tx_MQ below Qc args s mc ms free) (entryFrame m args maxL)) : tx_Met l y ws rm Pc Qc mc ms free := by
  refine MetFree.of_bodyS (code := cc) (maxLocals := maxL) (ret := ret) hy ?_ ?_
  · intro args s m h hn
    obtain ⟨meth, c, h1, h2, h3, h4, h5, h6, -, -⟩ := Cond.code_spec hn (atoms_spec (ws := ws) h _ (by rw [hw]; exact List.mem_cons_self))
    exact ⟨meth, c, h1, h2, h3, h4, h5, h6⟩
  · intro p e s m args below meth c s₁ B hml hP _
    have hh0 : s₁.heap = s.heap := by rw [B.state]; rfl
    have hno := B.noHandlers (atoms_spec (ws := ws) B.pre _ (by rw [hw]; exact List.mem_cons_self))
    obtain ⟨t, a1, o, b1, b2, b3⟩ := body p e s m args below meth c s₁ B hml hno hP s₁ hh0 (Stand.of_body B)
    exact ⟨t, o, a1, b1, b2, ⟨b3.1, b3.2⟩⟩
theorem tx_none {c : Code} (h : c.exceptionTable.isEmpty = true) (pc : Nat) : ∀ x ∈ c.exceptionTable.toList, covers x pc = false := by
  have h0 : c.exceptionTable.size = 0 := by simpa [Array.isEmpty] using h
  have h1 : c.exceptionTable.toList = [] := List.eq_nil_of_length_eq_zero (by simpa using h0)
  intro y hy
  rw [h1] at hy
  cases hy
/-- athrow, where nothing catches: the method ends so -/
theorem tx_athrow {cc : ByteArray} {Qc : Array Value → State → Outcome → State → Prop} {free : Addr → Prop} {a : Addr} {rest : List Value} (hexec : p.tables.exec = Jvm.exec) (hb : c.code = cc) (hno : c.exceptionTable.isEmpty = true) (hlocks : meth.locks = false)
    (hq : ∀ t : State, t.heap = H → s.WarmedH t.vm → Qc args s (.threw a) t) (hf : ∀ q ∈ locs, free q.base) {pc : Nat} {ls : Array Slot} (hdg : decode cc pc = .ok (.athrow, 1)) :
    W p l e R s m args below meth c H locs cells slots (tx_MQ below Qc args s cells slots free) (F0 m pc ls (.ref a :: rest)) := by
  intro T hT X
  subst hb
  obtain ⟨h1, h2, h3, h4, h5⟩ := X.athrowLeaves hexec (g := F0 m pc ls (.ref a :: rest)) rfl rfl rfl (tx_none hno _) rfl hdg hlocks
  exact ⟨_, h1, .threw a, h2, h3, hq _ hT h4, locs, ⟨h4, h5⟩, hf⟩
end TX1
/-- where a call of 'len' bytes from the frame g leaves the machine -/
def tx_beh (U : State) (g : JFrame) (len : Nat) : Outcome → State
  | .returned v => U.setTop { g with pc := g.pc + len, stack := v.toList ++ g.stack }
  | .threw x => (U.setTop g).pushFrame (.throwing x)
def tx_Back (l : Launch) (R : Room) (p : Program) (e : Env) (below : List Frame) (s : State) (sargs : Array Value) (y : MethodName) (len W : Nat) (Pre : Pt → Array Value → Prop) (Post : Pt → Array Value → Outcome → Pt → Prop) : Prop :=
  ∀ (m : MethodId) (meth : Method) (c : Code) (A : Pt) (g : JFrame) (ig : Instr) (mk : MethodId) (a : Array Value),
    Stand p l e R s m sargs below meth c A.U A.locs A.cells A.slots → g.method = m → g.locals.size = c.maxLocals → decode c.code g.pc = .ok (ig, len) →
    2 * g.monitorRoom + (g.stack.map fun v => v.category).sum ≤ W → A.U.methodNamed? y = some mk → Pre A a →
    ∃ (o : Outcome) (B : Pt), Stand p l e R s m sargs below meth c B.U B.locs B.cells B.slots ∧ Post A a o B ∧ Steps p.tables e below (doInvoke e (A.U.setTop g) [] mk a).1 (tx_beh B.U g len o)
def tx_Post (Qc : Array Value → State → Outcome → State → Prop) (mc ms : Nat) (free : Addr → Prop) : Pt → Array Value → Outcome → Pt → Prop := fun A a o B =>
  ∃ (g : JFrame) (mk : MethodId) (t : State) (L : List Loc), B.U.heap = t.heap ∧ B.U.vm = t.vm ∧ Qc a (A.U.calling g mk a) o t ∧ B.locs = A.locs ++ L ∧ (∀ q ∈ L, free q.base) ∧ B.cells = A.cells + mc ∧ B.slots = A.slots + ms
section TX2
variable {l : Launch} {R : Room} {p : Program} {e : Env} {below : List Frame} {s : State} {sargs : Array Value} {y : MethodName} {len W : Nat}
set_option maxHeartbeats 1000000 in
theorem tx_back {ws : List Cond} {rm : Room} {Pc : Array Value → State → Prop} {Qc : Array Value → State → Outcome → State → Prop} {mc ms : Nat} {free : Addr → Prop} {maxL : Nat}
    (hM : tx_Met l y ws rm Pc Qc mc ms free) (hblind : FrameBlind Pc) (hrc : rm.cells = mc) (hrs : rm.slots = ms) (hframes : rm.frames + 1 ≤ R.frames) (hlocals : W + (maxL + 11) + rm.locals ≤ R.locals)
    (hws : ∀ w ∈ ws, ∀ (a' : Array Value) (U : State), s.WarmedH U.vm → w.before a' U = true)
    (hat : ∀ (U : State) (mk : MethodId), s.WarmedH U.vm → U.methodNamed? y = some mk → ∃ (methY : Method) (cY : Code), U.vm.method? mk = some methY ∧ methY.code = some cY ∧ cY.maxLocals = maxL)
    (hinit : ∀ (a' : Array Value) (U : State), s.WarmedH U.vm → (Cond.initialized y.cls).before a' U = true) :
    tx_Back l R p e below s sargs y len W (PreOf R mc ms Pc) (tx_Post Qc mc ms free) := by
  intro m meth c A g ig mk a X hg hsize hdg hW hn hp
  obtain ⟨U, Ls, c0, s0⟩ := A
  obtain ⟨hp1, hp2, hp3⟩ := hp
  dsimp only [Pt.U, Pt.locs, Pt.cells, Pt.slots] at hp1 hp2 hp3 X hn ⊢
  obtain ⟨methY, cY, hmY, hcY, hlY⟩ := hat U mk X.warmed hn
  obtain ⟨kY, hkY, -⟩ := className_of_methodNamed hn
  have hinitY : kY.init = .initialized := Cond.initialized_spec (findClass_of_methodNamed hn) hkY (hinit a U X.warmed)
  have h : At U g.method c below := by rw [hg]; exact X.here
  have h1 : (headSpec ws rm).pre.before a U = true := atoms_intro fun w hw => hws w hw _ _ X.warmed
  have happ : (headSpec ws rm).appliesLoose y e.platform (U.calling g mk a) = true :=
    Spec.appliesLoose_calling (g := g) h hdg hn hkY hinitY
      (X.room_calling (g := g) (R' := rm) hsize hmY hcY hframes (by rw [hlY]; (first | (apply Int.le_antisymm <;> omega) | omega)) (by rw [hrc]; exact hp1) (by rw [hrs]; exact hp2)) h1
  obtain ⟨mid, hmid⟩ := h.above
  have hfr : (U.setTop g).frames = (.java g :: mid) ++ below := by rw [State.frames_setTop' g h.top, hmid]; rfl
  obtain ⟨o, s₂, hsteps, -, hend, hq⟩ := Steps.callFree hM p X.admits X.cas X.clock (acts := []) hfr happ (hblind _ _ _ _ hp3) trivial
  have hq' : Qc a (U.calling g mk a) o s₂ ∧ ∃ L, tx_End (U.calling g mk a) s₂ L mc ms ∧ ∀ q ∈ L, free q.base := hq
  rw [State.frames_setTop' g h.top] at hend
  obtain ⟨hqc, L, ⟨hW₂, e2, q2, q3, q4, q5, q6⟩, hL⟩ := hq'
  have e3 : s₂ = ({ (U.calling g mk a).setFrames s₂.frames with heap := s₂.heap, slotsUsed := s₂.slotsUsed } : State).setVm s₂.vm := by
    have : s₂ = ({ s₂ with vm := (U.calling g mk a).vm } : State).setVm s₂.vm := rfl
    rw [e2] at this
    exact this
  have hW' : U.WarmedH s₂.vm := hW₂
  obtain ⟨g₀, hg0⟩ := Option.isSome_iff_exists.mp h.top
  obtain ⟨r, hr⟩ := State.topJava?_eq_some.mp hg0
  have hr' : (({ U with heap := s₂.heap, slotsUsed := s₂.slotsUsed } : State).setVm s₂.vm).frames = .java g₀ :: r := hr
  have hs₂ : s₂ = tx_beh (({ U with heap := s₂.heap, slotsUsed := s₂.slotsUsed } : State).setVm s₂.vm) g len o := by
    cases o with
    | returned v =>
      obtain ⟨c₂, i₂, len₂, hc₂, hd₂, hf₂⟩ := hend
      have hcc : c₂ = c := by
        have h1 : s₂.code? g.method = U.code? g.method := by
          rw [State.code?_eq, State.code?_eq, hW'.alike.method?]
        exact Option.some.inj (hc₂.symm.trans (h1.trans h.code))
      subst hcc
      have hlen : len₂ = len := by rw [hdg] at hd₂; cases hd₂; rfl
      subst hlen
      refine e3.trans ?_
      show _ = (({ U with heap := s₂.heap, slotsUsed := s₂.slotsUsed } : State).setVm s₂.vm).setTop { g with pc := g.pc + len₂, stack := v.toList ++ g.stack }
      rw [hf₂, State.calling_eq h.top, State.setFrames_setFrames, State.setTop_of_frames _ hr', hr]
      rfl
    | threw x =>
      have hf₂ : s₂.frames = .throwing x :: .java g :: U.frames.tail := hend
      refine e3.trans ?_
      show _ = ((({ U with heap := s₂.heap, slotsUsed := s₂.slotsUsed } : State).setVm s₂.vm).setTop g).pushFrame (.throwing x)
      rw [hf₂, State.calling_eq h.top, State.setFrames_setFrames, State.pushFrame, State.frames_setTop _ hr', State.setTop_of_frames _ hr', State.setFrames_setFrames, hr]
      rfl
  have hsame : U.sameButNew ({ U with heap := s₂.heap, slotsUsed := s₂.slotsUsed } : State) L mc ms := by
    refine ⟨?_, q2, q3, q4, q5, q6⟩
    obtain ⟨t, ht, -⟩ := State.frames_cons hr
    show ({ U with heap := s₂.heap, slotsUsed := s₂.slotsUsed } : State) = { U.setFrames U.frames with heap := s₂.heap, slotsUsed := s₂.slotsUsed }
    rw [State.setFrames_self ht]
  subst hg
  refine ⟨o, ⟨(({ U with heap := s₂.heap, slotsUsed := s₂.slotsUsed } : State).setVm s₂.vm), Ls ++ L, c0 + mc, s0 + ms⟩,
    ⟨X.admits, X.cas, X.clock, X.frames, X.room, X.hears, X.method, X.code, (X.here.setHeapUsed s₂.heap s₂.slotsUsed).setVm hW'.alike, X.tail, State.WarmedH.trans X.warmed hW', X.limits, X.bytes, X.same.trans (hsame.setVm s.vm)⟩,
    ⟨g, mk, s₂, L, rfl, rfl, hqc, rfl, hL, rfl, rfl⟩, ?_⟩
  show Steps p.tables e below _ (tx_beh (({ U with heap := s₂.heap, slotsUsed := s₂.slotsUsed } : State).setVm s₂.vm) g len o)
  rw [← hs₂]
  exact hsteps
end TX2
def tx_Run (p : Program) (l : Launch) (e : Env) (R : Room) (s : State) (m : MethodId) (args : Array Value) (below : List Frame) (meth : Method) (c : Code) (H : Heap) (locs : List Loc) (cells slots mc ms : Nat) (g : JFrame) (rest : List Value) (Qa : State → Outcome → State → Prop) (free : Addr → Prop) : Prop :=
  ∀ T : State, T.heap = H → Stand p l e R s m args below meth c T locs cells slots → ∃ (o : Outcome) (st₀ t T' : State) (L : List Loc), st₀.heap = H ∧ Stand p l e R s m args below meth c T' (locs ++ L) (cells + mc) (slots + ms) ∧ (∀ q ∈ L, free q.base) ∧ T'.heap = t.heap ∧ T'.vm = t.vm ∧ Qa st₀ o t ∧
    ∀ target, Steps p.tables e below (tx_beh T' { g with stack := rest } 3 o) target → Steps p.tables e below (T.setTop g) target
section TX3
variable {p : Program} {l : Launch} {e : Env} {R : Room} {s : State} {m : MethodId} {args : Array Value} {below : List Frame} {meth : Method} {c : Code} {H : Heap} {locs : List Loc} {cells slots : Nat}
variable {y : MethodName} {bytes cc : ByteArray} {maxL nL mc ms n index : Nat} {ret : Option FieldType} {ws : List Cond} {rm : Room} {Pc : Array Value → State → Prop} {Qc : Array Value → State → Outcome → State → Prop} {free : Addr → Prop} {Ts : List Cond} {own C : String} {b : Addr} {As rest : List Value} {g : JFrame}
theorem tx_callBack (cb : CallB R s args own index y bytes maxL ret ws rm mc ms n) (hM : tx_Met l y ws rm Pc Qc mc ms free) (hbl : FrameBlind Pc) : tx_Back l R p e below s args y 3 8 (PreOf R mc ms Pc) (tx_Post Qc mc ms free) := by
  obtain ⟨hrc, hrs, hfr, hlo, hws, hcw, -, hini, -⟩ := cb
  exact tx_back hM hbl hrc hrs hfr hlo hws (fun U mk hW hn => by
    obtain ⟨methY, cY, h1, h2, -, h4, -⟩ := Cond.code_spec hn (hws _ hcw #[] U hW)
    exact ⟨methY, cY, h1, h2, h4⟩) (fun a' U hW => word_at hW (Or.inl (by first | rfl | simp [Cond.onTables, Cond.keeps, Cond.steady])) hini)
theorem tx_runV (S : CallFix p m c cc nL s args Ts own) (hM : tx_Met l y ws rm Pc Qc mc ms free) (cw : CallW R s args own C index y bytes maxL ret ws rm mc ms n) (hp : PreV s H C b Pc As)
    (hg : g.method = m) (hn : As.length = n) (hsize : g.locals.size = nL) (hstack : g.stack = As.reverse ++ .ref b :: rest) (hW : 2 * g.monitorRoom + (rest.map fun v => v.category).sum ≤ 8) (hdg : decode cc g.pc = .ok (.invokevirtual index, 3)) (hf : cells + mc ≤ R.cells ∧ slots + ms ≤ R.slots) :
    tx_Run p l e R s m args below meth c H locs cells slots mc ms g rest (Qc (Value.ref b :: As).toArray) free := by
  have hK : tx_Back l R p e below s args y 3 8 (PreOf R mc ms Pc) (tx_Post Qc mc ms free) := tx_callBack cw.1 hM hp.1
  obtain ⟨⟨-, -, -, -, -, -, hcode, -, hy, hlen, hl⟩, hinst, hsel⟩ := cw
  obtain ⟨hexec, hb, hml, hown, -⟩ := S
  obtain ⟨-, ⟨cellB, hcell, hobj, hcls⟩, hPc⟩ := hp
  intro T hT X
  obtain ⟨mk, methM, hnamed, hmethM, hstM, habM⟩ := Cond.instanceMethod_spec hinst
  obtain ⟨methM', cM, hmethM', -, -, -, -, -, -, hsigM⟩ := Cond.code_spec hnamed hcode
  cases hmethM.symm.trans hmethM'
  obtain ⟨c2, r2, m2, q1, q2, q3, q4, kP, hkP, hkPi⟩ := Cond.selects_spec hsel
  cases hcls.symm.trans q1
  cases (State.methodFound?_of_named hnamed hy).symm.trans q2
  cases hnamed.symm.trans q3
  have hselP : selectMethod e.platform s.vm cellB.cls mk = .method mk := by rw [Launch.admits_selectMethod X.admits]; exact q4
  subst hT
  subst hb
  obtain ⟨vm₁, X₁, hstep₁⟩ := X.invokevirtual hexec hown hl hnamed hmethM hstM hkP hkPi hy (a := b) (cell := cellB) hcell
    (fun z h => by rw [h] at hobj; cases hobj) hselP hmethM habM hkP hkPi (g := g) hg (argsL := As) (rest := rest) (hn.trans (hlen _ hsigM)) hstack hdg
  obtain ⟨o, ⟨U', l2, c2', s2⟩, X', ⟨g', mk', t, L, e1, e2, hq, h1, hL, h2, h3⟩, hsteps⟩ := hK m meth c ⟨T.setVm vm₁, locs, cells, slots⟩ { g with stack := rest } (.invokevirtual index) mk (Value.ref b :: As).toArray X₁ hg (hsize.trans hml.symm) hdg hW (X₁.named hnamed) ⟨hf.1, hf.2, hPc (T.setVm vm₁) rfl X₁.warmed⟩
  dsimp only [Pt.U, Pt.locs, Pt.cells, Pt.slots] at X' e1 e2 h1 h2 h3 hsteps
  subst h1; subst h2; subst h3
  exact ⟨o, (T.setVm vm₁).calling g' mk' (Value.ref b :: As).toArray, t, U', L, rfl, X', hL, e1, e2, hq, fun target h => hstep₁ _ fun acts => by rw [doInvoke_state]; exact hsteps.trans h⟩
/-- what is left to show where x is being thrown over the frame g -/
def tx_T (p : Program) (l : Launch) (e : Env) (R : Room) (s : State) (m : MethodId) (args : Array Value) (below : List Frame) (meth : Method) (c : Code) (H : Heap) (locs : List Loc) (cells slots : Nat) (Q : State → Prop) (g : JFrame) (x : Addr) : Prop :=
  ∀ T : State, T.heap = H → Stand p l e R s m args below meth c T locs cells slots → ∃ t, Steps p.tables e below ((T.setTop g).pushFrame (.throwing x)) t ∧ Q t
/-- it goes through: nothing here catches it -/
theorem tx_leave {x : Addr} {pc : Nat} {ls : Array Slot} {st : List Value} (hno : c.exceptionTable.isEmpty = true) (hlocks : meth.locks = false)
    (hq : ∀ t : State, t.heap = H → s.WarmedH t.vm → Qc args s (.threw x) t) (hf : ∀ q ∈ locs, free q.base) : tx_T p l e R s m args below meth c H locs cells slots (tx_MQ below Qc args s cells slots free) (F0 m pc ls st) x := by
  intro T hT X
  obtain ⟨h1, h2, h3, h4, h5⟩ := X.leaveThrown x (g := F0 m pc ls st) rfl rfl rfl (tx_none hno _) hlocks
  exact ⟨_, h1, .threw x, h2, h3, hq _ hT h4, locs, ⟨h4, h5⟩, hf⟩
variable {A0 A1 : Nat → Prop} {H0 : Heap} {pc : Nat} {ls : Array Slot} {st0 : List Value} {a : Array Value} {Q : State → Prop}
/-- a contract's end, by its outcome: 'post o u', the world u behind it, and what isn't its own stays -/
def tx_Q {S : Type} (post : Outcome → S → Prop) (B : S → State → Prop) (A : Nat → Prop) : Array Value → State → Outcome → State → Prop := fun _ st o t => (∃ u : S, post o u ∧ B u t) ∧ va_F A st t
theorem tx_call {S : Type} {post : Outcome → S → Prop} {B : S → State → Prop} (hr : tx_Run p l e R s m args below meth c H locs cells slots mc ms (F0 m pc ls st0) rest (tx_Q post B A1 a) free) (hS : va_S A0 H0 H locs) (hA : ∀ q, q < H.size → A1 q → A0 q) (hf : ∀ q, free q → A0 q)
    (kr : ∀ (v : Option Value) (u : S) (t : State) (H1 : Heap) (locs1 : List Loc), t.heap = H1 → s.vm.Alike t.vm → post (.returned v) u → B u t → H.size ≤ H1.size → (∀ q : Nat, q < H.size → ¬ A1 q → H1[q]? = H[q]?) → va_S A0 H0 H1 locs1 → W p l e R s m args below meth c H1 locs1 (cells + mc) (slots + ms) Q (F0 m (pc + 3) ls (v.toList ++ rest)))
    (kt : ∀ (x : Addr) (u : S) (t : State) (H1 : Heap) (locs1 : List Loc), t.heap = H1 → s.vm.Alike t.vm → post (.threw x) u → B u t → H.size ≤ H1.size → (∀ q : Nat, q < H.size → ¬ A1 q → H1[q]? = H[q]?) → va_S A0 H0 H1 locs1 → tx_T p l e R s m args below meth c H1 locs1 (cells + mc) (slots + ms) Q (F0 m pc ls rest) x) :
    W p l e R s m args below meth c H locs cells slots Q (F0 m pc ls st0) := by
  intro T hT X
  obtain ⟨o, st₀, t, T', L, h0, X', hL, e1, e2, ⟨⟨u, hp, hb⟩, hz, hk⟩, st⟩ := hr T hT X
  rw [h0] at hz hk
  have hal : s.vm.Alike t.vm := by rw [← e2]; exact X'.warmed.alike
  have hz' : H.size ≤ T'.heap.size := by rw [e1]; exact hz
  have hk' : ∀ q : Nat, q < H.size → ¬ A1 q → T'.heap[q]? = H[q]? := fun q h1 h2 => by rw [e1]; exact hk q h1 h2
  have hS' : va_S A0 H0 T'.heap (locs ++ L) := ⟨Nat.le_trans hS.1 hz', fun q h1 h2 => by rw [hk' q (Nat.lt_of_lt_of_le h1 hS.1) (fun z => h2 (hA q (Nat.lt_of_lt_of_le h1 hS.1) z))]; exact hS.2.1 q h1 h2, fun q hq => by
      rcases List.mem_append.mp hq with h | h
      · exact hS.2.2 q h
      · exact hf _ (hL q h)⟩
  cases o with
  | returned v =>
    obtain ⟨t2, a1, b1⟩ := kr v u t T'.heap (locs ++ L) e1.symm hal hp hb hz' hk' hS' T' rfl X'
    exact ⟨t2, st t2 a1, b1⟩
  | threw x =>
    obtain ⟨t2, a1, b1⟩ := kt x u t T'.heap (locs ++ L) e1.symm hal hp hb hz' hk' hS' T' rfl X'
    exact ⟨t2, st t2 a1, b1⟩
end TX3
end q_02
section q_03
/-! numbers: what a walk needs of Int32, said of toInt, so that (first | (apply Int.le_antisymm <;> omega) | omega) ends it -/
theorem i32_add {a b x : Int32} (e : x = a + b) (h1 : -2147483648 ≤ a.toInt + b.toInt) (h2 : a.toInt + b.toInt ≤ 2147483647) : x.toInt = a.toInt + b.toInt := by
  rw [e, Int32.toInt_add]
  exact Int.bmod_eq_of_le (by (first | (apply Int.le_antisymm <;> omega) | omega)) (by (first | (apply Int.le_antisymm <;> omega) | omega))
theorem i32_sub {a b x : Int32} (e : x = a - b) (h1 : -2147483648 ≤ a.toInt - b.toInt) (h2 : a.toInt - b.toInt ≤ 2147483647) : x.toInt = a.toInt - b.toInt := by
  rw [e, Int32.toInt_sub]
  exact Int.bmod_eq_of_le (by (first | (apply Int.le_antisymm <;> omega) | omega)) (by (first | (apply Int.le_antisymm <;> omega) | omega))
theorem i32_mul {a b x : Int32} (e : x = a * b) (h1 : -2147483648 ≤ a.toInt * b.toInt) (h2 : a.toInt * b.toInt ≤ 2147483647) : x.toInt = a.toInt * b.toInt := by
  rw [e, Int32.toInt_mul]
  exact Int.bmod_eq_of_le (by (first | (apply Int.le_antisymm <;> omega) | omega)) (by (first | (apply Int.le_antisymm <;> omega) | omega))
theorem i32_len {n : Nat} (h : n < 2147483648) : (Int32.ofNat n).toInt = n := nI_toInt h
theorem ltI {x y : Int32} (h : x < y) : x.toInt < y.toInt := Int32.lt_iff_toInt_lt.mp h
theorem nltI {x y : Int32} (h : ¬ x < y) : y.toInt ≤ x.toInt := Int.not_lt.mp (fun z => h (Int32.lt_iff_toInt_lt.mpr z))
theorem leI {x y : Int32} (h : x ≤ y) : x.toInt ≤ y.toInt := Int32.le_iff_toInt_le.mp h
theorem nleI {x y : Int32} (h : ¬ x ≤ y) : y.toInt < x.toInt := Int.not_le.mp (fun z => h (Int32.le_iff_toInt_le.mpr z))
theorem eqI {x y : Int32} (h : x = y) : x.toInt = y.toInt := by rw [h]
theorem neI {x y : Int32} (h : ¬ x = y) : x.toInt ≠ y.toInt := fun z => h (Int32.toInt_inj.mp z)
theorem i32_lo (x : Int32) : -2147483648 ≤ x.toInt := by have := Int32.le_toInt x; (first | (apply Int.le_antisymm <;> omega) | omega)
theorem i32_hi (x : Int32) : x.toInt ≤ 2147483647 := by have := Int32.toInt_lt x; (first | (apply Int.le_antisymm <;> omega) | omega)
theorem i32_clamp {x : Int32} (h : 0 ≤ x.toInt) : (x.toNatClampNeg : Int) = x.toInt := by
  rw [Int32.toNatClampNeg]; (first | (apply Int.le_antisymm <;> omega) | omega)
theorem i32_and255 (x : Int32) : 0 ≤ (x &&& 255).toInt ∧ (x &&& 255).toInt ≤ 255 := by
  obtain ⟨j, hj, e⟩ := pk_andE x (m := 255) 8 (by decide)
  rw [e, nI_toInt (by (first | (apply Int.le_antisymm <;> omega) | omega))]
  (first | (apply Int.le_antisymm <;> omega) | omega)
/-- at a walk's beginning: the heap gets a name -/
theorem w_gen {p : Program} {l : Launch} {e : Env} {R : Room} {s : State} {m : MethodId} {args : Array Value} {below : List Frame} {meth : Method} {c : Code} {cells slots : Nat} {Q : State → Prop} {g : JFrame} {A : Nat → Prop} {D : va_G} {cl : List vw_C} {ws : va_W}
    (hP : va_P D cl ws s.heap) (k : ∀ (H : Heap) (locs : List Loc), va_P D cl ws H → va_S A s.heap H locs → W p l e R s m args below meth c H locs cells slots Q g) : W p l e R s m args below meth c s.heap [] cells slots Q g := k _ _ hP va_S.rf
/-- a loop: from every state with the invariant, if from all of less measure -/
theorem w_loop {p : Program} {l : Launch} {e : Env} {R : Room} {s : State} {m : MethodId} {args : Array Value} {below : List Frame} {meth : Method} {c : Code} {cells slots : Nat} {Q : State → Prop} {pc : Nat} {stk : List Value} {σ : Type} (Inv : σ → Heap → List Loc → Array Slot → Prop) (μ : σ → Nat)
    (body : ∀ N : Nat, (∀ (u : σ) (H : Heap) (locs : List Loc) (ls : Array Slot), μ u < N → Inv u H locs ls → W p l e R s m args below meth c H locs cells slots Q (F0 m pc ls stk)) →
      ∀ (u : σ) (H : Heap) (locs : List Loc) (ls : Array Slot), μ u < N + 1 → Inv u H locs ls → W p l e R s m args below meth c H locs cells slots Q (F0 m pc ls stk))
    (u : σ) {H : Heap} {locs : List Loc} {ls : Array Slot} (h : Inv u H locs ls) : W p l e R s m args below meth c H locs cells slots Q (F0 m pc ls stk) := by
  have k : ∀ (N : Nat) (u : σ) (H : Heap) (locs : List Loc) (ls : Array Slot), μ u < N → Inv u H locs ls → W p l e R s m args below meth c H locs cells slots Q (F0 m pc ls stk) := by
    intro N
    induction N with
    | zero => intro u H locs ls h; exact absurd h (Nat.not_lt_zero _)
    | succ N ih => exact body N ih
  exact k _ u H locs ls (Nat.lt_succ_self _) h
theorem i64_add {a b x : Int64} (e : x = a + b) (h1 : -9223372036854775808 ≤ a.toInt + b.toInt) (h2 : a.toInt + b.toInt ≤ 9223372036854775807) : x.toInt = a.toInt + b.toInt := by
  rw [e, Int64.toInt_add]
  exact Int.bmod_eq_of_le (by (first | (apply Int.le_antisymm <;> omega) | omega)) (by (first | (apply Int.le_antisymm <;> omega) | omega))
theorem i64_sub {a b x : Int64} (e : x = a - b) (h1 : -9223372036854775808 ≤ a.toInt - b.toInt) (h2 : a.toInt - b.toInt ≤ 9223372036854775807) : x.toInt = a.toInt - b.toInt := by
  rw [e, Int64.toInt_sub]
  exact Int.bmod_eq_of_le (by (first | (apply Int.le_antisymm <;> omega) | omega)) (by (first | (apply Int.le_antisymm <;> omega) | omega))
theorem i2l_t {a : Int32} {x : Int64} (e : x = a.toInt64) : x.toInt = a.toInt := by rw [e]; exact Int32.toInt_toInt64 a
theorem l2i_t {a : Int64} {x : Int32} (e : x = a.toInt32) (h1 : -2147483648 ≤ a.toInt) (h2 : a.toInt ≤ 2147483647) : x.toInt = a.toInt := by
  rw [e, Int64.toInt_toInt32]
  exact Int.bmod_eq_of_le (by (first | (apply Int.le_antisymm <;> omega) | omega)) (by (first | (apply Int.le_antisymm <;> omega) | omega))
theorem lgc {a b : Int64} {x : Int32} (e : x = lg_cmp a b) : (x.toInt < 0 ↔ a.toInt < b.toInt) ∧ (x.toInt = 0 ↔ a.toInt = b.toInt) ∧ (0 < x.toInt ↔ b.toInt < a.toInt) := by
  have h1 := lg_cmp_lt a b
  have h2 := lg_cmp_eq a b
  have h3 := lg_cmp_gt a b
  rw [← e] at h1 h2 h3
  rw [Int32.lt_iff_toInt_lt, Int64.lt_iff_toInt_lt] at h1 h3
  rw [← Int32.toInt_inj, ← Int64.toInt_inj] at h2
  have k0 : (0 : Int32).toInt = 0 := by decide
  rw [k0] at h1 h2 h3
  exact ⟨h1, h2, h3⟩
theorem i64_lo (x : Int64) : -9223372036854775808 ≤ x.toInt := by have := Int64.le_toInt x; (first | (apply Int.le_antisymm <;> omega) | omega)
theorem i64_hi (x : Int64) : x.toInt ≤ 9223372036854775807 := by have := Int64.toInt_lt x; (first | (apply Int.le_antisymm <;> omega) | omega)
theorem ls_eq {l : List Value} {k : Nat} {v : Value} (h : k < l.length) : (l.set k v)[k]? = some v := by simp [h]
theorem ls_ne {l : List Value} {k j : Nat} {v w : Value} (h : l[j]? = some w) (hne : k ≠ j) : (l.set k v)[j]? = some w := by rw [List.getElem?_set_ne hne, h]
theorem ls_len {l : List Value} {k N : Nat} {v : Value} (h : l.length = N) : (l.set k v).length = N := by rw [List.length_set, h]
theorem zn01 {x : Int32} (h : x = 0 ∨ x = 1) : narrow .boolean (.int x) = .int x := by rcases h with rfl | rfl <;> rfl
def tab_off (dflt lo hi : Int) (offs : Array Int) (x : Int) : Int := if x < lo ∨ hi < x then dflt else (offs[(x - lo).toNat]?).getD 0
section TAB
variable {p : Program} {l : Launch} {e : Env} {R : Room} {s : State} {m : MethodId} {args : Array Value} {below : List Frame} {meth : Method} {c : Code} {H : Heap} {locs : List Loc} {cells slots : Nat} {Q : State → Prop} {cc : ByteArray} {pc : Nat} {ls : Array Slot} {rest : List Value}
/-- a table of jumps, in range or not -/
theorem lv_tab (hexec : p.tables.exec = Jvm.exec) (hb : c.code = cc) {dflt lo hi : Int} {offs : Array Int} {len : Nat} {x : Int32} {off : Int} {tgt : Nat} (hdg : decode cc pc = .ok (.tableswitch dflt lo hi offs, len)) (hsz : (offs.size : Int) = hi - lo + 1)
    (ho : tab_off dflt lo hi offs x.toInt = off) (ht : (pc : Int) + off = (tgt : Int)) (k : W p l e R s m args below meth c H locs cells slots Q (F0 m tgt ls rest)) : W p l e R s m args below meth c H locs cells slots Q (F0 m pc ls (.int x :: rest)) := by
  unfold tab_off at ho
  split at ho
  · rename_i h
    exact lv_tableOut hexec hb hdg h (by rw [ho]; exact ht) k
  · rename_i h
    have h1 : ¬ x.toInt < lo := fun z => h (Or.inl z)
    have h2 : ¬ hi < x.toInt := fun z => h (Or.inr z)
    have h3 : (x.toInt - lo).toNat < offs.size := by (first | (apply Int.le_antisymm <;> omega) | omega)
    rw [Array.getElem?_eq_getElem h3] at ho
    exact lv_tableIn hexec hb hdg h1 h2 (by rw [Array.getElem?_eq_getElem h3]; exact congrArg some ho) ht k
end TAB
theorem lk_def : ∀ (r : List (Int × Int)) (d x : Int), (∀ q ∈ r, q.1 ≠ x) → Op.lookupswitch.offset r d x = d
  | [], d, x, _ => by first | rfl | simp [Op.lookupswitch.offset]
  | (a, o) :: r, d, x, h => by
    rw [Op.lookupswitch.offset_cons, if_neg (fun z => h (a, o) List.mem_cons_self z)]
    exact lk_def r d x (fun q hq => h q (List.mem_cons_of_mem _ hq))
/-- where roads meet: what is behind the meeting is shown once -/
theorem w_cut {p : Program} {l : Launch} {e : Env} {R : Room} {s : State} {m : MethodId} {args : Array Value} {below : List Frame} {meth : Method} {c : Code} {cells slots : Nat} {Q : State → Prop} {pc pc2 : Nat} {stk : List Value} {H : Heap} {locs : List Loc} {ls : Array Slot} {σ : Type} (Inv : σ → Heap → List Loc → Array Slot → Prop) (mk : σ → List Value)
    (k2 : ∀ (u : σ) (H : Heap) (locs : List Loc) (ls : Array Slot), Inv u H locs ls → W p l e R s m args below meth c H locs cells slots Q (F0 m pc2 ls (mk u)))
    (k1 : (∀ (u : σ) (H : Heap) (locs : List Loc) (ls : Array Slot), Inv u H locs ls → W p l e R s m args below meth c H locs cells slots Q (F0 m pc2 ls (mk u))) → W p l e R s m args below meth c H locs cells slots Q (F0 m pc ls stk)) :
    W p l e R s m args below meth c H locs cells slots Q (F0 m pc ls stk) := k1 k2
end q_03
section q_03a
/-! sub of a world, its new list named without an apostrophe -/
theorem va_P.sb {D : va_G} {cl : List vw_C} {ws wq : va_W} {H : Heap} (h : va_P D cl ws H) (is : List Nat) (hs : is.filterMap (fun i => ws[i]?) = wq) : va_P D cl wq H := h.sub is hs
theorem va_D.sb {A : Nat → Prop} {ws wq : va_W} (hD : va_D A ws) (is : List Nat) (hn : va_nd is = true) (hs : is.map (fun i => ws[i]?) = wq.map some) : va_D A wq := hD.sub is hn hs
theorem va_K.sb {D : va_G} {cl : List vw_C} {tys tyq : List (ClassId × FieldType)} {U : State} (h : va_K D cl tys U) (is : List Nat) (hs : is.filterMap (fun i => tys[i]?) = tyq) : va_K D cl tyq U := h.sub is hs
theorem va_P.he {D : va_G} {cl : List vw_C} {ws : va_W} {H H2 : Heap} (e : H = H2) (h : va_P D cl ws H) : va_P D cl ws H2 := e ▸ h
end q_03a
section q_03b
/-! bytes: what a row of bytes holds, as a list of numbers below 256; numbers in groups of seven bits -/
def un (x : Int32) : Nat := x.toBitVec.toNat
def bn (x : Int32) : Nat := x.toBitVec.toNat % 256
def bl (f : Nat → Int32) (k : Nat) : List Nat := (List.range k).map (fun j => bn (f j))
theorem bl_succ (f : Nat → Int32) (k : Nat) : bl f (k + 1) = bl f k ++ [bn (f k)] := by simp [bl, List.range_succ]
theorem bl_len (f : Nat → Int32) (k : Nat) : (bl f k).length = k := by simp [bl]
theorem bl_cong {f g : Nat → Int32} {k : Nat} (h : ∀ j, j < k → bn (f j) = bn (g j)) : bl f k = bl g k := by
  unfold bl
  exact List.map_congr_left (fun j hj => h j (List.mem_range.mp hj))
theorem bl_upd (f : Nat → Int32) (k : Nat) (v : Int32) : bl (upd f k v) k = bl f k := bl_cong (fun j hj => by rw [pk_un (Nat.ne_of_lt hj)])
theorem bn_and (x : Int32) : x &&& 255 = nI (bn x) := pk_and x (m := 255) 8 (by decide)
theorem bn_byte (v : Int32) : bn v.toInt8.toInt32 = bn v := by
  have h : (v.toInt8.toInt32).toBitVec.setWidth 8 = v.toBitVec.setWidth 8 := by
    rw [Int8.toBitVec_toInt32, Int32.toBitVec_toInt8]
    ext i hi
    simp [BitVec.getElem_setWidth, BitVec.getLsbD_signExtend, hi]
    have h32 : i < 32 := by (first | (apply Int.le_antisymm <;> omega) | omega)
    simp [BitVec.getElem_signExtend, h32]
    try exact (BitVec.getLsbD_eq_getElem h32).symm
  have h2 := congrArg BitVec.toNat h
  simpa [bn, BitVec.toNat_setWidth] using h2
theorem bl_put (f : Nat → Int32) (k : Nat) (v : Int32) : bl (upd f k v.toInt8.toInt32) (k + 1) = bl f k ++ [bn v] := by rw [bl_succ, bl_upd, pk_us, bn_byte]
theorem un_eq0 {x : Int32} : x = 0 ↔ un x = 0 := by
  constructor
  · intro h; rw [h]; decide
  · intro h
    apply Int32.toBitVec_inj.mp
    exact BitVec.eq_of_toNat_eq h
theorem un_ushr7 (x : Int32) : un (x.toUInt32 >>> ((7 : Int32).toUInt32 &&& Int32.toUInt32 31)).toInt32 = un x / 128 := pk_ushr x 7 7 (by decide)
theorem bn_low (x : Int32) : bn ((x &&& 127) ||| 128) = un x % 128 + 128 := by
  rw [pk_and x (m := 127) 7 (by decide)]
  have h : ∀ a : Fin 128, bn (nI a.val ||| 128) = a.val + 128 := by decide +kernel
  exact h ⟨un x % 128, Nat.mod_lt _ (by decide)⟩
/-- a number without sign, in at most k + 1 groups -/
def leb : Nat → Nat → List Nat
  | 0, v => [v % 256]
  | k + 1, v => if v / 128 = 0 then [v % 256] else (v % 128 + 128) :: leb k (v / 128)
theorem leb_len : ∀ (k v : Nat), 1 ≤ (leb k v).length ∧ (leb k v).length ≤ k + 1
  | 0, v => by simp [leb]
  | k + 1, v => by
    unfold leb
    split
    · simp
    · have := leb_len k (v / 128)
      simp only [List.length_cons]
      (first | (apply Int.le_antisymm <;> omega) | omega)
theorem leb_go {k v : Nat} (h : v / 128 ≠ 0) : leb (k + 1) v = (v % 128 + 128) :: leb k (v / 128) := by rw [leb, if_neg h]
theorem leb_end {k v : Nat} (h : v / 128 = 0) : leb k v = [v % 256] := by
  cases k with
  | zero => rfl
  | succ k => rw [leb, if_pos h]
theorem bl_part (f : Nat → Int32) {k a i : Nat} (h : a + i < k) : ((bl f k).drop a).take (i + 1) = ((bl f k).drop a).take i ++ [bn (f (a + i))] := by
  rw [List.take_succ]
  congr 1
  rw [List.getElem?_drop]
  simp [bl, h]
theorem bn_nI {b : Nat} (h : b < 256) : bn (nI b) = b := by
  have h1 : (nI b).toBitVec.toNat = b := pk_tn (by (first | (apply Int.le_antisymm <;> omega) | omega))
  unfold bn
  rw [h1]
  (first | (apply Int.le_antisymm <;> omega) | omega)
theorem bn_lt (x : Int32) : bn x < 256 := Nat.mod_lt _ (by decide)
theorem clampN {x : Int32} {k : Nat} (h : x.toInt = (k : Int)) : x.toNatClampNeg = k := by
  have := i32_clamp (x := x) (by (first | (apply Int.le_antisymm <;> omega) | omega))
  (first | (apply Int.le_antisymm <;> omega) | omega)
end q_03b
section q_03c
theorem wb_tb (n : Nat) : (lN n).toBitVec = BitVec.ofNat 64 n := rfl
theorem wb_inj {a b : Int64} (h : a.toBitVec = b.toBitVec) : a = b := Int64.toBitVec_inj.mp h
theorem wb_tn {n : Nat} (h : n < 2 ^ 64) : (lN n).toBitVec.toNat = n := by rw [wb_tb, BitVec.toNat_ofNat, Nat.mod_eq_of_lt h]
theorem wb_of (x : Int64) : ∃ n, n < 2 ^ 64 ∧ x = lN n := ⟨x.toBitVec.toNat, x.toBitVec.isLt, wb_inj (by rw [wb_tb]; simp)⟩
theorem wb_of32 (x : Int32) : ∃ n, n < 2 ^ 32 ∧ x = nI n := ⟨x.toBitVec.toNat, x.toBitVec.isLt, Int32.toBitVec_inj.mp (by show _ = BitVec.ofNat 32 _; simp)⟩
theorem wb_c : ∀ k, k < 64 → ((nI k).toInt64 &&& 63) = lN k := by decide +kernel
theorem wb_cu : ∀ k, k < 64 → ((nI k).toInt64.toUInt64 &&& Int64.toUInt64 63) = UInt64.ofNat k := by decide +kernel
theorem wb_sm : ∀ k, k < 64 → (BitVec.ofNat 64 k).smod 64 = BitVec.ofNat 64 k := by decide +kernel
theorem wb_pw {a b : Nat} (h : a ≤ b) : 2 ^ b = 2 ^ a * 2 ^ (b - a) := by rw [← Nat.pow_add]; congr 1; (first | (apply Int.le_antisymm <;> omega) | omega)
theorem wb_lt2 {a b : Nat} (h : a < b) : 2 ^ a < 2 ^ b := Nat.pow_lt_pow_right (by decide) h
theorem wb_mod (n : Nat) : lN n = lN (n % 2 ^ 64) := wb_inj (by rw [wb_tb, wb_tb]; apply BitVec.eq_of_toNat_eq; rw [BitVec.toNat_ofNat, BitVec.toNat_ofNat, Nat.mod_mod])
theorem wb_shr {n k : Nat} (hn : n < 2 ^ 64) (hk : k < 64) : ((lN n).toUInt64 >>> ((nI k).toInt64.toUInt64 &&& Int64.toUInt64 63)).toInt64 = lN (n / 2 ^ k) := by
  rw [wb_cu k hk]
  apply wb_inj
  apply BitVec.eq_of_toNat_eq
  show ((lN n).toUInt64 >>> UInt64.ofNat k).toNat = (BitVec.ofNat 64 _).toNat
  have h1 : (UInt64.ofNat k).toNat = k := by
    show (BitVec.ofNat 64 k).toNat = k
    rw [BitVec.toNat_ofNat, Nat.mod_eq_of_lt (by (first | (apply Int.le_antisymm <;> omega) | omega))]
  have h2 : (lN n).toUInt64.toNat = n := wb_tn hn
  rw [UInt64.toNat_shiftRight, h1, h2, Nat.mod_eq_of_lt hk, Nat.shiftRight_eq_div_pow, BitVec.toNat_ofNat, Nat.mod_eq_of_lt (Nat.lt_of_le_of_lt (Nat.div_le_self _ _) hn)]
theorem wb_shl (n : Nat) {k : Nat} (hk : k < 64) : lN n <<< ((nI k).toInt64 &&& 63) = lN (n * 2 ^ k) := by
  rw [wb_c k hk]
  apply wb_inj
  rw [Int64.toBitVec_shiftLeft, wb_tb, wb_tb, wb_tb, wb_sm k hk]
  apply BitVec.eq_of_toNat_eq
  rw [BitVec.shiftLeft_eq', BitVec.toNat_shiftLeft, BitVec.toNat_ofNat, BitVec.toNat_ofNat, BitVec.toNat_ofNat, Nat.mod_eq_of_lt (show k < 2 ^ 64 by (first | (apply Int.le_antisymm <;> omega) | omega)), Nat.shiftLeft_eq, Nat.mul_mod, Nat.mod_mod, ← Nat.mul_mod]
theorem wb_and {a b : Nat} (ha : a < 2 ^ 64) (hb : b < 2 ^ 64) : lN a &&& lN b = lN (a &&& b) := by
  apply wb_inj
  rw [Int64.toBitVec_and, wb_tb, wb_tb, wb_tb]
  apply BitVec.eq_of_toNat_eq
  rw [BitVec.toNat_and, BitVec.toNat_ofNat, BitVec.toNat_ofNat, BitVec.toNat_ofNat, Nat.mod_eq_of_lt ha, Nat.mod_eq_of_lt hb, Nat.mod_eq_of_lt (Nat.and_lt_two_pow _ hb)]
theorem wb_or {a b : Nat} (ha : a < 2 ^ 64) (hb : b < 2 ^ 64) : lN a ||| lN b = lN (a ||| b) := by
  apply wb_inj
  rw [Int64.toBitVec_or, wb_tb, wb_tb, wb_tb]
  apply BitVec.eq_of_toNat_eq
  rw [BitVec.toNat_or, BitVec.toNat_ofNat, BitVec.toNat_ofNat, BitVec.toNat_ofNat, Nat.mod_eq_of_lt ha, Nat.mod_eq_of_lt hb, Nat.mod_eq_of_lt (Nat.or_lt_two_pow ha hb)]
theorem wb_mask {n k : Nat} (hn : n < 2 ^ 64) (hk : k < 64) : lN n &&& lN (2 ^ k - 1) = lN (n % 2 ^ k) := by
  rw [wb_and hn (by have := wb_lt2 hk; (first | (apply Int.le_antisymm <;> omega) | omega)), Nat.and_two_pow_sub_one_eq_mod]
theorem wb_a1 {n : Nat} (hn : n < 2 ^ 64) : lN n &&& 1 = lN (n % 2) := wb_mask (k := 1) hn (by decide)
theorem i32_and127 (x : Int32) : 0 ≤ (x &&& 127).toInt ∧ (x &&& 127).toInt < 128 ∧ (x &&& 127).toInt = (un x % 128 : Nat) := by
  have e := pk_and x (m := 127) 7 (by decide)
  have h : un x % 128 < 128 := Nat.mod_lt _ (by decide)
  rw [e, nI_toInt (by have := Nat.mod_lt x.toBitVec.toNat (show 0 < 2 ^ 7 by decide); (first | (apply Int.le_antisymm <;> omega) | omega))]
  have h2 : x.toBitVec.toNat % 2 ^ 7 = un x % 128 := rfl
  (first | (apply Int.le_antisymm <;> omega) | omega)
theorem lN_of {x : Int64} (h : 0 ≤ x.toInt) : ∃ k : Nat, k < 2 ^ 63 ∧ x = lN k ∧ x.toInt = k := by
  obtain ⟨k, hk, e⟩ := pk_lOf (x := x) (fun z => by
    have := Int64.lt_iff_toInt_lt.mp z
    have k0 : (0 : Int64).toInt = 0 := by decide
    (first | (apply Int.le_antisymm <;> omega) | omega))
  exact ⟨k, hk, e, by rw [e]; exact pk_lT hk⟩
theorem nI_of' {x : Int32} (h : 0 ≤ x.toInt) : ∃ k : Nat, k < 2 ^ 31 ∧ x = nI k ∧ x.toInt = k := by
  obtain ⟨k, hk, e⟩ := nI_of (x := x) (fun z => by
    have := Int32.lt_iff_toInt_lt.mp z
    have k0 : (0 : Int32).toInt = 0 := by decide
    (first | (apply Int.le_antisymm <;> omega) | omega))
  exact ⟨k, hk, e, by rw [e]; exact nI_toInt hk⟩
/-- seven bits more -/
theorem lor_b {v p x y : Int64} {sh : Int32} (hx : x = p <<< (sh.toInt64 &&& 63)) (hy : y = v ||| x) (hv : 0 ≤ v.toInt ∧ v.toInt < 34359738368) (hp : 0 ≤ p.toInt ∧ p.toInt < 128) (hs : 0 ≤ sh.toInt ∧ sh.toInt ≤ 28) : 0 ≤ y.toInt ∧ y.toInt < 34359738368 := by
  obtain ⟨a, ha, rfl, ea⟩ := lN_of hv.1
  obtain ⟨b, hb, rfl, eb⟩ := lN_of hp.1
  obtain ⟨k, hk, rfl, ek⟩ := nI_of' hs.1
  have hk2 : k ≤ 28 := by (first | (apply Int.le_antisymm <;> omega) | omega)
  have hb2 : b * 2 ^ k < 2 ^ 35 := by
    have h1 : b * 2 ^ k ≤ 127 * 2 ^ k := Nat.mul_le_mul_right _ (by (first | (apply Int.le_antisymm <;> omega) | omega))
    have h2 : 127 * 2 ^ k ≤ 127 * 2 ^ 28 := Nat.mul_le_mul_left _ (Nat.pow_le_pow_right (by decide) hk2)
    (first | (apply Int.le_antisymm <;> omega) | omega)
  have ha2 : a < 2 ^ 35 := by (first | (apply Int.le_antisymm <;> omega) | omega)
  rw [wb_shl b (by (first | (apply Int.le_antisymm <;> omega) | omega))] at hx
  rw [hx, wb_or (by (first | (apply Int.le_antisymm <;> omega) | omega)) (by (first | (apply Int.le_antisymm <;> omega) | omega))] at hy
  have h3 : a ||| b * 2 ^ k < 2 ^ 35 := Nat.or_lt_two_pow ha2 hb2
  rw [hy, pk_lT (by (first | (apply Int.le_antisymm <;> omega) | omega))]
  (first | (apply Int.le_antisymm <;> omega) | omega)
end q_03c
