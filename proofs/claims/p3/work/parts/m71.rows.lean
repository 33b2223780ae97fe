/-! rows: arrays of a known class are made; cells beside a pool; a superclass's method; a text that is only read -/
theorem vn_nmB {s : State} {c1 c2 : ClassId} (h1 : va_RA s c1 .byte) (h2 : va_RA s c2 .byte) : c1 = c2 := Option.some.inj ((va_nm_byte h1).symm.trans (va_nm_byte h2))
theorem vn_nmI {s : State} {c1 c2 : ClassId} (h1 : va_RA s c1 .int) (h2 : va_RA s c2 .int) : c1 = c2 := Option.some.inj ((va_nm_int h1).symm.trans (va_nm_int h2))
theorem vn_nmO {s : State} {c1 c2 : ClassId} {C : String} (h1 : va_RA s c1 (.object C)) (h2 : va_RA s c2 (.object C)) : c1 = c2 := Option.some.inj ((va_nmO h1 rfl).symm.trans (va_nmO h2 rfl))
theorem vn_last {α : Type} {l : List α} {x : α} : (l ++ [x])[l.length]? = some x := by simp
section NB
variable {p : Program} {l : Launch} {e : Env} {R : Room} {s : State} {m : MethodId} {args : Array Value} {below : List Frame} {meth : Method} {c : Code} {H : Heap} {locs : List Loc} {cells slots : Nat} {Q : State → Prop} {D : va_G} {cl : List vw_C} {tys : List (ClassId × FieldType)} {ws : va_W} {A : Nat → Prop} {H0 : Heap} {cc : ByteArray} {pc : Nat} {ls : Array Slot} {rest : List Value}
theorem vn_newb (hexec : p.tables.exec = Jvm.exec) (hb : c.code = cc) (harr : (Cond.arrayClass (newarray.typeOf .byte)).before args s = true) (hK : va_K D cl tys s) (hP : va_P D cl ws H) (hD : va_D A ws) (hS : va_S A H0 H locs) (hA : ∀ q, H0.size ≤ q → A q) (t0 : Nat) {cb : ClassId} (ht : tys[t0]? = some (cb, .byte))
    {n : Int32} (N' : Nat) (hn : ¬ n < 0) (hN : n.toNatClampNeg = N') (hbytes : N' ≤ 536870912) (hcells : cells + 1 ≤ R.cells) (hslots : slots + N' ≤ R.slots) (hdg : decode cc pc = .ok (.newarray .byte, 2))
    (kk : ∀ (q : Nat) (H1 : Heap), va_P D cl (ws ++ [(q, .inl (cb, N', .inl (fun _ => 0)))]) H1 → va_D A (ws ++ [(q, .inl (cb, N', .inl (fun _ => 0)))]) → va_S A H0 H1 locs → W p l e R s m args below meth c H1 locs (cells + 1) (slots + N') Q (F0 m (pc + 2) ls (.ref q :: rest))) : W p l e R s m args below meth c H locs cells slots Q (F0 m pc ls (.int n :: rest)) := by
  refine va_newa (ty := .byte) (N' := N') (a0 := (N', .inl (fun _ => 0))) hexec hb harr rfl hK hP hD hS hA (fun _ => rfl) hn hN (by show N' * 1 ≤ _; omega) hcells hslots hdg (fun q cA H1 hK1 hP1 hD1 hS1 => ?_)
  have e1 : cA = cb := vn_nmB (hK1.2 tys.length (cA, .byte) vn_last).2 (hK.2 t0 _ ht).2
  subst e1
  exact kk q H1 hP1 hD1 hS1
theorem vn_newi (hexec : p.tables.exec = Jvm.exec) (hb : c.code = cc) (harr : (Cond.arrayClass (newarray.typeOf .int)).before args s = true) (hK : va_K D cl tys s) (hP : va_P D cl ws H) (hD : va_D A ws) (hS : va_S A H0 H locs) (hA : ∀ q, H0.size ≤ q → A q) (t0 : Nat) {cb : ClassId} (ht : tys[t0]? = some (cb, .int))
    {n : Int32} (N' : Nat) (hn : ¬ n < 0) (hN : n.toNatClampNeg = N') (hbytes : N' ≤ 100000) (hcells : cells + 1 ≤ R.cells) (hslots : slots + N' ≤ R.slots) (hdg : decode cc pc = .ok (.newarray .int, 2))
    (kk : ∀ (q : Nat) (H1 : Heap), va_P D cl (ws ++ [(q, .inl (cb, N', .inl (fun _ => 0)))]) H1 → va_D A (ws ++ [(q, .inl (cb, N', .inl (fun _ => 0)))]) → va_S A H0 H1 locs → W p l e R s m args below meth c H1 locs (cells + 1) (slots + N') Q (F0 m (pc + 2) ls (.ref q :: rest))) : W p l e R s m args below meth c H locs cells slots Q (F0 m pc ls (.int n :: rest)) := by
  refine va_newa (ty := .int) (N' := N') (a0 := (N', .inl (fun _ => 0))) hexec hb harr rfl hK hP hD hS hA (fun _ => rfl) hn hN (by show N' * 4 ≤ _; omega) hcells hslots hdg (fun q cA H1 hK1 hP1 hD1 hS1 => ?_)
  have e1 : cA = cb := vn_nmI (hK1.2 tys.length (cA, .int) vn_last).2 (hK.2 t0 _ ht).2
  subst e1
  exact kk q H1 hP1 hD1 hS1
theorem vn_newq (hexec : p.tables.exec = Jvm.exec) (hb : c.code = cc) {own C : String} {index : Nat} (hown : s.vm.findClass own = some m.cls) (hclink : (Cond.classLink own index C).before args s = true) (hover : va_AO C s) (hK : va_K D cl tys s) (hP : va_P D cl ws H) (hD : va_D A ws) (hS : va_S A H0 H locs) (hA : ∀ q, H0.size ≤ q → A q) (t0 : Nat) {cb : ClassId} (ht : tys[t0]? = some (cb, .object C))
    {n : Int32} (N' : Nat) (hn : ¬ n < 0) (hN : n.toNatClampNeg = N') (hbytes : N' ≤ 100000) (hcells : cells + 1 ≤ R.cells) (hslots : slots + N' ≤ R.slots) (hdg : decode cc pc = .ok (.anewarray index, 3))
    (kk : ∀ (q : Nat) (H1 : Heap), va_P D cl (ws ++ [(q, .inl (cb, N', .inr (.inr (.inr (.inr (fun _ => none))))))]) H1 → va_D A (ws ++ [(q, .inl (cb, N', .inr (.inr (.inr (.inr (fun _ => none))))))]) → va_S A H0 H1 locs → W p l e R s m args below meth c H1 locs (cells + 1) (slots + N') Q (F0 m (pc + 3) ls (.ref q :: rest))) : W p l e R s m args below meth c H locs cells slots Q (F0 m pc ls (.int n :: rest)) := by
  refine va_newq (N' := N') hexec hb hown hclink hover hK hP hD hS hA hn hN (by omega) hcells hslots hdg (fun q cA H1 hK1 hP1 hD1 hS1 => ?_)
  have e1 : cA = cb := vn_nmO (hK1.2 tys.length (cA, .object C) vn_last).2 (hK.2 t0 _ ht).2
  subst e1
  exact kk q H1 hP1 hD1 hS1
/-- a new cell stands before the pool -/
theorem vn_mvP {X : va_W} {q : Nat × va_E} {L : List Nat} {f : Nat → va_E} : ((X ++ va_pl L f) ++ [q]).Perm ((X ++ [q]) ++ va_pl L f) := by
  rw [List.append_assoc, List.append_assoc]
  exact List.Perm.append_left X List.perm_append_comm
theorem vn_mv {X : va_W} {q : Nat × va_E} {L : List Nat} {f : Nat → va_E} (hP : va_P D cl ((X ++ va_pl L f) ++ [q]) H) (hD : va_D A ((X ++ va_pl L f) ++ [q])) : va_P D cl ((X ++ [q]) ++ va_pl L f) H ∧ va_D A ((X ++ [q]) ++ va_pl L f) := ⟨vq_Pp vn_mvP hP, vq_Dp vn_mvP hD⟩
/-- the last cell goes into the pool -/
theorem vn_in {X : va_W} {a : Nat} {x : va_E} {L : List Nat} {f : Nat → va_E} (hP : va_P D cl ((X ++ [(a, x)]) ++ va_pl L f) H) (hD : va_D A ((X ++ [(a, x)]) ++ va_pl L f)) : a ∉ L ∧ va_P D cl (X ++ va_pl (L ++ [a]) (va_up f a x)) H ∧ va_D A (X ++ va_pl (L ++ [a]) (va_up f a x)) := by
  have hP2 := vq_Pp vn_mvP.symm hP
  have hD2 := vq_Dp vn_mvP.symm hD
  have h := va_pl_fresh2 hD2
  rw [List.append_assoc, va_pl_push h] at hP2 hD2
  exact ⟨h, hP2, hD2⟩
/-- a private method, on an object of a class below -/
theorem sel_priv {C : String} {y : MethodName} {n : Nat} (hy : y.cls ≠ "java/lang/invoke/MethodHandle" ∧ y.cls ≠ "java/lang/invoke/VarHandle") (hins : (Cond.instantiable C n).before args s = true) (hpriv : (Cond.privateMethod y).before args s = true) (hinst : (Cond.instanceMethod y).before args s = true) (hsame : (Cond.sameMethod y.cls y.cls y.name y.desc).before args s = true) :
    (Cond.selects C y y).before args s = true := by
  obtain ⟨c, k, hc, hk, -, hniab, -, -⟩ := Cond.instantiable_spec hins
  obtain ⟨mk, methM, hnamed, hmethM, -, -⟩ := Cond.instanceMethod_spec hinst
  have hfound : s.methodFound? y.cls y.name y.desc = some mk := State.methodFound?_of_named hnamed hy
  obtain ⟨cn, ck, r1, hcn, hck, hni, hf, hn1⟩ := Cond.sameMethod_found hsame
  have hcls : mk.cls = cn := Option.some.inj ((findClass_of_methodNamed hnamed).symm.trans hcn)
  have hsel : selectMethod {} s.vm c mk = .method mk := selectMethod_private hmethM (Cond.privateMethod_at hpriv mk methM hnamed hmethM)
  simp only [Cond.before, Cond.holds, Cond.value, hc, hfound, hnamed, hsel, hcls, hck]
  simp; exact hni
theorem isSub9 (vm : Vm) (c : ClassId) : vm.isSubclass c c = true := by
  show vm.isSubclassAux _ c c = true
  unfold Vm.isSubclassAux; simp
end NB
section UP
variable {p : Program} {l : Launch} {e : Env} {R : Room} {s : State} {m : MethodId} {args : Array Value} {below : List Frame} {meth : Method} {c : Code} {H : Heap} {locs : List Loc} {cells slots : Nat}
variable {y : MethodName} {bytes cc : ByteArray} {maxL nL mc ms n index : Nat} {ret : Option FieldType} {ws : List Cond} {rm : Room} {Pc : Array Value → State → Prop} {Qc : Array Value → State → Outcome → State → Prop} {free : Addr → Prop} {Ts : List Cond} {own C : String} {b : Addr} {As rest : List Value} {g : JFrame}
/-- 'invokespecial' of the superclass's method -/
theorem va_runUp {N : Nat} (S : CallFix p m c cc nL s args Ts own) (hM : Met l y ws rm Pc Qc mc ms free) (cw : CallB R s args own index y bytes maxL ret ws rm mc ms n ∧ (Cond.sameMethod y.cls y.cls y.name y.desc).before args s = true ∧ (Cond.instanceMethod y).before args s = true ∧ (Cond.superclass own y.cls).before args s = true ∧ y.name ≠ "<init>" ∧ (Cond.instantiable C N).before args s = true) (hp : PreV s H C b Pc As)
    (hg : g.method = m) (hn : As.length = n) (hsize : g.locals.size = nL) (hstack : g.stack = As.reverse ++ .ref b :: rest) (hW : 2 * g.monitorRoom + (rest.map fun v => v.category).sum ≤ 8) (hdg : decode cc g.pc = .ok (.invokespecial index, 3)) (hf : cells + mc ≤ R.cells ∧ slots + ms ≤ R.slots) :
    va_Run p l e R s m args below meth c H locs cells slots mc ms g rest (Qc (Value.ref b :: As).toArray) (free) := by
  have hK : Back l R p e below s args y 3 8 (PreOf R mc ms Pc) (PostOf Qc mc ms free) := callBack cw.1 hM hp.1
  obtain ⟨⟨-, -, -, -, -, -, hcode, -, hy, hlen, hl⟩, hsame, hinst, hsup, hni, hins⟩ := cw
  obtain ⟨hx, hb, hml, ho, -⟩ := S
  obtain ⟨-, ⟨cellB, hcB, hoB, hclB⟩, hPc⟩ := hp
  intro T hT X
  obtain ⟨mk, methM, hnamed, hmethM, hstM, habM⟩ := Cond.instanceMethod_spec hinst
  obtain ⟨methM', cM, hmethM', -, -, -, -, -, -, hsigM⟩ := Cond.code_spec hnamed hcode
  cases hmethM.symm.trans hmethM'
  obtain ⟨cn, dk, kp, hcn, hdk, hkp, hsuper, -, -, hnid⟩ := Cond.superclass_spec ho hsup
  cases hcn.symm.trans (findClass_of_methodNamed hnamed)
  obtain ⟨c2, k2, hc2, hk2, -⟩ := Cond.instantiable_spec hins
  cases hclB.symm.trans hc2
  subst hT
  subst hb
  obtain ⟨vm₁, X₁, hstep₁⟩ := X.invokespecialUp hx ho hl hsame hnamed hmethM hstM habM hni hdk hnid hcn hsuper (isSub9 _ _) (a := b) (cell := cellB) hcB
    (fun z h => by rw [h] at hoB; cases hoB) hk2 (g := g) hg (argsL := As) (rest := rest) (hn.trans (hlen _ hsigM)) hstack hdg
  obtain ⟨v, ⟨U', l2, c2', s2⟩, X', ⟨g', mk', t, L, e1, e2, hq, h1, hL, h2, h3⟩, hsteps⟩ := hK m meth c ⟨T.setVm vm₁, locs, cells, slots⟩ { g with stack := rest } (.invokespecial index) mk (Value.ref b :: As).toArray X₁ hg (hsize.trans hml.symm) hdg hW (X₁.named hnamed) ⟨hf.1, hf.2, hPc (T.setVm vm₁) rfl X₁.warmed⟩
  dsimp only [Pt.U, Pt.locs, Pt.cells, Pt.slots] at X' e1 e2 h1 h2 h3 hsteps
  subst h1; subst h2; subst h3
  exact ⟨v, (T.setVm vm₁).calling g' mk' (Value.ref b :: As).toArray, t, U', L, rfl, X', hL, e1, e2, hq, fun target h => hstep₁ _ (hsteps.trans h)⟩
end UP
/-- a byte array among the cells, only read -/
theorem ro_T {D : va_G} {cl : List vw_C} {tys : List (ClassId × FieldType)} {ws : va_W} {s : State} {H : Heap} {A1 : Nat → Prop} {a n k t0 : Nat} {cA : ClassId} {g : Nat → Int32} (hK : va_K D cl tys s) (hP : va_P D cl ws H) (ha : ws[k]? = some (a, .inl (cA, n, .inl g))) (ht : tys[t0]? = some (cA, .byte)) (hA : ¬ A1 a) : va_T .byte a n (fun j => .int (g j)) A1 s H :=
  ⟨_, hP k _ ha, (hK.2 t0 _ ht).1 n (fun j => .int (g j)), (fun q => by cases q), by show n ≤ (arrV _ _ _).slots.size; rw [arrV_size]; exact Nat.le_refl _, by show (arrV _ _ _).slots.size.toInt32 = _; rw [arrV_size], fun j hj => by show (arrV _ _ _).slots[_]? = _; rw [arrV_read _ _ hj], hA⟩
theorem va_T.cg {ty : FieldType} {t N : Nat} {f f2 : Nat → Value} {A : Nat → Prop} {U : State} {H : Heap} (h : va_T ty t N f A U H) (hf : ∀ j, j < N → f j = f2 j) : va_T ty t N f2 A U H := by
  obtain ⟨cell, h1, h2, h3, h4, h5, h6, h7⟩ := h
  exact ⟨cell, h1, h2, h3, h4, h5, fun j hj => by rw [← hf j hj]; exact h6 j hj, h7⟩
theorem ro_OF {D : va_G} {cl : List vw_C} {tys : List (ClassId × FieldType)} {ws : va_W} {s : State} {args : Array Value} {H : Heap} {A1 : Nat → Prop} {a k ci j : Nat} {fs : List Value} {C : String} {T : u_T} {N : Nat} {v : Value} {Ts : List Cond} (hts : ∀ w ∈ Ts, w.before args s = true) (hin : ∀ w ∈ u_ws C T N, w ∈ Ts) (hK : va_K D cl tys s) (hP : va_P D cl ws H) (hc : cl[ci]? = some (C, T, N)) (ha : ws[k]? = some (a, .inr (ci, fs))) (hj : j < N) (hv : vp_V fs j = v) (hA : ¬ A1 a) : va_OF (T j).1 (T j).2.1 (T j).2.2.1 v a A1 s H := by
  obtain ⟨r, h1, cell, g1, g2, g3, g4⟩ := hP k _ ha
  cases hc.symm.trans h1
  have hKn := hK.1 ci _ hc
  obtain ⟨cf, kf, fi, fd, hi, hs⟩ := hKn.1 j hj
  obtain ⟨hf, kC, hk, -⟩ := hKn.2
  obtain ⟨q1, -, -⟩ := u_facts hf hk (u_lays hts hin hj) hi
  exact ⟨cf, kf, fi, fd, cell, hi, q1, g1, by rw [g3]; exact fun q => (by cases q), by rw [hs, g4 j hj, hv], hA⟩
theorem ro_O {D : va_G} {cl : List vw_C} {tys : List (ClassId × FieldType)} {ws : va_W} {s : State} {H : Heap} {A1 : Nat → Prop} {a k ci : Nat} {fs : List Value} {q : vw_C} (hK : va_K D cl tys s) (hP : va_P D cl ws H) (hc : cl[ci]? = some q) (ha : ws[k]? = some (a, .inr (ci, fs))) (hA : ¬ A1 a) : va_O q.1 a A1 s H := by
  obtain ⟨cell, h1, h2, h3⟩ := va_recv hK hP hc ha
  exact ⟨cell, h1, h2, h3, hA⟩
/-- a text of the pool -/
theorem ro_S {D : va_G} {tys : List (ClassId × FieldType)} {X : va_W} {L : List Nat} {f : Nat → va_E} {s : State} {args : Array Value} {H : Heap} {A1 : Nat → Prop} {a t0 : Nat} {cpb : ClassId} {nb : List Int32} (hts : ∀ w ∈ lw_g, w.before args s = true) (hK : va_K D cls2 tys s) (hP : va_P D cls2 (X ++ va_pl L f) H) (ht : tys[t0]? = some (cpb, .byte)) (hs : strP L f cpb a nb) (hA : ∀ x ∈ L, ¬ A1 x) : ∃ v : Nat, sw_str a v nb A1 s H := by
  obtain ⟨h1, v, h, z, g, h2, h3, h4, h5, -⟩ := hs
  obtain ⟨k, hk⟩ := pl_ix (X := X) h1 h2
  obtain ⟨k2, hk2⟩ := pl_ix (X := X) h3 h4
  refine ⟨v, ro_O (q := (R_JS, F_JS, 4)) hK hP (ci := 16) rfl hk (hA a h1), ?_, ?_, ?_⟩
  · exact ro_OF (j := 1) hts i_JS hK hP (ci := 16) rfl hk (by decide) rfl (hA a h1)
  · exact ro_OF (j := 0) hts i_JS hK hP (ci := 16) rfl hk (by decide) rfl (hA a h1)
  · exact (ro_T hK hP hk2 ht (hA v h3)).cg (fun j hj => by rw [h5 j hj])
theorem no_A {D : va_G} {cl : List vw_C} {X : va_W} {L : List Nat} {f : Nat → va_E} {H : Heap} (hP : va_P D cl (X ++ va_pl L f) H) : ∀ x ∈ L, ¬ va_A [] H.size x := fun x hx h => by
  rcases h with ⟨k, e, h⟩ | h
  · simp at h
  · have := va_pl_lt hP hx
    omega
