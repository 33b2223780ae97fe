section q_m71
/-! rows: arrays of a known class are made; cells beside a pool; a superclass's method; a text that is only read -/
theorem vn_nmB {s : State} {c1 c2 : ClassId} (h1 : va_RA s c1 .byte) (h2 : va_RA s c2 .byte) : c1 = c2 := Option.some.inj ((va_nm_byte h1).symm.trans (va_nm_byte h2))
theorem vn_nmI {s : State} {c1 c2 : ClassId} (h1 : va_RA s c1 .int) (h2 : va_RA s c2 .int) : c1 = c2 := Option.some.inj ((va_nm_int h1).symm.trans (va_nm_int h2))
theorem vn_nmO {s : State} {c1 c2 : ClassId} {C : String} (h1 : va_RA s c1 (.object C)) (h2 : va_RA s c2 (.object C)) : c1 = c2 := Option.some.inj ((va_nmO h1 rfl).symm.trans (va_nmO h2 rfl))
theorem vn_last {α : Type} {l : List α} {x : α} : (l ++ [x])[l.length]? = some x := by simp
section NB
variable {p : Program} {l : Launch} {e : Env} {R : Room} {s : State} {m : MethodId} {args : Array Value} {below : List Frame} {meth : Method} {c : Code} {H : Heap} {locs : List Loc} {cells slots : Nat} {Q : State → Prop} {D : va_G} {cl : List vw_C} {tys : List (ClassId × FieldType)} {ws : va_W} {A : Nat → Prop} {H0 : Heap} {cc : ByteArray} {pc : Nat} {ls : Array Slot} {rest : List Value}
theorem vn_newb (hexec : p.tables.exec = Jvm.exec) (hb : c.code = cc) (harr : (Cond.arrayClass (newarray.typeOf .byte)).before args s = true) (hK : va_K D cl tys s) (hP : va_P D cl ws H) (hD : va_D A ws) (hS : va_S A H0 H locs) (hA : ∀ q, H0.size ≤ q → A q) (t0 : Nat) {cb : ClassId} (ht : tys[t0]? = some (cb, .byte))
    {n : Int32} (N' : Nat) (hn : ¬ n < 0) (hN : n.toNatClampNeg = N') (hbytes : N' ≤ 536870912) (hcells : cells + 1 ≤ R.cells) (hslots : slots + N' ≤ R.slots) (hdg : decode cc pc = .ok (.newarray .byte, 2))
    (kk : ∀ (q : Nat) (H1 : Heap), va_P D cl (ws ++ ([(q, .inl (cb, N', .inl (fun _ => 0)))] : va_W)) H1 → va_D A (ws ++ ([(q, .inl (cb, N', .inl (fun _ => 0)))] : va_W)) → va_S A H0 H1 locs → W p l e R s m args below meth c H1 locs (cells + 1) (slots + N') Q (F0 m (pc + 2) ls (.ref q :: rest))) : W p l e R s m args below meth c H locs cells slots Q (F0 m pc ls (.int n :: rest)) := by
  refine va_newa (ty := .byte) (N' := N') (a0 := (N', .inl (fun _ => 0))) hexec hb harr rfl hK hP hD hS hA (fun _ => rfl) hn hN (by show N' * 1 ≤ _; (first | (apply Int.le_antisymm <;> omega) | omega)) hcells hslots hdg (fun q cA H1 hK1 hP1 hD1 hS1 => ?_)
  have e1 : cA = cb := vn_nmB (hK1.2 tys.length (cA, .byte) vn_last).2 (hK.2 t0 _ ht).2
  subst e1
  exact kk q H1 hP1 hD1 hS1
theorem vn_newi (hexec : p.tables.exec = Jvm.exec) (hb : c.code = cc) (harr : (Cond.arrayClass (newarray.typeOf .int)).before args s = true) (hK : va_K D cl tys s) (hP : va_P D cl ws H) (hD : va_D A ws) (hS : va_S A H0 H locs) (hA : ∀ q, H0.size ≤ q → A q) (t0 : Nat) {cb : ClassId} (ht : tys[t0]? = some (cb, .int))
    {n : Int32} (N' : Nat) (hn : ¬ n < 0) (hN : n.toNatClampNeg = N') (hbytes : N' ≤ 100000) (hcells : cells + 1 ≤ R.cells) (hslots : slots + N' ≤ R.slots) (hdg : decode cc pc = .ok (.newarray .int, 2))
    (kk : ∀ (q : Nat) (H1 : Heap), va_P D cl (ws ++ ([(q, .inl (cb, N', .inl (fun _ => 0)))] : va_W)) H1 → va_D A (ws ++ ([(q, .inl (cb, N', .inl (fun _ => 0)))] : va_W)) → va_S A H0 H1 locs → W p l e R s m args below meth c H1 locs (cells + 1) (slots + N') Q (F0 m (pc + 2) ls (.ref q :: rest))) : W p l e R s m args below meth c H locs cells slots Q (F0 m pc ls (.int n :: rest)) := by
  refine va_newa (ty := .int) (N' := N') (a0 := (N', .inl (fun _ => 0))) hexec hb harr rfl hK hP hD hS hA (fun _ => rfl) hn hN (by show N' * 4 ≤ _; (first | (apply Int.le_antisymm <;> omega) | omega)) hcells hslots hdg (fun q cA H1 hK1 hP1 hD1 hS1 => ?_)
  have e1 : cA = cb := vn_nmI (hK1.2 tys.length (cA, .int) vn_last).2 (hK.2 t0 _ ht).2
  subst e1
  exact kk q H1 hP1 hD1 hS1
theorem vn_newq (hexec : p.tables.exec = Jvm.exec) (hb : c.code = cc) {own C : String} {index : Nat} (hown : s.vm.findClass own = some m.cls) (hclink : (Cond.classLink own index C).before args s = true) (hover : va_AO C s) (hK : va_K D cl tys s) (hP : va_P D cl ws H) (hD : va_D A ws) (hS : va_S A H0 H locs) (hA : ∀ q, H0.size ≤ q → A q) (t0 : Nat) {cb : ClassId} (ht : tys[t0]? = some (cb, .object C))
    {n : Int32} (N' : Nat) (hn : ¬ n < 0) (hN : n.toNatClampNeg = N') (hbytes : N' ≤ 100000) (hcells : cells + 1 ≤ R.cells) (hslots : slots + N' ≤ R.slots) (hdg : decode cc pc = .ok (.anewarray index, 3))
    (kk : ∀ (q : Nat) (H1 : Heap), va_P D cl (ws ++ ([(q, .inl (cb, N', .inr (.inr (.inr (.inr (fun _ => none))))))] : va_W)) H1 → va_D A (ws ++ ([(q, .inl (cb, N', .inr (.inr (.inr (.inr (fun _ => none))))))] : va_W)) → va_S A H0 H1 locs → W p l e R s m args below meth c H1 locs (cells + 1) (slots + N') Q (F0 m (pc + 3) ls (.ref q :: rest))) : W p l e R s m args below meth c H locs cells slots Q (F0 m pc ls (.int n :: rest)) := by
  refine va_newq (N' := N') hexec hb hown hclink hover hK hP hD hS hA hn hN (by (first | (apply Int.le_antisymm <;> omega) | omega)) hcells hslots hdg (fun q cA H1 hK1 hP1 hD1 hS1 => ?_)
  have e1 : cA = cb := vn_nmO (hK1.2 tys.length (cA, .object C) vn_last).2 (hK.2 t0 _ ht).2
  subst e1
  exact kk q H1 hP1 hD1 hS1
/-- a new cell stands before the pool -/
theorem vn_mvP {X : va_W} {q : Nat × va_E} {L : List Nat} {f : Nat → va_E} : ((X ++ va_pl L f) ++ [q]).Perm ((X ++ [q]) ++ va_pl L f) := by
  rw [List.append_assoc, List.append_assoc]
  exact List.Perm.append_left X List.perm_append_comm
theorem vn_mv {X : va_W} {q : Nat × va_E} {L : List Nat} {f : Nat → va_E} (hP : va_P D cl ((X ++ va_pl L f) ++ [q]) H) (hD : va_D A ((X ++ va_pl L f) ++ [q])) : va_P D cl ((X ++ [q]) ++ va_pl L f) H ∧ va_D A ((X ++ [q]) ++ va_pl L f) := ⟨vq_Pp vn_mvP hP, vq_Dp vn_mvP hD⟩
/-- the last cell goes into the pool -/
theorem vn_in {X : va_W} {a : Nat} {x : va_E} {L : List Nat} {f : Nat → va_E} (hP : va_P D cl ((X ++ [(a, x)]) ++ va_pl L f) H) (hD : va_D A ((X ++ [(a, x)]) ++ va_pl L f)) : a ∉ L ∧ va_P D cl (X ++ va_pl (L ++ [a]) (va_up f a x)) H ∧ va_D A (X ++ va_pl (L ++ [a]) (va_up f a x)) := by
  have hP2 := vq_Pp vn_mvP.symm hP
  have hD2 := vq_Dp vn_mvP.symm hD
  have h := va_pl_fresh2 hD2
  rw [List.append_assoc, va_pl_push h] at hP2 hD2
  exact ⟨h, hP2, hD2⟩
/-- a private method, on an object of a class below -/
theorem sel_priv {C : String} {y : MethodName} {n : Nat} (hy : y.cls ≠ "java/lang/invoke/MethodHandle" ∧ y.cls ≠ "java/lang/invoke/VarHandle") (hins : (Cond.instantiable C n).before args s = true) (hpriv : (Cond.privateMethod y).before args s = true) (hinst : (Cond.instanceMethod y).before args s = true) (hsame : (Cond.sameMethod y.cls y.cls y.name y.desc).before args s = true) :
    (Cond.selects C y y).before args s = true := by
  obtain ⟨c, k, hc, hk, -, hniab, -, -⟩ := Cond.instantiable_spec hins
  obtain ⟨mk, methM, hnamed, hmethM, -, -⟩ := Cond.instanceMethod_spec hinst
  have hfound : s.methodFound? y.cls y.name y.desc = some mk := State.methodFound?_of_named hnamed hy
  obtain ⟨cn, ck, r1, hcn, hck, hni, hf, hn1⟩ := Cond.sameMethod_found hsame
  have hcls : mk.cls = cn := Option.some.inj ((findClass_of_methodNamed hnamed).symm.trans hcn)
  have hsel : selectMethod {} s.vm c mk = .method mk := selectMethod_private hmethM (Cond.privateMethod_at hpriv mk methM hnamed hmethM)
  simp only [Cond.before, Cond.holds, Cond.value, hc, hfound, hnamed, hsel, hcls, hck]
  simp; exact hni
theorem isSub9 (vm : Vm) (c : ClassId) : vm.isSubclass c c = true := by
  show vm.isSubclassAux _ c c = true
  unfold Vm.isSubclassAux; simp
end NB
section UP
variable {p : Program} {l : Launch} {e : Env} {R : Room} {s : State} {m : MethodId} {args : Array Value} {below : List Frame} {meth : Method} {c : Code} {H : Heap} {locs : List Loc} {cells slots : Nat}
variable {y : MethodName} {bytes cc : ByteArray} {maxL nL mc ms n index : Nat} {ret : Option FieldType} {ws : List Cond} {rm : Room} {Pc : Array Value → State → Prop} {Qc : Array Value → State → Outcome → State → Prop} {free : Addr → Prop} {Ts : List Cond} {own C : String} {b : Addr} {As rest : List Value} {g : JFrame}
/-- 'invokespecial' of the superclass's method -/
theorem va_runUp {N : Nat} (S : CallFix p m c cc nL s args Ts own) (hM : Met l y ws rm Pc Qc mc ms free) (cw : CallB R s args own index y bytes maxL ret ws rm mc ms n ∧ (Cond.sameMethod y.cls y.cls y.name y.desc).before args s = true ∧ (Cond.instanceMethod y).before args s = true ∧ (Cond.superclass own y.cls).before args s = true ∧ y.name ≠ "<init>" ∧ (Cond.instantiable C N).before args s = true) (hp : PreV s H C b Pc As)
    (hg : g.method = m) (hn : As.length = n) (hsize : g.locals.size = nL) (hstack : g.stack = As.reverse ++ .ref b :: rest) (hW : 2 * g.monitorRoom + (rest.map fun v => v.category).sum ≤ 8) (hdg : decode cc g.pc = .ok (.invokespecial index, 3)) (hf : cells + mc ≤ R.cells ∧ slots + ms ≤ R.slots) :
    va_Run p l e R s m args below meth c H locs cells slots mc ms g rest (Qc (Value.ref b :: As).toArray) (free) := by
  have hK : Back l R p e below s args y 3 8 (PreOf R mc ms Pc) (PostOf Qc mc ms free) := callBack cw.1 hM hp.1
  obtain ⟨⟨-, -, -, -, -, -, hcode, -, hy, hlen, hl⟩, hsame, hinst, hsup, hni, hins⟩ := cw
  obtain ⟨hx, hb, hml, ho, -⟩ := S
  obtain ⟨-, ⟨cellB, hcB, hoB, hclB⟩, hPc⟩ := hp
  intro T hT X
  obtain ⟨mk, methM, hnamed, hmethM, hstM, habM⟩ := Cond.instanceMethod_spec hinst
  obtain ⟨methM', cM, hmethM', -, -, -, -, -, -, hsigM⟩ := Cond.code_spec hnamed hcode
  cases hmethM.symm.trans hmethM'
  obtain ⟨cn, dk, kp, hcn, hdk, hkp, hsuper, -, -, hnid⟩ := Cond.superclass_spec ho hsup
  cases hcn.symm.trans (findClass_of_methodNamed hnamed)
  obtain ⟨c2, k2, hc2, hk2, -⟩ := Cond.instantiable_spec hins
  cases hclB.symm.trans hc2
  subst hT
  subst hb
  obtain ⟨vm₁, X₁, hstep₁⟩ := X.invokespecialUp hx ho hl hsame hnamed hmethM hstM habM hni hdk hnid hcn hsuper (isSub9 _ _) (a := b) (cell := cellB) hcB
    (fun z h => by rw [h] at hoB; cases hoB) hk2 (g := g) hg (argsL := As) (rest := rest) (hn.trans (hlen _ hsigM)) hstack hdg
  obtain ⟨v, ⟨U', l2, c2', s2⟩, X', ⟨g', mk', t, L, e1, e2, hq, h1, hL, h2, h3⟩, hsteps⟩ := hK m meth c ⟨T.setVm vm₁, locs, cells, slots⟩ { g with stack := rest } (.invokespecial index) mk (Value.ref b :: As).toArray X₁ hg (hsize.trans hml.symm) hdg hW (X₁.named hnamed) ⟨hf.1, hf.2, hPc (T.setVm vm₁) rfl X₁.warmed⟩
  dsimp only [Pt.U, Pt.locs, Pt.cells, Pt.slots] at X' e1 e2 h1 h2 h3 hsteps
  subst h1; subst h2; subst h3
  exact ⟨v, (T.setVm vm₁).calling g' mk' (Value.ref b :: As).toArray, t, U', L, rfl, X', hL, e1, e2, hq, fun target h => hstep₁ _ (hsteps.trans h)⟩
end UP
/-- a byte array among the cells, only read -/
theorem ro_T {D : va_G} {cl : List vw_C} {tys : List (ClassId × FieldType)} {ws : va_W} {s : State} {H : Heap} {A1 : Nat → Prop} {a n k t0 : Nat} {cA : ClassId} {g : Nat → Int32} (hK : va_K D cl tys s) (hP : va_P D cl ws H) (ha : ws[k]? = some (a, .inl (cA, n, .inl g))) (ht : tys[t0]? = some (cA, .byte)) (hA : ¬ A1 a) : va_T .byte a n (fun j => .int (g j)) A1 s H :=
  ⟨_, hP k _ ha, (hK.2 t0 _ ht).1 n (fun j => .int (g j)), (fun q => by cases q), by show n ≤ (arrV _ _ _).slots.size; rw [arrV_size]; exact Nat.le_refl _, by show (arrV _ _ _).slots.size.toInt32 = _; rw [arrV_size], fun j hj => by show (arrV _ _ _).slots[_]? = _; rw [arrV_read _ _ hj], hA⟩
theorem va_T.cg {ty : FieldType} {t N : Nat} {f f2 : Nat → Value} {A : Nat → Prop} {U : State} {H : Heap} (h : va_T ty t N f A U H) (hf : ∀ j, j < N → f j = f2 j) : va_T ty t N f2 A U H := by
  obtain ⟨cell, h1, h2, h3, h4, h5, h6, h7⟩ := h
  exact ⟨cell, h1, h2, h3, h4, h5, fun j hj => by rw [← hf j hj]; exact h6 j hj, h7⟩
theorem ro_OF {D : va_G} {cl : List vw_C} {tys : List (ClassId × FieldType)} {ws : va_W} {s : State} {args : Array Value} {H : Heap} {A1 : Nat → Prop} {a k ci j : Nat} {fs : List Value} {C : String} {T : u_T} {N : Nat} {v : Value} {Ts : List Cond} (hts : ∀ w ∈ Ts, w.before args s = true) (hin : ∀ w ∈ u_ws C T N, w ∈ Ts) (hK : va_K D cl tys s) (hP : va_P D cl ws H) (hc : cl[ci]? = some (C, T, N)) (ha : ws[k]? = some (a, .inr (ci, fs))) (hj : j < N) (hv : vp_V fs j = v) (hA : ¬ A1 a) : va_OF (T j).1 (T j).2.1 (T j).2.2.1 v a A1 s H := by
  obtain ⟨r, h1, cell, g1, g2, g3, g4⟩ := hP k _ ha
  cases hc.symm.trans h1
  have hKn := hK.1 ci _ hc
  obtain ⟨cf, kf, fi, fd, hi, hs⟩ := hKn.1 j hj
  obtain ⟨hf, kC, hk, -⟩ := hKn.2
  obtain ⟨q1, -, -⟩ := u_facts hf hk (u_lays hts hin hj) hi
  exact ⟨cf, kf, fi, fd, cell, hi, q1, g1, by rw [g3]; exact fun q => (by cases q), by rw [hs, g4 j hj, hv], hA⟩
theorem ro_O {D : va_G} {cl : List vw_C} {tys : List (ClassId × FieldType)} {ws : va_W} {s : State} {H : Heap} {A1 : Nat → Prop} {a k ci : Nat} {fs : List Value} {q : vw_C} (hK : va_K D cl tys s) (hP : va_P D cl ws H) (hc : cl[ci]? = some q) (ha : ws[k]? = some (a, .inr (ci, fs))) (hA : ¬ A1 a) : va_O q.1 a A1 s H := by
  obtain ⟨cell, h1, h2, h3⟩ := va_recv hK hP hc ha
  exact ⟨cell, h1, h2, h3, hA⟩
/-- a text of the pool -/
theorem ro_S {D : va_G} {tys : List (ClassId × FieldType)} {X : va_W} {L : List Nat} {f : Nat → va_E} {s : State} {args : Array Value} {H : Heap} {A1 : Nat → Prop} {a t0 : Nat} {cpb : ClassId} {nb : List Int32} (hts : ∀ w ∈ lw_g, w.before args s = true) (hK : va_K D cls2 tys s) (hP : va_P D cls2 (X ++ va_pl L f) H) (ht : tys[t0]? = some (cpb, .byte)) (hs : strP L f cpb a nb) (hA : ∀ x ∈ L, ¬ A1 x) : ∃ v : Nat, sw_str a v nb A1 s H := by
  obtain ⟨h1, v, h, z, g, h2, h3, h4, h5, -⟩ := hs
  obtain ⟨k, hk⟩ := pl_ix (X := X) h1 h2
  obtain ⟨k2, hk2⟩ := pl_ix (X := X) h3 h4
  refine ⟨v, ro_O (q := (R_JS, F_JS, 4)) hK hP (ci := 16) rfl hk (hA a h1), ?_, ?_, ?_⟩
  · exact ro_OF (j := 1) hts i_JS hK hP (ci := 16) rfl hk (by decide) rfl (hA a h1)
  · exact ro_OF (j := 0) hts i_JS hK hP (ci := 16) rfl hk (by decide) rfl (hA a h1)
  · exact (ro_T hK hP hk2 ht (hA v h3)).cg (fun j hj => by rw [h5 j hj])
theorem no_A {D : va_G} {cl : List vw_C} {X : va_W} {L : List Nat} {f : Nat → va_E} {H : Heap} (hP : va_P D cl (X ++ va_pl L f) H) : ∀ x ∈ L, ¬ va_A [] H.size x := fun x hx h => by
  rcases h with ⟨k, e, h⟩ | h
  · simp at h
  · have := va_pl_lt hP hx
    (first | (apply Int.le_antisymm <;> omega) | omega)
end q_m71
section q_m72
/-! the static world with the texts of the reference -/
def litB : List (List Int32) := ([32, 124, 124, 32] :: [32, 38, 38, 32] :: [32, 61, 61, 32, 33, 61, 32, 60, 32, 62, 32, 60, 61, 32, 62, 61, 32] :: [32, 38, 32, 124, 32, 94, 32] :: [32, 60, 60, 32, 62, 62, 32, 62, 62, 62, 32] :: [32, 43, 32, 45, 32] :: [32, 42, 32, 47, 32, 37, 32] :: (32 :: 102 :: 110 :: 32 :: 103 :: 108 :: 111 :: 98 :: 97 :: 108 :: 32 :: 118 :: 97 :: 114 :: 32 :: 105 :: 102 :: 32 :: 101 :: 108 :: 115 :: 101 :: 32 :: 119 :: 104 :: 105 :: 108 :: 101 :: 32 :: 98 :: 114 :: 101 :: 97 :: 107 :: 32 :: 99 :: 111 :: 110 :: 116 :: 105 :: 110 :: 117 :: 101 :: 32 :: 114 :: 101 :: 116 :: 117 :: 114 :: 110 :: 32 :: 105 :: 51 :: 50 :: 32 :: 105 :: 54 :: 52 :: 32 :: 109 :: 101 :: 109 :: 111 :: 114 :: 121 :: 32 :: 108 :: 111 :: 97 :: 100 :: 56 :: 32 :: 108 :: 111 :: 97 :: 100 :: 51 :: 50 :: 32 :: 108 :: 111 :: 97 :: 100 :: 54 :: 52 :: 32 :: 115 :: 116 :: 111 :: 114 :: 101 :: 56 :: [ 32, 115, 116, 111, 114, 101, 51, 50, 32, 115, 116, 111, 114, 101, 54, 52, 32, 115, 105, 122, 101, 32, 103, 114, 111, 119, 32, 116, 114, 97, 112, 32]) :: [40, 41, 123, 125, 58, 61, 59, 44, 60, 62, 38, 124, 94, 43, 45, 42, 47, 37, 33, 126] :: [103, 108, 111, 98, 97, 108] :: [58] :: [105, 51, 50] :: [105, 54, 52] :: [61] :: [45] :: [59] :: [102, 110] :: [40] :: [41] :: [44] :: [123] :: [ [125], [105, 102], [33], [126], (32 :: 108 :: 111 :: 97 :: 100 :: 56 :: 32 :: 108 :: 111 :: 97 :: 100 :: 51 :: 50 :: 32 :: 108 :: 111 :: 97 :: 100 :: 54 :: 52 :: 32 :: 115 :: 116 :: 111 :: 114 :: 101 :: 56 :: [ 32, 115, 116, 111, 114, 101, 51, 50, 32, 115, 116, 111, 114, 101, 54, 52, 32, 115, 105, 122, 101, 32, 103, 114, 111, 119, 32, 116, 114, 97, 112, 32]), [101, 108, 115, 101], [118, 97, 114], [119, 104, 105, 108, 101], [98, 114, 101, 97, 107], [99, 111, 110, 116, 105, 110, 117, 101], [114, 101, 116, 117, 114, 110], [115, 116, 111, 114, 101], [108, 111, 97, 100], [103, 114, 111, 119], [115, 116, 111, 114, 101, 54, 52], [116, 114, 97, 112], [108, 111, 97, 100, 54, 52], [124, 124], [38, 38], [61, 61], [33, 61], [60], [62], [60, 61], [62, 61], [109, 101, 109, 111, 114, 121], [108, 111, 97, 100, 56], [108, 111, 97, 100, 51, 50], [115, 116, 111, 114, 101, 56], [115, 116, 111, 114, 101, 51, 50], [115, 105, 122, 101], (32 :: 61 :: 61 :: 32 :: 33 :: 61 :: 32 :: 60 :: 32 :: 62 :: 32 :: [ 60, 61, 32, 62, 61, 32, 43, 32, 45, 32, 42, 32, 47, 32, 37, 32, 38, 32, 124, 32, 94, 32, 60, 60, 32, 62, 62, 32, 62, 62, 62, 32])])
def litR : List (Nat × String × Nat) := ((815, " || ", 0) :: (817, " && ", 1) :: (819, " == != < > <= >= ", 2) :: (821, " & | ^ ", 3) :: (823, " << >> >>> ", 4) :: (825, " + - ", 5) :: (827, " * / % ", 6) :: (61, " fn global var if else while break continue return i32 i64 memory load8 load32 load64 store8 store32 store64 size grow trap ", 7) :: (96, "(){}:=;,<>&|^+-*/%!~", 8) :: (146, "global", 9) :: (173, ":", 10) :: (133, "i32", 11) :: (135, "i64", 12) :: (181, "=", 13) :: (183, "-", 14) :: (189, ";", 15) :: (150, "fn", 16) :: (204, "(", 17) :: (206, ")", 18) :: (220, ",", 19) :: (233, "{", 20) :: [ (242, "}", 21), (251, "if", 22), (291, "!", 23), (293, "~", 24), (298, " load8 load32 load64 store8 store32 store64 size grow trap ", 25), (276, "else", 26), (256, "var", 27), (264, "while", 28), (266, "break", 29), (268, "continue", 30), (270, "return", 31), (373, "store", 32), (378, "load", 33), (380, "grow", 34), (382, "store64", 35), (384, "trap", 36), (386, "load64", 37), (354, "||", 38), (356, "&&", 39), (361, "==", 40), (363, "!=", 41), (365, "<", 42), (367, ">", 43), (369, "<=", 44), (371, ">=", 45), (435, "memory", 46), (458, "load8", 47), (460, "load32", 48), (462, "store8", 49), (464, "store32", 50), (469, "size", 51), (475, " == != < > <= >= + - * / % & | ^ << >> >>> ", 52)])
def sm_sel : List MethodName := [⟨"java/lang/AbstractStringBuilder", "ensureCapacityInternal", "(I)V"⟩, ⟨"java/lang/AbstractStringBuilder", "newCapacity", "(I)I"⟩, ⟨"java/lang/AbstractStringBuilder", "putStringAt", "(ILjava/lang/String;)V"⟩, ⟨"java/lang/AbstractStringBuilder", "inflateIfNeededFor", "(Ljava/lang/String;)V"⟩]
def sm (sa : Nat → Nat) (A : Nat → Prop) (U : State) (H : Heap) : Prop :=
  sw sa A U H ∧ (∀ k : Nat, k < 53 → sw_str (sa (400 + k)) (sa (500 + k)) (litB.getD k []) A U H) ∧ (∀ q ∈ litR, vk_R "WaferForgeModel" q.1 q.2.1 (sa (400 + q.2.2)) U) ∧ va_Nw (.castable "[B" "java/lang/Cloneable") U ∧ va_AO "WaferForgeModel$N" U ∧ va_AO "java/lang/String" U ∧ ∀ y ∈ sm_sel, (Cond.selects "java/lang/StringBuilder" y y).before #[] U = true
section SM
variable {sa : Nat → Nat} {A : Nat → Prop} {u U : State} {H : Heap}
theorem sm.ls (h : sm sa A U H) (k : Nat) (hk : k < 53) : sw_str (sa (400 + k)) (sa (500 + k)) (litB.getD k []) A U H := h.2.1 k hk
theorem sm.lr (h : sm sa A U H) (j : Nat) {i k : Nat} {t : String} (hj : litR[j]? = some (i, t, k)) : vk_R "WaferForgeModel" i t (sa (400 + k)) U := h.2.2.1 _ (List.mem_of_getElem? hj)
theorem sm.cl (h : sm sa A U H) : va_Nw (.castable "[B" "java/lang/Cloneable") U := h.2.2.2.1
theorem sm.aoN (h : sm sa A U H) : va_AO "WaferForgeModel$N" U := h.2.2.2.2.1
theorem sm.aoS (h : sm sa A U H) : va_AO "java/lang/String" U := h.2.2.2.2.2.1
theorem sm.sel (h : sm sa A U H) (j : Nat) {args : Array Value} {y : MethodName} (hj : sm_sel[j]? = some y) : (Cond.selects "java/lang/StringBuilder" y y).before args U = true := word_at (s := U) (U := U) (State.WarmedH.refl U) (Or.inl rfl) (h.2.2.2.2.2.2 _ (List.mem_of_getElem? hj))
theorem sm.nest (h : sm sa A U H) : sw_nest U := h.1.2.2.2.2.2.2.2.2.1
theorem sm.warm (hW : u.WarmedH U.vm) (h : sm sa A u H) : sm sa A U H := ⟨h.1.warm hW, fun k hk => (h.2.1 k hk).moved hW.alike, fun q hq => vk_R.warm hW (h.2.2.1 q hq), va_Nw.warmC hW h.2.2.2.1, va_AO.moved hW.alike h.2.2.2.2.1, va_AO.moved hW.alike h.2.2.2.2.2.1, fun y hy => word_at hW (Or.inl rfl) (h.2.2.2.2.2.2 y hy)⟩
theorem sm.same (hv : u.vm = U.vm) (h : sm sa A u H) : sm sa A U H := ⟨h.1.same hv, fun k hk => (h.2.1 k hk).moved (by rw [hv]; exact Vm.Alike.refl _), fun q hq => vk_R.same hv.symm (h.2.2.1 q hq), va_Nw.same rfl hv h.2.2.2.1, va_AO.moved (by rw [hv]; exact Vm.Alike.refl _) h.2.2.2.2.1, va_AO.moved (by rw [hv]; exact Vm.Alike.refl _) h.2.2.2.2.2.1, fun y hy => va_tabs rfl hv (h.2.2.2.2.2.2 y hy)⟩
theorem sm.kept {H1 : Heap} (h : sm sa A U H) (hq : ∀ a : Nat, a < H.size → ¬ A a → H1[a]? = H[a]?) : sm sa A U H1 := ⟨h.1.kept hq, fun k hk => (h.2.1 k hk).kept hq, h.2.2⟩
theorem sm.narrow {B : Nat → Prop} (h : sm sa A U H) (hAB : ∀ q, B q → A q) : sm sa B U H := ⟨h.1.narrow hAB, fun k hk => (h.2.1 k hk).narrow hAB, h.2.2⟩
theorem sm.call {A1 : Nat → Prop} {s : State} {locs : List Loc} (h : sm sa A s s.heap) (hS : va_S A s.heap H locs) (hA : ∀ q, A1 q → A q) (hW : s.WarmedH U.vm) (hU : U.heap = H) : sm sa A1 U U.heap := by
  rw [hU]
  exact ((h.kept hS.2.1).narrow hA).warm hW
theorem sm_f {k : Nat} {a b n d h : String} {i : Nat} {s : State} {args : Array Value} (hs : sm sa A s H) (hq : sw_nestF[k]? = some (a, i, b, n, d, h)) : (Cond.fieldLinkNest a i b n d h).before args s = true := sw_nf hs.1 hq
theorem sm_nm {k : Nat} {a h : String} {y : MethodName} {i : Nat} {s : State} (hs : sm sa A s H) (hq : sw_nestM[k]? = some (a, i, y, h)) : va_Nw (.methodLinkNest a i y h) s := sw_nm hs.1 hq
end SM
theorem vp_nil {D : va_G} {cl : List vw_C} {H : Heap} : va_P D cl [] H := fun k q h => by simp at h
theorem vd_part0 {A : Nat → Prop} : va_D A [] := ⟨fun i j p q h => by simp at h, fun k q h => by simp at h⟩
theorem va_D.part0 {A : Nat → Prop} {ws : va_W} (_h : va_D A ws) : va_D A [] := vd_part0
theorem k2_of {D : va_G} {tys : List (ClassId × FieldType)} {s : State} (h : va_K D cls2 tys s) : va_K D cls tys s := ⟨fun c q hq => h.1 c q (by
  have e : cls2 = cls ++ [(R_MR, F_MR, 8), (R_JS, F_JS, 4), (R_JB, F_JB, 4)] := rfl
  rw [e, List.getElem?_append_left (List.getElem?_eq_some_iff.mp hq).1]
  exact hq), h.2⟩
theorem nneg9 {x : Int32} (h : 0 ≤ x.toInt) : ¬ x < 0 := by
  rw [Int32.lt_iff_toInt_lt]
  have : (0 : Int32).toInt = 0 := by decide
  (first | (apply Int.le_antisymm <;> omega) | omega)
theorem max32 {a b x : Int32} (e : x = if a < b then b else a) : x.toInt = max a.toInt b.toInt := by
  rw [e]
  split
  · rename_i h
    rw [Int32.lt_iff_toInt_lt] at h
    (first | (apply Int.le_antisymm <;> omega) | omega)
  · rename_i h
    rw [Int32.lt_iff_toInt_lt] at h
    (first | (apply Int.le_antisymm <;> omega) | omega)
theorem min32 {a b x : Int32} (e : x = if b < a then b else a) : x.toInt = min a.toInt b.toInt := by
  rw [e]
  split
  · rename_i h
    rw [Int32.lt_iff_toInt_lt] at h
    (first | (apply Int.le_antisymm <;> omega) | omega)
  · rename_i h
    rw [Int32.lt_iff_toInt_lt] at h
    (first | (apply Int.le_antisymm <;> omega) | omega)
theorem zero_el : ∀ j : Nat, -128 ≤ (((fun _ => 0) : Nat → Int32) j).toInt ∧ (((fun _ => 0) : Nat → Int32) j).toInt ≤ 127 := fun _ => by show -128 ≤ (0 : Int32).toInt ∧ (0 : Int32).toInt ≤ 127; decide
theorem i8_el (x : Int32) : -128 ≤ x.toInt8.toInt32.toInt ∧ x.toInt8.toInt32.toInt ≤ 127 := by
  rw [Int8.toInt_toInt32]
  exact ⟨Int8.le_toInt _, by have := Int8.toInt_lt x.toInt8; (first | (apply Int.le_antisymm <;> omega) | omega)⟩
theorem fits_b {x : Int32} (h : -128 ≤ x.toInt ∧ x.toInt ≤ 127) : fits .byte (.int x) = true := by
  show (decide ((-128 : Int32) ≤ x) && decide (x ≤ (127 : Int32))) = true
  have a1 : (-128 : Int32).toInt = -128 := by decide
  have a2 : (127 : Int32).toInt = 127 := by decide
  simp only [Bool.and_eq_true, decide_eq_true_eq, Int32.le_iff_toInt_le]
  (first | (apply Int.le_antisymm <;> omega) | omega)
theorem cpy_el {f g : Nat → Int32} {a b n : Nat} (hf : ∀ j : Nat, -128 ≤ (f j).toInt ∧ (f j).toInt ≤ 127) (hg : ∀ j : Nat, -128 ≤ (g j).toInt ∧ (g j).toInt ≤ 127) : ∀ j : Nat, -128 ≤ (va_cpy f g a b n j).toInt ∧ (va_cpy f g a b n j).toInt ≤ 127 := fun j => by
  unfold va_cpy
  split
  · exact hf _
  · exact hg j
theorem fit_cell {cA : ClassId} {n : Nat} {f : Nat → Int32} (h : ∀ j : Nat, -128 ≤ (f j).toInt ∧ (f j).toInt ≤ 127) : ∀ (i : Nat) (v : Value), (vp_cell cA (n, .inl f)).slots[i]? = some v → fits .byte v = true := fun i v hv => by
  have hv : (arrV cA n (fun j => .int (f j))).slots[i]? = some v := hv
  have hi : i < n := by
    have := (Array.getElem?_eq_some_iff.mp hv).1
    rw [arrV_size] at this
    exact this
  rw [arrV_read _ _ hi] at hv
  rw [← Option.some.inj hv]
  exact fits_b (h i)
section LW
variable {p : Program} {l : Launch} {e : Env} {R : Room} {s : State} {m : MethodId} {args : Array Value} {below : List Frame} {meth : Method} {c : Code} {H : Heap} {locs : List Loc} {cells slots : Nat} {Q : State → Prop} {cc : ByteArray} {pc : Nat} {ls : Array Slot} {rest : List Value} {T : State}
theorem ldcwStr (X : Stand p l e R s m args below meth c T locs cells slots) (hexec : p.tables.exec = Jvm.exec) {own text : String} {index : Nat} {a : Addr} (hown : s.vm.findClass own = some m.cls)
    (hconst : (Cond.stringRef own index text).before args s = true) (hev : (Term.string own index).eval args s none [] s = some (.ref a)) {g : JFrame} (hg : g.method = m) (hdg : decode c.code g.pc = .ok (.ldc_w index, 3)) :
    ∀ target, Steps p.tables e below (T.setTop { g with pc := g.pc + 3, stack := .ref a :: g.stack }) target → Steps p.tables e below (T.setTop g) target := by
  obtain ⟨k, cf, i, a', hk, hcf, hcp, -, hr, hev'⟩ := Cond.stringRef_spec hown hconst
  cases hev.symm.trans hev'
  obtain ⟨k', hk', he⟩ := X.warmed.alike.2.2 _ _ hk
  have hr' : k'.resolved[index]? = some (some (.string a)) := by
    rcases X.warmed.entry hk hk' index with h | ⟨h, -⟩
    · rw [h]; exact hr
    · rw [hr] at h; cases h
  intro target hrest
  subst hg
  jvm_step X.here [hexec, hdg, ldc_w.wp_string (e := e) (s := T) (f := g) X.here.top hk' (by rw [he]; exact hcf) hcp hr']
  exact hrest
theorem va_ldcSw (hexec : p.tables.exec = Jvm.exec) (hb : c.code = cc) {own tx : String} {index q : Nat} (hown : s.vm.findClass own = some m.cls) (hZ : vk_R own index tx q s) (hdg : decode cc pc = .ok (.ldc_w index, 3))
    (k : W p l e R s m args below meth c H locs cells slots Q (F0 m (pc + 3) ls (.ref q :: rest))) : W p l e R s m args below meth c H locs cells slots Q (F0 m pc ls rest) := by
  intro T hT X
  obtain ⟨t, a1, b1⟩ := k T hT X
  exact ⟨t, ldcwStr X hexec hown (text := tx) (a := q) hZ.1 hZ.2 (g := F0 m pc ls rest) rfl (by rw [hb]; exact hdg) t a1, b1⟩
theorem lv_ifnull_ref (hexec : p.tables.exec = Jvm.exec) (hb : c.code = cc) {x : Nat} {off : Int} (hdg : decode cc pc = .ok (.ifnull off, 3)) (k : W p l e R s m args below meth c H locs cells slots Q (F0 m (pc + 3) ls rest)) : W p l e R s m args below meth c H locs cells slots Q (F0 m pc ls (.ref x :: rest)) := lv_ifnull hexec hb hdg k
end LW
theorem cpy0 {f g : Nat → Int32} {n j : Nat} {z : Int32} (hj : j < n) (hz : z.toNatClampNeg = 0 := by rfl) : va_cpy f g z.toNatClampNeg z.toNatClampNeg n j = f j := by
  unfold va_cpy
  rw [hz, if_pos ⟨by (first | (apply Int.le_antisymm <;> omega) | omega), by (first | (apply Int.le_antisymm <;> omega) | omega)⟩, Nat.zero_add, Nat.sub_zero]
theorem cpy1 {f g : Nat → Int32} {n j a b : Nat} (ha : a = 0) (hb : b = 0) (hj : j < n) : va_cpy f g a b n j = f j := by
  unfold va_cpy
  rw [ha, hb, if_pos ⟨by (first | (apply Int.le_antisymm <;> omega) | omega), by (first | (apply Int.le_antisymm <;> omega) | omega)⟩, Nat.zero_add, Nat.sub_zero]
/-- behind what is there, another is laid -/
theorem cpy2 {f g : Nat → Int32} {n j b : Nat} : (j < b → va_cpy f g 0 b n j = g j) ∧ (j < n → va_cpy f g 0 b n (b + j) = f j) := by
  unfold va_cpy
  refine ⟨fun h => by rw [if_neg (by (first | (apply Int.le_antisymm <;> omega) | omega))], fun h => ?_⟩
  rw [if_pos ⟨by (first | (apply Int.le_antisymm <;> omega) | omega), by (first | (apply Int.le_antisymm <;> omega) | omega)⟩, Nat.zero_add, Nat.add_sub_cancel_left]
theorem sh0l {a x : Int32} (e : x = a <<< ((0 : Int32) &&& 31)) : x.toInt = a.toInt := by
  rw [e, show ((0 : Int32) &&& 31) = 0 from rfl, Int32.shiftLeft_zero]
theorem sh0r {a x : Int32} (e : x = a >>> ((0 : Int32) &&& 31)) : x.toInt = a.toInt := by
  rw [e, show ((0 : Int32) &&& 31) = 0 from rfl, Int32.shiftRight_zero]
theorem nar_el (x : Int32) : -128 ≤ (vp_nar .byte x).toInt ∧ (vp_nar .byte x).toInt ≤ 127 := by
  rw [vp_nar_byte]
  exact i8_el x
theorem nar2 {x : Int32} : x.toInt8.toInt32.toInt8.toInt32 = x.toInt8.toInt32 := by rw [Int8.toInt8_toInt32]
theorem no_Aw {A : Nat → Prop} {D : va_G} {cl : List vw_C} {X WC : va_W} {L : List Nat} {f : Nat → va_E} {H : Heap} (hP : va_P D cl (X ++ va_pl L f) H) (hD : va_D A (X ++ va_pl L f)) (is : List Nat) (hC : is.map (fun i => X[i]?) = WC.map some) : ∀ x ∈ L, ¬ va_A WC H.size x := fun x hx h => by
  rcases h with ⟨k, e, h⟩ | h
  · have h1 : (is.map (fun i => X[i]?))[k]? = some (some (x, e)) := by rw [hC, List.getElem?_map, h]; rfl
    rw [List.getElem?_map] at h1
    cases hi : is[k]? with
    | none => rw [hi] at h1; cases h1
    | some i =>
      rw [hi] at h1
      have h2 : X[i]? = some (x, e) := Option.some.inj h1
      have hl := (List.getElem?_eq_some_iff.mp h2).1
      obtain ⟨j, hj⟩ := List.getElem?_of_mem hx
      have h3 : (X ++ va_pl L f)[X.length + j]? = some (x, f x) := by
        rw [List.getElem?_append_right (by (first | (apply Int.le_antisymm <;> omega) | omega)), Nat.add_sub_cancel_left]
        unfold va_pl
        rw [List.getElem?_map, hj]
        rfl
      have h4 : (X ++ va_pl L f)[i]? = some (x, e) := by rw [List.getElem?_append_left hl]; exact h2
      have := hD.1 i (X.length + j) _ _ h4 h3 rfl
      (first | (apply Int.le_antisymm <;> omega) | omega)
  · have := va_pl_lt hP hx
    (first | (apply Int.le_antisymm <;> omega) | omega)
theorem sh0p {a x p : Int32} (hp : p = 0) (e : x = a <<< (p &&& 31)) : x.toInt = a.toInt := by
  subst hp
  exact sh0l e
theorem gO {own C owner : String} {idx : Nat} {x y : MethodName} {q : Cond} (h1 : Cond.methodLink own idx x ∈ lw_g) (h2 : Cond.sameMethod x.cls owner x.name x.desc ∈ lw_g) (h3 : Cond.instanceMethod ⟨owner, x.name, x.desc⟩ ∈ lw_g) (h4 : Cond.selects C x y ∈ lw_g) (h5 : Cond.instanceMethod y ∈ lw_g) (h6 : Cond.initialized y.cls ∈ lw_g) (hq : q ∈ lw_g) : GoodIn lw_g (va_wsO own idx C owner x y (q :: lw_g)) := fun w h => by
  have h : w ∈ ([.methodLink own idx x, .sameMethod x.cls owner x.name x.desc, .instanceMethod ⟨owner, x.name, x.desc⟩, .selects C x y, .instanceMethod y, .initialized y.cls] : List Cond) ++ (q :: lw_g) := h
  rcases List.mem_append.mp h with h | h
  · simp only [List.mem_cons, List.not_mem_nil, or_false] at h
    rcases h with rfl | rfl | rfl | rfl | rfl | rfl
    · exact ⟨h1, good_of_word (g_all h1)⟩
    · exact ⟨h2, good_of_word (g_all h2)⟩
    · exact ⟨h3, good_of_word (g_all h3)⟩
    · exact ⟨h4, good_of_word (g_all h4)⟩
    · exact ⟨h5, good_of_word (g_all h5)⟩
    · exact ⟨h6, good_of_word (g_all h6)⟩
  · exact gW hq w h
theorem no_A0 {D : va_G} {cl : List vw_C} {ws : va_W} {H : Heap} {k : Nat} {q : Nat × va_E} (hP : va_P D cl ws H) (h : ws[k]? = some q) : ¬ va_A [] H.size q.1 := fun z => by
  have := (hP k q h).lt
  rcases z with ⟨k, e, h⟩ | h
  · simp at h
  · (first | (apply Int.le_antisymm <;> omega) | omega)
theorem ro_Sx {D : va_G} {tys : List (ClassId × FieldType)} {ws : va_W} {s : State} {args : Array Value} {H : Heap} {A1 : Nat → Prop} {a v k k2 t0 n : Nat} {h z : Int32} {g : Nat → Int32} {cpb : ClassId} {nb : List Int32} (hts : ∀ w ∈ lw_g, w.before args s = true) (hK : va_K D cls2 tys s) (hP : va_P D cls2 ws H) (ht : tys[t0]? = some (cpb, .byte)) (ha : ws[k]? = some (a, .inr (16, [.ref v, .int 0, .int h, .int z]))) (hb : ws[k2]? = some (v, .inl (cpb, n, .inl g))) (hn : nb.length = n) (hg : ∀ j, j < n → g j = nb.getD j 0) (hA : ¬ A1 a) (hA2 : ¬ A1 v) : sw_str a v nb A1 s H := by
  subst hn
  refine ⟨ro_O (q := (R_JS, F_JS, 4)) hK hP (ci := 16) rfl ha hA, ?_, ?_, ?_⟩
  · exact ro_OF (j := 1) hts i_JS hK hP (ci := 16) rfl ha (by decide) rfl hA
  · exact ro_OF (j := 0) hts i_JS hK hP (ci := 16) rfl ha (by decide) rfl hA
  · exact (ro_T hK hP hb ht hA2).cg (fun j hj => by rw [hg j hj])
theorem ro_rv {E : String} {t : Nat} {A : Nat → Prop} {s : State} {H : Heap} (h : va_O E t A s H) : ∃ cell : Cell, H[t]? = some cell ∧ cell.vm.isStatics = false ∧ s.vm.findClass E = some cell.cls := by
  obtain ⟨cell, h1, h2, h3, -⟩ := h
  exact ⟨cell, h1, h2, h3⟩
theorem ro_N {a n : Nat} {f : Nat → Value} {A : Nat → Prop} {s : State} {H : Heap} {nb : List Int32} (hn : nb.length = n) (h : va_T .byte a n f A s H) : va_T .byte a nb.length f A s H := by rw [hn]; exact h
section HA
variable {g : Nat → Int32} {n : Nat} {h z r : Int32}
theorem z_of {x : Int32} (h : x.toInt = 0) : x = 0 := Int32.toInt_inj.mp (by rw [h]; decide)
theorem hash_a (hr : rht (sbl g n) h z) (h0 : h.toInt ≠ 0) : h = hs9 (sbl g n) n := by
  rcases hr.1 with q | q
  · rw [q] at h0; exact absurd rfl h0
  · rw [sbl_len] at q; exact q
theorem hash_b (hr : rht (sbl g n) h z) (hh : h.toInt = 0) (hz : z.toInt ≠ 0) : h = hs9 (sbl g n) n := by
  have q := hr.2 hz
  rw [sbl_len] at q
  rw [q]
  exact z_of hh
theorem hash_c (e : r = hs9 (sbl g n) n) (h0 : r.toInt = 0) (hr : rht (sbl g n) h z) : rht (sbl g n) h 1 := by
  refine ⟨hr.1, fun _ => ?_⟩
  rw [sbl_len, ← e]
  exact z_of h0
theorem hash_d (e : r = hs9 (sbl g n) n) (hr : rht (sbl g n) h z) : rht (sbl g n) r z := by
  refine ⟨Or.inr ?_, hr.2⟩
  rw [sbl_len]
  exact e
end HA
end q_m72
section q_m73
/-! the makers of texts: arrays are copied -/
def R_JQ : String := "java/lang/AbstractStringBuilder"
theorem kI_JQ : Cond.initialized R_JQ ∈ lw_g := in_c1 30 rfl rfl
def R_JU : String := "jdk/internal/util/ArraysSupport"
theorem kI_JU : Cond.initialized R_JU ∈ lw_g := in_c1 32 rfl rfl
abbrev b_JU_newLength : ByteArray := prog_41_method_27_code
def y_JU_newLength : MethodName := ⟨R_JU, "newLength", "(III)I"⟩
abbrev w_JU_newLength : List Cond := .code y_JU_newLength b_JU_newLength 4 (Option.some .int) :: lw_g
theorem kC_JU_newLength : Cond.code y_JU_newLength b_JU_newLength 4 (Option.some .int) ∈ lw_g := in_c10 26 rfl rfl
theorem d_JU_newLength_0 : decode b_JU_newLength 0 = .ok (.iload_n 0, 1) := bz_c26 (by decide +kernel)
theorem d_JU_newLength_1 : decode b_JU_newLength 1 = .ok (.iload_n 1, 1) := bz_c27 (by decide +kernel)
theorem d_JU_newLength_2 : decode b_JU_newLength 2 = .ok (.iload_n 2, 1) := bz_c28 (by decide +kernel)
theorem d_JU_newLength_3 : decode b_JU_newLength 3 = .ok (.invokestatic 194, 3) := bz_c184 (by decide +kernel)
theorem d_JU_newLength_6 : decode b_JU_newLength 6 = .ok (.iadd, 1) := bz_c96 (by decide +kernel)
theorem d_JU_newLength_7 : decode b_JU_newLength 7 = .ok (.istore_n 3, 1) := bz_c62 (by decide +kernel)
theorem d_JU_newLength_8 : decode b_JU_newLength 8 = .ok (.iconst 0, 1) := bz_c3 (by decide +kernel)
theorem d_JU_newLength_9 : decode b_JU_newLength 9 = .ok (.iload_n 3, 1) := bz_c29 (by decide +kernel)
theorem d_JU_newLength_10 : decode b_JU_newLength 10 = .ok (.if_icmp .ge 11, 3) := bz_c162 (by decide +kernel)
theorem d_JU_newLength_13 : decode b_JU_newLength 13 = .ok (.iload_n 3, 1) := bz_c29 (by decide +kernel)
theorem d_JU_newLength_14 : decode b_JU_newLength 14 = .ok (.ldc 200, 2) := bz_c18 (by decide +kernel)
theorem d_JU_newLength_16 : decode b_JU_newLength 16 = .ok (.if_icmp .gt 5, 3) := bz_c163 (by decide +kernel)
theorem d_JU_newLength_19 : decode b_JU_newLength 19 = .ok (.iload_n 3, 1) := bz_c29 (by decide +kernel)
theorem d_JU_newLength_20 : decode b_JU_newLength 20 = .ok (.ireturn, 1) := bz_c172 (by decide +kernel)
theorem d_JU_newLength_21 : decode b_JU_newLength 21 = .ok (.iload_n 0, 1) := bz_c26 (by decide +kernel)
theorem d_JU_newLength_22 : decode b_JU_newLength 22 = .ok (.iload_n 1, 1) := bz_c27 (by decide +kernel)
theorem d_JU_newLength_23 : decode b_JU_newLength 23 = .ok (.invokestatic 201, 3) := bz_c184 (by decide +kernel)
theorem d_JU_newLength_26 : decode b_JU_newLength 26 = .ok (.ireturn, 1) := bz_c172 (by decide +kernel)
abbrev b_JM_max : ByteArray := prog_31_method_65_code
def y_JM_max : MethodName := ⟨R_JM, "max", "(II)I"⟩
abbrev w_JM_max : List Cond := .code y_JM_max b_JM_max 2 (Option.some .int) :: lw_g
theorem kC_JM_max : Cond.code y_JM_max b_JM_max 2 (Option.some .int) ∈ lw_g := in_c10 29 rfl rfl
theorem kM_JU_194 : Cond.methodLink R_JU 194 y_JM_max ∈ lw_g := in_c10 27 rfl rfl
theorem kT_JM_max : Cond.static y_JM_max ∈ lw_g := in_c10 28 rfl rfl
abbrev b_JU_hugeLength : ByteArray := prog_41_method_28_code
def y_JU_hugeLength : MethodName := ⟨R_JU, "hugeLength", "(II)I"⟩
abbrev w_JU_hugeLength : List Cond := .code y_JU_hugeLength b_JU_hugeLength 3 (Option.some .int) :: lw_g
theorem kC_JU_hugeLength : Cond.code y_JU_hugeLength b_JU_hugeLength 3 (Option.some .int) ∈ lw_g := in_c10 33 rfl rfl
theorem kM_JU_201 : Cond.methodLink R_JU 201 y_JU_hugeLength ∈ lw_g := in_c10 31 rfl rfl
theorem kT_JU_hugeLength : Cond.static y_JU_hugeLength ∈ lw_g := in_c10 32 rfl rfl
theorem kJ_JU_200 : Cond.constant R_JU 200 (2147483639) ∈ lw_g := in_c10 30 rfl rfl
abbrev at_JU_newLength (dC : Nat → ClassId) (dI : Nat → Nat → Nat)  (A : Nat → Prop) (u : Unit) (t : State) : Prop := match u with | _ => va_P (dC, dI) cls2 [] t.heap ∧ va_K (dC, dI) cls2 [] t ∧ va_D A []
set_option maxHeartbeats 4000000 in
set_option maxRecDepth 100000 in
theorem c_JU_newLength (l : Launch) (hlt : l.stackTraces = false) (dC : Nat → ClassId) (dI : Nat → Nat → Nat) (sz : Nat)    (p0 : Int32) (p1 : Int32) (p2 : Int32) (ba0 : 0 ≤ p0.toInt ∧ p0.toInt ≤ 1000000) (ba1 : -1000000 ≤ p1.toInt ∧ p1.toInt ≤ 1000000) (ba2 : 0 ≤ p2.toInt ∧ p2.toInt ≤ 1000002) (hmx : 1 ≤ p0.toInt + p2.toInt) : Met l y_JU_newLength w_JU_newLength ({ frames := 1, cells := 0, slots := 0, locals := 24 }) (va_Pc [.int p0, .int p1, .int p2] (fun U => U.heap.size = sz ∧ va_P (dC, dI) cls2 [] U.heap ∧ va_K (dC, dI) cls2 [] U ∧ va_D (fun _ => True) [])) (va_Qi (fun (r : Int32) (u : Unit) => match u with | _ => (r.toInt = p0.toInt + max p1.toInt p2.toInt)) (at_JU_newLength dC dI  (va_A [] sz)) (va_A [] sz)) 0 0 (va_A [] sz) := by
  refine Met.ofW (cc := b_JU_newLength) (maxL := 4) (ret := (Option.some .int)) (by decide) rfl ?_
  intro p e s m args below meth c s₁ B hml hv
  obtain ⟨rfl, hsz, hP, hK, hD0⟩ := hv
  have hx := B.exec
  have hb := B.bytes
  have hr := B.returns
  have hts0 := atoms_spec (ws := w_JU_newLength) B.pre
  have hts : ∀ w ∈ lw_g, w.before _ s = true := fun w h => hts0 w (List.mem_cons_of_mem _ h)
  have hown : s.vm.findClass R_JU = some m.cls := findClass_of_methodNamed B.named
  have hlocks := B.notSynchronized
  clear hts0
  subst hsz
  have hD := hD0.self (sz := s.heap.size)
  generalize hAe : va_A [] s.heap.size = A at hD ⊢
  have hA : ∀ q : Nat, s.heap.size ≤ q → A q := fun q h => by rw [← hAe]; exact Or.inr h
  clear hAe
  have hP : va_P (dC, dI) cls2 [] s.heap := hP
  have hl := lv_entry ([.int p0, .int p1, .int p2]) (n := 4) (Nat.le_of_ble_eq_true rfl)
  rw [lg_entry_eq]
  generalize (lg_sl ([.int p0, .int p1, .int p2]) ++ List.replicate (4 - (lg_sl ([.int p0, .int p1, .int p2])).length) Slot.unset).toArray = ls at hl ⊢
  have hl : lv_has ls 4 [(0, .int p0), (1, .int p1), (2, .int p2)] := hl
  have k0 : (0 : Int32).toInt = 0 := by decide
  refine w_gen (A := A) hP (fun H locs hP hS => ?_)
  have lo_p0 := i32_lo p0
  have hi_p0 := i32_hi p0
  have lo_p1 := i32_lo p1
  have hi_p1 := i32_hi p1
  have lo_p2 := i32_lo p2
  have hi_p2 := i32_hi p2
  refine lv_iload_n hx hb d_JU_newLength_0 rfl (lv_at hl 0 rfl) ?_
  refine lv_iload_n hx hb d_JU_newLength_1 rfl (lv_at hl 1 rfl) ?_
  refine lv_iload_n hx hb d_JU_newLength_2 rfl (lv_at hl 2 rfl) ?_
  refine va_mmax hx hb (hml.trans hl.1.symm) hown (hts _ kM_JU_194) (hts _ kT_JM_max) (hts _ kI_JM) (hts _ kC_JM_max) (Nat.le_of_ble_eq_true rfl) (Nat.le_of_ble_eq_true rfl) (Nat.zero_le _) (Nat.zero_le _) d_JU_newLength_3 ?_
  refine lv_topi (fun x1 ex1 => ?_)
  have tx1 := max32 ex1
  refine lv_iadd hx hb d_JU_newLength_6 ?_
  refine lv_topi (fun x2 ex2 => ?_)
  have tx2 : x2.toInt = p0.toInt + x1.toInt := by have z := i32_add ex2 (by (first | (apply Int.le_antisymm <;> omega) | omega)) (by (first | (apply Int.le_antisymm <;> omega) | omega)); first | exact z | (first | (apply Int.le_antisymm <;> omega) | omega)
  refine lv_istore_n (lv' := [(3, .int x2), (0, .int p0), (1, .int p1), (2, .int p2)]) hx hb d_JU_newLength_7 rfl hl (by decide) rfl (fun ls hl => ?_)
  refine lv_iconst (v := 0) hx hb d_JU_newLength_8 (by decide) ?_
  refine lv_iload_n hx hb d_JU_newLength_9 rfl (lv_at hl 0 rfl) ?_
  refine lv_icmp_ge (tgt := 21) hx hb d_JU_newLength_10 (by decide) (fun c10 => absurd (leI c10) (by (first | (apply Int.le_antisymm <;> omega) | omega))) (fun c10 => ?_)
  have q10 := nleI c10
  refine lv_iload_n hx hb d_JU_newLength_13 rfl (lv_at hl 0 rfl) ?_
  refine lv_ldc hx hb hown (hts _ kJ_JU_200) d_JU_newLength_14 ?_
  refine lv_topi (fun x3 ex3 => ?_)
  have tx3 : x3.toInt = 2147483639 := by rw [ex3]; decide
  refine lv_icmp_gt (tgt := 21) hx hb d_JU_newLength_16 (by decide) (fun c16 => absurd (ltI c16) (by (first | (apply Int.le_antisymm <;> omega) | omega))) (fun c16 => ?_)
  have q16 := nltI c16
  refine lv_iload_n hx hb d_JU_newLength_19 rfl (lv_at hl 0 rfl) ?_
  have hP9 := hP.sb (wq := []) [] rfl
  have hD9 := hD.sb (wq := []) [] (by decide) rfl
  exact W.iret (v := x2) hx hb hr (fun t ht hW => ⟨⟨x2, (), rfl, (by (try dsimp only) <;> (first | (apply Int.le_antisymm <;> omega) | omega)), va_P.he ht.symm hP9, va_K.moved hW.alike hK, hD9⟩, hS.F ht⟩) hS.2.2 d_JU_newLength_20
abbrev b_JA_copyOf : ByteArray := prog_40_method_121_code
def y_JA_copyOf : MethodName := ⟨R_JA, "copyOf", "([BI)[B"⟩
abbrev w_JA_copyOf : List Cond := .code y_JA_copyOf b_JA_copyOf 3 (Option.some (.array .byte)) :: lw_g
theorem kC_JA_copyOf : Cond.code y_JA_copyOf b_JA_copyOf 3 (Option.some (.array .byte)) ∈ lw_g := in_c10 37 rfl rfl
theorem d_JA_copyOf_0 : decode b_JA_copyOf 0 = .ok (.iload_n 1, 1) := bz_c27 (by decide +kernel)
theorem d_JA_copyOf_1 : decode b_JA_copyOf 1 = .ok (.aload_n 0, 1) := bz_c42 (by decide +kernel)
theorem d_JA_copyOf_2 : decode b_JA_copyOf 2 = .ok (.arraylength, 1) := bz_c190 (by decide +kernel)
theorem d_JA_copyOf_3 : decode b_JA_copyOf 3 = .ok (.if_icmp .ne 11, 3) := bz_c160 (by decide +kernel)
theorem d_JA_copyOf_6 : decode b_JA_copyOf 6 = .ok (.aload_n 0, 1) := bz_c42 (by decide +kernel)
theorem d_JA_copyOf_7 : decode b_JA_copyOf 7 = .ok (.invokevirtual 310, 3) := bz_c182 (by decide +kernel)
theorem d_JA_copyOf_10 : decode b_JA_copyOf 10 = .ok (.checkcast 311, 3) := bz_c192 (by decide +kernel)
theorem d_JA_copyOf_13 : decode b_JA_copyOf 13 = .ok (.areturn, 1) := bz_c176 (by decide +kernel)
theorem d_JA_copyOf_14 : decode b_JA_copyOf 14 = .ok (.iload_n 1, 1) := bz_c27 (by decide +kernel)
theorem d_JA_copyOf_15 : decode b_JA_copyOf 15 = .ok (.newarray .byte, 2) := by decide +kernel
theorem d_JA_copyOf_17 : decode b_JA_copyOf 17 = .ok (.astore_n 2, 1) := bz_c77 (by decide +kernel)
theorem d_JA_copyOf_18 : decode b_JA_copyOf 18 = .ok (.aload_n 0, 1) := bz_c42 (by decide +kernel)
theorem d_JA_copyOf_19 : decode b_JA_copyOf 19 = .ok (.iconst 0, 1) := bz_c3 (by decide +kernel)
theorem d_JA_copyOf_20 : decode b_JA_copyOf 20 = .ok (.aload_n 2, 1) := bz_c44 (by decide +kernel)
theorem d_JA_copyOf_21 : decode b_JA_copyOf 21 = .ok (.iconst 0, 1) := bz_c3 (by decide +kernel)
theorem d_JA_copyOf_22 : decode b_JA_copyOf 22 = .ok (.aload_n 0, 1) := bz_c42 (by decide +kernel)
theorem d_JA_copyOf_23 : decode b_JA_copyOf 23 = .ok (.arraylength, 1) := bz_c190 (by decide +kernel)
theorem d_JA_copyOf_24 : decode b_JA_copyOf 24 = .ok (.iload_n 1, 1) := bz_c27 (by decide +kernel)
theorem d_JA_copyOf_25 : decode b_JA_copyOf 25 = .ok (.invokestatic 304, 3) := bz_c184 (by decide +kernel)
theorem d_JA_copyOf_28 : decode b_JA_copyOf 28 = .ok (.invokestatic 150, 3) := bz_c184 (by decide +kernel)
theorem d_JA_copyOf_31 : decode b_JA_copyOf 31 = .ok (.aload_n 2, 1) := bz_c44 (by decide +kernel)
theorem d_JA_copyOf_32 : decode b_JA_copyOf 32 = .ok (.areturn, 1) := bz_c176 (by decide +kernel)
theorem kM_JA_304 : Cond.methodLink R_JA 304 y_JM_min0 ∈ lw_g := in_c10 45 rfl rfl
theorem kT_JM_min0 : Cond.static y_JM_min0 ∈ lw_g := in_c10 46 rfl rfl
theorem kM_JA_150 : Cond.methodLink R_JA 150 arraycopyName ∈ lw_g := in_c10 48 rfl rfl
theorem kNA_ac : Cond.native arraycopyName ∈ lw_g := in_c10 50 rfl rfl
theorem kT_ac : Cond.static arraycopyName ∈ lw_g := in_c10 49 rfl rfl
theorem kI_sys : Cond.initialized "java/lang/System" ∈ lw_g := in_c1 34 rfl rfl
abbrev at_JA_copyOf (dC : Nat → ClassId) (dI : Nat → Nat → Nat) (sz szl : Nat) (sa : Nat → Nat) (va : Nat) (cpb : ClassId) (nva : Nat) (gva : Nat → Int32) (A : Nat → Prop) (u : (Nat → Int32) × Nat × Nat × Nat × Nat) (t : State) : Prop := match u with | (gnw, kcz, knz, nnw, nw) => va_P (dC, dI) cls2 [(va, .inl (cpb, nva, .inl gva)), (nw, .inl (cpb, nnw, .inl gnw))] t.heap ∧ va_K (dC, dI) cls2 [(cpb, .byte)] t ∧ va_D A [(va, .inl (cpb, nva, .inl gva)), (nw, .inl (cpb, nnw, .inl gnw))] ∧ t.heap.size ≤ sz + kcz ∧ hsl t.heap ≤ szl + knz
set_option maxHeartbeats 4000000 in
set_option maxRecDepth 100000 in
theorem c_JA_copyOf (l : Launch) (hlt : l.stackTraces = false) (dC : Nat → ClassId) (dI : Nat → Nat → Nat) (sz : Nat) (szl : Nat) (sa : Nat → Nat) (va : Nat) (cpb : ClassId) (nva : Nat) (gva : Nat → Int32)  (b_gva : ∀ j : Nat, -128 ≤ (gva j).toInt ∧ (gva j).toInt ≤ 127) (p1 : Int32)  (hva : (nva : Int) < 1000000) (hp : (nva : Int) < p1.toInt ∧ p1.toInt ≤ 2000000) : Met l y_JA_copyOf w_JA_copyOf ({ frames := 1, cells := 1, slots := p1.toInt.toNat, locals := 40 }) (va_Pc [.ref va, .int p1] (fun U => U.heap.size = sz ∧ va_P (dC, dI) cls2 [(va, .inl (cpb, nva, .inl gva))] U.heap ∧ va_K (dC, dI) cls2 [(cpb, .byte)] U ∧ va_D (fun _ => True) [(va, .inl (cpb, nva, .inl gva))] ∧ sm sa (va_A [(va, .inl (cpb, nva, .inl gva))] sz) U U.heap ∧ hsl U.heap = szl)) (va_Qr (fun (u : (Nat → Int32) × Nat × Nat × Nat × Nat) => match u with | (gnw2, kcz2, knz2, nnw2, nw2) => (∀ j : Nat, -128 ≤ (gnw2 j).toInt ∧ (gnw2 j).toInt ≤ 127) ∧ ((nnw2 : Int) = p1.toInt ∧ kcz2 = 1 ∧ knz2 = nnw2 ∧ ∀ j, j < nva → gnw2 j = gva j)) (fun (u : (Nat → Int32) × Nat × Nat × Nat × Nat) (ra : Nat) (t : State) => (match u with | (gnw, kcz, knz, nnw, nw) => nw) = ra ∧ (at_JA_copyOf dC dI sz szl sa va cpb nva gva (va_A [(va, .inl (cpb, nva, .inl gva))] sz)) u t) (va_A [(va, .inl (cpb, nva, .inl gva))] sz)) (1) (p1.toInt.toNat) (va_A [(va, .inl (cpb, nva, .inl gva))] sz) := by
  refine Met.ofW (cc := b_JA_copyOf) (maxL := 3) (ret := (Option.some (.array .byte))) (by decide) rfl ?_
  intro p e s m args below meth c s₁ B hml hv
  obtain ⟨rfl, hsz, hP, hK, hD0, hSW, hszl⟩ := hv
  have hx := B.exec
  have hb := B.bytes
  have hr := B.returns
  have hts0 := atoms_spec (ws := w_JA_copyOf) B.pre
  have hts : ∀ w ∈ lw_g, w.before _ s = true := fun w h => hts0 w (List.mem_cons_of_mem _ h)
  have hown : s.vm.findClass R_JA = some m.cls := findClass_of_methodNamed B.named
  have hlocks := B.notSynchronized
  clear hts0
  subst hsz
  subst hszl
  have hD := hD0.self (sz := s.heap.size)
  generalize hAe : va_A [(va, .inl (cpb, nva, .inl gva))] s.heap.size = A at hD hSW ⊢
  have hA : ∀ q : Nat, s.heap.size ≤ q → A q := fun q h => by rw [← hAe]; exact Or.inr h
  clear hAe
  have hP : va_P (dC, dI) cls2 [(va, .inl (cpb, nva, .inl gva))] s.heap := hP
  have hl := lv_entry ([.ref va, .int p1]) (n := 3) (Nat.le_of_ble_eq_true rfl)
  rw [lg_entry_eq]
  generalize (lg_sl ([.ref va, .int p1]) ++ List.replicate (3 - (lg_sl ([.ref va, .int p1])).length) Slot.unset).toArray = ls at hl ⊢
  have hl : lv_has ls 3 [(0, .ref va), (1, .int p1)] := hl
  have k0 : (0 : Int32).toInt = 0 := by decide
  refine w_gen (A := A) hP (fun H locs hP hS => ?_)
  have lo_p1 := i32_lo p1
  have hi_p1 := i32_hi p1
  refine lv_iload_n hx hb d_JA_copyOf_0 rfl (lv_at hl 1 rfl) ?_
  refine lv_aload_n hx hb d_JA_copyOf_1 rfl (lv_at hl 0 rfl) ?_
  refine va_alen hx hb hK hP 0 0 rfl rfl rfl d_JA_copyOf_2 ?_
  refine lv_topi (fun x1 ex1 => ?_)
  have tx1 : x1.toInt = nva := by rw [ex1]; exact i32_len (by (first | (apply Int.le_antisymm <;> omega) | omega))
  refine lv_icmp_ne (tgt := 14) hx hb d_JA_copyOf_3 (by decide) (fun c3 => ?_) (fun c3 => absurd (eqI c3) (by (first | (apply Int.le_antisymm <;> omega) | omega)))
  have q3 := neI c3
  refine lv_iload_n hx hb d_JA_copyOf_14 rfl (lv_at hl 1 rfl) ?_
  obtain ⟨N2, eN2⟩ : ∃ z : Nat, p1.toNatClampNeg = z := ⟨_, rfl⟩
  have tN2 : (N2 : Int) = p1.toInt := by rw [← eN2]; exact i32_clamp (by (first | (apply Int.le_antisymm <;> omega) | omega))
  refine vn_newb hx hb (hts _ ka_byte) hK hP hD hS hA 0 rfl N2 (nneg9 (by (first | (apply Int.le_antisymm <;> omega) | omega))) eN2 (by (first | (apply Int.le_antisymm <;> omega) | omega)) (by dsimp only [headSpec]; (first | (apply Int.le_antisymm <;> omega) | omega)) (by dsimp only [headSpec]; (first | (apply Int.le_antisymm <;> omega) | omega)) d_JA_copyOf_15 (fun nq15 H hP hD hS => ?_)
  have hP : va_P (dC, dI) cls2 [(va, .inl (cpb, nva, .inl gva)), (nq15, .inl (cpb, N2, .inl (fun _ => 0)))] H := hP
  have hD : va_D A [(va, .inl (cpb, nva, .inl gva)), (nq15, .inl (cpb, N2, .inl (fun _ => 0)))] := hD
  refine lv_astore_n (lv' := [(2, .ref nq15), (0, .ref va), (1, .int p1)]) hx hb d_JA_copyOf_17 rfl hl (by decide) rfl (fun ls hl => ?_)
  refine lv_aload_n hx hb d_JA_copyOf_18 rfl (lv_at hl 1 rfl) ?_
  refine lv_iconst (v := 0) hx hb d_JA_copyOf_19 (by decide) ?_
  refine lv_aload_n hx hb d_JA_copyOf_20 rfl (lv_at hl 0 rfl) ?_
  refine lv_iconst (v := 0) hx hb d_JA_copyOf_21 (by decide) ?_
  refine lv_aload_n hx hb d_JA_copyOf_22 rfl (lv_at hl 1 rfl) ?_
  refine va_alen hx hb hK hP 0 0 rfl rfl rfl d_JA_copyOf_23 ?_
  refine lv_topi (fun x3 ex3 => ?_)
  have tx3 : x3.toInt = nva := by rw [ex3]; exact i32_len (by (first | (apply Int.le_antisymm <;> omega) | omega))
  refine lv_iload_n hx hb d_JA_copyOf_24 rfl (lv_at hl 2 rfl) ?_
  refine va_mmin hx hb (hml.trans hl.1.symm) hown (hts _ kM_JA_304) (hts _ kT_JM_min0) (hts _ kI_JM) (hts _ kC_JM_min0) (Nat.le_of_ble_eq_true rfl) (Nat.le_of_ble_eq_true rfl) (by dsimp only [headSpec]; (first | (apply Int.le_antisymm <;> omega) | omega)) (by dsimp only [headSpec]; (first | (apply Int.le_antisymm <;> omega) | omega)) d_JA_copyOf_25 ?_
  refine lv_topi (fun x4 ex4 => ?_)
  have tx4 := min32 ex4
  have z9x4 := i32_clamp (x := x4) (by (first | (apply Int.le_antisymm <;> omega) | omega))
  have k00 : (0 : Int32).toNatClampNeg = 0 := rfl
  refine va_copyi (ty := .byte) hx hb (hml.trans hl.1.symm) hown (hts _ kM_JA_150) (hts _ kNA_ac) (hts _ kT_ac) (hts _ kI_sys) hK hP hD hS 0 1 0 0 rfl rfl rfl rfl rfl (by decide) (by decide) (nneg9 (by (first | (apply Int.le_antisymm <;> omega) | omega))) (by (first | (apply Int.le_antisymm <;> omega) | omega)) (by (first | (apply Int.le_antisymm <;> omega) | omega)) (fun i9 _ => fits_b (b_gva _)) (Nat.le_of_ble_eq_true rfl) (Nat.le_of_ble_eq_true rfl) d_JA_copyOf_28 (fun H locs hP hD hS => ?_)
  have hP : va_P (dC, dI) cls2 [(va, .inl (cpb, nva, .inl gva)), (nq15, .inl (cpb, N2, .inl ((va_cpy gva (fun _ => 0) (0 : Int32).toNatClampNeg (0 : Int32).toNatClampNeg x4.toNatClampNeg))))] H := hP
  have hD : va_D A [(va, .inl (cpb, nva, .inl gva)), (nq15, .inl (cpb, N2, .inl ((va_cpy gva (fun _ => 0) (0 : Int32).toNatClampNeg (0 : Int32).toNatClampNeg x4.toNatClampNeg))))] := hD
  generalize ef5 : va_cpy gva (fun _ => 0) (0 : Int32).toNatClampNeg (0 : Int32).toNatClampNeg x4.toNatClampNeg = f5 at hP hD
  have b_f5 : ∀ j : Nat, -128 ≤ (f5 j).toInt ∧ (f5 j).toInt ≤ 127 := by rw [← ef5]; exact cpy_el (b_gva) (zero_el)
  refine lv_aload_n hx hb d_JA_copyOf_31 rfl (lv_at hl 0 rfl) ?_
  have hP9 := hP.sb (wq := [(va, .inl (cpb, nva, .inl gva)), (nq15, .inl (cpb, N2, .inl f5))]) [0, 1] rfl
  have hD9 := hD.sb (wq := [(va, .inl (cpb, nva, .inl gva)), (nq15, .inl (cpb, N2, .inl f5))]) [0, 1] (by decide) rfl
  refine w_known (fun hzc hzs => ?_)
  refine W.widen (k := 1) (n := p1.toInt.toNat) (by (first | (apply Int.le_antisymm <;> omega) | omega)) (by (first | (apply Int.le_antisymm <;> omega) | omega)) ?_
  exact W.aret (v := .ref nq15) hx hb hr (Or.inr ⟨_, rfl⟩) (Or.inr ⟨_, rfl⟩) (fun t ht hW => ⟨⟨(f5, 0 + 1, 0 + N2, N2, nq15), nq15, rfl, ⟨b_f5, ⟨by (first | (apply Int.le_antisymm <;> omega) | omega), by (first | (apply Int.le_antisymm <;> omega) | omega), by (first | (apply Int.le_antisymm <;> omega) | omega), fun j hj => by rw [← ef5]; exact cpy0 (by (first | (apply Int.le_antisymm <;> omega) | omega))⟩⟩, rfl, va_P.he ht.symm hP9, va_K.moved hW.alike hK, hD9, by rw [ht]; exact hzc, by rw [ht]; exact hzs⟩, hS.F ht⟩) hS.2.2 d_JA_copyOf_32
abbrev b_JA_checkLength : ByteArray := prog_40_method_131_code
def y_JA_checkLength : MethodName := ⟨R_JA, "checkLength", "(II)V"⟩
abbrev w_JA_checkLength : List Cond := .code y_JA_checkLength b_JA_checkLength 2 none :: lw_g
theorem kC_JA_checkLength : Cond.code y_JA_checkLength b_JA_checkLength 2 none ∈ lw_g := in_c10 119 rfl rfl
theorem d_JA_checkLength_0 : decode b_JA_checkLength 0 = .ok (.iload_n 1, 1) := bz_c27 (by decide +kernel)
theorem d_JA_checkLength_1 : decode b_JA_checkLength 1 = .ok (.iload_n 0, 1) := bz_c26 (by decide +kernel)
theorem d_JA_checkLength_2 : decode b_JA_checkLength 2 = .ok (.if_icmp .ge 35, 3) := bz_c162 (by decide +kernel)
theorem d_JA_checkLength_5 : decode b_JA_checkLength 5 = .ok (.new 43, 3) := bz_c187 (by decide +kernel)
theorem d_JA_checkLength_8 : decode b_JA_checkLength 8 = .ok (.dup, 1) := bz_c89 (by decide +kernel)
theorem d_JA_checkLength_9 : decode b_JA_checkLength 9 = .ok (.new 45, 3) := bz_c187 (by decide +kernel)
theorem d_JA_checkLength_12 : decode b_JA_checkLength 12 = .ok (.dup, 1) := bz_c89 (by decide +kernel)
theorem d_JA_checkLength_13 : decode b_JA_checkLength 13 = .ok (.invokespecial 47, 3) := bz_c183 (by decide +kernel)
theorem d_JA_checkLength_16 : decode b_JA_checkLength 16 = .ok (.iload_n 0, 1) := bz_c26 (by decide +kernel)
theorem d_JA_checkLength_17 : decode b_JA_checkLength 17 = .ok (.invokevirtual 54, 3) := bz_c182 (by decide +kernel)
theorem d_JA_checkLength_20 : decode b_JA_checkLength 20 = .ok (.ldc_w 337, 3) := bz_c19 (by decide +kernel)
theorem d_JA_checkLength_23 : decode b_JA_checkLength 23 = .ok (.invokevirtual 50, 3) := bz_c182 (by decide +kernel)
theorem d_JA_checkLength_26 : decode b_JA_checkLength 26 = .ok (.iload_n 1, 1) := bz_c27 (by decide +kernel)
theorem d_JA_checkLength_27 : decode b_JA_checkLength 27 = .ok (.invokevirtual 54, 3) := bz_c182 (by decide +kernel)
theorem d_JA_checkLength_30 : decode b_JA_checkLength 30 = .ok (.invokevirtual 61, 3) := bz_c182 (by decide +kernel)
theorem d_JA_checkLength_33 : decode b_JA_checkLength 33 = .ok (.invokespecial 65, 3) := bz_c183 (by decide +kernel)
theorem d_JA_checkLength_36 : decode b_JA_checkLength 36 = .ok (.athrow, 1) := bz_c191 (by decide +kernel)
theorem d_JA_checkLength_37 : decode b_JA_checkLength 37 = .ok (.return_, 1) := bz_c177 (by decide +kernel)
abbrev b_JB_init : ByteArray := prog_34_method_1_code
def y_JB_init : MethodName := ⟨R_JB, "<init>", "()V"⟩
abbrev w_JB_init : List Cond := .code y_JB_init b_JB_init 1 none :: lw_g
theorem kC_JB_init : Cond.code y_JB_init b_JB_init 1 none ∈ lw_g := in_c9 220 rfl rfl
theorem kM_JA_47 : Cond.methodLink R_JA 47 y_JB_init ∈ lw_g := in_c10 122 rfl rfl
theorem kV_JB_init : Cond.instanceMethod y_JB_init ∈ lw_g := in_c9 219 rfl rfl
abbrev b_JB_append1 : ByteArray := prog_34_method_15_code
def y_JB_append1 : MethodName := ⟨R_JB, "append", "(I)Ljava/lang/StringBuilder;"⟩
abbrev w_JB_append1 : List Cond := .code y_JB_append1 b_JB_append1 2 (Option.some (.object "java/lang/StringBuilder")) :: lw_g
theorem kC_JB_append1 : Cond.code y_JB_append1 b_JB_append1 2 (Option.some (.object "java/lang/StringBuilder")) ∈ lw_g := in_c10 126 rfl rfl
theorem kM_JA_54 : Cond.methodLink R_JA 54 y_JB_append1 ∈ lw_g := in_c10 123 rfl rfl
theorem kV_JB_append1 : Cond.instanceMethod y_JB_append1 ∈ lw_g := in_c10 124 rfl rfl
theorem kS_JB_append1 : Cond.selects R_JB y_JB_append1 y_JB_append1 ∈ lw_g := in_c10 125 rfl rfl
abbrev b_JB_append2 : ByteArray := prog_34_method_7_code
def y_JB_append2 : MethodName := ⟨R_JB, "append", "(Ljava/lang/String;)Ljava/lang/StringBuilder;"⟩
abbrev w_JB_append2 : List Cond := .code y_JB_append2 b_JB_append2 2 (Option.some (.object "java/lang/StringBuilder")) :: lw_g
theorem kC_JB_append2 : Cond.code y_JB_append2 b_JB_append2 2 (Option.some (.object "java/lang/StringBuilder")) ∈ lw_g := in_c10 161 rfl rfl
theorem kM_JA_50 : Cond.methodLink R_JA 50 y_JB_append2 ∈ lw_g := in_c10 158 rfl rfl
theorem kV_JB_append2 : Cond.instanceMethod y_JB_append2 ∈ lw_g := in_c10 159 rfl rfl
theorem kS_JB_append2 : Cond.selects R_JB y_JB_append2 y_JB_append2 ∈ lw_g := in_c10 160 rfl rfl
abbrev b_JB_toString : ByteArray := prog_34_method_42_code
def y_JB_toString : MethodName := ⟨R_JB, "toString", "()Ljava/lang/String;"⟩
abbrev w_JB_toString : List Cond := .code y_JB_toString b_JB_toString 1 (Option.some (.object "java/lang/String")) :: lw_g
theorem kC_JB_toString : Cond.code y_JB_toString b_JB_toString 1 (Option.some (.object "java/lang/String")) ∈ lw_g := in_c10 87 rfl rfl
theorem kM_JA_61 : Cond.methodLink R_JA 61 y_JB_toString ∈ lw_g := in_c10 188 rfl rfl
theorem kV_JB_toString : Cond.instanceMethod y_JB_toString ∈ lw_g := in_c10 85 rfl rfl
theorem kS_JB_toString : Cond.selects R_JB y_JB_toString y_JB_toString ∈ lw_g := in_c10 86 rfl rfl
abbrev at_JA_checkLength (dC : Nat → ClassId) (dI : Nat → Nat → Nat)  (A : Nat → Prop) (u : Unit) (t : State) : Prop := match u with | _ => va_P (dC, dI) cls2 [] t.heap ∧ va_K (dC, dI) cls2 [] t ∧ va_D A []
set_option maxHeartbeats 4000000 in
set_option maxRecDepth 100000 in
theorem c_JA_checkLength (l : Launch) (hlt : l.stackTraces = false) (dC : Nat → ClassId) (dI : Nat → Nat → Nat) (sz : Nat)    (p0 : Int32) (p1 : Int32)  (hp : p0.toInt ≤ p1.toInt) : Met l y_JA_checkLength w_JA_checkLength ({ frames := 0, cells := 0, slots := 0, locals := 0 }) (va_Pc [.int p0, .int p1] (fun U => U.heap.size = sz ∧ va_P (dC, dI) cls2 [] U.heap ∧ va_K (dC, dI) cls2 [] U ∧ va_D (fun _ => True) [])) (va_Qv (fun (u : Unit) => match u with | _ => True) (at_JA_checkLength dC dI  (va_A [] sz)) (va_A [] sz)) 0 0 (va_A [] sz) := by
  refine Met.ofW (cc := b_JA_checkLength) (maxL := 2) (ret := none) (by decide) rfl ?_
  intro p e s m args below meth c s₁ B hml hv
  obtain ⟨rfl, hsz, hP, hK, hD0⟩ := hv
  have hx := B.exec
  have hb := B.bytes
  have hr := B.returns
  have hts0 := atoms_spec (ws := w_JA_checkLength) B.pre
  have hts : ∀ w ∈ lw_g, w.before _ s = true := fun w h => hts0 w (List.mem_cons_of_mem _ h)
  have hown : s.vm.findClass R_JA = some m.cls := findClass_of_methodNamed B.named
  have hlocks := B.notSynchronized
  clear hts0
  subst hsz
  have hD := hD0.self (sz := s.heap.size)
  generalize hAe : va_A [] s.heap.size = A at hD ⊢
  have hA : ∀ q : Nat, s.heap.size ≤ q → A q := fun q h => by rw [← hAe]; exact Or.inr h
  clear hAe
  have hP : va_P (dC, dI) cls2 [] s.heap := hP
  have hl := lv_entry ([.int p0, .int p1]) (n := 2) (Nat.le_of_ble_eq_true rfl)
  rw [lg_entry_eq]
  generalize (lg_sl ([.int p0, .int p1]) ++ List.replicate (2 - (lg_sl ([.int p0, .int p1])).length) Slot.unset).toArray = ls at hl ⊢
  have hl : lv_has ls 2 [(0, .int p0), (1, .int p1)] := hl
  have k0 : (0 : Int32).toInt = 0 := by decide
  refine w_gen (A := A) hP (fun H locs hP hS => ?_)
  have lo_p0 := i32_lo p0
  have hi_p0 := i32_hi p0
  have lo_p1 := i32_lo p1
  have hi_p1 := i32_hi p1
  refine lv_iload_n hx hb d_JA_checkLength_0 rfl (lv_at hl 1 rfl) ?_
  refine lv_iload_n hx hb d_JA_checkLength_1 rfl (lv_at hl 0 rfl) ?_
  refine lv_icmp_ge (tgt := 37) hx hb d_JA_checkLength_2 (by decide) (fun c2 => ?_) (fun c2 => absurd (nleI c2) (by (first | (apply Int.le_antisymm <;> omega) | omega)))
  have q2 := leI c2
  have hP9 := hP.sb (wq := []) [] rfl
  have hD9 := hD.sb (wq := []) [] (by decide) rfl
  exact W.vret hx hb hr (fun t ht hW => ⟨⟨(), rfl, ⟨⟩, va_P.he ht.symm hP9, va_K.moved hW.alike hK, hD9⟩, hS.F ht⟩) hS.2.2 d_JA_checkLength_37
abbrev b_JA_copyOfRangeByte : ByteArray := prog_40_method_133_code
def y_JA_copyOfRangeByte : MethodName := ⟨R_JA, "copyOfRangeByte", "([BII)[B"⟩
abbrev w_JA_copyOfRangeByte : List Cond := .code y_JA_copyOfRangeByte b_JA_copyOfRangeByte 5 (Option.some (.array .byte)) :: lw_g
theorem kC_JA_copyOfRangeByte : Cond.code y_JA_copyOfRangeByte b_JA_copyOfRangeByte 5 (Option.some (.array .byte)) ∈ lw_g := in_c10 116 rfl rfl
theorem d_JA_copyOfRangeByte_0 : decode b_JA_copyOfRangeByte 0 = .ok (.iload_n 1, 1) := bz_c27 (by decide +kernel)
theorem d_JA_copyOfRangeByte_1 : decode b_JA_copyOfRangeByte 1 = .ok (.iload_n 2, 1) := bz_c28 (by decide +kernel)
theorem d_JA_copyOfRangeByte_2 : decode b_JA_copyOfRangeByte 2 = .ok (.invokestatic 343, 3) := bz_c184 (by decide +kernel)
theorem d_JA_copyOfRangeByte_5 : decode b_JA_copyOfRangeByte 5 = .ok (.iload_n 2, 1) := bz_c28 (by decide +kernel)
theorem d_JA_copyOfRangeByte_6 : decode b_JA_copyOfRangeByte 6 = .ok (.iload_n 1, 1) := bz_c27 (by decide +kernel)
theorem d_JA_copyOfRangeByte_7 : decode b_JA_copyOfRangeByte 7 = .ok (.isub, 1) := bz_c100 (by decide +kernel)
theorem d_JA_copyOfRangeByte_8 : decode b_JA_copyOfRangeByte 8 = .ok (.istore_n 3, 1) := bz_c62 (by decide +kernel)
theorem d_JA_copyOfRangeByte_9 : decode b_JA_copyOfRangeByte 9 = .ok (.iload_n 3, 1) := bz_c29 (by decide +kernel)
theorem d_JA_copyOfRangeByte_10 : decode b_JA_copyOfRangeByte 10 = .ok (.newarray .byte, 2) := by decide +kernel
theorem d_JA_copyOfRangeByte_12 : decode b_JA_copyOfRangeByte 12 = .ok (.astore 4, 2) := bz_c58 (by decide +kernel)
theorem d_JA_copyOfRangeByte_14 : decode b_JA_copyOfRangeByte 14 = .ok (.aload_n 0, 1) := bz_c42 (by decide +kernel)
theorem d_JA_copyOfRangeByte_15 : decode b_JA_copyOfRangeByte 15 = .ok (.iload_n 1, 1) := bz_c27 (by decide +kernel)
theorem d_JA_copyOfRangeByte_16 : decode b_JA_copyOfRangeByte 16 = .ok (.aload 4, 2) := bz_c25 (by decide +kernel)
theorem d_JA_copyOfRangeByte_18 : decode b_JA_copyOfRangeByte 18 = .ok (.iconst 0, 1) := bz_c3 (by decide +kernel)
theorem d_JA_copyOfRangeByte_19 : decode b_JA_copyOfRangeByte 19 = .ok (.aload_n 0, 1) := bz_c42 (by decide +kernel)
theorem d_JA_copyOfRangeByte_20 : decode b_JA_copyOfRangeByte 20 = .ok (.arraylength, 1) := bz_c190 (by decide +kernel)
theorem d_JA_copyOfRangeByte_21 : decode b_JA_copyOfRangeByte 21 = .ok (.iload_n 1, 1) := bz_c27 (by decide +kernel)
theorem d_JA_copyOfRangeByte_22 : decode b_JA_copyOfRangeByte 22 = .ok (.isub, 1) := bz_c100 (by decide +kernel)
theorem d_JA_copyOfRangeByte_23 : decode b_JA_copyOfRangeByte 23 = .ok (.iload_n 3, 1) := bz_c29 (by decide +kernel)
theorem d_JA_copyOfRangeByte_24 : decode b_JA_copyOfRangeByte 24 = .ok (.invokestatic 304, 3) := bz_c184 (by decide +kernel)
theorem d_JA_copyOfRangeByte_27 : decode b_JA_copyOfRangeByte 27 = .ok (.invokestatic 150, 3) := bz_c184 (by decide +kernel)
theorem d_JA_copyOfRangeByte_30 : decode b_JA_copyOfRangeByte 30 = .ok (.aload 4, 2) := bz_c25 (by decide +kernel)
theorem d_JA_copyOfRangeByte_32 : decode b_JA_copyOfRangeByte 32 = .ok (.areturn, 1) := bz_c176 (by decide +kernel)
theorem kM_JA_343 : Cond.methodLink R_JA 343 y_JA_checkLength ∈ lw_g := in_c10 117 rfl rfl
theorem kT_JA_checkLength : Cond.static y_JA_checkLength ∈ lw_g := in_c10 118 rfl rfl
abbrev at_JA_copyOfRangeByte (dC : Nat → ClassId) (dI : Nat → Nat → Nat) (sz szl : Nat) (sa : Nat → Nat) (va : Nat) (cpb : ClassId) (nva : Nat) (gva : Nat → Int32) (A : Nat → Prop) (u : (Nat → Int32) × Nat × Nat × Nat × Nat) (t : State) : Prop := match u with | (gnw, kcz, knz, nnw, nw) => va_P (dC, dI) cls2 [(va, .inl (cpb, nva, .inl gva)), (nw, .inl (cpb, nnw, .inl gnw))] t.heap ∧ va_K (dC, dI) cls2 [(cpb, .byte)] t ∧ va_D A [(va, .inl (cpb, nva, .inl gva)), (nw, .inl (cpb, nnw, .inl gnw))] ∧ t.heap.size ≤ sz + kcz ∧ hsl t.heap ≤ szl + knz
set_option maxHeartbeats 4000000 in
set_option maxRecDepth 100000 in
theorem c_JA_copyOfRangeByte (l : Launch) (hlt : l.stackTraces = false) (dC : Nat → ClassId) (dI : Nat → Nat → Nat) (sz : Nat) (szl : Nat) (sa : Nat → Nat) (va : Nat) (cpb : ClassId) (nva : Nat) (gva : Nat → Int32)  (b_gva : ∀ j : Nat, -128 ≤ (gva j).toInt ∧ (gva j).toInt ≤ 127) (p1 : Int32) (p2 : Int32)  (hva : (nva : Int) < 1000000) (hp : 0 ≤ p2.toInt ∧ p2.toInt ≤ (nva : Int)) (hp1 : p1.toInt = 0) : Met l y_JA_copyOfRangeByte w_JA_copyOfRangeByte ({ frames := 1, cells := 1, slots := p2.toInt.toNat, locals := 40 }) (va_Pc [.ref va, .int p1, .int p2] (fun U => U.heap.size = sz ∧ va_P (dC, dI) cls2 [(va, .inl (cpb, nva, .inl gva))] U.heap ∧ va_K (dC, dI) cls2 [(cpb, .byte)] U ∧ va_D (fun _ => True) [(va, .inl (cpb, nva, .inl gva))] ∧ sm sa (va_A [(va, .inl (cpb, nva, .inl gva))] sz) U U.heap ∧ hsl U.heap = szl)) (va_Qr (fun (u : (Nat → Int32) × Nat × Nat × Nat × Nat) => match u with | (gnw2, kcz2, knz2, nnw2, nw2) => (∀ j : Nat, -128 ≤ (gnw2 j).toInt ∧ (gnw2 j).toInt ≤ 127) ∧ ((nnw2 : Int) = p2.toInt ∧ kcz2 = 1 ∧ knz2 = nnw2 ∧ ∀ j, j < nnw2 → gnw2 j = gva j)) (fun (u : (Nat → Int32) × Nat × Nat × Nat × Nat) (ra : Nat) (t : State) => (match u with | (gnw, kcz, knz, nnw, nw) => nw) = ra ∧ (at_JA_copyOfRangeByte dC dI sz szl sa va cpb nva gva (va_A [(va, .inl (cpb, nva, .inl gva))] sz)) u t) (va_A [(va, .inl (cpb, nva, .inl gva))] sz)) (1) (p2.toInt.toNat) (va_A [(va, .inl (cpb, nva, .inl gva))] sz) := by
  refine Met.ofW (cc := b_JA_copyOfRangeByte) (maxL := 5) (ret := (Option.some (.array .byte))) (by decide) rfl ?_
  intro p e s m args below meth c s₁ B hml hv
  obtain ⟨rfl, hsz, hP, hK, hD0, hSW, hszl⟩ := hv
  have hx := B.exec
  have hb := B.bytes
  have hr := B.returns
  have hts0 := atoms_spec (ws := w_JA_copyOfRangeByte) B.pre
  have hts : ∀ w ∈ lw_g, w.before _ s = true := fun w h => hts0 w (List.mem_cons_of_mem _ h)
  have hown : s.vm.findClass R_JA = some m.cls := findClass_of_methodNamed B.named
  have hlocks := B.notSynchronized
  clear hts0
  subst hsz
  subst hszl
  have hD := hD0.self (sz := s.heap.size)
  generalize hAe : va_A [(va, .inl (cpb, nva, .inl gva))] s.heap.size = A at hD hSW ⊢
  have hA : ∀ q : Nat, s.heap.size ≤ q → A q := fun q h => by rw [← hAe]; exact Or.inr h
  clear hAe
  have hP : va_P (dC, dI) cls2 [(va, .inl (cpb, nva, .inl gva))] s.heap := hP
  have hl := lv_entry ([.ref va, .int p1, .int p2]) (n := 5) (Nat.le_of_ble_eq_true rfl)
  rw [lg_entry_eq]
  generalize (lg_sl ([.ref va, .int p1, .int p2]) ++ List.replicate (5 - (lg_sl ([.ref va, .int p1, .int p2])).length) Slot.unset).toArray = ls at hl ⊢
  have hl : lv_has ls 5 [(0, .ref va), (1, .int p1), (2, .int p2)] := hl
  have k0 : (0 : Int32).toInt = 0 := by decide
  refine w_gen (A := A) hP (fun H locs hP hS => ?_)
  have lo_p1 := i32_lo p1
  have hi_p1 := i32_hi p1
  have lo_p2 := i32_lo p2
  have hi_p2 := i32_hi p2
  refine lv_iload_n hx hb d_JA_copyOfRangeByte_0 rfl (lv_at hl 1 rfl) ?_
  refine lv_iload_n hx hb d_JA_copyOfRangeByte_1 rfl (lv_at hl 2 rfl) ?_
  have hPc := @vp_nil
  have hDc := hD.sb (wq := []) [] (by decide) rfl
  have hKc := hK.sb (tyq := []) [] rfl
  have hFc := va_free (wc := []) hD hS hA [] rfl
  refine va_callv (va_runS (As := [.int p1, .int p2]) (rest := []) ⟨hx, hb, hml, hown, hts⟩ (c_JA_checkLength l hlt dC dI H.size p1 p2 (by (try dsimp only) <;> (first | (apply Int.le_antisymm <;> omega) | omega))) ⟨callB_of 2 hts (gW kC_JA_checkLength) rfl rfl rfl (hts _ kI_JA) (hts _ kM_JA_343) (by decide +kernel) ⟨Nat.le_of_ble_eq_true rfl, Nat.le_of_ble_eq_true rfl⟩, hts _ kT_JA_checkLength⟩ ⟨fun a U g mk z => by obtain ⟨z0, z1, zP, zK, zD⟩ := z; exact ⟨z0, z1, zP, va_K.moved (u := U) (U := U.calling g mk a) (Vm.Alike.refl U.vm) zK, zD⟩, fun U hU hW => ⟨rfl, by rw [hU], va_P.he hU.symm hPc, va_K.moved hW.alike hKc, hDc.weaken (fun _ _ _ _ => trivial)⟩⟩ rfl rfl hl.1 rfl (lv_room (Nat.le_of_ble_eq_true rfl)) d_JA_copyOfRangeByte_2 ⟨by dsimp only [headSpec]; (first | (apply Int.le_antisymm <;> omega) | omega), by dsimp only [headSpec]; (first | (apply Int.le_antisymm <;> omega) | omega)⟩) hS (fun q _ h => hFc q h) hFc (fun u t H1 locs ht hvm hw hB hz1 hk1 hS => ?_)
  try dsimp only at hw
  try clear hw
  obtain ⟨hP1, hK1, hD1⟩ := hB
  replace hP1 := va_P.he ht hP1
  replace hP1 := @vp_nil (dC, dI) cls2 H1
  obtain ⟨hP, hD⟩ := va_join (wr := [(va, .inl (cpb, nva, .inl gva))]) (w1 := []) hP hD [] [0] rfl rfl (by decide) (by decide) hk1 hFc hP1 hD1
  clear hPc hDc hKc hFc hz1 hk1 hP1 hK1 hD1
  rename Heap => H
  have hP : va_P (dC, dI) cls2 [(va, .inl (cpb, nva, .inl gva))] H := hP
  have hD : va_D A [(va, .inl (cpb, nva, .inl gva))] := hD
  refine lv_iload_n hx hb d_JA_copyOfRangeByte_5 rfl (lv_at hl 2 rfl) ?_
  refine lv_iload_n hx hb d_JA_copyOfRangeByte_6 rfl (lv_at hl 1 rfl) ?_
  refine lv_isub hx hb d_JA_copyOfRangeByte_7 ?_
  refine lv_topi (fun x4 ex4 => ?_)
  have tx4 : x4.toInt = p2.toInt - p1.toInt := by have z := i32_sub ex4 (by (first | (apply Int.le_antisymm <;> omega) | omega)) (by (first | (apply Int.le_antisymm <;> omega) | omega)); first | exact z | (first | (apply Int.le_antisymm <;> omega) | omega)
  refine lv_istore_n (lv' := [(3, .int x4), (0, .ref va), (1, .int p1), (2, .int p2)]) hx hb d_JA_copyOfRangeByte_8 rfl hl (by decide) rfl (fun ls hl => ?_)
  refine lv_iload_n hx hb d_JA_copyOfRangeByte_9 rfl (lv_at hl 0 rfl) ?_
  obtain ⟨N5, eN5⟩ : ∃ z : Nat, x4.toNatClampNeg = z := ⟨_, rfl⟩
  have tN5 : (N5 : Int) = x4.toInt := by rw [← eN5]; exact i32_clamp (by (first | (apply Int.le_antisymm <;> omega) | omega))
  refine vn_newb hx hb (hts _ ka_byte) hK hP hD hS hA 0 rfl N5 (nneg9 (by (first | (apply Int.le_antisymm <;> omega) | omega))) eN5 (by (first | (apply Int.le_antisymm <;> omega) | omega)) (by dsimp only [headSpec]; (first | (apply Int.le_antisymm <;> omega) | omega)) (by dsimp only [headSpec]; (first | (apply Int.le_antisymm <;> omega) | omega)) d_JA_copyOfRangeByte_10 (fun nq10 H hP hD hS => ?_)
  have hP : va_P (dC, dI) cls2 [(va, .inl (cpb, nva, .inl gva)), (nq10, .inl (cpb, N5, .inl (fun _ => 0)))] H := hP
  have hD : va_D A [(va, .inl (cpb, nva, .inl gva)), (nq10, .inl (cpb, N5, .inl (fun _ => 0)))] := hD
  refine lv_astore (lv' := [(4, .ref nq10), (3, .int x4), (0, .ref va), (1, .int p1), (2, .int p2)]) hx hb d_JA_copyOfRangeByte_12 hl (by decide) rfl (fun ls hl => ?_)
  refine lv_aload_n hx hb d_JA_copyOfRangeByte_14 rfl (lv_at hl 2 rfl) ?_
  refine lv_iload_n hx hb d_JA_copyOfRangeByte_15 rfl (lv_at hl 3 rfl) ?_
  refine lv_aload hx hb d_JA_copyOfRangeByte_16 (lv_at hl 0 rfl) ?_
  refine lv_iconst (v := 0) hx hb d_JA_copyOfRangeByte_18 (by decide) ?_
  refine lv_aload_n hx hb d_JA_copyOfRangeByte_19 rfl (lv_at hl 2 rfl) ?_
  refine va_alen hx hb hK hP 0 0 rfl rfl rfl d_JA_copyOfRangeByte_20 ?_
  refine lv_topi (fun x6 ex6 => ?_)
  have tx6 : x6.toInt = nva := by rw [ex6]; exact i32_len (by (first | (apply Int.le_antisymm <;> omega) | omega))
  refine lv_iload_n hx hb d_JA_copyOfRangeByte_21 rfl (lv_at hl 3 rfl) ?_
  refine lv_isub hx hb d_JA_copyOfRangeByte_22 ?_
  refine lv_topi (fun x7 ex7 => ?_)
  have tx7 : x7.toInt = x6.toInt - p1.toInt := by have z := i32_sub ex7 (by (first | (apply Int.le_antisymm <;> omega) | omega)) (by (first | (apply Int.le_antisymm <;> omega) | omega)); first | exact z | (first | (apply Int.le_antisymm <;> omega) | omega)
  refine lv_iload_n hx hb d_JA_copyOfRangeByte_23 rfl (lv_at hl 1 rfl) ?_
  refine va_mmin hx hb (hml.trans hl.1.symm) hown (hts _ kM_JA_304) (hts _ kT_JM_min0) (hts _ kI_JM) (hts _ kC_JM_min0) (Nat.le_of_ble_eq_true rfl) (Nat.le_of_ble_eq_true rfl) (by dsimp only [headSpec]; (first | (apply Int.le_antisymm <;> omega) | omega)) (by dsimp only [headSpec]; (first | (apply Int.le_antisymm <;> omega) | omega)) d_JA_copyOfRangeByte_24 ?_
  refine lv_topi (fun x8 ex8 => ?_)
  have tx8 := min32 ex8
  have z9p1 := i32_clamp (x := p1) (by (first | (apply Int.le_antisymm <;> omega) | omega))
  have z9x8 := i32_clamp (x := x8) (by (first | (apply Int.le_antisymm <;> omega) | omega))
  have k00 : (0 : Int32).toNatClampNeg = 0 := rfl
  refine va_copyi (ty := .byte) hx hb (hml.trans hl.1.symm) hown (hts _ kM_JA_150) (hts _ kNA_ac) (hts _ kT_ac) (hts _ kI_sys) hK hP hD hS 0 1 0 0 rfl rfl rfl rfl rfl (nneg9 (by (first | (apply Int.le_antisymm <;> omega) | omega))) (by decide) (nneg9 (by (first | (apply Int.le_antisymm <;> omega) | omega))) (by (first | (apply Int.le_antisymm <;> omega) | omega)) (by (first | (apply Int.le_antisymm <;> omega) | omega)) (fun i9 _ => fits_b (b_gva _)) (Nat.le_of_ble_eq_true rfl) (Nat.le_of_ble_eq_true rfl) d_JA_copyOfRangeByte_27 (fun H locs hP hD hS => ?_)
  have hP : va_P (dC, dI) cls2 [(va, .inl (cpb, nva, .inl gva)), (nq10, .inl (cpb, N5, .inl ((va_cpy gva (fun _ => 0) p1.toNatClampNeg (0 : Int32).toNatClampNeg x8.toNatClampNeg))))] H := hP
  have hD : va_D A [(va, .inl (cpb, nva, .inl gva)), (nq10, .inl (cpb, N5, .inl ((va_cpy gva (fun _ => 0) p1.toNatClampNeg (0 : Int32).toNatClampNeg x8.toNatClampNeg))))] := hD
  generalize ef9 : va_cpy gva (fun _ => 0) p1.toNatClampNeg (0 : Int32).toNatClampNeg x8.toNatClampNeg = f9 at hP hD
  have b_f9 : ∀ j : Nat, -128 ≤ (f9 j).toInt ∧ (f9 j).toInt ≤ 127 := by rw [← ef9]; exact cpy_el (b_gva) (zero_el)
  refine lv_aload hx hb d_JA_copyOfRangeByte_30 (lv_at hl 0 rfl) ?_
  have hP9 := hP.sb (wq := [(va, .inl (cpb, nva, .inl gva)), (nq10, .inl (cpb, N5, .inl f9))]) [0, 1] rfl
  have hD9 := hD.sb (wq := [(va, .inl (cpb, nva, .inl gva)), (nq10, .inl (cpb, N5, .inl f9))]) [0, 1] (by decide) rfl
  refine w_known (fun hzc hzs => ?_)
  refine W.widen (k := 1) (n := p2.toInt.toNat) (by (first | (apply Int.le_antisymm <;> omega) | omega)) (by (first | (apply Int.le_antisymm <;> omega) | omega)) ?_
  exact W.aret (v := .ref nq10) hx hb hr (Or.inr ⟨_, rfl⟩) (Or.inr ⟨_, rfl⟩) (fun t ht hW => ⟨⟨(f9, 0 + 0 + 1, 0 + 0 + N5, N5, nq10), nq10, rfl, ⟨b_f9, ⟨by (first | (apply Int.le_antisymm <;> omega) | omega), by (first | (apply Int.le_antisymm <;> omega) | omega), by (first | (apply Int.le_antisymm <;> omega) | omega), fun j hj => by rw [← ef9]; exact cpy1 (by (first | (apply Int.le_antisymm <;> omega) | omega)) rfl (by (first | (apply Int.le_antisymm <;> omega) | omega))⟩⟩, rfl, va_P.he ht.symm hP9, va_K.moved hW.alike hK, hD9, by rw [ht]; exact hzc, by rw [ht]; exact hzs⟩, hS.F ht⟩) hS.2.2 d_JA_copyOfRangeByte_32
abbrev b_JA_copyOfRange : ByteArray := prog_40_method_132_code
def y_JA_copyOfRange : MethodName := ⟨R_JA, "copyOfRange", "([BII)[B"⟩
abbrev w_JA_copyOfRange : List Cond := .code y_JA_copyOfRange b_JA_copyOfRange 3 (Option.some (.array .byte)) :: lw_g
theorem kC_JA_copyOfRange : Cond.code y_JA_copyOfRange b_JA_copyOfRange 3 (Option.some (.array .byte)) ∈ lw_g := in_c10 113 rfl rfl
theorem d_JA_copyOfRange_0 : decode b_JA_copyOfRange 0 = .ok (.iload_n 1, 1) := bz_c27 (by decide +kernel)
theorem d_JA_copyOfRange_1 : decode b_JA_copyOfRange 1 = .ok (.ifCond .ne 9, 3) := bz_c154 (by decide +kernel)
theorem d_JA_copyOfRange_4 : decode b_JA_copyOfRange 4 = .ok (.iload_n 2, 1) := bz_c28 (by decide +kernel)
theorem d_JA_copyOfRange_5 : decode b_JA_copyOfRange 5 = .ok (.aload_n 0, 1) := bz_c42 (by decide +kernel)
theorem d_JA_copyOfRange_6 : decode b_JA_copyOfRange 6 = .ok (.arraylength, 1) := bz_c190 (by decide +kernel)
theorem d_JA_copyOfRange_7 : decode b_JA_copyOfRange 7 = .ok (.if_icmp .eq 10, 3) := bz_c159 (by decide +kernel)
theorem d_JA_copyOfRange_10 : decode b_JA_copyOfRange 10 = .ok (.aload_n 0, 1) := bz_c42 (by decide +kernel)
theorem d_JA_copyOfRange_11 : decode b_JA_copyOfRange 11 = .ok (.iload_n 1, 1) := bz_c27 (by decide +kernel)
theorem d_JA_copyOfRange_12 : decode b_JA_copyOfRange 12 = .ok (.iload_n 2, 1) := bz_c28 (by decide +kernel)
theorem d_JA_copyOfRange_13 : decode b_JA_copyOfRange 13 = .ok (.invokestatic 339, 3) := bz_c184 (by decide +kernel)
theorem d_JA_copyOfRange_16 : decode b_JA_copyOfRange 16 = .ok (.areturn, 1) := bz_c176 (by decide +kernel)
theorem d_JA_copyOfRange_17 : decode b_JA_copyOfRange 17 = .ok (.aload_n 0, 1) := bz_c42 (by decide +kernel)
theorem d_JA_copyOfRange_18 : decode b_JA_copyOfRange 18 = .ok (.invokevirtual 310, 3) := bz_c182 (by decide +kernel)
theorem d_JA_copyOfRange_21 : decode b_JA_copyOfRange 21 = .ok (.checkcast 311, 3) := bz_c192 (by decide +kernel)
theorem d_JA_copyOfRange_24 : decode b_JA_copyOfRange 24 = .ok (.areturn, 1) := bz_c176 (by decide +kernel)
theorem kM_JA_339 : Cond.methodLink R_JA 339 y_JA_copyOfRangeByte ∈ lw_g := in_c10 114 rfl rfl
theorem kT_JA_copyOfRangeByte : Cond.static y_JA_copyOfRangeByte ∈ lw_g := in_c10 115 rfl rfl
theorem kM_JA_310 : Cond.methodLink R_JA 310 ⟨"[B", "clone", "()Ljava/lang/Object;"⟩ ∈ lw_g := in_c10 38 rfl rfl
theorem kSM_cl : Cond.sameMethod "[B" "java/lang/Object" "clone" "()Ljava/lang/Object;" ∈ lw_g := in_c10 39 rfl rfl
theorem kNA_cl : Cond.native ⟨"java/lang/Object", "clone", "()Ljava/lang/Object;"⟩ ∈ lw_g := in_c10 40 rfl rfl
theorem kV_cl : Cond.instanceMethod ⟨"java/lang/Object", "clone", "()Ljava/lang/Object;"⟩ ∈ lw_g := in_c10 41 rfl rfl
theorem kS_cl : Cond.selects "[B" ⟨"[B", "clone", "()Ljava/lang/Object;"⟩ ⟨"java/lang/Object", "clone", "()Ljava/lang/Object;"⟩ ∈ lw_g := in_c10 42 rfl rfl
theorem kK_JA_311 : Cond.classLink R_JA 311 "[B" ∈ lw_g := in_c10 44 rfl rfl
abbrev at_JA_copyOfRange (dC : Nat → ClassId) (dI : Nat → Nat → Nat) (sz szl : Nat) (sa : Nat → Nat) (va : Nat) (cpb : ClassId) (nva : Nat) (gva : Nat → Int32) (A : Nat → Prop) (u : (Nat → Int32) × Nat × Nat × Nat × Nat) (t : State) : Prop := match u with | (gnw, kcz, knz, nnw, nw) => va_P (dC, dI) cls2 [(va, .inl (cpb, nva, .inl gva)), (nw, .inl (cpb, nnw, .inl gnw))] t.heap ∧ va_K (dC, dI) cls2 [(cpb, .byte)] t ∧ va_D A [(va, .inl (cpb, nva, .inl gva)), (nw, .inl (cpb, nnw, .inl gnw))] ∧ t.heap.size ≤ sz + kcz ∧ hsl t.heap ≤ szl + knz
set_option maxHeartbeats 4000000 in
set_option maxRecDepth 100000 in
theorem c_JA_copyOfRange (l : Launch) (hlt : l.stackTraces = false) (dC : Nat → ClassId) (dI : Nat → Nat → Nat) (sz : Nat) (szl : Nat) (sa : Nat → Nat) (va : Nat) (cpb : ClassId) (nva : Nat) (gva : Nat → Int32)  (b_gva : ∀ j : Nat, -128 ≤ (gva j).toInt ∧ (gva j).toInt ≤ 127) (p1 : Int32) (p2 : Int32)  (hva : (nva : Int) < 1000000) (hp : 0 ≤ p2.toInt ∧ p2.toInt ≤ (nva : Int)) (hp1 : p1.toInt = 0) : Met l y_JA_copyOfRange w_JA_copyOfRange ({ frames := 2, cells := 1, slots := p2.toInt.toNat, locals := 64 }) (va_Pc [.ref va, .int p1, .int p2] (fun U => U.heap.size = sz ∧ va_P (dC, dI) cls2 [(va, .inl (cpb, nva, .inl gva))] U.heap ∧ va_K (dC, dI) cls2 [(cpb, .byte)] U ∧ va_D (fun _ => True) [(va, .inl (cpb, nva, .inl gva))] ∧ sm sa (va_A [(va, .inl (cpb, nva, .inl gva))] sz) U U.heap ∧ hsl U.heap = szl)) (va_Qr (fun (u : (Nat → Int32) × Nat × Nat × Nat × Nat) => match u with | (gnw2, kcz2, knz2, nnw2, nw2) => (∀ j : Nat, -128 ≤ (gnw2 j).toInt ∧ (gnw2 j).toInt ≤ 127) ∧ ((nnw2 : Int) = p2.toInt ∧ kcz2 = 1 ∧ knz2 = nnw2 ∧ ∀ j, j < nnw2 → gnw2 j = gva j)) (fun (u : (Nat → Int32) × Nat × Nat × Nat × Nat) (ra : Nat) (t : State) => (match u with | (gnw, kcz, knz, nnw, nw) => nw) = ra ∧ (at_JA_copyOfRange dC dI sz szl sa va cpb nva gva (va_A [(va, .inl (cpb, nva, .inl gva))] sz)) u t) (va_A [(va, .inl (cpb, nva, .inl gva))] sz)) (1) (p2.toInt.toNat) (va_A [(va, .inl (cpb, nva, .inl gva))] sz) := by
  refine Met.ofW (cc := b_JA_copyOfRange) (maxL := 3) (ret := (Option.some (.array .byte))) (by decide) rfl ?_
  intro p e s m args below meth c s₁ B hml hv
  obtain ⟨rfl, hsz, hP, hK, hD0, hSW, hszl⟩ := hv
  have hx := B.exec
  have hb := B.bytes
  have hr := B.returns
  have hts0 := atoms_spec (ws := w_JA_copyOfRange) B.pre
  have hts : ∀ w ∈ lw_g, w.before _ s = true := fun w h => hts0 w (List.mem_cons_of_mem _ h)
  have hown : s.vm.findClass R_JA = some m.cls := findClass_of_methodNamed B.named
  have hlocks := B.notSynchronized
  clear hts0
  subst hsz
  subst hszl
  have hD := hD0.self (sz := s.heap.size)
  generalize hAe : va_A [(va, .inl (cpb, nva, .inl gva))] s.heap.size = A at hD hSW ⊢
  have hA : ∀ q : Nat, s.heap.size ≤ q → A q := fun q h => by rw [← hAe]; exact Or.inr h
  clear hAe
  have hP : va_P (dC, dI) cls2 [(va, .inl (cpb, nva, .inl gva))] s.heap := hP
  have hl := lv_entry ([.ref va, .int p1, .int p2]) (n := 3) (Nat.le_of_ble_eq_true rfl)
  rw [lg_entry_eq]
  generalize (lg_sl ([.ref va, .int p1, .int p2]) ++ List.replicate (3 - (lg_sl ([.ref va, .int p1, .int p2])).length) Slot.unset).toArray = ls at hl ⊢
  have hl : lv_has ls 3 [(0, .ref va), (1, .int p1), (2, .int p2)] := hl
  have k0 : (0 : Int32).toInt = 0 := by decide
  refine w_gen (A := A) hP (fun H locs hP hS => ?_)
  have lo_p1 := i32_lo p1
  have hi_p1 := i32_hi p1
  have lo_p2 := i32_lo p2
  have hi_p2 := i32_hi p2
  refine lv_iload_n hx hb d_JA_copyOfRange_0 rfl (lv_at hl 1 rfl) ?_
  refine lv_if_ne (tgt := 10) hx hb d_JA_copyOfRange_1 (by decide) (fun c1 => absurd (neI c1) (by (first | (apply Int.le_antisymm <;> omega) | omega))) (fun c1 => ?_)
  have q1 := eqI c1
  refine lv_iload_n hx hb d_JA_copyOfRange_4 rfl (lv_at hl 2 rfl) ?_
  refine lv_aload_n hx hb d_JA_copyOfRange_5 rfl (lv_at hl 0 rfl) ?_
  refine va_alen hx hb hK hP 0 0 rfl rfl rfl d_JA_copyOfRange_6 ?_
  refine lv_topi (fun x1 ex1 => ?_)
  have tx1 : x1.toInt = nva := by rw [ex1]; exact i32_len (by (first | (apply Int.le_antisymm <;> omega) | omega))
  refine lv_icmp_eq (tgt := 17) hx hb d_JA_copyOfRange_7 (by decide) (fun c7 => ?_) (fun c7 => ?_)
  · have q7 := eqI c7
    refine lv_aload_n hx hb d_JA_copyOfRange_17 rfl (lv_at hl 0 rfl) ?_
    refine va_clone (ad := "[B") hx hb (hml.trans hl.1.symm) hown (hts _ kM_JA_310) (hts _ kSM_cl) (hts _ kNA_cl) (hts _ kV_cl) (hts _ kS_cl) hSW.cl hK hP hD hS hA 0 0 rfl rfl (va_nm_byte (hK.2 0 _ rfl).2) (fit_cell (b_gva)) (Nat.le_of_ble_eq_true rfl) (Nat.le_of_ble_eq_true rfl) (by dsimp only [headSpec]; (first | (apply Int.le_antisymm <;> omega) | omega)) (by dsimp only [headSpec]; (first | (apply Int.le_antisymm <;> omega) | omega)) d_JA_copyOfRange_18 (fun nq18 H hK9 hP hD hS => ?_)
    clear hK9
    have hP : va_P (dC, dI) cls2 [(va, .inl (cpb, nva, .inl gva)), (nq18, .inl (cpb, nva, .inl gva))] H := hP
    have hD : va_D A [(va, .inl (cpb, nva, .inl gva)), (nq18, .inl (cpb, nva, .inl gva))] := hD
    refine va_castA (nm := "[B") hx hb hown (hts _ kK_JA_311) hP 1 rfl (va_nm_byte (hK.2 0 _ rfl).2) d_JA_copyOfRange_21 ?_
    have hP9 := hP.sb (wq := [(va, .inl (cpb, nva, .inl gva)), (nq18, .inl (cpb, nva, .inl gva))]) [0, 1] rfl
    have hD9 := hD.sb (wq := [(va, .inl (cpb, nva, .inl gva)), (nq18, .inl (cpb, nva, .inl gva))]) [0, 1] (by decide) rfl
    refine w_known (fun hzc hzs => ?_)
    refine W.widen (k := 1) (n := p2.toInt.toNat) (by (first | (apply Int.le_antisymm <;> omega) | omega)) (by (first | (apply Int.le_antisymm <;> omega) | omega)) ?_
    exact W.aret (v := .ref nq18) hx hb hr (Or.inr ⟨_, rfl⟩) (Or.inr ⟨_, rfl⟩) (fun t ht hW => ⟨⟨(gva, 0 + 1, 0 + nva, nva, nq18), nq18, rfl, ⟨b_gva, ⟨by (first | (apply Int.le_antisymm <;> omega) | omega), by (first | (apply Int.le_antisymm <;> omega) | omega), by (first | (apply Int.le_antisymm <;> omega) | omega), fun j _ => rfl⟩⟩, rfl, va_P.he ht.symm hP9, va_K.moved hW.alike hK, hD9, by rw [ht]; exact hzc, by rw [ht]; exact hzs⟩, hS.F ht⟩) hS.2.2 d_JA_copyOfRange_24
  · have q7 := neI c7
    refine lv_aload_n hx hb d_JA_copyOfRange_10 rfl (lv_at hl 0 rfl) ?_
    refine lv_iload_n hx hb d_JA_copyOfRange_11 rfl (lv_at hl 1 rfl) ?_
    refine lv_iload_n hx hb d_JA_copyOfRange_12 rfl (lv_at hl 2 rfl) ?_
    refine w_known (fun hzc hzs => ?_)
    have hPc := hP.sb (wq := [(va, .inl (cpb, nva, .inl gva))]) [0] rfl
    have hDc := hD.sb (wq := [(va, .inl (cpb, nva, .inl gva))]) [0] (by decide) rfl
    have hKc := hK.sb (tyq := [(cpb, .byte)]) [0] rfl
    have hFc := va_free (wc := [(va, .inl (cpb, nva, .inl gva))]) hD hS hA [0] rfl
    refine va_callr (va_runS (As := [.ref va, .int p1, .int p2]) (rest := []) ⟨hx, hb, hml, hown, hts⟩ (c_JA_copyOfRangeByte l hlt dC dI H.size (hsl H) sa va cpb nva gva (b_gva) p1 p2 (by (try dsimp only) <;> (first | (apply Int.le_antisymm <;> omega) | omega)) (by (try dsimp only) <;> (first | (apply Int.le_antisymm <;> omega) | omega)) (hp1)) ⟨callB_of 3 hts (gW kC_JA_copyOfRangeByte) rfl rfl rfl (hts _ kI_JA) (hts _ kM_JA_339) (by decide +kernel) ⟨Nat.le_of_ble_eq_true rfl, Nat.le_of_ble_eq_true rfl⟩, hts _ kT_JA_copyOfRangeByte⟩ ⟨fun a U g mk z => by obtain ⟨z0, z1, zP, zK, zD, zS, zZ⟩ := z; exact ⟨z0, z1, zP, va_K.moved (u := U) (U := U.calling g mk a) (Vm.Alike.refl U.vm) zK, zD, sm.same (u := U) (U := U.calling g mk a) rfl zS, zZ⟩, fun U hU hW => ⟨rfl, by rw [hU], va_P.he hU.symm hPc, va_K.moved hW.alike hKc, hDc.weaken (fun _ _ _ _ => trivial), hSW.call hS hFc hW hU, by rw [hU]⟩⟩ rfl rfl hl.1 rfl (lv_room (Nat.le_of_ble_eq_true rfl)) d_JA_copyOfRange_13 ⟨by dsimp only [headSpec]; (first | (apply Int.le_antisymm <;> omega) | omega), by dsimp only [headSpec]; (first | (apply Int.le_antisymm <;> omega) | omega)⟩) hS (fun q _ h => hFc q h) hFc (fun u ra t H1 locs ht hvm hw hB hz1 hk1 hS => ?_)
    obtain ⟨n3, n4, n5, n6, nq13_nw⟩ := u
    try dsimp only at hw
    obtain ⟨bn3, xr2⟩ := hw
    try clear hw
    obtain ⟨y1, y2, y3, y4⟩ := xr2
    dsimp only at hB
    obtain ⟨rfl, hB⟩ := hB
    obtain ⟨hP1, hK1, hD1, hZc, hZs⟩ := hB
    rw [ht] at hP1 hZc hZs
    obtain ⟨kc7, ekc7⟩ : ∃ z : Nat, z = 0 + n4 := ⟨_, rfl⟩
    obtain ⟨kn8, ekn8⟩ : ∃ z : Nat, z = 0 + n5 := ⟨_, rfl⟩
    refine w_refund (c2 := kc7) (n2 := kn8) (by (first | (apply Int.le_antisymm <;> omega) | omega)) (by (first | (apply Int.le_antisymm <;> omega) | omega)) ?_
    clear hzc hzs hZc hZs
    obtain ⟨hP, hD⟩ := va_join (wr := []) (w1 := [(va, .inl (cpb, nva, .inl gva)), (nq13_nw, .inl (cpb, n6, .inl n3))]) hP hD [0] [] rfl rfl (by decide) (by decide) hk1 hFc hP1 hD1
    clear hPc hDc hKc hFc hz1 hk1 hP1 hK1 hD1
    rename Heap => H
    have hP : va_P (dC, dI) cls2 [(va, .inl (cpb, nva, .inl gva)), (nq13_nw, .inl (cpb, n6, .inl n3))] H := hP
    have hD : va_D A [(va, .inl (cpb, nva, .inl gva)), (nq13_nw, .inl (cpb, n6, .inl n3))] := hD
    have hP9 := hP.sb (wq := [(va, .inl (cpb, nva, .inl gva)), (nq13_nw, .inl (cpb, n6, .inl n3))]) [0, 1] rfl
    have hD9 := hD.sb (wq := [(va, .inl (cpb, nva, .inl gva)), (nq13_nw, .inl (cpb, n6, .inl n3))]) [0, 1] (by decide) rfl
    refine w_known (fun hzc hzs => ?_)
    refine W.widen (k := 1) (n := p2.toInt.toNat) (by (first | (apply Int.le_antisymm <;> omega) | omega)) (by (first | (apply Int.le_antisymm <;> omega) | omega)) ?_
    exact W.aret (v := .ref nq13_nw) hx hb hr (Or.inr ⟨_, rfl⟩) (Or.inr ⟨_, rfl⟩) (fun t ht hW => ⟨⟨(n3, kc7, kn8, n6, nq13_nw), nq13_nw, rfl, ⟨bn3, ⟨by (first | (apply Int.le_antisymm <;> omega) | omega), by (first | (apply Int.le_antisymm <;> omega) | omega), by (first | (apply Int.le_antisymm <;> omega) | omega), y4⟩⟩, rfl, va_P.he ht.symm hP9, va_K.moved hW.alike hK, hD9, by rw [ht]; exact hzc, by rw [ht]; exact hzs⟩, hS.F ht⟩) hS.2.2 d_JA_copyOfRange_16
abbrev b_JQ_isLatin1 : ByteArray := prog_20_method_68_code
def y_JQ_isLatin1 : MethodName := ⟨R_JQ, "isLatin1", "()Z"⟩
abbrev w_JQ_isLatin1 : List Cond := .code y_JQ_isLatin1 b_JQ_isLatin1 1 (Option.some .boolean) :: lw_g
theorem kC_JQ_isLatin1 : Cond.code y_JQ_isLatin1 b_JQ_isLatin1 1 (Option.some .boolean) ∈ lw_g := in_c10 55 rfl rfl
theorem d_JQ_isLatin1_0 : decode b_JQ_isLatin1 0 = .ok (.getstatic 18, 3) := bz_c178 (by decide +kernel)
theorem d_JQ_isLatin1_3 : decode b_JQ_isLatin1 3 = .ok (.ifCond .eq 14, 3) := bz_c153 (by decide +kernel)
theorem d_JQ_isLatin1_6 : decode b_JQ_isLatin1 6 = .ok (.aload_n 0, 1) := bz_c42 (by decide +kernel)
theorem d_JQ_isLatin1_7 : decode b_JQ_isLatin1 7 = .ok (.getfield 22, 3) := bz_c180 (by decide +kernel)
theorem d_JQ_isLatin1_10 : decode b_JQ_isLatin1 10 = .ok (.ifCond .ne 7, 3) := bz_c154 (by decide +kernel)
theorem d_JQ_isLatin1_13 : decode b_JQ_isLatin1 13 = .ok (.iconst 1, 1) := bz_c4 (by decide +kernel)
theorem d_JQ_isLatin1_14 : decode b_JQ_isLatin1 14 = .ok (.goto 4, 3) := bz_c167 (by decide +kernel)
theorem d_JQ_isLatin1_17 : decode b_JQ_isLatin1 17 = .ok (.iconst 0, 1) := bz_c3 (by decide +kernel)
theorem d_JQ_isLatin1_18 : decode b_JQ_isLatin1 18 = .ok (.ireturn, 1) := bz_c172 (by decide +kernel)
theorem kF_JQ_18 : Cond.fieldLink R_JQ 18 "java/lang/String" "COMPACT_STRINGS" "Z" ∈ lw_g := in_c9 225 rfl rfl
theorem kF_JQ_22 : Cond.fieldLink R_JQ 22 "java/lang/AbstractStringBuilder" "coder" "B" ∈ lw_g := in_c9 234 rfl rfl
abbrev at_JQ_isLatin1 (dC : Nat → ClassId) (dI : Nat → Nat → Nat) (sa : Nat → Nat) (h0 va : Nat) (h0_maybeLatin1 : Int32) (h0_count : Int32) (A : Nat → Prop) (u : Unit) (t : State) : Prop := match u with | _ => va_P (dC, dI) cls2 [(h0, .inr (17, [.ref va, .int 0, .int h0_maybeLatin1, .int h0_count]))] t.heap ∧ va_K (dC, dI) cls2 [] t ∧ va_D A [(h0, .inr (17, [.ref va, .int 0, .int h0_maybeLatin1, .int h0_count]))]
set_option maxHeartbeats 4000000 in
set_option maxRecDepth 100000 in
theorem c_JQ_isLatin1 (l : Launch) (hlt : l.stackTraces = false) (dC : Nat → ClassId) (dI : Nat → Nat → Nat) (sz : Nat) (sa : Nat → Nat) (h0 va : Nat) (h0_maybeLatin1 : Int32) (h0_count : Int32)      : Met l y_JQ_isLatin1 w_JQ_isLatin1 ({ frames := 0, cells := 0, slots := 0, locals := 0 }) (va_Pc [.ref h0] (fun U => U.heap.size = sz ∧ va_P (dC, dI) cls2 [(h0, .inr (17, [.ref va, .int 0, .int h0_maybeLatin1, .int h0_count]))] U.heap ∧ va_K (dC, dI) cls2 [] U ∧ va_D (fun _ => True) [(h0, .inr (17, [.ref va, .int 0, .int h0_maybeLatin1, .int h0_count]))] ∧ sm sa (va_A [(h0, .inr (17, [.ref va, .int 0, .int h0_maybeLatin1, .int h0_count]))] sz) U U.heap)) (va_Qi (fun (r : Int32) (u : Unit) => match u with | _ => (r = 0 ∨ r = 1) ∧ (r.toInt = 1)) (at_JQ_isLatin1 dC dI sa h0 va h0_maybeLatin1 h0_count (va_A [(h0, .inr (17, [.ref va, .int 0, .int h0_maybeLatin1, .int h0_count]))] sz)) (va_A [(h0, .inr (17, [.ref va, .int 0, .int h0_maybeLatin1, .int h0_count]))] sz)) 0 0 (va_A [(h0, .inr (17, [.ref va, .int 0, .int h0_maybeLatin1, .int h0_count]))] sz) := by
  refine Met.ofW (cc := b_JQ_isLatin1) (maxL := 1) (ret := (Option.some .boolean)) (by decide) rfl ?_
  intro p e s m args below meth c s₁ B hml hv
  obtain ⟨rfl, hsz, hP, hK, hD0, hSW⟩ := hv
  have hx := B.exec
  have hb := B.bytes
  have hr := B.returns
  have hts0 := atoms_spec (ws := w_JQ_isLatin1) B.pre
  have hts : ∀ w ∈ lw_g, w.before _ s = true := fun w h => hts0 w (List.mem_cons_of_mem _ h)
  have hown : s.vm.findClass R_JQ = some m.cls := findClass_of_methodNamed B.named
  have hlocks := B.notSynchronized
  clear hts0
  subst hsz
  have hD := hD0.self (sz := s.heap.size)
  generalize hAe : va_A [(h0, .inr (17, [.ref va, .int 0, .int h0_maybeLatin1, .int h0_count]))] s.heap.size = A at hD hSW ⊢
  have hA : ∀ q : Nat, s.heap.size ≤ q → A q := fun q h => by rw [← hAe]; exact Or.inr h
  clear hAe
  have hP : va_P (dC, dI) cls2 [(h0, .inr (17, [.ref va, .int 0, .int h0_maybeLatin1, .int h0_count]))] s.heap := hP
  have hl := lv_entry ([.ref h0]) (n := 1) (Nat.le_of_ble_eq_true rfl)
  rw [lg_entry_eq]
  generalize (lg_sl ([.ref h0]) ++ List.replicate (1 - (lg_sl ([.ref h0])).length) Slot.unset).toArray = ls at hl ⊢
  have hl : lv_has ls 1 [(0, .ref h0)] := hl
  have k0 : (0 : Int32).toInt = 0 := by decide
  refine w_gen (A := A) hP (fun H locs hP hS => ?_)
  have k1 : (1 : Int32).toInt = 1 := by decide
  refine va_gets (C := "java/lang/String") (n := "COMPACT_STRINGS") (d := "Z") (v := .int 1) hx hb hSW.1.2.2.2.2.2.2.2.2.2.2.2.1 hS hown (hts _ kF_JQ_18) (fun _ h9 => h9) d_JQ_isLatin1_0 ?_
  have k19 : (1 : Int32).toInt = 1 := by decide
  refine lv_if_eq (tgt := 17) hx hb d_JQ_isLatin1_3 (by decide) (fun c3 => absurd (eqI c3) (by (first | (apply Int.le_antisymm <;> omega) | omega))) (fun c3 => ?_)
  have q3 := neI c3
  refine lv_aload_n hx hb d_JQ_isLatin1_6 rfl (lv_at hl 0 rfl) ?_
  refine va_get (D := (dC, dI)) (ci := 17) (v := .int 0) (C := R_JB) (T := F_JB) (N := 4) hx hb hts i_JB hown hK hP 0 rfl rfl 1 (by decide) (hts _ kF_JQ_22) (fun _ h9 => h9) rfl d_JQ_isLatin1_7 ?_
  refine lv_if_ne (tgt := 17) hx hb d_JQ_isLatin1_10 (by decide) (fun c10 => absurd (neI c10) (by (first | (apply Int.le_antisymm <;> omega) | omega))) (fun c10 => ?_)
  have q10 := eqI c10
  refine lv_iconst (v := 1) hx hb d_JQ_isLatin1_13 (by decide) ?_
  refine lv_goto (tgt := 18) hx hb d_JQ_isLatin1_14 (by decide) ?_
  have hP9 := hP.sb (wq := [(h0, .inr (17, [.ref va, .int 0, .int h0_maybeLatin1, .int h0_count]))]) [0] rfl
  have hD9 := hD.sb (wq := [(h0, .inr (17, [.ref va, .int 0, .int h0_maybeLatin1, .int h0_count]))]) [0] (by decide) rfl
  exact W.zret (v := 1) hx hb hr (zn01 (Or.inr rfl)) (fun t ht hW => ⟨⟨1, (), rfl, ⟨Or.inr rfl, by decide⟩, va_P.he ht.symm hP9, va_K.moved hW.alike hK, hD9⟩, hS.F ht⟩) hS.2.2 d_JQ_isLatin1_18
abbrev b_JT_canEncode0 : ByteArray := prog_35_method_3_code
def y_JT_canEncode0 : MethodName := ⟨R_JT, "canEncode", "(C)Z"⟩
abbrev w_JT_canEncode0 : List Cond := .code y_JT_canEncode0 b_JT_canEncode0 1 (Option.some .boolean) :: lw_g
theorem kC_JT_canEncode0 : Cond.code y_JT_canEncode0 b_JT_canEncode0 1 (Option.some .boolean) ∈ lw_g := in_c10 58 rfl rfl
theorem d_JT_canEncode0_0 : decode b_JT_canEncode0 0 = .ok (.iload_n 0, 1) := bz_c26 (by decide +kernel)
theorem d_JT_canEncode0_1 : decode b_JT_canEncode0 1 = .ok (.sipush 255, 3) := bz_c17 (by decide +kernel)
theorem d_JT_canEncode0_4 : decode b_JT_canEncode0 4 = .ok (.if_icmp .gt 7, 3) := bz_c163 (by decide +kernel)
theorem d_JT_canEncode0_7 : decode b_JT_canEncode0 7 = .ok (.iconst 1, 1) := bz_c4 (by decide +kernel)
theorem d_JT_canEncode0_8 : decode b_JT_canEncode0 8 = .ok (.goto 4, 3) := bz_c167 (by decide +kernel)
theorem d_JT_canEncode0_11 : decode b_JT_canEncode0 11 = .ok (.iconst 0, 1) := bz_c3 (by decide +kernel)
theorem d_JT_canEncode0_12 : decode b_JT_canEncode0 12 = .ok (.ireturn, 1) := bz_c172 (by decide +kernel)
abbrev at_JT_canEncode0 (dC : Nat → ClassId) (dI : Nat → Nat → Nat)  (A : Nat → Prop) (u : Unit) (t : State) : Prop := match u with | _ => va_P (dC, dI) cls2 [] t.heap ∧ va_K (dC, dI) cls2 [] t ∧ va_D A []
set_option maxHeartbeats 4000000 in
set_option maxRecDepth 100000 in
theorem c_JT_canEncode0 (l : Launch) (hlt : l.stackTraces = false) (dC : Nat → ClassId) (dI : Nat → Nat → Nat) (sz : Nat)    (p0 : Int32)  (hp : p0.toInt ≤ 255) : Met l y_JT_canEncode0 w_JT_canEncode0 ({ frames := 0, cells := 0, slots := 0, locals := 0 }) (va_Pc [.int p0] (fun U => U.heap.size = sz ∧ va_P (dC, dI) cls2 [] U.heap ∧ va_K (dC, dI) cls2 [] U ∧ va_D (fun _ => True) [])) (va_Qi (fun (r : Int32) (u : Unit) => match u with | _ => (r = 0 ∨ r = 1) ∧ (r.toInt = 1)) (at_JT_canEncode0 dC dI  (va_A [] sz)) (va_A [] sz)) 0 0 (va_A [] sz) := by
  refine Met.ofW (cc := b_JT_canEncode0) (maxL := 1) (ret := (Option.some .boolean)) (by decide) rfl ?_
  intro p e s m args below meth c s₁ B hml hv
  obtain ⟨rfl, hsz, hP, hK, hD0⟩ := hv
  have hx := B.exec
  have hb := B.bytes
  have hr := B.returns
  have hts0 := atoms_spec (ws := w_JT_canEncode0) B.pre
  have hts : ∀ w ∈ lw_g, w.before _ s = true := fun w h => hts0 w (List.mem_cons_of_mem _ h)
  have hown : s.vm.findClass R_JT = some m.cls := findClass_of_methodNamed B.named
  have hlocks := B.notSynchronized
  clear hts0
  subst hsz
  have hD := hD0.self (sz := s.heap.size)
  generalize hAe : va_A [] s.heap.size = A at hD ⊢
  have hA : ∀ q : Nat, s.heap.size ≤ q → A q := fun q h => by rw [← hAe]; exact Or.inr h
  clear hAe
  have hP : va_P (dC, dI) cls2 [] s.heap := hP
  have hl := lv_entry ([.int p0]) (n := 1) (Nat.le_of_ble_eq_true rfl)
  rw [lg_entry_eq]
  generalize (lg_sl ([.int p0]) ++ List.replicate (1 - (lg_sl ([.int p0])).length) Slot.unset).toArray = ls at hl ⊢
  have hl : lv_has ls 1 [(0, .int p0)] := hl
  have k0 : (0 : Int32).toInt = 0 := by decide
  refine w_gen (A := A) hP (fun H locs hP hS => ?_)
  have k1 : (1 : Int32).toInt = 1 := by decide
  have k255 : (255 : Int32).toInt = 255 := by decide
  have lo_p0 := i32_lo p0
  have hi_p0 := i32_hi p0
  refine lv_iload_n hx hb d_JT_canEncode0_0 rfl (lv_at hl 0 rfl) ?_
  refine lv_sipush (v := 255) hx hb d_JT_canEncode0_1 (by decide) ?_
  refine lv_icmp_gt (tgt := 11) hx hb d_JT_canEncode0_4 (by decide) (fun c4 => absurd (ltI c4) (by (first | (apply Int.le_antisymm <;> omega) | omega))) (fun c4 => ?_)
  have q4 := nltI c4
  refine lv_iconst (v := 1) hx hb d_JT_canEncode0_7 (by decide) ?_
  refine lv_goto (tgt := 12) hx hb d_JT_canEncode0_8 (by decide) ?_
  have hP9 := hP.sb (wq := []) [] rfl
  have hD9 := hD.sb (wq := []) [] (by decide) rfl
  exact W.zret (v := 1) hx hb hr (zn01 (Or.inr rfl)) (fun t ht hW => ⟨⟨1, (), rfl, ⟨Or.inr rfl, by decide⟩, va_P.he ht.symm hP9, va_K.moved hW.alike hK, hD9⟩, hS.F ht⟩) hS.2.2 d_JT_canEncode0_12
abbrev b_JQ_getValue : ByteArray := prog_20_method_64_code
def y_JQ_getValue : MethodName := ⟨R_JQ, "getValue", "()[B"⟩
abbrev w_JQ_getValue : List Cond := .code y_JQ_getValue b_JQ_getValue 1 (Option.some (.array .byte)) :: lw_g
theorem kC_JQ_getValue : Cond.code y_JQ_getValue b_JQ_getValue 1 (Option.some (.array .byte)) ∈ lw_g := in_c10 101 rfl rfl
theorem d_JQ_getValue_0 : decode b_JQ_getValue 0 = .ok (.aload_n 0, 1) := bz_c42 (by decide +kernel)
theorem d_JQ_getValue_1 : decode b_JQ_getValue 1 = .ok (.getfield 15, 3) := bz_c180 (by decide +kernel)
theorem d_JQ_getValue_4 : decode b_JQ_getValue 4 = .ok (.areturn, 1) := bz_c176 (by decide +kernel)
theorem kF_JQ_15 : Cond.fieldLink R_JQ 15 "java/lang/AbstractStringBuilder" "value" "[B" ∈ lw_g := in_c9 233 rfl rfl
abbrev at_JQ_getValue (dC : Nat → ClassId) (dI : Nat → Nat → Nat) (h0 va : Nat) (cpb : ClassId) (h0_maybeLatin1 : Int32) (h0_count : Int32) (nva : Nat) (gva : Nat → Int32) (A : Nat → Prop) (u : Unit) (t : State) : Prop := match u with | _ => va_P (dC, dI) cls2 (wz_487 h0 va 0 h0_maybeLatin1 h0_count va cpb nva gva) t.heap ∧ va_K (dC, dI) cls2 [(cpb, .byte)] t ∧ va_D A (wz_487 h0 va 0 h0_maybeLatin1 h0_count va cpb nva gva)
set_option maxHeartbeats 4000000 in
set_option maxRecDepth 100000 in
theorem c_JQ_getValue (l : Launch) (hlt : l.stackTraces = false) (dC : Nat → ClassId) (dI : Nat → Nat → Nat) (sz : Nat) (h0 va : Nat) (cpb : ClassId) (h0_maybeLatin1 : Int32) (h0_count : Int32) (nva : Nat) (gva : Nat → Int32)  (b_gva : ∀ j : Nat, -128 ≤ (gva j).toInt ∧ (gva j).toInt ≤ 127)    : Met l y_JQ_getValue w_JQ_getValue ({ frames := 0, cells := 0, slots := 0, locals := 0 }) (va_Pc [.ref h0] (fun U => U.heap.size = sz ∧ va_P (dC, dI) cls2 (wz_487 h0 va 0 h0_maybeLatin1 h0_count va cpb nva gva) U.heap ∧ va_K (dC, dI) cls2 [(cpb, .byte)] U ∧ va_D (fun _ => True) (wz_487 h0 va 0 h0_maybeLatin1 h0_count va cpb nva gva))) (va_Qr (fun (u : Unit) => match u with | _ => True) (fun (u : Unit) (ra : Nat) (t : State) => va = ra ∧ (at_JQ_getValue dC dI h0 va cpb h0_maybeLatin1 h0_count nva gva (va_A (wz_487 h0 va 0 h0_maybeLatin1 h0_count va cpb nva gva) sz)) u t) (va_A (wz_487 h0 va 0 h0_maybeLatin1 h0_count va cpb nva gva) sz)) 0 0 (va_A (wz_487 h0 va 0 h0_maybeLatin1 h0_count va cpb nva gva) sz) := by
  refine Met.ofW (cc := b_JQ_getValue) (maxL := 1) (ret := (Option.some (.array .byte))) (by decide) rfl ?_
  intro p e s m args below meth c s₁ B hml hv
  obtain ⟨rfl, hsz, hP, hK, hD0⟩ := hv
  have hx := B.exec
  have hb := B.bytes
  have hr := B.returns
  have hts0 := atoms_spec (ws := w_JQ_getValue) B.pre
  have hts : ∀ w ∈ lw_g, w.before _ s = true := fun w h => hts0 w (List.mem_cons_of_mem _ h)
  have hown : s.vm.findClass R_JQ = some m.cls := findClass_of_methodNamed B.named
  have hlocks := B.notSynchronized
  clear hts0
  subst hsz
  have hD := hD0.self (sz := s.heap.size)
  generalize hAe : va_A (wz_487 h0 va 0 h0_maybeLatin1 h0_count va cpb nva gva) s.heap.size = A at hD ⊢
  have hA : ∀ q : Nat, s.heap.size ≤ q → A q := fun q h => by rw [← hAe]; exact Or.inr h
  clear hAe
  have hP : va_P (dC, dI) cls2 (wz_487 h0 va 0 h0_maybeLatin1 h0_count va cpb nva gva) s.heap := hP
  have hl := lv_entry ([.ref h0]) (n := 1) (Nat.le_of_ble_eq_true rfl)
  rw [lg_entry_eq]
  generalize (lg_sl ([.ref h0]) ++ List.replicate (1 - (lg_sl ([.ref h0])).length) Slot.unset).toArray = ls at hl ⊢
  have hl : lv_has ls 1 [(0, .ref h0)] := hl
  have k0 : (0 : Int32).toInt = 0 := by decide
  refine w_gen (A := A) hP (fun H locs hP hS => ?_)
  refine lv_aload_n hx hb d_JQ_getValue_0 rfl (lv_at hl 0 rfl) ?_
  refine va_get (D := (dC, dI)) (ci := 17) (v := .ref va) (C := R_JB) (T := F_JB) (N := 4) hx hb hts i_JB hown hK hP 0 rfl rfl 0 (by decide) (hts _ kF_JQ_15) (fun _ h9 => h9) rfl d_JQ_getValue_1 ?_
  have hP9 := hP.sb (wq := (wz_487 h0 va 0 h0_maybeLatin1 h0_count va cpb nva gva)) [0, 1] rfl
  have hD9 := hD.sb (wq := (wz_487 h0 va 0 h0_maybeLatin1 h0_count va cpb nva gva)) [0, 1] (by decide) rfl
  exact W.aret (v := .ref va) hx hb hr (Or.inr ⟨_, rfl⟩) (Or.inr ⟨_, rfl⟩) (fun t ht hW => ⟨⟨(), va, rfl, ⟨⟩, rfl, va_P.he ht.symm hP9, va_K.moved hW.alike hK, hD9⟩, hS.F ht⟩) hS.2.2 d_JQ_getValue_4
abbrev b_JQ_length : ByteArray := prog_20_method_6_code
def y_JQ_length : MethodName := ⟨R_JQ, "length", "()I"⟩
abbrev w_JQ_length : List Cond := .code y_JQ_length b_JQ_length 1 (Option.some .int) :: lw_g
theorem kC_JQ_length : Cond.code y_JQ_length b_JQ_length 1 (Option.some .int) ∈ lw_g := in_c10 109 rfl rfl
theorem d_JQ_length_0 : decode b_JQ_length 0 = .ok (.aload_n 0, 1) := bz_c42 (by decide +kernel)
theorem d_JQ_length_1 : decode b_JQ_length 1 = .ok (.getfield 79, 3) := bz_c180 (by decide +kernel)
theorem d_JQ_length_4 : decode b_JQ_length 4 = .ok (.ireturn, 1) := bz_c172 (by decide +kernel)
theorem kF_JQ_79 : Cond.fieldLink R_JQ 79 "java/lang/AbstractStringBuilder" "count" "I" ∈ lw_g := in_c9 236 rfl rfl
abbrev at_JQ_length (dC : Nat → ClassId) (dI : Nat → Nat → Nat) (h0 va : Nat) (h0_maybeLatin1 : Int32) (h0_count : Int32) (A : Nat → Prop) (u : Unit) (t : State) : Prop := match u with | _ => va_P (dC, dI) cls2 [(h0, .inr (17, [.ref va, .int 0, .int h0_maybeLatin1, .int h0_count]))] t.heap ∧ va_K (dC, dI) cls2 [] t ∧ va_D A [(h0, .inr (17, [.ref va, .int 0, .int h0_maybeLatin1, .int h0_count]))]
set_option maxHeartbeats 4000000 in
set_option maxRecDepth 100000 in
theorem c_JQ_length (l : Launch) (hlt : l.stackTraces = false) (dC : Nat → ClassId) (dI : Nat → Nat → Nat) (sz : Nat) (h0 va : Nat) (h0_maybeLatin1 : Int32) (h0_count : Int32)  (b_h0_count : 0 ≤ h0_count.toInt ∧ h0_count.toInt ≤ 1000000)    : Met l y_JQ_length w_JQ_length ({ frames := 0, cells := 0, slots := 0, locals := 0 }) (va_Pc [.ref h0] (fun U => U.heap.size = sz ∧ va_P (dC, dI) cls2 [(h0, .inr (17, [.ref va, .int 0, .int h0_maybeLatin1, .int h0_count]))] U.heap ∧ va_K (dC, dI) cls2 [] U ∧ va_D (fun _ => True) [(h0, .inr (17, [.ref va, .int 0, .int h0_maybeLatin1, .int h0_count]))])) (va_Qi (fun (r : Int32) (u : Unit) => match u with | _ => (r = h0_count)) (at_JQ_length dC dI h0 va h0_maybeLatin1 h0_count (va_A [(h0, .inr (17, [.ref va, .int 0, .int h0_maybeLatin1, .int h0_count]))] sz)) (va_A [(h0, .inr (17, [.ref va, .int 0, .int h0_maybeLatin1, .int h0_count]))] sz)) 0 0 (va_A [(h0, .inr (17, [.ref va, .int 0, .int h0_maybeLatin1, .int h0_count]))] sz) := by
  refine Met.ofW (cc := b_JQ_length) (maxL := 1) (ret := (Option.some .int)) (by decide) rfl ?_
  intro p e s m args below meth c s₁ B hml hv
  obtain ⟨rfl, hsz, hP, hK, hD0⟩ := hv
  have hx := B.exec
  have hb := B.bytes
  have hr := B.returns
  have hts0 := atoms_spec (ws := w_JQ_length) B.pre
  have hts : ∀ w ∈ lw_g, w.before _ s = true := fun w h => hts0 w (List.mem_cons_of_mem _ h)
  have hown : s.vm.findClass R_JQ = some m.cls := findClass_of_methodNamed B.named
  have hlocks := B.notSynchronized
  clear hts0
  subst hsz
  have hD := hD0.self (sz := s.heap.size)
  generalize hAe : va_A [(h0, .inr (17, [.ref va, .int 0, .int h0_maybeLatin1, .int h0_count]))] s.heap.size = A at hD ⊢
  have hA : ∀ q : Nat, s.heap.size ≤ q → A q := fun q h => by rw [← hAe]; exact Or.inr h
  clear hAe
  have hP : va_P (dC, dI) cls2 [(h0, .inr (17, [.ref va, .int 0, .int h0_maybeLatin1, .int h0_count]))] s.heap := hP
  have hl := lv_entry ([.ref h0]) (n := 1) (Nat.le_of_ble_eq_true rfl)
  rw [lg_entry_eq]
  generalize (lg_sl ([.ref h0]) ++ List.replicate (1 - (lg_sl ([.ref h0])).length) Slot.unset).toArray = ls at hl ⊢
  have hl : lv_has ls 1 [(0, .ref h0)] := hl
  have k0 : (0 : Int32).toInt = 0 := by decide
  refine w_gen (A := A) hP (fun H locs hP hS => ?_)
  refine lv_aload_n hx hb d_JQ_length_0 rfl (lv_at hl 0 rfl) ?_
  refine va_get (D := (dC, dI)) (ci := 17) (v := .int h0_count) (C := R_JB) (T := F_JB) (N := 4) hx hb hts i_JB hown hK hP 0 rfl rfl 3 (by decide) (hts _ kF_JQ_79) (fun _ h9 => h9) rfl d_JQ_length_1 ?_
  have hP9 := hP.sb (wq := [(h0, .inr (17, [.ref va, .int 0, .int h0_maybeLatin1, .int h0_count]))]) [0] rfl
  have hD9 := hD.sb (wq := [(h0, .inr (17, [.ref va, .int 0, .int h0_maybeLatin1, .int h0_count]))]) [0] (by decide) rfl
  exact W.iret (v := h0_count) hx hb hr (fun t ht hW => ⟨⟨h0_count, (), rfl, (rfl), va_P.he ht.symm hP9, va_K.moved hW.alike hK, hD9⟩, hS.F ht⟩) hS.2.2 d_JQ_length_4
abbrev b_JQ_newCapacity : ByteArray := prog_20_method_10_code
def y_JQ_newCapacity : MethodName := ⟨R_JQ, "newCapacity", "(I)I"⟩
abbrev w_JQ_newCapacity : List Cond := .code y_JQ_newCapacity b_JQ_newCapacity 6 (Option.some .int) :: lw_g
theorem kC_JQ_newCapacity : Cond.code y_JQ_newCapacity b_JQ_newCapacity 6 (Option.some .int) ∈ lw_g := in_c10 23 rfl rfl
theorem d_JQ_newCapacity_0 : decode b_JQ_newCapacity 0 = .ok (.aload_n 0, 1) := bz_c42 (by decide +kernel)
theorem d_JQ_newCapacity_1 : decode b_JQ_newCapacity 1 = .ok (.getfield 15, 3) := bz_c180 (by decide +kernel)
theorem d_JQ_newCapacity_4 : decode b_JQ_newCapacity 4 = .ok (.arraylength, 1) := bz_c190 (by decide +kernel)
theorem d_JQ_newCapacity_5 : decode b_JQ_newCapacity 5 = .ok (.istore_n 2, 1) := bz_c61 (by decide +kernel)
theorem d_JQ_newCapacity_6 : decode b_JQ_newCapacity 6 = .ok (.iload_n 1, 1) := bz_c27 (by decide +kernel)
theorem d_JQ_newCapacity_7 : decode b_JQ_newCapacity 7 = .ok (.aload_n 0, 1) := bz_c42 (by decide +kernel)
theorem d_JQ_newCapacity_8 : decode b_JQ_newCapacity 8 = .ok (.getfield 22, 3) := bz_c180 (by decide +kernel)
theorem d_JQ_newCapacity_11 : decode b_JQ_newCapacity 11 = .ok (.ishl, 1) := by decide +kernel
theorem d_JQ_newCapacity_12 : decode b_JQ_newCapacity 12 = .ok (.istore_n 3, 1) := bz_c62 (by decide +kernel)
theorem d_JQ_newCapacity_13 : decode b_JQ_newCapacity 13 = .ok (.iload_n 3, 1) := bz_c29 (by decide +kernel)
theorem d_JQ_newCapacity_14 : decode b_JQ_newCapacity 14 = .ok (.iload_n 2, 1) := bz_c28 (by decide +kernel)
theorem d_JQ_newCapacity_15 : decode b_JQ_newCapacity 15 = .ok (.isub, 1) := bz_c100 (by decide +kernel)
theorem d_JQ_newCapacity_16 : decode b_JQ_newCapacity 16 = .ok (.istore 4, 2) := bz_c54 (by decide +kernel)
theorem d_JQ_newCapacity_18 : decode b_JQ_newCapacity 18 = .ok (.iload_n 2, 1) := bz_c28 (by decide +kernel)
theorem d_JQ_newCapacity_19 : decode b_JQ_newCapacity 19 = .ok (.iload 4, 2) := bz_c21 (by decide +kernel)
theorem d_JQ_newCapacity_21 : decode b_JQ_newCapacity 21 = .ok (.iload_n 2, 1) := bz_c28 (by decide +kernel)
theorem d_JQ_newCapacity_22 : decode b_JQ_newCapacity 22 = .ok (.iconst 2, 1) := bz_c5 (by decide +kernel)
theorem d_JQ_newCapacity_23 : decode b_JQ_newCapacity 23 = .ok (.aload_n 0, 1) := bz_c42 (by decide +kernel)
theorem d_JQ_newCapacity_24 : decode b_JQ_newCapacity 24 = .ok (.getfield 22, 3) := bz_c180 (by decide +kernel)
theorem d_JQ_newCapacity_27 : decode b_JQ_newCapacity 27 = .ok (.ishl, 1) := by decide +kernel
theorem d_JQ_newCapacity_28 : decode b_JQ_newCapacity 28 = .ok (.iadd, 1) := bz_c96 (by decide +kernel)
theorem d_JQ_newCapacity_29 : decode b_JQ_newCapacity 29 = .ok (.invokestatic 114, 3) := bz_c184 (by decide +kernel)
theorem d_JQ_newCapacity_32 : decode b_JQ_newCapacity 32 = .ok (.istore 5, 2) := bz_c54 (by decide +kernel)
theorem d_JQ_newCapacity_34 : decode b_JQ_newCapacity 34 = .ok (.iload 5, 2) := bz_c21 (by decide +kernel)
theorem d_JQ_newCapacity_36 : decode b_JQ_newCapacity 36 = .ok (.ldc 39, 2) := bz_c18 (by decide +kernel)
theorem d_JQ_newCapacity_38 : decode b_JQ_newCapacity 38 = .ok (.if_icmp .ne 13, 3) := bz_c160 (by decide +kernel)
theorem d_JQ_newCapacity_41 : decode b_JQ_newCapacity 41 = .ok (.new 120, 3) := bz_c187 (by decide +kernel)
theorem d_JQ_newCapacity_44 : decode b_JQ_newCapacity 44 = .ok (.dup, 1) := bz_c89 (by decide +kernel)
theorem d_JQ_newCapacity_45 : decode b_JQ_newCapacity 45 = .ok (.ldc 122, 2) := bz_c18 (by decide +kernel)
theorem d_JQ_newCapacity_47 : decode b_JQ_newCapacity 47 = .ok (.invokespecial 124, 3) := bz_c183 (by decide +kernel)
theorem d_JQ_newCapacity_50 : decode b_JQ_newCapacity 50 = .ok (.athrow, 1) := bz_c191 (by decide +kernel)
theorem d_JQ_newCapacity_51 : decode b_JQ_newCapacity 51 = .ok (.iload 5, 2) := bz_c21 (by decide +kernel)
theorem d_JQ_newCapacity_53 : decode b_JQ_newCapacity 53 = .ok (.aload_n 0, 1) := bz_c42 (by decide +kernel)
theorem d_JQ_newCapacity_54 : decode b_JQ_newCapacity 54 = .ok (.getfield 22, 3) := bz_c180 (by decide +kernel)
theorem d_JQ_newCapacity_57 : decode b_JQ_newCapacity 57 = .ok (.ishr, 1) := by decide +kernel
theorem d_JQ_newCapacity_58 : decode b_JQ_newCapacity 58 = .ok (.ireturn, 1) := bz_c172 (by decide +kernel)
theorem kM_JQ_114 : Cond.methodLink R_JQ 114 y_JU_newLength ∈ lw_g := in_c10 24 rfl rfl
theorem kT_JU_newLength : Cond.static y_JU_newLength ∈ lw_g := in_c10 25 rfl rfl
theorem kJ_JQ_39 : Cond.constant R_JQ 39 (2147483647) ∈ lw_g := in_c10 34 rfl rfl
abbrev at_JQ_newCapacity (dC : Nat → ClassId) (dI : Nat → Nat → Nat) (h0 va : Nat) (cpb : ClassId) (h0_maybeLatin1 : Int32) (h0_count : Int32) (nva : Nat) (gva : Nat → Int32) (A : Nat → Prop) (u : Unit) (t : State) : Prop := match u with | _ => va_P (dC, dI) cls2 (wz_487 h0 va 0 h0_maybeLatin1 h0_count va cpb nva gva) t.heap ∧ va_K (dC, dI) cls2 [(cpb, .byte)] t ∧ va_D A (wz_487 h0 va 0 h0_maybeLatin1 h0_count va cpb nva gva)
set_option maxHeartbeats 4000000 in
set_option maxRecDepth 100000 in
theorem c_JQ_newCapacity (l : Launch) (hlt : l.stackTraces = false) (dC : Nat → ClassId) (dI : Nat → Nat → Nat) (sz : Nat) (h0 va : Nat) (cpb : ClassId) (h0_maybeLatin1 : Int32) (h0_count : Int32) (nva : Nat) (gva : Nat → Int32)  (b_gva : ∀ j : Nat, -128 ≤ (gva j).toInt ∧ (gva j).toInt ≤ 127) (p0 : Int32)  (hva : (nva : Int) < 1000000) (hp : (nva : Int) < p0.toInt ∧ p0.toInt ≤ 1000000) : Met l y_JQ_newCapacity w_JQ_newCapacity ({ frames := 2, cells := 0, slots := 0, locals := 47 }) (va_Pc [.ref h0, .int p0] (fun U => U.heap.size = sz ∧ va_P (dC, dI) cls2 (wz_487 h0 va 0 h0_maybeLatin1 h0_count va cpb nva gva) U.heap ∧ va_K (dC, dI) cls2 [(cpb, .byte)] U ∧ va_D (fun _ => True) (wz_487 h0 va 0 h0_maybeLatin1 h0_count va cpb nva gva))) (va_Qi (fun (r : Int32) (u : Unit) => match u with | _ => (r.toInt = (nva : Int) + max (p0.toInt - nva) (nva + 2))) (at_JQ_newCapacity dC dI h0 va cpb h0_maybeLatin1 h0_count nva gva (va_A (wz_487 h0 va 0 h0_maybeLatin1 h0_count va cpb nva gva) sz)) (va_A (wz_487 h0 va 0 h0_maybeLatin1 h0_count va cpb nva gva) sz)) 0 0 (va_A (wz_487 h0 va 0 h0_maybeLatin1 h0_count va cpb nva gva) sz) := by
  refine Met.ofW (cc := b_JQ_newCapacity) (maxL := 6) (ret := (Option.some .int)) (by decide) rfl ?_
  intro p e s m args below meth c s₁ B hml hv
  obtain ⟨rfl, hsz, hP, hK, hD0⟩ := hv
  have hx := B.exec
  have hb := B.bytes
  have hr := B.returns
  have hts0 := atoms_spec (ws := w_JQ_newCapacity) B.pre
  have hts : ∀ w ∈ lw_g, w.before _ s = true := fun w h => hts0 w (List.mem_cons_of_mem _ h)
  have hown : s.vm.findClass R_JQ = some m.cls := findClass_of_methodNamed B.named
  have hlocks := B.notSynchronized
  clear hts0
  subst hsz
  have hD := hD0.self (sz := s.heap.size)
  generalize hAe : va_A (wz_487 h0 va 0 h0_maybeLatin1 h0_count va cpb nva gva) s.heap.size = A at hD ⊢
  have hA : ∀ q : Nat, s.heap.size ≤ q → A q := fun q h => by rw [← hAe]; exact Or.inr h
  clear hAe
  have hP : va_P (dC, dI) cls2 (wz_487 h0 va 0 h0_maybeLatin1 h0_count va cpb nva gva) s.heap := hP
  have hl := lv_entry ([.ref h0, .int p0]) (n := 6) (Nat.le_of_ble_eq_true rfl)
  rw [lg_entry_eq]
  generalize (lg_sl ([.ref h0, .int p0]) ++ List.replicate (6 - (lg_sl ([.ref h0, .int p0])).length) Slot.unset).toArray = ls at hl ⊢
  have hl : lv_has ls 6 [(0, .ref h0), (1, .int p0)] := hl
  have k0 : (0 : Int32).toInt = 0 := by decide
  refine w_gen (A := A) hP (fun H locs hP hS => ?_)
  have k2 : (2 : Int32).toInt = 2 := by decide
  have lo_p0 := i32_lo p0
  have hi_p0 := i32_hi p0
  refine lv_aload_n hx hb d_JQ_newCapacity_0 rfl (lv_at hl 0 rfl) ?_
  refine va_get (D := (dC, dI)) (ci := 17) (v := .ref va) (C := R_JB) (T := F_JB) (N := 4) hx hb hts i_JB hown hK hP 0 rfl rfl 0 (by decide) (hts _ kF_JQ_15) (fun _ h9 => h9) rfl d_JQ_newCapacity_1 ?_
  refine va_alen hx hb hK hP 1 0 rfl rfl rfl d_JQ_newCapacity_4 ?_
  refine lv_topi (fun x1 ex1 => ?_)
  have tx1 : x1.toInt = nva := by rw [ex1]; exact i32_len (by (first | (apply Int.le_antisymm <;> omega) | omega))
  refine lv_istore_n (lv' := [(2, .int x1), (0, .ref h0), (1, .int p0)]) hx hb d_JQ_newCapacity_5 rfl hl (by decide) rfl (fun ls hl => ?_)
  refine lv_iload_n hx hb d_JQ_newCapacity_6 rfl (lv_at hl 2 rfl) ?_
  refine lv_aload_n hx hb d_JQ_newCapacity_7 rfl (lv_at hl 1 rfl) ?_
  refine va_get (D := (dC, dI)) (ci := 17) (v := .int 0) (C := R_JB) (T := F_JB) (N := 4) hx hb hts i_JB hown hK hP 0 rfl rfl 1 (by decide) (hts _ kF_JQ_22) (fun _ h9 => h9) rfl d_JQ_newCapacity_8 ?_
  refine lv_ishl hx hb d_JQ_newCapacity_11 ?_
  refine lv_topi (fun x2 ex2 => ?_)
  have tx2 := sh0l ex2
  refine lv_istore_n (lv' := [(3, .int x2), (2, .int x1), (0, .ref h0), (1, .int p0)]) hx hb d_JQ_newCapacity_12 rfl hl (by decide) rfl (fun ls hl => ?_)
  refine lv_iload_n hx hb d_JQ_newCapacity_13 rfl (lv_at hl 0 rfl) ?_
  refine lv_iload_n hx hb d_JQ_newCapacity_14 rfl (lv_at hl 1 rfl) ?_
  refine lv_isub hx hb d_JQ_newCapacity_15 ?_
  refine lv_topi (fun x3 ex3 => ?_)
  have tx3 : x3.toInt = x2.toInt - x1.toInt := by have z := i32_sub ex3 (by (first | (apply Int.le_antisymm <;> omega) | omega)) (by (first | (apply Int.le_antisymm <;> omega) | omega)); first | exact z | (first | (apply Int.le_antisymm <;> omega) | omega)
  refine lv_istore (lv' := [(4, .int x3), (3, .int x2), (2, .int x1), (0, .ref h0), (1, .int p0)]) hx hb d_JQ_newCapacity_16 hl (by decide) rfl (fun ls hl => ?_)
  refine lv_iload_n hx hb d_JQ_newCapacity_18 rfl (lv_at hl 2 rfl) ?_
  refine lv_iload hx hb d_JQ_newCapacity_19 (lv_at hl 0 rfl) ?_
  refine lv_iload_n hx hb d_JQ_newCapacity_21 rfl (lv_at hl 2 rfl) ?_
  refine lv_iconst (v := 2) hx hb d_JQ_newCapacity_22 (by decide) ?_
  refine lv_aload_n hx hb d_JQ_newCapacity_23 rfl (lv_at hl 3 rfl) ?_
  refine va_get (D := (dC, dI)) (ci := 17) (v := .int 0) (C := R_JB) (T := F_JB) (N := 4) hx hb hts i_JB hown hK hP 0 rfl rfl 1 (by decide) (hts _ kF_JQ_22) (fun _ h9 => h9) rfl d_JQ_newCapacity_24 ?_
  refine lv_ishl hx hb d_JQ_newCapacity_27 ?_
  refine lv_topi (fun x4 ex4 => ?_)
  have tx4 := sh0l ex4
  refine lv_iadd hx hb d_JQ_newCapacity_28 ?_
  refine lv_topi (fun x5 ex5 => ?_)
  have tx5 : x5.toInt = x1.toInt + x4.toInt := by have z := i32_add ex5 (by (first | (apply Int.le_antisymm <;> omega) | omega)) (by (first | (apply Int.le_antisymm <;> omega) | omega)); first | exact z | (first | (apply Int.le_antisymm <;> omega) | omega)
  have hPc := @vp_nil
  have hDc := hD.sb (wq := []) [] (by decide) rfl
  have hKc := hK.sb (tyq := []) [] rfl
  have hFc := va_free (wc := []) hD hS hA [] rfl
  refine va_calli (va_runS (As := [.int x1, .int x3, .int x5]) (rest := []) ⟨hx, hb, hml, hown, hts⟩ (c_JU_newLength l hlt dC dI H.size x1 x3 x5 (by (try dsimp only) <;> (first | (apply Int.le_antisymm <;> omega) | omega)) (by (try dsimp only) <;> (first | (apply Int.le_antisymm <;> omega) | omega)) (by (try dsimp only) <;> (first | (apply Int.le_antisymm <;> omega) | omega)) (by (try dsimp only) <;> (first | (apply Int.le_antisymm <;> omega) | omega))) ⟨callB_of 3 hts (gW kC_JU_newLength) rfl rfl rfl (hts _ kI_JU) (hts _ kM_JQ_114) (by decide +kernel) ⟨Nat.le_of_ble_eq_true rfl, Nat.le_of_ble_eq_true rfl⟩, hts _ kT_JU_newLength⟩ ⟨fun a U g mk z => by obtain ⟨z0, z1, zP, zK, zD⟩ := z; exact ⟨z0, z1, zP, va_K.moved (u := U) (U := U.calling g mk a) (Vm.Alike.refl U.vm) zK, zD⟩, fun U hU hW => ⟨rfl, by rw [hU], va_P.he hU.symm hPc, va_K.moved hW.alike hKc, hDc.weaken (fun _ _ _ _ => trivial)⟩⟩ rfl rfl hl.1 rfl (lv_room (Nat.le_of_ble_eq_true rfl)) d_JQ_newCapacity_29 ⟨(Nat.zero_le _), (Nat.zero_le _)⟩) hS (fun q _ h => hFc q h) hFc (fun r6 u t H1 locs ht hvm hw hB hz1 hk1 hS => ?_)
  try dsimp only at hw
  have xr6 := hw
  try clear hw
  obtain ⟨hP1, hK1, hD1⟩ := hB
  replace hP1 := va_P.he ht hP1
  replace hP1 := @vp_nil (dC, dI) cls2 H1
  obtain ⟨hP, hD⟩ := va_join (wr := (wz_487 h0 va 0 h0_maybeLatin1 h0_count va cpb nva gva)) (w1 := []) hP hD [] [0, 1] rfl rfl (by decide) (by decide) hk1 hFc hP1 hD1
  clear hPc hDc hKc hFc hz1 hk1 hP1 hK1 hD1
  rename Heap => H
  have hP : va_P (dC, dI) cls2 (wz_487 h0 va 0 h0_maybeLatin1 h0_count va cpb nva gva) H := hP
  have hD : va_D A (wz_487 h0 va 0 h0_maybeLatin1 h0_count va cpb nva gva) := hD
  refine lv_istore (lv' := [(5, .int r6), (4, .int x3), (3, .int x2), (2, .int x1), (0, .ref h0), (1, .int p0)]) hx hb d_JQ_newCapacity_32 hl (by decide) rfl (fun ls hl => ?_)
  refine lv_iload hx hb d_JQ_newCapacity_34 (lv_at hl 0 rfl) ?_
  refine lv_ldc hx hb hown (hts _ kJ_JQ_39) d_JQ_newCapacity_36 ?_
  refine lv_topi (fun x7 ex7 => ?_)
  have tx7 : x7.toInt = 2147483647 := by rw [ex7]; decide
  refine lv_icmp_ne (tgt := 51) hx hb d_JQ_newCapacity_38 (by decide) (fun c38 => ?_) (fun c38 => absurd (eqI c38) (by (first | (apply Int.le_antisymm <;> omega) | omega)))
  have q38 := neI c38
  refine lv_iload hx hb d_JQ_newCapacity_51 (lv_at hl 0 rfl) ?_
  refine lv_aload_n hx hb d_JQ_newCapacity_53 rfl (lv_at hl 4 rfl) ?_
  refine va_get (D := (dC, dI)) (ci := 17) (v := .int 0) (C := R_JB) (T := F_JB) (N := 4) hx hb hts i_JB hown hK hP 0 rfl rfl 1 (by decide) (hts _ kF_JQ_22) (fun _ h9 => h9) rfl d_JQ_newCapacity_54 ?_
  refine lv_ishr hx hb d_JQ_newCapacity_57 ?_
  refine lv_topi (fun x8 ex8 => ?_)
  have tx8 := sh0r ex8
  have hP9 := hP.sb (wq := (wz_487 h0 va 0 h0_maybeLatin1 h0_count va cpb nva gva)) [0, 1] rfl
  have hD9 := hD.sb (wq := (wz_487 h0 va 0 h0_maybeLatin1 h0_count va cpb nva gva)) [0, 1] (by decide) rfl
  exact W.iret (v := x8) hx hb hr (fun t ht hW => ⟨⟨x8, (), rfl, (by (try dsimp only) <;> (first | (apply Int.le_antisymm <;> omega) | omega)), va_P.he ht.symm hP9, va_K.moved hW.alike hK, hD9⟩, hS.F ht⟩) hS.2.2 d_JQ_newCapacity_58
end q_m73
section q_m74
/-! the makers of texts: room is made, a letter is laid behind -/
abbrev b_JQ_ensureCapacityInternal : ByteArray := prog_20_method_9_code
def y_JQ_ensureCapacityInternal : MethodName := ⟨R_JQ, "ensureCapacityInternal", "(I)V"⟩
abbrev w_JQ_ensureCapacityInternal : List Cond := .code y_JQ_ensureCapacityInternal b_JQ_ensureCapacityInternal 3 none :: lw_g
theorem kC_JQ_ensureCapacityInternal : Cond.code y_JQ_ensureCapacityInternal b_JQ_ensureCapacityInternal 3 none ∈ lw_g := in_c10 19 rfl rfl
theorem d_JQ_ensureCapacityInternal_0 : decode b_JQ_ensureCapacityInternal 0 = .ok (.aload_n 0, 1) := bz_c42 (by decide +kernel)
theorem d_JQ_ensureCapacityInternal_1 : decode b_JQ_ensureCapacityInternal 1 = .ok (.getfield 15, 3) := bz_c180 (by decide +kernel)
theorem d_JQ_ensureCapacityInternal_4 : decode b_JQ_ensureCapacityInternal 4 = .ok (.arraylength, 1) := bz_c190 (by decide +kernel)
theorem d_JQ_ensureCapacityInternal_5 : decode b_JQ_ensureCapacityInternal 5 = .ok (.aload_n 0, 1) := bz_c42 (by decide +kernel)
theorem d_JQ_ensureCapacityInternal_6 : decode b_JQ_ensureCapacityInternal 6 = .ok (.getfield 22, 3) := bz_c180 (by decide +kernel)
theorem d_JQ_ensureCapacityInternal_9 : decode b_JQ_ensureCapacityInternal 9 = .ok (.ishr, 1) := by decide +kernel
theorem d_JQ_ensureCapacityInternal_10 : decode b_JQ_ensureCapacityInternal 10 = .ok (.istore_n 2, 1) := bz_c61 (by decide +kernel)
theorem d_JQ_ensureCapacityInternal_11 : decode b_JQ_ensureCapacityInternal 11 = .ok (.iload_n 1, 1) := bz_c27 (by decide +kernel)
theorem d_JQ_ensureCapacityInternal_12 : decode b_JQ_ensureCapacityInternal 12 = .ok (.iload_n 2, 1) := bz_c28 (by decide +kernel)
theorem d_JQ_ensureCapacityInternal_13 : decode b_JQ_ensureCapacityInternal 13 = .ok (.isub, 1) := bz_c100 (by decide +kernel)
theorem d_JQ_ensureCapacityInternal_14 : decode b_JQ_ensureCapacityInternal 14 = .ok (.ifCond .le 24, 3) := bz_c158 (by decide +kernel)
theorem d_JQ_ensureCapacityInternal_17 : decode b_JQ_ensureCapacityInternal 17 = .ok (.aload_n 0, 1) := bz_c42 (by decide +kernel)
theorem d_JQ_ensureCapacityInternal_18 : decode b_JQ_ensureCapacityInternal 18 = .ok (.aload_n 0, 1) := bz_c42 (by decide +kernel)
theorem d_JQ_ensureCapacityInternal_19 : decode b_JQ_ensureCapacityInternal 19 = .ok (.getfield 15, 3) := bz_c180 (by decide +kernel)
theorem d_JQ_ensureCapacityInternal_22 : decode b_JQ_ensureCapacityInternal 22 = .ok (.aload_n 0, 1) := bz_c42 (by decide +kernel)
theorem d_JQ_ensureCapacityInternal_23 : decode b_JQ_ensureCapacityInternal 23 = .ok (.iload_n 1, 1) := bz_c27 (by decide +kernel)
theorem d_JQ_ensureCapacityInternal_24 : decode b_JQ_ensureCapacityInternal 24 = .ok (.invokevirtual 104, 3) := bz_c182 (by decide +kernel)
theorem d_JQ_ensureCapacityInternal_27 : decode b_JQ_ensureCapacityInternal 27 = .ok (.aload_n 0, 1) := bz_c42 (by decide +kernel)
theorem d_JQ_ensureCapacityInternal_28 : decode b_JQ_ensureCapacityInternal 28 = .ok (.getfield 22, 3) := bz_c180 (by decide +kernel)
theorem d_JQ_ensureCapacityInternal_31 : decode b_JQ_ensureCapacityInternal 31 = .ok (.ishl, 1) := by decide +kernel
theorem d_JQ_ensureCapacityInternal_32 : decode b_JQ_ensureCapacityInternal 32 = .ok (.invokestatic 108, 3) := bz_c184 (by decide +kernel)
theorem d_JQ_ensureCapacityInternal_35 : decode b_JQ_ensureCapacityInternal 35 = .ok (.putfield 15, 3) := bz_c181 (by decide +kernel)
theorem d_JQ_ensureCapacityInternal_38 : decode b_JQ_ensureCapacityInternal 38 = .ok (.return_, 1) := bz_c177 (by decide +kernel)
theorem kM_JQ_104 : Cond.methodLink R_JQ 104 y_JQ_newCapacity ∈ lw_g := in_c10 20 rfl rfl
theorem kV_JQ_newCapacity : Cond.instanceMethod y_JQ_newCapacity ∈ lw_g := in_c10 22 rfl rfl
theorem kM_JQ_108 : Cond.methodLink R_JQ 108 y_JA_copyOf ∈ lw_g := in_c10 35 rfl rfl
theorem kT_JA_copyOf : Cond.static y_JA_copyOf ∈ lw_g := in_c10 36 rfl rfl
theorem kN_JB : Cond.instantiable R_JB 4 ∈ lw_g := in_c9 217 rfl rfl
theorem kSM_JQ_newCapacity : Cond.sameMethod R_JQ R_JQ "newCapacity" "(I)I" ∈ lw_g := in_c13 223 rfl rfl
abbrev at_JQ_ensureCapacityInternal (dC : Nat → ClassId) (dI : Nat → Nat → Nat) (sz szl : Nat) (sa : Nat → Nat) (h0 va : Nat) (cpb : ClassId) (h0_maybeLatin1 : Int32) (h0_count : Int32) (A : Nat → Prop) (u : (Nat → Int32) × Nat × Nat × Nat × Nat) (t : State) : Prop := match u with | (gva, va, kcz, knz, nva) => va_P (dC, dI) cls2 (wz_487 h0 va 0 h0_maybeLatin1 h0_count va cpb nva gva) t.heap ∧ va_K (dC, dI) cls2 [(cpb, .byte)] t ∧ va_D A (wz_487 h0 va 0 h0_maybeLatin1 h0_count va cpb nva gva) ∧ t.heap.size ≤ sz + kcz ∧ hsl t.heap ≤ szl + knz
set_option maxHeartbeats 4000000 in
set_option maxRecDepth 100000 in
theorem c_JQ_ensureCapacityInternal (l : Launch) (hlt : l.stackTraces = false) (dC : Nat → ClassId) (dI : Nat → Nat → Nat) (sz : Nat) (szl : Nat) (sa : Nat → Nat) (h0 va : Nat) (cpb : ClassId) (h0_maybeLatin1 : Int32) (h0_count : Int32) (nva : Nat) (gva : Nat → Int32)  (b_gva : ∀ j : Nat, -128 ≤ (gva j).toInt ∧ (gva j).toInt ≤ 127) (p0 : Int32)  (hva : (nva : Int) < 1000000) (hp : 0 ≤ p0.toInt ∧ p0.toInt ≤ 1000000) : Met l y_JQ_ensureCapacityInternal w_JQ_ensureCapacityInternal ({ frames := 3, cells := 1, slots := (nva + max (p0.toInt - nva).toNat (nva + 2)), locals := 72 }) (va_Pc [.ref h0, .int p0] (fun U => U.heap.size = sz ∧ va_P (dC, dI) cls2 (wz_487 h0 va 0 h0_maybeLatin1 h0_count va cpb nva gva) U.heap ∧ va_K (dC, dI) cls2 [(cpb, .byte)] U ∧ va_D (fun _ => True) (wz_487 h0 va 0 h0_maybeLatin1 h0_count va cpb nva gva) ∧ sm sa (va_A (wz_487 h0 va 0 h0_maybeLatin1 h0_count va cpb nva gva) sz) U U.heap ∧ hsl U.heap = szl)) (va_Qv (fun (u : (Nat → Int32) × Nat × Nat × Nat × Nat) => match u with | (gva2, va2, kcz2, knz2, nva2) => (∀ j : Nat, -128 ≤ (gva2 j).toInt ∧ (gva2 j).toInt ≤ 127) ∧ (p0.toInt ≤ (nva2 : Int) ∧ kcz2 ≤ 1 ∧ nva ≤ nva2 ∧ (nva2 = nva ∧ kcz2 = 0 ∧ knz2 = 0 ∨ (nva : Int) < p0.toInt ∧ nva2 = nva + max (p0.toInt - nva).toNat (nva + 2) ∧ knz2 = nva2) ∧ ∀ j, j < nva → gva2 j = gva j)) (at_JQ_ensureCapacityInternal dC dI sz szl sa h0 va cpb h0_maybeLatin1 h0_count (va_A (wz_487 h0 va 0 h0_maybeLatin1 h0_count va cpb nva gva) sz)) (va_A (wz_487 h0 va 0 h0_maybeLatin1 h0_count va cpb nva gva) sz)) (1) ((nva + max (p0.toInt - nva).toNat (nva + 2))) (va_A (wz_487 h0 va 0 h0_maybeLatin1 h0_count va cpb nva gva) sz) := by
  refine Met.ofW (cc := b_JQ_ensureCapacityInternal) (maxL := 3) (ret := none) (by decide) rfl ?_
  intro p e s m args below meth c s₁ B hml hv
  obtain ⟨rfl, hsz, hP, hK, hD0, hSW, hszl⟩ := hv
  have hx := B.exec
  have hb := B.bytes
  have hr := B.returns
  have hts0 := atoms_spec (ws := w_JQ_ensureCapacityInternal) B.pre
  have hts : ∀ w ∈ lw_g, w.before _ s = true := fun w h => hts0 w (List.mem_cons_of_mem _ h)
  have hown : s.vm.findClass R_JQ = some m.cls := findClass_of_methodNamed B.named
  have hlocks := B.notSynchronized
  clear hts0
  subst hsz
  subst hszl
  have hD := hD0.self (sz := s.heap.size)
  generalize hAe : va_A (wz_487 h0 va 0 h0_maybeLatin1 h0_count va cpb nva gva) s.heap.size = A at hD hSW ⊢
  have hA : ∀ q : Nat, s.heap.size ≤ q → A q := fun q h => by rw [← hAe]; exact Or.inr h
  clear hAe
  have hP : va_P (dC, dI) cls2 (wz_487 h0 va 0 h0_maybeLatin1 h0_count va cpb nva gva) s.heap := hP
  have hl := lv_entry ([.ref h0, .int p0]) (n := 3) (Nat.le_of_ble_eq_true rfl)
  rw [lg_entry_eq]
  generalize (lg_sl ([.ref h0, .int p0]) ++ List.replicate (3 - (lg_sl ([.ref h0, .int p0])).length) Slot.unset).toArray = ls at hl ⊢
  have hl : lv_has ls 3 [(0, .ref h0), (1, .int p0)] := hl
  have k0 : (0 : Int32).toInt = 0 := by decide
  refine w_gen (A := A) hP (fun H locs hP hS => ?_)
  have lo_p0 := i32_lo p0
  have hi_p0 := i32_hi p0
  refine lv_aload_n hx hb d_JQ_ensureCapacityInternal_0 rfl (lv_at hl 0 rfl) ?_
  refine va_get (D := (dC, dI)) (ci := 17) (v := .ref va) (C := R_JB) (T := F_JB) (N := 4) hx hb hts i_JB hown hK hP 0 rfl rfl 0 (by decide) (hts _ kF_JQ_15) (fun _ h9 => h9) rfl d_JQ_ensureCapacityInternal_1 ?_
  refine va_alen hx hb hK hP 1 0 rfl rfl rfl d_JQ_ensureCapacityInternal_4 ?_
  refine lv_topi (fun x1 ex1 => ?_)
  have tx1 : x1.toInt = nva := by rw [ex1]; exact i32_len (by (first | (apply Int.le_antisymm <;> omega) | omega))
  refine lv_aload_n hx hb d_JQ_ensureCapacityInternal_5 rfl (lv_at hl 0 rfl) ?_
  refine va_get (D := (dC, dI)) (ci := 17) (v := .int 0) (C := R_JB) (T := F_JB) (N := 4) hx hb hts i_JB hown hK hP 0 rfl rfl 1 (by decide) (hts _ kF_JQ_22) (fun _ h9 => h9) rfl d_JQ_ensureCapacityInternal_6 ?_
  refine lv_ishr hx hb d_JQ_ensureCapacityInternal_9 ?_
  refine lv_topi (fun x2 ex2 => ?_)
  have tx2 := sh0r ex2
  refine lv_istore_n (lv' := [(2, .int x2), (0, .ref h0), (1, .int p0)]) hx hb d_JQ_ensureCapacityInternal_10 rfl hl (by decide) rfl (fun ls hl => ?_)
  refine lv_iload_n hx hb d_JQ_ensureCapacityInternal_11 rfl (lv_at hl 2 rfl) ?_
  refine lv_iload_n hx hb d_JQ_ensureCapacityInternal_12 rfl (lv_at hl 0 rfl) ?_
  refine lv_isub hx hb d_JQ_ensureCapacityInternal_13 ?_
  refine lv_topi (fun x3 ex3 => ?_)
  have tx3 : x3.toInt = p0.toInt - x2.toInt := by have z := i32_sub ex3 (by (first | (apply Int.le_antisymm <;> omega) | omega)) (by (first | (apply Int.le_antisymm <;> omega) | omega)); first | exact z | (first | (apply Int.le_antisymm <;> omega) | omega)
  refine lv_if_le (tgt := 38) hx hb d_JQ_ensureCapacityInternal_14 (by decide) (fun c14 => ?_) (fun c14 => ?_)
  · have q14 := leI c14
    have hP9 := hP.sb (wq := (wz_487 h0 va 0 h0_maybeLatin1 h0_count va cpb nva gva)) [0, 1] rfl
    have hD9 := hD.sb (wq := (wz_487 h0 va 0 h0_maybeLatin1 h0_count va cpb nva gva)) [0, 1] (by decide) rfl
    refine w_known (fun hzc hzs => ?_)
    refine W.widen (k := 1) (n := (nva + max (p0.toInt - nva).toNat (nva + 2))) (by (first | (apply Int.le_antisymm <;> omega) | omega)) (by (first | (apply Int.le_antisymm <;> omega) | omega)) ?_
    exact W.vret hx hb hr (fun t ht hW => ⟨⟨(gva, va, 0, 0, nva), rfl, ⟨b_gva, ⟨by (first | (apply Int.le_antisymm <;> omega) | omega), by (first | (apply Int.le_antisymm <;> omega) | omega), by (first | (apply Int.le_antisymm <;> omega) | omega), by (first | (apply Int.le_antisymm <;> omega) | omega), fun j _ => rfl⟩⟩, va_P.he ht.symm hP9, va_K.moved hW.alike hK, hD9, by rw [ht]; exact hzc, by rw [ht]; exact hzs⟩, hS.F ht⟩) hS.2.2 d_JQ_ensureCapacityInternal_38
  · have q14 := nleI c14
    refine lv_aload_n hx hb d_JQ_ensureCapacityInternal_17 rfl (lv_at hl 1 rfl) ?_
    refine lv_aload_n hx hb d_JQ_ensureCapacityInternal_18 rfl (lv_at hl 1 rfl) ?_
    refine va_get (D := (dC, dI)) (ci := 17) (v := .ref va) (C := R_JB) (T := F_JB) (N := 4) hx hb hts i_JB hown hK hP 0 rfl rfl 0 (by decide) (hts _ kF_JQ_15) (fun _ h9 => h9) rfl d_JQ_ensureCapacityInternal_19 ?_
    refine lv_aload_n hx hb d_JQ_ensureCapacityInternal_22 rfl (lv_at hl 1 rfl) ?_
    refine lv_iload_n hx hb d_JQ_ensureCapacityInternal_23 rfl (lv_at hl 2 rfl) ?_
    have hPc := hP.sb (wq := (wz_487 h0 va 0 h0_maybeLatin1 h0_count va cpb nva gva)) [0, 1] rfl
    have hDc := hD.sb (wq := (wz_487 h0 va 0 h0_maybeLatin1 h0_count va cpb nva gva)) [0, 1] (by decide) rfl
    have hKc := hK.sb (tyq := [(cpb, .byte)]) [0] rfl
    have hFc := va_free (wc := (wz_487 h0 va 0 h0_maybeLatin1 h0_count va cpb nva gva)) hD hS hA [0, 1] rfl
    refine va_calli (va_runV (As := [.int p0]) (rest := [.ref va, .ref h0]) ⟨hx, hb, hml, hown, hts⟩ (c_JQ_newCapacity l hlt dC dI H.size h0 va cpb h0_maybeLatin1 h0_count nva gva (b_gva) p0 (hva) (by (first | (apply Int.le_antisymm <;> omega) | omega))) ⟨callB_of 1 hts (gW kC_JQ_newCapacity) rfl rfl rfl (hts _ kI_JQ) (hts _ kM_JQ_104) (by decide +kernel) ⟨Nat.le_of_ble_eq_true rfl, Nat.le_of_ble_eq_true rfl⟩, hts _ kV_JQ_newCapacity, hSW.sel 1 rfl⟩ ⟨fun a U g mk z => by obtain ⟨z0, z1, zP, zK, zD⟩ := z; exact ⟨z0, z1, zP, va_K.moved (u := U) (U := U.calling g mk a) (Vm.Alike.refl U.vm) zK, zD⟩, va_recv hKc hPc (ci := 17) (q0 := 0) rfl rfl, fun U hU hW => ⟨rfl, by rw [hU], va_P.he hU.symm hPc, va_K.moved hW.alike hKc, hDc.weaken (fun _ _ _ _ => trivial)⟩⟩ rfl rfl hl.1 rfl (lv_room (Nat.le_of_ble_eq_true rfl)) d_JQ_ensureCapacityInternal_24 ⟨by dsimp only [headSpec]; (first | (apply Int.le_antisymm <;> omega) | omega), by dsimp only [headSpec]; (first | (apply Int.le_antisymm <;> omega) | omega)⟩) hS (fun q _ h => hFc q h) hFc (fun r4 u t H1 locs ht hvm hw hB hz1 hk1 hS => ?_)
    try dsimp only at hw
    have xr4 := hw
    try clear hw
    obtain ⟨hP1, hK1, hD1⟩ := hB
    replace hP1 := va_P.he ht hP1
    obtain ⟨hP, hD⟩ := va_join (wr := []) (w1 := (wz_487 h0 va 0 h0_maybeLatin1 h0_count va cpb nva gva)) hP hD [0, 1] [] rfl rfl (by decide) (by decide) hk1 hFc hP1 hD1
    clear hPc hDc hKc hFc hz1 hk1 hP1 hK1 hD1
    rename Heap => H
    have hP : va_P (dC, dI) cls2 (wz_487 h0 va 0 h0_maybeLatin1 h0_count va cpb nva gva) H := hP
    have hD : va_D A (wz_487 h0 va 0 h0_maybeLatin1 h0_count va cpb nva gva) := hD
    refine lv_aload_n hx hb d_JQ_ensureCapacityInternal_27 rfl (lv_at hl 1 rfl) ?_
    refine va_get (D := (dC, dI)) (ci := 17) (v := .int 0) (C := R_JB) (T := F_JB) (N := 4) hx hb hts i_JB hown hK hP 0 rfl rfl 1 (by decide) (hts _ kF_JQ_22) (fun _ h9 => h9) rfl d_JQ_ensureCapacityInternal_28 ?_
    refine lv_ishl hx hb d_JQ_ensureCapacityInternal_31 ?_
    refine lv_topi (fun x7 ex7 => ?_)
    have tx7 := sh0l ex7
    refine w_known (fun hzc hzs => ?_)
    have hPc := hP.sb (wq := [(va, .inl (cpb, nva, .inl gva))]) [1] rfl
    have hDc := hD.sb (wq := [(va, .inl (cpb, nva, .inl gva))]) [1] (by decide) rfl
    have hKc := hK.sb (tyq := [(cpb, .byte)]) [0] rfl
    have hFc := va_free (wc := [(va, .inl (cpb, nva, .inl gva))]) hD hS hA [1] rfl
    refine va_callr (va_runS (As := [.ref va, .int x7]) (rest := [.ref h0]) ⟨hx, hb, hml, hown, hts⟩ (c_JA_copyOf l hlt dC dI H.size (hsl H) sa va cpb nva gva (b_gva) x7 (hva) (by (first | (apply Int.le_antisymm <;> omega) | omega))) ⟨callB_of 2 hts (gW kC_JA_copyOf) rfl rfl rfl (hts _ kI_JA) (hts _ kM_JQ_108) (by decide +kernel) ⟨Nat.le_of_ble_eq_true rfl, Nat.le_of_ble_eq_true rfl⟩, hts _ kT_JA_copyOf⟩ ⟨fun a U g mk z => by obtain ⟨z0, z1, zP, zK, zD, zS, zZ⟩ := z; exact ⟨z0, z1, zP, va_K.moved (u := U) (U := U.calling g mk a) (Vm.Alike.refl U.vm) zK, zD, sm.same (u := U) (U := U.calling g mk a) rfl zS, zZ⟩, fun U hU hW => ⟨rfl, by rw [hU], va_P.he hU.symm hPc, va_K.moved hW.alike hKc, hDc.weaken (fun _ _ _ _ => trivial), hSW.call hS hFc hW hU, by rw [hU]⟩⟩ rfl rfl hl.1 rfl (lv_room (Nat.le_of_ble_eq_true rfl)) d_JQ_ensureCapacityInternal_32 ⟨by dsimp only [headSpec]; (first | (apply Int.le_antisymm <;> omega) | omega), by dsimp only [headSpec]; (first | (apply Int.le_antisymm <;> omega) | omega)⟩) hS (fun q _ h => hFc q h) hFc (fun u ra t H1 locs ht hvm hw hB hz1 hk1 hS => ?_)
    obtain ⟨n9, n10, n11, n12, nq32_nw⟩ := u
    try dsimp only at hw
    obtain ⟨bn9, xr8⟩ := hw
    try clear hw
    obtain ⟨y1, y2, y3, y4⟩ := xr8
    dsimp only at hB
    obtain ⟨rfl, hB⟩ := hB
    obtain ⟨hP1, hK1, hD1, hZc, hZs⟩ := hB
    rw [ht] at hP1 hZc hZs
    obtain ⟨kc13, ekc13⟩ : ∃ z : Nat, z = 0 + 0 + n10 := ⟨_, rfl⟩
    obtain ⟨kn14, ekn14⟩ : ∃ z : Nat, z = 0 + 0 + n11 := ⟨_, rfl⟩
    refine w_refund (c2 := kc13) (n2 := kn14) (by (first | (apply Int.le_antisymm <;> omega) | omega)) (by (first | (apply Int.le_antisymm <;> omega) | omega)) ?_
    clear hzc hzs hZc hZs
    obtain ⟨hP, hD⟩ := va_join (wr := [(h0, .inr (17, [.ref va, .int 0, .int h0_maybeLatin1, .int h0_count]))]) (w1 := [(va, .inl (cpb, nva, .inl gva)), (nq32_nw, .inl (cpb, n12, .inl n9))]) hP hD [1] [0] rfl rfl (by decide) (by decide) hk1 hFc hP1 hD1
    clear hPc hDc hKc hFc hz1 hk1 hP1 hK1 hD1
    rename Heap => H
    have hP : va_P (dC, dI) cls2 [(h0, .inr (17, [.ref va, .int 0, .int h0_maybeLatin1, .int h0_count])), (va, .inl (cpb, nva, .inl gva)), (nq32_nw, .inl (cpb, n12, .inl n9))] H := hP
    have hD : va_D A [(h0, .inr (17, [.ref va, .int 0, .int h0_maybeLatin1, .int h0_count])), (va, .inl (cpb, nva, .inl gva)), (nq32_nw, .inl (cpb, n12, .inl n9))] := hD
    refine va_put (D := (dC, dI)) (ci := 17) (v := .ref nq32_nw) (ty := .array .byte) (C := R_JB) (T := F_JB) (N := 4) hx hb hts i_JB t_JB t_JB_ok n_JB hown hK hP hD hS 0 rfl rfl 0 (by decide) (hts _ kF_JQ_15) (fun _ h9 => h9) rfl (by decide +kernel) rfl rfl (Nat.le_of_ble_eq_true rfl) d_JQ_ensureCapacityInternal_35 (fun H locs hP hD hS => ?_)
    have hP9 := hP.sb (wq := (wz_487 h0 nq32_nw 0 h0_maybeLatin1 h0_count nq32_nw cpb n12 n9)) [0, 2] rfl
    have hD9 := hD.sb (wq := (wz_487 h0 nq32_nw 0 h0_maybeLatin1 h0_count nq32_nw cpb n12 n9)) [0, 2] (by decide) rfl
    refine w_known (fun hzc hzs => ?_)
    refine W.widen (k := 1) (n := (nva + max (p0.toInt - nva).toNat (nva + 2))) (by (first | (apply Int.le_antisymm <;> omega) | omega)) (by (first | (apply Int.le_antisymm <;> omega) | omega)) ?_
    exact W.vret hx hb hr (fun t ht hW => ⟨⟨(n9, nq32_nw, kc13, kn14, n12), rfl, ⟨bn9, ⟨by (first | (apply Int.le_antisymm <;> omega) | omega), by (first | (apply Int.le_antisymm <;> omega) | omega), by (first | (apply Int.le_antisymm <;> omega) | omega), by (first | (apply Int.le_antisymm <;> omega) | omega), y4⟩⟩, va_P.he ht.symm hP9, va_K.moved hW.alike hK, hD9, by rw [ht]; exact hzc, by rw [ht]; exact hzs⟩, hS.F ht⟩) hS.2.2 d_JQ_ensureCapacityInternal_38
end q_m74
