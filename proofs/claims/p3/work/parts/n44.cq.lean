/-! the law: contracts at a world as one -/
/-- a contract taken at a start of its own choice -/
theorem met_cq {l : Launch} {y : MethodName} {ws : List Cond} {rm : Room} {P1 : Array Value → State → Prop} {Q1 : Array Value → State → Outcome → State → Prop} {mc ms : Nat} {fr : Addr → Prop}
    (h : ∀ (a : Array Value) (s : State), P1 a s → ∃ (Pc : Array Value → State → Prop) (Qc : Array Value → State → Outcome → State → Prop) (f2 : Addr → Prop), Met l y ws rm Pc Qc mc ms f2 ∧ Pc a s ∧ (∀ (o : Outcome) (t : State), s.vm.Alike t.vm → Qc a s o t → Q1 a s o t) ∧ ∀ q, f2 q → fr q) : Met l y ws rm P1 Q1 mc ms fr := by
  intro p e ha hc hk s m args below hf happ hP _
  obtain ⟨Pc, Qc, f2, hM, hpc, hq, hfr⟩ := h args s hP
  obtain ⟨n, o, h1, h2, h3, h4, L, hF, hL⟩ := hM p e ha hc hk s m args below hf happ hpc trivial
  exact ⟨n, o, h1, h2, h3, hq _ _ hF.2.1.alike h4, L, hF, fun q hq2 => hfr _ (hL q hq2)⟩
/-- a world's part keeps what it may touch within the world's -/
theorem va_As {ws wc : va_W} {sz : Nat} (is : List Nat) (hs : is.map (fun i => ws[i]?) = wc.map some) : ∀ q, va_A wc sz q → va_A ws sz q := by
  intro q h
  rcases h with ⟨k, e, h⟩ | h
  · obtain ⟨i, -, h2⟩ := va_in_of is hs h
    exact Or.inl ⟨i, e, h2⟩
  · exact Or.inr h
theorem va_Af {ws wc : va_W} {sz : Nat} (_hD : va_D (va_A ws sz) ws) (is : List Nat) (hs : is.map (fun i => ws[i]?) = wc.map some) : ∀ q, va_A wc sz q → va_A ws sz q := va_As is hs
/-- two worlds side by side: a call has the second -/
theorem lj_y {A0 : Nat → Prop} {D : va_G} {cl : List vw_C} {wx wy wy1 : va_W} {H H1 : Heap} (hP : va_P D cl (wx ++ wy) H) (hD : va_D A0 (wx ++ wy)) (hk : ∀ q : Nat, q < H.size → ¬ va_A wy H.size q → H1[q]? = H[q]?) (hF : ∀ q, va_A wy H.size q → A0 q) (hP1 : va_P D cl wy1 H1) (hD1 : va_D (va_A wy H.size) wy1) : va_P D cl (wx ++ wy1) H1 ∧ va_D A0 (wx ++ wy1) :=
  va_joinR (X := []) (cx := []) (wr := []) (rx := []) (pr := wx) (pl := wy) (pl1 := wy1) hP hD [] [] rfl rfl (by decide) (by decide) hk hF hP1 hD1
/-- .. the first -/
theorem lj_x {A0 : Nat → Prop} {D : va_G} {cl : List vw_C} {wx wy wx1 : va_W} {H H1 : Heap} (hP : va_P D cl (wx ++ wy) H) (hD : va_D A0 (wx ++ wy)) (hk : ∀ q : Nat, q < H.size → ¬ va_A wx H.size q → H1[q]? = H[q]?) (hF : ∀ q, va_A wx H.size q → A0 q) (hP1 : va_P D cl wx1 H1) (hD1 : va_D (va_A wx H.size) wx1) : va_P D cl (wx1 ++ wy) H1 ∧ va_D A0 (wx1 ++ wy) := by
  obtain ⟨h1, h2⟩ := lj_y (vq_Pp List.perm_append_comm hP) (vq_Dp List.perm_append_comm hD) hk hF hP1 hD1
  exact ⟨vq_Pp List.perm_append_comm h1, vq_Dp List.perm_append_comm h2⟩
theorem lj_Px {D : va_G} {cl : List vw_C} {wx wy : va_W} {H : Heap} (hP : va_P D cl (wx ++ wy) H) : va_P D cl wx H := vq_P.mpr (fun q hq => vq_P.mp hP q (List.mem_append_left _ hq))
theorem lj_Py {D : va_G} {cl : List vw_C} {wx wy : va_W} {H : Heap} (hP : va_P D cl (wx ++ wy) H) : va_P D cl wy H := vq_P.mpr (fun q hq => vq_P.mp hP q (List.mem_append_right _ hq))
theorem lj_Dx {A0 : Nat → Prop} {wx wy : va_W} (hD : va_D A0 (wx ++ wy)) : va_D A0 wx := by
  obtain ⟨h1, h2⟩ := vq_D.mp hD
  exact vq_D.mpr ⟨List.Pairwise.sublist ((List.sublist_append_left wx wy).map _) h1, fun q hq => h2 q (List.mem_append_left _ hq)⟩
theorem lj_Dy {A0 : Nat → Prop} {wx wy : va_W} (hD : va_D A0 (wx ++ wy)) : va_D A0 wy := by
  obtain ⟨h1, h2⟩ := vq_D.mp hD
  exact vq_D.mpr ⟨List.Pairwise.sublist ((List.sublist_append_right wx wy).map _) h1, fun q hq => h2 q (List.mem_append_right _ hq)⟩
theorem lj_F {A0 : Nat → Prop} {w : va_W} {H0 H : Heap} {locs : List Loc} (hD : va_D A0 w) (hS : va_S A0 H0 H locs) (hA : ∀ q, H0.size ≤ q → A0 q) : ∀ q, va_A w H.size q → A0 q := by
  intro q h
  rcases h with ⟨k, e, h⟩ | h
  · exact hD.2 k _ h
  · exact hA q (Nat.le_trans hS.1 h)
/-- cells put at their places -/
def zs9 : List Nat → va_W → va_W → va_W
  | i :: is, c :: cs, ws => zs9 is cs (ws.set i c)
  | _, _, ws => ws
theorem zs_get : ∀ (is : List Nat) (cs ws : va_W) (i : Nat) (q : Nat × va_E), is.length = cs.length → (zs9 is cs ws)[i]? = some q → (∃ k : Nat, is[k]? = some i ∧ cs[k]? = some q) ∨ (i ∉ is ∧ ws[i]? = some q)
  | [], cs, ws, i, q, _, h => by
    have h : ws[i]? = some q := by cases cs <;> exact h
    exact Or.inr ⟨List.not_mem_nil, h⟩
  | i0 :: is, [], ws, i, q, hl, h => by simp at hl
  | i0 :: is, c :: cs, ws, i, q, hl, h => by
    have hl2 : is.length = cs.length := by simpa using hl
    rcases zs_get is cs (ws.set i0 c) i q hl2 h with ⟨k, h1, h2⟩ | ⟨h1, h2⟩
    · exact Or.inl ⟨k + 1, by simpa using h1, by simpa using h2⟩
    · rw [List.getElem?_set] at h2
      by_cases e : i0 = i
      · rw [if_pos e] at h2
        by_cases g : i0 < ws.length
        · rw [if_pos g] at h2
          exact Or.inl ⟨0, by simp [e], by simpa using h2⟩
        · rw [if_neg g] at h2
          cases h2
      · rw [if_neg e] at h2
        exact Or.inr ⟨fun z => by
          rcases List.mem_cons.mp z with z | z
          · exact e z.symm
          · exact h1 z, h2⟩
/-- what a call left goes back to its places -/
theorem va_zs {A0 : Nat → Prop} {D : va_G} {cl : List vw_C} {ws wc w1 : va_W} {H H1 : Heap} (hP : va_P D cl ws H) (hD : va_D A0 ws) (is : List Nat) (hC : is.map (fun i => ws[i]?) = wc.map some) (hl : is.length = w1.length) (hk : ∀ q : Nat, q < H.size → ¬ va_A wc H.size q → H1[q]? = H[q]?) (hF : ∀ q, va_A wc H.size q → A0 q) (hP1 : va_P D cl w1 H1) (hD1 : va_D (va_A wc H.size) w1) : va_P D cl (zs9 is w1 ws) H1 ∧ va_D A0 (zs9 is w1 ws) := by
  have far : ∀ (j : Nat) (q : Nat × va_E), j ∉ is → ws[j]? = some q → q.1 < H.size ∧ ¬ va_A wc H.size q.1 := by
    intro j q hj hq
    have hlt := (hP j q hq).lt
    refine ⟨hlt, fun h => ?_⟩
    rcases h with ⟨k, e, h⟩ | h
    · obtain ⟨i, h1, h2⟩ := va_in_of is hC h
      have := hD.1 i j _ _ h2 hq rfl
      rw [this] at h1
      exact hj (List.mem_of_getElem? h1)
    · omega
  refine ⟨fun i q hq => ?_, fun i j p q hp hq e => ?_, fun i q hq => ?_⟩
  · rcases zs_get is w1 ws i q hl hq with ⟨k, -, h2⟩ | ⟨h1, h2⟩
    · exact hP1 k q h2
    · obtain ⟨g1, g2⟩ := far i q h1 h2
      exact (hP i q h2).kept (hk q.1 g1 g2)
  · rcases zs_get is w1 ws i p hl hp with ⟨k, h1, h2⟩ | ⟨h1, h2⟩
    · rcases zs_get is w1 ws j q hl hq with ⟨k2, g1, g2⟩ | ⟨g1, g2⟩
      · have := hD1.1 k k2 p q h2 g2 e
        rw [this] at h1
        exact Option.some.inj (h1.symm.trans g1)
      · exact absurd (by rw [← e]; exact hD1.2 k p h2) (far j q g1 g2).2
    · rcases zs_get is w1 ws j q hl hq with ⟨k2, g1, g2⟩ | ⟨g1, g2⟩
      · exact absurd (by rw [e]; exact hD1.2 k2 q g2) (far i p h1 h2).2
      · exact hD.1 i j p q h2 g2 e
  · rcases zs_get is w1 ws i q hl hq with ⟨k, -, h2⟩ | ⟨h1, h2⟩
    · exact hF _ (hD1.2 k q h2)
    · exact hD.2 i q h2
theorem va_zsE {A0 : Nat → Prop} {D : va_G} {cl : List vw_C} {ws wc w1 : va_W} {H H1 : Heap} (hP : va_P D cl ws H) (hD : va_D A0 ws) (is : List Nat) (hC : is.map (fun i => ws[i]?) = wc.map some) (hl : is.length = w1.length) (hk : ∀ q : Nat, q < H.size → ¬ va_A wc H.size q → H1[q]? = H[q]?) (hF : ∀ q, va_A wc H.size q → A0 q) (hP1 : va_P D cl w1 H1) (hD1 : va_D (va_A wc H.size) w1) : ∃ w : va_W, w = zs9 is w1 ws ∧ va_P D cl w H1 ∧ va_D A0 w := ⟨_, rfl, va_zs hP hD is hC hl hk hF hP1 hD1⟩
def xl9 {α : Type} (l : List α) (d : α) (k : Nat) : α := l.getD k d
theorem XW.moved {dC : Nat → ClassId} {dI : Nat → Nat → Nat} {sa : Nat → Nat} {u U : State} {h0 ou : Nat} {tl : Int} {ov : Int64} {wl : va_W} (hvm : u.vm.Alike U.vm) (h : XW dC dI sa u h0 ou tl ov wl) : XW dC dI sa U h0 ou tl ov wl := by
  obtain ⟨ad, cd, iv, lv, fi, fl, vv, sc_sign, gss, gpg, gwg, e, hK, hr⟩ := h
  exact ⟨ad, cd, iv, lv, fi, fl, vv, sc_sign, gss, gpg, gwg, e, va_K.moved hvm hK, hr⟩
theorem XW.out {dC : Nat → ClassId} {dI : Nat → Nat → Nat} {sa : Nat → Nat} {U : State} {h0 ou : Nat} {tl : Int} {ov : Int64} {wl : va_W} (h : XW dC dI sa U h0 ou tl ov wl) : ∃ (cou : ClassId) (gou : Nat → Int64), wl[117]? = some (ou, .inl (cou, 1, .inr (.inl gou))) ∧ gou 0 = ov ∧ va_K (dC, dI) cls [(cou, .long)] U ∧ wl.length = 118 := by
  obtain ⟨ad, cd, iv, lv, fi, fl, vv, sc_sign, gss, gpg, gwg, rfl, hK, hr⟩ := h
  have ho := hr.2.2.2.2.2.2.2.2.2.2.2.2.2.2.2.2.2.2.2.2.2.2.2.2.2.2.2.2.2.2.2.2.2.2.2.2.2.2.2.2.2.2.2.2.2.2.2.2.2.2.2.2.2.1
  exact ⟨_, _, rfl, ho, hK.sub (tys' := [((cd 95), .long)]) [95] rfl, rfl⟩
abbrev XI (dC : Nat → ClassId) (dI : Nat → Nat → Nat) (sz : Nat) (sa : Nat → Nat) (h0 ou : Nat) (tl : Int) (ov : Int64) (wl : va_W) (U : State) : Prop := U.heap.size = sz ∧ va_P (dC, dI) cls2 wl U.heap ∧ XW dC dI sa U h0 ou tl ov wl ∧ va_D (fun _ => True) wl ∧ sw sa (va_A wl sz) U U.heap
abbrev XO (dC : Nat → ClassId) (dI : Nat → Nat → Nat) (sa : Nat → Nat) (h0 ou : Nat) (A : Nat → Prop) (u : va_W × Int × Int64) (t : State) : Prop := va_P (dC, dI) cls2 u.1 t.heap ∧ XW dC dI sa t h0 ou u.2.1 u.2.2 u.1 ∧ va_D A u.1
