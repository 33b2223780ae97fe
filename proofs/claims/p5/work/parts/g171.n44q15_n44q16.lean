section q_n44q15
/-! p5: the class: exports -/
/-- the tables hold the exports X -/
def exA (es ez ek ei : Nat → Int32) (X : List (Nat × Nat × Nat × Nat)) : Prop := ∀ (k : Nat) (x : Nat × Nat × Nat × Nat), X[k]? = some x → (es k).toInt = (x.1 : Int) ∧ (ez k).toInt = (x.2.1 : Int) ∧ (ek k).toInt = (x.2.2.1 : Int) ∧ (ei k).toInt = (x.2.2.2 : Int)
def exO (f : Nat → Int32) (L a0 : Nat) (s a : Int32) (n k : Int) (es ez ek ei : Nat → Int32) : Prop := (s.toInt = 1 ∧ ∃ X : List (Nat × Nat × Nat × Nat), (X.length : Int) = k ∧ zV f L 40 (zExp f L) a0 = zA (zExp f L) (n - k).toNat X a.toNatClampNeg ∧ exA es ez ek ei X) ∨ (s.toInt = 0 ∧ zV f L 40 (zExp f L) a0 = none)
theorem exO_0 {f es ez ek ei : Nat → Int32} {L a0 : Nat} {s0 s a : Int32} {r k : Int} (h : rz (zM f L 40 a0) s0 s a r) (hs : s0.toInt = 1) (hk : k = 0) : exO f L a0 s a r k es ez ek ei := by
  rcases h with ⟨h1, h2, h3, h4⟩ | ⟨h1, h2⟩
  · refine Or.inl ⟨h1, [], by rw [hk]; rfl, ?_, fun t x ht => by cases ht⟩
    unfold zV
    rw [h4, hk, Int.sub_zero]
  · refine Or.inr ⟨h1, ?_⟩
    unfold zV
    rw [h2 hs]
/-- a name's bytes go by: i of them -/
def nmI (s1 a1 lim s a : Int32) (i : Int) : Prop := (s.toInt = 1 ∧ s1.toInt = 1 ∧ a.toInt = a1.toInt + i) ∨ (s.toInt = 0 ∧ (s1.toInt = 1 → lim.toInt < a1.toInt + i))
theorem nm_0 {s a lim : Int32} {i : Int} (hs : s.toInt = 0 ∨ s.toInt = 1) (hi : i = 0) : nmI s a lim s a i := by
  rcases hs with h | h
  · exact Or.inr ⟨h, fun z => absurd z (by (first | (apply Int.le_antisymm <;> omega) | omega))⟩
  · exact Or.inl ⟨h, h, by (first | (apply Int.le_antisymm <;> omega) | omega)⟩
theorem nm_s {f : Nat → Int32} {s1 a1 lim s a s2 a2 r : Int32} {i : Int} (h : nmI s1 a1 lim s a i) (hn : rn f s a lim s2 a2 r) : nmI s1 a1 lim s2 a2 (i + 1) := by
  rcases hn with ⟨n1, n2, n3, n4, n5⟩ | ⟨n1, n2, n3, n4⟩
  · rcases h with ⟨h1, h2, h3⟩ | ⟨h1, h2⟩
    · exact Or.inl ⟨n1, h2, by (first | (apply Int.le_antisymm <;> omega) | omega)⟩
    · (first | (apply Int.le_antisymm <;> omega) | omega)
  · refine Or.inr ⟨n1, fun z => ?_⟩
    rcases h with ⟨h1, h2, h3⟩ | ⟨h1, h2⟩
    · have := n2 h1
      (first | (apply Int.le_antisymm <;> omega) | omega)
    · have := h2 z
      (first | (apply Int.le_antisymm <;> omega) | omega)
/-- one export -/
def exz (f : Nat → Int32) (L a : Nat) (s a2 : Int32) (b n k v : Int) : Prop := (s.toInt = 1 ∧ 0 ≤ b ∧ 0 ≤ n ∧ 0 ≤ k ∧ 0 ≤ v ∧ zExp f L a = some ((b.toNat, n.toNat, k.toNat, v.toNat), a2.toNatClampNeg)) ∨ (s.toInt = 0 ∧ zExp f L a = none)
theorem ex_zz {f : Nat → Int32} {a lim s s1 a1 s2 a2 s3 a3 kd s4 s5 a5 : Int32} {n v : Int} (h1 : rz (zM f lim.toNatClampNeg 30 a.toNatClampNeg) s s1 a1 n) (h2 : nmI s1 a1 lim s2 a2 n) (h3 : rn f s2 a2 lim s3 a3 kd) (h4 : (s4.toInt = 1 ∧ s3.toInt = 1 ∧ (kd.toInt = 0 ∨ kd.toInt = 2 ∨ kd.toInt = 3)) ∨ (s4.toInt = 0 ∧ ¬ (s3.toInt = 1 ∧ (kd.toInt = 0 ∨ kd.toInt = 2 ∨ kd.toInt = 3)))) (h5 : rz (zM f lim.toNatClampNeg 2147483647 a3.toNatClampNeg) s4 s5 a5 v) (hs : s.toInt = 1) (ha : 0 ≤ a1.toInt) (hl : 0 ≤ lim.toInt) : exz f lim.toNatClampNeg a.toNatClampNeg s5 a5 a1.toInt n kd.toInt v := by
  have k1 := i32_clamp ha
  have kl := i32_clamp hl
  have e5 : s4.toInt ≠ 1 → s5.toInt = 0 := by
    intro q
    rcases h5 with ⟨v1, v2, v3, v4⟩ | ⟨v1, v2⟩
    · (first | (apply Int.le_antisymm <;> omega) | omega)
    · exact v1
  have e3 : s3.toInt ≠ 1 → s5.toInt = 0 := by
    intro q
    apply e5
    rcases h4 with ⟨v1, v2, v3⟩ | ⟨v1, v2⟩ <;> (first | (apply Int.le_antisymm <;> omega) | omega)
  have e2 : s2.toInt ≠ 1 → s5.toInt = 0 := by
    intro q
    apply e3
    rcases h3 with ⟨v1, v2, v3, v4, v5⟩ | ⟨v1, v2, v3, v4⟩ <;> (first | (apply Int.le_antisymm <;> omega) | omega)
  rcases h1 with ⟨u1, u2, u3, u4⟩ | ⟨u1, u2⟩
  · have hz : zExp f lim.toNatClampNeg a.toNatClampNeg = if a1.toNatClampNeg + n.toNat < lim.toNatClampNeg ∧ (bn (f (a1.toNatClampNeg + n.toNat)) = 0 ∨ bn (f (a1.toNatClampNeg + n.toNat)) = 2 ∨ bn (f (a1.toNatClampNeg + n.toNat)) = 3) then (match zM f lim.toNatClampNeg 2147483647 (a1.toNatClampNeg + n.toNat + 1) with
      | some (v, c) => some ((a1.toNatClampNeg, n.toNat, bn (f (a1.toNatClampNeg + n.toNat)), v), c)
      | none => none) else none := by
      unfold zExp
      rw [u4]
      rfl
    rcases h2 with ⟨w1, w2, w3⟩ | ⟨w1, w2⟩
    · have k2 := i32_clamp (x := a2) (by (first | (apply Int.le_antisymm <;> omega) | omega))
      have en : a1.toNatClampNeg + n.toNat = a2.toNatClampNeg := by (first | (apply Int.le_antisymm <;> omega) | omega)
      rw [en] at hz
      rcases h3 with ⟨v1, v2, v3, v4, v5⟩ | ⟨v1, v2, v3, v4⟩
      · have k3 := i32_clamp (x := a3) (by (first | (apply Int.le_antisymm <;> omega) | omega))
        rcases h4 with ⟨x1, x2, x3⟩ | ⟨x1, x2⟩
        · rw [if_pos ⟨by (first | (apply Int.le_antisymm <;> omega) | omega), by (first | (apply Int.le_antisymm <;> omega) | omega)⟩, show a2.toNatClampNeg + 1 = a3.toNatClampNeg by (first | (apply Int.le_antisymm <;> omega) | omega)] at hz
          rcases h5 with ⟨y1, y2, y3, y4⟩ | ⟨y1, y2⟩
          · rw [y4] at hz
            refine Or.inl ⟨y1, ha, u3, by (first | (apply Int.le_antisymm <;> omega) | omega), y3, ?_⟩
            rw [hz, show kd.toInt.toNat = bn (f a2.toNatClampNeg) by (first | (apply Int.le_antisymm <;> omega) | omega), show a1.toInt.toNat = a1.toNatClampNeg by (first | (apply Int.le_antisymm <;> omega) | omega)]
          · rw [y2 x1] at hz
            exact Or.inr ⟨y1, hz⟩
        · rw [if_neg (by (first | (apply Int.le_antisymm <;> omega) | omega))] at hz
          exact Or.inr ⟨e5 (by (first | (apply Int.le_antisymm <;> omega) | omega)), hz⟩
      · have := v2 w1
        rw [if_neg (by (first | (apply Int.le_antisymm <;> omega) | omega))] at hz
        exact Or.inr ⟨e3 (by (first | (apply Int.le_antisymm <;> omega) | omega)), hz⟩
    · have := w2 u1
      rw [if_neg (by (first | (apply Int.le_antisymm <;> omega) | omega))] at hz
      exact Or.inr ⟨e2 (by (first | (apply Int.le_antisymm <;> omega) | omega)), hz⟩
  · refine Or.inr ⟨e2 (by rcases h2 with ⟨w1, w2, w3⟩ | ⟨w1, w2⟩ <;> (first | (apply Int.le_antisymm <;> omega) | omega)), ?_⟩
    unfold zExp
    rw [u2 hs]
theorem exO_s {f es ez ek ei : Nat → Int32} {L a0 : Nat} {s a s2 a2 v1 v2 v3 v4 : Int32} {n k b z t v : Int} (h : exO f L a0 s a n k es ez ek ei) (hs : s.toInt = 1) (h1 : exz f L a.toNatClampNeg s2 a2 b z t v) (hk : 0 ≤ k) (hn : k < n) (e1 : v1.toInt = b) (e2 : v2.toInt = z) (e3 : v3.toInt = t) (e4 : v4.toInt = v) : exO f L a0 s2 a2 n (k + 1) (upd es k.toNat v1) (upd ez k.toNat v2) (upd ek k.toNat v3) (upd ei k.toNat v4) := by
  rcases h with ⟨u1, X, u2, u3, u4⟩ | ⟨u1, u2⟩
  · rw [show (n - k).toNat = (n - (k + 1)).toNat + 1 by (first | (apply Int.le_antisymm <;> omega) | omega), zA] at u3
    rcases h1 with ⟨w1, w2, w3, w4, w5, w6⟩ | ⟨w1, w2⟩
    · rw [w6] at u3
      refine Or.inl ⟨w1, X ++ [(b.toNat, z.toNat, t.toNat, v.toNat)], by rw [List.length_append, List.length_singleton]; (first | (apply Int.le_antisymm <;> omega) | omega), u3, fun j x ht => ?_⟩
      by_cases e : j < X.length
      · rw [List.getElem?_append_left e] at ht
        rw [pk_un (show j ≠ k.toNat by (first | (apply Int.le_antisymm <;> omega) | omega)), pk_un (show j ≠ k.toNat by (first | (apply Int.le_antisymm <;> omega) | omega)), pk_un (show j ≠ k.toNat by (first | (apply Int.le_antisymm <;> omega) | omega)), pk_un (show j ≠ k.toNat by (first | (apply Int.le_antisymm <;> omega) | omega))]
        exact u4 j x ht
      · have ht2 : j = X.length := by
          have := (List.getElem?_eq_some_iff.mp ht).1
          rw [List.length_append, List.length_singleton] at this
          (first | (apply Int.le_antisymm <;> omega) | omega)
        rw [ht2, List.getElem?_append_right (Nat.le_refl _), Nat.sub_self] at ht
        cases ht
        rw [ht2, show X.length = k.toNat by (first | (apply Int.le_antisymm <;> omega) | omega), pk_us, pk_us, pk_us, pk_us]
        refine ⟨?_, ?_, ?_, ?_⟩ <;> (dsimp only; (first | (apply Int.le_antisymm <;> omega) | omega))
    · rw [w2] at u3
      exact Or.inr ⟨w1, u3⟩
  · (first | (apply Int.le_antisymm <;> omega) | omega)
abbrev at_RE_readExportsy (dC : Nat → ClassId) (dI : Nat → Nat → Nat) (h0 aw ac ob ab wat wap wag waf wgt wft wfv wgc wek wei wes wez ax : Nat) (cax cwek cwei cwes cwez : ClassId) (h0_limit : Int32) (h0_codeCount : Int32) (h0_openCount : Int32) (aw_typeCount : Int32) (aw_functionCount : Int32) (aw_hasMemory : Int32) (aw_pagesLeast : Int64) (aw_pagesMost : Int64) (aw_globalCount : Int32) (ab_length : Int32) (gax : Nat → Int32) (A : Nat → Prop) (u : (Nat → Int32) × (Nat → Int32) × (Nat → Int32) × (Nat → Int32) × Int32 × Int32 × Int32) (t : State) : Prop := match u with | (gwei, gwek, gwes, gwez, aw_exportCount, h0_at, h0_sound) => va_P (dC, dI) cls (wz_58 h0 aw ac h0_at h0_limit h0_sound h0_codeCount ob h0_openCount aw ab ac aw_typeCount wat wap wag aw_functionCount waf aw_hasMemory aw_pagesLeast aw_pagesMost aw_globalCount wgt wft wfv wgc aw_exportCount wek wei wes wez ab ax ab_length ax cax gax wek cwek gwek wei cwei gwei wes cwes gwes wez cwez gwez) t.heap ∧ va_K (dC, dI) cls [(cax, .byte), (cwek, .int), (cwei, .int), (cwes, .int), (cwez, .int)] t ∧ va_D A (wz_58 h0 aw ac h0_at h0_limit h0_sound h0_codeCount ob h0_openCount aw ab ac aw_typeCount wat wap wag aw_functionCount waf aw_hasMemory aw_pagesLeast aw_pagesMost aw_globalCount wgt wft wfv wgc aw_exportCount wek wei wes wez ab ax ab_length ax cax gax wek cwek gwek wei cwei gwei wes cwes gwes wez cwez gwez)
set_option maxHeartbeats 4000000 in
set_option maxRecDepth 100000 in
theorem c_RE_readExportsy (l : Launch) (dC : Nat → ClassId) (dI : Nat → Nat → Nat) (sz : Nat) (h0 aw ac ob ab wat wap wag waf wgt wft wfv wgc wek wei wes wez ax : Nat) (cax cwek cwei cwes cwez : ClassId) (h0_at : Int32) (h0_limit : Int32) (h0_sound : Int32) (h0_codeCount : Int32) (h0_openCount : Int32) (aw_typeCount : Int32) (aw_functionCount : Int32) (aw_hasMemory : Int32) (aw_pagesLeast : Int64) (aw_pagesMost : Int64) (aw_globalCount : Int32) (aw_exportCount : Int32) (ab_length : Int32) (gax : Nat → Int32) (gwek : Nat → Int32) (gwei : Nat → Int32) (gwes : Nat → Int32) (gwez : Nat → Int32)  (b_h0_sound : h0_sound = 0 ∨ h0_sound = 1) (b_aw_exportCount : 0 ≤ aw_exportCount.toInt ∧ aw_exportCount.toInt ≤ 40)   (ha : 0 ≤ h0_at.toInt ∧ h0_at.toInt ≤ h0_limit.toInt ∧ h0_limit.toInt ≤ ab_length.toInt ∧ ab_length.toInt ≤ 8192) (hs : h0_sound.toInt = 1) : Met l y_RE_readExports w_RE_readExports ({ frames := 2, cells := 0, slots := 0, locals := 46 }) (va_Pc [.ref h0] (fun U => U.heap.size = sz ∧ va_P (dC, dI) cls (wz_58 h0 aw ac h0_at h0_limit h0_sound h0_codeCount ob h0_openCount aw ab ac aw_typeCount wat wap wag aw_functionCount waf aw_hasMemory aw_pagesLeast aw_pagesMost aw_globalCount wgt wft wfv wgc aw_exportCount wek wei wes wez ab ax ab_length ax cax gax wek cwek gwek wei cwei gwei wes cwes gwes wez cwez gwez) U.heap ∧ va_K (dC, dI) cls [(cax, .byte), (cwek, .int), (cwei, .int), (cwes, .int), (cwez, .int)] U ∧ va_D (fun _ => True) (wz_58 h0 aw ac h0_at h0_limit h0_sound h0_codeCount ob h0_openCount aw ab ac aw_typeCount wat wap wag aw_functionCount waf aw_hasMemory aw_pagesLeast aw_pagesMost aw_globalCount wgt wft wfv wgc aw_exportCount wek wei wes wez ab ax ab_length ax cax gax wek cwek gwek wei cwei gwei wes cwes gwes wez cwez gwez))) (va_Qv (fun (u : (Nat → Int32) × (Nat → Int32) × (Nat → Int32) × (Nat → Int32) × Int32 × Int32 × Int32) => match u with | (gwei2, gwek2, gwes2, gwez2, aw_exportCount2, h0_at2, h0_sound2) => (0 ≤ aw_exportCount2.toInt ∧ aw_exportCount2.toInt ≤ 40) ∧ (h0_sound2 = 0 ∨ h0_sound2 = 1) ∧ ((h0_at.toInt ≤ h0_at2.toInt ∧ h0_at2.toInt ≤ h0_limit.toInt) ∧ ((h0_sound2.toInt = 1 ∧ ∃ X : List (Nat × Nat × Nat × Nat), zV gax h0_limit.toNatClampNeg 40 (zExp gax h0_limit.toNatClampNeg) h0_at.toNatClampNeg = some (X, h0_at2.toNatClampNeg) ∧ aw_exportCount2.toInt = (X.length : Int) ∧ exA gwes2 gwez2 gwek2 gwei2 X) ∨ (h0_sound2.toInt = 0 ∧ zV gax h0_limit.toNatClampNeg 40 (zExp gax h0_limit.toNatClampNeg) h0_at.toNatClampNeg = none)))) (at_RE_readExportsy dC dI h0 aw ac ob ab wat wap wag waf wgt wft wfv wgc wek wei wes wez ax cax cwek cwei cwes cwez h0_limit h0_codeCount h0_openCount aw_typeCount aw_functionCount aw_hasMemory aw_pagesLeast aw_pagesMost aw_globalCount ab_length gax (va_A (wz_58 h0 aw ac h0_at h0_limit h0_sound h0_codeCount ob h0_openCount aw ab ac aw_typeCount wat wap wag aw_functionCount waf aw_hasMemory aw_pagesLeast aw_pagesMost aw_globalCount wgt wft wfv wgc aw_exportCount wek wei wes wez ab ax ab_length ax cax gax wek cwek gwek wei cwei gwei wes cwes gwes wez cwez gwez) sz)) (va_A (wz_58 h0 aw ac h0_at h0_limit h0_sound h0_codeCount ob h0_openCount aw ab ac aw_typeCount wat wap wag aw_functionCount waf aw_hasMemory aw_pagesLeast aw_pagesMost aw_globalCount wgt wft wfv wgc aw_exportCount wek wei wes wez ab ax ab_length ax cax gax wek cwek gwek wei cwei gwei wes cwes gwes wez cwez gwez) sz)) 0 0 (va_A (wz_58 h0 aw ac h0_at h0_limit h0_sound h0_codeCount ob h0_openCount aw ab ac aw_typeCount wat wap wag aw_functionCount waf aw_hasMemory aw_pagesLeast aw_pagesMost aw_globalCount wgt wft wfv wgc aw_exportCount wek wei wes wez ab ax ab_length ax cax gax wek cwek gwek wei cwei gwei wes cwes gwes wez cwez gwez) sz) := by
  refine Met.ofW (cc := b_RE_readExports) (maxL := 4) (ret := none) (by decide) rfl ?_
  intro p e s m args below meth c s₁ B hml hv
  obtain ⟨rfl, hsz, hP, hK, hD0⟩ := hv
  have hx := B.exec
  have hb := B.bytes
  have hr := B.returns
  have hts0 := atoms_spec (ws := w_RE_readExports) B.pre
  have hts : ∀ w ∈ lw_g, w.before _ s = true := fun w h => hts0 w (List.mem_cons_of_mem _ h)
  have hown : s.vm.findClass R_RE = some m.cls := findClass_of_methodNamed B.named
  have hlocks := B.notSynchronized
  clear hts0
  subst hsz
  have hD := hD0.self (sz := s.heap.size)
  generalize hAe : va_A (wz_58 h0 aw ac h0_at h0_limit h0_sound h0_codeCount ob h0_openCount aw ab ac aw_typeCount wat wap wag aw_functionCount waf aw_hasMemory aw_pagesLeast aw_pagesMost aw_globalCount wgt wft wfv wgc aw_exportCount wek wei wes wez ab ax ab_length ax cax gax wek cwek gwek wei cwei gwei wes cwes gwes wez cwez gwez) s.heap.size = A at hD ⊢
  have hA : ∀ q : Nat, s.heap.size ≤ q → A q := fun q h => by rw [← hAe]; exact Or.inr h
  clear hAe
  have hP : va_P (dC, dI) cls (wz_58 h0 aw ac h0_at h0_limit h0_sound h0_codeCount ob h0_openCount aw ab ac aw_typeCount wat wap wag aw_functionCount waf aw_hasMemory aw_pagesLeast aw_pagesMost aw_globalCount wgt wft wfv wgc aw_exportCount wek wei wes wez ab ax ab_length ax cax gax wek cwek gwek wei cwei gwei wes cwes gwes wez cwez gwez) s.heap := hP
  have hl := lv_entry ([.ref h0]) (n := 4) (Nat.le_of_ble_eq_true rfl)
  rw [lg_entry_eq]
  generalize (lg_sl ([.ref h0]) ++ List.replicate (4 - (lg_sl ([.ref h0])).length) Slot.unset).toArray = ls at hl ⊢
  have hl : lv_has ls 4 [(0, .ref h0)] := hl
  have k0 : (0 : Int32).toInt = 0 := by decide
  refine w_gen (A := A) hP (fun H locs hP hS => ?_)
  have k1 : (1 : Int32).toInt = 1 := by decide
  have k2 : (2 : Int32).toInt = 2 := by decide
  have k3 : (3 : Int32).toInt = 3 := by decide
  have th0_sound := b01 b_h0_sound
  have zat := i32_clamp (x := h0_at) (by (first | (apply Int.le_antisymm <;> omega) | omega))
  have zlm := i32_clamp (x := h0_limit) (by (first | (apply Int.le_antisymm <;> omega) | omega))
  refine lv_aload_n hx hb d_RE_readExports_0 rfl (lv_at hl 0 rfl) ?_
  refine va_get (D := (dC, dI)) (ci := 7) (v := .ref aw) (C := R_RE) (T := F_RE) (N := 8) hx hb hts i_RE hown hK hP 0 rfl rfl 0 (by decide) (hts _ kF_RE_15) (fun _ h9 => h9) rfl d_RE_readExports_1 ?_
  refine lv_aload_n hx hb d_RE_readExports_4 rfl (lv_at hl 0 rfl) ?_
  refine lv_ldc2 hx hb hown (hts _ kL_RE_153) d_RE_readExports_5 ?_
  refine lv_topl (fun x1 ex1 => ?_)
  have tx1 : x1.toInt = 40 := by rw [ex1]; decide
  have hPc := hP.sb (wq := (wz_46 h0 aw ac h0_at h0_limit h0_sound h0_codeCount ob h0_openCount aw ab ac aw_typeCount wat wap wag aw_functionCount waf aw_hasMemory aw_pagesLeast aw_pagesMost aw_globalCount wgt wft wfv wgc aw_exportCount wek wei wes wez ab ax ab_length ax cax gax)) [0, 1, 2, 3] rfl
  have hDc := hD.sb (wq := (wz_46 h0 aw ac h0_at h0_limit h0_sound h0_codeCount ob h0_openCount aw ab ac aw_typeCount wat wap wag aw_functionCount waf aw_hasMemory aw_pagesLeast aw_pagesMost aw_globalCount wgt wft wfv wgc aw_exportCount wek wei wes wez ab ax ab_length ax cax gax)) [0, 1, 2, 3] (by decide) rfl
  have hKc := hK.sb (tyq := [(cax, .byte)]) [0] rfl
  have hFc := va_free (wc := (wz_46 h0 aw ac h0_at h0_limit h0_sound h0_codeCount ob h0_openCount aw ab ac aw_typeCount wat wap wag aw_functionCount waf aw_hasMemory aw_pagesLeast aw_pagesMost aw_globalCount wgt wft wfv wgc aw_exportCount wek wei wes wez ab ax ab_length ax cax gax)) hD hS hA [0, 1, 2, 3] rfl
  refine va_calll (va_runV (As := [.long x1]) (rest := [.ref aw]) ⟨hx, hb, hml, hown, hts⟩ (c_RE_readUnsignedy l dC dI H.size h0 aw ac ob ab wat wap wag waf wgt wft wfv wgc wek wei wes wez ax cax h0_at h0_limit h0_sound h0_codeCount h0_openCount aw_typeCount aw_functionCount aw_hasMemory aw_pagesLeast aw_pagesMost aw_globalCount aw_exportCount ab_length gax (b_h0_sound) x1 (by (try dsimp only) <;> (first | (apply Int.le_antisymm <;> omega) | omega)) (by (first | (apply Int.le_antisymm <;> omega) | omega))) (cwV 1 hts (gV kM_RE_64 kV_RE_readUnsigned kS_RE_readUnsigned kI_RE kC_RE_readUnsigned) rfl rfl rfl (by decide +kernel) ⟨Nat.le_of_ble_eq_true rfl, Nat.le_of_ble_eq_true rfl⟩) ⟨fun a U g mk z => by obtain ⟨z0, z1, zP, zK, zD⟩ := z; exact ⟨z0, z1, zP, va_K.moved (u := U) (U := U.calling g mk a) (Vm.Alike.refl U.vm) zK, zD⟩, va_recv hKc hPc (ci := 7) (q0 := 0) rfl rfl, fun U hU hW => ⟨rfl, by rw [hU], va_P.he hU.symm hPc, va_K.moved hW.alike hKc, hDc.weaken (fun _ _ _ _ => trivial)⟩⟩ rfl rfl hl.1 rfl (lv_room (Nat.le_of_ble_eq_true rfl)) d_RE_readExports_8 ⟨(Nat.zero_le _), (Nat.zero_le _)⟩) hS (fun q _ h => hFc q h) hFc (fun r2 u t H1 locs ht hvm hw hB hz1 hk1 hS => ?_)
  obtain ⟨n3, n4⟩ := u
  try dsimp only at hw
  obtain ⟨bn4, xr2⟩ := hw
  try clear hw
  have tn4 := b01 bn4
  have u8 : rz (zM gax h0_limit.toNatClampNeg 40 h0_at.toNatClampNeg) h0_sound n4 n3 r2.toInt := by have z9 := xr2.2; rw [show x1.toInt.toNat = 40 from by (first | (apply Int.le_antisymm <;> omega) | omega)] at z9; exact z9
  obtain ⟨hP1, hK1, hD1⟩ := hB
  replace hP1 := va_P.he ht hP1
  obtain ⟨hP, hD⟩ := va_join (wr := (wz_59 wek cwek gwek wei cwei gwei wes cwes gwes wez cwez gwez)) (w1 := (wz_46 h0 aw ac n3 h0_limit n4 h0_codeCount ob h0_openCount aw ab ac aw_typeCount wat wap wag aw_functionCount waf aw_hasMemory aw_pagesLeast aw_pagesMost aw_globalCount wgt wft wfv wgc aw_exportCount wek wei wes wez ab ax ab_length ax cax gax)) hP hD [0, 1, 2, 3] [4, 5, 6, 7] rfl rfl (by decide) (by decide) hk1 hFc hP1 hD1
  clear hPc hDc hKc hFc hz1 hk1 hP1 hK1 hD1
  rename Heap => H
  have hP : va_P (dC, dI) cls (wz_60 wek cwek gwek wei cwei gwei wes cwes gwes wez cwez gwez h0 aw ac n3 h0_limit n4 h0_codeCount ob h0_openCount aw ab ac aw_typeCount wat wap wag aw_functionCount waf aw_hasMemory aw_pagesLeast aw_pagesMost aw_globalCount wgt wft wfv wgc aw_exportCount wek wei wes wez ab ax ab_length ax cax gax) H := hP
  have hD : va_D A (wz_60 wek cwek gwek wei cwei gwei wes cwes gwes wez cwez gwez h0 aw ac n3 h0_limit n4 h0_codeCount ob h0_openCount aw ab ac aw_typeCount wat wap wag aw_functionCount waf aw_hasMemory aw_pagesLeast aw_pagesMost aw_globalCount wgt wft wfv wgc aw_exportCount wek wei wes wez ab ax ab_length ax cax gax) := hD
  refine lv_l2i hx hb d_RE_readExports_11 rfl ?_
  refine lv_topi (fun x5 ex5 => ?_)
  have tx5 := l2i_t ex5 (by (first | (apply Int.le_antisymm <;> omega) | omega)) (by (first | (apply Int.le_antisymm <;> omega) | omega))
  refine va_put (D := (dC, dI)) (ci := 10) (v := .int x5) (ty := .int) (C := R_WA) (T := F_WA) (N := 21) hx hb hts i_WA t_WA t_WA_ok n_WA hown hK hP hD hS 5 rfl rfl 16 (by decide) (hts _ kF_RE_155) (fun _ h9 => h9) rfl (by decide +kernel) rfl rfl (Nat.le_of_ble_eq_true rfl) d_RE_readExports_12 (fun H locs hP hD hS => ?_)
  refine lv_iconst (v := 0) hx hb d_RE_readExports_15 (by decide) ?_
  refine lv_istore_n (lv' := [(1, .int 0), (0, .ref h0)]) hx hb d_RE_readExports_16 rfl hl (by decide) rfl (fun ls hl => ?_)
  refine w_loop (σ := Int32 × (Nat → Int32) × (Nat → Int32) × (Nat → Int32) × (Nat → Int32) × Int32 × Int32) (fun u H locs ls => match u with | (j17_l1, j17_wei, j17_wek, j17_wes, j17_wez, j17_h0_at, j17_h0_sound) => (0 ≤ j17_l1.toInt ∧ j17_l1.toInt ≤ 40) ∧ (j17_h0_sound = 0 ∨ j17_h0_sound = 1) ∧ (exO gax h0_limit.toNatClampNeg h0_at.toNatClampNeg j17_h0_sound j17_h0_at x5.toInt j17_l1.toInt j17_wes j17_wez j17_wek j17_wei) ∧ ((h0_at.toInt ≤ j17_h0_at.toInt ∧ j17_h0_at.toInt ≤ h0_limit.toInt)) ∧ (j17_l1.toInt ≤ x5.toInt) ∧ va_P (dC, dI) cls (wz_60 wek cwek j17_wek wei cwei j17_wei wes cwes j17_wes wez cwez j17_wez h0 aw ac j17_h0_at h0_limit j17_h0_sound h0_codeCount ob h0_openCount aw ab ac aw_typeCount wat wap wag aw_functionCount waf aw_hasMemory aw_pagesLeast aw_pagesMost aw_globalCount wgt wft wfv wgc x5 wek wei wes wez ab ax ab_length ax cax gax) H ∧ va_D A (wz_60 wek cwek j17_wek wei cwei j17_wei wes cwes j17_wes wez cwez j17_wez h0 aw ac j17_h0_at h0_limit j17_h0_sound h0_codeCount ob h0_openCount aw ab ac aw_typeCount wat wap wag aw_functionCount waf aw_hasMemory aw_pagesLeast aw_pagesMost aw_globalCount wgt wft wfv wgc x5 wek wei wes wez ab ax ab_length ax cax gax) ∧ va_S A s.heap H locs ∧ lv_has ls 4 [(0, .ref h0), (1, .int j17_l1)]) (fun u => match u with | (j17_l1, j17_wei, j17_wek, j17_wes, j17_wez, j17_h0_at, j17_h0_sound) => (x5.toInt - j17_l1.toInt).toNat) ?_ (0, gwei, gwek, gwes, gwez, n3, n4) ⟨by (try dsimp only) <;> (first | (apply Int.le_antisymm <;> omega) | omega), bn4, (exO_0 (by have z9 := u8; rw [show r2.toInt = x5.toInt from by (first | (apply Int.le_antisymm <;> omega) | omega)] at z9; exact z9) hs (by decide)), by (try dsimp only) <;> (first | (apply Int.le_antisymm <;> omega) | omega), by (try dsimp only) <;> (first | (apply Int.le_antisymm <;> omega) | omega), hP, hD, hS, lv_sub hl [1, 0] rfl⟩
  intro N17 ih17 u H locs ls hN17 hI
  obtain ⟨j17_l1, j17_wei, j17_wek, j17_wes, j17_wez, j17_h0_at, j17_h0_sound⟩ := u
  obtain ⟨b_j17_l1, b_j17_h0_sound, v1, v2, v3, hP, hD, hS, hl⟩ := hI
  have tj17_h0_sound := b01 b_j17_h0_sound
  have hN17 : (x5.toInt - j17_l1.toInt).toNat < N17 + 1 := hN17
  refine lv_iload_n hx hb d_RE_readExports_17 rfl (lv_at hl 1 rfl) ?_
  refine lv_aload_n hx hb d_RE_readExports_18 rfl (lv_at hl 0 rfl) ?_
  refine va_get (D := (dC, dI)) (ci := 7) (v := .ref aw) (C := R_RE) (T := F_RE) (N := 8) hx hb hts i_RE hown hK hP 4 rfl rfl 0 (by decide) (hts _ kF_RE_15) (fun _ h9 => h9) rfl d_RE_readExports_19 ?_
  refine va_get (D := (dC, dI)) (ci := 10) (v := .int x5) (C := R_WA) (T := F_WA) (N := 21) hx hb hts i_WA hown hK hP 5 rfl rfl 16 (by decide) (hts _ kF_RE_155) (fun _ h9 => h9) rfl d_RE_readExports_22 ?_
  refine lv_icmp_ge (tgt := 153) hx hb d_RE_readExports_25 (by decide) (fun c25 => ?_) (fun c25 => ?_)
  · have q25 := leI c25
    have hP9 := hP.sb (wq := (wz_58 h0 aw ac j17_h0_at h0_limit j17_h0_sound h0_codeCount ob h0_openCount aw ab ac aw_typeCount wat wap wag aw_functionCount waf aw_hasMemory aw_pagesLeast aw_pagesMost aw_globalCount wgt wft wfv wgc x5 wek wei wes wez ab ax ab_length ax cax gax wek cwek j17_wek wei cwei j17_wei wes cwes j17_wes wez cwez j17_wez)) [4, 5, 6, 7, 0, 1, 2, 3] rfl
    have hD9 := hD.sb (wq := (wz_58 h0 aw ac j17_h0_at h0_limit j17_h0_sound h0_codeCount ob h0_openCount aw ab ac aw_typeCount wat wap wag aw_functionCount waf aw_hasMemory aw_pagesLeast aw_pagesMost aw_globalCount wgt wft wfv wgc x5 wek wei wes wez ab ax ab_length ax cax gax wek cwek j17_wek wei cwei j17_wei wes cwes j17_wes wez cwez j17_wez)) [4, 5, 6, 7, 0, 1, 2, 3] (by decide) rfl
    exact W.vret hx hb hr (fun t ht hW => ⟨⟨(j17_wei, j17_wek, j17_wes, j17_wez, x5, j17_h0_at, j17_h0_sound), rfl, ⟨by (try dsimp only) <;> (first | (apply Int.le_antisymm <;> omega) | omega), b_j17_h0_sound, ⟨⟨by (try dsimp only) <;> (first | (apply Int.le_antisymm <;> omega) | omega), by (try dsimp only) <;> (first | (apply Int.le_antisymm <;> omega) | omega)⟩, (by rcases v1 with ⟨z1, T, z2, z3, z4⟩ | ⟨z1, z2⟩; (rw [show (x5.toInt - j17_l1.toInt).toNat = 0 from by (first | (apply Int.le_antisymm <;> omega) | omega), zA] at z3; exact Or.inl ⟨z1, T, z3, by (first | (apply Int.le_antisymm <;> omega) | omega), z4⟩); (exact Or.inr ⟨z1, z2⟩))⟩⟩, va_P.he ht.symm hP9, va_K.moved hW.alike hK, hD9⟩, hS.F ht⟩) hS.2.2 d_RE_readExports_153
  · have q25 := nleI c25
    refine lv_aload_n hx hb d_RE_readExports_28 rfl (lv_at hl 0 rfl) ?_
    refine va_get (D := (dC, dI)) (ci := 7) (v := .int j17_h0_sound) (C := R_RE) (T := F_RE) (N := 8) hx hb hts i_RE hown hK hP 4 rfl rfl 4 (by decide) (hts _ kF_RE_45) (fun _ h9 => h9) rfl d_RE_readExports_29 ?_
    refine lv_if_eq (tgt := 153) hx hb d_RE_readExports_32 (by decide) (fun c32 => ?_) (fun c32 => ?_)
    · have q32 := eqI c32
      have hP9 := hP.sb (wq := (wz_58 h0 aw ac j17_h0_at h0_limit j17_h0_sound h0_codeCount ob h0_openCount aw ab ac aw_typeCount wat wap wag aw_functionCount waf aw_hasMemory aw_pagesLeast aw_pagesMost aw_globalCount wgt wft wfv wgc x5 wek wei wes wez ab ax ab_length ax cax gax wek cwek j17_wek wei cwei j17_wei wes cwes j17_wes wez cwez j17_wez)) [4, 5, 6, 7, 0, 1, 2, 3] rfl
      have hD9 := hD.sb (wq := (wz_58 h0 aw ac j17_h0_at h0_limit j17_h0_sound h0_codeCount ob h0_openCount aw ab ac aw_typeCount wat wap wag aw_functionCount waf aw_hasMemory aw_pagesLeast aw_pagesMost aw_globalCount wgt wft wfv wgc x5 wek wei wes wez ab ax ab_length ax cax gax wek cwek j17_wek wei cwei j17_wei wes cwes j17_wes wez cwez j17_wez)) [4, 5, 6, 7, 0, 1, 2, 3] (by decide) rfl
      exact W.vret hx hb hr (fun t ht hW => ⟨⟨(j17_wei, j17_wek, j17_wes, j17_wez, x5, j17_h0_at, j17_h0_sound), rfl, ⟨by (try dsimp only) <;> (first | (apply Int.le_antisymm <;> omega) | omega), b_j17_h0_sound, ⟨⟨by (try dsimp only) <;> (first | (apply Int.le_antisymm <;> omega) | omega), by (try dsimp only) <;> (first | (apply Int.le_antisymm <;> omega) | omega)⟩, (by rcases v1 with ⟨z1, T, z2, z3, z4⟩ | ⟨z1, z2⟩; (rw [show (x5.toInt - j17_l1.toInt).toNat = 0 from by (first | (apply Int.le_antisymm <;> omega) | omega), zA] at z3; exact Or.inl ⟨z1, T, z3, by (first | (apply Int.le_antisymm <;> omega) | omega), z4⟩); (exact Or.inr ⟨z1, z2⟩))⟩⟩, va_P.he ht.symm hP9, va_K.moved hW.alike hK, hD9⟩, hS.F ht⟩) hS.2.2 d_RE_readExports_153
    · have q32 := neI c32
      refine lv_aload_n hx hb d_RE_readExports_35 rfl (lv_at hl 0 rfl) ?_
      refine lv_ldc2 hx hb hown (hts _ kL_RE_77) d_RE_readExports_36 ?_
      refine lv_topl (fun x6 ex6 => ?_)
      have tx6 : x6.toInt = 30 := by rw [ex6]; decide
      have hPc := hP.sb (wq := (wz_46 h0 aw ac j17_h0_at h0_limit j17_h0_sound h0_codeCount ob h0_openCount aw ab ac aw_typeCount wat wap wag aw_functionCount waf aw_hasMemory aw_pagesLeast aw_pagesMost aw_globalCount wgt wft wfv wgc x5 wek wei wes wez ab ax ab_length ax cax gax)) [4, 5, 6, 7] rfl
      have hDc := hD.sb (wq := (wz_46 h0 aw ac j17_h0_at h0_limit j17_h0_sound h0_codeCount ob h0_openCount aw ab ac aw_typeCount wat wap wag aw_functionCount waf aw_hasMemory aw_pagesLeast aw_pagesMost aw_globalCount wgt wft wfv wgc x5 wek wei wes wez ab ax ab_length ax cax gax)) [4, 5, 6, 7] (by decide) rfl
      have hKc := hK.sb (tyq := [(cax, .byte)]) [0] rfl
      have hFc := va_free (wc := (wz_46 h0 aw ac j17_h0_at h0_limit j17_h0_sound h0_codeCount ob h0_openCount aw ab ac aw_typeCount wat wap wag aw_functionCount waf aw_hasMemory aw_pagesLeast aw_pagesMost aw_globalCount wgt wft wfv wgc x5 wek wei wes wez ab ax ab_length ax cax gax)) hD hS hA [4, 5, 6, 7] rfl
      refine va_calll (va_runV (As := [.long x6]) (rest := []) ⟨hx, hb, hml, hown, hts⟩ (c_RE_readUnsignedy l dC dI H.size h0 aw ac ob ab wat wap wag waf wgt wft wfv wgc wek wei wes wez ax cax j17_h0_at h0_limit j17_h0_sound h0_codeCount h0_openCount aw_typeCount aw_functionCount aw_hasMemory aw_pagesLeast aw_pagesMost aw_globalCount x5 ab_length gax (b_j17_h0_sound) x6 (by (try dsimp only) <;> (first | (apply Int.le_antisymm <;> omega) | omega)) (by (first | (apply Int.le_antisymm <;> omega) | omega))) (cwV 1 hts (gV kM_RE_64 kV_RE_readUnsigned kS_RE_readUnsigned kI_RE kC_RE_readUnsigned) rfl rfl rfl (by decide +kernel) ⟨Nat.le_of_ble_eq_true rfl, Nat.le_of_ble_eq_true rfl⟩) ⟨fun a U g mk z => by obtain ⟨z0, z1, zP, zK, zD⟩ := z; exact ⟨z0, z1, zP, va_K.moved (u := U) (U := U.calling g mk a) (Vm.Alike.refl U.vm) zK, zD⟩, va_recv hKc hPc (ci := 7) (q0 := 0) rfl rfl, fun U hU hW => ⟨rfl, by rw [hU], va_P.he hU.symm hPc, va_K.moved hW.alike hKc, hDc.weaken (fun _ _ _ _ => trivial)⟩⟩ rfl rfl hl.1 rfl (lv_room (Nat.le_of_ble_eq_true rfl)) d_RE_readExports_39 ⟨(Nat.zero_le _), (Nat.zero_le _)⟩) hS (fun q _ h => hFc q h) hFc (fun r7 u t H1 locs ht hvm hw hB hz1 hk1 hS => ?_)
      obtain ⟨n8, n9⟩ := u
      try dsimp only at hw
      obtain ⟨bn9, xr7⟩ := hw
      try clear hw
      have tn9 := b01 bn9
      have u39 : rz (zM gax h0_limit.toNatClampNeg 30 j17_h0_at.toNatClampNeg) j17_h0_sound n9 n8 r7.toInt := by have z9 := xr7.2; rw [show x6.toInt.toNat = 30 from by (first | (apply Int.le_antisymm <;> omega) | omega)] at z9; exact z9
      obtain ⟨hP1, hK1, hD1⟩ := hB
      replace hP1 := va_P.he ht hP1
      obtain ⟨hP, hD⟩ := va_join (wr := (wz_59 wek cwek j17_wek wei cwei j17_wei wes cwes j17_wes wez cwez j17_wez)) (w1 := (wz_46 h0 aw ac n8 h0_limit n9 h0_codeCount ob h0_openCount aw ab ac aw_typeCount wat wap wag aw_functionCount waf aw_hasMemory aw_pagesLeast aw_pagesMost aw_globalCount wgt wft wfv wgc x5 wek wei wes wez ab ax ab_length ax cax gax)) hP hD [4, 5, 6, 7] [0, 1, 2, 3] rfl rfl (by decide) (by decide) hk1 hFc hP1 hD1
      clear hPc hDc hKc hFc hz1 hk1 hP1 hK1 hD1
      rename Heap => H
      have hP : va_P (dC, dI) cls (wz_60 wek cwek j17_wek wei cwei j17_wei wes cwes j17_wes wez cwez j17_wez h0 aw ac n8 h0_limit n9 h0_codeCount ob h0_openCount aw ab ac aw_typeCount wat wap wag aw_functionCount waf aw_hasMemory aw_pagesLeast aw_pagesMost aw_globalCount wgt wft wfv wgc x5 wek wei wes wez ab ax ab_length ax cax gax) H := hP
      have hD : va_D A (wz_60 wek cwek j17_wek wei cwei j17_wei wes cwes j17_wes wez cwez j17_wez h0 aw ac n8 h0_limit n9 h0_codeCount ob h0_openCount aw ab ac aw_typeCount wat wap wag aw_functionCount waf aw_hasMemory aw_pagesLeast aw_pagesMost aw_globalCount wgt wft wfv wgc x5 wek wei wes wez ab ax ab_length ax cax gax) := hD
      refine lv_l2i hx hb d_RE_readExports_42 rfl ?_
      refine lv_topi (fun x10 ex10 => ?_)
      have tx10 := l2i_t ex10 (by (first | (apply Int.le_antisymm <;> omega) | omega)) (by (first | (apply Int.le_antisymm <;> omega) | omega))
      refine lv_istore_n (lv' := [(2, .int x10), (0, .ref h0), (1, .int j17_l1)]) hx hb d_RE_readExports_43 rfl hl (by decide) rfl (fun ls hl => ?_)
      refine lv_aload_n hx hb d_RE_readExports_44 rfl (lv_at hl 1 rfl) ?_
      refine va_get (D := (dC, dI)) (ci := 7) (v := .ref aw) (C := R_RE) (T := F_RE) (N := 8) hx hb hts i_RE hown hK hP 4 rfl rfl 0 (by decide) (hts _ kF_RE_15) (fun _ h9 => h9) rfl d_RE_readExports_45 ?_
      refine va_get (D := (dC, dI)) (ci := 10) (v := .ref wes) (C := R_WA) (T := F_WA) (N := 21) hx hb hts i_WA hown hK hP 5 rfl rfl 19 (by decide) (hts _ kF_RE_158) (fun _ h9 => h9) rfl d_RE_readExports_48 ?_
      refine lv_iload_n hx hb d_RE_readExports_51 rfl (lv_at hl 2 rfl) ?_
      refine lv_aload_n hx hb d_RE_readExports_52 rfl (lv_at hl 1 rfl) ?_
      refine va_get (D := (dC, dI)) (ci := 7) (v := .int n8) (C := R_RE) (T := F_RE) (N := 8) hx hb hts i_RE hown hK hP 4 rfl rfl 2 (by decide) (hts _ kF_RE_29) (fun _ h9 => h9) rfl d_RE_readExports_53 ?_
      have g56 : vp_in j17_l1 40 := vp_in_iff.mpr ⟨by (first | (apply Int.le_antisymm <;> omega) | omega), by (first | (apply Int.le_antisymm <;> omega) | omega)⟩
      refine va_iast hx hb hK hP hD hS 2 3 rfl rfl g56 d_RE_readExports_56 (fun H locs hP hD hS => ?_)
      generalize ef11 : upd j17_wes j17_l1.toNatClampNeg n8 = f11 at hP hD
      refine lv_aload_n hx hb d_RE_readExports_57 rfl (lv_at hl 1 rfl) ?_
      refine va_get (D := (dC, dI)) (ci := 7) (v := .ref aw) (C := R_RE) (T := F_RE) (N := 8) hx hb hts i_RE hown hK hP 4 rfl rfl 0 (by decide) (hts _ kF_RE_15) (fun _ h9 => h9) rfl d_RE_readExports_58 ?_
      refine va_get (D := (dC, dI)) (ci := 10) (v := .ref wez) (C := R_WA) (T := F_WA) (N := 21) hx hb hts i_WA hown hK hP 5 rfl rfl 20 (by decide) (hts _ kF_RE_161) (fun _ h9 => h9) rfl d_RE_readExports_61 ?_
      refine lv_iload_n hx hb d_RE_readExports_64 rfl (lv_at hl 2 rfl) ?_
      refine lv_iload_n hx hb d_RE_readExports_65 rfl (lv_at hl 0 rfl) ?_
      have g66 : vp_in j17_l1 40 := vp_in_iff.mpr ⟨by (first | (apply Int.le_antisymm <;> omega) | omega), by (first | (apply Int.le_antisymm <;> omega) | omega)⟩
      refine va_iast hx hb hK hP hD hS 3 4 rfl rfl g66 d_RE_readExports_66 (fun H locs hP hD hS => ?_)
      generalize ef12 : upd j17_wez j17_l1.toNatClampNeg x10 = f12 at hP hD
      refine lv_iconst (v := 0) hx hb d_RE_readExports_67 (by decide) ?_
      refine lv_istore_n (lv' := [(3, .int 0), (2, .int x10), (0, .ref h0), (1, .int j17_l1)]) hx hb d_RE_readExports_68 rfl hl (by decide) rfl (fun ls hl => ?_)
      refine w_loop (σ := Int32 × Int32 × Int32) (fun u H locs ls => match u with | (j69_l3, j69_h0_at, j69_h0_sound) => (0 ≤ j69_l3.toInt ∧ j69_l3.toInt ≤ 30) ∧ (j69_h0_sound = 0 ∨ j69_h0_sound = 1) ∧ (nmI n9 n8 h0_limit j69_h0_sound j69_h0_at j69_l3.toInt) ∧ ((h0_at.toInt ≤ j69_h0_at.toInt ∧ j69_h0_at.toInt ≤ h0_limit.toInt)) ∧ (j69_l3.toInt ≤ x10.toInt) ∧ va_P (dC, dI) cls (wz_60 wek cwek j17_wek wei cwei j17_wei wes cwes f11 wez cwez f12 h0 aw ac j69_h0_at h0_limit j69_h0_sound h0_codeCount ob h0_openCount aw ab ac aw_typeCount wat wap wag aw_functionCount waf aw_hasMemory aw_pagesLeast aw_pagesMost aw_globalCount wgt wft wfv wgc x5 wek wei wes wez ab ax ab_length ax cax gax) H ∧ va_D A (wz_60 wek cwek j17_wek wei cwei j17_wei wes cwes f11 wez cwez f12 h0 aw ac j69_h0_at h0_limit j69_h0_sound h0_codeCount ob h0_openCount aw ab ac aw_typeCount wat wap wag aw_functionCount waf aw_hasMemory aw_pagesLeast aw_pagesMost aw_globalCount wgt wft wfv wgc x5 wek wei wes wez ab ax ab_length ax cax gax) ∧ va_S A s.heap H locs ∧ lv_has ls 4 [(0, .ref h0), (1, .int j17_l1), (2, .int x10), (3, .int j69_l3)]) (fun u => match u with | (j69_l3, j69_h0_at, j69_h0_sound) => (x10.toInt - j69_l3.toInt).toNat) ?_ (0, n8, n9) ⟨by (try dsimp only) <;> (first | (apply Int.le_antisymm <;> omega) | omega), bn9, (nm_0 (by (first | (apply Int.le_antisymm <;> omega) | omega)) (by decide)), by (try dsimp only) <;> (first | (apply Int.le_antisymm <;> omega) | omega), by (try dsimp only) <;> (first | (apply Int.le_antisymm <;> omega) | omega), hP, hD, hS, lv_sub hl [2, 3, 1, 0] rfl⟩
      intro N69 ih69 u H locs ls hN69 hI
      obtain ⟨j69_l3, j69_h0_at, j69_h0_sound⟩ := u
      obtain ⟨b_j69_l3, b_j69_h0_sound, w1, w2, w3, hP, hD, hS, hl⟩ := hI
      have tj69_h0_sound := b01 b_j69_h0_sound
      have hN69 : (x10.toInt - j69_l3.toInt).toNat < N69 + 1 := hN69
      refine lv_iload_n hx hb d_RE_readExports_69 rfl (lv_at hl 3 rfl) ?_
      refine lv_iload_n hx hb d_RE_readExports_70 rfl (lv_at hl 2 rfl) ?_
      refine lv_icmp_ge (tgt := 85) hx hb d_RE_readExports_71 (by decide) (fun c71 => ?_) (fun c71 => ?_)
      · have q71 := leI c71
        refine lv_aload_n hx hb d_RE_readExports_85 rfl (lv_at hl 0 rfl) ?_
        have hPc := hP.sb (wq := (wz_46 h0 aw ac j69_h0_at h0_limit j69_h0_sound h0_codeCount ob h0_openCount aw ab ac aw_typeCount wat wap wag aw_functionCount waf aw_hasMemory aw_pagesLeast aw_pagesMost aw_globalCount wgt wft wfv wgc x5 wek wei wes wez ab ax ab_length ax cax gax)) [4, 5, 6, 7] rfl
        have hDc := hD.sb (wq := (wz_46 h0 aw ac j69_h0_at h0_limit j69_h0_sound h0_codeCount ob h0_openCount aw ab ac aw_typeCount wat wap wag aw_functionCount waf aw_hasMemory aw_pagesLeast aw_pagesMost aw_globalCount wgt wft wfv wgc x5 wek wei wes wez ab ax ab_length ax cax gax)) [4, 5, 6, 7] (by decide) rfl
        have hKc := hK.sb (tyq := [(cax, .byte)]) [0] rfl
        have hFc := va_free (wc := (wz_46 h0 aw ac j69_h0_at h0_limit j69_h0_sound h0_codeCount ob h0_openCount aw ab ac aw_typeCount wat wap wag aw_functionCount waf aw_hasMemory aw_pagesLeast aw_pagesMost aw_globalCount wgt wft wfv wgc x5 wek wei wes wez ab ax ab_length ax cax gax)) hD hS hA [4, 5, 6, 7] rfl
        refine va_calli (va_runV (As := []) (rest := []) ⟨hx, hb, hml, hown, hts⟩ (c_RE_nexty l dC dI H.size h0 aw ac ob ab wat wap wag waf wgt wft wfv wgc wek wei wes wez ax cax j69_h0_at h0_limit j69_h0_sound h0_codeCount h0_openCount aw_typeCount aw_functionCount aw_hasMemory aw_pagesLeast aw_pagesMost aw_globalCount x5 ab_length gax (b_j69_h0_sound) (by (try dsimp only) <;> (first | (apply Int.le_antisymm <;> omega) | omega))) (cwV 0 hts (gV kM_RE_60 kV_RE_next kS_RE_next kI_RE kC_RE_next) rfl rfl rfl (by decide +kernel) ⟨Nat.le_of_ble_eq_true rfl, Nat.le_of_ble_eq_true rfl⟩) ⟨fun a U g mk z => by obtain ⟨z0, z1, zP, zK, zD⟩ := z; exact ⟨z0, z1, zP, va_K.moved (u := U) (U := U.calling g mk a) (Vm.Alike.refl U.vm) zK, zD⟩, va_recv hKc hPc (ci := 7) (q0 := 0) rfl rfl, fun U hU hW => ⟨rfl, by rw [hU], va_P.he hU.symm hPc, va_K.moved hW.alike hKc, hDc.weaken (fun _ _ _ _ => trivial)⟩⟩ rfl rfl hl.1 rfl (lv_room (Nat.le_of_ble_eq_true rfl)) d_RE_readExports_86 ⟨(Nat.zero_le _), (Nat.zero_le _)⟩) hS (fun q _ h => hFc q h) hFc (fun r13 u t H1 locs ht hvm hw hB hz1 hk1 hS => ?_)
        obtain ⟨n14, n15⟩ := u
        try dsimp only at hw
        obtain ⟨br13, bn15, xr13⟩ := hw
        try clear hw
        have tn15 := b01 bn15
        obtain ⟨hP1, hK1, hD1⟩ := hB
        replace hP1 := va_P.he ht hP1
        obtain ⟨hP, hD⟩ := va_join (wr := (wz_59 wek cwek j17_wek wei cwei j17_wei wes cwes f11 wez cwez f12)) (w1 := (wz_46 h0 aw ac n14 h0_limit n15 h0_codeCount ob h0_openCount aw ab ac aw_typeCount wat wap wag aw_functionCount waf aw_hasMemory aw_pagesLeast aw_pagesMost aw_globalCount wgt wft wfv wgc x5 wek wei wes wez ab ax ab_length ax cax gax)) hP hD [4, 5, 6, 7] [0, 1, 2, 3] rfl rfl (by decide) (by decide) hk1 hFc hP1 hD1
        clear hPc hDc hKc hFc hz1 hk1 hP1 hK1 hD1
        rename Heap => H
        have hP : va_P (dC, dI) cls (wz_60 wek cwek j17_wek wei cwei j17_wei wes cwes f11 wez cwez f12 h0 aw ac n14 h0_limit n15 h0_codeCount ob h0_openCount aw ab ac aw_typeCount wat wap wag aw_functionCount waf aw_hasMemory aw_pagesLeast aw_pagesMost aw_globalCount wgt wft wfv wgc x5 wek wei wes wez ab ax ab_length ax cax gax) H := hP
        have hD : va_D A (wz_60 wek cwek j17_wek wei cwei j17_wei wes cwes f11 wez cwez f12 h0 aw ac n14 h0_limit n15 h0_codeCount ob h0_openCount aw ab ac aw_typeCount wat wap wag aw_functionCount waf aw_hasMemory aw_pagesLeast aw_pagesMost aw_globalCount wgt wft wfv wgc x5 wek wei wes wez ab ax ab_length ax cax gax) := hD
        refine lv_istore_n (lv' := [(3, .int r13), (0, .ref h0), (1, .int j17_l1), (2, .int x10)]) hx hb d_RE_readExports_89 rfl hl (by decide) rfl (fun ls hl => ?_)
        refine lv_aload_n hx hb d_RE_readExports_90 rfl (lv_at hl 1 rfl) ?_
        refine lv_aload_n hx hb d_RE_readExports_91 rfl (lv_at hl 1 rfl) ?_
        refine va_get (D := (dC, dI)) (ci := 7) (v := .int n15) (C := R_RE) (T := F_RE) (N := 8) hx hb hts i_RE hown hK hP 4 rfl rfl 4 (by decide) (hts _ kF_RE_45) (fun _ h9 => h9) rfl d_RE_readExports_92 ?_
        refine w_cut (pc2 := 117) (σ := Int32) (fun u H locs ls => match u with | j117_s0 => (j117_s0 = 0 ∨ j117_s0 = 1) ∧ ((j117_s0.toInt = 1 ∧ n15.toInt = 1 ∧ (r13.toInt = 0 ∨ r13.toInt = 2 ∨ r13.toInt = 3)) ∨ (j117_s0.toInt = 0 ∧ ¬ (n15.toInt = 1 ∧ (r13.toInt = 0 ∨ r13.toInt = 2 ∨ r13.toInt = 3)))) ∧ va_P (dC, dI) cls (wz_60 wek cwek j17_wek wei cwei j17_wei wes cwes f11 wez cwez f12 h0 aw ac n14 h0_limit n15 h0_codeCount ob h0_openCount aw ab ac aw_typeCount wat wap wag aw_functionCount waf aw_hasMemory aw_pagesLeast aw_pagesMost aw_globalCount wgt wft wfv wgc x5 wek wei wes wez ab ax ab_length ax cax gax) H ∧ va_D A (wz_60 wek cwek j17_wek wei cwei j17_wei wes cwes f11 wez cwez f12 h0 aw ac n14 h0_limit n15 h0_codeCount ob h0_openCount aw ab ac aw_typeCount wat wap wag aw_functionCount waf aw_hasMemory aw_pagesLeast aw_pagesMost aw_globalCount wgt wft wfv wgc x5 wek wei wes wez ab ax ab_length ax cax gax) ∧ va_S A s.heap H locs ∧ lv_has ls 4 [(0, .ref h0), (1, .int j17_l1), (3, .int r13)]) (fun u => match u with | j117_s0 => [.int j117_s0, .ref h0]) ?_ (fun jn117 => ?_)
        · intro u H locs ls hI
          obtain ⟨j117_s0, rfl⟩ : ∃ z, z = u := ⟨_, rfl⟩
          obtain ⟨b_j117_s0, y117, hP, hD, hS, hl⟩ := hI
          have tj117_s0 := b01 b_j117_s0
          refine va_put (D := (dC, dI)) (ci := 7) (v := .int j117_s0) (ty := .boolean) (C := R_RE) (T := F_RE) (N := 8) hx hb hts i_RE t_RE t_RE_ok n_RE hown hK hP hD hS 4 rfl rfl 4 (by decide) (hts _ kF_RE_45) (fun _ h9 => h9) rfl (by decide +kernel) (zn01 (b_j117_s0)) (fz01 (b_j117_s0)) (Nat.le_of_ble_eq_true rfl) d_RE_readExports_117 (fun H locs hP hD hS => ?_)
          refine lv_aload_n hx hb d_RE_readExports_120 rfl (lv_at hl 0 rfl) ?_
          refine va_get (D := (dC, dI)) (ci := 7) (v := .ref aw) (C := R_RE) (T := F_RE) (N := 8) hx hb hts i_RE hown hK hP 4 rfl rfl 0 (by decide) (hts _ kF_RE_15) (fun _ h9 => h9) rfl d_RE_readExports_121 ?_
          refine va_get (D := (dC, dI)) (ci := 10) (v := .ref wek) (C := R_WA) (T := F_WA) (N := 21) hx hb hts i_WA hown hK hP 5 rfl rfl 17 (by decide) (hts _ kF_RE_164) (fun _ h9 => h9) rfl d_RE_readExports_124 ?_
          refine lv_iload_n hx hb d_RE_readExports_127 rfl (lv_at hl 1 rfl) ?_
          refine lv_iload_n hx hb d_RE_readExports_128 rfl (lv_at hl 2 rfl) ?_
          have g129 : vp_in j17_l1 40 := vp_in_iff.mpr ⟨by (first | (apply Int.le_antisymm <;> omega) | omega), by (first | (apply Int.le_antisymm <;> omega) | omega)⟩
          refine va_iast hx hb hK hP hD hS 0 1 rfl rfl g129 d_RE_readExports_129 (fun H locs hP hD hS => ?_)
          generalize ef16 : upd j17_wek j17_l1.toNatClampNeg r13 = f16 at hP hD
          refine lv_aload_n hx hb d_RE_readExports_130 rfl (lv_at hl 0 rfl) ?_
          refine va_get (D := (dC, dI)) (ci := 7) (v := .ref aw) (C := R_RE) (T := F_RE) (N := 8) hx hb hts i_RE hown hK hP 4 rfl rfl 0 (by decide) (hts _ kF_RE_15) (fun _ h9 => h9) rfl d_RE_readExports_131 ?_
          refine va_get (D := (dC, dI)) (ci := 10) (v := .ref wei) (C := R_WA) (T := F_WA) (N := 21) hx hb hts i_WA hown hK hP 5 rfl rfl 18 (by decide) (hts _ kF_RE_167) (fun _ h9 => h9) rfl d_RE_readExports_134 ?_
          refine lv_iload_n hx hb d_RE_readExports_137 rfl (lv_at hl 1 rfl) ?_
          refine lv_aload_n hx hb d_RE_readExports_138 rfl (lv_at hl 0 rfl) ?_
          refine lv_ldc2 hx hb hown (hts _ kL_RE_82) d_RE_readExports_139 ?_
          refine lv_topl (fun x17 ex17 => ?_)
          have tx17 : x17.toInt = 2147483647 := by rw [ex17]; decide
          have hPc := hP.sb (wq := (wz_46 h0 aw ac n14 h0_limit j117_s0 h0_codeCount ob h0_openCount aw ab ac aw_typeCount wat wap wag aw_functionCount waf aw_hasMemory aw_pagesLeast aw_pagesMost aw_globalCount wgt wft wfv wgc x5 wek wei wes wez ab ax ab_length ax cax gax)) [4, 5, 6, 7] rfl
          have hDc := hD.sb (wq := (wz_46 h0 aw ac n14 h0_limit j117_s0 h0_codeCount ob h0_openCount aw ab ac aw_typeCount wat wap wag aw_functionCount waf aw_hasMemory aw_pagesLeast aw_pagesMost aw_globalCount wgt wft wfv wgc x5 wek wei wes wez ab ax ab_length ax cax gax)) [4, 5, 6, 7] (by decide) rfl
          have hKc := hK.sb (tyq := [(cax, .byte)]) [0] rfl
          have hFc := va_free (wc := (wz_46 h0 aw ac n14 h0_limit j117_s0 h0_codeCount ob h0_openCount aw ab ac aw_typeCount wat wap wag aw_functionCount waf aw_hasMemory aw_pagesLeast aw_pagesMost aw_globalCount wgt wft wfv wgc x5 wek wei wes wez ab ax ab_length ax cax gax)) hD hS hA [4, 5, 6, 7] rfl
          refine va_calll (va_runV (As := [.long x17]) (rest := [.int j17_l1, .ref wei]) ⟨hx, hb, hml, hown, hts⟩ (c_RE_readUnsignedy l dC dI H.size h0 aw ac ob ab wat wap wag waf wgt wft wfv wgc wek wei wes wez ax cax n14 h0_limit j117_s0 h0_codeCount h0_openCount aw_typeCount aw_functionCount aw_hasMemory aw_pagesLeast aw_pagesMost aw_globalCount x5 ab_length gax (b_j117_s0) x17 (by (try dsimp only) <;> (first | (apply Int.le_antisymm <;> omega) | omega)) (by (first | (apply Int.le_antisymm <;> omega) | omega))) (cwV 1 hts (gV kM_RE_64 kV_RE_readUnsigned kS_RE_readUnsigned kI_RE kC_RE_readUnsigned) rfl rfl rfl (by decide +kernel) ⟨Nat.le_of_ble_eq_true rfl, Nat.le_of_ble_eq_true rfl⟩) ⟨fun a U g mk z => by obtain ⟨z0, z1, zP, zK, zD⟩ := z; exact ⟨z0, z1, zP, va_K.moved (u := U) (U := U.calling g mk a) (Vm.Alike.refl U.vm) zK, zD⟩, va_recv hKc hPc (ci := 7) (q0 := 0) rfl rfl, fun U hU hW => ⟨rfl, by rw [hU], va_P.he hU.symm hPc, va_K.moved hW.alike hKc, hDc.weaken (fun _ _ _ _ => trivial)⟩⟩ rfl rfl hl.1 rfl (lv_room (Nat.le_of_ble_eq_true rfl)) d_RE_readExports_142 ⟨(Nat.zero_le _), (Nat.zero_le _)⟩) hS (fun q _ h => hFc q h) hFc (fun r18 u t H1 locs ht hvm hw hB hz1 hk1 hS => ?_)
          obtain ⟨n19, n20⟩ := u
          try dsimp only at hw
          obtain ⟨bn20, xr18⟩ := hw
          try clear hw
          have tn20 := b01 bn20
          have u142 : rz (zM gax h0_limit.toNatClampNeg 2147483647 n14.toNatClampNeg) j117_s0 n20 n19 r18.toInt := by have z9 := xr18.2; rw [show x17.toInt.toNat = 2147483647 from by (first | (apply Int.le_antisymm <;> omega) | omega)] at z9; exact z9
          obtain ⟨hP1, hK1, hD1⟩ := hB
          replace hP1 := va_P.he ht hP1
          obtain ⟨hP, hD⟩ := va_join (wr := (wz_59 wek cwek f16 wei cwei j17_wei wes cwes f11 wez cwez f12)) (w1 := (wz_46 h0 aw ac n19 h0_limit n20 h0_codeCount ob h0_openCount aw ab ac aw_typeCount wat wap wag aw_functionCount waf aw_hasMemory aw_pagesLeast aw_pagesMost aw_globalCount wgt wft wfv wgc x5 wek wei wes wez ab ax ab_length ax cax gax)) hP hD [4, 5, 6, 7] [0, 1, 2, 3] rfl rfl (by decide) (by decide) hk1 hFc hP1 hD1
          clear hPc hDc hKc hFc hz1 hk1 hP1 hK1 hD1
          rename Heap => H
          have hP : va_P (dC, dI) cls (wz_60 wek cwek f16 wei cwei j17_wei wes cwes f11 wez cwez f12 h0 aw ac n19 h0_limit n20 h0_codeCount ob h0_openCount aw ab ac aw_typeCount wat wap wag aw_functionCount waf aw_hasMemory aw_pagesLeast aw_pagesMost aw_globalCount wgt wft wfv wgc x5 wek wei wes wez ab ax ab_length ax cax gax) H := hP
          have hD : va_D A (wz_60 wek cwek f16 wei cwei j17_wei wes cwes f11 wez cwez f12 h0 aw ac n19 h0_limit n20 h0_codeCount ob h0_openCount aw ab ac aw_typeCount wat wap wag aw_functionCount waf aw_hasMemory aw_pagesLeast aw_pagesMost aw_globalCount wgt wft wfv wgc x5 wek wei wes wez ab ax ab_length ax cax gax) := hD
          refine lv_l2i hx hb d_RE_readExports_145 rfl ?_
          refine lv_topi (fun x21 ex21 => ?_)
          have tx21 := l2i_t ex21 (by (first | (apply Int.le_antisymm <;> omega) | omega)) (by (first | (apply Int.le_antisymm <;> omega) | omega))
          have g146 : vp_in j17_l1 40 := vp_in_iff.mpr ⟨by (first | (apply Int.le_antisymm <;> omega) | omega), by (first | (apply Int.le_antisymm <;> omega) | omega)⟩
          refine va_iast hx hb hK hP hD hS 1 2 rfl rfl g146 d_RE_readExports_146 (fun H locs hP hD hS => ?_)
          generalize ef22 : upd j17_wei j17_l1.toNatClampNeg x21 = f22 at hP hD
          obtain ⟨x23, ex23⟩ : ∃ z : Int32, z = j17_l1 + 1 := ⟨_, rfl⟩
          have tx23 : x23.toInt = j17_l1.toInt + 1 := by have z := i32_add ex23 (by (first | (apply Int.le_antisymm <;> omega) | omega)) (by (first | (apply Int.le_antisymm <;> omega) | omega)); first | exact z | (first | (apply Int.le_antisymm <;> omega) | omega)
          refine lv_iinc (v := x23) (lv' := [(1, .int x23), (0, .ref h0), (3, .int r13)]) hx hb d_RE_readExports_147 hl (k := 1) rfl (by rw [ex23]; rfl) (by decide) rfl (fun ls hl => ?_)
          refine lv_goto (tgt := 17) hx hb d_RE_readExports_150 (by decide) ?_
          exact ih17 (x23, f22, f16, f11, f12, n19, n20) _ _ _ (by show (x5.toInt - x23.toInt).toNat < N17; (first | (apply Int.le_antisymm <;> omega) | omega)) ⟨by (try dsimp only) <;> (first | (apply Int.le_antisymm <;> omega) | omega), bn20, (by rw [← ef11, ← ef12, ← ef16, ← ef22, show x23.toInt = j17_l1.toInt + 1 from by (first | (apply Int.le_antisymm <;> omega) | omega), show j17_l1.toNatClampNeg = j17_l1.toInt.toNat from by have := i32_clamp (x := j17_l1) (by (first | (apply Int.le_antisymm <;> omega) | omega)); (first | (apply Int.le_antisymm <;> omega) | omega)]; exact exO_s v1 (by (first | (apply Int.le_antisymm <;> omega) | omega)) (ex_zz u39 (by have z9 := w1; rw [show j69_l3.toInt = r7.toInt from by (first | (apply Int.le_antisymm <;> omega) | omega)] at z9; exact z9) xr13.2 y117 u142 (by (first | (apply Int.le_antisymm <;> omega) | omega)) (by (first | (apply Int.le_antisymm <;> omega) | omega)) (by (first | (apply Int.le_antisymm <;> omega) | omega))) (by (first | (apply Int.le_antisymm <;> omega) | omega)) (by (first | (apply Int.le_antisymm <;> omega) | omega)) rfl (by (first | (apply Int.le_antisymm <;> omega) | omega)) rfl (by (first | (apply Int.le_antisymm <;> omega) | omega))), by (try dsimp only) <;> (first | (apply Int.le_antisymm <;> omega) | omega), by (try dsimp only) <;> (first | (apply Int.le_antisymm <;> omega) | omega), hP, hD, hS, lv_sub hl [1, 0] rfl⟩
        · skip
          refine w_cut (pc2 := 116) (σ := Unit) (fun u H locs ls => match u with | _ => (¬ (n15.toInt = 1 ∧ (r13.toInt = 0 ∨ r13.toInt = 2 ∨ r13.toInt = 3))) ∧ va_P (dC, dI) cls (wz_60 wek cwek j17_wek wei cwei j17_wei wes cwes f11 wez cwez f12 h0 aw ac n14 h0_limit n15 h0_codeCount ob h0_openCount aw ab ac aw_typeCount wat wap wag aw_functionCount waf aw_hasMemory aw_pagesLeast aw_pagesMost aw_globalCount wgt wft wfv wgc x5 wek wei wes wez ab ax ab_length ax cax gax) H ∧ va_D A (wz_60 wek cwek j17_wek wei cwei j17_wei wes cwes f11 wez cwez f12 h0 aw ac n14 h0_limit n15 h0_codeCount ob h0_openCount aw ab ac aw_typeCount wat wap wag aw_functionCount waf aw_hasMemory aw_pagesLeast aw_pagesMost aw_globalCount wgt wft wfv wgc x5 wek wei wes wez ab ax ab_length ax cax gax) ∧ va_S A s.heap H locs ∧ lv_has ls 4 [(0, .ref h0), (1, .int j17_l1), (3, .int r13)]) (fun u => match u with | _ => [.ref h0]) ?_ (fun jn116 => ?_)
          · intro u H locs ls hI
            obtain ⟨y116, hP, hD, hS, hl⟩ := hI
            refine lv_iconst (v := 0) hx hb d_RE_readExports_116 (by decide) ?_
            exact jn117 0 _ _ _ ⟨Or.inl rfl, by (try dsimp only) <;> (first | (apply Int.le_antisymm <;> omega) | omega), hP, hD, hS, lv_sub hl [0, 1, 2] rfl⟩
          · skip
            refine lv_if_eq (tgt := 116) hx hb d_RE_readExports_95 (by decide) (fun c95 => ?_) (fun c95 => ?_)
            · have q95 := eqI c95
              exact jn116 () _ _ _ ⟨by (try dsimp only) <;> (first | (apply Int.le_antisymm <;> omega) | omega), hP, hD, hS, lv_sub hl [1, 2, 0] rfl⟩
            · have q95 := neI c95
              refine lv_iload_n hx hb d_RE_readExports_98 rfl (lv_at hl 0 rfl) ?_
              refine w_cut (pc2 := 112) (σ := Unit) (fun u H locs ls => match u with | _ => (n15.toInt = 1 ∧ (r13.toInt = 0 ∨ r13.toInt = 2 ∨ r13.toInt = 3)) ∧ va_P (dC, dI) cls (wz_60 wek cwek j17_wek wei cwei j17_wei wes cwes f11 wez cwez f12 h0 aw ac n14 h0_limit n15 h0_codeCount ob h0_openCount aw ab ac aw_typeCount wat wap wag aw_functionCount waf aw_hasMemory aw_pagesLeast aw_pagesMost aw_globalCount wgt wft wfv wgc x5 wek wei wes wez ab ax ab_length ax cax gax) H ∧ va_D A (wz_60 wek cwek j17_wek wei cwei j17_wei wes cwes f11 wez cwez f12 h0 aw ac n14 h0_limit n15 h0_codeCount ob h0_openCount aw ab ac aw_typeCount wat wap wag aw_functionCount waf aw_hasMemory aw_pagesLeast aw_pagesMost aw_globalCount wgt wft wfv wgc x5 wek wei wes wez ab ax ab_length ax cax gax) ∧ va_S A s.heap H locs ∧ lv_has ls 4 [(0, .ref h0), (1, .int j17_l1), (3, .int r13)]) (fun u => match u with | _ => [.ref h0]) ?_ (fun jn112 => ?_)
              · intro u H locs ls hI
                obtain ⟨y112, hP, hD, hS, hl⟩ := hI
                refine lv_iconst (v := 1) hx hb d_RE_readExports_112 (by decide) ?_
                refine lv_goto (tgt := 117) hx hb d_RE_readExports_113 (by decide) ?_
                exact jn117 1 _ _ _ ⟨Or.inr rfl, by (try dsimp only) <;> (first | (apply Int.le_antisymm <;> omega) | omega), hP, hD, hS, lv_sub hl [0, 1, 2] rfl⟩
              · skip
                refine lv_if_eq (tgt := 112) hx hb d_RE_readExports_99 (by decide) (fun c99 => ?_) (fun c99 => ?_)
                · have q99 := eqI c99
                  exact jn112 () _ _ _ ⟨by (try dsimp only) <;> (first | (apply Int.le_antisymm <;> omega) | omega), hP, hD, hS, lv_sub hl [1, 2, 0] rfl⟩
                · have q99 := neI c99
                  refine lv_iload_n hx hb d_RE_readExports_102 rfl (lv_at hl 0 rfl) ?_
                  refine lv_iconst (v := 2) hx hb d_RE_readExports_103 (by decide) ?_
                  refine lv_icmp_eq (tgt := 112) hx hb d_RE_readExports_104 (by decide) (fun c104 => ?_) (fun c104 => ?_)
                  · have q104 := eqI c104
                    exact jn112 () _ _ _ ⟨by (try dsimp only) <;> (first | (apply Int.le_antisymm <;> omega) | omega), hP, hD, hS, lv_sub hl [1, 2, 0] rfl⟩
                  · have q104 := neI c104
                    refine lv_iload_n hx hb d_RE_readExports_107 rfl (lv_at hl 0 rfl) ?_
                    refine lv_iconst (v := 3) hx hb d_RE_readExports_108 (by decide) ?_
                    refine lv_icmp_ne (tgt := 116) hx hb d_RE_readExports_109 (by decide) (fun c109 => ?_) (fun c109 => ?_)
                    · have q109 := neI c109
                      exact jn116 () _ _ _ ⟨by (try dsimp only) <;> (first | (apply Int.le_antisymm <;> omega) | omega), hP, hD, hS, lv_sub hl [1, 2, 0] rfl⟩
                    · have q109 := eqI c109
                      exact jn112 () _ _ _ ⟨by (try dsimp only) <;> (first | (apply Int.le_antisymm <;> omega) | omega), hP, hD, hS, lv_sub hl [1, 2, 0] rfl⟩
      · have q71 := nleI c71
        refine lv_aload_n hx hb d_RE_readExports_74 rfl (lv_at hl 0 rfl) ?_
        have hPc := hP.sb (wq := (wz_46 h0 aw ac j69_h0_at h0_limit j69_h0_sound h0_codeCount ob h0_openCount aw ab ac aw_typeCount wat wap wag aw_functionCount waf aw_hasMemory aw_pagesLeast aw_pagesMost aw_globalCount wgt wft wfv wgc x5 wek wei wes wez ab ax ab_length ax cax gax)) [4, 5, 6, 7] rfl
        have hDc := hD.sb (wq := (wz_46 h0 aw ac j69_h0_at h0_limit j69_h0_sound h0_codeCount ob h0_openCount aw ab ac aw_typeCount wat wap wag aw_functionCount waf aw_hasMemory aw_pagesLeast aw_pagesMost aw_globalCount wgt wft wfv wgc x5 wek wei wes wez ab ax ab_length ax cax gax)) [4, 5, 6, 7] (by decide) rfl
        have hKc := hK.sb (tyq := [(cax, .byte)]) [0] rfl
        have hFc := va_free (wc := (wz_46 h0 aw ac j69_h0_at h0_limit j69_h0_sound h0_codeCount ob h0_openCount aw ab ac aw_typeCount wat wap wag aw_functionCount waf aw_hasMemory aw_pagesLeast aw_pagesMost aw_globalCount wgt wft wfv wgc x5 wek wei wes wez ab ax ab_length ax cax gax)) hD hS hA [4, 5, 6, 7] rfl
        refine va_calli (va_runV (As := []) (rest := []) ⟨hx, hb, hml, hown, hts⟩ (c_RE_nexty l dC dI H.size h0 aw ac ob ab wat wap wag waf wgt wft wfv wgc wek wei wes wez ax cax j69_h0_at h0_limit j69_h0_sound h0_codeCount h0_openCount aw_typeCount aw_functionCount aw_hasMemory aw_pagesLeast aw_pagesMost aw_globalCount x5 ab_length gax (b_j69_h0_sound) (by (try dsimp only) <;> (first | (apply Int.le_antisymm <;> omega) | omega))) (cwV 0 hts (gV kM_RE_60 kV_RE_next kS_RE_next kI_RE kC_RE_next) rfl rfl rfl (by decide +kernel) ⟨Nat.le_of_ble_eq_true rfl, Nat.le_of_ble_eq_true rfl⟩) ⟨fun a U g mk z => by obtain ⟨z0, z1, zP, zK, zD⟩ := z; exact ⟨z0, z1, zP, va_K.moved (u := U) (U := U.calling g mk a) (Vm.Alike.refl U.vm) zK, zD⟩, va_recv hKc hPc (ci := 7) (q0 := 0) rfl rfl, fun U hU hW => ⟨rfl, by rw [hU], va_P.he hU.symm hPc, va_K.moved hW.alike hKc, hDc.weaken (fun _ _ _ _ => trivial)⟩⟩ rfl rfl hl.1 rfl (lv_room (Nat.le_of_ble_eq_true rfl)) d_RE_readExports_75 ⟨(Nat.zero_le _), (Nat.zero_le _)⟩) hS (fun q _ h => hFc q h) hFc (fun r24 u t H1 locs ht hvm hw hB hz1 hk1 hS => ?_)
        obtain ⟨n25, n26⟩ := u
        try dsimp only at hw
        obtain ⟨br24, bn26, xr24⟩ := hw
        try clear hw
        have tn26 := b01 bn26
        obtain ⟨hP1, hK1, hD1⟩ := hB
        replace hP1 := va_P.he ht hP1
        obtain ⟨hP, hD⟩ := va_join (wr := (wz_59 wek cwek j17_wek wei cwei j17_wei wes cwes f11 wez cwez f12)) (w1 := (wz_46 h0 aw ac n25 h0_limit n26 h0_codeCount ob h0_openCount aw ab ac aw_typeCount wat wap wag aw_functionCount waf aw_hasMemory aw_pagesLeast aw_pagesMost aw_globalCount wgt wft wfv wgc x5 wek wei wes wez ab ax ab_length ax cax gax)) hP hD [4, 5, 6, 7] [0, 1, 2, 3] rfl rfl (by decide) (by decide) hk1 hFc hP1 hD1
        clear hPc hDc hKc hFc hz1 hk1 hP1 hK1 hD1
        rename Heap => H
        have hP : va_P (dC, dI) cls (wz_60 wek cwek j17_wek wei cwei j17_wei wes cwes f11 wez cwez f12 h0 aw ac n25 h0_limit n26 h0_codeCount ob h0_openCount aw ab ac aw_typeCount wat wap wag aw_functionCount waf aw_hasMemory aw_pagesLeast aw_pagesMost aw_globalCount wgt wft wfv wgc x5 wek wei wes wez ab ax ab_length ax cax gax) H := hP
        have hD : va_D A (wz_60 wek cwek j17_wek wei cwei j17_wei wes cwes f11 wez cwez f12 h0 aw ac n25 h0_limit n26 h0_codeCount ob h0_openCount aw ab ac aw_typeCount wat wap wag aw_functionCount waf aw_hasMemory aw_pagesLeast aw_pagesMost aw_globalCount wgt wft wfv wgc x5 wek wei wes wez ab ax ab_length ax cax gax) := hD
        refine lv_pop hx hb d_RE_readExports_78 rfl ?_
        obtain ⟨x27, ex27⟩ : ∃ z : Int32, z = j69_l3 + 1 := ⟨_, rfl⟩
        have tx27 : x27.toInt = j69_l3.toInt + 1 := by have z := i32_add ex27 (by (first | (apply Int.le_antisymm <;> omega) | omega)) (by (first | (apply Int.le_antisymm <;> omega) | omega)); first | exact z | (first | (apply Int.le_antisymm <;> omega) | omega)
        refine lv_iinc (v := x27) (lv' := [(3, .int x27), (0, .ref h0), (1, .int j17_l1), (2, .int x10)]) hx hb d_RE_readExports_79 hl (k := 3) rfl (by rw [ex27]; rfl) (by decide) rfl (fun ls hl => ?_)
        refine lv_goto (tgt := 69) hx hb d_RE_readExports_82 (by decide) ?_
        exact ih69 (x27, n25, n26) _ _ _ (by show (x10.toInt - x27.toInt).toNat < N69; (first | (apply Int.le_antisymm <;> omega) | omega)) ⟨by (try dsimp only) <;> (first | (apply Int.le_antisymm <;> omega) | omega), bn26, (by rw [show x27.toInt = j69_l3.toInt + 1 from by (first | (apply Int.le_antisymm <;> omega) | omega)]; exact nm_s w1 xr24.2), by (try dsimp only) <;> (first | (apply Int.le_antisymm <;> omega) | omega), by (try dsimp only) <;> (first | (apply Int.le_antisymm <;> omega) | omega), hP, hD, hS, lv_sub hl [1, 2, 3, 0] rfl⟩
end q_n44q15
section q_n44q16
/-! p5: the class: what the tables hold of a module (tA) -/
/-- all instructions of the codes -/
def flC : List (List Nat × List zIn) → List zIn
  | [] => []
  | c :: r => c.2 ++ flC r
theorem flC_app (A B : List (List Nat × List zIn)) : flC (A ++ B) = flC A ++ flC B := by
  induction A with
  | nil => rfl
  | cons c A ih =>
    show c.2 ++ flC (A ++ B) = c.2 ++ flC A ++ flC B
    rw [ih, List.append_assoc]
theorem flC_1 (A : List (List Nat × List zIn)) (c : List Nat × List zIn) : flC (A ++ [c]) = flC A ++ c.2 := by
  rw [flC_app]
  show flC A ++ (c.2 ++ []) = flC A ++ c.2
  rw [List.append_nil]
def cdA (fi lk lt op pt la : Nat → Int32) (va : Nat → Int64) (lc : Int) (C : List (List Nat × List zIn)) : Prop := RI op pt la va lc (flC C) ∧ ∀ (k : Nat) (x : List Nat × List zIn), C[k]? = some x → (lk k).toInt = (x.1.length : Int) ∧ x.1.length ≤ 60 ∧ (∀ (j z : Nat), x.1[j]? = some z → (lt (60 * k + j)).toInt = (z : Int)) ∧ (fi k).toInt = ((flC (C.take k)).length : Int) ∧ (fi (k + 1)).toInt = ((flC (C.take (k + 1))).length : Int)
def cdO (f : Nat → Int32) (L a0 : Nat) (s a : Int32) (n k : Int) (cl lc : Int32) (fi lk lt op pt el la : Nat → Int32) (va : Nat → Int64) : Prop := (s.toInt = 1 ∧ ∃ C : List (List Nat × List zIn), (C.length : Int) = k ∧ zV f L 30 (zCode f L) a0 = zA (zCode f L) (n - k).toNat C a.toNatClampNeg ∧ cdA fi lk lt op pt la va lc.toInt C ∧ (∀ j, (el j).toInt < 5000) ∧ (0 ≤ lc.toInt ∧ lc.toInt ≤ a.toInt) ∧ cl.toInt ≤ a.toInt ∧ cl.toInt = ((flC C).length : Int)) ∨ (s.toInt = 0 ∧ zV f L 30 (zCode f L) a0 = none)
theorem ri_nil {op pt la : Nat → Int32} {va : Nat → Int64} {lc : Int} : RI op pt la va lc [] := fun k x h => by cases h
theorem cdA_nil {fi lk lt op pt la : Nat → Int32} {va : Nat → Int64} {lc : Int} : cdA fi lk lt op pt la va lc [] := ⟨ri_nil, fun k x h => by cases h⟩
theorem cdO_0 {f fi lk lt op pt el la : Nat → Int32} {va : Nat → Int64} {L a0 : Nat} {s0 s a cl lc : Int32} {r k : Int} (h : rz (zM f L 30 a0) s0 s a r) (hs : s0.toInt = 1) (hk : k = 0) (hel : ∀ j, (el j).toInt < 5000) (hc : cl.toInt = 0) (hlc : lc.toInt = 0) (ha : 0 ≤ a.toInt) : cdO f L a0 s a r k cl lc fi lk lt op pt el la va := by
  rcases h with ⟨h1, h2, h3, h4⟩ | ⟨h1, h2⟩
  · refine Or.inl ⟨h1, [], by rw [hk]; rfl, ?_, cdA_nil, hel, by (first | (apply Int.le_antisymm <;> omega) | omega), by (first | (apply Int.le_antisymm <;> omega) | omega), by rw [hc]; rfl⟩
    unfold zV
    rw [h4, hk, Int.sub_zero]
  · refine Or.inr ⟨h1, ?_⟩
    unfold zV
    rw [h2 hs]
theorem cdO_in {f fi lk lt op pt el la : Nat → Int32} {va : Nat → Int64} {L a0 : Nat} {s a cl lc : Int32} {n k : Int} (h : cdO f L a0 s a n k cl lc fi lk lt op pt el la va) (hs : s.toInt = 1) : ∃ C : List (List Nat × List zIn), (C.length : Int) = k ∧ zV f L 30 (zCode f L) a0 = zA (zCode f L) (n - k).toNat C a.toNatClampNeg ∧ cdA fi lk lt op pt la va lc.toInt C ∧ (∀ j, (el j).toInt < 5000) ∧ (0 ≤ lc.toInt ∧ lc.toInt ≤ a.toInt) ∧ cl.toInt ≤ a.toInt ∧ cl.toInt = ((flC C).length : Int) := by
  rcases h with ⟨h1, h2⟩ | ⟨h1, h2⟩
  · exact h2
  · (first | (apply Int.le_antisymm <;> omega) | omega)
theorem cdO_s {f fi lk lt fi2 lk2 lt2 op pt la op2 pt2 el2 la2 : Nat → Int32} {va va2 : Nat → Int64} {L a0 : Nat} {a s2 a2 cl2 lc2 : Int32} {n k lc : Int} {C : List (List Nat × List zIn)} (hC : (C.length : Int) = k) (hz : zV f L 30 (zCode f L) a0 = zA (zCode f L) (n - k).toNat C a.toNatClampNeg) (hA : cdA fi lk lt op pt la va lc C) (hn : k < n) (hlt : ∀ j : Nat, ((j : Int) < 60 * k ∨ 60 * k + 60 ≤ (j : Int)) → lt2 j = lt j) (h1 : cdz f L a.toNatClampNeg (flC C) k s2 a2 cl2 lc2 fi fi2 lk lk2 lt2 op2 pt2 el2 la2 va2) : cdO f L a0 s2 a2 n (k + 1) cl2 lc2 fi2 lk2 lt2 op2 pt2 el2 la2 va2 := by
  rw [show (n - k).toNat = (n - (k + 1)).toNat + 1 by (first | (apply Int.le_antisymm <;> omega) | omega), zA] at hz
  rcases h1 with ⟨z1, ls, is, t, x, y, z2, z3, z4, z5, z6, z7, z8, z9, z10, z11, z12, z13, z14⟩ | ⟨z1, z2⟩
  · rw [z2] at hz
    have ek : k.toNat = C.length := by (first | (apply Int.le_antisymm <;> omega) | omega)
    rw [ek] at z6 z7
    have e1 : flC (C ++ [(ls, is)]) = flC C ++ is := flC_1 C (ls, is)
    refine Or.inl ⟨z1, C ++ [(ls, is)], by rw [List.length_append, List.length_singleton]; (first | (apply Int.le_antisymm <;> omega) | omega), hz, ⟨by rw [e1]; exact z10, fun j c hj => ?_⟩, z11, z12, z13, by rw [e1]; exact z14⟩
    by_cases e : j < C.length
    · rw [List.getElem?_append_left e] at hj
      obtain ⟨q1, q2, q3, q4, q5⟩ := hA.2 j c hj
      rw [z6, z7, List.take_append_of_le_length (show j ≤ C.length by (first | (apply Int.le_antisymm <;> omega) | omega)), List.take_append_of_le_length (show j + 1 ≤ C.length by (first | (apply Int.le_antisymm <;> omega) | omega))]
      refine ⟨by rw [pk_un (show j ≠ C.length by (first | (apply Int.le_antisymm <;> omega) | omega))]; exact q1, q2, fun i z hi => ?_, by rw [pk_un (show j ≠ C.length + 1 by (first | (apply Int.le_antisymm <;> omega) | omega)), pk_un (show j ≠ C.length by (first | (apply Int.le_antisymm <;> omega) | omega))]; exact q4, ?_⟩
      · have := (List.getElem?_eq_some_iff.mp hi).1
        rw [hlt _ (Or.inl (by (first | (apply Int.le_antisymm <;> omega) | omega)))]
        exact q3 i z hi
      · rw [pk_un (show j + 1 ≠ C.length + 1 by (first | (apply Int.le_antisymm <;> omega) | omega))]
        by_cases w : j + 1 = C.length
        · rw [w, pk_us, List.take_length]
          exact z8
        · rw [pk_un w]
          exact q5
    · have hj2 : j = C.length := by
        have := (List.getElem?_eq_some_iff.mp hj).1
        rw [List.length_append, List.length_singleton] at this
        (first | (apply Int.le_antisymm <;> omega) | omega)
      rw [hj2, List.getElem?_append_right (Nat.le_refl _), Nat.sub_self] at hj
      cases hj
      subst hj2
      rw [z6, z7, List.take_append_of_le_length (Nat.le_refl _), List.take_length, List.take_of_length_le (show (C ++ [(ls, is)]).length ≤ C.length + 1 by rw [List.length_append, List.length_singleton]; exact Nat.le_refl _), e1]
      refine ⟨by rw [pk_us]; exact z3, z4, fun i z hi => ?_, by rw [pk_un (show C.length ≠ C.length + 1 by (first | (apply Int.le_antisymm <;> omega) | omega)), pk_us]; exact z8, by rw [pk_us]; exact z9⟩
      have := z5 i z hi
      rw [show (60 * k).toNat + i = 60 * C.length + i by (first | (apply Int.le_antisymm <;> omega) | omega)] at this
      exact this
  · rw [z2] at hz
    exact Or.inr ⟨z1, hz⟩
/-- functions -/
def fnA (wf : Nat → Int32) (l : List Nat) : Prop := ∀ (j x : Nat), l[j]? = some x → (wf j).toInt = (x : Int)
def fnO (f : Nat → Int32) (L a0 : Nat) (s a : Int32) (n k : Int) (wf : Nat → Int32) : Prop := (s.toInt = 1 ∧ ∃ l : List Nat, (l.length : Int) = k ∧ zV f L 30 (zM f L 2147483647) a0 = zA (zM f L 2147483647) (n - k).toNat l a.toNatClampNeg ∧ fnA wf l) ∨ (s.toInt = 0 ∧ zV f L 30 (zM f L 2147483647) a0 = none)
theorem fnO_0 {f wf : Nat → Int32} {L a0 : Nat} {s0 s a : Int32} {r k : Int} (h : rz (zM f L 30 a0) s0 s a r) (hs : s0.toInt = 1) (hk : k = 0) : fnO f L a0 s a r k wf := by
  rcases h with ⟨h1, h2, h3, h4⟩ | ⟨h1, h2⟩
  · refine Or.inl ⟨h1, [], by rw [hk]; rfl, ?_, fun t x ht => by cases ht⟩
    unfold zV
    rw [h4, hk, Int.sub_zero]
  · refine Or.inr ⟨h1, ?_⟩
    unfold zV
    rw [h2 hs]
theorem fnO_s {f wf : Nat → Int32} {L a0 : Nat} {s a s2 a2 v : Int32} {n k r : Int} (h : fnO f L a0 s a n k wf) (h1 : rz (zM f L 2147483647 a.toNatClampNeg) s s2 a2 r) (hk : 0 ≤ k) (hn : k < n) (hv : v.toInt = r) : fnO f L a0 s2 a2 n (k + 1) (upd wf k.toNat v) := by
  rcases h with ⟨u1, l, u2, u3, u4⟩ | ⟨u1, u2⟩
  · rw [show (n - k).toNat = (n - (k + 1)).toNat + 1 by (first | (apply Int.le_antisymm <;> omega) | omega), zA] at u3
    rcases h1 with ⟨w1, w2, w3, w4⟩ | ⟨w1, w2⟩
    · rw [w4] at u3
      refine Or.inl ⟨w1, l ++ [r.toNat], by rw [List.length_append, List.length_singleton]; (first | (apply Int.le_antisymm <;> omega) | omega), u3, fun j x ht => ?_⟩
      by_cases e : j < l.length
      · rw [List.getElem?_append_left e] at ht
        rw [pk_un (show j ≠ k.toNat by (first | (apply Int.le_antisymm <;> omega) | omega))]
        exact u4 j x ht
      · have ht2 : j = l.length := by
          have := (List.getElem?_eq_some_iff.mp ht).1
          rw [List.length_append, List.length_singleton] at this
          (first | (apply Int.le_antisymm <;> omega) | omega)
        rw [ht2, List.getElem?_append_right (Nat.le_refl _), Nat.sub_self] at ht
        cases ht
        rw [ht2, show l.length = k.toNat by (first | (apply Int.le_antisymm <;> omega) | omega), pk_us, hv]
        (first | (apply Int.le_antisymm <;> omega) | omega)
    · rw [w2 u1] at u3
      exact Or.inr ⟨w1, u3⟩
  · refine Or.inr ⟨?_, u2⟩
    rcases h1 with ⟨w1, w2, w3, w4⟩ | ⟨w1, w2⟩
    · (first | (apply Int.le_antisymm <;> omega) | omega)
    · exact w1
/-- the memory -/
def meA (m : Nat × Nat × Nat) (hm : Int32) (pl pm : Int) : Prop := (hm.toInt = 1 ∧ m.1 = 1 ∧ pl = (m.2.1 : Int) ∧ (pm = (m.2.2 : Int) ∨ (pm = -1 ∧ m.2.2 = 65536))) ∨ (hm.toInt = 0 ∧ m = (0, 0, 65536) ∧ pl = 0 ∧ pm = -1)
/-- the tables hold the module T -/
def tA (T : zTab) (tc fc hm gc ec cc cl lc : Int32) (pl pm : Int) (wat wap wag waf wgt wft wgc wes wez wek wei cfi clk clt cop cpt cla : Nat → Int32) (cva : Nat → Int64) : Prop :=
  (tc.toInt = (T.1.length : Int) ∧ tyA wat wap wag T.1) ∧ (fc.toInt = (T.2.1.length : Int) ∧ fnA waf T.2.1) ∧ meA T.2.2.1 hm pl pm ∧ (gc.toInt = (T.2.2.2.1.length : Int) ∧ glA wgt wft wgc T.2.2.2.1) ∧ (ec.toInt = (T.2.2.2.2.1.length : Int) ∧ exA wes wez wek wei T.2.2.2.2.1) ∧ (cc.toInt = (T.2.2.2.2.2.length : Int) ∧ cl.toInt = ((flC T.2.2.2.2.2).length : Int) ∧ cdA cfi clk clt cop cpt cla cva lc.toInt T.2.2.2.2.2)
theorem ot_z {f : Nat → Int32} {L a : Nat} {s s2 a2 s3 : Int32} {r M : Int} (h : rz (zM f L M.toNat a) s s2 a2 r) (hs : s.toInt = 1) (hM : M = (L : Int)) (hM2 : M ≤ 4294967295) (c : (s3.toInt = 1 ∧ s2.toInt = 1 ∧ r ≤ (L : Int) - a2.toInt) ∨ (s3.toInt = 0 ∧ ¬ (s2.toInt = 1 ∧ r ≤ (L : Int) - a2.toInt))) (ha : 0 ≤ a2.toInt) : (s3.toInt = 1 ∧ ∃ j c : Nat, zM f L 4294967295 a = some (j, c) ∧ j ≤ L - c) ∨ (s3.toInt = 0 ∧ ∀ j c : Nat, zM f L 4294967295 a = some (j, c) → ¬ j ≤ L - c) := by
  have k2 := i32_clamp ha
  rcases h with ⟨u1, u2, u3, u4⟩ | ⟨u1, u2⟩
  · have e4 := zM_up u4 (show M.toNat ≤ 4294967295 by (first | (apply Int.le_antisymm <;> omega) | omega))
    have := (zM_le u4).2.2
    rcases c with ⟨c1, c2, c3⟩ | ⟨c1, c2⟩
    · exact Or.inl ⟨c1, r.toNat, a2.toNatClampNeg, e4, by (first | (apply Int.le_antisymm <;> omega) | omega)⟩
    · refine Or.inr ⟨c1, fun j c e => ?_⟩
      rw [e4] at e
      cases e
      (first | (apply Int.le_antisymm <;> omega) | omega)
  · refine Or.inr ⟨by (first | (apply Int.le_antisymm <;> omega) | omega), fun j c e => ?_⟩
    rcases zM_none (M2 := 4294967295) (u2 hs) with e2 | ⟨n, b, e2, hn⟩
    · rw [e2] at e
      cases e
    · rw [e2] at e
      cases e
      (first | (apply Int.le_antisymm <;> omega) | omega)
end q_n44q16
