section q_95
/-! Reader: sections as they were put -/
def cF (gv tk : Nat → Int) (fc gc : Int) (ft : Nat → Int32) : Nat → Nat → List Nat → Nat → Prop
  | _, 0, bs, I => bs = [] ∧ I = 0
  | f, m + 1, bs, I => ∃ (e b : List Nat) (k I1 : Nat), bs = e ++ b ∧ fK gv tk fc gc (ft f).toInt f k e ∧ I = k + 1 + I1 ∧ cF gv tk fc gc ft (f + 1) m b I1
theorem cF_of {gv tk : Nat → Int} {fc gc : Int} {ft : Nat → Int32} : ∀ (f m : Nat) {b bs : List Nat} {I0 I1 : Nat}, cC gv tk fc gc ft f b I0 → cF gv tk fc gc ft f m bs I1 → cF gv tk fc gc ft 0 (f + m) (b ++ bs) (I0 + I1) := by
  intro f
  induction f with
  | zero =>
    intro m b bs I0 I1 h h2
    obtain ⟨e1, e2⟩ := h
    rw [e1, e2, Nat.zero_add, Nat.zero_add]
    exact h2
  | succ f ih =>
    intro m b bs I0 I1 h h2
    obtain ⟨b1, e, I2, k, q1, q2, q3, q4⟩ := h
    rw [show f + 1 + m = f + (m + 1) by (first | (apply Int.le_antisymm <;> omega) | omega), q1, q4, List.append_assoc, show I2 + k + 1 + I1 = I2 + (k + 1 + I1) by (first | (apply Int.le_antisymm <;> omega) | omega)]
    exact ih (m + 1) q2 ⟨e, bs, k, I1, rfl, q3, rfl, h2⟩
/-- what the tables say of function f -/
def cx (gv tk : Nat → Int) (fc gc : Int) (ft cfi clk cop : Nat → Int32) (cva : Nat → Int64) (f : Nat) : Prop :=
  ∃ (R : List (Nat × Nat)) (l : List ci) (B : List vt) (h : Int), tk f + (rsum R : Int) ≤ 50 ∧ cr (tk f + (rsum R : Int)) gv tk fc gc l [(0, (ft f).toInt, 0, 0)] 0 B h ∧ (clk f).toInt = (rsum R : Int) ∧ 0 ≤ (cfi f).toInt ∧ (cfi (f + 1)).toInt = (cfi f).toInt + (l.length : Int) + 1 ∧ mtc cop cva (cfi f).toNatClampNeg (l ++ [(11, 0)])
theorem cx_ext {gv tk : Nat → Int} {fc gc : Int} {ft cfi clk cop cfi2 clk2 cop2 : Nat → Int32} {cva cva2 : Nat → Int64} {f : Nat} (h : cx gv tk fc gc ft cfi clk cop cva f) (e1 : cfi2 f = cfi f) (e2 : cfi2 (f + 1) = cfi (f + 1)) (e3 : clk2 f = clk f) (e4 : ∀ j : Nat, (j : Int) < (cfi (f + 1)).toInt → cop2 j = cop j ∧ cva2 j = cva j) : cx gv tk fc gc ft cfi2 clk2 cop2 cva2 f := by
  obtain ⟨R, l, B, h, q1, q2, q3, q4, q5, q6⟩ := h
  refine ⟨R, l, B, h, q1, q2, by rw [e3]; exact q3, by rw [e1]; exact q4, by rw [e1, e2]; exact q5, fun i x hx => ?_⟩
  have hi : i < (l ++ [((11 : Int), (0 : Int))]).length := (List.getElem?_eq_some_iff.mp hx).1
  rw [List.length_append, List.length_singleton] at hi
  have c := i32_clamp (x := cfi f) q4
  have w := e4 ((cfi f).toNatClampNeg + i) (by (first | (apply Int.le_antisymm <;> omega) | omega))
  rw [e1, w.1, w.2]
  exact q6 i x hx
theorem tol_hd {to : Nat → Int32} {n k : Nat} (hk : k < n) : (tol to n).drop k = (to k).toInt.toNat :: (tol to n).drop (k + 1) := by
  have h : k < (tol to n).length := by rw [tol_len]; exact hk
  rw [List.drop_eq_getElem_cons h]
  congr 1
  simp [tol]
abbrev at_RE_readSectionx (dC : Nat → ClassId) (dI : Nat → Nat → Nat) (h0 aw ac ob ab wat wap wag waf wgt wft wfv wgc wek wei wes wez ax cfi clk clt cop cva cpt cel cla : Nat) (cax cob cwaf cwat cwap cwag cwgt cwft cwfv cwgc cwek cwei cwes cwez ccfi cclk cclt ccop ccva ccpt ccel : ClassId) (ab_length : Int32) (ac_labelCount : Int32) (gax : Nat → Int32) (A : Nat → Prop) (u : (Nat → Int32) × (Nat → Int32) × (Nat → Int32) × (Nat → Int32) × (Nat → Int32) × (Nat → Int32) × (Nat → Int64) × (Nat → Int32) × (Nat → Int32) × (Nat → Int32) × (Nat → Int32) × (Nat → Int32) × (Nat → Int32) × (Nat → Int32) × (Nat → Int32) × (Nat → Int32) × (Nat → Int32) × (Nat → Int64) × (Nat → Int32) × (Nat → Int32) × Int32 × Int32 × Int32 × Int32 × Int32 × Int64 × Int64 × Int32 × Int32 × Int32 × Int32 × Int32 × Int32) (t : State) : Prop := match u with | (gcel, gcfi, gclk, gclt, gcop, gcpt, gcva, gob, gwaf, gwag, gwap, gwat, gwei, gwek, gwes, gwez, gwft, gwfv, gwgc, gwgt, ac_length, aw_exportCount, aw_functionCount, aw_globalCount, aw_hasMemory, aw_pagesLeast, aw_pagesMost, aw_typeCount, h0_at, h0_codeCount, h0_limit, h0_openCount, h0_sound) => va_P (dC, dI) cls (wz_246 h0 aw ac h0_at h0_limit h0_sound h0_codeCount ob h0_openCount aw ab ac aw_typeCount wat wap wag aw_functionCount waf aw_hasMemory aw_pagesLeast aw_pagesMost aw_globalCount wgt wft wfv wgc aw_exportCount wek wei wes wez ab ax ab_length ac cfi clk clt ac_length cop cva cpt cel ac_labelCount cla ax cax gax ob cob gob waf cwaf gwaf wat cwat gwat wap cwap gwap wag cwag gwag wgt cwgt gwgt wft cwft gwft wfv cwfv gwfv wgc cwgc gwgc wek cwek gwek wei cwei gwei wes cwes gwes wez cwez gwez cfi ccfi gcfi clk cclk gclk clt cclt gclt cop ccop gcop cva ccva gcva cpt ccpt gcpt cel ccel gcel) t.heap ∧ va_K (dC, dI) cls [(cax, .byte), (cob, .int), (cwaf, .int), (cwat, .int), (cwap, .int), (cwag, .int), (cwgt, .int), (cwft, .int), (cwfv, .long), (cwgc, .boolean), (cwek, .int), (cwei, .int), (cwes, .int), (cwez, .int), (ccfi, .int), (cclk, .int), (cclt, .int), (ccop, .int), (ccva, .long), (ccpt, .int), (ccel, .int)] t ∧ va_D A (wz_246 h0 aw ac h0_at h0_limit h0_sound h0_codeCount ob h0_openCount aw ab ac aw_typeCount wat wap wag aw_functionCount waf aw_hasMemory aw_pagesLeast aw_pagesMost aw_globalCount wgt wft wfv wgc aw_exportCount wek wei wes wez ab ax ab_length ac cfi clk clt ac_length cop cva cpt cel ac_labelCount cla ax cax gax ob cob gob waf cwaf gwaf wat cwat gwat wap cwap gwap wag cwag gwag wgt cwgt gwgt wft cwft gwft wfv cwfv gwfv wgc cwgc gwgc wek cwek gwek wei cwei gwei wes cwes gwes wez cwez gwez cfi ccfi gcfi clk cclk gclk clt cclt gclt cop ccop gcop cva ccva gcva cpt ccpt gcpt cel ccel gcel)
set_option maxHeartbeats 4000000 in
set_option maxRecDepth 100000 in
theorem c_RE_readSectionx (l : Launch) (dC : Nat → ClassId) (dI : Nat → Nat → Nat) (sz : Nat) (h0 aw ac ob ab wat wap wag waf wgt wft wfv wgc wek wei wes wez ax cfi clk clt cop cva cpt cel cla : Nat) (cax cob cwaf cwat cwap cwag cwgt cwft cwfv cwgc cwek cwei cwes cwez ccfi cclk cclt ccop ccva ccpt ccel : ClassId) (h0_at : Int32) (h0_limit : Int32) (h0_sound : Int32) (h0_codeCount : Int32) (h0_openCount : Int32) (aw_typeCount : Int32) (aw_functionCount : Int32) (aw_hasMemory : Int32) (aw_pagesLeast : Int64) (aw_pagesMost : Int64) (aw_globalCount : Int32) (aw_exportCount : Int32) (ab_length : Int32) (ac_length : Int32) (ac_labelCount : Int32) (gax : Nat → Int32) (gob : Nat → Int32) (gwaf : Nat → Int32) (gwat : Nat → Int32) (gwap : Nat → Int32) (gwag : Nat → Int32) (gwgt : Nat → Int32) (gwft : Nat → Int32) (gwfv : Nat → Int64) (gwgc : Nat → Int32) (gwek : Nat → Int32) (gwei : Nat → Int32) (gwes : Nat → Int32) (gwez : Nat → Int32) (gcfi : Nat → Int32) (gclk : Nat → Int32) (gclt : Nat → Int32) (gcop : Nat → Int32) (gcva : Nat → Int64) (gcpt : Nat → Int32) (gcel : Nat → Int32) (qb : List Nat) (qTs : List Nat) (qtb : List Nat) (qtk : Nat → Int) (qft : Nat → Int32) (qto : Nat → Int32) (qn : Nat) (qG : List (Nat × Int)) (qX : List (List Nat × Nat × Nat)) (qcb : List Nat) (qI : Nat) (qgv : Nat → Int) (qgc : Int)  (b_h0_sound : h0_sound = 0 ∨ h0_sound = 1) (b_h0_codeCount : 0 ≤ h0_codeCount.toInt ∧ h0_codeCount.toInt ≤ 30) (b_h0_openCount : 0 ≤ h0_openCount.toInt ∧ h0_openCount.toInt ≤ 100) (b_aw_typeCount : 0 ≤ aw_typeCount.toInt ∧ aw_typeCount.toInt ≤ 20) (b_aw_functionCount : 0 ≤ aw_functionCount.toInt ∧ aw_functionCount.toInt ≤ 30) (b_aw_hasMemory : aw_hasMemory = 0 ∨ aw_hasMemory = 1) (b_aw_globalCount : 0 ≤ aw_globalCount.toInt ∧ aw_globalCount.toInt ≤ 20) (b_aw_exportCount : 0 ≤ aw_exportCount.toInt ∧ aw_exportCount.toInt ≤ 40) (b_ac_length : 0 ≤ ac_length.toInt ∧ ac_length.toInt ≤ 5000) (b_ac_labelCount : 0 ≤ ac_labelCount.toInt ∧ ac_labelCount.toInt ≤ 2000) (p0 : Int32)  (hs : h0_sound.toInt = 1) (ha : 0 ≤ h0_at.toInt ∧ h0_limit.toInt ≤ ab_length.toInt ∧ ab_length.toInt ≤ 8192) (hid : p0.toInt = 1 ∨ p0.toInt = 3 ∨ p0.toInt = 5 ∨ p0.toInt = 6 ∨ p0.toInt = 7 ∨ p0.toInt = 10) (hbq : bx (bq gax h0_at.toNatClampNeg qb)) (hlm : h0_limit.toInt = h0_at.toInt + (qb.length : Int)) (h1 : bx (p0.toInt = 1 → qb = qTs.length :: qtb ∧ qTs.length ≤ 20 ∧ tB qtk qft qTs qtb ∧ (∀ r ∈ qTs, qtk r ≤ 8) ∧ (∀ r ∈ qTs, ty (qft r).toInt))) (h3 : bx (p0.toInt = 3 → qb = qn :: tol qto qn ∧ qn ≤ 20 ∧ ∀ f, f < qn → 0 ≤ (qto f).toInt ∧ (qto f).toInt < 128)) (h5 : bx (p0.toInt = 5 → qb = [1, 1, 1, 2])) (h6 : bx (p0.toInt = 6 → qb = qG.length :: gbl qG ∧ qG.length ≤ 20 ∧ ∀ x ∈ qG, gok x)) (h7 : bx (p0.toInt = 7 → qb = qX.length :: exb qX ∧ qX.length ≤ 40 ∧ ∀ x ∈ qX, eok x)) (h10 : bx (p0.toInt = 10 → qb = qn :: qcb ∧ qn ≤ 20 ∧ cF qgv qtk qn qgc qft 0 qn qcb qI ∧ ac_length.toInt = 0 ∧ qI ≤ 5000)) (hel : bx (∀ j : Nat, (gcel j).toInt < 5000)) (htk : bx (∀ f, f < qn → 0 ≤ qtk f)) : Met l y_RE_readSection w_RE_readSection ({ frames := 5, cells := 0, slots := 0, locals := 115 }) (va_Pc [.ref h0, .int p0] (fun U => U.heap.size = sz ∧ va_P (dC, dI) cls (wz_246 h0 aw ac h0_at h0_limit h0_sound h0_codeCount ob h0_openCount aw ab ac aw_typeCount wat wap wag aw_functionCount waf aw_hasMemory aw_pagesLeast aw_pagesMost aw_globalCount wgt wft wfv wgc aw_exportCount wek wei wes wez ab ax ab_length ac cfi clk clt ac_length cop cva cpt cel ac_labelCount cla ax cax gax ob cob gob waf cwaf gwaf wat cwat gwat wap cwap gwap wag cwag gwag wgt cwgt gwgt wft cwft gwft wfv cwfv gwfv wgc cwgc gwgc wek cwek gwek wei cwei gwei wes cwes gwes wez cwez gwez cfi ccfi gcfi clk cclk gclk clt cclt gclt cop ccop gcop cva ccva gcva cpt ccpt gcpt cel ccel gcel) U.heap ∧ va_K (dC, dI) cls [(cax, .byte), (cob, .int), (cwaf, .int), (cwat, .int), (cwap, .int), (cwag, .int), (cwgt, .int), (cwft, .int), (cwfv, .long), (cwgc, .boolean), (cwek, .int), (cwei, .int), (cwes, .int), (cwez, .int), (ccfi, .int), (cclk, .int), (cclt, .int), (ccop, .int), (ccva, .long), (ccpt, .int), (ccel, .int)] U ∧ va_D (fun _ => True) (wz_246 h0 aw ac h0_at h0_limit h0_sound h0_codeCount ob h0_openCount aw ab ac aw_typeCount wat wap wag aw_functionCount waf aw_hasMemory aw_pagesLeast aw_pagesMost aw_globalCount wgt wft wfv wgc aw_exportCount wek wei wes wez ab ax ab_length ac cfi clk clt ac_length cop cva cpt cel ac_labelCount cla ax cax gax ob cob gob waf cwaf gwaf wat cwat gwat wap cwap gwap wag cwag gwag wgt cwgt gwgt wft cwft gwft wfv cwfv gwfv wgc cwgc gwgc wek cwek gwek wei cwei gwei wes cwes gwes wez cwez gwez cfi ccfi gcfi clk cclk gclk clt cclt gclt cop ccop gcop cva ccva gcva cpt ccpt gcpt cel ccel gcel))) (va_Qv (fun (u : (Nat → Int32) × (Nat → Int32) × (Nat → Int32) × (Nat → Int32) × (Nat → Int32) × (Nat → Int32) × (Nat → Int64) × (Nat → Int32) × (Nat → Int32) × (Nat → Int32) × (Nat → Int32) × (Nat → Int32) × (Nat → Int32) × (Nat → Int32) × (Nat → Int32) × (Nat → Int32) × (Nat → Int32) × (Nat → Int64) × (Nat → Int32) × (Nat → Int32) × Int32 × Int32 × Int32 × Int32 × Int32 × Int64 × Int64 × Int32 × Int32 × Int32 × Int32 × Int32 × Int32) => match u with | (gcel2, gcfi2, gclk2, gclt2, gcop2, gcpt2, gcva2, gob2, gwaf2, gwag2, gwap2, gwat2, gwei2, gwek2, gwes2, gwez2, gwft2, gwfv2, gwgc2, gwgt2, ac_length2, aw_exportCount2, aw_functionCount2, aw_globalCount2, aw_hasMemory2, aw_pagesLeast2, aw_pagesMost2, aw_typeCount2, h0_at2, h0_codeCount2, h0_limit2, h0_openCount2, h0_sound2) => (0 ≤ ac_length2.toInt ∧ ac_length2.toInt ≤ 5000) ∧ (0 ≤ aw_exportCount2.toInt ∧ aw_exportCount2.toInt ≤ 40) ∧ (0 ≤ aw_functionCount2.toInt ∧ aw_functionCount2.toInt ≤ 30) ∧ (0 ≤ aw_globalCount2.toInt ∧ aw_globalCount2.toInt ≤ 20) ∧ (aw_hasMemory2 = 0 ∨ aw_hasMemory2 = 1) ∧ (0 ≤ aw_typeCount2.toInt ∧ aw_typeCount2.toInt ≤ 20) ∧ (0 ≤ h0_codeCount2.toInt ∧ h0_codeCount2.toInt ≤ 30) ∧ (0 ≤ h0_openCount2.toInt ∧ h0_openCount2.toInt ≤ 100) ∧ (h0_sound2 = 0 ∨ h0_sound2 = 1) ∧ (h0_at2.toInt = h0_limit.toInt ∧ h0_limit2.toInt = h0_limit.toInt ∧ h0_sound2.toInt = 1 ∧ (∀ j : Nat, (gcel2 j).toInt < 5000) ∧ ((p0.toInt = 1 → aw_typeCount2.toInt = (qTs.length : Int) ∧ (∀ t : Nat, (t : Int) < (qTs.length : Int) → ∃ r, qTs[t]? = some r ∧ (gwat2 t).toInt = qtk r ∧ (gwag2 t).toInt = (qft r).toInt) ∧ (∀ j : Nat, (j : Int) < 8 * (qTs.length : Int) → ((j % 8 : Nat) : Int) < (gwat2 (j / 8)).toInt → ((gwap2 j).toInt = 127 ∨ (gwap2 j).toInt = 126))) ∧ (p0.toInt ≠ 1 → gwat2 = gwat ∧ gwap2 = gwap ∧ gwag2 = gwag ∧ aw_typeCount2 = aw_typeCount)) ∧ ((p0.toInt = 3 → aw_functionCount2.toInt = (qn : Int) ∧ ∀ f : Nat, (f : Int) < (qn : Int) → (gwaf2 f).toInt = (qto f).toInt) ∧ (p0.toInt ≠ 3 → gwaf2 = gwaf ∧ aw_functionCount2 = aw_functionCount)) ∧ ((p0.toInt = 5 → aw_hasMemory2.toInt = 1 ∧ aw_pagesLeast2.toInt = 1 ∧ aw_pagesMost2.toInt = 2) ∧ (p0.toInt ≠ 5 → aw_hasMemory2 = aw_hasMemory ∧ aw_pagesLeast2 = aw_pagesLeast ∧ aw_pagesMost2 = aw_pagesMost)) ∧ ((p0.toInt = 6 → aw_globalCount2.toInt = (qG.length : Int) ∧ ∀ g : Nat, (g : Int) < (qG.length : Int) → (gwgt2 g).toInt = 127 ∨ (gwgt2 g).toInt = 126) ∧ (p0.toInt ≠ 6 → gwgt2 = gwgt ∧ aw_globalCount2 = aw_globalCount)) ∧ ((p0.toInt = 7 → aw_exportCount2.toInt = (qX.length : Int) ∧ ∀ g : Nat, (g : Int) < (qX.length : Int) → 0 ≤ (gwez2 g).toInt) ∧ (p0.toInt ≠ 7 → gwez2 = gwez ∧ aw_exportCount2 = aw_exportCount)) ∧ ((p0.toInt = 10 → h0_codeCount2.toInt = (qn : Int) ∧ rd_C (qn : Int) ac_length2.toInt ac_labelCount.toInt gcfi2 gclk2 gclt2 gcop2 gcpt2 gcel2 gcva2 ∧ ∀ f, f < qn → cx qgv qtk qn qgc qft gcfi2 gclk2 gcop2 gcva2 f) ∧ (p0.toInt ≠ 10 → h0_codeCount2 = h0_codeCount ∧ ac_length2 = ac_length ∧ gcfi2 = gcfi ∧ gclk2 = gclk ∧ gclt2 = gclt ∧ gcop2 = gcop ∧ gcpt2 = gcpt ∧ gcel2 = gcel ∧ gcva2 = gcva)))) (at_RE_readSectionx dC dI h0 aw ac ob ab wat wap wag waf wgt wft wfv wgc wek wei wes wez ax cfi clk clt cop cva cpt cel cla cax cob cwaf cwat cwap cwag cwgt cwft cwfv cwgc cwek cwei cwes cwez ccfi cclk cclt ccop ccva ccpt ccel ab_length ac_labelCount gax (va_A (wz_246 h0 aw ac h0_at h0_limit h0_sound h0_codeCount ob h0_openCount aw ab ac aw_typeCount wat wap wag aw_functionCount waf aw_hasMemory aw_pagesLeast aw_pagesMost aw_globalCount wgt wft wfv wgc aw_exportCount wek wei wes wez ab ax ab_length ac cfi clk clt ac_length cop cva cpt cel ac_labelCount cla ax cax gax ob cob gob waf cwaf gwaf wat cwat gwat wap cwap gwap wag cwag gwag wgt cwgt gwgt wft cwft gwft wfv cwfv gwfv wgc cwgc gwgc wek cwek gwek wei cwei gwei wes cwes gwes wez cwez gwez cfi ccfi gcfi clk cclk gclk clt cclt gclt cop ccop gcop cva ccva gcva cpt ccpt gcpt cel ccel gcel) sz)) (va_A (wz_246 h0 aw ac h0_at h0_limit h0_sound h0_codeCount ob h0_openCount aw ab ac aw_typeCount wat wap wag aw_functionCount waf aw_hasMemory aw_pagesLeast aw_pagesMost aw_globalCount wgt wft wfv wgc aw_exportCount wek wei wes wez ab ax ab_length ac cfi clk clt ac_length cop cva cpt cel ac_labelCount cla ax cax gax ob cob gob waf cwaf gwaf wat cwat gwat wap cwap gwap wag cwag gwag wgt cwgt gwgt wft cwft gwft wfv cwfv gwfv wgc cwgc gwgc wek cwek gwek wei cwei gwei wes cwes gwes wez cwez gwez cfi ccfi gcfi clk cclk gclk clt cclt gclt cop ccop gcop cva ccva gcva cpt ccpt gcpt cel ccel gcel) sz)) 0 0 (va_A (wz_246 h0 aw ac h0_at h0_limit h0_sound h0_codeCount ob h0_openCount aw ab ac aw_typeCount wat wap wag aw_functionCount waf aw_hasMemory aw_pagesLeast aw_pagesMost aw_globalCount wgt wft wfv wgc aw_exportCount wek wei wes wez ab ax ab_length ac cfi clk clt ac_length cop cva cpt cel ac_labelCount cla ax cax gax ob cob gob waf cwaf gwaf wat cwat gwat wap cwap gwap wag cwag gwag wgt cwgt gwgt wft cwft gwft wfv cwfv gwfv wgc cwgc gwgc wek cwek gwek wei cwei gwei wes cwes gwes wez cwez gwez cfi ccfi gcfi clk cclk gclk clt cclt gclt cop ccop gcop cva ccva gcva cpt ccpt gcpt cel ccel gcel) sz) := by
  refine Met.ofW (cc := b_RE_readSection) (maxL := 4) (ret := none) (by decide) rfl ?_
  intro p e s m args below meth c s₁ B hml hv
  obtain ⟨rfl, hsz, hP, hK, hD0⟩ := hv
  have hx := B.exec
  have hb := B.bytes
  have hr := B.returns
  have hts0 := atoms_spec (ws := w_RE_readSection) B.pre
  have hts : ∀ w ∈ lw_g, w.before _ s = true := fun w h => hts0 w (List.mem_cons_of_mem _ h)
  have hown : s.vm.findClass R_RE = some m.cls := findClass_of_methodNamed B.named
  have hlocks := B.notSynchronized
  clear hts0
  subst hsz
  have hD := hD0.self (sz := s.heap.size)
  generalize hAe : va_A (wz_246 h0 aw ac h0_at h0_limit h0_sound h0_codeCount ob h0_openCount aw ab ac aw_typeCount wat wap wag aw_functionCount waf aw_hasMemory aw_pagesLeast aw_pagesMost aw_globalCount wgt wft wfv wgc aw_exportCount wek wei wes wez ab ax ab_length ac cfi clk clt ac_length cop cva cpt cel ac_labelCount cla ax cax gax ob cob gob waf cwaf gwaf wat cwat gwat wap cwap gwap wag cwag gwag wgt cwgt gwgt wft cwft gwft wfv cwfv gwfv wgc cwgc gwgc wek cwek gwek wei cwei gwei wes cwes gwes wez cwez gwez cfi ccfi gcfi clk cclk gclk clt cclt gclt cop ccop gcop cva ccva gcva cpt ccpt gcpt cel ccel gcel) s.heap.size = A at hD ⊢
  have hA : ∀ q : Nat, s.heap.size ≤ q → A q := fun q h => by rw [← hAe]; exact Or.inr h
  clear hAe
  have hP : va_P (dC, dI) cls (wz_246 h0 aw ac h0_at h0_limit h0_sound h0_codeCount ob h0_openCount aw ab ac aw_typeCount wat wap wag aw_functionCount waf aw_hasMemory aw_pagesLeast aw_pagesMost aw_globalCount wgt wft wfv wgc aw_exportCount wek wei wes wez ab ax ab_length ac cfi clk clt ac_length cop cva cpt cel ac_labelCount cla ax cax gax ob cob gob waf cwaf gwaf wat cwat gwat wap cwap gwap wag cwag gwag wgt cwgt gwgt wft cwft gwft wfv cwfv gwfv wgc cwgc gwgc wek cwek gwek wei cwei gwei wes cwes gwes wez cwez gwez cfi ccfi gcfi clk cclk gclk clt cclt gclt cop ccop gcop cva ccva gcva cpt ccpt gcpt cel ccel gcel) s.heap := hP
  have hl := lv_entry ([.ref h0, .int p0]) (n := 4) (Nat.le_of_ble_eq_true rfl)
  rw [lg_entry_eq]
  generalize (lg_sl ([.ref h0, .int p0]) ++ List.replicate (4 - (lg_sl ([.ref h0, .int p0])).length) Slot.unset).toArray = ls at hl ⊢
  have hl : lv_has ls 4 [(0, .ref h0), (1, .int p0)] := hl
  have k0 : (0 : Int32).toInt = 0 := by decide
  refine w_gen (A := A) hP (fun H locs hP hS => ?_)
  have k1 : (1 : Int32).toInt = 1 := by decide
  have lo_p0 := i32_lo p0
  have hi_p0 := i32_hi p0
  have th0_sound := b01 b_h0_sound
  have taw_hasMemory := b01 b_aw_hasMemory
  refine lv_iload_n hx hb d_RE_readSection_0 rfl (lv_at hl 1 rfl) ?_
  by_cases g1_111 : p0.toInt = 1
  · have ho1 : tab_off 235 0 10 #[59, 110, 235, 117, 235, 171, 178, 185, 235, 235, 192] p0.toInt = 110 := by rw [g1_111]; rfl
    refine lv_tab (tgt := 111) hx hb d_RE_readSection_1 (by decide) ho1 (by decide) ?_
    clear ho1
    have kk : p0.toInt = 1 := by (first | (apply Int.le_antisymm <;> omega) | omega)
    have z9 := i32_clamp (x := h0_at) (by (first | (apply Int.le_antisymm <;> omega) | omega))
    have hq := h1.out kk
    obtain ⟨j1, j2, j3, j4, j5⟩ := hq
    subst j1
    rw [List.length_cons] at hlm
    refine lv_aload_n hx hb d_RE_readSection_111 rfl (lv_at hl 0 rfl) ?_
    have hPc := hP.sb (wq := (wz_47 h0 aw ac h0_at h0_limit h0_sound h0_codeCount ob h0_openCount aw ab ac aw_typeCount wat wap wag aw_functionCount waf aw_hasMemory aw_pagesLeast aw_pagesMost aw_globalCount wgt wft wfv wgc aw_exportCount wek wei wes wez ab ax ab_length ax cax gax wat cwat gwat wap cwap gwap wag cwag gwag)) [0, 1, 2, 4, 7, 8, 9] rfl
    have hDc := hD.sb (wq := (wz_47 h0 aw ac h0_at h0_limit h0_sound h0_codeCount ob h0_openCount aw ab ac aw_typeCount wat wap wag aw_functionCount waf aw_hasMemory aw_pagesLeast aw_pagesMost aw_globalCount wgt wft wfv wgc aw_exportCount wek wei wes wez ab ax ab_length ax cax gax wat cwat gwat wap cwap gwap wag cwag gwag)) [0, 1, 2, 4, 7, 8, 9] (by decide) rfl
    have hKc := hK.sb (tyq := [(cax, .byte), (cwat, .int), (cwap, .int), (cwag, .int)]) [0, 3, 4, 5] rfl
    have hFc := va_free (wc := (wz_47 h0 aw ac h0_at h0_limit h0_sound h0_codeCount ob h0_openCount aw ab ac aw_typeCount wat wap wag aw_functionCount waf aw_hasMemory aw_pagesLeast aw_pagesMost aw_globalCount wgt wft wfv wgc aw_exportCount wek wei wes wez ab ax ab_length ax cax gax wat cwat gwat wap cwap gwap wag cwag gwag)) hD hS hA [0, 1, 2, 4, 7, 8, 9] rfl
    refine va_callv (va_runV (As := []) (rest := []) ⟨hx, hb, hml, hown, hts⟩ (c_RE_readTypesx l dC dI H.size h0 aw ac ob ab wat wap wag waf wgt wft wfv wgc wek wei wes wez ax cax cwat cwap cwag h0_at h0_limit h0_sound h0_codeCount h0_openCount aw_typeCount aw_functionCount aw_hasMemory aw_pagesLeast aw_pagesMost aw_globalCount aw_exportCount ab_length gax gwat gwap gwag qTs qtb qtk qft (b_h0_sound) (b_aw_typeCount) (by (first | (apply Int.le_antisymm <;> omega) | omega)) (by (first | (apply Int.le_antisymm <;> omega) | omega)) (j2) (j3) (j4) (j5) (hbq) (by (first | (apply Int.le_antisymm <;> omega) | omega))) (cwV 0 hts (gV kM_RE_74 kV_RE_readTypes kS_RE_readTypes kI_RE kC_RE_readTypes) rfl rfl rfl (by decide +kernel) ⟨Nat.le_of_ble_eq_true rfl, Nat.le_of_ble_eq_true rfl⟩) ⟨fun a U g mk z => by obtain ⟨z0, z1, zP, zK, zD⟩ := z; exact ⟨z0, z1, zP, va_K.moved (u := U) (U := U.calling g mk a) (Vm.Alike.refl U.vm) zK, zD⟩, va_recv hKc hPc (ci := 7) (q0 := 0) rfl rfl, fun U hU hW => ⟨rfl, by rw [hU], va_P.he hU.symm hPc, va_K.moved hW.alike hKc, hDc.weaken (fun _ _ _ _ => trivial)⟩⟩ rfl rfl hl.1 rfl (lv_room (Nat.le_of_ble_eq_true rfl)) d_RE_readSection_112 ⟨(Nat.zero_le _), (Nat.zero_le _)⟩) hS (fun q _ h => hFc q h) hFc (fun u t H1 locs ht hvm hw hB hz1 hk1 hS => ?_)
    obtain ⟨n2, n3, n4, n5, n6, n7⟩ := u
    try dsimp only at hw
    obtain ⟨bn5, bn7, xr1⟩ := hw
    try clear hw
    have tn7 := b01 bn7
    obtain ⟨hP1, hK1, hD1⟩ := hB
    replace hP1 := va_P.he ht hP1
    obtain ⟨hP, hD⟩ := va_join (wr := [(ac, .inr (3, [.ref cfi, .ref clk, .ref clt, .int ac_length, .ref cop, .ref cva, .ref cpt, .ref cel, .int ac_labelCount, .ref cla])), (ob, .inl (cob, 100, .inl gob)), (waf, .inl (cwaf, 30, .inl gwaf)), (wgt, .inl (cwgt, 20, .inl gwgt)), (wft, .inl (cwft, 20, .inl gwft)), (wfv, .inl (cwfv, 20, .inr (.inl gwfv))), (wgc, .inl (cwgc, 20, .inl gwgc)), (wek, .inl (cwek, 40, .inl gwek)), (wei, .inl (cwei, 40, .inl gwei)), (wes, .inl (cwes, 40, .inl gwes)), (wez, .inl (cwez, 40, .inl gwez)), (cfi, .inl (ccfi, 31, .inl gcfi)), (clk, .inl (cclk, 30, .inl gclk)), (clt, .inl (cclt, 1800, .inl gclt)), (cop, .inl (ccop, 5000, .inl gcop)), (cva, .inl (ccva, 5000, .inr (.inl gcva))), (cpt, .inl (ccpt, 5000, .inl gcpt)), (cel, .inl (ccel, 5000, .inl gcel))]) (w1 := (wz_47 h0 aw ac n6 h0_limit n7 h0_codeCount ob h0_openCount aw ab ac n5 wat wap wag aw_functionCount waf aw_hasMemory aw_pagesLeast aw_pagesMost aw_globalCount wgt wft wfv wgc aw_exportCount wek wei wes wez ab ax ab_length ax cax gax wat cwat n4 wap cwap n3 wag cwag n2)) hP hD [0, 1, 2, 4, 7, 8, 9] [3, 5, 6, 10, 11, 12, 13, 14, 15, 16, 17, 18, 19, 20, 21, 22, 23, 24] rfl rfl (by decide) (by decide) hk1 hFc hP1 hD1
    clear hPc hDc hKc hFc hz1 hk1 hP1 hK1 hD1
    rename Heap => H
    have hP : va_P (dC, dI) cls [(ac, .inr (3, [.ref cfi, .ref clk, .ref clt, .int ac_length, .ref cop, .ref cva, .ref cpt, .ref cel, .int ac_labelCount, .ref cla])), (ob, .inl (cob, 100, .inl gob)), (waf, .inl (cwaf, 30, .inl gwaf)), (wgt, .inl (cwgt, 20, .inl gwgt)), (wft, .inl (cwft, 20, .inl gwft)), (wfv, .inl (cwfv, 20, .inr (.inl gwfv))), (wgc, .inl (cwgc, 20, .inl gwgc)), (wek, .inl (cwek, 40, .inl gwek)), (wei, .inl (cwei, 40, .inl gwei)), (wes, .inl (cwes, 40, .inl gwes)), (wez, .inl (cwez, 40, .inl gwez)), (cfi, .inl (ccfi, 31, .inl gcfi)), (clk, .inl (cclk, 30, .inl gclk)), (clt, .inl (cclt, 1800, .inl gclt)), (cop, .inl (ccop, 5000, .inl gcop)), (cva, .inl (ccva, 5000, .inr (.inl gcva))), (cpt, .inl (ccpt, 5000, .inl gcpt)), (cel, .inl (ccel, 5000, .inl gcel)), (h0, .inr (7, [.ref aw, .ref ac, .int n6, .int h0_limit, .int n7, .int h0_codeCount, .ref ob, .int h0_openCount])), (aw, .inr (10, [.ref ab, .ref ac, .int n5, .ref wat, .ref wap, .ref wag, .int aw_functionCount, .ref waf, .int aw_hasMemory, .long aw_pagesLeast, .long aw_pagesMost, .int aw_globalCount, .ref wgt, .ref wft, .ref wfv, .ref wgc, .int aw_exportCount, .ref wek, .ref wei, .ref wes, .ref wez])), (ab, .inr (1, [.ref ax, .int ab_length])), (ax, .inl (cax, 8192, .inl gax)), (wat, .inl (cwat, 20, .inl n4)), (wap, .inl (cwap, 160, .inl n3)), (wag, .inl (cwag, 20, .inl n2))] H := hP
    have hD : va_D A [(ac, .inr (3, [.ref cfi, .ref clk, .ref clt, .int ac_length, .ref cop, .ref cva, .ref cpt, .ref cel, .int ac_labelCount, .ref cla])), (ob, .inl (cob, 100, .inl gob)), (waf, .inl (cwaf, 30, .inl gwaf)), (wgt, .inl (cwgt, 20, .inl gwgt)), (wft, .inl (cwft, 20, .inl gwft)), (wfv, .inl (cwfv, 20, .inr (.inl gwfv))), (wgc, .inl (cwgc, 20, .inl gwgc)), (wek, .inl (cwek, 40, .inl gwek)), (wei, .inl (cwei, 40, .inl gwei)), (wes, .inl (cwes, 40, .inl gwes)), (wez, .inl (cwez, 40, .inl gwez)), (cfi, .inl (ccfi, 31, .inl gcfi)), (clk, .inl (cclk, 30, .inl gclk)), (clt, .inl (cclt, 1800, .inl gclt)), (cop, .inl (ccop, 5000, .inl gcop)), (cva, .inl (ccva, 5000, .inr (.inl gcva))), (cpt, .inl (ccpt, 5000, .inl gcpt)), (cel, .inl (ccel, 5000, .inl gcel)), (h0, .inr (7, [.ref aw, .ref ac, .int n6, .int h0_limit, .int n7, .int h0_codeCount, .ref ob, .int h0_openCount])), (aw, .inr (10, [.ref ab, .ref ac, .int n5, .ref wat, .ref wap, .ref wag, .int aw_functionCount, .ref waf, .int aw_hasMemory, .long aw_pagesLeast, .long aw_pagesMost, .int aw_globalCount, .ref wgt, .ref wft, .ref wfv, .ref wgc, .int aw_exportCount, .ref wek, .ref wei, .ref wes, .ref wez])), (ab, .inr (1, [.ref ax, .int ab_length])), (ax, .inl (cax, 8192, .inl gax)), (wat, .inl (cwat, 20, .inl n4)), (wap, .inl (cwap, 160, .inl n3)), (wag, .inl (cwag, 20, .inl n2))] := hD
    refine lv_goto (tgt := 241) hx hb d_RE_readSection_115 (by decide) ?_
    have hP9 := hP.sb (wq := (wz_246 h0 aw ac n6 h0_limit n7 h0_codeCount ob h0_openCount aw ab ac n5 wat wap wag aw_functionCount waf aw_hasMemory aw_pagesLeast aw_pagesMost aw_globalCount wgt wft wfv wgc aw_exportCount wek wei wes wez ab ax ab_length ac cfi clk clt ac_length cop cva cpt cel ac_labelCount cla ax cax gax ob cob gob waf cwaf gwaf wat cwat n4 wap cwap n3 wag cwag n2 wgt cwgt gwgt wft cwft gwft wfv cwfv gwfv wgc cwgc gwgc wek cwek gwek wei cwei gwei wes cwes gwes wez cwez gwez cfi ccfi gcfi clk cclk gclk clt cclt gclt cop ccop gcop cva ccva gcva cpt ccpt gcpt cel ccel gcel)) [18, 19, 20, 0, 21, 1, 2, 22, 23, 24, 3, 4, 5, 6, 7, 8, 9, 10, 11, 12, 13, 14, 15, 16, 17] rfl
    have hD9 := hD.sb (wq := (wz_246 h0 aw ac n6 h0_limit n7 h0_codeCount ob h0_openCount aw ab ac n5 wat wap wag aw_functionCount waf aw_hasMemory aw_pagesLeast aw_pagesMost aw_globalCount wgt wft wfv wgc aw_exportCount wek wei wes wez ab ax ab_length ac cfi clk clt ac_length cop cva cpt cel ac_labelCount cla ax cax gax ob cob gob waf cwaf gwaf wat cwat n4 wap cwap n3 wag cwag n2 wgt cwgt gwgt wft cwft gwft wfv cwfv gwfv wgc cwgc gwgc wek cwek gwek wei cwei gwei wes cwes gwes wez cwez gwez cfi ccfi gcfi clk cclk gclk clt cclt gclt cop ccop gcop cva ccva gcva cpt ccpt gcpt cel ccel gcel)) [18, 19, 20, 0, 21, 1, 2, 22, 23, 24, 3, 4, 5, 6, 7, 8, 9, 10, 11, 12, 13, 14, 15, 16, 17] (by decide) rfl
    exact W.vret hx hb hr (fun t ht hW => ⟨⟨(gcel, gcfi, gclk, gclt, gcop, gcpt, gcva, gob, gwaf, n2, n3, n4, gwei, gwek, gwes, gwez, gwft, gwfv, gwgc, gwgt, ac_length, aw_exportCount, aw_functionCount, aw_globalCount, aw_hasMemory, aw_pagesLeast, aw_pagesMost, n5, n6, h0_codeCount, h0_limit, h0_openCount, n7), rfl, ⟨b_ac_length, b_aw_exportCount, b_aw_functionCount, b_aw_globalCount, b_aw_hasMemory, bn5, b_h0_codeCount, b_h0_openCount, bn7, ⟨by have := xr1.1; (try dsimp only) <;> (first | (apply Int.le_antisymm <;> omega) | omega), by (try dsimp only) <;> (first | (apply Int.le_antisymm <;> omega) | omega), xr1.2.1, hel.out, ⟨fun _ => ⟨xr1.2.2.1, xr1.2.2.2.1, xr1.2.2.2.2⟩, fun z => absurd kk z⟩, ⟨fun z => absurd z (by (first | (apply Int.le_antisymm <;> omega) | omega)), fun _ => ⟨rfl, rfl⟩⟩, ⟨fun z => absurd z (by (first | (apply Int.le_antisymm <;> omega) | omega)), fun _ => ⟨rfl, rfl, rfl⟩⟩, ⟨fun z => absurd z (by (first | (apply Int.le_antisymm <;> omega) | omega)), fun _ => ⟨rfl, rfl⟩⟩, ⟨fun z => absurd z (by (first | (apply Int.le_antisymm <;> omega) | omega)), fun _ => ⟨rfl, rfl⟩⟩, ⟨fun z => absurd z (by (first | (apply Int.le_antisymm <;> omega) | omega)), fun _ => ⟨rfl, rfl, rfl, rfl, rfl, rfl, rfl, rfl, rfl⟩⟩⟩⟩, va_P.he ht.symm hP9, va_K.moved hW.alike hK, hD9⟩, hS.F ht⟩) hS.2.2 d_RE_readSection_241
  · skip
    by_cases g1_118 : p0.toInt = 3
    · have ho1 : tab_off 235 0 10 #[59, 110, 235, 117, 235, 171, 178, 185, 235, 235, 192] p0.toInt = 117 := by rw [g1_118]; rfl
      refine lv_tab (tgt := 118) hx hb d_RE_readSection_1 (by decide) ho1 (by decide) ?_
      clear ho1
      have kk : p0.toInt = 3 := by (first | (apply Int.le_antisymm <;> omega) | omega)
      have z9 := i32_clamp (x := h0_at) (by (first | (apply Int.le_antisymm <;> omega) | omega))
      have hq := h3.out kk
      obtain ⟨j1, j2, j3⟩ := hq
      subst j1
      rw [List.length_cons, tol_len] at hlm
      replace j3 : bx _ := j3
      have ln : (leb 5 qn).length = 1 := by rw [leb_1 (by (first | (apply Int.le_antisymm <;> omega) | omega))]; rfl
      refine lv_aload_n hx hb d_RE_readSection_118 rfl (lv_at hl 0 rfl) ?_
      refine va_get (D := (dC, dI)) (ci := 7) (v := .ref aw) (C := R_RE) (T := F_RE) (N := 8) hx hb hts i_RE hown hK hP 0 rfl rfl 0 (by decide) (hts _ kF_RE_15) (fun _ h9 => h9) rfl d_RE_readSection_119 ?_
      refine lv_aload_n hx hb d_RE_readSection_122 rfl (lv_at hl 0 rfl) ?_
      refine lv_ldc2 hx hb hown (hts _ kL_RE_77) d_RE_readSection_123 ?_
      refine lv_topl (fun x8 ex8 => ?_)
      have tx8 : x8.toInt = 30 := by rw [ex8]; decide
      have hPc := hP.sb (wq := (wz_46 h0 aw ac h0_at h0_limit h0_sound h0_codeCount ob h0_openCount aw ab ac aw_typeCount wat wap wag aw_functionCount waf aw_hasMemory aw_pagesLeast aw_pagesMost aw_globalCount wgt wft wfv wgc aw_exportCount wek wei wes wez ab ax ab_length ax cax gax)) [0, 1, 2, 4] rfl
      have hDc := hD.sb (wq := (wz_46 h0 aw ac h0_at h0_limit h0_sound h0_codeCount ob h0_openCount aw ab ac aw_typeCount wat wap wag aw_functionCount waf aw_hasMemory aw_pagesLeast aw_pagesMost aw_globalCount wgt wft wfv wgc aw_exportCount wek wei wes wez ab ax ab_length ax cax gax)) [0, 1, 2, 4] (by decide) rfl
      have hKc := hK.sb (tyq := [(cax, .byte)]) [0] rfl
      have hFc := va_free (wc := (wz_46 h0 aw ac h0_at h0_limit h0_sound h0_codeCount ob h0_openCount aw ab ac aw_typeCount wat wap wag aw_functionCount waf aw_hasMemory aw_pagesLeast aw_pagesMost aw_globalCount wgt wft wfv wgc aw_exportCount wek wei wes wez ab ax ab_length ax cax gax)) hD hS hA [0, 1, 2, 4] rfl
      refine va_calll (va_runV (As := [.long x8]) (rest := [.ref aw]) ⟨hx, hb, hml, hown, hts⟩ (c_RE_readUnsignedx l dC dI H.size h0 aw ac ob ab wat wap wag waf wgt wft wfv wgc wek wei wes wez ax cax h0_at h0_limit h0_sound h0_codeCount h0_openCount aw_typeCount aw_functionCount aw_hasMemory aw_pagesLeast aw_pagesMost aw_globalCount aw_exportCount ab_length gax qn (b_h0_sound) x8 (by (first | (apply Int.le_antisymm <;> omega) | omega)) (by (first | (apply Int.le_antisymm <;> omega) | omega)) (by (first | (apply Int.le_antisymm <;> omega) | omega)) ((by rw [leb_1 (by (first | (apply Int.le_antisymm <;> omega) | omega))]; exact ⟨hbq.out.1, trivial⟩)) (by (first | (apply Int.le_antisymm <;> omega) | omega))) (cwV 1 hts (gV kM_RE_64 kV_RE_readUnsigned kS_RE_readUnsigned kI_RE kC_RE_readUnsigned) rfl rfl rfl (by decide +kernel) ⟨Nat.le_of_ble_eq_true rfl, Nat.le_of_ble_eq_true rfl⟩) ⟨fun a U g mk z => by obtain ⟨z0, z1, zP, zK, zD⟩ := z; exact ⟨z0, z1, zP, va_K.moved (u := U) (U := U.calling g mk a) (Vm.Alike.refl U.vm) zK, zD⟩, va_recv hKc hPc (ci := 7) (q0 := 0) rfl rfl, fun U hU hW => ⟨rfl, by rw [hU], va_P.he hU.symm hPc, va_K.moved hW.alike hKc, hDc.weaken (fun _ _ _ _ => trivial)⟩⟩ rfl rfl hl.1 rfl (lv_room (Nat.le_of_ble_eq_true rfl)) d_RE_readSection_126 ⟨(Nat.zero_le _), (Nat.zero_le _)⟩) hS (fun q _ h => hFc q h) hFc (fun r9 u t H1 locs ht hvm hw hB hz1 hk1 hS => ?_)
      obtain ⟨n10, n11⟩ := u
      try dsimp only at hw
      obtain ⟨bn11, xr9⟩ := hw
      try clear hw
      have tn11 := b01 bn11
      have za126 := i32_clamp (x := n10) (by (first | (apply Int.le_antisymm <;> omega) | omega))
      obtain ⟨hP1, hK1, hD1⟩ := hB
      replace hP1 := va_P.he ht hP1
      obtain ⟨hP, hD⟩ := va_join (wr := (wz_247 ac cfi clk clt ac_length cop cva cpt cel ac_labelCount cla ob cob gob waf cwaf gwaf wat cwat gwat wap cwap gwap wag cwag gwag wgt cwgt gwgt wft cwft gwft wfv cwfv gwfv wgc cwgc gwgc wek cwek gwek wei cwei gwei wes cwes gwes wez cwez gwez cfi ccfi gcfi clk cclk gclk clt cclt gclt cop ccop gcop cva ccva gcva cpt ccpt gcpt cel ccel gcel)) (w1 := (wz_46 h0 aw ac n10 h0_limit n11 h0_codeCount ob h0_openCount aw ab ac aw_typeCount wat wap wag aw_functionCount waf aw_hasMemory aw_pagesLeast aw_pagesMost aw_globalCount wgt wft wfv wgc aw_exportCount wek wei wes wez ab ax ab_length ax cax gax)) hP hD [0, 1, 2, 4] [3, 5, 6, 7, 8, 9, 10, 11, 12, 13, 14, 15, 16, 17, 18, 19, 20, 21, 22, 23, 24] rfl rfl (by decide) (by decide) hk1 hFc hP1 hD1
      clear hPc hDc hKc hFc hz1 hk1 hP1 hK1 hD1
      rename Heap => H
      have hP : va_P (dC, dI) cls (wz_248 ac cfi clk clt ac_length cop cva cpt cel ac_labelCount cla ob cob gob waf cwaf gwaf wat cwat gwat wap cwap gwap wag cwag gwag wgt cwgt gwgt wft cwft gwft wfv cwfv gwfv wgc cwgc gwgc wek cwek gwek wei cwei gwei wes cwes gwes wez cwez gwez cfi ccfi gcfi clk cclk gclk clt cclt gclt cop ccop gcop cva ccva gcva cpt ccpt gcpt cel ccel gcel h0 aw ac n10 h0_limit n11 h0_codeCount ob h0_openCount aw ab ac aw_typeCount wat wap wag aw_functionCount waf aw_hasMemory aw_pagesLeast aw_pagesMost aw_globalCount wgt wft wfv wgc aw_exportCount wek wei wes wez ab ax ab_length ax cax gax) H := hP
      have hD : va_D A (wz_248 ac cfi clk clt ac_length cop cva cpt cel ac_labelCount cla ob cob gob waf cwaf gwaf wat cwat gwat wap cwap gwap wag cwag gwag wgt cwgt gwgt wft cwft gwft wfv cwfv gwfv wgc cwgc gwgc wek cwek gwek wei cwei gwei wes cwes gwes wez cwez gwez cfi ccfi gcfi clk cclk gclk clt cclt gclt cop ccop gcop cva ccva gcva cpt ccpt gcpt cel ccel gcel h0 aw ac n10 h0_limit n11 h0_codeCount ob h0_openCount aw ab ac aw_typeCount wat wap wag aw_functionCount waf aw_hasMemory aw_pagesLeast aw_pagesMost aw_globalCount wgt wft wfv wgc aw_exportCount wek wei wes wez ab ax ab_length ax cax gax) := hD
      refine lv_l2i hx hb d_RE_readSection_129 rfl ?_
      refine lv_topi (fun x12 ex12 => ?_)
      have tx12 := l2i_t ex12 (by (first | (apply Int.le_antisymm <;> omega) | omega)) (by (first | (apply Int.le_antisymm <;> omega) | omega))
      refine va_put (D := (dC, dI)) (ci := 10) (v := .int x12) (ty := .int) (C := R_WA) (T := F_WA) (N := 21) hx hb hts i_WA t_WA t_WA_ok n_WA hown hK hP hD hS 22 rfl rfl 6 (by decide) (hts _ kF_RE_71) (fun _ h9 => h9) rfl (by decide +kernel) rfl rfl (Nat.le_of_ble_eq_true rfl) d_RE_readSection_130 (fun H locs hP hD hS => ?_)
      refine lv_iconst (v := 0) hx hb d_RE_readSection_133 (by decide) ?_
      refine lv_istore_n (lv' := [(3, .int 0), (0, .ref h0), (1, .int p0)]) hx hb d_RE_readSection_134 rfl hl (by decide) rfl (fun ls hl => ?_)
      refine w_loop (σ := Int32 × (Nat → Int32) × Int32 × Int32) (fun u H locs ls => match u with | (j135_l3, j135_waf, j135_h0_at, j135_h0_sound) => (0 ≤ j135_l3.toInt ∧ j135_l3.toInt ≤ 30) ∧ (j135_h0_sound = 0 ∨ j135_h0_sound = 1) ∧ (j135_l3.toInt ≤ (qn : Int) ∧ x12.toInt = (qn : Int) ∧ j135_h0_sound.toInt = 1 ∧ j135_h0_at.toInt = h0_at.toInt + 1 + j135_l3.toInt) ∧ (bx (bq gax j135_h0_at.toNatClampNeg ((tol qto qn).drop j135_l3.toNatClampNeg))) ∧ (∀ f : Nat, (f : Int) < j135_l3.toInt → (j135_waf f).toInt = (qto f).toInt) ∧ va_P (dC, dI) cls (wz_248 ac cfi clk clt ac_length cop cva cpt cel ac_labelCount cla ob cob gob waf cwaf j135_waf wat cwat gwat wap cwap gwap wag cwag gwag wgt cwgt gwgt wft cwft gwft wfv cwfv gwfv wgc cwgc gwgc wek cwek gwek wei cwei gwei wes cwes gwes wez cwez gwez cfi ccfi gcfi clk cclk gclk clt cclt gclt cop ccop gcop cva ccva gcva cpt ccpt gcpt cel ccel gcel h0 aw ac j135_h0_at h0_limit j135_h0_sound h0_codeCount ob h0_openCount aw ab ac aw_typeCount wat wap wag x12 waf aw_hasMemory aw_pagesLeast aw_pagesMost aw_globalCount wgt wft wfv wgc aw_exportCount wek wei wes wez ab ax ab_length ax cax gax) H ∧ va_D A (wz_248 ac cfi clk clt ac_length cop cva cpt cel ac_labelCount cla ob cob gob waf cwaf j135_waf wat cwat gwat wap cwap gwap wag cwag gwag wgt cwgt gwgt wft cwft gwft wfv cwfv gwfv wgc cwgc gwgc wek cwek gwek wei cwei gwei wes cwes gwes wez cwez gwez cfi ccfi gcfi clk cclk gclk clt cclt gclt cop ccop gcop cva ccva gcva cpt ccpt gcpt cel ccel gcel h0 aw ac j135_h0_at h0_limit j135_h0_sound h0_codeCount ob h0_openCount aw ab ac aw_typeCount wat wap wag x12 waf aw_hasMemory aw_pagesLeast aw_pagesMost aw_globalCount wgt wft wfv wgc aw_exportCount wek wei wes wez ab ax ab_length ax cax gax) ∧ va_S A s.heap H locs ∧ lv_has ls 4 [(0, .ref h0), (3, .int j135_l3)]) (fun u => match u with | (j135_l3, j135_waf, j135_h0_at, j135_h0_sound) => ((qn : Int) - j135_l3.toInt).toNat) ?_ (0, gwaf, n10, n11) ⟨by (try dsimp only) <;> (first | (apply Int.le_antisymm <;> omega) | omega), bn11, by (try dsimp only) <;> (first | (apply Int.le_antisymm <;> omega) | omega), (bq_at hbq.out.2 (by (first | (apply Int.le_antisymm <;> omega) | omega))), fun t z => absurd z (by show ¬ (t : Int) < 0; (first | (apply Int.le_antisymm <;> omega) | omega)), hP, hD, hS, lv_sub hl [1, 0] rfl⟩
      intro N135 ih135 u H locs ls hN135 hI
      obtain ⟨j135_l3, j135_waf, j135_h0_at, j135_h0_sound⟩ := u
      obtain ⟨b_j135_l3, b_j135_h0_sound, v1, hB, v3, hP, hD, hS, hl⟩ := hI
      have tj135_h0_sound := b01 b_j135_h0_sound
      have hN135 : ((qn : Int) - j135_l3.toInt).toNat < N135 + 1 := hN135
      refine lv_iload_n hx hb d_RE_readSection_135 rfl (lv_at hl 1 rfl) ?_
      refine lv_aload_n hx hb d_RE_readSection_136 rfl (lv_at hl 0 rfl) ?_
      refine va_get (D := (dC, dI)) (ci := 7) (v := .ref aw) (C := R_RE) (T := F_RE) (N := 8) hx hb hts i_RE hown hK hP 21 rfl rfl 0 (by decide) (hts _ kF_RE_15) (fun _ h9 => h9) rfl d_RE_readSection_137 ?_
      refine va_get (D := (dC, dI)) (ci := 10) (v := .int x12) (C := R_WA) (T := F_WA) (N := 21) hx hb hts i_WA hown hK hP 22 rfl rfl 6 (by decide) (hts _ kF_RE_71) (fun _ h9 => h9) rfl d_RE_readSection_140 ?_
      refine lv_icmp_ge (tgt := 169) hx hb d_RE_readSection_143 (by decide) (fun c143 => ?_) (fun c143 => ?_)
      · have q143 := leI c143
        refine lv_goto (tgt := 241) hx hb d_RE_readSection_169 (by decide) ?_
        have hP9 := hP.sb (wq := (wz_246 h0 aw ac j135_h0_at h0_limit j135_h0_sound h0_codeCount ob h0_openCount aw ab ac aw_typeCount wat wap wag x12 waf aw_hasMemory aw_pagesLeast aw_pagesMost aw_globalCount wgt wft wfv wgc aw_exportCount wek wei wes wez ab ax ab_length ac cfi clk clt ac_length cop cva cpt cel ac_labelCount cla ax cax gax ob cob gob waf cwaf j135_waf wat cwat gwat wap cwap gwap wag cwag gwag wgt cwgt gwgt wft cwft gwft wfv cwfv gwfv wgc cwgc gwgc wek cwek gwek wei cwei gwei wes cwes gwes wez cwez gwez cfi ccfi gcfi clk cclk gclk clt cclt gclt cop ccop gcop cva ccva gcva cpt ccpt gcpt cel ccel gcel)) [21, 22, 23, 0, 24, 1, 2, 3, 4, 5, 6, 7, 8, 9, 10, 11, 12, 13, 14, 15, 16, 17, 18, 19, 20] rfl
        have hD9 := hD.sb (wq := (wz_246 h0 aw ac j135_h0_at h0_limit j135_h0_sound h0_codeCount ob h0_openCount aw ab ac aw_typeCount wat wap wag x12 waf aw_hasMemory aw_pagesLeast aw_pagesMost aw_globalCount wgt wft wfv wgc aw_exportCount wek wei wes wez ab ax ab_length ac cfi clk clt ac_length cop cva cpt cel ac_labelCount cla ax cax gax ob cob gob waf cwaf j135_waf wat cwat gwat wap cwap gwap wag cwag gwag wgt cwgt gwgt wft cwft gwft wfv cwfv gwfv wgc cwgc gwgc wek cwek gwek wei cwei gwei wes cwes gwes wez cwez gwez cfi ccfi gcfi clk cclk gclk clt cclt gclt cop ccop gcop cva ccva gcva cpt ccpt gcpt cel ccel gcel)) [21, 22, 23, 0, 24, 1, 2, 3, 4, 5, 6, 7, 8, 9, 10, 11, 12, 13, 14, 15, 16, 17, 18, 19, 20] (by decide) rfl
        exact W.vret hx hb hr (fun t ht hW => ⟨⟨(gcel, gcfi, gclk, gclt, gcop, gcpt, gcva, gob, j135_waf, gwag, gwap, gwat, gwei, gwek, gwes, gwez, gwft, gwfv, gwgc, gwgt, ac_length, aw_exportCount, x12, aw_globalCount, aw_hasMemory, aw_pagesLeast, aw_pagesMost, aw_typeCount, j135_h0_at, h0_codeCount, h0_limit, h0_openCount, j135_h0_sound), rfl, ⟨b_ac_length, b_aw_exportCount, by (try dsimp only) <;> (first | (apply Int.le_antisymm <;> omega) | omega), b_aw_globalCount, b_aw_hasMemory, b_aw_typeCount, b_h0_codeCount, b_h0_openCount, b_j135_h0_sound, ⟨by (try dsimp only) <;> (first | (apply Int.le_antisymm <;> omega) | omega), by (try dsimp only) <;> (first | (apply Int.le_antisymm <;> omega) | omega), by (try dsimp only) <;> (first | (apply Int.le_antisymm <;> omega) | omega), hel.out, ⟨fun z => absurd z (by (first | (apply Int.le_antisymm <;> omega) | omega)), fun _ => ⟨rfl, rfl, rfl, rfl⟩⟩, ⟨fun _ => ⟨by (first | (apply Int.le_antisymm <;> omega) | omega), fun f z => v3 f (by (first | (apply Int.le_antisymm <;> omega) | omega))⟩, fun z => absurd kk z⟩, ⟨fun z => absurd z (by (first | (apply Int.le_antisymm <;> omega) | omega)), fun _ => ⟨rfl, rfl, rfl⟩⟩, ⟨fun z => absurd z (by (first | (apply Int.le_antisymm <;> omega) | omega)), fun _ => ⟨rfl, rfl⟩⟩, ⟨fun z => absurd z (by (first | (apply Int.le_antisymm <;> omega) | omega)), fun _ => ⟨rfl, rfl⟩⟩, ⟨fun z => absurd z (by (first | (apply Int.le_antisymm <;> omega) | omega)), fun _ => ⟨rfl, rfl, rfl, rfl, rfl, rfl, rfl, rfl, rfl⟩⟩⟩⟩, va_P.he ht.symm hP9, va_K.moved hW.alike hK, hD9⟩, hS.F ht⟩) hS.2.2 d_RE_readSection_241
      · have q143 := nleI c143
        have c3 := i32_clamp (x := j135_l3) (by (first | (apply Int.le_antisymm <;> omega) | omega))
        have m0 := hB.out
        rw [tol_hd (by (first | (apply Int.le_antisymm <;> omega) | omega))] at m0
        have m1 := m0.1
        have m2 := m0.2
        replace m2 : bx _ := m2
        clear m0
        have j4 := j3.out j135_l3.toNatClampNeg (by (first | (apply Int.le_antisymm <;> omega) | omega))
        have lt9 : (leb 5 (qto j135_l3.toNatClampNeg).toInt.toNat).length = 1 := by rw [leb_1 (by (first | (apply Int.le_antisymm <;> omega) | omega))]; rfl
        have z135 := i32_clamp (x := j135_h0_at) (by (first | (apply Int.le_antisymm <;> omega) | omega))
        refine lv_aload_n hx hb d_RE_readSection_146 rfl (lv_at hl 0 rfl) ?_
        refine va_get (D := (dC, dI)) (ci := 7) (v := .ref aw) (C := R_RE) (T := F_RE) (N := 8) hx hb hts i_RE hown hK hP 21 rfl rfl 0 (by decide) (hts _ kF_RE_15) (fun _ h9 => h9) rfl d_RE_readSection_147 ?_
        refine va_get (D := (dC, dI)) (ci := 10) (v := .ref waf) (C := R_WA) (T := F_WA) (N := 21) hx hb hts i_WA hown hK hP 22 rfl rfl 7 (by decide) (hts _ kF_RE_79) (fun _ h9 => h9) rfl d_RE_readSection_150 ?_
        refine lv_iload_n hx hb d_RE_readSection_153 rfl (lv_at hl 1 rfl) ?_
        refine lv_aload_n hx hb d_RE_readSection_154 rfl (lv_at hl 0 rfl) ?_
        refine lv_ldc2 hx hb hown (hts _ kL_RE_82) d_RE_readSection_155 ?_
        refine lv_topl (fun x13 ex13 => ?_)
        have tx13 : x13.toInt = 2147483647 := by rw [ex13]; decide
        have hPc := hP.sb (wq := (wz_46 h0 aw ac j135_h0_at h0_limit j135_h0_sound h0_codeCount ob h0_openCount aw ab ac aw_typeCount wat wap wag x12 waf aw_hasMemory aw_pagesLeast aw_pagesMost aw_globalCount wgt wft wfv wgc aw_exportCount wek wei wes wez ab ax ab_length ax cax gax)) [21, 22, 23, 24] rfl
        have hDc := hD.sb (wq := (wz_46 h0 aw ac j135_h0_at h0_limit j135_h0_sound h0_codeCount ob h0_openCount aw ab ac aw_typeCount wat wap wag x12 waf aw_hasMemory aw_pagesLeast aw_pagesMost aw_globalCount wgt wft wfv wgc aw_exportCount wek wei wes wez ab ax ab_length ax cax gax)) [21, 22, 23, 24] (by decide) rfl
        have hKc := hK.sb (tyq := [(cax, .byte)]) [0] rfl
        have hFc := va_free (wc := (wz_46 h0 aw ac j135_h0_at h0_limit j135_h0_sound h0_codeCount ob h0_openCount aw ab ac aw_typeCount wat wap wag x12 waf aw_hasMemory aw_pagesLeast aw_pagesMost aw_globalCount wgt wft wfv wgc aw_exportCount wek wei wes wez ab ax ab_length ax cax gax)) hD hS hA [21, 22, 23, 24] rfl
        refine va_calll (va_runV (As := [.long x13]) (rest := [.int j135_l3, .ref waf]) ⟨hx, hb, hml, hown, hts⟩ (c_RE_readUnsignedx l dC dI H.size h0 aw ac ob ab wat wap wag waf wgt wft wfv wgc wek wei wes wez ax cax j135_h0_at h0_limit j135_h0_sound h0_codeCount h0_openCount aw_typeCount x12 aw_hasMemory aw_pagesLeast aw_pagesMost aw_globalCount aw_exportCount ab_length gax ((qto j135_l3.toNatClampNeg).toInt.toNat) (b_j135_h0_sound) x13 (by (first | (apply Int.le_antisymm <;> omega) | omega)) (by (first | (apply Int.le_antisymm <;> omega) | omega)) (by (first | (apply Int.le_antisymm <;> omega) | omega)) ((by rw [leb_1 (by (first | (apply Int.le_antisymm <;> omega) | omega))]; exact ⟨m1, trivial⟩)) (by (first | (apply Int.le_antisymm <;> omega) | omega))) (cwV 1 hts (gV kM_RE_64 kV_RE_readUnsigned kS_RE_readUnsigned kI_RE kC_RE_readUnsigned) rfl rfl rfl (by decide +kernel) ⟨Nat.le_of_ble_eq_true rfl, Nat.le_of_ble_eq_true rfl⟩) ⟨fun a U g mk z => by obtain ⟨z0, z1, zP, zK, zD⟩ := z; exact ⟨z0, z1, zP, va_K.moved (u := U) (U := U.calling g mk a) (Vm.Alike.refl U.vm) zK, zD⟩, va_recv hKc hPc (ci := 7) (q0 := 0) rfl rfl, fun U hU hW => ⟨rfl, by rw [hU], va_P.he hU.symm hPc, va_K.moved hW.alike hKc, hDc.weaken (fun _ _ _ _ => trivial)⟩⟩ rfl rfl hl.1 rfl (lv_room (Nat.le_of_ble_eq_true rfl)) d_RE_readSection_158 ⟨(Nat.zero_le _), (Nat.zero_le _)⟩) hS (fun q _ h => hFc q h) hFc (fun r14 u t H1 locs ht hvm hw hB hz1 hk1 hS => ?_)
        obtain ⟨n15, n16⟩ := u
        try dsimp only at hw
        obtain ⟨bn16, xr14⟩ := hw
        try clear hw
        have tn16 := b01 bn16
        obtain ⟨hP1, hK1, hD1⟩ := hB
        replace hP1 := va_P.he ht hP1
        obtain ⟨hP, hD⟩ := va_join (wr := (wz_247 ac cfi clk clt ac_length cop cva cpt cel ac_labelCount cla ob cob gob waf cwaf j135_waf wat cwat gwat wap cwap gwap wag cwag gwag wgt cwgt gwgt wft cwft gwft wfv cwfv gwfv wgc cwgc gwgc wek cwek gwek wei cwei gwei wes cwes gwes wez cwez gwez cfi ccfi gcfi clk cclk gclk clt cclt gclt cop ccop gcop cva ccva gcva cpt ccpt gcpt cel ccel gcel)) (w1 := (wz_46 h0 aw ac n15 h0_limit n16 h0_codeCount ob h0_openCount aw ab ac aw_typeCount wat wap wag x12 waf aw_hasMemory aw_pagesLeast aw_pagesMost aw_globalCount wgt wft wfv wgc aw_exportCount wek wei wes wez ab ax ab_length ax cax gax)) hP hD [21, 22, 23, 24] [0, 1, 2, 3, 4, 5, 6, 7, 8, 9, 10, 11, 12, 13, 14, 15, 16, 17, 18, 19, 20] rfl rfl (by decide) (by decide) hk1 hFc hP1 hD1
        clear hPc hDc hKc hFc hz1 hk1 hP1 hK1 hD1
        rename Heap => H
        have hP : va_P (dC, dI) cls (wz_248 ac cfi clk clt ac_length cop cva cpt cel ac_labelCount cla ob cob gob waf cwaf j135_waf wat cwat gwat wap cwap gwap wag cwag gwag wgt cwgt gwgt wft cwft gwft wfv cwfv gwfv wgc cwgc gwgc wek cwek gwek wei cwei gwei wes cwes gwes wez cwez gwez cfi ccfi gcfi clk cclk gclk clt cclt gclt cop ccop gcop cva ccva gcva cpt ccpt gcpt cel ccel gcel h0 aw ac n15 h0_limit n16 h0_codeCount ob h0_openCount aw ab ac aw_typeCount wat wap wag x12 waf aw_hasMemory aw_pagesLeast aw_pagesMost aw_globalCount wgt wft wfv wgc aw_exportCount wek wei wes wez ab ax ab_length ax cax gax) H := hP
        have hD : va_D A (wz_248 ac cfi clk clt ac_length cop cva cpt cel ac_labelCount cla ob cob gob waf cwaf j135_waf wat cwat gwat wap cwap gwap wag cwag gwag wgt cwgt gwgt wft cwft gwft wfv cwfv gwfv wgc cwgc gwgc wek cwek gwek wei cwei gwei wes cwes gwes wez cwez gwez cfi ccfi gcfi clk cclk gclk clt cclt gclt cop ccop gcop cva ccva gcva cpt ccpt gcpt cel ccel gcel h0 aw ac n15 h0_limit n16 h0_codeCount ob h0_openCount aw ab ac aw_typeCount wat wap wag x12 waf aw_hasMemory aw_pagesLeast aw_pagesMost aw_globalCount wgt wft wfv wgc aw_exportCount wek wei wes wez ab ax ab_length ax cax gax) := hD
        refine lv_l2i hx hb d_RE_readSection_161 rfl ?_
        refine lv_topi (fun x17 ex17 => ?_)
        have tx17 := l2i_t ex17 (by (first | (apply Int.le_antisymm <;> omega) | omega)) (by (first | (apply Int.le_antisymm <;> omega) | omega))
        have g162 : vp_in j135_l3 30 := vp_in_iff.mpr ⟨by (first | (apply Int.le_antisymm <;> omega) | omega), by (first | (apply Int.le_antisymm <;> omega) | omega)⟩
        refine va_iast hx hb hK hP hD hS 2 2 rfl rfl g162 d_RE_readSection_162 (fun H locs hP hD hS => ?_)
        generalize ef18 : upd j135_waf j135_l3.toNatClampNeg x17 = f18 at hP hD
        obtain ⟨x19, ex19⟩ : ∃ z : Int32, z = j135_l3 + 1 := ⟨_, rfl⟩
        have tx19 : x19.toInt = j135_l3.toInt + 1 := by have z := i32_add ex19 (by (first | (apply Int.le_antisymm <;> omega) | omega)) (by (first | (apply Int.le_antisymm <;> omega) | omega)); first | exact z | (first | (apply Int.le_antisymm <;> omega) | omega)
        refine lv_iinc (v := x19) (lv' := [(3, .int x19), (0, .ref h0)]) hx hb d_RE_readSection_163 hl (k := 1) rfl (by rw [ex19]; rfl) (by decide) rfl (fun ls hl => ?_)
        refine lv_goto (tgt := 135) hx hb d_RE_readSection_166 (by decide) ?_
        exact ih135 (x19, f18, n15, n16) _ _ _ (by show ((qn : Int) - x19.toInt).toNat < N135; (first | (apply Int.le_antisymm <;> omega) | omega)) ⟨by (try dsimp only) <;> (first | (apply Int.le_antisymm <;> omega) | omega), bn16, by (try dsimp only) <;> (first | (apply Int.le_antisymm <;> omega) | omega), (by rw [show x19.toNatClampNeg = j135_l3.toNatClampNeg + 1 from clampN (by (first | (apply Int.le_antisymm <;> omega) | omega))]; exact bq_at m2.out (by have := i32_clamp (x := n15) (by (first | (apply Int.le_antisymm <;> omega) | omega)); (first | (apply Int.le_antisymm <;> omega) | omega))), fun t z => by rw [← ef18]; by_cases q : t = j135_l3.toNatClampNeg; (subst q; rw [pk_us]; (first | (apply Int.le_antisymm <;> omega) | omega)); (rw [pk_un q]; exact v3 t (by (first | (apply Int.le_antisymm <;> omega) | omega))), hP, hD, hS, lv_sub hl [1, 0] rfl⟩
    · skip
      by_cases g1_172 : p0.toInt = 5
      · have ho1 : tab_off 235 0 10 #[59, 110, 235, 117, 235, 171, 178, 185, 235, 235, 192] p0.toInt = 171 := by rw [g1_172]; rfl
        refine lv_tab (tgt := 172) hx hb d_RE_readSection_1 (by decide) ho1 (by decide) ?_
        clear ho1
        have kk : p0.toInt = 5 := by (first | (apply Int.le_antisymm <;> omega) | omega)
        have z9 := i32_clamp (x := h0_at) (by (first | (apply Int.le_antisymm <;> omega) | omega))
        have hq := h5.out kk
        subst hq
        rw [show ([1, 1, 1, 2] : List Nat).length = 4 from rfl] at hlm
        refine lv_aload_n hx hb d_RE_readSection_172 rfl (lv_at hl 0 rfl) ?_
        have hPc := hP.sb (wq := (wz_46 h0 aw ac h0_at h0_limit h0_sound h0_codeCount ob h0_openCount aw ab ac aw_typeCount wat wap wag aw_functionCount waf aw_hasMemory aw_pagesLeast aw_pagesMost aw_globalCount wgt wft wfv wgc aw_exportCount wek wei wes wez ab ax ab_length ax cax gax)) [0, 1, 2, 4] rfl
        have hDc := hD.sb (wq := (wz_46 h0 aw ac h0_at h0_limit h0_sound h0_codeCount ob h0_openCount aw ab ac aw_typeCount wat wap wag aw_functionCount waf aw_hasMemory aw_pagesLeast aw_pagesMost aw_globalCount wgt wft wfv wgc aw_exportCount wek wei wes wez ab ax ab_length ax cax gax)) [0, 1, 2, 4] (by decide) rfl
        have hKc := hK.sb (tyq := [(cax, .byte)]) [0] rfl
        have hFc := va_free (wc := (wz_46 h0 aw ac h0_at h0_limit h0_sound h0_codeCount ob h0_openCount aw ab ac aw_typeCount wat wap wag aw_functionCount waf aw_hasMemory aw_pagesLeast aw_pagesMost aw_globalCount wgt wft wfv wgc aw_exportCount wek wei wes wez ab ax ab_length ax cax gax)) hD hS hA [0, 1, 2, 4] rfl
        refine va_callv (va_runV (As := []) (rest := []) ⟨hx, hb, hml, hown, hts⟩ (c_RE_readMemoryx l dC dI H.size h0 aw ac ob ab wat wap wag waf wgt wft wfv wgc wek wei wes wez ax cax h0_at h0_limit h0_sound h0_codeCount h0_openCount aw_typeCount aw_functionCount aw_hasMemory aw_pagesLeast aw_pagesMost aw_globalCount aw_exportCount ab_length gax (b_h0_sound) (b_aw_hasMemory) (by (first | (apply Int.le_antisymm <;> omega) | omega)) (by (first | (apply Int.le_antisymm <;> omega) | omega)) (hbq) (by (first | (apply Int.le_antisymm <;> omega) | omega))) (cwV 0 hts (gV kM_RE_84 kV_RE_readMemory kS_RE_readMemory kI_RE kC_RE_readMemory) rfl rfl rfl (by decide +kernel) ⟨Nat.le_of_ble_eq_true rfl, Nat.le_of_ble_eq_true rfl⟩) ⟨fun a U g mk z => by obtain ⟨z0, z1, zP, zK, zD⟩ := z; exact ⟨z0, z1, zP, va_K.moved (u := U) (U := U.calling g mk a) (Vm.Alike.refl U.vm) zK, zD⟩, va_recv hKc hPc (ci := 7) (q0 := 0) rfl rfl, fun U hU hW => ⟨rfl, by rw [hU], va_P.he hU.symm hPc, va_K.moved hW.alike hKc, hDc.weaken (fun _ _ _ _ => trivial)⟩⟩ rfl rfl hl.1 rfl (lv_room (Nat.le_of_ble_eq_true rfl)) d_RE_readSection_173 ⟨(Nat.zero_le _), (Nat.zero_le _)⟩) hS (fun q _ h => hFc q h) hFc (fun u t H1 locs ht hvm hw hB hz1 hk1 hS => ?_)
        obtain ⟨n21, n22, n23, n24, n25⟩ := u
        try dsimp only at hw
        obtain ⟨bn21, bn25, xr20⟩ := hw
        try clear hw
        have tn21 := b01 bn21
        have tn25 := b01 bn25
        obtain ⟨hP1, hK1, hD1⟩ := hB
        replace hP1 := va_P.he ht hP1
        obtain ⟨hP, hD⟩ := va_join (wr := (wz_247 ac cfi clk clt ac_length cop cva cpt cel ac_labelCount cla ob cob gob waf cwaf gwaf wat cwat gwat wap cwap gwap wag cwag gwag wgt cwgt gwgt wft cwft gwft wfv cwfv gwfv wgc cwgc gwgc wek cwek gwek wei cwei gwei wes cwes gwes wez cwez gwez cfi ccfi gcfi clk cclk gclk clt cclt gclt cop ccop gcop cva ccva gcva cpt ccpt gcpt cel ccel gcel)) (w1 := (wz_46 h0 aw ac n24 h0_limit n25 h0_codeCount ob h0_openCount aw ab ac aw_typeCount wat wap wag aw_functionCount waf n21 n22 n23 aw_globalCount wgt wft wfv wgc aw_exportCount wek wei wes wez ab ax ab_length ax cax gax)) hP hD [0, 1, 2, 4] [3, 5, 6, 7, 8, 9, 10, 11, 12, 13, 14, 15, 16, 17, 18, 19, 20, 21, 22, 23, 24] rfl rfl (by decide) (by decide) hk1 hFc hP1 hD1
        clear hPc hDc hKc hFc hz1 hk1 hP1 hK1 hD1
        rename Heap => H
        have hP : va_P (dC, dI) cls (wz_248 ac cfi clk clt ac_length cop cva cpt cel ac_labelCount cla ob cob gob waf cwaf gwaf wat cwat gwat wap cwap gwap wag cwag gwag wgt cwgt gwgt wft cwft gwft wfv cwfv gwfv wgc cwgc gwgc wek cwek gwek wei cwei gwei wes cwes gwes wez cwez gwez cfi ccfi gcfi clk cclk gclk clt cclt gclt cop ccop gcop cva ccva gcva cpt ccpt gcpt cel ccel gcel h0 aw ac n24 h0_limit n25 h0_codeCount ob h0_openCount aw ab ac aw_typeCount wat wap wag aw_functionCount waf n21 n22 n23 aw_globalCount wgt wft wfv wgc aw_exportCount wek wei wes wez ab ax ab_length ax cax gax) H := hP
        have hD : va_D A (wz_248 ac cfi clk clt ac_length cop cva cpt cel ac_labelCount cla ob cob gob waf cwaf gwaf wat cwat gwat wap cwap gwap wag cwag gwag wgt cwgt gwgt wft cwft gwft wfv cwfv gwfv wgc cwgc gwgc wek cwek gwek wei cwei gwei wes cwes gwes wez cwez gwez cfi ccfi gcfi clk cclk gclk clt cclt gclt cop ccop gcop cva ccva gcva cpt ccpt gcpt cel ccel gcel h0 aw ac n24 h0_limit n25 h0_codeCount ob h0_openCount aw ab ac aw_typeCount wat wap wag aw_functionCount waf n21 n22 n23 aw_globalCount wgt wft wfv wgc aw_exportCount wek wei wes wez ab ax ab_length ax cax gax) := hD
        refine lv_goto (tgt := 241) hx hb d_RE_readSection_176 (by decide) ?_
        have hP9 := hP.sb (wq := (wz_246 h0 aw ac n24 h0_limit n25 h0_codeCount ob h0_openCount aw ab ac aw_typeCount wat wap wag aw_functionCount waf n21 n22 n23 aw_globalCount wgt wft wfv wgc aw_exportCount wek wei wes wez ab ax ab_length ac cfi clk clt ac_length cop cva cpt cel ac_labelCount cla ax cax gax ob cob gob waf cwaf gwaf wat cwat gwat wap cwap gwap wag cwag gwag wgt cwgt gwgt wft cwft gwft wfv cwfv gwfv wgc cwgc gwgc wek cwek gwek wei cwei gwei wes cwes gwes wez cwez gwez cfi ccfi gcfi clk cclk gclk clt cclt gclt cop ccop gcop cva ccva gcva cpt ccpt gcpt cel ccel gcel)) [21, 22, 23, 0, 24, 1, 2, 3, 4, 5, 6, 7, 8, 9, 10, 11, 12, 13, 14, 15, 16, 17, 18, 19, 20] rfl
        have hD9 := hD.sb (wq := (wz_246 h0 aw ac n24 h0_limit n25 h0_codeCount ob h0_openCount aw ab ac aw_typeCount wat wap wag aw_functionCount waf n21 n22 n23 aw_globalCount wgt wft wfv wgc aw_exportCount wek wei wes wez ab ax ab_length ac cfi clk clt ac_length cop cva cpt cel ac_labelCount cla ax cax gax ob cob gob waf cwaf gwaf wat cwat gwat wap cwap gwap wag cwag gwag wgt cwgt gwgt wft cwft gwft wfv cwfv gwfv wgc cwgc gwgc wek cwek gwek wei cwei gwei wes cwes gwes wez cwez gwez cfi ccfi gcfi clk cclk gclk clt cclt gclt cop ccop gcop cva ccva gcva cpt ccpt gcpt cel ccel gcel)) [21, 22, 23, 0, 24, 1, 2, 3, 4, 5, 6, 7, 8, 9, 10, 11, 12, 13, 14, 15, 16, 17, 18, 19, 20] (by decide) rfl
        exact W.vret hx hb hr (fun t ht hW => ⟨⟨(gcel, gcfi, gclk, gclt, gcop, gcpt, gcva, gob, gwaf, gwag, gwap, gwat, gwei, gwek, gwes, gwez, gwft, gwfv, gwgc, gwgt, ac_length, aw_exportCount, aw_functionCount, aw_globalCount, n21, n22, n23, aw_typeCount, n24, h0_codeCount, h0_limit, h0_openCount, n25), rfl, ⟨b_ac_length, b_aw_exportCount, b_aw_functionCount, b_aw_globalCount, bn21, b_aw_typeCount, b_h0_codeCount, b_h0_openCount, bn25, ⟨by have := xr20.1; (try dsimp only) <;> (first | (apply Int.le_antisymm <;> omega) | omega), by (try dsimp only) <;> (first | (apply Int.le_antisymm <;> omega) | omega), xr20.2.1, hel.out, ⟨fun z => absurd z (by (first | (apply Int.le_antisymm <;> omega) | omega)), fun _ => ⟨rfl, rfl, rfl, rfl⟩⟩, ⟨fun z => absurd z (by (first | (apply Int.le_antisymm <;> omega) | omega)), fun _ => ⟨rfl, rfl⟩⟩, ⟨fun _ => ⟨xr20.2.2.1, xr20.2.2.2.1, xr20.2.2.2.2⟩, fun z => absurd kk z⟩, ⟨fun z => absurd z (by (first | (apply Int.le_antisymm <;> omega) | omega)), fun _ => ⟨rfl, rfl⟩⟩, ⟨fun z => absurd z (by (first | (apply Int.le_antisymm <;> omega) | omega)), fun _ => ⟨rfl, rfl⟩⟩, ⟨fun z => absurd z (by (first | (apply Int.le_antisymm <;> omega) | omega)), fun _ => ⟨rfl, rfl, rfl, rfl, rfl, rfl, rfl, rfl, rfl⟩⟩⟩⟩, va_P.he ht.symm hP9, va_K.moved hW.alike hK, hD9⟩, hS.F ht⟩) hS.2.2 d_RE_readSection_241
      · skip
        by_cases g1_179 : p0.toInt = 6
        · have ho1 : tab_off 235 0 10 #[59, 110, 235, 117, 235, 171, 178, 185, 235, 235, 192] p0.toInt = 178 := by rw [g1_179]; rfl
          refine lv_tab (tgt := 179) hx hb d_RE_readSection_1 (by decide) ho1 (by decide) ?_
          clear ho1
          have kk : p0.toInt = 6 := by (first | (apply Int.le_antisymm <;> omega) | omega)
          have z9 := i32_clamp (x := h0_at) (by (first | (apply Int.le_antisymm <;> omega) | omega))
          have hq := h6.out kk
          obtain ⟨j1, j2, j3⟩ := hq
          subst j1
          rw [List.length_cons] at hlm
          refine lv_aload_n hx hb d_RE_readSection_179 rfl (lv_at hl 0 rfl) ?_
          have hPc := hP.sb (wq := (wz_55 h0 aw ac h0_at h0_limit h0_sound h0_codeCount ob h0_openCount aw ab ac aw_typeCount wat wap wag aw_functionCount waf aw_hasMemory aw_pagesLeast aw_pagesMost aw_globalCount wgt wft wfv wgc aw_exportCount wek wei wes wez ab ax ab_length ax cax gax wgt cwgt gwgt wft cwft gwft wfv cwfv gwfv wgc cwgc gwgc)) [0, 1, 2, 4, 10, 11, 12, 13] rfl
          have hDc := hD.sb (wq := (wz_55 h0 aw ac h0_at h0_limit h0_sound h0_codeCount ob h0_openCount aw ab ac aw_typeCount wat wap wag aw_functionCount waf aw_hasMemory aw_pagesLeast aw_pagesMost aw_globalCount wgt wft wfv wgc aw_exportCount wek wei wes wez ab ax ab_length ax cax gax wgt cwgt gwgt wft cwft gwft wfv cwfv gwfv wgc cwgc gwgc)) [0, 1, 2, 4, 10, 11, 12, 13] (by decide) rfl
          have hKc := hK.sb (tyq := [(cax, .byte), (cwgt, .int), (cwft, .int), (cwfv, .long), (cwgc, .boolean)]) [0, 6, 7, 8, 9] rfl
          have hFc := va_free (wc := (wz_55 h0 aw ac h0_at h0_limit h0_sound h0_codeCount ob h0_openCount aw ab ac aw_typeCount wat wap wag aw_functionCount waf aw_hasMemory aw_pagesLeast aw_pagesMost aw_globalCount wgt wft wfv wgc aw_exportCount wek wei wes wez ab ax ab_length ax cax gax wgt cwgt gwgt wft cwft gwft wfv cwfv gwfv wgc cwgc gwgc)) hD hS hA [0, 1, 2, 4, 10, 11, 12, 13] rfl
          refine va_callv (va_runV (As := []) (rest := []) ⟨hx, hb, hml, hown, hts⟩ (c_RE_readGlobalsx l dC dI H.size h0 aw ac ob ab wat wap wag waf wgt wft wfv wgc wek wei wes wez ax cax cwgt cwft cwfv cwgc h0_at h0_limit h0_sound h0_codeCount h0_openCount aw_typeCount aw_functionCount aw_hasMemory aw_pagesLeast aw_pagesMost aw_globalCount aw_exportCount ab_length gax gwgt gwft gwfv gwgc qG (b_h0_sound) (b_aw_globalCount) (by (first | (apply Int.le_antisymm <;> omega) | omega)) (by (first | (apply Int.le_antisymm <;> omega) | omega)) (j2) (j3) (hbq) (by (first | (apply Int.le_antisymm <;> omega) | omega))) (cwV 0 hts (gV kM_RE_87 kV_RE_readGlobals kS_RE_readGlobals kI_RE kC_RE_readGlobals) rfl rfl rfl (by decide +kernel) ⟨Nat.le_of_ble_eq_true rfl, Nat.le_of_ble_eq_true rfl⟩) ⟨fun a U g mk z => by obtain ⟨z0, z1, zP, zK, zD⟩ := z; exact ⟨z0, z1, zP, va_K.moved (u := U) (U := U.calling g mk a) (Vm.Alike.refl U.vm) zK, zD⟩, va_recv hKc hPc (ci := 7) (q0 := 0) rfl rfl, fun U hU hW => ⟨rfl, by rw [hU], va_P.he hU.symm hPc, va_K.moved hW.alike hKc, hDc.weaken (fun _ _ _ _ => trivial)⟩⟩ rfl rfl hl.1 rfl (lv_room (Nat.le_of_ble_eq_true rfl)) d_RE_readSection_180 ⟨(Nat.zero_le _), (Nat.zero_le _)⟩) hS (fun q _ h => hFc q h) hFc (fun u t H1 locs ht hvm hw hB hz1 hk1 hS => ?_)
          obtain ⟨n27, n28, n29, n30, n31, n32, n33⟩ := u
          try dsimp only at hw
          obtain ⟨bn31, bn33, xr26⟩ := hw
          try clear hw
          have tn33 := b01 bn33
          obtain ⟨hP1, hK1, hD1⟩ := hB
          replace hP1 := va_P.he ht hP1
          obtain ⟨hP, hD⟩ := va_join (wr := [(ac, .inr (3, [.ref cfi, .ref clk, .ref clt, .int ac_length, .ref cop, .ref cva, .ref cpt, .ref cel, .int ac_labelCount, .ref cla])), (ob, .inl (cob, 100, .inl gob)), (waf, .inl (cwaf, 30, .inl gwaf)), (wat, .inl (cwat, 20, .inl gwat)), (wap, .inl (cwap, 160, .inl gwap)), (wag, .inl (cwag, 20, .inl gwag)), (wek, .inl (cwek, 40, .inl gwek)), (wei, .inl (cwei, 40, .inl gwei)), (wes, .inl (cwes, 40, .inl gwes)), (wez, .inl (cwez, 40, .inl gwez)), (cfi, .inl (ccfi, 31, .inl gcfi)), (clk, .inl (cclk, 30, .inl gclk)), (clt, .inl (cclt, 1800, .inl gclt)), (cop, .inl (ccop, 5000, .inl gcop)), (cva, .inl (ccva, 5000, .inr (.inl gcva))), (cpt, .inl (ccpt, 5000, .inl gcpt)), (cel, .inl (ccel, 5000, .inl gcel))]) (w1 := (wz_55 h0 aw ac n32 h0_limit n33 h0_codeCount ob h0_openCount aw ab ac aw_typeCount wat wap wag aw_functionCount waf aw_hasMemory aw_pagesLeast aw_pagesMost n31 wgt wft wfv wgc aw_exportCount wek wei wes wez ab ax ab_length ax cax gax wgt cwgt n30 wft cwft n27 wfv cwfv n28 wgc cwgc n29)) hP hD [0, 1, 2, 4, 10, 11, 12, 13] [3, 5, 6, 7, 8, 9, 14, 15, 16, 17, 18, 19, 20, 21, 22, 23, 24] rfl rfl (by decide) (by decide) hk1 hFc hP1 hD1
          clear hPc hDc hKc hFc hz1 hk1 hP1 hK1 hD1
          rename Heap => H
          have hP : va_P (dC, dI) cls [(ac, .inr (3, [.ref cfi, .ref clk, .ref clt, .int ac_length, .ref cop, .ref cva, .ref cpt, .ref cel, .int ac_labelCount, .ref cla])), (ob, .inl (cob, 100, .inl gob)), (waf, .inl (cwaf, 30, .inl gwaf)), (wat, .inl (cwat, 20, .inl gwat)), (wap, .inl (cwap, 160, .inl gwap)), (wag, .inl (cwag, 20, .inl gwag)), (wek, .inl (cwek, 40, .inl gwek)), (wei, .inl (cwei, 40, .inl gwei)), (wes, .inl (cwes, 40, .inl gwes)), (wez, .inl (cwez, 40, .inl gwez)), (cfi, .inl (ccfi, 31, .inl gcfi)), (clk, .inl (cclk, 30, .inl gclk)), (clt, .inl (cclt, 1800, .inl gclt)), (cop, .inl (ccop, 5000, .inl gcop)), (cva, .inl (ccva, 5000, .inr (.inl gcva))), (cpt, .inl (ccpt, 5000, .inl gcpt)), (cel, .inl (ccel, 5000, .inl gcel)), (h0, .inr (7, [.ref aw, .ref ac, .int n32, .int h0_limit, .int n33, .int h0_codeCount, .ref ob, .int h0_openCount])), (aw, .inr (10, [.ref ab, .ref ac, .int aw_typeCount, .ref wat, .ref wap, .ref wag, .int aw_functionCount, .ref waf, .int aw_hasMemory, .long aw_pagesLeast, .long aw_pagesMost, .int n31, .ref wgt, .ref wft, .ref wfv, .ref wgc, .int aw_exportCount, .ref wek, .ref wei, .ref wes, .ref wez])), (ab, .inr (1, [.ref ax, .int ab_length])), (ax, .inl (cax, 8192, .inl gax)), (wgt, .inl (cwgt, 20, .inl n30)), (wft, .inl (cwft, 20, .inl n27)), (wfv, .inl (cwfv, 20, .inr (.inl n28))), (wgc, .inl (cwgc, 20, .inl n29))] H := hP
          have hD : va_D A [(ac, .inr (3, [.ref cfi, .ref clk, .ref clt, .int ac_length, .ref cop, .ref cva, .ref cpt, .ref cel, .int ac_labelCount, .ref cla])), (ob, .inl (cob, 100, .inl gob)), (waf, .inl (cwaf, 30, .inl gwaf)), (wat, .inl (cwat, 20, .inl gwat)), (wap, .inl (cwap, 160, .inl gwap)), (wag, .inl (cwag, 20, .inl gwag)), (wek, .inl (cwek, 40, .inl gwek)), (wei, .inl (cwei, 40, .inl gwei)), (wes, .inl (cwes, 40, .inl gwes)), (wez, .inl (cwez, 40, .inl gwez)), (cfi, .inl (ccfi, 31, .inl gcfi)), (clk, .inl (cclk, 30, .inl gclk)), (clt, .inl (cclt, 1800, .inl gclt)), (cop, .inl (ccop, 5000, .inl gcop)), (cva, .inl (ccva, 5000, .inr (.inl gcva))), (cpt, .inl (ccpt, 5000, .inl gcpt)), (cel, .inl (ccel, 5000, .inl gcel)), (h0, .inr (7, [.ref aw, .ref ac, .int n32, .int h0_limit, .int n33, .int h0_codeCount, .ref ob, .int h0_openCount])), (aw, .inr (10, [.ref ab, .ref ac, .int aw_typeCount, .ref wat, .ref wap, .ref wag, .int aw_functionCount, .ref waf, .int aw_hasMemory, .long aw_pagesLeast, .long aw_pagesMost, .int n31, .ref wgt, .ref wft, .ref wfv, .ref wgc, .int aw_exportCount, .ref wek, .ref wei, .ref wes, .ref wez])), (ab, .inr (1, [.ref ax, .int ab_length])), (ax, .inl (cax, 8192, .inl gax)), (wgt, .inl (cwgt, 20, .inl n30)), (wft, .inl (cwft, 20, .inl n27)), (wfv, .inl (cwfv, 20, .inr (.inl n28))), (wgc, .inl (cwgc, 20, .inl n29))] := hD
          refine lv_goto (tgt := 241) hx hb d_RE_readSection_183 (by decide) ?_
          have hP9 := hP.sb (wq := (wz_246 h0 aw ac n32 h0_limit n33 h0_codeCount ob h0_openCount aw ab ac aw_typeCount wat wap wag aw_functionCount waf aw_hasMemory aw_pagesLeast aw_pagesMost n31 wgt wft wfv wgc aw_exportCount wek wei wes wez ab ax ab_length ac cfi clk clt ac_length cop cva cpt cel ac_labelCount cla ax cax gax ob cob gob waf cwaf gwaf wat cwat gwat wap cwap gwap wag cwag gwag wgt cwgt n30 wft cwft n27 wfv cwfv n28 wgc cwgc n29 wek cwek gwek wei cwei gwei wes cwes gwes wez cwez gwez cfi ccfi gcfi clk cclk gclk clt cclt gclt cop ccop gcop cva ccva gcva cpt ccpt gcpt cel ccel gcel)) [17, 18, 19, 0, 20, 1, 2, 3, 4, 5, 21, 22, 23, 24, 6, 7, 8, 9, 10, 11, 12, 13, 14, 15, 16] rfl
          have hD9 := hD.sb (wq := (wz_246 h0 aw ac n32 h0_limit n33 h0_codeCount ob h0_openCount aw ab ac aw_typeCount wat wap wag aw_functionCount waf aw_hasMemory aw_pagesLeast aw_pagesMost n31 wgt wft wfv wgc aw_exportCount wek wei wes wez ab ax ab_length ac cfi clk clt ac_length cop cva cpt cel ac_labelCount cla ax cax gax ob cob gob waf cwaf gwaf wat cwat gwat wap cwap gwap wag cwag gwag wgt cwgt n30 wft cwft n27 wfv cwfv n28 wgc cwgc n29 wek cwek gwek wei cwei gwei wes cwes gwes wez cwez gwez cfi ccfi gcfi clk cclk gclk clt cclt gclt cop ccop gcop cva ccva gcva cpt ccpt gcpt cel ccel gcel)) [17, 18, 19, 0, 20, 1, 2, 3, 4, 5, 21, 22, 23, 24, 6, 7, 8, 9, 10, 11, 12, 13, 14, 15, 16] (by decide) rfl
          exact W.vret hx hb hr (fun t ht hW => ⟨⟨(gcel, gcfi, gclk, gclt, gcop, gcpt, gcva, gob, gwaf, gwag, gwap, gwat, gwei, gwek, gwes, gwez, n27, n28, n29, n30, ac_length, aw_exportCount, aw_functionCount, n31, aw_hasMemory, aw_pagesLeast, aw_pagesMost, aw_typeCount, n32, h0_codeCount, h0_limit, h0_openCount, n33), rfl, ⟨b_ac_length, b_aw_exportCount, b_aw_functionCount, bn31, b_aw_hasMemory, b_aw_typeCount, b_h0_codeCount, b_h0_openCount, bn33, ⟨by have := xr26.1; (try dsimp only) <;> (first | (apply Int.le_antisymm <;> omega) | omega), by (try dsimp only) <;> (first | (apply Int.le_antisymm <;> omega) | omega), xr26.2.1, hel.out, ⟨fun z => absurd z (by (first | (apply Int.le_antisymm <;> omega) | omega)), fun _ => ⟨rfl, rfl, rfl, rfl⟩⟩, ⟨fun z => absurd z (by (first | (apply Int.le_antisymm <;> omega) | omega)), fun _ => ⟨rfl, rfl⟩⟩, ⟨fun z => absurd z (by (first | (apply Int.le_antisymm <;> omega) | omega)), fun _ => ⟨rfl, rfl, rfl⟩⟩, ⟨fun _ => ⟨xr26.2.2.1, xr26.2.2.2⟩, fun z => absurd kk z⟩, ⟨fun z => absurd z (by (first | (apply Int.le_antisymm <;> omega) | omega)), fun _ => ⟨rfl, rfl⟩⟩, ⟨fun z => absurd z (by (first | (apply Int.le_antisymm <;> omega) | omega)), fun _ => ⟨rfl, rfl, rfl, rfl, rfl, rfl, rfl, rfl, rfl⟩⟩⟩⟩, va_P.he ht.symm hP9, va_K.moved hW.alike hK, hD9⟩, hS.F ht⟩) hS.2.2 d_RE_readSection_241
        · skip
          by_cases g1_186 : p0.toInt = 7
          · have ho1 : tab_off 235 0 10 #[59, 110, 235, 117, 235, 171, 178, 185, 235, 235, 192] p0.toInt = 185 := by rw [g1_186]; rfl
            refine lv_tab (tgt := 186) hx hb d_RE_readSection_1 (by decide) ho1 (by decide) ?_
            clear ho1
            have kk : p0.toInt = 7 := by (first | (apply Int.le_antisymm <;> omega) | omega)
            have z9 := i32_clamp (x := h0_at) (by (first | (apply Int.le_antisymm <;> omega) | omega))
            have hq := h7.out kk
            obtain ⟨j1, j2, j3⟩ := hq
            subst j1
            rw [List.length_cons] at hlm
            refine lv_aload_n hx hb d_RE_readSection_186 rfl (lv_at hl 0 rfl) ?_
            have hPc := hP.sb (wq := (wz_58 h0 aw ac h0_at h0_limit h0_sound h0_codeCount ob h0_openCount aw ab ac aw_typeCount wat wap wag aw_functionCount waf aw_hasMemory aw_pagesLeast aw_pagesMost aw_globalCount wgt wft wfv wgc aw_exportCount wek wei wes wez ab ax ab_length ax cax gax wek cwek gwek wei cwei gwei wes cwes gwes wez cwez gwez)) [0, 1, 2, 4, 14, 15, 16, 17] rfl
            have hDc := hD.sb (wq := (wz_58 h0 aw ac h0_at h0_limit h0_sound h0_codeCount ob h0_openCount aw ab ac aw_typeCount wat wap wag aw_functionCount waf aw_hasMemory aw_pagesLeast aw_pagesMost aw_globalCount wgt wft wfv wgc aw_exportCount wek wei wes wez ab ax ab_length ax cax gax wek cwek gwek wei cwei gwei wes cwes gwes wez cwez gwez)) [0, 1, 2, 4, 14, 15, 16, 17] (by decide) rfl
            have hKc := hK.sb (tyq := [(cax, .byte), (cwek, .int), (cwei, .int), (cwes, .int), (cwez, .int)]) [0, 10, 11, 12, 13] rfl
            have hFc := va_free (wc := (wz_58 h0 aw ac h0_at h0_limit h0_sound h0_codeCount ob h0_openCount aw ab ac aw_typeCount wat wap wag aw_functionCount waf aw_hasMemory aw_pagesLeast aw_pagesMost aw_globalCount wgt wft wfv wgc aw_exportCount wek wei wes wez ab ax ab_length ax cax gax wek cwek gwek wei cwei gwei wes cwes gwes wez cwez gwez)) hD hS hA [0, 1, 2, 4, 14, 15, 16, 17] rfl
            refine va_callv (va_runV (As := []) (rest := []) ⟨hx, hb, hml, hown, hts⟩ (c_RE_readExportsx l dC dI H.size h0 aw ac ob ab wat wap wag waf wgt wft wfv wgc wek wei wes wez ax cax cwek cwei cwes cwez h0_at h0_limit h0_sound h0_codeCount h0_openCount aw_typeCount aw_functionCount aw_hasMemory aw_pagesLeast aw_pagesMost aw_globalCount aw_exportCount ab_length gax gwek gwei gwes gwez qX (b_h0_sound) (b_aw_exportCount) (by (first | (apply Int.le_antisymm <;> omega) | omega)) (by (first | (apply Int.le_antisymm <;> omega) | omega)) (j2) (j3) (hbq) (by (first | (apply Int.le_antisymm <;> omega) | omega))) (cwV 0 hts (gV kM_RE_90 kV_RE_readExports kS_RE_readExports kI_RE kC_RE_readExports) rfl rfl rfl (by decide +kernel) ⟨Nat.le_of_ble_eq_true rfl, Nat.le_of_ble_eq_true rfl⟩) ⟨fun a U g mk z => by obtain ⟨z0, z1, zP, zK, zD⟩ := z; exact ⟨z0, z1, zP, va_K.moved (u := U) (U := U.calling g mk a) (Vm.Alike.refl U.vm) zK, zD⟩, va_recv hKc hPc (ci := 7) (q0 := 0) rfl rfl, fun U hU hW => ⟨rfl, by rw [hU], va_P.he hU.symm hPc, va_K.moved hW.alike hKc, hDc.weaken (fun _ _ _ _ => trivial)⟩⟩ rfl rfl hl.1 rfl (lv_room (Nat.le_of_ble_eq_true rfl)) d_RE_readSection_187 ⟨(Nat.zero_le _), (Nat.zero_le _)⟩) hS (fun q _ h => hFc q h) hFc (fun u t H1 locs ht hvm hw hB hz1 hk1 hS => ?_)
            obtain ⟨n35, n36, n37, n38, n39, n40, n41⟩ := u
            try dsimp only at hw
            obtain ⟨bn39, bn41, xr34⟩ := hw
            try clear hw
            have tn41 := b01 bn41
            obtain ⟨hP1, hK1, hD1⟩ := hB
            replace hP1 := va_P.he ht hP1
            obtain ⟨hP, hD⟩ := va_join (wr := [(ac, .inr (3, [.ref cfi, .ref clk, .ref clt, .int ac_length, .ref cop, .ref cva, .ref cpt, .ref cel, .int ac_labelCount, .ref cla])), (ob, .inl (cob, 100, .inl gob)), (waf, .inl (cwaf, 30, .inl gwaf)), (wat, .inl (cwat, 20, .inl gwat)), (wap, .inl (cwap, 160, .inl gwap)), (wag, .inl (cwag, 20, .inl gwag)), (wgt, .inl (cwgt, 20, .inl gwgt)), (wft, .inl (cwft, 20, .inl gwft)), (wfv, .inl (cwfv, 20, .inr (.inl gwfv))), (wgc, .inl (cwgc, 20, .inl gwgc)), (cfi, .inl (ccfi, 31, .inl gcfi)), (clk, .inl (cclk, 30, .inl gclk)), (clt, .inl (cclt, 1800, .inl gclt)), (cop, .inl (ccop, 5000, .inl gcop)), (cva, .inl (ccva, 5000, .inr (.inl gcva))), (cpt, .inl (ccpt, 5000, .inl gcpt)), (cel, .inl (ccel, 5000, .inl gcel))]) (w1 := (wz_58 h0 aw ac n40 h0_limit n41 h0_codeCount ob h0_openCount aw ab ac aw_typeCount wat wap wag aw_functionCount waf aw_hasMemory aw_pagesLeast aw_pagesMost aw_globalCount wgt wft wfv wgc n39 wek wei wes wez ab ax ab_length ax cax gax wek cwek n36 wei cwei n35 wes cwes n37 wez cwez n38)) hP hD [0, 1, 2, 4, 14, 15, 16, 17] [3, 5, 6, 7, 8, 9, 10, 11, 12, 13, 18, 19, 20, 21, 22, 23, 24] rfl rfl (by decide) (by decide) hk1 hFc hP1 hD1
            clear hPc hDc hKc hFc hz1 hk1 hP1 hK1 hD1
            rename Heap => H
            have hP : va_P (dC, dI) cls [(ac, .inr (3, [.ref cfi, .ref clk, .ref clt, .int ac_length, .ref cop, .ref cva, .ref cpt, .ref cel, .int ac_labelCount, .ref cla])), (ob, .inl (cob, 100, .inl gob)), (waf, .inl (cwaf, 30, .inl gwaf)), (wat, .inl (cwat, 20, .inl gwat)), (wap, .inl (cwap, 160, .inl gwap)), (wag, .inl (cwag, 20, .inl gwag)), (wgt, .inl (cwgt, 20, .inl gwgt)), (wft, .inl (cwft, 20, .inl gwft)), (wfv, .inl (cwfv, 20, .inr (.inl gwfv))), (wgc, .inl (cwgc, 20, .inl gwgc)), (cfi, .inl (ccfi, 31, .inl gcfi)), (clk, .inl (cclk, 30, .inl gclk)), (clt, .inl (cclt, 1800, .inl gclt)), (cop, .inl (ccop, 5000, .inl gcop)), (cva, .inl (ccva, 5000, .inr (.inl gcva))), (cpt, .inl (ccpt, 5000, .inl gcpt)), (cel, .inl (ccel, 5000, .inl gcel)), (h0, .inr (7, [.ref aw, .ref ac, .int n40, .int h0_limit, .int n41, .int h0_codeCount, .ref ob, .int h0_openCount])), (aw, .inr (10, [.ref ab, .ref ac, .int aw_typeCount, .ref wat, .ref wap, .ref wag, .int aw_functionCount, .ref waf, .int aw_hasMemory, .long aw_pagesLeast, .long aw_pagesMost, .int aw_globalCount, .ref wgt, .ref wft, .ref wfv, .ref wgc, .int n39, .ref wek, .ref wei, .ref wes, .ref wez])), (ab, .inr (1, [.ref ax, .int ab_length])), (ax, .inl (cax, 8192, .inl gax)), (wek, .inl (cwek, 40, .inl n36)), (wei, .inl (cwei, 40, .inl n35)), (wes, .inl (cwes, 40, .inl n37)), (wez, .inl (cwez, 40, .inl n38))] H := hP
            have hD : va_D A [(ac, .inr (3, [.ref cfi, .ref clk, .ref clt, .int ac_length, .ref cop, .ref cva, .ref cpt, .ref cel, .int ac_labelCount, .ref cla])), (ob, .inl (cob, 100, .inl gob)), (waf, .inl (cwaf, 30, .inl gwaf)), (wat, .inl (cwat, 20, .inl gwat)), (wap, .inl (cwap, 160, .inl gwap)), (wag, .inl (cwag, 20, .inl gwag)), (wgt, .inl (cwgt, 20, .inl gwgt)), (wft, .inl (cwft, 20, .inl gwft)), (wfv, .inl (cwfv, 20, .inr (.inl gwfv))), (wgc, .inl (cwgc, 20, .inl gwgc)), (cfi, .inl (ccfi, 31, .inl gcfi)), (clk, .inl (cclk, 30, .inl gclk)), (clt, .inl (cclt, 1800, .inl gclt)), (cop, .inl (ccop, 5000, .inl gcop)), (cva, .inl (ccva, 5000, .inr (.inl gcva))), (cpt, .inl (ccpt, 5000, .inl gcpt)), (cel, .inl (ccel, 5000, .inl gcel)), (h0, .inr (7, [.ref aw, .ref ac, .int n40, .int h0_limit, .int n41, .int h0_codeCount, .ref ob, .int h0_openCount])), (aw, .inr (10, [.ref ab, .ref ac, .int aw_typeCount, .ref wat, .ref wap, .ref wag, .int aw_functionCount, .ref waf, .int aw_hasMemory, .long aw_pagesLeast, .long aw_pagesMost, .int aw_globalCount, .ref wgt, .ref wft, .ref wfv, .ref wgc, .int n39, .ref wek, .ref wei, .ref wes, .ref wez])), (ab, .inr (1, [.ref ax, .int ab_length])), (ax, .inl (cax, 8192, .inl gax)), (wek, .inl (cwek, 40, .inl n36)), (wei, .inl (cwei, 40, .inl n35)), (wes, .inl (cwes, 40, .inl n37)), (wez, .inl (cwez, 40, .inl n38))] := hD
            refine lv_goto (tgt := 241) hx hb d_RE_readSection_190 (by decide) ?_
            have hP9 := hP.sb (wq := (wz_246 h0 aw ac n40 h0_limit n41 h0_codeCount ob h0_openCount aw ab ac aw_typeCount wat wap wag aw_functionCount waf aw_hasMemory aw_pagesLeast aw_pagesMost aw_globalCount wgt wft wfv wgc n39 wek wei wes wez ab ax ab_length ac cfi clk clt ac_length cop cva cpt cel ac_labelCount cla ax cax gax ob cob gob waf cwaf gwaf wat cwat gwat wap cwap gwap wag cwag gwag wgt cwgt gwgt wft cwft gwft wfv cwfv gwfv wgc cwgc gwgc wek cwek n36 wei cwei n35 wes cwes n37 wez cwez n38 cfi ccfi gcfi clk cclk gclk clt cclt gclt cop ccop gcop cva ccva gcva cpt ccpt gcpt cel ccel gcel)) [17, 18, 19, 0, 20, 1, 2, 3, 4, 5, 6, 7, 8, 9, 21, 22, 23, 24, 10, 11, 12, 13, 14, 15, 16] rfl
            have hD9 := hD.sb (wq := (wz_246 h0 aw ac n40 h0_limit n41 h0_codeCount ob h0_openCount aw ab ac aw_typeCount wat wap wag aw_functionCount waf aw_hasMemory aw_pagesLeast aw_pagesMost aw_globalCount wgt wft wfv wgc n39 wek wei wes wez ab ax ab_length ac cfi clk clt ac_length cop cva cpt cel ac_labelCount cla ax cax gax ob cob gob waf cwaf gwaf wat cwat gwat wap cwap gwap wag cwag gwag wgt cwgt gwgt wft cwft gwft wfv cwfv gwfv wgc cwgc gwgc wek cwek n36 wei cwei n35 wes cwes n37 wez cwez n38 cfi ccfi gcfi clk cclk gclk clt cclt gclt cop ccop gcop cva ccva gcva cpt ccpt gcpt cel ccel gcel)) [17, 18, 19, 0, 20, 1, 2, 3, 4, 5, 6, 7, 8, 9, 21, 22, 23, 24, 10, 11, 12, 13, 14, 15, 16] (by decide) rfl
            exact W.vret hx hb hr (fun t ht hW => ⟨⟨(gcel, gcfi, gclk, gclt, gcop, gcpt, gcva, gob, gwaf, gwag, gwap, gwat, n35, n36, n37, n38, gwft, gwfv, gwgc, gwgt, ac_length, n39, aw_functionCount, aw_globalCount, aw_hasMemory, aw_pagesLeast, aw_pagesMost, aw_typeCount, n40, h0_codeCount, h0_limit, h0_openCount, n41), rfl, ⟨b_ac_length, bn39, b_aw_functionCount, b_aw_globalCount, b_aw_hasMemory, b_aw_typeCount, b_h0_codeCount, b_h0_openCount, bn41, ⟨by have := xr34.1; (try dsimp only) <;> (first | (apply Int.le_antisymm <;> omega) | omega), by (try dsimp only) <;> (first | (apply Int.le_antisymm <;> omega) | omega), xr34.2.1, hel.out, ⟨fun z => absurd z (by (first | (apply Int.le_antisymm <;> omega) | omega)), fun _ => ⟨rfl, rfl, rfl, rfl⟩⟩, ⟨fun z => absurd z (by (first | (apply Int.le_antisymm <;> omega) | omega)), fun _ => ⟨rfl, rfl⟩⟩, ⟨fun z => absurd z (by (first | (apply Int.le_antisymm <;> omega) | omega)), fun _ => ⟨rfl, rfl, rfl⟩⟩, ⟨fun z => absurd z (by (first | (apply Int.le_antisymm <;> omega) | omega)), fun _ => ⟨rfl, rfl⟩⟩, ⟨fun _ => ⟨xr34.2.2.1, xr34.2.2.2⟩, fun z => absurd kk z⟩, ⟨fun z => absurd z (by (first | (apply Int.le_antisymm <;> omega) | omega)), fun _ => ⟨rfl, rfl, rfl, rfl, rfl, rfl, rfl, rfl, rfl⟩⟩⟩⟩, va_P.he ht.symm hP9, va_K.moved hW.alike hK, hD9⟩, hS.F ht⟩) hS.2.2 d_RE_readSection_241
          · skip
            by_cases g1_193 : p0.toInt = 10
            · have ho1 : tab_off 235 0 10 #[59, 110, 235, 117, 235, 171, 178, 185, 235, 235, 192] p0.toInt = 192 := by rw [g1_193]; rfl
              refine lv_tab (tgt := 193) hx hb d_RE_readSection_1 (by decide) ho1 (by decide) ?_
              clear ho1
              have kk : p0.toInt = 10 := by (first | (apply Int.le_antisymm <;> omega) | omega)
              have z9 := i32_clamp (x := h0_at) (by (first | (apply Int.le_antisymm <;> omega) | omega))
              have hq := h10.out kk
              obtain ⟨j1, j2, j3, j4, j5⟩ := hq
              subst j1
              rw [List.length_cons] at hlm
              replace j3 : bx _ := j3
              have ln : (leb 5 qn).length = 1 := by rw [leb_1 (by (first | (apply Int.le_antisymm <;> omega) | omega))]; rfl
              refine lv_aload_n hx hb d_RE_readSection_193 rfl (lv_at hl 0 rfl) ?_
              refine lv_aload_n hx hb d_RE_readSection_194 rfl (lv_at hl 0 rfl) ?_
              refine lv_ldc2 hx hb hown (hts _ kL_RE_77) d_RE_readSection_195 ?_
              refine lv_topl (fun x42 ex42 => ?_)
              have tx42 : x42.toInt = 30 := by rw [ex42]; decide
              have hPc := hP.sb (wq := (wz_46 h0 aw ac h0_at h0_limit h0_sound h0_codeCount ob h0_openCount aw ab ac aw_typeCount wat wap wag aw_functionCount waf aw_hasMemory aw_pagesLeast aw_pagesMost aw_globalCount wgt wft wfv wgc aw_exportCount wek wei wes wez ab ax ab_length ax cax gax)) [0, 1, 2, 4] rfl
              have hDc := hD.sb (wq := (wz_46 h0 aw ac h0_at h0_limit h0_sound h0_codeCount ob h0_openCount aw ab ac aw_typeCount wat wap wag aw_functionCount waf aw_hasMemory aw_pagesLeast aw_pagesMost aw_globalCount wgt wft wfv wgc aw_exportCount wek wei wes wez ab ax ab_length ax cax gax)) [0, 1, 2, 4] (by decide) rfl
              have hKc := hK.sb (tyq := [(cax, .byte)]) [0] rfl
              have hFc := va_free (wc := (wz_46 h0 aw ac h0_at h0_limit h0_sound h0_codeCount ob h0_openCount aw ab ac aw_typeCount wat wap wag aw_functionCount waf aw_hasMemory aw_pagesLeast aw_pagesMost aw_globalCount wgt wft wfv wgc aw_exportCount wek wei wes wez ab ax ab_length ax cax gax)) hD hS hA [0, 1, 2, 4] rfl
              refine va_calll (va_runV (As := [.long x42]) (rest := [.ref h0]) ⟨hx, hb, hml, hown, hts⟩ (c_RE_readUnsignedx l dC dI H.size h0 aw ac ob ab wat wap wag waf wgt wft wfv wgc wek wei wes wez ax cax h0_at h0_limit h0_sound h0_codeCount h0_openCount aw_typeCount aw_functionCount aw_hasMemory aw_pagesLeast aw_pagesMost aw_globalCount aw_exportCount ab_length gax qn (b_h0_sound) x42 (by (first | (apply Int.le_antisymm <;> omega) | omega)) (by (first | (apply Int.le_antisymm <;> omega) | omega)) (by (first | (apply Int.le_antisymm <;> omega) | omega)) ((by rw [leb_1 (by (first | (apply Int.le_antisymm <;> omega) | omega))]; exact ⟨hbq.out.1, trivial⟩)) (by (first | (apply Int.le_antisymm <;> omega) | omega))) (cwV 1 hts (gV kM_RE_64 kV_RE_readUnsigned kS_RE_readUnsigned kI_RE kC_RE_readUnsigned) rfl rfl rfl (by decide +kernel) ⟨Nat.le_of_ble_eq_true rfl, Nat.le_of_ble_eq_true rfl⟩) ⟨fun a U g mk z => by obtain ⟨z0, z1, zP, zK, zD⟩ := z; exact ⟨z0, z1, zP, va_K.moved (u := U) (U := U.calling g mk a) (Vm.Alike.refl U.vm) zK, zD⟩, va_recv hKc hPc (ci := 7) (q0 := 0) rfl rfl, fun U hU hW => ⟨rfl, by rw [hU], va_P.he hU.symm hPc, va_K.moved hW.alike hKc, hDc.weaken (fun _ _ _ _ => trivial)⟩⟩ rfl rfl hl.1 rfl (lv_room (Nat.le_of_ble_eq_true rfl)) d_RE_readSection_198 ⟨(Nat.zero_le _), (Nat.zero_le _)⟩) hS (fun q _ h => hFc q h) hFc (fun r43 u t H1 locs ht hvm hw hB hz1 hk1 hS => ?_)
              obtain ⟨n44, n45⟩ := u
              try dsimp only at hw
              obtain ⟨bn45, xr43⟩ := hw
              try clear hw
              have tn45 := b01 bn45
              have za198 := i32_clamp (x := n44) (by (first | (apply Int.le_antisymm <;> omega) | omega))
              obtain ⟨hP1, hK1, hD1⟩ := hB
              replace hP1 := va_P.he ht hP1
              obtain ⟨hP, hD⟩ := va_join (wr := (wz_247 ac cfi clk clt ac_length cop cva cpt cel ac_labelCount cla ob cob gob waf cwaf gwaf wat cwat gwat wap cwap gwap wag cwag gwag wgt cwgt gwgt wft cwft gwft wfv cwfv gwfv wgc cwgc gwgc wek cwek gwek wei cwei gwei wes cwes gwes wez cwez gwez cfi ccfi gcfi clk cclk gclk clt cclt gclt cop ccop gcop cva ccva gcva cpt ccpt gcpt cel ccel gcel)) (w1 := (wz_46 h0 aw ac n44 h0_limit n45 h0_codeCount ob h0_openCount aw ab ac aw_typeCount wat wap wag aw_functionCount waf aw_hasMemory aw_pagesLeast aw_pagesMost aw_globalCount wgt wft wfv wgc aw_exportCount wek wei wes wez ab ax ab_length ax cax gax)) hP hD [0, 1, 2, 4] [3, 5, 6, 7, 8, 9, 10, 11, 12, 13, 14, 15, 16, 17, 18, 19, 20, 21, 22, 23, 24] rfl rfl (by decide) (by decide) hk1 hFc hP1 hD1
              clear hPc hDc hKc hFc hz1 hk1 hP1 hK1 hD1
              rename Heap => H
              have hP : va_P (dC, dI) cls (wz_248 ac cfi clk clt ac_length cop cva cpt cel ac_labelCount cla ob cob gob waf cwaf gwaf wat cwat gwat wap cwap gwap wag cwag gwag wgt cwgt gwgt wft cwft gwft wfv cwfv gwfv wgc cwgc gwgc wek cwek gwek wei cwei gwei wes cwes gwes wez cwez gwez cfi ccfi gcfi clk cclk gclk clt cclt gclt cop ccop gcop cva ccva gcva cpt ccpt gcpt cel ccel gcel h0 aw ac n44 h0_limit n45 h0_codeCount ob h0_openCount aw ab ac aw_typeCount wat wap wag aw_functionCount waf aw_hasMemory aw_pagesLeast aw_pagesMost aw_globalCount wgt wft wfv wgc aw_exportCount wek wei wes wez ab ax ab_length ax cax gax) H := hP
              have hD : va_D A (wz_248 ac cfi clk clt ac_length cop cva cpt cel ac_labelCount cla ob cob gob waf cwaf gwaf wat cwat gwat wap cwap gwap wag cwag gwag wgt cwgt gwgt wft cwft gwft wfv cwfv gwfv wgc cwgc gwgc wek cwek gwek wei cwei gwei wes cwes gwes wez cwez gwez cfi ccfi gcfi clk cclk gclk clt cclt gclt cop ccop gcop cva ccva gcva cpt ccpt gcpt cel ccel gcel h0 aw ac n44 h0_limit n45 h0_codeCount ob h0_openCount aw ab ac aw_typeCount wat wap wag aw_functionCount waf aw_hasMemory aw_pagesLeast aw_pagesMost aw_globalCount wgt wft wfv wgc aw_exportCount wek wei wes wez ab ax ab_length ax cax gax) := hD
              refine lv_l2i hx hb d_RE_readSection_201 rfl ?_
              refine lv_topi (fun x46 ex46 => ?_)
              have tx46 := l2i_t ex46 (by (first | (apply Int.le_antisymm <;> omega) | omega)) (by (first | (apply Int.le_antisymm <;> omega) | omega))
              refine va_put (D := (dC, dI)) (ci := 7) (v := .int x46) (ty := .int) (C := R_RE) (T := F_RE) (N := 8) hx hb hts i_RE t_RE t_RE_ok n_RE hown hK hP hD hS 21 rfl rfl 5 (by decide) (hts _ kF_RE_49) (fun _ h9 => h9) rfl (by decide +kernel) rfl rfl (Nat.le_of_ble_eq_true rfl) d_RE_readSection_202 (fun H locs hP hD hS => ?_)
              refine lv_iconst (v := 0) hx hb d_RE_readSection_205 (by decide) ?_
              refine lv_istore_n (lv' := [(3, .int 0), (0, .ref h0), (1, .int p0)]) hx hb d_RE_readSection_206 rfl hl (by decide) rfl (fun ls hl => ?_)
              refine w_loop (σ := Int32 × (Nat → Int32) × (Nat → Int32) × (Nat → Int32) × (Nat → Int32) × (Nat → Int32) × (Nat → Int32) × (Nat → Int64) × (Nat → Int32) × Int32 × Int32 × Int32 × Int32 × Int32) (fun u H locs ls => match u with | (j207_l3, j207_cel, j207_cfi, j207_clk, j207_clt, j207_cop, j207_cpt, j207_cva, j207_ob, j207_ac_length, j207_h0_at, j207_h0_limit, j207_h0_openCount, j207_h0_sound) => (0 ≤ j207_l3.toInt ∧ j207_l3.toInt ≤ 30) ∧ (0 ≤ j207_ac_length.toInt ∧ j207_ac_length.toInt ≤ 5000) ∧ (0 ≤ j207_h0_openCount.toInt ∧ j207_h0_openCount.toInt ≤ 100) ∧ (j207_h0_sound = 0 ∨ j207_h0_sound = 1) ∧ (j207_l3.toInt ≤ (qn : Int) ∧ x46.toInt = (qn : Int) ∧ j207_h0_sound.toInt = 1 ∧ 0 ≤ j207_h0_at.toInt ∧ j207_h0_limit.toInt = h0_limit.toInt) ∧ (bx (∃ (b : List Nat) (I1 : Nat), cF qgv qtk qn qgc qft j207_l3.toNatClampNeg (qn - j207_l3.toNatClampNeg) b I1 ∧ bq gax j207_h0_at.toNatClampNeg b ∧ j207_h0_at.toInt + (b.length : Int) = h0_limit.toInt ∧ j207_ac_length.toInt + (I1 : Int) ≤ 5000)) ∧ (bx (rd_C j207_l3.toInt j207_ac_length.toInt ac_labelCount.toInt j207_cfi j207_clk j207_clt j207_cop j207_cpt j207_cel j207_cva ∧ ∀ f, f < j207_l3.toNatClampNeg → cx qgv qtk qn qgc qft j207_cfi j207_clk j207_cop j207_cva f)) ∧ (bx (∀ j : Nat, (j207_cel j).toInt < 5000)) ∧ va_P (dC, dI) cls (wz_248 ac cfi clk clt j207_ac_length cop cva cpt cel ac_labelCount cla ob cob j207_ob waf cwaf gwaf wat cwat gwat wap cwap gwap wag cwag gwag wgt cwgt gwgt wft cwft gwft wfv cwfv gwfv wgc cwgc gwgc wek cwek gwek wei cwei gwei wes cwes gwes wez cwez gwez cfi ccfi j207_cfi clk cclk j207_clk clt cclt j207_clt cop ccop j207_cop cva ccva j207_cva cpt ccpt j207_cpt cel ccel j207_cel h0 aw ac j207_h0_at j207_h0_limit j207_h0_sound x46 ob j207_h0_openCount aw ab ac aw_typeCount wat wap wag aw_functionCount waf aw_hasMemory aw_pagesLeast aw_pagesMost aw_globalCount wgt wft wfv wgc aw_exportCount wek wei wes wez ab ax ab_length ax cax gax) H ∧ va_D A (wz_248 ac cfi clk clt j207_ac_length cop cva cpt cel ac_labelCount cla ob cob j207_ob waf cwaf gwaf wat cwat gwat wap cwap gwap wag cwag gwag wgt cwgt gwgt wft cwft gwft wfv cwfv gwfv wgc cwgc gwgc wek cwek gwek wei cwei gwei wes cwes gwes wez cwez gwez cfi ccfi j207_cfi clk cclk j207_clk clt cclt j207_clt cop ccop j207_cop cva ccva j207_cva cpt ccpt j207_cpt cel ccel j207_cel h0 aw ac j207_h0_at j207_h0_limit j207_h0_sound x46 ob j207_h0_openCount aw ab ac aw_typeCount wat wap wag aw_functionCount waf aw_hasMemory aw_pagesLeast aw_pagesMost aw_globalCount wgt wft wfv wgc aw_exportCount wek wei wes wez ab ax ab_length ax cax gax) ∧ va_S A s.heap H locs ∧ lv_has ls 4 [(0, .ref h0), (3, .int j207_l3)]) (fun u => match u with | (j207_l3, j207_cel, j207_cfi, j207_clk, j207_clt, j207_cop, j207_cpt, j207_cva, j207_ob, j207_ac_length, j207_h0_at, j207_h0_limit, j207_h0_openCount, j207_h0_sound) => ((qn : Int) - j207_l3.toInt).toNat) ?_ (0, gcel, gcfi, gclk, gclt, gcop, gcpt, gcva, gob, ac_length, n44, h0_limit, h0_openCount, n45) ⟨by (try dsimp only) <;> (first | (apply Int.le_antisymm <;> omega) | omega), b_ac_length, b_h0_openCount, bn45, by (try dsimp only) <;> (first | (apply Int.le_antisymm <;> omega) | omega), ⟨qcb, qI, j3.out, (bq_at hbq.out.2 (by (first | (apply Int.le_antisymm <;> omega) | omega))), by (first | (apply Int.le_antisymm <;> omega) | omega), by (first | (apply Int.le_antisymm <;> omega) | omega)⟩, ⟨rd_C.nil, fun f hf => absurd hf (by show ¬ f < 0; (first | (apply Int.le_antisymm <;> omega) | omega))⟩, hel, hP, hD, hS, lv_sub hl [1, 0] rfl⟩
              intro N207 ih207 u H locs ls hN207 hI
              obtain ⟨j207_l3, j207_cel, j207_cfi, j207_clk, j207_clt, j207_cop, j207_cpt, j207_cva, j207_ob, j207_ac_length, j207_h0_at, j207_h0_limit, j207_h0_openCount, j207_h0_sound⟩ := u
              obtain ⟨b_j207_l3, b_j207_ac_length, b_j207_h0_openCount, b_j207_h0_sound, v1, hF9, v3, hEl, hP, hD, hS, hl⟩ := hI
              have tj207_h0_sound := b01 b_j207_h0_sound
              have hN207 : ((qn : Int) - j207_l3.toInt).toNat < N207 + 1 := hN207
              refine lv_iload_n hx hb d_RE_readSection_207 rfl (lv_at hl 1 rfl) ?_
              refine lv_aload_n hx hb d_RE_readSection_208 rfl (lv_at hl 0 rfl) ?_
              refine va_get (D := (dC, dI)) (ci := 7) (v := .int x46) (C := R_RE) (T := F_RE) (N := 8) hx hb hts i_RE hown hK hP 21 rfl rfl 5 (by decide) (hts _ kF_RE_49) (fun _ h9 => h9) rfl d_RE_readSection_209 ?_
              refine lv_icmp_ge (tgt := 233) hx hb d_RE_readSection_212 (by decide) (fun c212 => ?_) (fun c212 => ?_)
              · have q212 := leI c212
                have e10 : j207_h0_at.toInt = h0_limit.toInt := by obtain ⟨b, I1, k1, k2, k3, k4⟩ := hF9.out; rw [show qn - j207_l3.toNatClampNeg = 0 from by have := i32_clamp (x := j207_l3) (by (first | (apply Int.le_antisymm <;> omega) | omega)); (first | (apply Int.le_antisymm <;> omega) | omega)] at k1; rw [k1.1, List.length_nil] at k3; (first | (apply Int.le_antisymm <;> omega) | omega)
                refine lv_goto (tgt := 241) hx hb d_RE_readSection_233 (by decide) ?_
                have hP9 := hP.sb (wq := (wz_246 h0 aw ac j207_h0_at j207_h0_limit j207_h0_sound x46 ob j207_h0_openCount aw ab ac aw_typeCount wat wap wag aw_functionCount waf aw_hasMemory aw_pagesLeast aw_pagesMost aw_globalCount wgt wft wfv wgc aw_exportCount wek wei wes wez ab ax ab_length ac cfi clk clt j207_ac_length cop cva cpt cel ac_labelCount cla ax cax gax ob cob j207_ob waf cwaf gwaf wat cwat gwat wap cwap gwap wag cwag gwag wgt cwgt gwgt wft cwft gwft wfv cwfv gwfv wgc cwgc gwgc wek cwek gwek wei cwei gwei wes cwes gwes wez cwez gwez cfi ccfi j207_cfi clk cclk j207_clk clt cclt j207_clt cop ccop j207_cop cva ccva j207_cva cpt ccpt j207_cpt cel ccel j207_cel)) [21, 22, 23, 0, 24, 1, 2, 3, 4, 5, 6, 7, 8, 9, 10, 11, 12, 13, 14, 15, 16, 17, 18, 19, 20] rfl
                have hD9 := hD.sb (wq := (wz_246 h0 aw ac j207_h0_at j207_h0_limit j207_h0_sound x46 ob j207_h0_openCount aw ab ac aw_typeCount wat wap wag aw_functionCount waf aw_hasMemory aw_pagesLeast aw_pagesMost aw_globalCount wgt wft wfv wgc aw_exportCount wek wei wes wez ab ax ab_length ac cfi clk clt j207_ac_length cop cva cpt cel ac_labelCount cla ax cax gax ob cob j207_ob waf cwaf gwaf wat cwat gwat wap cwap gwap wag cwag gwag wgt cwgt gwgt wft cwft gwft wfv cwfv gwfv wgc cwgc gwgc wek cwek gwek wei cwei gwei wes cwes gwes wez cwez gwez cfi ccfi j207_cfi clk cclk j207_clk clt cclt j207_clt cop ccop j207_cop cva ccva j207_cva cpt ccpt j207_cpt cel ccel j207_cel)) [21, 22, 23, 0, 24, 1, 2, 3, 4, 5, 6, 7, 8, 9, 10, 11, 12, 13, 14, 15, 16, 17, 18, 19, 20] (by decide) rfl
                exact W.vret hx hb hr (fun t ht hW => ⟨⟨(j207_cel, j207_cfi, j207_clk, j207_clt, j207_cop, j207_cpt, j207_cva, j207_ob, gwaf, gwag, gwap, gwat, gwei, gwek, gwes, gwez, gwft, gwfv, gwgc, gwgt, j207_ac_length, aw_exportCount, aw_functionCount, aw_globalCount, aw_hasMemory, aw_pagesLeast, aw_pagesMost, aw_typeCount, j207_h0_at, x46, j207_h0_limit, j207_h0_openCount, j207_h0_sound), rfl, ⟨b_j207_ac_length, b_aw_exportCount, b_aw_functionCount, b_aw_globalCount, b_aw_hasMemory, b_aw_typeCount, by (try dsimp only) <;> (first | (apply Int.le_antisymm <;> omega) | omega), b_j207_h0_openCount, b_j207_h0_sound, ⟨by have e := e10; (try dsimp only) <;> (first | (apply Int.le_antisymm <;> omega) | omega), by (try dsimp only) <;> (first | (apply Int.le_antisymm <;> omega) | omega), by (try dsimp only) <;> (first | (apply Int.le_antisymm <;> omega) | omega), hEl.out, ⟨fun z => absurd z (by (first | (apply Int.le_antisymm <;> omega) | omega)), fun _ => ⟨rfl, rfl, rfl, rfl⟩⟩, ⟨fun z => absurd z (by (first | (apply Int.le_antisymm <;> omega) | omega)), fun _ => ⟨rfl, rfl⟩⟩, ⟨fun z => absurd z (by (first | (apply Int.le_antisymm <;> omega) | omega)), fun _ => ⟨rfl, rfl, rfl⟩⟩, ⟨fun z => absurd z (by (first | (apply Int.le_antisymm <;> omega) | omega)), fun _ => ⟨rfl, rfl⟩⟩, ⟨fun z => absurd z (by (first | (apply Int.le_antisymm <;> omega) | omega)), fun _ => ⟨rfl, rfl⟩⟩, ⟨fun _ => ⟨by (first | (apply Int.le_antisymm <;> omega) | omega), by have q := v3.out.1; rw [show j207_l3.toInt = (qn : Int) from by (first | (apply Int.le_antisymm <;> omega) | omega)] at q; exact q, fun f z => v3.out.2 f (by have := i32_clamp (x := j207_l3) (by (first | (apply Int.le_antisymm <;> omega) | omega)); (first | (apply Int.le_antisymm <;> omega) | omega))⟩, fun z => absurd kk z⟩⟩⟩, va_P.he ht.symm hP9, va_K.moved hW.alike hK, hD9⟩, hS.F ht⟩) hS.2.2 d_RE_readSection_241
              · have q212 := nleI c212
                refine lv_aload_n hx hb d_RE_readSection_215 rfl (lv_at hl 0 rfl) ?_
                refine va_get (D := (dC, dI)) (ci := 7) (v := .int j207_h0_sound) (C := R_RE) (T := F_RE) (N := 8) hx hb hts i_RE hown hK hP 21 rfl rfl 4 (by decide) (hts _ kF_RE_45) (fun _ h9 => h9) rfl d_RE_readSection_216 ?_
                refine lv_if_eq (tgt := 233) hx hb d_RE_readSection_219 (by decide) (fun c219 => absurd (eqI c219) (by (first | (apply Int.le_antisymm <;> omega) | omega))) (fun c219 => ?_)
                have q219 := neI c219
                have c3 := i32_clamp (x := j207_l3) (by (first | (apply Int.le_antisymm <;> omega) | omega))
                obtain ⟨bb9, I9, k1, k2, k3, k4⟩ := hF9.out
                rw [show qn - j207_l3.toNatClampNeg = (qn - j207_l3.toNatClampNeg - 1) + 1 from by (first | (apply Int.le_antisymm <;> omega) | omega)] at k1
                obtain ⟨e9, b9, kk9, I8, f1, f2, f3, f4⟩ := k1
                obtain ⟨R9, l9, B9, h9, g1, g2, g3, g4, g5, g6, g7, g8⟩ := f2
                subst f1
                subst g8
                have k5 := bq_app k2
                have k6 := k5.1
                have k7 := k5.2
                replace k6 : bx _ := k6
                replace k7 : bx _ := k7
                replace f4 : bx _ := f4
                replace g5 : bx _ := g5
                replace g6 : bx _ := g6
                replace g7 : bx _ := g7
                replace g2 : bx _ := g2
                clear k2 k5 hF9
                rw [List.length_append] at k3
                have za := i32_clamp (x := j207_h0_at) (by (first | (apply Int.le_antisymm <;> omega) | omega))
                have zl := i32_clamp (x := j207_ac_length) (by (first | (apply Int.le_antisymm <;> omega) | omega))
                have tk0 : 0 ≤ qtk j207_l3.toNatClampNeg := htk.out _ (by (first | (apply Int.le_antisymm <;> omega) | omega))
                obtain ⟨en9, hen9⟩ : ∃ m, m = (leb 5 ((R9.length :: rb R9).length + (enl (l9 ++ [(11, 0)])).length) ++ ((R9.length :: rb R9) ++ enl (l9 ++ [(11, 0)]))).length := ⟨_, rfl⟩
                rw [← hen9] at k3 k7
                refine lv_aload_n hx hb d_RE_readSection_222 rfl (lv_at hl 0 rfl) ?_
                refine lv_iload_n hx hb d_RE_readSection_223 rfl (lv_at hl 1 rfl) ?_
                have hPc := hP.sb (wq := (wz_244 h0 aw ac j207_h0_at j207_h0_limit j207_h0_sound x46 ob j207_h0_openCount aw ab ac aw_typeCount wat wap wag aw_functionCount waf aw_hasMemory aw_pagesLeast aw_pagesMost aw_globalCount wgt wft wfv wgc aw_exportCount wek wei wes wez ab ax ab_length ac cfi clk clt j207_ac_length cop cva cpt cel ac_labelCount cla ax cax gax ob cob j207_ob cfi ccfi j207_cfi clk cclk j207_clk clt cclt j207_clt cop ccop j207_cop cva ccva j207_cva cpt ccpt j207_cpt cel ccel j207_cel)) [21, 22, 23, 0, 24, 1, 14, 15, 16, 17, 18, 19, 20] rfl
                have hDc := hD.sb (wq := (wz_244 h0 aw ac j207_h0_at j207_h0_limit j207_h0_sound x46 ob j207_h0_openCount aw ab ac aw_typeCount wat wap wag aw_functionCount waf aw_hasMemory aw_pagesLeast aw_pagesMost aw_globalCount wgt wft wfv wgc aw_exportCount wek wei wes wez ab ax ab_length ac cfi clk clt j207_ac_length cop cva cpt cel ac_labelCount cla ax cax gax ob cob j207_ob cfi ccfi j207_cfi clk cclk j207_clk clt cclt j207_clt cop ccop j207_cop cva ccva j207_cva cpt ccpt j207_cpt cel ccel j207_cel)) [21, 22, 23, 0, 24, 1, 14, 15, 16, 17, 18, 19, 20] (by decide) rfl
                have hKc := hK.sb (tyq := [(cax, .byte), (cob, .int), (ccfi, .int), (cclk, .int), (cclt, .int), (ccop, .int), (ccva, .long), (ccpt, .int), (ccel, .int)]) [0, 1, 14, 15, 16, 17, 18, 19, 20] rfl
                have hFc := va_free (wc := (wz_244 h0 aw ac j207_h0_at j207_h0_limit j207_h0_sound x46 ob j207_h0_openCount aw ab ac aw_typeCount wat wap wag aw_functionCount waf aw_hasMemory aw_pagesLeast aw_pagesMost aw_globalCount wgt wft wfv wgc aw_exportCount wek wei wes wez ab ax ab_length ac cfi clk clt j207_ac_length cop cva cpt cel ac_labelCount cla ax cax gax ob cob j207_ob cfi ccfi j207_cfi clk cclk j207_clk clt cclt j207_clt cop ccop j207_cop cva ccva j207_cva cpt ccpt j207_cpt cel ccel j207_cel)) hD hS hA [21, 22, 23, 0, 24, 1, 14, 15, 16, 17, 18, 19, 20] rfl
                refine va_callv (va_runV (As := [.int j207_l3]) (rest := []) ⟨hx, hb, hml, hown, hts⟩ (c_RE_readCodex l dC dI H.size h0 aw ac ob ab wat wap wag waf wgt wft wfv wgc wek wei wes wez ax cfi clk clt cop cva cpt cel cla cax cob ccfi cclk cclt ccop ccva ccpt ccel j207_h0_at j207_h0_limit j207_h0_sound x46 j207_h0_openCount aw_typeCount aw_functionCount aw_hasMemory aw_pagesLeast aw_pagesMost aw_globalCount aw_exportCount ab_length j207_ac_length ac_labelCount gax j207_ob j207_cfi j207_clk j207_clt j207_cop j207_cva j207_cpt j207_cel R9 l9 (b_j207_h0_sound) (b_j207_h0_openCount) (b_j207_ac_length) (b_ac_labelCount) j207_l3 (by (first | (apply Int.le_antisymm <;> omega) | omega)) (by (first | (apply Int.le_antisymm <;> omega) | omega)) (by (first | (apply Int.le_antisymm <;> omega) | omega)) (g2) (by (first | (apply Int.le_antisymm <;> omega) | omega)) (g6) (g7) (k6) ((by rw [← hen9]; (first | (apply Int.le_antisymm <;> omega) | omega))) (by (first | (apply Int.le_antisymm <;> omega) | omega)) (hEl)) (cwV 1 hts (gV kM_RE_93 kV_RE_readCode kS_RE_readCode kI_RE kC_RE_readCode) rfl rfl rfl (by decide +kernel) ⟨Nat.le_of_ble_eq_true rfl, Nat.le_of_ble_eq_true rfl⟩) ⟨fun a U g mk z => by obtain ⟨z0, z1, zP, zK, zD⟩ := z; exact ⟨z0, z1, zP, va_K.moved (u := U) (U := U.calling g mk a) (Vm.Alike.refl U.vm) zK, zD⟩, va_recv hKc hPc (ci := 7) (q0 := 0) rfl rfl, fun U hU hW => ⟨rfl, by rw [hU], va_P.he hU.symm hPc, va_K.moved hW.alike hKc, hDc.weaken (fun _ _ _ _ => trivial)⟩⟩ rfl rfl hl.1 rfl (lv_room (Nat.le_of_ble_eq_true rfl)) d_RE_readSection_224 ⟨(Nat.zero_le _), (Nat.zero_le _)⟩) hS (fun q _ h => hFc q h) hFc (fun u t H1 locs ht hvm hw hB hz1 hk1 hS => ?_)
                obtain ⟨n48, n49, n50, n51, n52, n53, n54, n55, n56, n57, n58, n59, n60⟩ := u
                try dsimp only at hw
                obtain ⟨bn56, bn59, bn60, xr47⟩ := hw
                try clear hw
                have tn60 := b01 bn60
                obtain ⟨a1, a0, a2, a3, a4, a5, t9, a6, a7, a8, a9, a10, a11, a12⟩ := xr47
                rw [← hen9] at a1
                replace a5 : bx _ := a5
                replace a8 : bx _ := a8
                replace a9 : bx _ := a9
                replace a10 : bx _ := a10
                replace a11 : bx _ := a11
                replace a12 : bx _ := a12
                have za2 := i32_clamp (x := n57) (by (first | (apply Int.le_antisymm <;> omega) | omega))
                obtain ⟨hP1, hK1, hD1⟩ := hB
                replace hP1 := va_P.he ht hP1
                obtain ⟨hP, hD⟩ := va_join (wr := [(waf, .inl (cwaf, 30, .inl gwaf)), (wat, .inl (cwat, 20, .inl gwat)), (wap, .inl (cwap, 160, .inl gwap)), (wag, .inl (cwag, 20, .inl gwag)), (wgt, .inl (cwgt, 20, .inl gwgt)), (wft, .inl (cwft, 20, .inl gwft)), (wfv, .inl (cwfv, 20, .inr (.inl gwfv))), (wgc, .inl (cwgc, 20, .inl gwgc)), (wek, .inl (cwek, 40, .inl gwek)), (wei, .inl (cwei, 40, .inl gwei)), (wes, .inl (cwes, 40, .inl gwes)), (wez, .inl (cwez, 40, .inl gwez))]) (w1 := (wz_244 h0 aw ac n57 n58 n60 x46 ob n59 aw ab ac aw_typeCount wat wap wag aw_functionCount waf aw_hasMemory aw_pagesLeast aw_pagesMost aw_globalCount wgt wft wfv wgc aw_exportCount wek wei wes wez ab ax ab_length ac cfi clk clt n56 cop cva cpt cel ac_labelCount cla ax cax gax ob cob n55 cfi ccfi n49 clk cclk n50 clt cclt n51 cop ccop n52 cva ccva n54 cpt ccpt n53 cel ccel n48)) hP hD [21, 22, 23, 0, 24, 1, 14, 15, 16, 17, 18, 19, 20] [2, 3, 4, 5, 6, 7, 8, 9, 10, 11, 12, 13] rfl rfl (by decide) (by decide) hk1 hFc hP1 hD1
                clear hPc hDc hKc hFc hz1 hk1 hP1 hK1 hD1
                rename Heap => H
                have hP : va_P (dC, dI) cls [(waf, .inl (cwaf, 30, .inl gwaf)), (wat, .inl (cwat, 20, .inl gwat)), (wap, .inl (cwap, 160, .inl gwap)), (wag, .inl (cwag, 20, .inl gwag)), (wgt, .inl (cwgt, 20, .inl gwgt)), (wft, .inl (cwft, 20, .inl gwft)), (wfv, .inl (cwfv, 20, .inr (.inl gwfv))), (wgc, .inl (cwgc, 20, .inl gwgc)), (wek, .inl (cwek, 40, .inl gwek)), (wei, .inl (cwei, 40, .inl gwei)), (wes, .inl (cwes, 40, .inl gwes)), (wez, .inl (cwez, 40, .inl gwez)), (h0, .inr (7, [.ref aw, .ref ac, .int n57, .int n58, .int n60, .int x46, .ref ob, .int n59])), (aw, .inr (10, [.ref ab, .ref ac, .int aw_typeCount, .ref wat, .ref wap, .ref wag, .int aw_functionCount, .ref waf, .int aw_hasMemory, .long aw_pagesLeast, .long aw_pagesMost, .int aw_globalCount, .ref wgt, .ref wft, .ref wfv, .ref wgc, .int aw_exportCount, .ref wek, .ref wei, .ref wes, .ref wez])), (ab, .inr (1, [.ref ax, .int ab_length])), (ac, .inr (3, [.ref cfi, .ref clk, .ref clt, .int n56, .ref cop, .ref cva, .ref cpt, .ref cel, .int ac_labelCount, .ref cla])), (ax, .inl (cax, 8192, .inl gax)), (ob, .inl (cob, 100, .inl n55)), (cfi, .inl (ccfi, 31, .inl n49)), (clk, .inl (cclk, 30, .inl n50)), (clt, .inl (cclt, 1800, .inl n51)), (cop, .inl (ccop, 5000, .inl n52)), (cva, .inl (ccva, 5000, .inr (.inl n54))), (cpt, .inl (ccpt, 5000, .inl n53)), (cel, .inl (ccel, 5000, .inl n48))] H := hP
                have hD : va_D A [(waf, .inl (cwaf, 30, .inl gwaf)), (wat, .inl (cwat, 20, .inl gwat)), (wap, .inl (cwap, 160, .inl gwap)), (wag, .inl (cwag, 20, .inl gwag)), (wgt, .inl (cwgt, 20, .inl gwgt)), (wft, .inl (cwft, 20, .inl gwft)), (wfv, .inl (cwfv, 20, .inr (.inl gwfv))), (wgc, .inl (cwgc, 20, .inl gwgc)), (wek, .inl (cwek, 40, .inl gwek)), (wei, .inl (cwei, 40, .inl gwei)), (wes, .inl (cwes, 40, .inl gwes)), (wez, .inl (cwez, 40, .inl gwez)), (h0, .inr (7, [.ref aw, .ref ac, .int n57, .int n58, .int n60, .int x46, .ref ob, .int n59])), (aw, .inr (10, [.ref ab, .ref ac, .int aw_typeCount, .ref wat, .ref wap, .ref wag, .int aw_functionCount, .ref waf, .int aw_hasMemory, .long aw_pagesLeast, .long aw_pagesMost, .int aw_globalCount, .ref wgt, .ref wft, .ref wfv, .ref wgc, .int aw_exportCount, .ref wek, .ref wei, .ref wes, .ref wez])), (ab, .inr (1, [.ref ax, .int ab_length])), (ac, .inr (3, [.ref cfi, .ref clk, .ref clt, .int n56, .ref cop, .ref cva, .ref cpt, .ref cel, .int ac_labelCount, .ref cla])), (ax, .inl (cax, 8192, .inl gax)), (ob, .inl (cob, 100, .inl n55)), (cfi, .inl (ccfi, 31, .inl n49)), (clk, .inl (cclk, 30, .inl n50)), (clt, .inl (cclt, 1800, .inl n51)), (cop, .inl (ccop, 5000, .inl n52)), (cva, .inl (ccva, 5000, .inr (.inl n54))), (cpt, .inl (ccpt, 5000, .inl n53)), (cel, .inl (ccel, 5000, .inl n48))] := hD
                obtain ⟨x61, ex61⟩ : ∃ z : Int32, z = j207_l3 + 1 := ⟨_, rfl⟩
                have tx61 : x61.toInt = j207_l3.toInt + 1 := by have z := i32_add ex61 (by (first | (apply Int.le_antisymm <;> omega) | omega)) (by (first | (apply Int.le_antisymm <;> omega) | omega)); first | exact z | (first | (apply Int.le_antisymm <;> omega) | omega)
                refine lv_iinc (v := x61) (lv' := [(3, .int x61), (0, .ref h0)]) hx hb d_RE_readSection_227 hl (k := 1) rfl (by rw [ex61]; rfl) (by decide) rfl (fun ls hl => ?_)
                refine lv_goto (tgt := 207) hx hb d_RE_readSection_230 (by decide) ?_
                exact ih207 (x61, n48, n49, n50, n51, n52, n53, n54, n55, n56, n57, n58, n59, n60) _ _ _ (by show ((qn : Int) - x61.toInt).toNat < N207; (first | (apply Int.le_antisymm <;> omega) | omega)) ⟨by (try dsimp only) <;> (first | (apply Int.le_antisymm <;> omega) | omega), bn56, bn59, bn60, by (try dsimp only) <;> (first | (apply Int.le_antisymm <;> omega) | omega), (by rw [show x61.toNatClampNeg = j207_l3.toNatClampNeg + 1 from clampN (by (first | (apply Int.le_antisymm <;> omega) | omega)), show qn - (j207_l3.toNatClampNeg + 1) = qn - j207_l3.toNatClampNeg - 1 from by (first | (apply Int.le_antisymm <;> omega) | omega)]; exact ⟨b9, I8, f4.out, bq_at k7.out (by (first | (apply Int.le_antisymm <;> omega) | omega)), by (first | (apply Int.le_antisymm <;> omega) | omega), by (first | (apply Int.le_antisymm <;> omega) | omega)⟩), (by have q := rd_C.next (k := j207_l3) (len := j207_ac_length) (lc := ac_labelCount) (len2 := n56) (lc2 := ac_labelCount) (t := t9) (by (first | (apply Int.le_antisymm <;> omega) | omega)) v3.out.1 (by (first | (apply Int.le_antisymm <;> omega) | omega)) (by (first | (apply Int.le_antisymm <;> omega) | omega)) (Int.le_refl _) a10.out a11.out a4 a5.out (by (first | (apply Int.le_antisymm <;> omega) | omega)) (by (first | (apply Int.le_antisymm <;> omega) | omega)) a7 (fun j z1 z2 => a8.out j ⟨z1, z2⟩); rw [show x61.toInt = j207_l3.toInt + 1 from by (first | (apply Int.le_antisymm <;> omega) | omega), show x61.toNatClampNeg = j207_l3.toNatClampNeg + 1 from clampN (by (first | (apply Int.le_antisymm <;> omega) | omega))]; refine ⟨q, fun f hf => ?_⟩; by_cases z : f = j207_l3.toNatClampNeg; (subst z; exact ⟨R9, l9, B9, h9, g3, g5.out, by rw [a7, pk_us]; exact a6, by rw [a4, pk_un (by (first | (apply Int.le_antisymm <;> omega) | omega)), pk_us]; (first | (apply Int.le_antisymm <;> omega) | omega), by rw [a4, pk_us, pk_un (by (first | (apply Int.le_antisymm <;> omega) | omega)), pk_us]; (first | (apply Int.le_antisymm <;> omega) | omega), by rw [a4, pk_un (by (first | (apply Int.le_antisymm <;> omega) | omega)), pk_us]; exact a9.out⟩); (have fl : f < j207_l3.toNatClampNeg := by (first | (apply Int.le_antisymm <;> omega) | omega)); (have rc := v3.out.1.1 f (by (first | (apply Int.le_antisymm <;> omega) | omega))); (exact cx_ext (v3.out.2 f fl) (by rw [a4, pk_un (by (first | (apply Int.le_antisymm <;> omega) | omega)), pk_un (by (first | (apply Int.le_antisymm <;> omega) | omega))]) (by by_cases y : f + 1 = j207_l3.toNatClampNeg; (rw [a4, pk_un (by (first | (apply Int.le_antisymm <;> omega) | omega)), y, pk_us]; have w := v3.out.1.2 (by (first | (apply Int.le_antisymm <;> omega) | omega)); rw [show j207_l3.toInt.toNat = j207_l3.toNatClampNeg from by (first | (apply Int.le_antisymm <;> omega) | omega)] at w; exact Int32.toInt_inj.mp w.symm); (rw [a4, pk_un (by (first | (apply Int.le_antisymm <;> omega) | omega)), pk_un (by (first | (apply Int.le_antisymm <;> omega) | omega))])) (by rw [a7, pk_un (by (first | (apply Int.le_antisymm <;> omega) | omega))]) (fun j hj => ⟨(a11.out j (by (first | (apply Int.le_antisymm <;> omega) | omega))).1, (a11.out j (by (first | (apply Int.le_antisymm <;> omega) | omega))).2.2.2⟩))), a12, hP.sub [15, 17, 0, 1, 2, 3, 4, 5, 6, 7, 8, 9, 10, 11, 18, 19, 20, 21, 22, 23, 24, 12, 13, 14, 16] rfl, hD.sub [15, 17, 0, 1, 2, 3, 4, 5, 6, 7, 8, 9, 10, 11, 18, 19, 20, 21, 22, 23, 24, 12, 13, 14, 16] (by decide) rfl, hS, lv_sub hl [1, 0] rfl⟩
            · skip
              have ho1 : tab_off 235 0 10 #[59, 110, 235, 117, 235, 171, 178, 185, 235, 235, 192] p0.toInt = 235 := by
                unfold tab_off
                split
                · rfl
                · rcases (by (first | (apply Int.le_antisymm <;> omega) | omega) : p0.toInt = 2 ∨ p0.toInt = 4 ∨ p0.toInt = 8 ∨ p0.toInt = 9) with z | z | z | z <;> (rw [z]; rfl)
              refine lv_tab (tgt := 236) hx hb d_RE_readSection_1 (by decide) ho1 (by decide) ?_
              clear ho1
              refine lv_aload_n hx hb d_RE_readSection_236 rfl (lv_at hl 0 rfl) ?_
              refine lv_iconst (v := 0) hx hb d_RE_readSection_237 (by decide) ?_
              refine va_put (D := (dC, dI)) (ci := 7) (v := .int 0) (ty := .boolean) (C := R_RE) (T := F_RE) (N := 8) hx hb hts i_RE t_RE t_RE_ok n_RE hown hK hP hD hS 0 rfl rfl 4 (by decide) (hts _ kF_RE_45) (fun _ h9 => h9) rfl (by decide +kernel) rfl rfl (Nat.le_of_ble_eq_true rfl) d_RE_readSection_238 (fun H locs hP hD hS => ?_)
              have hP9 := hP.sb (wq := (wz_246 h0 aw ac h0_at h0_limit 0 h0_codeCount ob h0_openCount aw ab ac aw_typeCount wat wap wag aw_functionCount waf aw_hasMemory aw_pagesLeast aw_pagesMost aw_globalCount wgt wft wfv wgc aw_exportCount wek wei wes wez ab ax ab_length ac cfi clk clt ac_length cop cva cpt cel ac_labelCount cla ax cax gax ob cob gob waf cwaf gwaf wat cwat gwat wap cwap gwap wag cwag gwag wgt cwgt gwgt wft cwft gwft wfv cwfv gwfv wgc cwgc gwgc wek cwek gwek wei cwei gwei wes cwes gwes wez cwez gwez cfi ccfi gcfi clk cclk gclk clt cclt gclt cop ccop gcop cva ccva gcva cpt ccpt gcpt cel ccel gcel)) [0, 1, 2, 3, 4, 5, 6, 7, 8, 9, 10, 11, 12, 13, 14, 15, 16, 17, 18, 19, 20, 21, 22, 23, 24] rfl
              have hD9 := hD.sb (wq := (wz_246 h0 aw ac h0_at h0_limit 0 h0_codeCount ob h0_openCount aw ab ac aw_typeCount wat wap wag aw_functionCount waf aw_hasMemory aw_pagesLeast aw_pagesMost aw_globalCount wgt wft wfv wgc aw_exportCount wek wei wes wez ab ax ab_length ac cfi clk clt ac_length cop cva cpt cel ac_labelCount cla ax cax gax ob cob gob waf cwaf gwaf wat cwat gwat wap cwap gwap wag cwag gwag wgt cwgt gwgt wft cwft gwft wfv cwfv gwfv wgc cwgc gwgc wek cwek gwek wei cwei gwei wes cwes gwes wez cwez gwez cfi ccfi gcfi clk cclk gclk clt cclt gclt cop ccop gcop cva ccva gcva cpt ccpt gcpt cel ccel gcel)) [0, 1, 2, 3, 4, 5, 6, 7, 8, 9, 10, 11, 12, 13, 14, 15, 16, 17, 18, 19, 20, 21, 22, 23, 24] (by decide) rfl
              exact W.vret hx hb hr (fun t ht hW => ⟨⟨(gcel, gcfi, gclk, gclt, gcop, gcpt, gcva, gob, gwaf, gwag, gwap, gwat, gwei, gwek, gwes, gwez, gwft, gwfv, gwgc, gwgt, ac_length, aw_exportCount, aw_functionCount, aw_globalCount, aw_hasMemory, aw_pagesLeast, aw_pagesMost, aw_typeCount, h0_at, h0_codeCount, h0_limit, h0_openCount, 0), rfl, ⟨b_ac_length, b_aw_exportCount, b_aw_functionCount, b_aw_globalCount, b_aw_hasMemory, b_aw_typeCount, b_h0_codeCount, b_h0_openCount, Or.inl rfl, (by exfalso; (first | (apply Int.le_antisymm <;> omega) | omega))⟩, va_P.he ht.symm hP9, va_K.moved hW.alike hK, hD9⟩, hS.F ht⟩) hS.2.2 d_RE_readSection_241
end q_95
section q_96
/-! Reader: a whole module as it was put -/
def nx9 (g : Bool) (id : Nat) : Nat := if id = 1 then 3 else if id = 3 then 5 else if id = 5 then (if g = true then 6 else 7) else if id = 6 then 7 else if id = 7 then 10 else 11
def r10 (ct : Nat → List Nat) : List Nat := sec 10 (ct 10)
def r7 (ct : Nat → List Nat) : List Nat := sec 7 (ct 7) ++ r10 ct
def r6 (ct : Nat → List Nat) : List Nat := sec 6 (ct 6) ++ r7 ct
def r5 (ct : Nat → List Nat) (g : Bool) : List Nat := sec 5 (ct 5) ++ (if g = true then r6 ct else r7 ct)
def r3 (ct : Nat → List Nat) (g : Bool) : List Nat := sec 3 (ct 3) ++ r5 ct g
def r1 (ct : Nat → List Nat) (g : Bool) : List Nat := sec 1 (ct 1) ++ r3 ct g
def rs9 (ct : Nat → List Nat) (g : Bool) (id : Nat) : List Nat := if id = 1 then r1 ct g else if id = 3 then r3 ct g else if id = 5 then r5 ct g else if id = 6 then r6 ct else if id = 7 then r7 ct else if id = 10 then r10 ct else []
def id9 (id : Nat) : Prop := id = 1 ∨ id = 3 ∨ id = 5 ∨ id = 6 ∨ id = 7 ∨ id = 10
theorem rs9_hd {ct : Nat → List Nat} {g : Bool} {id : Nat} (h : id9 id) : rs9 ct g id = sec id (ct id) ++ rs9 ct g (nx9 g id) ∧ id < nx9 g id ∧ (id9 (nx9 g id) ∨ nx9 g id = 11) := by
  unfold id9 at h
  rcases h with rfl | rfl | rfl | rfl | rfl | rfl
  · cases g <;> exact ⟨rfl, by decide, Or.inl (by unfold id9; decide)⟩
  · cases g <;> exact ⟨rfl, by decide, Or.inl (by unfold id9; decide)⟩
  · cases g
    · exact ⟨rfl, by decide, Or.inl (by unfold id9; decide)⟩
    · exact ⟨rfl, by decide, Or.inl (by unfold id9; decide)⟩
  · exact ⟨rfl, by cases g <;> decide, by cases g <;> exact Or.inl (by unfold id9; decide)⟩
  · exact ⟨rfl, by cases g <;> decide, by cases g <;> exact Or.inl (by unfold id9; decide)⟩
  · exact ⟨by show r10 ct = r10 ct ++ []; rw [List.append_nil], by cases g <;> decide, by cases g <;> exact Or.inr rfl⟩
theorem num9 {g : Bool} {id : Nat} (h : id9 id) : (id ≠ 1 → 1 < id) ∧ (3 < nx9 g id → id ≠ 3 → 3 < id) ∧ (5 < nx9 g id → id ≠ 5 → 5 < id) ∧ (6 < nx9 g id → id ≠ 6 → id ≠ 5 → 6 < id) ∧ (6 < nx9 g id → id = 5 → g = false) ∧ (nx9 g id ≤ 6 → id ≠ 6 ∧ id ≤ 6) ∧ (7 < nx9 g id → id ≠ 7 → 7 < id) ∧ (10 < nx9 g id → id = 10) ∧ (nx9 g id ≤ 10 → id ≠ 10 ∧ id ≤ 10) := by
  unfold id9 at h
  rcases h with rfl | rfl | rfl | rfl | rfl | rfl <;> cases g <;> decide
theorem p9_of {p : Int32} {id : Nat} (h : p.toInt = (id : Int)) (k : Nat) : p.toInt = (k : Int) ↔ id = k := by (first | (apply Int.le_antisymm <;> omega) | omega)
section RA
variable (g : Bool) (qTs : List Nat) (qtk : Nat → Int) (qft qto : Nat → Int32) (qn : Nat) (qG : List (Nat × Int)) (qX : List (List Nat × Nat × Nat)) (qgv : Nat → Int) (qgc : Int)
def A1 (tc : Int32) (wat wap wag : Nat → Int32) : Prop := tc.toInt = (qTs.length : Int) ∧ (∀ t : Nat, (t : Int) < (qTs.length : Int) → ∃ r, qTs[t]? = some r ∧ (wat t).toInt = qtk r ∧ (wag t).toInt = (qft r).toInt) ∧ (∀ j : Nat, (j : Int) < 8 * (qTs.length : Int) → ((j % 8 : Nat) : Int) < (wat (j / 8)).toInt → ((wap j).toInt = 127 ∨ (wap j).toInt = 126))
def A3 (fcn : Int32) (waf : Nat → Int32) : Prop := fcn.toInt = (qn : Int) ∧ ∀ f : Nat, (f : Int) < (qn : Int) → (waf f).toInt = (qto f).toInt
def A5 (hm : Int32) (pl_ pm : Int64) : Prop := hm.toInt = 1 ∧ pl_.toInt = 1 ∧ pm.toInt = 2
def A6 (gcn : Int32) (wgt : Nat → Int32) : Prop := gcn.toInt = (qG.length : Int) ∧ ∀ g : Nat, (g : Int) < (qG.length : Int) → (wgt g).toInt = 127 ∨ (wgt g).toInt = 126
def A7 (ec : Int32) (wez : Nat → Int32) : Prop := ec.toInt = (qX.length : Int) ∧ ∀ g : Nat, (g : Int) < (qX.length : Int) → 0 ≤ (wez g).toInt
def A10 (cc acl lc : Int32) (cfi clk clt cop cpt cel : Nat → Int32) (cva : Nat → Int64) : Prop := cc.toInt = (qn : Int) ∧ rd_C (qn : Int) acl.toInt lc.toInt cfi clk clt cop cpt cel cva ∧ ∀ f, f < qn → cx qgv qtk qn qgc qft cfi clk cop cva f
def rA (id : Nat) (tc fcn hm gcn ec cc acl lc : Int32) (pl_ pm : Int64) (wat wap wag waf wgt wez cfi clk clt cop cpt cel : Nat → Int32) (cva : Nat → Int64) : Prop :=
  (1 < id → A1 qTs qtk qft tc wat wap wag) ∧ (3 < id → A3 qto qn fcn waf) ∧ (5 < id → A5 hm pl_ pm) ∧ (6 < id → A6 qG gcn wgt) ∧ (id ≤ 6 → gcn.toInt = 0) ∧ (7 < id → A7 qX ec wez) ∧ (10 < id → A10 qtk qft qn qgv qgc cc acl lc cfi clk clt cop cpt cel cva) ∧ (id ≤ 10 → acl.toInt = 0)
end RA
theorem rA_next {g : Bool} {qTs : List Nat} {qtk : Nat → Int} {qft qto : Nat → Int32} {qn : Nat} {qG : List (Nat × Int)} {qX : List (List Nat × Nat × Nat)} {qgv : Nat → Int} {qgc : Int} {id : Nat}
    {tc fcn hm gcn ec cc acl lc tc2 fcn2 hm2 gcn2 ec2 cc2 acl2 p0 : Int32} {pl_ pm pl2 pm2 : Int64} {wat wap wag waf wgt wez cfi clk clt cop cpt cel wat2 wap2 wag2 waf2 wgt2 wez2 cfi2 clk2 clt2 cop2 cpt2 cel2 : Nat → Int32} {cva cva2 : Nat → Int64}
    (hi : id9 id) (hp : p0.toInt = (id : Int)) (hg : g = true ↔ qG ≠ []) (h : rA qTs qtk qft qto qn qG qX qgv qgc id tc fcn hm gcn ec cc acl lc pl_ pm wat wap wag waf wgt wez cfi clk clt cop cpt cel cva)
    (q1 : (p0.toInt = 1 → A1 qTs qtk qft tc2 wat2 wap2 wag2) ∧ (p0.toInt ≠ 1 → wat2 = wat ∧ wap2 = wap ∧ wag2 = wag ∧ tc2 = tc))
    (q3 : (p0.toInt = 3 → A3 qto qn fcn2 waf2) ∧ (p0.toInt ≠ 3 → waf2 = waf ∧ fcn2 = fcn))
    (q5 : (p0.toInt = 5 → A5 hm2 pl2 pm2) ∧ (p0.toInt ≠ 5 → hm2 = hm ∧ pl2 = pl_ ∧ pm2 = pm))
    (q6 : (p0.toInt = 6 → A6 qG gcn2 wgt2) ∧ (p0.toInt ≠ 6 → wgt2 = wgt ∧ gcn2 = gcn))
    (q7 : (p0.toInt = 7 → A7 qX ec2 wez2) ∧ (p0.toInt ≠ 7 → wez2 = wez ∧ ec2 = ec))
    (q10 : (p0.toInt = 10 → A10 qtk qft qn qgv qgc cc2 acl2 lc cfi2 clk2 clt2 cop2 cpt2 cel2 cva2) ∧ (p0.toInt ≠ 10 → cc2 = cc ∧ acl2 = acl ∧ cfi2 = cfi ∧ clk2 = clk ∧ clt2 = clt ∧ cop2 = cop ∧ cpt2 = cpt ∧ cel2 = cel ∧ cva2 = cva)) :
    rA qTs qtk qft qto qn qG qX qgv qgc (nx9 g id) tc2 fcn2 hm2 gcn2 ec2 cc2 acl2 lc pl2 pm2 wat2 wap2 wag2 waf2 wgt2 wez2 cfi2 clk2 clt2 cop2 cpt2 cel2 cva2 := by
  obtain ⟨h1, h3, h5, h6, h6z, h7, h10, h10z⟩ := h
  obtain ⟨n1, n3, n5, n6, n6g, n6z, n7, n10, n10z⟩ := num9 (g := g) hi
  have e := p9_of hp
  refine ⟨fun z => ?_, fun z => ?_, fun z => ?_, fun z => ?_, fun z => ?_, fun z => ?_, fun z => ?_, fun z => ?_⟩
  · by_cases c : id = 1
    · exact q1.1 ((e 1).mpr c)
    · obtain ⟨a, b, d, f⟩ := q1.2 (fun w => c ((e 1).mp w))
      rw [a, b, d, f]
      exact h1 (n1 c)
  · by_cases c : id = 3
    · exact q3.1 ((e 3).mpr c)
    · obtain ⟨a, b⟩ := q3.2 (fun w => c ((e 3).mp w))
      rw [a, b]
      exact h3 (n3 z c)
  · by_cases c : id = 5
    · exact q5.1 ((e 5).mpr c)
    · obtain ⟨a, b, d⟩ := q5.2 (fun w => c ((e 5).mp w))
      rw [a, b, d]
      exact h5 (n5 z c)
  · by_cases c : id = 6
    · exact q6.1 ((e 6).mpr c)
    · obtain ⟨a, b⟩ := q6.2 (fun w => c ((e 6).mp w))
      rw [a, b]
      by_cases c5 : id = 5
      · have gf := n6g z c5
        have qe : qG = [] := by
          rcases qG with _ | ⟨x, G⟩
          · rfl
          · exfalso
            rw [gf] at hg
            exact absurd (hg.mpr (by simp)) (by decide)
        refine ⟨by rw [qe]; exact h6z (by rw [c5]; decide), fun k hk => ?_⟩
        rw [qe, List.length_nil] at hk
        exact absurd hk (by clear hk h1 h3 h5 h6 h6z h7 h10 h10z q1 q3 q5 q6 q7 q10; (first | (apply Int.le_antisymm <;> omega) | omega))
      · exact h6 (n6 z c c5)
  · obtain ⟨a, b⟩ := q6.2 (fun w => (n6z z).1 ((e 6).mp w))
    rw [b]
    exact h6z (n6z z).2
  · by_cases c : id = 7
    · exact q7.1 ((e 7).mpr c)
    · obtain ⟨a, b⟩ := q7.2 (fun w => c ((e 7).mp w))
      rw [a, b]
      exact h7 (n7 z c)
  · exact q10.1 ((e 10).mpr (n10 z))
  · obtain ⟨-, b, -⟩ := q10.2 (fun w => (n10z z).1 ((e 10).mp w))
    rw [b]
    exact h10z (n10z z).2
abbrev at_RE_readx (dC : Nat → ClassId) (dI : Nat → Nat → Nat) (sa : Nat → Nat) (h0 ob aw ab ac wat wap wag waf wgt wft wfv wgc wek wei wes wez ax cfi clk clt cop cva cpt cel cla : Nat) (cax cob cwaf cwat cwap cwag cwgt cwft cwfv cwgc cwek cwei cwes cwez ccfi cclk cclt ccop ccva ccpt ccel : ClassId) (h0_wafer : Value) (h0_codes : Value) (ab_length : Int32) (gax : Nat → Int32) (A : Nat → Prop) (u : (Nat → Int32) × (Nat → Int32) × (Nat → Int32) × (Nat → Int32) × (Nat → Int32) × (Nat → Int32) × (Nat → Int64) × (Nat → Int32) × (Nat → Int32) × (Nat → Int32) × (Nat → Int32) × (Nat → Int32) × (Nat → Int32) × (Nat → Int32) × (Nat → Int32) × (Nat → Int32) × (Nat → Int32) × (Nat → Int64) × (Nat → Int32) × (Nat → Int32) × Int32 × Int32 × Int32 × Int32 × Int32 × Int32 × Int64 × Int64 × Int32 × Int32 × Int32 × Int32 × Int32 × Int32) (t : State) : Prop := match u with | (gcel, gcfi, gclk, gclt, gcop, gcpt, gcva, gob, gwaf, gwag, gwap, gwat, gwei, gwek, gwes, gwez, gwft, gwfv, gwgc, gwgt, ac_labelCount, ac_length, aw_exportCount, aw_functionCount, aw_globalCount, aw_hasMemory, aw_pagesLeast, aw_pagesMost, aw_typeCount, h0_at, h0_codeCount, h0_limit, h0_openCount, h0_sound) => va_P (dC, dI) cls (wz_246 h0 aw ac h0_at h0_limit h0_sound h0_codeCount ob h0_openCount aw ab ac aw_typeCount wat wap wag aw_functionCount waf aw_hasMemory aw_pagesLeast aw_pagesMost aw_globalCount wgt wft wfv wgc aw_exportCount wek wei wes wez ab ax ab_length ac cfi clk clt ac_length cop cva cpt cel ac_labelCount cla ax cax gax ob cob gob waf cwaf gwaf wat cwat gwat wap cwap gwap wag cwag gwag wgt cwgt gwgt wft cwft gwft wfv cwfv gwfv wgc cwgc gwgc wek cwek gwek wei cwei gwei wes cwes gwes wez cwez gwez cfi ccfi gcfi clk cclk gclk clt cclt gclt cop ccop gcop cva ccva gcva cpt ccpt gcpt cel ccel gcel) t.heap ∧ va_K (dC, dI) cls [(cax, .byte), (cob, .int), (cwaf, .int), (cwat, .int), (cwap, .int), (cwag, .int), (cwgt, .int), (cwft, .int), (cwfv, .long), (cwgc, .boolean), (cwek, .int), (cwei, .int), (cwes, .int), (cwez, .int), (ccfi, .int), (cclk, .int), (cclt, .int), (ccop, .int), (ccva, .long), (ccpt, .int), (ccel, .int)] t ∧ va_D A (wz_246 h0 aw ac h0_at h0_limit h0_sound h0_codeCount ob h0_openCount aw ab ac aw_typeCount wat wap wag aw_functionCount waf aw_hasMemory aw_pagesLeast aw_pagesMost aw_globalCount wgt wft wfv wgc aw_exportCount wek wei wes wez ab ax ab_length ac cfi clk clt ac_length cop cva cpt cel ac_labelCount cla ax cax gax ob cob gob waf cwaf gwaf wat cwat gwat wap cwap gwap wag cwag gwag wgt cwgt gwgt wft cwft gwft wfv cwfv gwfv wgc cwgc gwgc wek cwek gwek wei cwei gwei wes cwes gwes wez cwez gwez cfi ccfi gcfi clk cclk gclk clt cclt gclt cop ccop gcop cva ccva gcva cpt ccpt gcpt cel ccel gcel)
set_option maxHeartbeats 4000000 in
set_option maxRecDepth 100000 in
theorem c_RE_readx (l : Launch) (dC : Nat → ClassId) (dI : Nat → Nat → Nat) (sz : Nat) (sa : Nat → Nat) (h0 ob aw ab ac wat wap wag waf wgt wft wfv wgc wek wei wes wez ax cfi clk clt cop cva cpt cel cla : Nat) (cax cob cwaf cwat cwap cwag cwgt cwft cwfv cwgc cwek cwei cwes cwez ccfi cclk cclt ccop ccva ccpt ccel : ClassId) (h0_wafer : Value) (h0_codes : Value) (h0_at : Int32) (h0_limit : Int32) (h0_sound : Int32) (h0_codeCount : Int32) (h0_openCount : Int32) (aw_typeCount : Int32) (aw_functionCount : Int32) (aw_hasMemory : Int32) (aw_pagesLeast : Int64) (aw_pagesMost : Int64) (aw_globalCount : Int32) (aw_exportCount : Int32) (ab_length : Int32) (ac_length : Int32) (ac_labelCount : Int32) (gax : Nat → Int32) (gob : Nat → Int32) (gwaf : Nat → Int32) (gwat : Nat → Int32) (gwap : Nat → Int32) (gwag : Nat → Int32) (gwgt : Nat → Int32) (gwft : Nat → Int32) (gwfv : Nat → Int64) (gwgc : Nat → Int32) (gwek : Nat → Int32) (gwei : Nat → Int32) (gwes : Nat → Int32) (gwez : Nat → Int32) (gcfi : Nat → Int32) (gclk : Nat → Int32) (gclt : Nat → Int32) (gcop : Nat → Int32) (gcva : Nat → Int64) (gcpt : Nat → Int32) (gcel : Nat → Int32) (qct : Nat → List Nat) (qg : Bool) (qTs : List Nat) (qtb : List Nat) (qtk : Nat → Int) (qft : Nat → Int32) (qto : Nat → Int32) (qn : Nat) (qG : List (Nat × Int)) (qX : List (List Nat × Nat × Nat)) (qcb : List Nat) (qI : Nat) (qgv : Nat → Int) (qgc : Int)  (b_h0_sound : h0_sound = 0 ∨ h0_sound = 1) (b_h0_codeCount : 0 ≤ h0_codeCount.toInt ∧ h0_codeCount.toInt ≤ 30) (b_h0_openCount : 0 ≤ h0_openCount.toInt ∧ h0_openCount.toInt ≤ 100) (b_aw_typeCount : 0 ≤ aw_typeCount.toInt ∧ aw_typeCount.toInt ≤ 20) (b_aw_functionCount : 0 ≤ aw_functionCount.toInt ∧ aw_functionCount.toInt ≤ 30) (b_aw_hasMemory : aw_hasMemory = 0 ∨ aw_hasMemory = 1) (b_aw_globalCount : 0 ≤ aw_globalCount.toInt ∧ aw_globalCount.toInt ≤ 20) (b_aw_exportCount : 0 ≤ aw_exportCount.toInt ∧ aw_exportCount.toInt ≤ 40) (b_ac_length : 0 ≤ ac_length.toInt ∧ ac_length.toInt ≤ 5000) (b_ac_labelCount : 0 ≤ ac_labelCount.toInt ∧ ac_labelCount.toInt ≤ 2000)   (hal : 0 ≤ ab_length.toInt ∧ ab_length.toInt ≤ 8192) (hel : bx (∀ j : Nat, (gcel j).toInt < 5000)) (hbs : bx (bq gax 0 ([0, 97, 115, 109, 1, 0, 0, 0] ++ rs9 qct qg 1))) (hlen : ab_length.toInt = 8 + ((rs9 qct qg 1).length : Int)) (hqg : qg = true ↔ qG ≠ []) (htk : bx (∀ f, f < qn → 0 ≤ qtk f)) (c1 : bx (qct 1 = qTs.length :: qtb ∧ qTs.length ≤ 20 ∧ tB qtk qft qTs qtb ∧ (∀ r ∈ qTs, qtk r ≤ 8) ∧ (∀ r ∈ qTs, ty (qft r).toInt))) (c3 : bx (qct 3 = qn :: tol qto qn ∧ qn ≤ 20 ∧ ∀ f, f < qn → 0 ≤ (qto f).toInt ∧ (qto f).toInt < 128)) (c5 : bx (qct 5 = [1, 1, 1, 2])) (c6 : bx (qct 6 = qG.length :: gbl qG ∧ qG.length ≤ 20 ∧ ∀ x ∈ qG, gok x)) (c7 : bx (qct 7 = qX.length :: exb qX ∧ qX.length ≤ 40 ∧ ∀ x ∈ qX, eok x)) (c10 : bx (qct 10 = qn :: qcb ∧ qn ≤ 20 ∧ cF qgv qtk qn qgc qft 0 qn qcb qI ∧ qI ≤ 5000)) : Met l y_RE_read w_RE_read ({ frames := 6, cells := 0, slots := 0, locals := 138 }) (va_Pc [.ref h0, .ref aw] (fun U => U.heap.size = sz ∧ va_P (dC, dI) cls (wz_249 h0 h0_wafer h0_codes h0_at h0_limit h0_sound h0_codeCount ob h0_openCount aw ab ac aw_typeCount wat wap wag aw_functionCount waf aw_hasMemory aw_pagesLeast aw_pagesMost aw_globalCount wgt wft wfv wgc aw_exportCount wek wei wes wez ab ax ab_length ac cfi clk clt ac_length cop cva cpt cel ac_labelCount cla ax cax gax ob cob gob waf cwaf gwaf wat cwat gwat wap cwap gwap wag cwag gwag wgt cwgt gwgt wft cwft gwft wfv cwfv gwfv wgc cwgc gwgc wek cwek gwek wei cwei gwei wes cwes gwes wez cwez gwez cfi ccfi gcfi clk cclk gclk clt cclt gclt cop ccop gcop cva ccva gcva cpt ccpt gcpt cel ccel gcel) U.heap ∧ va_K (dC, dI) cls [(cax, .byte), (cob, .int), (cwaf, .int), (cwat, .int), (cwap, .int), (cwag, .int), (cwgt, .int), (cwft, .int), (cwfv, .long), (cwgc, .boolean), (cwek, .int), (cwei, .int), (cwes, .int), (cwez, .int), (ccfi, .int), (cclk, .int), (cclt, .int), (ccop, .int), (ccva, .long), (ccpt, .int), (ccel, .int)] U ∧ va_D (fun _ => True) (wz_249 h0 h0_wafer h0_codes h0_at h0_limit h0_sound h0_codeCount ob h0_openCount aw ab ac aw_typeCount wat wap wag aw_functionCount waf aw_hasMemory aw_pagesLeast aw_pagesMost aw_globalCount wgt wft wfv wgc aw_exportCount wek wei wes wez ab ax ab_length ac cfi clk clt ac_length cop cva cpt cel ac_labelCount cla ax cax gax ob cob gob waf cwaf gwaf wat cwat gwat wap cwap gwap wag cwag gwag wgt cwgt gwgt wft cwft gwft wfv cwfv gwfv wgc cwgc gwgc wek cwek gwek wei cwei gwei wes cwes gwes wez cwez gwez cfi ccfi gcfi clk cclk gclk clt cclt gclt cop ccop gcop cva ccva gcva cpt ccpt gcpt cel ccel gcel) ∧ sw sa (va_A (wz_249 h0 h0_wafer h0_codes h0_at h0_limit h0_sound h0_codeCount ob h0_openCount aw ab ac aw_typeCount wat wap wag aw_functionCount waf aw_hasMemory aw_pagesLeast aw_pagesMost aw_globalCount wgt wft wfv wgc aw_exportCount wek wei wes wez ab ax ab_length ac cfi clk clt ac_length cop cva cpt cel ac_labelCount cla ax cax gax ob cob gob waf cwaf gwaf wat cwat gwat wap cwap gwap wag cwag gwag wgt cwgt gwgt wft cwft gwft wfv cwfv gwfv wgc cwgc gwgc wek cwek gwek wei cwei gwei wes cwes gwes wez cwez gwez cfi ccfi gcfi clk cclk gclk clt cclt gclt cop ccop gcop cva ccva gcva cpt ccpt gcpt cel ccel gcel) sz) U U.heap)) (va_Qi (fun (r : Int32) (u : (Nat → Int32) × (Nat → Int32) × (Nat → Int32) × (Nat → Int32) × (Nat → Int32) × (Nat → Int32) × (Nat → Int64) × (Nat → Int32) × (Nat → Int32) × (Nat → Int32) × (Nat → Int32) × (Nat → Int32) × (Nat → Int32) × (Nat → Int32) × (Nat → Int32) × (Nat → Int32) × (Nat → Int32) × (Nat → Int64) × (Nat → Int32) × (Nat → Int32) × Int32 × Int32 × Int32 × Int32 × Int32 × Int32 × Int64 × Int64 × Int32 × Int32 × Int32 × Int32 × Int32 × Int32) => match u with | (gcel2, gcfi2, gclk2, gclt2, gcop2, gcpt2, gcva2, gob2, gwaf2, gwag2, gwap2, gwat2, gwei2, gwek2, gwes2, gwez2, gwft2, gwfv2, gwgc2, gwgt2, ac_labelCount2, ac_length2, aw_exportCount2, aw_functionCount2, aw_globalCount2, aw_hasMemory2, aw_pagesLeast2, aw_pagesMost2, aw_typeCount2, h0_at2, h0_codeCount2, h0_limit2, h0_openCount2, h0_sound2) => (r = 0 ∨ r = 1) ∧ (0 ≤ ac_labelCount2.toInt ∧ ac_labelCount2.toInt ≤ 2000) ∧ (0 ≤ ac_length2.toInt ∧ ac_length2.toInt ≤ 5000) ∧ (0 ≤ aw_exportCount2.toInt ∧ aw_exportCount2.toInt ≤ 40) ∧ (0 ≤ aw_functionCount2.toInt ∧ aw_functionCount2.toInt ≤ 30) ∧ (0 ≤ aw_globalCount2.toInt ∧ aw_globalCount2.toInt ≤ 20) ∧ (aw_hasMemory2 = 0 ∨ aw_hasMemory2 = 1) ∧ (0 ≤ aw_typeCount2.toInt ∧ aw_typeCount2.toInt ≤ 20) ∧ (0 ≤ h0_codeCount2.toInt ∧ h0_codeCount2.toInt ≤ 30) ∧ (0 ≤ h0_openCount2.toInt ∧ h0_openCount2.toInt ≤ 100) ∧ (h0_sound2 = 0 ∨ h0_sound2 = 1) ∧ (r.toInt = 1 ∧ rA qTs qtk qft qto qn qG qX qgv qgc 11 aw_typeCount2 aw_functionCount2 aw_hasMemory2 aw_globalCount2 aw_exportCount2 h0_codeCount2 ac_length2 ac_labelCount2 aw_pagesLeast2 aw_pagesMost2 gwat2 gwap2 gwag2 gwaf2 gwgt2 gwez2 gcfi2 gclk2 gclt2 gcop2 gcpt2 gcel2 gcva2 ∧ (∀ j : Nat, (gcel2 j).toInt < 5000) ∧ ac_labelCount2.toInt = 0)) (at_RE_readx dC dI sa h0 ob aw ab ac wat wap wag waf wgt wft wfv wgc wek wei wes wez ax cfi clk clt cop cva cpt cel cla cax cob cwaf cwat cwap cwag cwgt cwft cwfv cwgc cwek cwei cwes cwez ccfi cclk cclt ccop ccva ccpt ccel h0_wafer h0_codes ab_length gax (va_A (wz_249 h0 h0_wafer h0_codes h0_at h0_limit h0_sound h0_codeCount ob h0_openCount aw ab ac aw_typeCount wat wap wag aw_functionCount waf aw_hasMemory aw_pagesLeast aw_pagesMost aw_globalCount wgt wft wfv wgc aw_exportCount wek wei wes wez ab ax ab_length ac cfi clk clt ac_length cop cva cpt cel ac_labelCount cla ax cax gax ob cob gob waf cwaf gwaf wat cwat gwat wap cwap gwap wag cwag gwag wgt cwgt gwgt wft cwft gwft wfv cwfv gwfv wgc cwgc gwgc wek cwek gwek wei cwei gwei wes cwes gwes wez cwez gwez cfi ccfi gcfi clk cclk gclk clt cclt gclt cop ccop gcop cva ccva gcva cpt ccpt gcpt cel ccel gcel) sz)) (va_A (wz_249 h0 h0_wafer h0_codes h0_at h0_limit h0_sound h0_codeCount ob h0_openCount aw ab ac aw_typeCount wat wap wag aw_functionCount waf aw_hasMemory aw_pagesLeast aw_pagesMost aw_globalCount wgt wft wfv wgc aw_exportCount wek wei wes wez ab ax ab_length ac cfi clk clt ac_length cop cva cpt cel ac_labelCount cla ax cax gax ob cob gob waf cwaf gwaf wat cwat gwat wap cwap gwap wag cwag gwag wgt cwgt gwgt wft cwft gwft wfv cwfv gwfv wgc cwgc gwgc wek cwek gwek wei cwei gwei wes cwes gwes wez cwez gwez cfi ccfi gcfi clk cclk gclk clt cclt gclt cop ccop gcop cva ccva gcva cpt ccpt gcpt cel ccel gcel) sz)) 0 0 (va_A (wz_249 h0 h0_wafer h0_codes h0_at h0_limit h0_sound h0_codeCount ob h0_openCount aw ab ac aw_typeCount wat wap wag aw_functionCount waf aw_hasMemory aw_pagesLeast aw_pagesMost aw_globalCount wgt wft wfv wgc aw_exportCount wek wei wes wez ab ax ab_length ac cfi clk clt ac_length cop cva cpt cel ac_labelCount cla ax cax gax ob cob gob waf cwaf gwaf wat cwat gwat wap cwap gwap wag cwag gwag wgt cwgt gwgt wft cwft gwft wfv cwfv gwfv wgc cwgc gwgc wek cwek gwek wei cwei gwei wes cwes gwes wez cwez gwez cfi ccfi gcfi clk cclk gclk clt cclt gclt cop ccop gcop cva ccva gcva cpt ccpt gcpt cel ccel gcel) sz) := by
  refine Met.ofW (cc := b_RE_read) (maxL := 6) (ret := (Option.some .boolean)) (by decide) rfl ?_
  intro p e s m args below meth c s₁ B hml hv
  obtain ⟨rfl, hsz, hP, hK, hD0, hSW⟩ := hv
  have hx := B.exec
  have hb := B.bytes
  have hr := B.returns
  have hts0 := atoms_spec (ws := w_RE_read) B.pre
  have hts : ∀ w ∈ lw_g, w.before _ s = true := fun w h => hts0 w (List.mem_cons_of_mem _ h)
  have hown : s.vm.findClass R_RE = some m.cls := findClass_of_methodNamed B.named
  have hlocks := B.notSynchronized
  clear hts0
  subst hsz
  have hD := hD0.self (sz := s.heap.size)
  generalize hAe : va_A (wz_249 h0 h0_wafer h0_codes h0_at h0_limit h0_sound h0_codeCount ob h0_openCount aw ab ac aw_typeCount wat wap wag aw_functionCount waf aw_hasMemory aw_pagesLeast aw_pagesMost aw_globalCount wgt wft wfv wgc aw_exportCount wek wei wes wez ab ax ab_length ac cfi clk clt ac_length cop cva cpt cel ac_labelCount cla ax cax gax ob cob gob waf cwaf gwaf wat cwat gwat wap cwap gwap wag cwag gwag wgt cwgt gwgt wft cwft gwft wfv cwfv gwfv wgc cwgc gwgc wek cwek gwek wei cwei gwei wes cwes gwes wez cwez gwez cfi ccfi gcfi clk cclk gclk clt cclt gclt cop ccop gcop cva ccva gcva cpt ccpt gcpt cel ccel gcel) s.heap.size = A at hD hSW ⊢
  have hA : ∀ q : Nat, s.heap.size ≤ q → A q := fun q h => by rw [← hAe]; exact Or.inr h
  clear hAe
  have hP : va_P (dC, dI) cls (wz_249 h0 h0_wafer h0_codes h0_at h0_limit h0_sound h0_codeCount ob h0_openCount aw ab ac aw_typeCount wat wap wag aw_functionCount waf aw_hasMemory aw_pagesLeast aw_pagesMost aw_globalCount wgt wft wfv wgc aw_exportCount wek wei wes wez ab ax ab_length ac cfi clk clt ac_length cop cva cpt cel ac_labelCount cla ax cax gax ob cob gob waf cwaf gwaf wat cwat gwat wap cwap gwap wag cwag gwag wgt cwgt gwgt wft cwft gwft wfv cwfv gwfv wgc cwgc gwgc wek cwek gwek wei cwei gwei wes cwes gwes wez cwez gwez cfi ccfi gcfi clk cclk gclk clt cclt gclt cop ccop gcop cva ccva gcva cpt ccpt gcpt cel ccel gcel) s.heap := hP
  have hl := lv_entry ([.ref h0, .ref aw]) (n := 6) (Nat.le_of_ble_eq_true rfl)
  rw [lg_entry_eq]
  generalize (lg_sl ([.ref h0, .ref aw]) ++ List.replicate (6 - (lg_sl ([.ref h0, .ref aw])).length) Slot.unset).toArray = ls at hl ⊢
  have hl : lv_has ls 6 [(0, .ref h0), (1, .ref aw)] := hl
  have k0 : (0 : Int32).toInt = 0 := by decide
  refine w_gen (A := A) hP (fun H locs hP hS => ?_)
  have k1 : (1 : Int32).toInt = 1 := by decide
  have k8192 : (8192 : Int32).toInt = 8192 := by decide
  have th0_sound := b01 b_h0_sound
  have taw_hasMemory := b01 b_aw_hasMemory
  obtain ⟨m0, m1, m2, m3, m4, m5, m6, m7, m8⟩ := hbs.out
  replace m8 : bx _ := m8
  have h64 : bx (∀ i : Nat, i < 8 → (bn (gax i) : Int) = (sgH.getD i 0).toInt) := fun i hi => by
    have c : i = 0 ∨ i = 1 ∨ i = 2 ∨ i = 3 ∨ i = 4 ∨ i = 5 ∨ i = 6 ∨ i = 7 := by (first | (apply Int.le_antisymm <;> omega) | omega)
    rcases c with rfl | rfl | rfl | rfl | rfl | rfl | rfl | rfl
    · exact (congrArg (fun n : Nat => (n : Int)) m0).trans (by decide)
    · exact (congrArg (fun n : Nat => (n : Int)) m1).trans (by decide)
    · exact (congrArg (fun n : Nat => (n : Int)) m2).trans (by decide)
    · exact (congrArg (fun n : Nat => (n : Int)) m3).trans (by decide)
    · exact (congrArg (fun n : Nat => (n : Int)) m4).trans (by decide)
    · exact (congrArg (fun n : Nat => (n : Int)) m5).trans (by decide)
    · exact (congrArg (fun n : Nat => (n : Int)) m6).trans (by decide)
    · exact (congrArg (fun n : Nat => (n : Int)) m7).trans (by decide)
  clear m0 m1 m2 m3 m4 m5 m6 m7
  refine lv_aload_n hx hb d_RE_read_0 rfl (lv_at hl 0 rfl) ?_
  refine lv_aload_n hx hb d_RE_read_1 rfl (lv_at hl 1 rfl) ?_
  refine va_put (D := (dC, dI)) (ci := 7) (v := .ref aw) (ty := .object "WaferForge$Wafer") (C := R_RE) (T := F_RE) (N := 8) hx hb hts i_RE t_RE t_RE_ok n_RE hown hK hP hD hS 0 rfl rfl 0 (by decide) (hts _ kF_RE_15) (fun _ h9 => h9) rfl (by decide +kernel) rfl rfl (Nat.le_of_ble_eq_true rfl) d_RE_read_2 (fun H locs hP hD hS => ?_)
  refine lv_aload_n hx hb d_RE_read_5 rfl (lv_at hl 0 rfl) ?_
  refine lv_aload_n hx hb d_RE_read_6 rfl (lv_at hl 1 rfl) ?_
  refine va_get (D := (dC, dI)) (ci := 10) (v := .ref ac) (C := R_WA) (T := F_WA) (N := 21) hx hb hts i_WA hown hK hP 1 rfl rfl 1 (by decide) (hts _ kF_RE_19) (fun _ h9 => h9) rfl d_RE_read_7 ?_
  refine va_put (D := (dC, dI)) (ci := 7) (v := .ref ac) (ty := .object "WaferForge$Codes") (C := R_RE) (T := F_RE) (N := 8) hx hb hts i_RE t_RE t_RE_ok n_RE hown hK hP hD hS 0 rfl rfl 1 (by decide) (hts _ kF_RE_25) (fun _ h9 => h9) rfl (by decide +kernel) rfl rfl (Nat.le_of_ble_eq_true rfl) d_RE_read_10 (fun H locs hP hD hS => ?_)
  refine lv_aload_n hx hb d_RE_read_13 rfl (lv_at hl 0 rfl) ?_
  refine va_get (D := (dC, dI)) (ci := 7) (v := .ref aw) (C := R_RE) (T := F_RE) (N := 8) hx hb hts i_RE hown hK hP 0 rfl rfl 0 (by decide) (hts _ kF_RE_15) (fun _ h9 => h9) rfl d_RE_read_14 ?_
  have hPc := hP.sb (wq := (wz_61 aw ab ac aw_typeCount wat wap wag aw_functionCount waf aw_hasMemory aw_pagesLeast aw_pagesMost aw_globalCount wgt wft wfv wgc aw_exportCount wek wei wes wez ac cfi clk clt ac_length cop cva cpt cel ac_labelCount cla)) [1, 3] rfl
  have hDc := hD.sb (wq := (wz_61 aw ab ac aw_typeCount wat wap wag aw_functionCount waf aw_hasMemory aw_pagesLeast aw_pagesMost aw_globalCount wgt wft wfv wgc aw_exportCount wek wei wes wez ac cfi clk clt ac_length cop cva cpt cel ac_labelCount cla)) [1, 3] (by decide) rfl
  have hKc := hK.sb (tyq := []) [] rfl
  have hFc := va_free (wc := (wz_61 aw ab ac aw_typeCount wat wap wag aw_functionCount waf aw_hasMemory aw_pagesLeast aw_pagesMost aw_globalCount wgt wft wfv wgc aw_exportCount wek wei wes wez ac cfi clk clt ac_length cop cva cpt cel ac_labelCount cla)) hD hS hA [1, 3] rfl
  refine va_callv (va_runV (As := []) (rest := []) ⟨hx, hb, hml, hown, hts⟩ (c_WA_clear l dC dI H.size aw ab ac wat wap wag waf wgt wft wfv wgc wek wei wes wez cfi clk clt cop cva cpt cel cla aw_typeCount aw_functionCount aw_hasMemory aw_pagesLeast aw_pagesMost aw_globalCount aw_exportCount ac_length ac_labelCount (b_aw_typeCount) (b_aw_functionCount) (b_aw_hasMemory) (b_aw_globalCount) (b_aw_exportCount) (b_ac_length) (b_ac_labelCount)) (cwV 0 hts (gV kM_RE_26 kV_WA_clear kS_WA_clear kI_WA kC_WA_clear) rfl rfl rfl (by decide +kernel) ⟨Nat.le_of_ble_eq_true rfl, Nat.le_of_ble_eq_true rfl⟩) ⟨fun a U g mk z => by obtain ⟨z0, z1, zP, zK, zD⟩ := z; exact ⟨z0, z1, zP, va_K.moved (u := U) (U := U.calling g mk a) (Vm.Alike.refl U.vm) zK, zD⟩, va_recv hKc hPc (ci := 10) (q0 := 0) rfl rfl, fun U hU hW => ⟨rfl, by rw [hU], va_P.he hU.symm hPc, va_K.moved hW.alike hKc, hDc.weaken (fun _ _ _ _ => trivial)⟩⟩ rfl rfl hl.1 rfl (lv_room (Nat.le_of_ble_eq_true rfl)) d_RE_read_17 ⟨(Nat.zero_le _), (Nat.zero_le _)⟩) hS (fun q _ h => hFc q h) hFc (fun u t H1 locs ht hvm hw hB hz1 hk1 hS => ?_)
  obtain ⟨n2, n3, n4, n5, n6, n7, n8, n9, n10⟩ := u
  try dsimp only at hw
  obtain ⟨bn2, bn3, bn4, bn5, bn6, bn7, bn10, xr1⟩ := hw
  try clear hw
  have tn7 := b01 bn7
  obtain ⟨z1, z2, z3, z4, z5, z6, z7, z8⟩ := xr1
  obtain ⟨hP1, hK1, hD1⟩ := hB
  replace hP1 := va_P.he ht hP1
  obtain ⟨hP, hD⟩ := va_join (wr := [(h0, .inr (7, [.ref aw, .ref ac, .int h0_at, .int h0_limit, .int h0_sound, .int h0_codeCount, .ref ob, .int h0_openCount])), (ab, .inr (1, [.ref ax, .int ab_length])), (ax, .inl (cax, 8192, .inl gax)), (ob, .inl (cob, 100, .inl gob)), (waf, .inl (cwaf, 30, .inl gwaf)), (wat, .inl (cwat, 20, .inl gwat)), (wap, .inl (cwap, 160, .inl gwap)), (wag, .inl (cwag, 20, .inl gwag)), (wgt, .inl (cwgt, 20, .inl gwgt)), (wft, .inl (cwft, 20, .inl gwft)), (wfv, .inl (cwfv, 20, .inr (.inl gwfv))), (wgc, .inl (cwgc, 20, .inl gwgc)), (wek, .inl (cwek, 40, .inl gwek)), (wei, .inl (cwei, 40, .inl gwei)), (wes, .inl (cwes, 40, .inl gwes)), (wez, .inl (cwez, 40, .inl gwez)), (cfi, .inl (ccfi, 31, .inl gcfi)), (clk, .inl (cclk, 30, .inl gclk)), (clt, .inl (cclt, 1800, .inl gclt)), (cop, .inl (ccop, 5000, .inl gcop)), (cva, .inl (ccva, 5000, .inr (.inl gcva))), (cpt, .inl (ccpt, 5000, .inl gcpt)), (cel, .inl (ccel, 5000, .inl gcel))]) (w1 := (wz_61 aw ab ac n10 wat wap wag n5 waf n7 n8 n9 n6 wgt wft wfv wgc n4 wek wei wes wez ac cfi clk clt n3 cop cva cpt cel n2 cla)) hP hD [1, 3] [0, 2, 4, 5, 6, 7, 8, 9, 10, 11, 12, 13, 14, 15, 16, 17, 18, 19, 20, 21, 22, 23, 24] rfl rfl (by decide) (by decide) hk1 hFc hP1 hD1
  clear hPc hDc hKc hFc hz1 hk1 hP1 hK1 hD1
  rename Heap => H
  have hP : va_P (dC, dI) cls (wz_250 h0 aw ac h0_at h0_limit h0_sound h0_codeCount ob h0_openCount ab ax ab_length ax cax gax ob cob gob waf cwaf gwaf wat cwat gwat wap cwap gwap wag cwag gwag wgt cwgt gwgt wft cwft gwft wfv cwfv gwfv wgc cwgc gwgc wek cwek gwek wei cwei gwei wes cwes gwes wez cwez gwez cfi ccfi gcfi clk cclk gclk clt cclt gclt cop ccop gcop cva ccva gcva cpt ccpt gcpt cel ccel gcel aw ab ac n10 wat wap wag n5 waf n7 n8 n9 n6 wgt wft wfv wgc n4 wek wei wes wez ac cfi clk clt n3 cop cva cpt cel n2 cla) H := hP
  have hD : va_D A (wz_250 h0 aw ac h0_at h0_limit h0_sound h0_codeCount ob h0_openCount ab ax ab_length ax cax gax ob cob gob waf cwaf gwaf wat cwat gwat wap cwap gwap wag cwag gwag wgt cwgt gwgt wft cwft gwft wfv cwfv gwfv wgc cwgc gwgc wek cwek gwek wei cwei gwei wes cwes gwes wez cwez gwez cfi ccfi gcfi clk cclk gclk clt cclt gclt cop ccop gcop cva ccva gcva cpt ccpt gcpt cel ccel gcel aw ab ac n10 wat wap wag n5 waf n7 n8 n9 n6 wgt wft wfv wgc n4 wek wei wes wez ac cfi clk clt n3 cop cva cpt cel n2 cla) := hD
  refine lv_aload_n hx hb d_RE_read_20 rfl (lv_at hl 0 rfl) ?_
  refine lv_iconst (v := 0) hx hb d_RE_read_21 (by decide) ?_
  refine va_put (D := (dC, dI)) (ci := 7) (v := .int 0) (ty := .int) (C := R_RE) (T := F_RE) (N := 8) hx hb hts i_RE t_RE t_RE_ok n_RE hown hK hP hD hS 0 rfl rfl 2 (by decide) (hts _ kF_RE_29) (fun _ h9 => h9) rfl (by decide +kernel) rfl rfl (Nat.le_of_ble_eq_true rfl) d_RE_read_22 (fun H locs hP hD hS => ?_)
  refine lv_aload_n hx hb d_RE_read_25 rfl (lv_at hl 0 rfl) ?_
  refine lv_aload_n hx hb d_RE_read_26 rfl (lv_at hl 0 rfl) ?_
  refine va_get (D := (dC, dI)) (ci := 7) (v := .ref aw) (C := R_RE) (T := F_RE) (N := 8) hx hb hts i_RE hown hK hP 0 rfl rfl 0 (by decide) (hts _ kF_RE_15) (fun _ h9 => h9) rfl d_RE_read_27 ?_
  refine va_get (D := (dC, dI)) (ci := 10) (v := .ref ab) (C := R_WA) (T := F_WA) (N := 21) hx hb hts i_WA hown hK hP 23 rfl rfl 0 (by decide) (hts _ kF_RE_33) (fun _ h9 => h9) rfl d_RE_read_30 ?_
  refine va_get (D := (dC, dI)) (ci := 1) (v := .int ab_length) (C := R_BR) (T := F_BR) (N := 2) hx hb hts i_BR hown hK hP 1 rfl rfl 1 (by decide) (hts _ kF_RE_37) (fun _ h9 => h9) rfl d_RE_read_33 ?_
  refine va_put (D := (dC, dI)) (ci := 7) (v := .int ab_length) (ty := .int) (C := R_RE) (T := F_RE) (N := 8) hx hb hts i_RE t_RE t_RE_ok n_RE hown hK hP hD hS 0 rfl rfl 3 (by decide) (hts _ kF_RE_42) (fun _ h9 => h9) rfl (by decide +kernel) rfl rfl (Nat.le_of_ble_eq_true rfl) d_RE_read_36 (fun H locs hP hD hS => ?_)
  refine lv_aload_n hx hb d_RE_read_39 rfl (lv_at hl 0 rfl) ?_
  refine lv_iconst (v := 1) hx hb d_RE_read_40 (by decide) ?_
  refine va_put (D := (dC, dI)) (ci := 7) (v := .int 1) (ty := .boolean) (C := R_RE) (T := F_RE) (N := 8) hx hb hts i_RE t_RE t_RE_ok n_RE hown hK hP hD hS 0 rfl rfl 4 (by decide) (hts _ kF_RE_45) (fun _ h9 => h9) rfl (by decide +kernel) rfl rfl (Nat.le_of_ble_eq_true rfl) d_RE_read_41 (fun H locs hP hD hS => ?_)
  refine lv_aload_n hx hb d_RE_read_44 rfl (lv_at hl 0 rfl) ?_
  refine lv_iconst (v := 0) hx hb d_RE_read_45 (by decide) ?_
  refine va_put (D := (dC, dI)) (ci := 7) (v := .int 0) (ty := .int) (C := R_RE) (T := F_RE) (N := 8) hx hb hts i_RE t_RE t_RE_ok n_RE hown hK hP hD hS 0 rfl rfl 5 (by decide) (hts _ kF_RE_49) (fun _ h9 => h9) rfl (by decide +kernel) rfl rfl (Nat.le_of_ble_eq_true rfl) d_RE_read_46 (fun H locs hP hD hS => ?_)
  refine lv_iconst (v := 0) hx hb d_RE_read_49 (by decide) ?_
  refine lv_istore_n (lv' := [(2, .int 0), (0, .ref h0), (1, .ref aw)]) hx hb d_RE_read_50 rfl hl (by decide) rfl (fun ls hl => ?_)
  refine w_loop (σ := Int32 × Int32 × Int32) (fun u H locs ls => match u with | (j51_l2, j51_h0_at, j51_h0_sound) => (0 ≤ j51_l2.toInt ∧ j51_l2.toInt ≤ 8) ∧ (j51_h0_sound = 0 ∨ j51_h0_sound = 1) ∧ (j51_h0_at.toInt = j51_l2.toInt ∧ ab_length.toInt = ab_length.toInt ∧ j51_h0_sound.toInt = 1) ∧ va_P (dC, dI) cls (wz_250 h0 aw ac j51_h0_at ab_length j51_h0_sound 0 ob h0_openCount ab ax ab_length ax cax gax ob cob gob waf cwaf gwaf wat cwat gwat wap cwap gwap wag cwag gwag wgt cwgt gwgt wft cwft gwft wfv cwfv gwfv wgc cwgc gwgc wek cwek gwek wei cwei gwei wes cwes gwes wez cwez gwez cfi ccfi gcfi clk cclk gclk clt cclt gclt cop ccop gcop cva ccva gcva cpt ccpt gcpt cel ccel gcel aw ab ac n10 wat wap wag n5 waf n7 n8 n9 n6 wgt wft wfv wgc n4 wek wei wes wez ac cfi clk clt n3 cop cva cpt cel n2 cla) H ∧ va_D A (wz_250 h0 aw ac j51_h0_at ab_length j51_h0_sound 0 ob h0_openCount ab ax ab_length ax cax gax ob cob gob waf cwaf gwaf wat cwat gwat wap cwap gwap wag cwag gwag wgt cwgt gwgt wft cwft gwft wfv cwfv gwfv wgc cwgc gwgc wek cwek gwek wei cwei gwei wes cwes gwes wez cwez gwez cfi ccfi gcfi clk cclk gclk clt cclt gclt cop ccop gcop cva ccva gcva cpt ccpt gcpt cel ccel gcel aw ab ac n10 wat wap wag n5 waf n7 n8 n9 n6 wgt wft wfv wgc n4 wek wei wes wez ac cfi clk clt n3 cop cva cpt cel n2 cla) ∧ va_S A s.heap H locs ∧ lv_has ls 6 [(0, .ref h0), (2, .int j51_l2)]) (fun u => match u with | (j51_l2, j51_h0_at, j51_h0_sound) => (8 - j51_l2.toInt).toNat) ?_ (0, 0, 1) ⟨by (try dsimp only) <;> (first | (apply Int.le_antisymm <;> omega) | omega), Or.inr rfl, by (try dsimp only) <;> (first | (apply Int.le_antisymm <;> omega) | omega), hP, hD, hS, lv_sub hl [1, 0] rfl⟩
  intro N51 ih51 u H locs ls hN51 hI
  obtain ⟨j51_l2, j51_h0_at, j51_h0_sound⟩ := u
  obtain ⟨b_j51_l2, b_j51_h0_sound, v0, hP, hD, hS, hl⟩ := hI
  have tj51_h0_sound := b01 b_j51_h0_sound
  have hN51 : (8 - j51_l2.toInt).toNat < N51 + 1 := hN51
  refine lv_iload_n hx hb d_RE_read_51 rfl (lv_at hl 1 rfl) ?_
  refine va_getsN (C := "WaferForge") (n := "HEAD") (d := "[B") (v := .ref ((sa 0))) hx hb (hSW.1.1) hS hown (sw_nf (k := 2) hSW rfl) (fun _ h9 => h9) d_RE_read_52 ?_
  refine va_tlen (v := 8) hx hb (hSW.1.2) hS rfl d_RE_read_55 ?_
  have k955 : (8 : Int32).toInt = 8 := by decide
  refine lv_icmp_ge (tgt := 74) hx hb d_RE_read_56 (by decide) (fun c56 => ?_) (fun c56 => ?_)
  · have q56 := leI c56
    refine lv_iconst (v := 0) hx hb d_RE_read_74 (by decide) ?_
    refine lv_istore_n (lv' := [(2, .int 0), (0, .ref h0)]) hx hb d_RE_read_75 rfl hl (by decide) rfl (fun ls hl => ?_)
    refine lv_iconst (v := 0) hx hb d_RE_read_76 (by decide) ?_
    refine lv_istore_n (lv' := [(3, .int 0), (2, .int 0), (0, .ref h0)]) hx hb d_RE_read_77 rfl hl (by decide) rfl (fun ls hl => ?_)
    refine w_loop (σ := Int32 × Int32 × (Nat → Int32) × (Nat → Int32) × (Nat → Int32) × (Nat → Int32) × (Nat → Int32) × (Nat → Int32) × (Nat → Int64) × (Nat → Int32) × (Nat → Int32) × (Nat → Int32) × (Nat → Int32) × (Nat → Int32) × (Nat → Int32) × (Nat → Int32) × (Nat → Int32) × (Nat → Int32) × (Nat → Int32) × (Nat → Int64) × (Nat → Int32) × (Nat → Int32) × Int32 × Int32 × Int32 × Int32 × Int32 × Int64 × Int64 × Int32 × Int32 × Int32 × Int32 × Int32 × Int32) (fun u H locs ls => match u with | (j78_l2, j78_l3, j78_cel, j78_cfi, j78_clk, j78_clt, j78_cop, j78_cpt, j78_cva, j78_ob, j78_waf, j78_wag, j78_wap, j78_wat, j78_wei, j78_wek, j78_wes, j78_wez, j78_wft, j78_wfv, j78_wgc, j78_wgt, j78_ac_length, j78_aw_exportCount, j78_aw_functionCount, j78_aw_globalCount, j78_aw_hasMemory, j78_aw_pagesLeast, j78_aw_pagesMost, j78_aw_typeCount, j78_h0_at, j78_h0_codeCount, j78_h0_limit, j78_h0_openCount, j78_h0_sound) => (0 ≤ j78_l3.toInt ∧ j78_l3.toInt ≤ 8192) ∧ (0 ≤ j78_ac_length.toInt ∧ j78_ac_length.toInt ≤ 5000) ∧ (0 ≤ j78_aw_exportCount.toInt ∧ j78_aw_exportCount.toInt ≤ 40) ∧ (0 ≤ j78_aw_functionCount.toInt ∧ j78_aw_functionCount.toInt ≤ 30) ∧ (0 ≤ j78_aw_globalCount.toInt ∧ j78_aw_globalCount.toInt ≤ 20) ∧ (j78_aw_hasMemory = 0 ∨ j78_aw_hasMemory = 1) ∧ (0 ≤ j78_aw_typeCount.toInt ∧ j78_aw_typeCount.toInt ≤ 20) ∧ (0 ≤ j78_h0_codeCount.toInt ∧ j78_h0_codeCount.toInt ≤ 30) ∧ (0 ≤ j78_h0_openCount.toInt ∧ j78_h0_openCount.toInt ≤ 100) ∧ (j78_h0_sound = 0 ∨ j78_h0_sound = 1) ∧ (j78_h0_limit.toInt = ab_length.toInt ∧ j78_h0_sound.toInt = 1 ∧ 0 ≤ j78_h0_at.toInt ∧ j78_h0_at.toInt ≤ ab_length.toInt ∧ j78_l3.toInt ≤ 10 ∧ n2.toInt = 0) ∧ (bx (∃ id : Nat, (id9 id ∨ id = 11) ∧ j78_l3.toInt + 1 ≤ (id : Int) ∧ j78_l2.toInt < (id : Int) ∧ bq gax j78_h0_at.toNatClampNeg (rs9 qct qg id) ∧ j78_h0_at.toInt + ((rs9 qct qg id).length : Int) = ab_length.toInt ∧ rA qTs qtk qft qto qn qG qX qgv qgc id j78_aw_typeCount j78_aw_functionCount j78_aw_hasMemory j78_aw_globalCount j78_aw_exportCount j78_h0_codeCount j78_ac_length n2 j78_aw_pagesLeast j78_aw_pagesMost j78_wat j78_wap j78_wag j78_waf j78_wgt j78_wez j78_cfi j78_clk j78_clt j78_cop j78_cpt j78_cel j78_cva)) ∧ (bx (∀ j : Nat, (j78_cel j).toInt < 5000)) ∧ va_P (dC, dI) cls (wz_250 h0 aw ac j78_h0_at j78_h0_limit j78_h0_sound j78_h0_codeCount ob j78_h0_openCount ab ax ab_length ax cax gax ob cob j78_ob waf cwaf j78_waf wat cwat j78_wat wap cwap j78_wap wag cwag j78_wag wgt cwgt j78_wgt wft cwft j78_wft wfv cwfv j78_wfv wgc cwgc j78_wgc wek cwek j78_wek wei cwei j78_wei wes cwes j78_wes wez cwez j78_wez cfi ccfi j78_cfi clk cclk j78_clk clt cclt j78_clt cop ccop j78_cop cva ccva j78_cva cpt ccpt j78_cpt cel ccel j78_cel aw ab ac j78_aw_typeCount wat wap wag j78_aw_functionCount waf j78_aw_hasMemory j78_aw_pagesLeast j78_aw_pagesMost j78_aw_globalCount wgt wft wfv wgc j78_aw_exportCount wek wei wes wez ac cfi clk clt j78_ac_length cop cva cpt cel n2 cla) H ∧ va_D A (wz_250 h0 aw ac j78_h0_at j78_h0_limit j78_h0_sound j78_h0_codeCount ob j78_h0_openCount ab ax ab_length ax cax gax ob cob j78_ob waf cwaf j78_waf wat cwat j78_wat wap cwap j78_wap wag cwag j78_wag wgt cwgt j78_wgt wft cwft j78_wft wfv cwfv j78_wfv wgc cwgc j78_wgc wek cwek j78_wek wei cwei j78_wei wes cwes j78_wes wez cwez j78_wez cfi ccfi j78_cfi clk cclk j78_clk clt cclt j78_clt cop ccop j78_cop cva ccva j78_cva cpt ccpt j78_cpt cel ccel j78_cel aw ab ac j78_aw_typeCount wat wap wag j78_aw_functionCount waf j78_aw_hasMemory j78_aw_pagesLeast j78_aw_pagesMost j78_aw_globalCount wgt wft wfv wgc j78_aw_exportCount wek wei wes wez ac cfi clk clt j78_ac_length cop cva cpt cel n2 cla) ∧ va_S A s.heap H locs ∧ lv_has ls 6 [(0, .ref h0), (2, .int j78_l2), (3, .int j78_l3)]) (fun u => match u with | (j78_l2, j78_l3, j78_cel, j78_cfi, j78_clk, j78_clt, j78_cop, j78_cpt, j78_cva, j78_ob, j78_waf, j78_wag, j78_wap, j78_wat, j78_wei, j78_wek, j78_wes, j78_wez, j78_wft, j78_wfv, j78_wgc, j78_wgt, j78_ac_length, j78_aw_exportCount, j78_aw_functionCount, j78_aw_globalCount, j78_aw_hasMemory, j78_aw_pagesLeast, j78_aw_pagesMost, j78_aw_typeCount, j78_h0_at, j78_h0_codeCount, j78_h0_limit, j78_h0_openCount, j78_h0_sound) => (8192 - j78_l3.toInt).toNat) ?_ (0, 0, gcel, gcfi, gclk, gclt, gcop, gcpt, gcva, gob, gwaf, gwag, gwap, gwat, gwei, gwek, gwes, gwez, gwft, gwfv, gwgc, gwgt, n3, n4, n5, n6, n7, n8, n9, n10, j51_h0_at, 0, ab_length, h0_openCount, j51_h0_sound) ⟨by (try dsimp only) <;> (first | (apply Int.le_antisymm <;> omega) | omega), bn3, bn4, bn5, bn6, bn7, bn10, by (try dsimp only) <;> (first | (apply Int.le_antisymm <;> omega) | omega), b_h0_openCount, b_j51_h0_sound, by (try dsimp only) <;> (first | (apply Int.le_antisymm <;> omega) | omega), ⟨1, Or.inl (Or.inl rfl), by decide, by decide, (bq_at m8.out (by have := i32_clamp (x := j51_h0_at) (by (first | (apply Int.le_antisymm <;> omega) | omega)); (first | (apply Int.le_antisymm <;> omega) | omega))), by (first | (apply Int.le_antisymm <;> omega) | omega), ⟨fun z => absurd z (by decide), fun z => absurd z (by decide), fun z => absurd z (by decide), fun z => absurd z (by decide), fun _ => by (first | (apply Int.le_antisymm <;> omega) | omega), fun z => absurd z (by decide), fun z => absurd z (by decide), fun _ => by (first | (apply Int.le_antisymm <;> omega) | omega)⟩⟩, hel, hP, hD, hS, lv_sub hl [2, 1, 0] rfl⟩
    intro N78 ih78 u H locs ls hN78 hI
    obtain ⟨j78_l2, j78_l3, j78_cel, j78_cfi, j78_clk, j78_clt, j78_cop, j78_cpt, j78_cva, j78_ob, hq9r⟩ := u
    obtain ⟨j78_waf, j78_wag, j78_wap, j78_wat, j78_wei, j78_wek, j78_wes, j78_wez, j78_wft, j78_wfv, hq9r⟩ := hq9r
    obtain ⟨j78_wgc, j78_wgt, j78_ac_length, j78_aw_exportCount, j78_aw_functionCount, j78_aw_globalCount, j78_aw_hasMemory, j78_aw_pagesLeast, j78_aw_pagesMost, j78_aw_typeCount, hq9r⟩ := hq9r
    obtain ⟨j78_h0_at, j78_h0_codeCount, j78_h0_limit, j78_h0_openCount, j78_h0_sound⟩ := hq9r
    obtain ⟨b_j78_l3, b_j78_ac_length, b_j78_aw_exportCount, b_j78_aw_functionCount, b_j78_aw_globalCount, b_j78_aw_hasMemory, b_j78_aw_typeCount, b_j78_h0_codeCount, b_j78_h0_openCount, b_j78_h0_sound, hq9r⟩ := hI
    obtain ⟨v0, hA, hE, hP, hD, hS, hl⟩ := hq9r
    have tj78_aw_hasMemory := b01 b_j78_aw_hasMemory
    have tj78_h0_sound := b01 b_j78_h0_sound
    have hN78 : (8192 - j78_l3.toInt).toNat < N78 + 1 := hN78
    refine lv_iload_n hx hb d_RE_read_78 rfl (lv_at hl 2 rfl) ?_
    refine lv_sipush (v := 8192) hx hb d_RE_read_79 (by decide) ?_
    refine lv_icmp_ge (tgt := 263) hx hb d_RE_read_82 (by decide) (fun c82 => absurd (leI c82) (by (first | (apply Int.le_antisymm <;> omega) | omega))) (fun c82 => ?_)
    have q82 := nleI c82
    refine lv_aload_n hx hb d_RE_read_85 rfl (lv_at hl 0 rfl) ?_
    refine va_get (D := (dC, dI)) (ci := 7) (v := .int j78_h0_sound) (C := R_RE) (T := F_RE) (N := 8) hx hb hts i_RE hown hK hP 0 rfl rfl 4 (by decide) (hts _ kF_RE_45) (fun _ h9 => h9) rfl d_RE_read_86 ?_
    refine lv_if_eq (tgt := 263) hx hb d_RE_read_89 (by decide) (fun c89 => absurd (eqI c89) (by (first | (apply Int.le_antisymm <;> omega) | omega))) (fun c89 => ?_)
    have q89 := neI c89
    refine lv_aload_n hx hb d_RE_read_92 rfl (lv_at hl 0 rfl) ?_
    refine va_get (D := (dC, dI)) (ci := 7) (v := .int j78_h0_at) (C := R_RE) (T := F_RE) (N := 8) hx hb hts i_RE hown hK hP 0 rfl rfl 2 (by decide) (hts _ kF_RE_29) (fun _ h9 => h9) rfl d_RE_read_93 ?_
    refine lv_aload_n hx hb d_RE_read_96 rfl (lv_at hl 0 rfl) ?_
    refine va_get (D := (dC, dI)) (ci := 7) (v := .ref aw) (C := R_RE) (T := F_RE) (N := 8) hx hb hts i_RE hown hK hP 0 rfl rfl 0 (by decide) (hts _ kF_RE_15) (fun _ h9 => h9) rfl d_RE_read_97 ?_
    refine va_get (D := (dC, dI)) (ci := 10) (v := .ref ab) (C := R_WA) (T := F_WA) (N := 21) hx hb hts i_WA hown hK hP 23 rfl rfl 0 (by decide) (hts _ kF_RE_33) (fun _ h9 => h9) rfl d_RE_read_100 ?_
    refine va_get (D := (dC, dI)) (ci := 1) (v := .int ab_length) (C := R_BR) (T := F_BR) (N := 2) hx hb hts i_BR hown hK hP 1 rfl rfl 1 (by decide) (hts _ kF_RE_37) (fun _ h9 => h9) rfl d_RE_read_103 ?_
    refine lv_icmp_ge (tgt := 263) hx hb d_RE_read_106 (by decide) (fun c106 => ?_) (fun c106 => ?_)
    · have q106 := leI c106
      obtain ⟨id8, a1, a2, a3, a4, a5, a6⟩ := hA.out
      have a7 : id8 = 11 := by rcases a1 with z | z; (exfalso; obtain ⟨b1, -⟩ := rs9_hd (ct := qct) (g := qg) z; rw [b1, List.length_append] at a5; unfold sec at a5; rw [List.length_cons] at a5; (first | (apply Int.le_antisymm <;> omega) | omega)); exact z
      subst a7
      have a8 := a6.2.1 (by decide)
      have a9 := a6.2.2.2.2.2.2.1 (by decide)
      have a10 := a8.1
      have a11 := a9.1
      replace a6 : bx _ := a6
      clear a8 a9 a4
      refine lv_aload_n hx hb d_RE_read_263 rfl (lv_at hl 0 rfl) ?_
      refine va_get (D := (dC, dI)) (ci := 7) (v := .int j78_h0_sound) (C := R_RE) (T := F_RE) (N := 8) hx hb hts i_RE hown hK hP 0 rfl rfl 4 (by decide) (hts _ kF_RE_45) (fun _ h9 => h9) rfl d_RE_read_264 ?_
      refine lv_if_eq (tgt := 288) hx hb d_RE_read_267 (by decide) (fun c267 => absurd (eqI c267) (by (first | (apply Int.le_antisymm <;> omega) | omega))) (fun c267 => ?_)
      have q267 := neI c267
      refine lv_aload_n hx hb d_RE_read_270 rfl (lv_at hl 0 rfl) ?_
      refine va_get (D := (dC, dI)) (ci := 7) (v := .int j78_h0_codeCount) (C := R_RE) (T := F_RE) (N := 8) hx hb hts i_RE hown hK hP 0 rfl rfl 5 (by decide) (hts _ kF_RE_49) (fun _ h9 => h9) rfl d_RE_read_271 ?_
      refine lv_aload_n hx hb d_RE_read_274 rfl (lv_at hl 0 rfl) ?_
      refine va_get (D := (dC, dI)) (ci := 7) (v := .ref aw) (C := R_RE) (T := F_RE) (N := 8) hx hb hts i_RE hown hK hP 0 rfl rfl 0 (by decide) (hts _ kF_RE_15) (fun _ h9 => h9) rfl d_RE_read_275 ?_
      refine va_get (D := (dC, dI)) (ci := 10) (v := .int j78_aw_functionCount) (C := R_WA) (T := F_WA) (N := 21) hx hb hts i_WA hown hK hP 23 rfl rfl 6 (by decide) (hts _ kF_RE_71) (fun _ h9 => h9) rfl d_RE_read_278 ?_
      refine lv_icmp_ne (tgt := 288) hx hb d_RE_read_281 (by decide) (fun c281 => absurd (neI c281) (by (first | (apply Int.le_antisymm <;> omega) | omega))) (fun c281 => ?_)
      have q281 := eqI c281
      refine lv_iconst (v := 1) hx hb d_RE_read_284 (by decide) ?_
      refine lv_goto (tgt := 289) hx hb d_RE_read_285 (by decide) ?_
      have hP9 := hP.sb (wq := (wz_246 h0 aw ac j78_h0_at j78_h0_limit j78_h0_sound j78_h0_codeCount ob j78_h0_openCount aw ab ac j78_aw_typeCount wat wap wag j78_aw_functionCount waf j78_aw_hasMemory j78_aw_pagesLeast j78_aw_pagesMost j78_aw_globalCount wgt wft wfv wgc j78_aw_exportCount wek wei wes wez ab ax ab_length ac cfi clk clt j78_ac_length cop cva cpt cel n2 cla ax cax gax ob cob j78_ob waf cwaf j78_waf wat cwat j78_wat wap cwap j78_wap wag cwag j78_wag wgt cwgt j78_wgt wft cwft j78_wft wfv cwfv j78_wfv wgc cwgc j78_wgc wek cwek j78_wek wei cwei j78_wei wes cwes j78_wes wez cwez j78_wez cfi ccfi j78_cfi clk cclk j78_clk clt cclt j78_clt cop ccop j78_cop cva ccva j78_cva cpt ccpt j78_cpt cel ccel j78_cel)) [0, 23, 1, 24, 2, 3, 4, 5, 6, 7, 8, 9, 10, 11, 12, 13, 14, 15, 16, 17, 18, 19, 20, 21, 22] rfl
      have hD9 := hD.sb (wq := (wz_246 h0 aw ac j78_h0_at j78_h0_limit j78_h0_sound j78_h0_codeCount ob j78_h0_openCount aw ab ac j78_aw_typeCount wat wap wag j78_aw_functionCount waf j78_aw_hasMemory j78_aw_pagesLeast j78_aw_pagesMost j78_aw_globalCount wgt wft wfv wgc j78_aw_exportCount wek wei wes wez ab ax ab_length ac cfi clk clt j78_ac_length cop cva cpt cel n2 cla ax cax gax ob cob j78_ob waf cwaf j78_waf wat cwat j78_wat wap cwap j78_wap wag cwag j78_wag wgt cwgt j78_wgt wft cwft j78_wft wfv cwfv j78_wfv wgc cwgc j78_wgc wek cwek j78_wek wei cwei j78_wei wes cwes j78_wes wez cwez j78_wez cfi ccfi j78_cfi clk cclk j78_clk clt cclt j78_clt cop ccop j78_cop cva ccva j78_cva cpt ccpt j78_cpt cel ccel j78_cel)) [0, 23, 1, 24, 2, 3, 4, 5, 6, 7, 8, 9, 10, 11, 12, 13, 14, 15, 16, 17, 18, 19, 20, 21, 22] (by decide) rfl
      exact W.zret (v := 1) hx hb hr (zn01 (Or.inr rfl)) (fun t ht hW => ⟨⟨1, (j78_cel, j78_cfi, j78_clk, j78_clt, j78_cop, j78_cpt, j78_cva, j78_ob, j78_waf, j78_wag, j78_wap, j78_wat, j78_wei, j78_wek, j78_wes, j78_wez, j78_wft, j78_wfv, j78_wgc, j78_wgt, n2, j78_ac_length, j78_aw_exportCount, j78_aw_functionCount, j78_aw_globalCount, j78_aw_hasMemory, j78_aw_pagesLeast, j78_aw_pagesMost, j78_aw_typeCount, j78_h0_at, j78_h0_codeCount, j78_h0_limit, j78_h0_openCount, j78_h0_sound), rfl, ⟨Or.inr rfl, bn2, b_j78_ac_length, b_j78_aw_exportCount, b_j78_aw_functionCount, b_j78_aw_globalCount, b_j78_aw_hasMemory, b_j78_aw_typeCount, b_j78_h0_codeCount, b_j78_h0_openCount, b_j78_h0_sound, ⟨by decide, a6.out, hE.out, by (first | (apply Int.le_antisymm <;> omega) | omega)⟩⟩, va_P.he ht.symm hP9, va_K.moved hW.alike hK, hD9⟩, hS.F ht⟩) hS.2.2 d_RE_read_289
    · have q106 := nleI c106
      obtain ⟨id8, a1, a2, a3, a4, a5, a6⟩ := hA.out
      have a1 : id9 id8 := by rcases a1 with z | z; exact z; (exfalso; rw [z, show rs9 qct qg 11 = [] from by cases qg <;> rfl, List.length_nil] at a5; (first | (apply Int.le_antisymm <;> omega) | omega))
      obtain ⟨b1, b2, b3⟩ := rs9_hd (ct := qct) (g := qg) a1
      rw [b1] at a4 a5
      have b4 := bq_app a4
      have b5 := b4.2
      replace b5 : bx _ := b5
      have b6 := b4.1
      unfold sec at b6
      have b7 := b6.1
      have b8 := bq_app b6.2
      have b9 := b8.2
      replace b9 : bx _ := b9
      have b10 := b8.1
      replace b10 : bx _ := b10
      clear a4 b4 b6 b8 b1
      rw [List.length_append] at a5
      obtain ⟨n9, hn9⟩ : ∃ m, m = (qct id8).length := ⟨_, rfl⟩
      have ls9 : (sec id8 (qct id8)).length = 1 + (leb 5 n9).length + n9 := by unfold sec; rw [List.length_cons, List.length_append, hn9]; (first | (apply Int.le_antisymm <;> omega) | omega)
      rw [← hn9] at b9 b10
      have ll9 := leb_len 5 n9
      have za := i32_clamp (x := j78_h0_at) (by (first | (apply Int.le_antisymm <;> omega) | omega))
      have idb : 1 ≤ id8 ∧ id8 ≤ 10 := by unfold id9 at a1; (first | (apply Int.le_antisymm <;> omega) | omega)
      replace a6 : bx _ := a6
      replace a1 : bx _ := a1
      replace b3 : bx _ := b3
      clear hA
      refine lv_aload_n hx hb d_RE_read_109 rfl (lv_at hl 0 rfl) ?_
      have hPc := hP.sb (wq := (wz_46 h0 aw ac j78_h0_at j78_h0_limit j78_h0_sound j78_h0_codeCount ob j78_h0_openCount aw ab ac j78_aw_typeCount wat wap wag j78_aw_functionCount waf j78_aw_hasMemory j78_aw_pagesLeast j78_aw_pagesMost j78_aw_globalCount wgt wft wfv wgc j78_aw_exportCount wek wei wes wez ab ax ab_length ax cax gax)) [0, 23, 1, 2] rfl
      have hDc := hD.sb (wq := (wz_46 h0 aw ac j78_h0_at j78_h0_limit j78_h0_sound j78_h0_codeCount ob j78_h0_openCount aw ab ac j78_aw_typeCount wat wap wag j78_aw_functionCount waf j78_aw_hasMemory j78_aw_pagesLeast j78_aw_pagesMost j78_aw_globalCount wgt wft wfv wgc j78_aw_exportCount wek wei wes wez ab ax ab_length ax cax gax)) [0, 23, 1, 2] (by decide) rfl
      have hKc := hK.sb (tyq := [(cax, .byte)]) [0] rfl
      have hFc := va_free (wc := (wz_46 h0 aw ac j78_h0_at j78_h0_limit j78_h0_sound j78_h0_codeCount ob j78_h0_openCount aw ab ac j78_aw_typeCount wat wap wag j78_aw_functionCount waf j78_aw_hasMemory j78_aw_pagesLeast j78_aw_pagesMost j78_aw_globalCount wgt wft wfv wgc j78_aw_exportCount wek wei wes wez ab ax ab_length ax cax gax)) hD hS hA [0, 23, 1, 2] rfl
      refine va_calli (va_runV (As := []) (rest := []) ⟨hx, hb, hml, hown, hts⟩ (c_RE_nextx l dC dI H.size h0 aw ac ob ab wat wap wag waf wgt wft wfv wgc wek wei wes wez ax cax j78_h0_at j78_h0_limit j78_h0_sound j78_h0_codeCount j78_h0_openCount j78_aw_typeCount j78_aw_functionCount j78_aw_hasMemory j78_aw_pagesLeast j78_aw_pagesMost j78_aw_globalCount j78_aw_exportCount ab_length gax (b_j78_h0_sound) (by (first | (apply Int.le_antisymm <;> omega) | omega)) (by (first | (apply Int.le_antisymm <;> omega) | omega)) (by (first | (apply Int.le_antisymm <;> omega) | omega))) (cwV 0 hts (gV kM_RE_60 kV_RE_next kS_RE_next kI_RE kC_RE_next) rfl rfl rfl (by decide +kernel) ⟨Nat.le_of_ble_eq_true rfl, Nat.le_of_ble_eq_true rfl⟩) ⟨fun a U g mk z => by obtain ⟨z0, z1, zP, zK, zD⟩ := z; exact ⟨z0, z1, zP, va_K.moved (u := U) (U := U.calling g mk a) (Vm.Alike.refl U.vm) zK, zD⟩, va_recv hKc hPc (ci := 7) (q0 := 0) rfl rfl, fun U hU hW => ⟨rfl, by rw [hU], va_P.he hU.symm hPc, va_K.moved hW.alike hKc, hDc.weaken (fun _ _ _ _ => trivial)⟩⟩ rfl rfl hl.1 rfl (lv_room (Nat.le_of_ble_eq_true rfl)) d_RE_read_110 ⟨(Nat.zero_le _), (Nat.zero_le _)⟩) hS (fun q _ h => hFc q h) hFc (fun r11 u t H1 locs ht hvm hw hB hz1 hk1 hS => ?_)
      obtain ⟨n12, rfl⟩ : ∃ z, z = u := ⟨_, rfl⟩
      try dsimp only at hw
      have xr11 := hw
      try clear hw
      have z110 := i32_clamp (x := n12) (by (first | (apply Int.le_antisymm <;> omega) | omega))
      have hp9 : r11.toInt = (id8 : Int) := by have q := xr11.2; rw [b7] at q; exact q
      obtain ⟨hP1, hK1, hD1⟩ := hB
      replace hP1 := va_P.he ht hP1
      obtain ⟨hP, hD⟩ := va_join (wr := (wz_251 ob cob j78_ob waf cwaf j78_waf wat cwat j78_wat wap cwap j78_wap wag cwag j78_wag wgt cwgt j78_wgt wft cwft j78_wft wfv cwfv j78_wfv wgc cwgc j78_wgc wek cwek j78_wek wei cwei j78_wei wes cwes j78_wes wez cwez j78_wez cfi ccfi j78_cfi clk cclk j78_clk clt cclt j78_clt cop ccop j78_cop cva ccva j78_cva cpt ccpt j78_cpt cel ccel j78_cel ac cfi clk clt j78_ac_length cop cva cpt cel n2 cla)) (w1 := (wz_46 h0 aw ac n12 j78_h0_limit j78_h0_sound j78_h0_codeCount ob j78_h0_openCount aw ab ac j78_aw_typeCount wat wap wag j78_aw_functionCount waf j78_aw_hasMemory j78_aw_pagesLeast j78_aw_pagesMost j78_aw_globalCount wgt wft wfv wgc j78_aw_exportCount wek wei wes wez ab ax ab_length ax cax gax)) hP hD [0, 23, 1, 2] [3, 4, 5, 6, 7, 8, 9, 10, 11, 12, 13, 14, 15, 16, 17, 18, 19, 20, 21, 22, 24] rfl rfl (by decide) (by decide) hk1 hFc hP1 hD1
      clear hPc hDc hKc hFc hz1 hk1 hP1 hK1 hD1
      rename Heap => H
      have hP : va_P (dC, dI) cls (wz_252 ob cob j78_ob waf cwaf j78_waf wat cwat j78_wat wap cwap j78_wap wag cwag j78_wag wgt cwgt j78_wgt wft cwft j78_wft wfv cwfv j78_wfv wgc cwgc j78_wgc wek cwek j78_wek wei cwei j78_wei wes cwes j78_wes wez cwez j78_wez cfi ccfi j78_cfi clk cclk j78_clk clt cclt j78_clt cop ccop j78_cop cva ccva j78_cva cpt ccpt j78_cpt cel ccel j78_cel ac cfi clk clt j78_ac_length cop cva cpt cel n2 cla h0 aw ac n12 j78_h0_limit j78_h0_sound j78_h0_codeCount ob j78_h0_openCount aw ab ac j78_aw_typeCount wat wap wag j78_aw_functionCount waf j78_aw_hasMemory j78_aw_pagesLeast j78_aw_pagesMost j78_aw_globalCount wgt wft wfv wgc j78_aw_exportCount wek wei wes wez ab ax ab_length ax cax gax) H := hP
      have hD : va_D A (wz_252 ob cob j78_ob waf cwaf j78_waf wat cwat j78_wat wap cwap j78_wap wag cwag j78_wag wgt cwgt j78_wgt wft cwft j78_wft wfv cwfv j78_wfv wgc cwgc j78_wgc wek cwek j78_wek wei cwei j78_wei wes cwes j78_wes wez cwez j78_wez cfi ccfi j78_cfi clk cclk j78_clk clt cclt j78_clt cop ccop j78_cop cva ccva j78_cva cpt ccpt j78_cpt cel ccel j78_cel ac cfi clk clt j78_ac_length cop cva cpt cel n2 cla h0 aw ac n12 j78_h0_limit j78_h0_sound j78_h0_codeCount ob j78_h0_openCount aw ab ac j78_aw_typeCount wat wap wag j78_aw_functionCount waf j78_aw_hasMemory j78_aw_pagesLeast j78_aw_pagesMost j78_aw_globalCount wgt wft wfv wgc j78_aw_exportCount wek wei wes wez ab ax ab_length ax cax gax) := hD
      refine lv_istore (lv' := [(4, .int r11), (0, .ref h0), (2, .int j78_l2), (3, .int j78_l3)]) hx hb d_RE_read_113 hl (by decide) rfl (fun ls hl => ?_)
      refine lv_aload_n hx hb d_RE_read_115 rfl (lv_at hl 1 rfl) ?_
      refine lv_aload_n hx hb d_RE_read_116 rfl (lv_at hl 1 rfl) ?_
      refine va_get (D := (dC, dI)) (ci := 7) (v := .ref aw) (C := R_RE) (T := F_RE) (N := 8) hx hb hts i_RE hown hK hP 21 rfl rfl 0 (by decide) (hts _ kF_RE_15) (fun _ h9 => h9) rfl d_RE_read_117 ?_
      refine va_get (D := (dC, dI)) (ci := 10) (v := .ref ab) (C := R_WA) (T := F_WA) (N := 21) hx hb hts i_WA hown hK hP 22 rfl rfl 0 (by decide) (hts _ kF_RE_33) (fun _ h9 => h9) rfl d_RE_read_120 ?_
      refine va_get (D := (dC, dI)) (ci := 1) (v := .int ab_length) (C := R_BR) (T := F_BR) (N := 2) hx hb hts i_BR hown hK hP 23 rfl rfl 1 (by decide) (hts _ kF_RE_37) (fun _ h9 => h9) rfl d_RE_read_123 ?_
      refine lv_i2l hx hb d_RE_read_126 rfl ?_
      refine lv_topl (fun x13 ex13 => ?_)
      have tx13 := i2l_t ex13
      have hPc := hP.sb (wq := (wz_46 h0 aw ac n12 j78_h0_limit j78_h0_sound j78_h0_codeCount ob j78_h0_openCount aw ab ac j78_aw_typeCount wat wap wag j78_aw_functionCount waf j78_aw_hasMemory j78_aw_pagesLeast j78_aw_pagesMost j78_aw_globalCount wgt wft wfv wgc j78_aw_exportCount wek wei wes wez ab ax ab_length ax cax gax)) [21, 22, 23, 24] rfl
      have hDc := hD.sb (wq := (wz_46 h0 aw ac n12 j78_h0_limit j78_h0_sound j78_h0_codeCount ob j78_h0_openCount aw ab ac j78_aw_typeCount wat wap wag j78_aw_functionCount waf j78_aw_hasMemory j78_aw_pagesLeast j78_aw_pagesMost j78_aw_globalCount wgt wft wfv wgc j78_aw_exportCount wek wei wes wez ab ax ab_length ax cax gax)) [21, 22, 23, 24] (by decide) rfl
      have hKc := hK.sb (tyq := [(cax, .byte)]) [0] rfl
      have hFc := va_free (wc := (wz_46 h0 aw ac n12 j78_h0_limit j78_h0_sound j78_h0_codeCount ob j78_h0_openCount aw ab ac j78_aw_typeCount wat wap wag j78_aw_functionCount waf j78_aw_hasMemory j78_aw_pagesLeast j78_aw_pagesMost j78_aw_globalCount wgt wft wfv wgc j78_aw_exportCount wek wei wes wez ab ax ab_length ax cax gax)) hD hS hA [21, 22, 23, 24] rfl
      refine va_calll (va_runV (As := [.long x13]) (rest := []) ⟨hx, hb, hml, hown, hts⟩ (c_RE_readUnsignedx l dC dI H.size h0 aw ac ob ab wat wap wag waf wgt wft wfv wgc wek wei wes wez ax cax n12 j78_h0_limit j78_h0_sound j78_h0_codeCount j78_h0_openCount j78_aw_typeCount j78_aw_functionCount j78_aw_hasMemory j78_aw_pagesLeast j78_aw_pagesMost j78_aw_globalCount j78_aw_exportCount ab_length gax n9 (b_j78_h0_sound) x13 (by (first | (apply Int.le_antisymm <;> omega) | omega)) (by (first | (apply Int.le_antisymm <;> omega) | omega)) (by (first | (apply Int.le_antisymm <;> omega) | omega)) ((bq_at b10.out (by (first | (apply Int.le_antisymm <;> omega) | omega)))) (by (first | (apply Int.le_antisymm <;> omega) | omega))) (cwV 1 hts (gV kM_RE_64 kV_RE_readUnsigned kS_RE_readUnsigned kI_RE kC_RE_readUnsigned) rfl rfl rfl (by decide +kernel) ⟨Nat.le_of_ble_eq_true rfl, Nat.le_of_ble_eq_true rfl⟩) ⟨fun a U g mk z => by obtain ⟨z0, z1, zP, zK, zD⟩ := z; exact ⟨z0, z1, zP, va_K.moved (u := U) (U := U.calling g mk a) (Vm.Alike.refl U.vm) zK, zD⟩, va_recv hKc hPc (ci := 7) (q0 := 0) rfl rfl, fun U hU hW => ⟨rfl, by rw [hU], va_P.he hU.symm hPc, va_K.moved hW.alike hKc, hDc.weaken (fun _ _ _ _ => trivial)⟩⟩ rfl rfl hl.1 rfl (lv_room (Nat.le_of_ble_eq_true rfl)) d_RE_read_127 ⟨(Nat.zero_le _), (Nat.zero_le _)⟩) hS (fun q _ h => hFc q h) hFc (fun r14 u t H1 locs ht hvm hw hB hz1 hk1 hS => ?_)
      obtain ⟨n15, n16⟩ := u
      try dsimp only at hw
      obtain ⟨bn16, xr14⟩ := hw
      try clear hw
      have tn16 := b01 bn16
      have z127 := i32_clamp (x := n15) (by (first | (apply Int.le_antisymm <;> omega) | omega))
      obtain ⟨hP1, hK1, hD1⟩ := hB
      replace hP1 := va_P.he ht hP1
      obtain ⟨hP, hD⟩ := va_join (wr := (wz_251 ob cob j78_ob waf cwaf j78_waf wat cwat j78_wat wap cwap j78_wap wag cwag j78_wag wgt cwgt j78_wgt wft cwft j78_wft wfv cwfv j78_wfv wgc cwgc j78_wgc wek cwek j78_wek wei cwei j78_wei wes cwes j78_wes wez cwez j78_wez cfi ccfi j78_cfi clk cclk j78_clk clt cclt j78_clt cop ccop j78_cop cva ccva j78_cva cpt ccpt j78_cpt cel ccel j78_cel ac cfi clk clt j78_ac_length cop cva cpt cel n2 cla)) (w1 := (wz_46 h0 aw ac n15 j78_h0_limit n16 j78_h0_codeCount ob j78_h0_openCount aw ab ac j78_aw_typeCount wat wap wag j78_aw_functionCount waf j78_aw_hasMemory j78_aw_pagesLeast j78_aw_pagesMost j78_aw_globalCount wgt wft wfv wgc j78_aw_exportCount wek wei wes wez ab ax ab_length ax cax gax)) hP hD [21, 22, 23, 24] [0, 1, 2, 3, 4, 5, 6, 7, 8, 9, 10, 11, 12, 13, 14, 15, 16, 17, 18, 19, 20] rfl rfl (by decide) (by decide) hk1 hFc hP1 hD1
      clear hPc hDc hKc hFc hz1 hk1 hP1 hK1 hD1
      rename Heap => H
      have hP : va_P (dC, dI) cls (wz_252 ob cob j78_ob waf cwaf j78_waf wat cwat j78_wat wap cwap j78_wap wag cwag j78_wag wgt cwgt j78_wgt wft cwft j78_wft wfv cwfv j78_wfv wgc cwgc j78_wgc wek cwek j78_wek wei cwei j78_wei wes cwes j78_wes wez cwez j78_wez cfi ccfi j78_cfi clk cclk j78_clk clt cclt j78_clt cop ccop j78_cop cva ccva j78_cva cpt ccpt j78_cpt cel ccel j78_cel ac cfi clk clt j78_ac_length cop cva cpt cel n2 cla h0 aw ac n15 j78_h0_limit n16 j78_h0_codeCount ob j78_h0_openCount aw ab ac j78_aw_typeCount wat wap wag j78_aw_functionCount waf j78_aw_hasMemory j78_aw_pagesLeast j78_aw_pagesMost j78_aw_globalCount wgt wft wfv wgc j78_aw_exportCount wek wei wes wez ab ax ab_length ax cax gax) H := hP
      have hD : va_D A (wz_252 ob cob j78_ob waf cwaf j78_waf wat cwat j78_wat wap cwap j78_wap wag cwag j78_wag wgt cwgt j78_wgt wft cwft j78_wft wfv cwfv j78_wfv wgc cwgc j78_wgc wek cwek j78_wek wei cwei j78_wei wes cwes j78_wes wez cwez j78_wez cfi ccfi j78_cfi clk cclk j78_clk clt cclt j78_clt cop ccop j78_cop cva ccva j78_cva cpt ccpt j78_cpt cel ccel j78_cel ac cfi clk clt j78_ac_length cop cva cpt cel n2 cla h0 aw ac n15 j78_h0_limit n16 j78_h0_codeCount ob j78_h0_openCount aw ab ac j78_aw_typeCount wat wap wag j78_aw_functionCount waf j78_aw_hasMemory j78_aw_pagesLeast j78_aw_pagesMost j78_aw_globalCount wgt wft wfv wgc j78_aw_exportCount wek wei wes wez ab ax ab_length ax cax gax) := hD
      refine lv_l2i hx hb d_RE_read_130 rfl ?_
      refine lv_topi (fun x17 ex17 => ?_)
      have tx17 := l2i_t ex17 (by (first | (apply Int.le_antisymm <;> omega) | omega)) (by (first | (apply Int.le_antisymm <;> omega) | omega))
      refine lv_istore (lv' := [(5, .int x17), (4, .int r11), (0, .ref h0), (2, .int j78_l2), (3, .int j78_l3)]) hx hb d_RE_read_131 hl (by decide) rfl (fun ls hl => ?_)
      refine lv_aload_n hx hb d_RE_read_133 rfl (lv_at hl 2 rfl) ?_
      refine lv_aload_n hx hb d_RE_read_134 rfl (lv_at hl 2 rfl) ?_
      refine va_get (D := (dC, dI)) (ci := 7) (v := .int n16) (C := R_RE) (T := F_RE) (N := 8) hx hb hts i_RE hown hK hP 21 rfl rfl 4 (by decide) (hts _ kF_RE_45) (fun _ h9 => h9) rfl d_RE_read_135 ?_
      refine lv_if_eq (tgt := 176) hx hb d_RE_read_138 (by decide) (fun c138 => absurd (eqI c138) (by (first | (apply Int.le_antisymm <;> omega) | omega))) (fun c138 => ?_)
      have q138 := neI c138
      refine lv_iload hx hb d_RE_read_141 (lv_at hl 0 rfl) ?_
      refine lv_aload_n hx hb d_RE_read_143 rfl (lv_at hl 2 rfl) ?_
      refine va_get (D := (dC, dI)) (ci := 7) (v := .ref aw) (C := R_RE) (T := F_RE) (N := 8) hx hb hts i_RE hown hK hP 21 rfl rfl 0 (by decide) (hts _ kF_RE_15) (fun _ h9 => h9) rfl d_RE_read_144 ?_
      refine va_get (D := (dC, dI)) (ci := 10) (v := .ref ab) (C := R_WA) (T := F_WA) (N := 21) hx hb hts i_WA hown hK hP 22 rfl rfl 0 (by decide) (hts _ kF_RE_33) (fun _ h9 => h9) rfl d_RE_read_147 ?_
      refine va_get (D := (dC, dI)) (ci := 1) (v := .int ab_length) (C := R_BR) (T := F_BR) (N := 2) hx hb hts i_BR hown hK hP 23 rfl rfl 1 (by decide) (hts _ kF_RE_37) (fun _ h9 => h9) rfl d_RE_read_150 ?_
      refine lv_aload_n hx hb d_RE_read_153 rfl (lv_at hl 2 rfl) ?_
      refine va_get (D := (dC, dI)) (ci := 7) (v := .int n15) (C := R_RE) (T := F_RE) (N := 8) hx hb hts i_RE hown hK hP 21 rfl rfl 2 (by decide) (hts _ kF_RE_29) (fun _ h9 => h9) rfl d_RE_read_154 ?_
      refine lv_isub hx hb d_RE_read_157 ?_
      refine lv_topi (fun x18 ex18 => ?_)
      have tx18 : x18.toInt = ab_length.toInt - n15.toInt := by have z := i32_sub ex18 (by (first | (apply Int.le_antisymm <;> omega) | omega)) (by (first | (apply Int.le_antisymm <;> omega) | omega)); first | exact z | (first | (apply Int.le_antisymm <;> omega) | omega)
      refine lv_icmp_gt (tgt := 176) hx hb d_RE_read_158 (by decide) (fun c158 => absurd (ltI c158) (by (first | (apply Int.le_antisymm <;> omega) | omega))) (fun c158 => ?_)
      have q158 := nltI c158
      refine lv_iload hx hb d_RE_read_161 (lv_at hl 1 rfl) ?_
      refine lv_if_eq (tgt := 172) hx hb d_RE_read_163 (by decide) (fun c163 => absurd (eqI c163) (by (first | (apply Int.le_antisymm <;> omega) | omega))) (fun c163 => ?_)
      have q163 := neI c163
      refine lv_iload hx hb d_RE_read_166 (lv_at hl 1 rfl) ?_
      refine lv_iload_n hx hb d_RE_read_168 rfl (lv_at hl 3 rfl) ?_
      refine lv_icmp_le (tgt := 176) hx hb d_RE_read_169 (by decide) (fun c169 => absurd (leI c169) (by (first | (apply Int.le_antisymm <;> omega) | omega))) (fun c169 => ?_)
      have q169 := nleI c169
      refine lv_iconst (v := 1) hx hb d_RE_read_172 (by decide) ?_
      refine lv_goto (tgt := 177) hx hb d_RE_read_173 (by decide) ?_
      refine va_put (D := (dC, dI)) (ci := 7) (v := .int 1) (ty := .boolean) (C := R_RE) (T := F_RE) (N := 8) hx hb hts i_RE t_RE t_RE_ok n_RE hown hK hP hD hS 21 rfl rfl 4 (by decide) (hts _ kF_RE_45) (fun _ h9 => h9) rfl (by decide +kernel) rfl rfl (Nat.le_of_ble_eq_true rfl) d_RE_read_177 (fun H locs hP hD hS => ?_)
      refine lv_aload_n hx hb d_RE_read_180 rfl (lv_at hl 2 rfl) ?_
      refine va_get (D := (dC, dI)) (ci := 7) (v := .int 1) (C := R_RE) (T := F_RE) (N := 8) hx hb hts i_RE hown hK hP 21 rfl rfl 4 (by decide) (hts _ kF_RE_45) (fun _ h9 => h9) rfl d_RE_read_181 ?_
      refine lv_if_eq (tgt := 257) hx hb d_RE_read_184 (by decide) (fun c184 => absurd (eqI c184) (by (first | (apply Int.le_antisymm <;> omega) | omega))) (fun c184 => ?_)
      have q184 := neI c184
      refine lv_iload hx hb d_RE_read_187 (lv_at hl 1 rfl) ?_
      refine lv_if_ne (tgt := 196) hx hb d_RE_read_189 (by decide) (fun c189 => ?_) (fun c189 => absurd (eqI c189) (by (first | (apply Int.le_antisymm <;> omega) | omega)))
      have q189 := neI c189
      refine lv_iload hx hb d_RE_read_196 (lv_at hl 1 rfl) ?_
      refine lv_istore_n (lv' := [(2, .int r11), (5, .int x17), (4, .int r11), (0, .ref h0), (3, .int j78_l3)]) hx hb d_RE_read_198 rfl hl (by decide) rfl (fun ls hl => ?_)
      refine lv_aload_n hx hb d_RE_read_199 rfl (lv_at hl 3 rfl) ?_
      refine lv_aload_n hx hb d_RE_read_200 rfl (lv_at hl 3 rfl) ?_
      refine va_get (D := (dC, dI)) (ci := 7) (v := .int n15) (C := R_RE) (T := F_RE) (N := 8) hx hb hts i_RE hown hK hP 21 rfl rfl 2 (by decide) (hts _ kF_RE_29) (fun _ h9 => h9) rfl d_RE_read_201 ?_
      refine lv_iload hx hb d_RE_read_204 (lv_at hl 1 rfl) ?_
      refine lv_iadd hx hb d_RE_read_206 ?_
      refine lv_topi (fun x19 ex19 => ?_)
      have tx19 : x19.toInt = n15.toInt + x17.toInt := by have z := i32_add ex19 (by (first | (apply Int.le_antisymm <;> omega) | omega)) (by (first | (apply Int.le_antisymm <;> omega) | omega)); first | exact z | (first | (apply Int.le_antisymm <;> omega) | omega)
      refine va_put (D := (dC, dI)) (ci := 7) (v := .int x19) (ty := .int) (C := R_RE) (T := F_RE) (N := 8) hx hb hts i_RE t_RE t_RE_ok n_RE hown hK hP hD hS 21 rfl rfl 3 (by decide) (hts _ kF_RE_42) (fun _ h9 => h9) rfl (by decide +kernel) rfl rfl (Nat.le_of_ble_eq_true rfl) d_RE_read_207 (fun H locs hP hD hS => ?_)
      refine lv_aload_n hx hb d_RE_read_210 rfl (lv_at hl 3 rfl) ?_
      refine lv_iload hx hb d_RE_read_211 (lv_at hl 2 rfl) ?_
      have hPc := hP.sb (wq := (wz_246 h0 aw ac n15 x19 1 j78_h0_codeCount ob j78_h0_openCount aw ab ac j78_aw_typeCount wat wap wag j78_aw_functionCount waf j78_aw_hasMemory j78_aw_pagesLeast j78_aw_pagesMost j78_aw_globalCount wgt wft wfv wgc j78_aw_exportCount wek wei wes wez ab ax ab_length ac cfi clk clt j78_ac_length cop cva cpt cel n2 cla ax cax gax ob cob j78_ob waf cwaf j78_waf wat cwat j78_wat wap cwap j78_wap wag cwag j78_wag wgt cwgt j78_wgt wft cwft j78_wft wfv cwfv j78_wfv wgc cwgc j78_wgc wek cwek j78_wek wei cwei j78_wei wes cwes j78_wes wez cwez j78_wez cfi ccfi j78_cfi clk cclk j78_clk clt cclt j78_clt cop ccop j78_cop cva ccva j78_cva cpt ccpt j78_cpt cel ccel j78_cel)) [21, 22, 23, 20, 24, 0, 1, 2, 3, 4, 5, 6, 7, 8, 9, 10, 11, 12, 13, 14, 15, 16, 17, 18, 19] rfl
      have hDc := hD.sb (wq := (wz_246 h0 aw ac n15 x19 1 j78_h0_codeCount ob j78_h0_openCount aw ab ac j78_aw_typeCount wat wap wag j78_aw_functionCount waf j78_aw_hasMemory j78_aw_pagesLeast j78_aw_pagesMost j78_aw_globalCount wgt wft wfv wgc j78_aw_exportCount wek wei wes wez ab ax ab_length ac cfi clk clt j78_ac_length cop cva cpt cel n2 cla ax cax gax ob cob j78_ob waf cwaf j78_waf wat cwat j78_wat wap cwap j78_wap wag cwag j78_wag wgt cwgt j78_wgt wft cwft j78_wft wfv cwfv j78_wfv wgc cwgc j78_wgc wek cwek j78_wek wei cwei j78_wei wes cwes j78_wes wez cwez j78_wez cfi ccfi j78_cfi clk cclk j78_clk clt cclt j78_clt cop ccop j78_cop cva ccva j78_cva cpt ccpt j78_cpt cel ccel j78_cel)) [21, 22, 23, 20, 24, 0, 1, 2, 3, 4, 5, 6, 7, 8, 9, 10, 11, 12, 13, 14, 15, 16, 17, 18, 19] (by decide) rfl
      have hKc := hK.sb (tyq := [(cax, .byte), (cob, .int), (cwaf, .int), (cwat, .int), (cwap, .int), (cwag, .int), (cwgt, .int), (cwft, .int), (cwfv, .long), (cwgc, .boolean), (cwek, .int), (cwei, .int), (cwes, .int), (cwez, .int), (ccfi, .int), (cclk, .int), (cclt, .int), (ccop, .int), (ccva, .long), (ccpt, .int), (ccel, .int)]) [0, 1, 2, 3, 4, 5, 6, 7, 8, 9, 10, 11, 12, 13, 14, 15, 16, 17, 18, 19, 20] rfl
      have hFc := va_free (wc := (wz_246 h0 aw ac n15 x19 1 j78_h0_codeCount ob j78_h0_openCount aw ab ac j78_aw_typeCount wat wap wag j78_aw_functionCount waf j78_aw_hasMemory j78_aw_pagesLeast j78_aw_pagesMost j78_aw_globalCount wgt wft wfv wgc j78_aw_exportCount wek wei wes wez ab ax ab_length ac cfi clk clt j78_ac_length cop cva cpt cel n2 cla ax cax gax ob cob j78_ob waf cwaf j78_waf wat cwat j78_wat wap cwap j78_wap wag cwag j78_wag wgt cwgt j78_wgt wft cwft j78_wft wfv cwfv j78_wfv wgc cwgc j78_wgc wek cwek j78_wek wei cwei j78_wei wes cwes j78_wes wez cwez j78_wez cfi ccfi j78_cfi clk cclk j78_clk clt cclt j78_clt cop ccop j78_cop cva ccva j78_cva cpt ccpt j78_cpt cel ccel j78_cel)) hD hS hA [21, 22, 23, 20, 24, 0, 1, 2, 3, 4, 5, 6, 7, 8, 9, 10, 11, 12, 13, 14, 15, 16, 17, 18, 19] rfl
      refine va_callv (va_runV (As := [.int r11]) (rest := []) ⟨hx, hb, hml, hown, hts⟩ (c_RE_readSectionx l dC dI H.size h0 aw ac ob ab wat wap wag waf wgt wft wfv wgc wek wei wes wez ax cfi clk clt cop cva cpt cel cla cax cob cwaf cwat cwap cwag cwgt cwft cwfv cwgc cwek cwei cwes cwez ccfi cclk cclt ccop ccva ccpt ccel n15 x19 1 j78_h0_codeCount j78_h0_openCount j78_aw_typeCount j78_aw_functionCount j78_aw_hasMemory j78_aw_pagesLeast j78_aw_pagesMost j78_aw_globalCount j78_aw_exportCount ab_length j78_ac_length n2 gax j78_ob j78_waf j78_wat j78_wap j78_wag j78_wgt j78_wft j78_wfv j78_wgc j78_wek j78_wei j78_wes j78_wez j78_cfi j78_clk j78_clt j78_cop j78_cva j78_cpt j78_cel ((qct id8)) qTs qtb qtk qft qto qn qG qX qcb qI qgv qgc (Or.inr rfl) (b_j78_h0_codeCount) (b_j78_h0_openCount) (b_j78_aw_typeCount) (b_j78_aw_functionCount) (b_j78_aw_hasMemory) (b_j78_aw_globalCount) (b_j78_aw_exportCount) (b_j78_ac_length) (bn2) r11 (by (first | (apply Int.le_antisymm <;> omega) | omega)) (by (first | (apply Int.le_antisymm <;> omega) | omega)) ((by have q := a1.out; unfold id9 at q; (first | (apply Int.le_antisymm <;> omega) | omega))) ((bq_at b9.out (by (first | (apply Int.le_antisymm <;> omega) | omega)))) ((by rw [← hn9]; (first | (apply Int.le_antisymm <;> omega) | omega))) ((fun z => by have e := (p9_of hp9 1).mp z; subst e; exact c1.out)) ((fun z => by have e := (p9_of hp9 3).mp z; subst e; exact c3.out)) ((fun z => by have e := (p9_of hp9 5).mp z; subst e; exact c5.out)) ((fun z => by have e := (p9_of hp9 6).mp z; subst e; exact c6.out)) ((fun z => by have e := (p9_of hp9 7).mp z; subst e; exact c7.out)) ((fun z => by have e := (p9_of hp9 10).mp z; subst e; exact ⟨c10.out.1, c10.out.2.1, c10.out.2.2.1, a6.out.2.2.2.2.2.2.2 (by decide), c10.out.2.2.2⟩)) (hE) (htk)) (cwV 1 hts (gV kM_RE_68 kV_RE_readSection kS_RE_readSection kI_RE kC_RE_readSection) rfl rfl rfl (by decide +kernel) ⟨Nat.le_of_ble_eq_true rfl, Nat.le_of_ble_eq_true rfl⟩) ⟨fun a U g mk z => by obtain ⟨z0, z1, zP, zK, zD⟩ := z; exact ⟨z0, z1, zP, va_K.moved (u := U) (U := U.calling g mk a) (Vm.Alike.refl U.vm) zK, zD⟩, va_recv hKc hPc (ci := 7) (q0 := 0) rfl rfl, fun U hU hW => ⟨rfl, by rw [hU], va_P.he hU.symm hPc, va_K.moved hW.alike hKc, hDc.weaken (fun _ _ _ _ => trivial)⟩⟩ rfl rfl hl.1 rfl (lv_room (Nat.le_of_ble_eq_true rfl)) d_RE_read_213 ⟨(Nat.zero_le _), (Nat.zero_le _)⟩) hS (fun q _ h => hFc q h) hFc (fun u t H1 locs ht hvm hw hB hz1 hk1 hS => ?_)
      obtain ⟨n21, n22, n23, n24, n25, n26, n27, n28, n29, n30, hq9r⟩ := u
      obtain ⟨n31, n32, n33, n34, n35, n36, n37, n38, n39, n40, hq9r⟩ := hq9r
      obtain ⟨n41, n42, n43, n44, n45, n46, n47, n48, n49, n50, hq9r⟩ := hq9r
      obtain ⟨n51, n52, n53⟩ := hq9r
      try dsimp only at hw
      obtain ⟨bn41, bn42, bn43, bn44, bn45, bn48, bn50, bn52, bn53, xr20⟩ := hw
      try clear hw
      have tn45 := b01 bn45
      have tn53 := b01 bn53
      obtain ⟨s1, s2, s3, s4, s5, s6, s7, s8, s9, s10⟩ := xr20
      have rn := rA_next a1.out hp9 hqg a6.out s5 s6 s7 s8 s9 s10
      replace rn : bx _ := rn
      replace s4 : bx _ := s4
      clear s5 s6 s7 s8 s9 s10
      have z213 := i32_clamp (x := n49) (by (first | (apply Int.le_antisymm <;> omega) | omega))
      obtain ⟨hP1, hK1, hD1⟩ := hB
      replace hP1 := va_P.he ht hP1
      obtain ⟨hP, hD⟩ := va_join (wr := []) (w1 := (wz_246 h0 aw ac n49 n51 n53 n50 ob n52 aw ab ac n48 wat wap wag n43 waf n45 n46 n47 n44 wgt wft wfv wgc n42 wek wei wes wez ab ax ab_length ac cfi clk clt n41 cop cva cpt cel n2 cla ax cax gax ob cob n28 waf cwaf n29 wat cwat n32 wap cwap n31 wag cwag n30 wgt cwgt n40 wft cwft n37 wfv cwfv n38 wgc cwgc n39 wek cwek n34 wei cwei n33 wes cwes n35 wez cwez n36 cfi ccfi n22 clk cclk n23 clt cclt n24 cop ccop n25 cva ccva n27 cpt ccpt n26 cel ccel n21)) hP hD [21, 22, 23, 20, 24, 0, 1, 2, 3, 4, 5, 6, 7, 8, 9, 10, 11, 12, 13, 14, 15, 16, 17, 18, 19] [] rfl rfl (by decide) (by decide) hk1 hFc hP1 hD1
      clear hPc hDc hKc hFc hz1 hk1 hP1 hK1 hD1
      rename Heap => H
      have hP : va_P (dC, dI) cls (wz_246 h0 aw ac n49 n51 n53 n50 ob n52 aw ab ac n48 wat wap wag n43 waf n45 n46 n47 n44 wgt wft wfv wgc n42 wek wei wes wez ab ax ab_length ac cfi clk clt n41 cop cva cpt cel n2 cla ax cax gax ob cob n28 waf cwaf n29 wat cwat n32 wap cwap n31 wag cwag n30 wgt cwgt n40 wft cwft n37 wfv cwfv n38 wgc cwgc n39 wek cwek n34 wei cwei n33 wes cwes n35 wez cwez n36 cfi ccfi n22 clk cclk n23 clt cclt n24 cop ccop n25 cva ccva n27 cpt ccpt n26 cel ccel n21) H := hP
      have hD : va_D A (wz_246 h0 aw ac n49 n51 n53 n50 ob n52 aw ab ac n48 wat wap wag n43 waf n45 n46 n47 n44 wgt wft wfv wgc n42 wek wei wes wez ab ax ab_length ac cfi clk clt n41 cop cva cpt cel n2 cla ax cax gax ob cob n28 waf cwaf n29 wat cwat n32 wap cwap n31 wag cwag n30 wgt cwgt n40 wft cwft n37 wfv cwfv n38 wgc cwgc n39 wek cwek n34 wei cwei n33 wes cwes n35 wez cwez n36 cfi ccfi n22 clk cclk n23 clt cclt n24 cop ccop n25 cva ccva n27 cpt ccpt n26 cel ccel n21) := hD
      refine lv_aload_n hx hb d_RE_read_216 rfl (lv_at hl 3 rfl) ?_
      refine lv_aload_n hx hb d_RE_read_217 rfl (lv_at hl 3 rfl) ?_
      refine va_get (D := (dC, dI)) (ci := 7) (v := .int n53) (C := R_RE) (T := F_RE) (N := 8) hx hb hts i_RE hown hK hP 0 rfl rfl 4 (by decide) (hts _ kF_RE_45) (fun _ h9 => h9) rfl d_RE_read_218 ?_
      refine lv_if_eq (tgt := 239) hx hb d_RE_read_221 (by decide) (fun c221 => absurd (eqI c221) (by (first | (apply Int.le_antisymm <;> omega) | omega))) (fun c221 => ?_)
      have q221 := neI c221
      refine lv_aload_n hx hb d_RE_read_224 rfl (lv_at hl 3 rfl) ?_
      refine va_get (D := (dC, dI)) (ci := 7) (v := .int n49) (C := R_RE) (T := F_RE) (N := 8) hx hb hts i_RE hown hK hP 0 rfl rfl 2 (by decide) (hts _ kF_RE_29) (fun _ h9 => h9) rfl d_RE_read_225 ?_
      refine lv_aload_n hx hb d_RE_read_228 rfl (lv_at hl 3 rfl) ?_
      refine va_get (D := (dC, dI)) (ci := 7) (v := .int n51) (C := R_RE) (T := F_RE) (N := 8) hx hb hts i_RE hown hK hP 0 rfl rfl 3 (by decide) (hts _ kF_RE_42) (fun _ h9 => h9) rfl d_RE_read_229 ?_
      refine lv_icmp_ne (tgt := 239) hx hb d_RE_read_232 (by decide) (fun c232 => absurd (neI c232) (by (first | (apply Int.le_antisymm <;> omega) | omega))) (fun c232 => ?_)
      have q232 := eqI c232
      refine lv_iconst (v := 1) hx hb d_RE_read_235 (by decide) ?_
      refine lv_goto (tgt := 240) hx hb d_RE_read_236 (by decide) ?_
      refine va_put (D := (dC, dI)) (ci := 7) (v := .int 1) (ty := .boolean) (C := R_RE) (T := F_RE) (N := 8) hx hb hts i_RE t_RE t_RE_ok n_RE hown hK hP hD hS 0 rfl rfl 4 (by decide) (hts _ kF_RE_45) (fun _ h9 => h9) rfl (by decide +kernel) rfl rfl (Nat.le_of_ble_eq_true rfl) d_RE_read_240 (fun H locs hP hD hS => ?_)
      refine lv_aload_n hx hb d_RE_read_243 rfl (lv_at hl 3 rfl) ?_
      refine lv_aload_n hx hb d_RE_read_244 rfl (lv_at hl 3 rfl) ?_
      refine va_get (D := (dC, dI)) (ci := 7) (v := .ref aw) (C := R_RE) (T := F_RE) (N := 8) hx hb hts i_RE hown hK hP 0 rfl rfl 0 (by decide) (hts _ kF_RE_15) (fun _ h9 => h9) rfl d_RE_read_245 ?_
      refine va_get (D := (dC, dI)) (ci := 10) (v := .ref ab) (C := R_WA) (T := F_WA) (N := 21) hx hb hts i_WA hown hK hP 1 rfl rfl 0 (by decide) (hts _ kF_RE_33) (fun _ h9 => h9) rfl d_RE_read_248 ?_
      refine va_get (D := (dC, dI)) (ci := 1) (v := .int ab_length) (C := R_BR) (T := F_BR) (N := 2) hx hb hts i_BR hown hK hP 2 rfl rfl 1 (by decide) (hts _ kF_RE_37) (fun _ h9 => h9) rfl d_RE_read_251 ?_
      refine va_put (D := (dC, dI)) (ci := 7) (v := .int ab_length) (ty := .int) (C := R_RE) (T := F_RE) (N := 8) hx hb hts i_RE t_RE t_RE_ok n_RE hown hK hP hD hS 0 rfl rfl 3 (by decide) (hts _ kF_RE_42) (fun _ h9 => h9) rfl (by decide +kernel) rfl rfl (Nat.le_of_ble_eq_true rfl) d_RE_read_254 (fun H locs hP hD hS => ?_)
      obtain ⟨x54, ex54⟩ : ∃ z : Int32, z = j78_l3 + 1 := ⟨_, rfl⟩
      have tx54 : x54.toInt = j78_l3.toInt + 1 := by have z := i32_add ex54 (by (first | (apply Int.le_antisymm <;> omega) | omega)) (by (first | (apply Int.le_antisymm <;> omega) | omega)); first | exact z | (first | (apply Int.le_antisymm <;> omega) | omega)
      refine lv_iinc (v := x54) (lv' := [(3, .int x54), (2, .int r11), (5, .int x17), (4, .int r11), (0, .ref h0)]) hx hb d_RE_read_257 hl (k := 4) rfl (by rw [ex54]; rfl) (by decide) rfl (fun ls hl => ?_)
      refine lv_goto (tgt := 78) hx hb d_RE_read_260 (by decide) ?_
      exact ih78 (r11, x54, n21, n22, n23, n24, n25, n26, n27, n28, n29, n30, n31, n32, n33, n34, n35, n36, n37, n38, n39, n40, n41, n42, n43, n44, n45, n46, n47, n48, n49, n50, ab_length, n52, 1) _ _ _ (by show (8192 - x54.toInt).toNat < N78; (first | (apply Int.le_antisymm <;> omega) | omega)) ⟨by (try dsimp only) <;> (first | (apply Int.le_antisymm <;> omega) | omega), bn41, bn42, bn43, bn44, bn45, bn48, bn50, bn52, Or.inr rfl, by (try dsimp only) <;> (first | (apply Int.le_antisymm <;> omega) | omega), ⟨nx9 qg id8, b3.out, by (first | (apply Int.le_antisymm <;> omega) | omega), by (first | (apply Int.le_antisymm <;> omega) | omega), bq_at b5.out (by rw [ls9]; (first | (apply Int.le_antisymm <;> omega) | omega)), by (first | (apply Int.le_antisymm <;> omega) | omega), rn.out⟩, s4, hP.sub [0, 2, 4, 5, 6, 7, 8, 9, 10, 11, 12, 13, 14, 15, 16, 17, 18, 19, 20, 21, 22, 23, 24, 1, 3] rfl, hD.sub [0, 2, 4, 5, 6, 7, 8, 9, 10, 11, 12, 13, 14, 15, 16, 17, 18, 19, 20, 21, 22, 23, 24, 1, 3] (by decide) rfl, hS, lv_sub hl [4, 1, 0] rfl⟩
  · have q56 := nleI c56
    refine lv_aload_n hx hb d_RE_read_59 rfl (lv_at hl 0 rfl) ?_
    refine va_getsN (C := "WaferForge") (n := "HEAD") (d := "[B") (v := .ref ((sa 0))) hx hb (hSW.1.1) hS hown (sw_nf (k := 2) hSW rfl) (fun _ h9 => h9) d_RE_read_60 ?_
    refine lv_iload_n hx hb d_RE_read_63 rfl (lv_at hl 1 rfl) ?_
    have g64 : vp_in j51_l2 8 := vp_in_iff.mpr ⟨by (first | (apply Int.le_antisymm <;> omega) | omega), by (first | (apply Int.le_antisymm <;> omega) | omega)⟩
    refine va_tb hx hb (hSW.1.2) hS g64 rfl d_RE_read_64 ?_
    refine lv_topi (fun x55 ex55 => ?_)
    have zl2 := i32_clamp (x := j51_l2) (by (first | (apply Int.le_antisymm <;> omega) | omega))
    have zl3 := i32_clamp (x := j51_h0_at) (by (first | (apply Int.le_antisymm <;> omega) | omega))
    have hh : (bn (gax j51_h0_at.toNatClampNeg) : Int) = x55.toInt := by rw [ex55, show j51_h0_at.toNatClampNeg = j51_l2.toNatClampNeg from by (first | (apply Int.le_antisymm <;> omega) | omega)]; exact h64.out j51_l2.toNatClampNeg (by (first | (apply Int.le_antisymm <;> omega) | omega))
    have hPc := hP.sb (wq := (wz_46 h0 aw ac j51_h0_at ab_length j51_h0_sound 0 ob h0_openCount aw ab ac n10 wat wap wag n5 waf n7 n8 n9 n6 wgt wft wfv wgc n4 wek wei wes wez ab ax ab_length ax cax gax)) [0, 23, 1, 2] rfl
    have hDc := hD.sb (wq := (wz_46 h0 aw ac j51_h0_at ab_length j51_h0_sound 0 ob h0_openCount aw ab ac n10 wat wap wag n5 waf n7 n8 n9 n6 wgt wft wfv wgc n4 wek wei wes wez ab ax ab_length ax cax gax)) [0, 23, 1, 2] (by decide) rfl
    have hKc := hK.sb (tyq := [(cax, .byte)]) [0] rfl
    have hFc := va_free (wc := (wz_46 h0 aw ac j51_h0_at ab_length j51_h0_sound 0 ob h0_openCount aw ab ac n10 wat wap wag n5 waf n7 n8 n9 n6 wgt wft wfv wgc n4 wek wei wes wez ab ax ab_length ax cax gax)) hD hS hA [0, 23, 1, 2] rfl
    refine va_callv (va_runV (As := [.int x55]) (rest := []) ⟨hx, hb, hml, hown, hts⟩ (c_RE_expectx l dC dI H.size h0 aw ac ob ab wat wap wag waf wgt wft wfv wgc wek wei wes wez ax cax j51_h0_at ab_length j51_h0_sound 0 h0_openCount n10 n5 n7 n8 n9 n6 n4 ab_length gax (b_j51_h0_sound) x55 (by (first | (apply Int.le_antisymm <;> omega) | omega)) (by (first | (apply Int.le_antisymm <;> omega) | omega)) (by (first | (apply Int.le_antisymm <;> omega) | omega)) (by (try dsimp only) <;> (first | (apply Int.le_antisymm <;> omega) | omega))) (cwV 1 hts (gV kM_RE_56 kV_RE_expect kS_RE_expect kI_RE kC_RE_expect) rfl rfl rfl (by decide +kernel) ⟨Nat.le_of_ble_eq_true rfl, Nat.le_of_ble_eq_true rfl⟩) ⟨fun a U g mk z => by obtain ⟨z0, z1, zP, zK, zD⟩ := z; exact ⟨z0, z1, zP, va_K.moved (u := U) (U := U.calling g mk a) (Vm.Alike.refl U.vm) zK, zD⟩, va_recv hKc hPc (ci := 7) (q0 := 0) rfl rfl, fun U hU hW => ⟨rfl, by rw [hU], va_P.he hU.symm hPc, va_K.moved hW.alike hKc, hDc.weaken (fun _ _ _ _ => trivial)⟩⟩ rfl rfl hl.1 rfl (lv_room (Nat.le_of_ble_eq_true rfl)) d_RE_read_65 ⟨(Nat.zero_le _), (Nat.zero_le _)⟩) hS (fun q _ h => hFc q h) hFc (fun u t H1 locs ht hvm hw hB hz1 hk1 hS => ?_)
    obtain ⟨n57, n58⟩ := u
    try dsimp only at hw
    obtain ⟨bn58, xr56⟩ := hw
    try clear hw
    have tn58 := b01 bn58
    obtain ⟨hP1, hK1, hD1⟩ := hB
    replace hP1 := va_P.he ht hP1
    obtain ⟨hP, hD⟩ := va_join (wr := (wz_251 ob cob gob waf cwaf gwaf wat cwat gwat wap cwap gwap wag cwag gwag wgt cwgt gwgt wft cwft gwft wfv cwfv gwfv wgc cwgc gwgc wek cwek gwek wei cwei gwei wes cwes gwes wez cwez gwez cfi ccfi gcfi clk cclk gclk clt cclt gclt cop ccop gcop cva ccva gcva cpt ccpt gcpt cel ccel gcel ac cfi clk clt n3 cop cva cpt cel n2 cla)) (w1 := (wz_46 h0 aw ac n57 ab_length n58 0 ob h0_openCount aw ab ac n10 wat wap wag n5 waf n7 n8 n9 n6 wgt wft wfv wgc n4 wek wei wes wez ab ax ab_length ax cax gax)) hP hD [0, 23, 1, 2] [3, 4, 5, 6, 7, 8, 9, 10, 11, 12, 13, 14, 15, 16, 17, 18, 19, 20, 21, 22, 24] rfl rfl (by decide) (by decide) hk1 hFc hP1 hD1
    clear hPc hDc hKc hFc hz1 hk1 hP1 hK1 hD1
    rename Heap => H
    have hP : va_P (dC, dI) cls (wz_252 ob cob gob waf cwaf gwaf wat cwat gwat wap cwap gwap wag cwag gwag wgt cwgt gwgt wft cwft gwft wfv cwfv gwfv wgc cwgc gwgc wek cwek gwek wei cwei gwei wes cwes gwes wez cwez gwez cfi ccfi gcfi clk cclk gclk clt cclt gclt cop ccop gcop cva ccva gcva cpt ccpt gcpt cel ccel gcel ac cfi clk clt n3 cop cva cpt cel n2 cla h0 aw ac n57 ab_length n58 0 ob h0_openCount aw ab ac n10 wat wap wag n5 waf n7 n8 n9 n6 wgt wft wfv wgc n4 wek wei wes wez ab ax ab_length ax cax gax) H := hP
    have hD : va_D A (wz_252 ob cob gob waf cwaf gwaf wat cwat gwat wap cwap gwap wag cwag gwag wgt cwgt gwgt wft cwft gwft wfv cwfv gwfv wgc cwgc gwgc wek cwek gwek wei cwei gwei wes cwes gwes wez cwez gwez cfi ccfi gcfi clk cclk gclk clt cclt gclt cop ccop gcop cva ccva gcva cpt ccpt gcpt cel ccel gcel ac cfi clk clt n3 cop cva cpt cel n2 cla h0 aw ac n57 ab_length n58 0 ob h0_openCount aw ab ac n10 wat wap wag n5 waf n7 n8 n9 n6 wgt wft wfv wgc n4 wek wei wes wez ab ax ab_length ax cax gax) := hD
    obtain ⟨x59, ex59⟩ : ∃ z : Int32, z = j51_l2 + 1 := ⟨_, rfl⟩
    have tx59 : x59.toInt = j51_l2.toInt + 1 := by have z := i32_add ex59 (by (first | (apply Int.le_antisymm <;> omega) | omega)) (by (first | (apply Int.le_antisymm <;> omega) | omega)); first | exact z | (first | (apply Int.le_antisymm <;> omega) | omega)
    refine lv_iinc (v := x59) (lv' := [(2, .int x59), (0, .ref h0)]) hx hb d_RE_read_68 hl (k := 1) rfl (by rw [ex59]; rfl) (by decide) rfl (fun ls hl => ?_)
    refine lv_goto (tgt := 51) hx hb d_RE_read_71 (by decide) ?_
    exact ih51 (x59, n57, n58) _ _ _ (by show (8 - x59.toInt).toNat < N51; (first | (apply Int.le_antisymm <;> omega) | omega)) ⟨by (try dsimp only) <;> (first | (apply Int.le_antisymm <;> omega) | omega), bn58, by (try dsimp only) <;> (first | (apply Int.le_antisymm <;> omega) | omega), hP.sub [21, 23, 24, 0, 1, 2, 3, 4, 5, 6, 7, 8, 9, 10, 11, 12, 13, 14, 15, 16, 17, 18, 19, 22, 20] rfl, hD.sub [21, 23, 24, 0, 1, 2, 3, 4, 5, 6, 7, 8, 9, 10, 11, 12, 13, 14, 15, 16, 17, 18, 19, 22, 20] (by decide) rfl, hS, lv_sub hl [1, 0] rfl⟩
end q_96
section q_97
/-! what was compiled may be run -/
theorem vr_n1 {op : Int} (h : op < 32 ∨ 36 < op) : ¬ (op = 35 ∨ op = 36) := by (first | (apply Int.le_antisymm <;> omega) | omega)
theorem vr_n2 {op : Int} (h : op < 32 ∨ 36 < op) : ¬ (32 ≤ op ∧ op ≤ 34) := by (first | (apply Int.le_antisymm <;> omega) | omega)
theorem vr_v {nl gv tk : Nat → Int} {fc gc : Int} {f : Nat} {op v v2 : Int} {B B2 : List vt} {h h2 : Int} (H : vr nl gv tk fc gc f op v B h B2 h2) (hn : op ≠ 2 ∧ op ≠ 3 ∧ op ≠ 4 ∧ op ≠ 16 ∧ (op < 32 ∨ 36 < op)) : vr nl gv tk fc gc f op v2 B h B2 h2 := by
  obtain ⟨o, g, hb, d, R, a1, a2, a3, a4, a5, hq9r⟩ := H
  obtain ⟨a6, a7, a8, a9, a10, a11, a12, a13, a14, a15, a16⟩ := hq9r
  exact ⟨o, g, hb, d, R, a1, a2, a3, a4, a5, fun z => z.elim (fun e => absurd e hn.1) (fun e => absurd e hn.2.1), fun z => absurd z hn.2.2.1, a8, a9, a10, fun z => absurd z hn.2.2.2.1, a12, a13, fun z => absurd z (vr_n2 hn.2.2.2.2), fun z => absurd z (vr_n1 hn.2.2.2.2), a16⟩
theorem vr_nl {nl gv tk : Nat → Int} {fc gc N : Int} {f : Nat} {op v : Int} {B B2 : List vt} {h h2 : Int} (H : vr (fun _ => N) gv tk fc gc 0 op v B h B2 h2) (hn : nl f = N) : vr nl gv tk fc gc f op v B h B2 h2 := by
  obtain ⟨o, g, hb, d, R, a1, a2, a3, a4, a5, hq9r⟩ := H
  obtain ⟨a6, a7, a8, a9, a10, a11, a12, a13, a14, a15⟩ := hq9r
  exact ⟨o, g, hb, d, R, a1, a2, a3, a4, a5, a6, a7, a8, a9, a10, a11, a12, a13, fun z => by rw [hn]; exact a14 z, a15⟩
theorem cr_seq {N fc gc : Int} {gv tk : Nat → Int} : ∀ {l : List ci} {B : List vt} {h : Int} {B2 : List vt} {h2 : Int}, cr N gv tk fc gc l B h B2 h2 → ∃ (Bs : Nat → List vt) (hs : Nat → Int), Bs 0 = B ∧ hs 0 = h ∧ ∀ (i : Nat) (x : ci), l[i]? = some x → c1 N gv tk fc gc x (Bs i) (hs i) (Bs (i + 1)) (hs (i + 1)) := by
  intro l
  induction l with
  | nil => intro B h B2 h2 _; exact ⟨fun _ => B, fun _ => h, rfl, rfl, fun i x hx => by simp at hx⟩
  | cons y l ih =>
    intro B h B2 h2 H
    obtain ⟨B1, h1, q1, q2⟩ := H
    obtain ⟨Bs, hs, e1, e2, e3⟩ := ih q2
    refine ⟨fun i => match i with | 0 => B | i + 1 => Bs i, fun i => match i with | 0 => h | i + 1 => hs i, rfl, rfl, fun i x hx => ?_⟩
    cases i with
    | zero =>
      have e : y = x := by simpa using hx
      subst e
      show c1 N gv tk fc gc y B h (Bs 0) (hs 0)
      rw [e1, e2]
      exact q1
    | succ i => exact e3 i x (by simpa using hx)
theorem vfin_of {gv tk nl : Nat → Int} {fc gc lc : Int} {ft cfi clk cop cpt cel : Nat → Int32} {cva : Nat → Int64} {f : Nat} (h : cx gv tk fc gc ft cfi clk cop cva f) (hn : nl f = tk f + (clk f).toInt) (hr : rc_fin (cfi f).toNatClampNeg (cfi (f + 1)).toNatClampNeg cop cpt cel cva lc) : vfin nl gv tk fc gc f cop cpt cel cva lc (cfi f).toNatClampNeg ((cfi (f + 1)).toNatClampNeg - 1) := by
  obtain ⟨R, l, B, hh, q1, q2, q3, q4, q5, q6⟩ := h
  obtain ⟨sb, r1, r2, r3, r4⟩ := hr
  obtain ⟨Bs, hs, e1, e2, e3⟩ := cr_seq q2
  have c1_ := i32_clamp (x := cfi f) q4
  have c2_ := i32_clamp (x := cfi (f + 1)) (by (first | (apply Int.le_antisymm <;> omega) | omega))
  obtain ⟨a, ea⟩ : ∃ a, a = (cfi f).toNatClampNeg := ⟨_, rfl⟩
  obtain ⟨m, em⟩ : ∃ m, m = (cfi (f + 1)).toNatClampNeg - 1 := ⟨_, rfl⟩
  rw [← em] at r2 r3 r4 ⊢
  rw [← ea] at r2 q6 ⊢
  have hm : m = a + l.length := by (first | (apply Int.le_antisymm <;> omega) | omega)
  have st : ∀ i, i < l.length → ∃ x, l[i]? = some x ∧ c1 (tk f + (rsum R : Int)) gv tk fc gc x (Bs i) (hs i) (Bs (i + 1)) (hs (i + 1)) := fun i hi => ⟨l[i], List.getElem?_eq_getElem hi, e3 i l[i] (List.getElem?_eq_getElem hi)⟩
  refine ⟨sb, fun j => Bs (j - a), fun j => hs (j - a), r2, r3, r4, fun j j1 j2 j3 => ?_, fun j j1 j2 j3 => ?_, ?_, ?_, ?_⟩
  · dsimp only
    obtain ⟨x, hx, hc⟩ := st (j - a) (by (first | (apply Int.le_antisymm <;> omega) | omega))
    have hx2 : (l ++ [((11 : Int), (0 : Int))])[j - a]? = some x := by rw [List.getElem?_append_left (by (first | (apply Int.le_antisymm <;> omega) | omega))]; exact hx
    obtain ⟨w1, w2⟩ := q6 (j - a) x hx2
    rw [show a + (j - a) = j by (first | (apply Int.le_antisymm <;> omega) | omega)] at w1 w2
    rw [show j + 1 - a = j - a + 1 by (first | (apply Int.le_antisymm <;> omega) | omega), w1]
    have v1 := vr_nl (nl := nl) (f := f) hc.1 (by rw [hn, q3])
    by_cases z : x.1 = 65 ∨ x.1 = 66 ∨ x.1 = 40 ∨ x.1 = 41 ∨ x.1 = 44 ∨ x.1 = 45 ∨ x.1 = 54 ∨ x.1 = 55 ∨ x.1 = 58
    · exact vr_v v1 (by (first | (apply Int.le_antisymm <;> omega) | omega))
    · rw [w2 (by (first | (apply Int.le_antisymm <;> omega) | omega)) (by (first | (apply Int.le_antisymm <;> omega) | omega)) (by (first | (apply Int.le_antisymm <;> omega) | omega))]
      exact v1
  · dsimp only
    by_cases z : j = a
    · rw [z, Nat.sub_self, e1, e2]
      refine ⟨Int.le_refl _, fun y hy => ?_⟩
      rw [List.mem_singleton.mp hy]
      exact Int.le_refl _
    · obtain ⟨x, hx, hc⟩ := st (j - a - 1) (by (first | (apply Int.le_antisymm <;> omega) | omega))
      rw [show j - a - 1 + 1 = j - a by (first | (apply Int.le_antisymm <;> omega) | omega)] at hc
      exact hc.2
  · show (Bs (a - a)).length = 1
    rw [Nat.sub_self, e1]
    rfl
  · show hs (a - a) = 0
    rw [Nat.sub_self, e2]
  · show vlive (Bs (a - a)) = true
    rw [Nat.sub_self, e1]
    rfl
theorem mo_comp {pf ft to : Nat → Int32} {R : List Nat} {qn : Nat} {qG : List (Nat × Int)} {qX : List (List Nat × Nat × Nat)} {tc fcn hm gcn ec cc acl lc : Int32} {pl_ pm : Int64} {wat wap wag waf wgt wez cfi clk clt cop cpt cel cla : Nat → Int32} {cva : Nat → Int64} (hn : qn ≤ 20) (hG : qG.length ≤ 20) (hpf : ∀ f, f < qn → 0 ≤ tkF pf f ∧ tkF pf f ≤ 8)
    (ht : tyI to (tkF pf) ft qn R) (h : rA R (tkF pf) ft to qn qG qX (gvF ft) (qG.length : Int) 11 tc fcn hm gcn ec cc acl lc pl_ pm wat wap wag waf wgt wez cfi clk clt cop cpt cel cva) (hal : acl.toInt ≤ 5000) (hlc : lc.toInt = 0) :
    mo_ok fcn.toInt gcn.toInt waf wat wag cfi clk cop cpt cel cla cva ∧ fcn.toInt = (qn : Int) ∧ gcn.toInt = (qG.length : Int) := by
  obtain ⟨h1, h3, h5, h6, -, h7, h10, -⟩ := h
  obtain ⟨t1, t2, t3⟩ := h1 (by decide)
  obtain ⟨f1, f2⟩ := h3 (by decide)
  obtain ⟨g1, -⟩ := h6 (by decide)
  obtain ⟨d1_, d2_, d3_⟩ := h10 (by decide)
  have tl := tyI_len qn ht
  have key : ∀ f : Nat, (f : Int) < (qn : Int) → 0 ≤ (waf f).toInt ∧ (waf f).toInt < tc.toInt ∧ (wat (waf f).toNatClampNeg).toInt = tkF pf f ∧ (wag (waf f).toNatClampNeg).toInt = (ft f).toInt := by
    intro f hf
    obtain ⟨k0, r, k1, k2, k3⟩ := tyI_get qn ht f (by (first | (apply Int.le_antisymm <;> omega) | omega))
    have e := f2 f hf
    have kl := (List.getElem?_eq_some_iff.mp k1).1
    have c := i32_clamp (x := waf f) (by (first | (apply Int.le_antisymm <;> omega) | omega))
    obtain ⟨r2, m1, m2, m3⟩ := t2 (waf f).toNatClampNeg (by (first | (apply Int.le_antisymm <;> omega) | omega))
    rw [show (waf f).toNatClampNeg = (to f).toInt.toNat by (first | (apply Int.le_antisymm <;> omega) | omega)] at m1 ⊢
    rw [show (waf f).toNatClampNeg = (to f).toInt.toNat by (first | (apply Int.le_antisymm <;> omega) | omega)] at m2 m3
    rw [k1] at m1
    have er := Option.some.inj m1
    subst er
    exact ⟨by (first | (apply Int.le_antisymm <;> omega) | omega), by (first | (apply Int.le_antisymm <;> omega) | omega), by rw [m2, k2], by rw [m3, k3]⟩
  have hT : rd_T tc.toInt wat wap := by
    refine ⟨fun t hh => ?_, fun j hj => t3 j (by (first | (apply Int.le_antisymm <;> omega) | omega))⟩
    obtain ⟨r, m1, m2, -⟩ := t2 t (by (first | (apply Int.le_antisymm <;> omega) | omega))
    have rr := hpf r (tl.2 r (List.mem_of_getElem? m1))
    (first | (apply Int.le_antisymm <;> omega) | omega)
  refine ⟨?_, f1, g1⟩
  rw [f1, g1]
  refine mo_of (nl := fun f => tkF pf f + (clk f).toInt) (gv := gvF ft) (tk := tkF pf) (len := acl.toInt) (lc := lc.toInt) (gwap := wap) (gclt := clt) (by (first | (apply Int.le_antisymm <;> omega) | omega)) (fun f hf => by (first | (apply Int.le_antisymm <;> omega) | omega)) (vw_of hT (by (first | (apply Int.le_antisymm <;> omega) | omega)) (fun f hf => (key f hf).1) d2_ (fun f hf => (key f hf).2.1)) (fun f hf => ?_) (fun f hf => ?_) (fun f hf => ?_) d2_ hal (by (first | (apply Int.le_antisymm <;> omega) | omega)) (fun j hj => by (first | (apply Int.le_antisymm <;> omega) | omega)) (fun f hf => ?_)
  · rw [(key f hf).2.2.2]
    rfl
  · rw [(key f hf).2.2.1]
  · rw [(key f hf).2.2.1]
  · exact vfin_of (d3_ f (by (first | (apply Int.le_antisymm <;> omega) | omega))) rfl (d2_.1 f hf).2.2.2.1
end q_97
section q_98
/-! WaferForge: feed, end, argument -/
abbrev b_WF_end : ByteArray := prog_1_method_3_code
def y_WF_end : MethodName := ⟨R_WF, "end", "(I)I"⟩
abbrev w_WF_end : List Cond := .code y_WF_end b_WF_end 2 (Option.some .int) :: lw_g
theorem kC_WF_end : Cond.code y_WF_end b_WF_end 2 (Option.some .int) ∈ lw_g := in_c4 21 rfl rfl
theorem d_WF_end_0 : decode b_WF_end 0 = .ok (.iload_n 1, 1) := bz_c27 (by decide +kernel)
theorem d_WF_end_1 : decode b_WF_end 1 = .ok (.ifCond .lt 14, 3) := bz_c155 (by decide +kernel)
theorem d_WF_end_4 : decode b_WF_end 4 = .ok (.iload_n 1, 1) := bz_c27 (by decide +kernel)
theorem d_WF_end_5 : decode b_WF_end 5 = .ok (.aload_n 0, 1) := bz_c42 (by decide +kernel)
theorem d_WF_end_6 : decode b_WF_end 6 = .ok (.getfield 16, 3) := bz_c180 (by decide +kernel)
theorem d_WF_end_9 : decode b_WF_end 9 = .ok (.getfield 85, 3) := bz_c180 (by decide +kernel)
theorem d_WF_end_12 : decode b_WF_end 12 = .ok (.if_icmp .le 11, 3) := bz_c164 (by decide +kernel)
theorem d_WF_end_15 : decode b_WF_end 15 = .ok (.new 94, 3) := bz_c187 (by decide +kernel)
theorem d_WF_end_18 : decode b_WF_end 18 = .ok (.dup, 1) := bz_c89 (by decide +kernel)
theorem d_WF_end_19 : decode b_WF_end 19 = .ok (.invokespecial 96, 3) := bz_c183 (by decide +kernel)
theorem d_WF_end_22 : decode b_WF_end 22 = .ok (.athrow, 1) := bz_c191 (by decide +kernel)
theorem d_WF_end_23 : decode b_WF_end 23 = .ok (.aload_n 0, 1) := bz_c42 (by decide +kernel)
theorem d_WF_end_24 : decode b_WF_end 24 = .ok (.getfield 16, 3) := bz_c180 (by decide +kernel)
theorem d_WF_end_27 : decode b_WF_end 27 = .ok (.iload_n 1, 1) := bz_c27 (by decide +kernel)
theorem d_WF_end_28 : decode b_WF_end 28 = .ok (.putfield 85, 3) := bz_c181 (by decide +kernel)
theorem d_WF_end_31 : decode b_WF_end 31 = .ok (.iload_n 1, 1) := bz_c27 (by decide +kernel)
theorem d_WF_end_32 : decode b_WF_end 32 = .ok (.ireturn, 1) := bz_c172 (by decide +kernel)
theorem kF_WF_16 : Cond.fieldLink R_WF 16 "WaferForge" "tape" "LWaferForge$ByteRow;" ∈ lw_g := in_c3 116 rfl rfl
theorem kF_WF_85 : Cond.fieldLink R_WF 85 "WaferForge$ByteRow" "length" "I" ∈ lw_g := in_c1 57 rfl rfl
abbrev at_WF_end (dC : Nat → ClassId) (dI : Nat → Nat → Nat) (sa : Nat → Nat) (h0 ta rw ag h0_wafer_r h0_spare_r h0_program_r h0_coder_r h0_reader_r h0_validator_r h0_machine_r tab : Nat) (h0_argumentCount : Int32) (h0_reason : Int32) (h0_place : Int32) (h0_loaded : Int32) (A : Nat → Prop) (u : Int32) (t : State) : Prop := match u with | ta_length => va_P (dC, dI) cls (wz_253 h0 ta rw ag h0_argumentCount h0_reason h0_place h0_loaded h0_wafer_r h0_spare_r h0_program_r h0_coder_r h0_reader_r h0_validator_r h0_machine_r ta tab ta_length) t.heap ∧ va_K (dC, dI) cls [] t ∧ va_D A (wz_253 h0 ta rw ag h0_argumentCount h0_reason h0_place h0_loaded h0_wafer_r h0_spare_r h0_program_r h0_coder_r h0_reader_r h0_validator_r h0_machine_r ta tab ta_length)
set_option maxHeartbeats 4000000 in
set_option maxRecDepth 100000 in
theorem c_WF_end (l : Launch) (hlt : l.stackTraces = false) (dC : Nat → ClassId) (dI : Nat → Nat → Nat) (sz : Nat) (sa : Nat → Nat) (h0 ta rw ag h0_wafer_r h0_spare_r h0_program_r h0_coder_r h0_reader_r h0_validator_r h0_machine_r tab : Nat) (h0_argumentCount : Int32) (h0_reason : Int32) (h0_place : Int32) (h0_loaded : Int32) (ta_length : Int32)  (b_ta_length : 0 ≤ ta_length.toInt ∧ ta_length.toInt ≤ 2000) (p0 : Int32)   : tz_Met l y_WF_end w_WF_end ({ frames := 6, cells := 1, slots := 6, locals := 90 }) (va_Pc [.ref h0, .int p0] (fun U => U.heap.size = sz ∧ va_P (dC, dI) cls (wz_253 h0 ta rw ag h0_argumentCount h0_reason h0_place h0_loaded h0_wafer_r h0_spare_r h0_program_r h0_coder_r h0_reader_r h0_validator_r h0_machine_r ta tab ta_length) U.heap ∧ va_K (dC, dI) cls [] U ∧ va_D (fun _ => True) (wz_253 h0 ta rw ag h0_argumentCount h0_reason h0_place h0_loaded h0_wafer_r h0_spare_r h0_program_r h0_coder_r h0_reader_r h0_validator_r h0_machine_r ta tab ta_length) ∧ sw sa (va_A (wz_253 h0 ta rw ag h0_argumentCount h0_reason h0_place h0_loaded h0_wafer_r h0_spare_r h0_program_r h0_coder_r h0_reader_r h0_validator_r h0_machine_r ta tab ta_length) sz) U U.heap)) (tq_Q (tq_i (fun (r : Int32) (u : Int32) => match u with | ta_length2 => (0 ≤ ta_length2.toInt ∧ ta_length2.toInt ≤ 2000) ∧ (ta_length2 = p0 ∧ r = p0 ∧ 0 ≤ p0.toInt ∧ p0.toInt ≤ ta_length.toInt)) "java/lang/IllegalArgumentException" (fun (u : Int32) => match u with | ta_length2 => (0 ≤ ta_length2.toInt ∧ ta_length2.toInt ≤ 2000) ∧ (ta_length2 = ta_length ∧ (p0.toInt < 0 ∨ ta_length.toInt < p0.toInt)))) (at_WF_end dC dI sa h0 ta rw ag h0_wafer_r h0_spare_r h0_program_r h0_coder_r h0_reader_r h0_validator_r h0_machine_r tab h0_argumentCount h0_reason h0_place h0_loaded (va_A (wz_253 h0 ta rw ag h0_argumentCount h0_reason h0_place h0_loaded h0_wafer_r h0_spare_r h0_program_r h0_coder_r h0_reader_r h0_validator_r h0_machine_r ta tab ta_length) sz)) (va_A (wz_253 h0 ta rw ag h0_argumentCount h0_reason h0_place h0_loaded h0_wafer_r h0_spare_r h0_program_r h0_coder_r h0_reader_r h0_validator_r h0_machine_r ta tab ta_length) sz)) (tz_k 0 0 1 6) (va_A (wz_253 h0 ta rw ag h0_argumentCount h0_reason h0_place h0_loaded h0_wafer_r h0_spare_r h0_program_r h0_coder_r h0_reader_r h0_validator_r h0_machine_r ta tab ta_length) sz) := by
  refine tz_ofW (cc := b_WF_end) (maxL := 2) (ret := (Option.some .int)) (by decide) rfl ?_
  intro p e s m args below meth c s₁ B hml hno hv
  obtain ⟨rfl, hsz, hP, hK, hD0, hSW⟩ := hv
  have hx := B.exec
  have hb := B.bytes
  have hr := B.returns
  have hts0 := atoms_spec (ws := w_WF_end) B.pre
  have hts : ∀ w ∈ lw_g, w.before _ s = true := fun w h => hts0 w (List.mem_cons_of_mem _ h)
  have hown : s.vm.findClass R_WF = some m.cls := findClass_of_methodNamed B.named
  have hlocks := B.notSynchronized
  clear hts0
  subst hsz
  have hD := hD0.self (sz := s.heap.size)
  generalize hAe : va_A (wz_253 h0 ta rw ag h0_argumentCount h0_reason h0_place h0_loaded h0_wafer_r h0_spare_r h0_program_r h0_coder_r h0_reader_r h0_validator_r h0_machine_r ta tab ta_length) s.heap.size = A at hD hSW ⊢
  have hA : ∀ q : Nat, s.heap.size ≤ q → A q := fun q h => by rw [← hAe]; exact Or.inr h
  clear hAe
  have hP : va_P (dC, dI) cls (wz_253 h0 ta rw ag h0_argumentCount h0_reason h0_place h0_loaded h0_wafer_r h0_spare_r h0_program_r h0_coder_r h0_reader_r h0_validator_r h0_machine_r ta tab ta_length) s.heap := hP
  have hl := lv_entry ([.ref h0, .int p0]) (n := 2) (Nat.le_of_ble_eq_true rfl)
  rw [lg_entry_eq]
  generalize (lg_sl ([.ref h0, .int p0]) ++ List.replicate (2 - (lg_sl ([.ref h0, .int p0])).length) Slot.unset).toArray = ls at hl ⊢
  have hl : lv_has ls 2 [(0, .ref h0), (1, .int p0)] := hl
  have k0 : (0 : Int32).toInt = 0 := by decide
  refine w_gen (A := A) hP (fun H locs hP hS => ?_)
  have lo_p0 := i32_lo p0
  have hi_p0 := i32_hi p0
  refine lv_iload_n hx hb d_WF_end_0 rfl (lv_at hl 1 rfl) ?_
  refine w_cut (pc2 := 15) (σ := Unit) (fun u H locs ls => match u with | _ => (p0.toInt < 0 ∨ ta_length.toInt < p0.toInt) ∧ va_P (dC, dI) cls (wz_253 h0 ta rw ag h0_argumentCount h0_reason h0_place h0_loaded h0_wafer_r h0_spare_r h0_program_r h0_coder_r h0_reader_r h0_validator_r h0_machine_r ta tab ta_length) H ∧ va_D A (wz_253 h0 ta rw ag h0_argumentCount h0_reason h0_place h0_loaded h0_wafer_r h0_spare_r h0_program_r h0_coder_r h0_reader_r h0_validator_r h0_machine_r ta tab ta_length) ∧ va_S A s.heap H locs ∧ lv_has ls 2 []) (fun u => match u with | _ => []) ?_ (fun jn15 => ?_)
  · intro u H locs ls hI
    obtain ⟨y15, hP, hD, hS, hl⟩ := hI
    have hP9 := hP.sb (wq := (wz_253 h0 ta rw ag h0_argumentCount h0_reason h0_place h0_loaded h0_wafer_r h0_spare_r h0_program_r h0_coder_r h0_reader_r h0_validator_r h0_machine_r ta tab ta_length)) [0, 1] rfl
    have hD9 := hD.sb (wq := (wz_253 h0 ta rw ag h0_argumentCount h0_reason h0_place h0_loaded h0_wafer_r h0_spare_r h0_program_r h0_coder_r h0_reader_r h0_validator_r h0_machine_r ta tab ta_length)) [0, 1] (by decide) rfl
    exact tz_throwNew hx hb hno hlocks hlt (hl.1.trans hml.symm) hown (by decide +kernel) (by decide +kernel) (fun U hU hW => eb_WF_ia hts hSW hS U hU hW) d_WF_end_15 d_WF_end_18 d_WF_end_19 d_WF_end_22 (by decide) (Nat.le_of_ble_eq_true rfl) (Nat.le_of_ble_eq_true rfl) (Nat.le_of_ble_eq_true rfl) (fun _ => rfl) (fun x t h1 h2 h3 h4 => ⟨⟨ta_length, ⟨⟨b_ta_length, ⟨rfl, by (first | (apply Int.le_antisymm <;> omega) | omega)⟩⟩, h3⟩, vp_ext hP9 h2, va_K.moved h4.alike hK, hD9⟩, vs_ext hS h1 h2⟩) hS.2.2
  · skip
    refine lv_if_lt (tgt := 15) hx hb d_WF_end_1 (by decide) (fun c1 => ?_) (fun c1 => ?_)
    · have q1 := ltI c1
      exact jn15 () _ _ _ ⟨by (try dsimp only) <;> (first | (apply Int.le_antisymm <;> omega) | omega), hP, hD, hS, lv_sub hl [] rfl⟩
    · have q1 := nltI c1
      refine lv_iload_n hx hb d_WF_end_4 rfl (lv_at hl 1 rfl) ?_
      refine lv_aload_n hx hb d_WF_end_5 rfl (lv_at hl 0 rfl) ?_
      refine va_get (D := (dC, dI)) (ci := 0) (v := .ref ta) (C := R_WF) (T := F_WF) (N := 14) hx hb hts i_WF hown hK hP 0 rfl rfl 0 (by decide) (hts _ kF_WF_16) (fun _ h9 => h9) rfl d_WF_end_6 ?_
      refine va_get (D := (dC, dI)) (ci := 1) (v := .int ta_length) (C := R_BR) (T := F_BR) (N := 2) hx hb hts i_BR hown hK hP 1 rfl rfl 1 (by decide) (hts _ kF_WF_85) (fun _ h9 => h9) rfl d_WF_end_9 ?_
      refine lv_icmp_le (tgt := 23) hx hb d_WF_end_12 (by decide) (fun c12 => ?_) (fun c12 => ?_)
      · have q12 := leI c12
        refine lv_aload_n hx hb d_WF_end_23 rfl (lv_at hl 0 rfl) ?_
        refine va_get (D := (dC, dI)) (ci := 0) (v := .ref ta) (C := R_WF) (T := F_WF) (N := 14) hx hb hts i_WF hown hK hP 0 rfl rfl 0 (by decide) (hts _ kF_WF_16) (fun _ h9 => h9) rfl d_WF_end_24 ?_
        refine lv_iload_n hx hb d_WF_end_27 rfl (lv_at hl 1 rfl) ?_
        refine va_put (D := (dC, dI)) (ci := 1) (v := .int p0) (ty := .int) (C := R_BR) (T := F_BR) (N := 2) hx hb hts i_BR t_BR t_BR_ok n_BR hown hK hP hD hS 1 rfl rfl 1 (by decide) (hts _ kF_WF_85) (fun _ h9 => h9) rfl (by decide +kernel) rfl rfl (Nat.le_of_ble_eq_true rfl) d_WF_end_28 (fun H locs hP hD hS => ?_)
        refine lv_iload_n hx hb d_WF_end_31 rfl (lv_at hl 1 rfl) ?_
        have hP9 := hP.sb (wq := (wz_253 h0 ta rw ag h0_argumentCount h0_reason h0_place h0_loaded h0_wafer_r h0_spare_r h0_program_r h0_coder_r h0_reader_r h0_validator_r h0_machine_r ta tab p0)) [0, 1] rfl
        have hD9 := hD.sb (wq := (wz_253 h0 ta rw ag h0_argumentCount h0_reason h0_place h0_loaded h0_wafer_r h0_spare_r h0_program_r h0_coder_r h0_reader_r h0_validator_r h0_machine_r ta tab p0)) [0, 1] (by decide) rfl
        exact tz_up (fun _ => rfl) (W.iret (v := p0) hx hb hr (fun t ht hW => ⟨⟨p0, ⟨p0, rfl, ⟨by (try dsimp only) <;> (first | (apply Int.le_antisymm <;> omega) | omega), ⟨rfl, rfl, by (first | (apply Int.le_antisymm <;> omega) | omega), by (first | (apply Int.le_antisymm <;> omega) | omega)⟩⟩⟩, va_P.he ht.symm hP9, va_K.moved hW.alike hK, hD9⟩, hS.F ht⟩) hS.2.2 d_WF_end_32)
      · have q12 := nleI c12
        exact jn15 () _ _ _ ⟨by (try dsimp only) <;> (first | (apply Int.le_antisymm <;> omega) | omega), hP, hD, hS, lv_sub hl [] rfl⟩
abbrev b_WF_feed : ByteArray := prog_1_method_2_code
def y_WF_feed : MethodName := ⟨R_WF, "feed", "(IIIII)I"⟩
abbrev w_WF_feed : List Cond := .code y_WF_feed b_WF_feed 6 (Option.some .int) :: lw_g
theorem kC_WF_feed : Cond.code y_WF_feed b_WF_feed 6 (Option.some .int) ∈ lw_g := in_c3 178 rfl rfl
theorem d_WF_feed_0 : decode b_WF_feed 0 = .ok (.aload_n 0, 1) := bz_c42 (by decide +kernel)
theorem d_WF_feed_1 : decode b_WF_feed 1 = .ok (.getfield 16, 3) := bz_c180 (by decide +kernel)
theorem d_WF_feed_4 : decode b_WF_feed 4 = .ok (.getfield 85, 3) := bz_c180 (by decide +kernel)
theorem d_WF_feed_7 : decode b_WF_feed 7 = .ok (.bipush 20, 2) := bz_c16 (by decide +kernel)
theorem d_WF_feed_9 : decode b_WF_feed 9 = .ok (.iadd, 1) := bz_c96 (by decide +kernel)
theorem d_WF_feed_10 : decode b_WF_feed 10 = .ok (.sipush 2000, 3) := bz_c17 (by decide +kernel)
theorem d_WF_feed_13 : decode b_WF_feed 13 = .ok (.if_icmp .le 11, 3) := bz_c164 (by decide +kernel)
theorem d_WF_feed_16 : decode b_WF_feed 16 = .ok (.new 88, 3) := bz_c187 (by decide +kernel)
theorem d_WF_feed_19 : decode b_WF_feed 19 = .ok (.dup, 1) := bz_c89 (by decide +kernel)
theorem d_WF_feed_20 : decode b_WF_feed 20 = .ok (.invokespecial 90, 3) := bz_c183 (by decide +kernel)
theorem d_WF_feed_23 : decode b_WF_feed 23 = .ok (.athrow, 1) := bz_c191 (by decide +kernel)
theorem d_WF_feed_24 : decode b_WF_feed 24 = .ok (.aload_n 0, 1) := bz_c42 (by decide +kernel)
theorem d_WF_feed_25 : decode b_WF_feed 25 = .ok (.getfield 16, 3) := bz_c180 (by decide +kernel)
theorem d_WF_feed_28 : decode b_WF_feed 28 = .ok (.iload_n 1, 1) := bz_c27 (by decide +kernel)
theorem d_WF_feed_29 : decode b_WF_feed 29 = .ok (.invokevirtual 91, 3) := bz_c182 (by decide +kernel)
theorem d_WF_feed_32 : decode b_WF_feed 32 = .ok (.aload_n 0, 1) := bz_c42 (by decide +kernel)
theorem d_WF_feed_33 : decode b_WF_feed 33 = .ok (.getfield 16, 3) := bz_c180 (by decide +kernel)
theorem d_WF_feed_36 : decode b_WF_feed 36 = .ok (.iload_n 2, 1) := bz_c28 (by decide +kernel)
theorem d_WF_feed_37 : decode b_WF_feed 37 = .ok (.invokevirtual 91, 3) := bz_c182 (by decide +kernel)
theorem d_WF_feed_40 : decode b_WF_feed 40 = .ok (.aload_n 0, 1) := bz_c42 (by decide +kernel)
theorem d_WF_feed_41 : decode b_WF_feed 41 = .ok (.getfield 16, 3) := bz_c180 (by decide +kernel)
theorem d_WF_feed_44 : decode b_WF_feed 44 = .ok (.iload_n 3, 1) := bz_c29 (by decide +kernel)
theorem d_WF_feed_45 : decode b_WF_feed 45 = .ok (.invokevirtual 91, 3) := bz_c182 (by decide +kernel)
theorem d_WF_feed_48 : decode b_WF_feed 48 = .ok (.aload_n 0, 1) := bz_c42 (by decide +kernel)
theorem d_WF_feed_49 : decode b_WF_feed 49 = .ok (.getfield 16, 3) := bz_c180 (by decide +kernel)
theorem d_WF_feed_52 : decode b_WF_feed 52 = .ok (.iload 4, 2) := bz_c21 (by decide +kernel)
theorem d_WF_feed_54 : decode b_WF_feed 54 = .ok (.invokevirtual 91, 3) := bz_c182 (by decide +kernel)
theorem d_WF_feed_57 : decode b_WF_feed 57 = .ok (.aload_n 0, 1) := bz_c42 (by decide +kernel)
theorem d_WF_feed_58 : decode b_WF_feed 58 = .ok (.getfield 16, 3) := bz_c180 (by decide +kernel)
theorem d_WF_feed_61 : decode b_WF_feed 61 = .ok (.iload 5, 2) := bz_c21 (by decide +kernel)
theorem d_WF_feed_63 : decode b_WF_feed 63 = .ok (.invokevirtual 91, 3) := bz_c182 (by decide +kernel)
theorem d_WF_feed_66 : decode b_WF_feed 66 = .ok (.aload_n 0, 1) := bz_c42 (by decide +kernel)
theorem d_WF_feed_67 : decode b_WF_feed 67 = .ok (.getfield 16, 3) := bz_c180 (by decide +kernel)
theorem d_WF_feed_70 : decode b_WF_feed 70 = .ok (.getfield 85, 3) := bz_c180 (by decide +kernel)
theorem d_WF_feed_73 : decode b_WF_feed 73 = .ok (.ireturn, 1) := bz_c172 (by decide +kernel)
theorem kM_WF_91 : Cond.methodLink R_WF 91 y_BR_putInt ∈ lw_g := in_c4 6 rfl rfl
theorem kV_BR_putInt : Cond.instanceMethod y_BR_putInt ∈ lw_g := in_c4 7 rfl rfl
theorem kS_BR_putInt : Cond.selects R_BR y_BR_putInt y_BR_putInt ∈ lw_g := in_c4 8 rfl rfl
abbrev at_WF_feed (dC : Nat → ClassId) (dI : Nat → Nat → Nat) (sa : Nat → Nat) (h0 ta rw ag h0_wafer_r h0_spare_r h0_program_r h0_coder_r h0_reader_r h0_validator_r h0_machine_r tab : Nat) (ctab : ClassId) (h0_argumentCount : Int32) (h0_reason : Int32) (h0_place : Int32) (h0_loaded : Int32) (A : Nat → Prop) (u : (Nat → Int32) × Int32) (t : State) : Prop := match u with | (gtab, ta_length) => va_P (dC, dI) cls (wz_254 h0 ta rw ag h0_argumentCount h0_reason h0_place h0_loaded h0_wafer_r h0_spare_r h0_program_r h0_coder_r h0_reader_r h0_validator_r h0_machine_r ta tab ta_length tab ctab gtab) t.heap ∧ va_K (dC, dI) cls [(ctab, .byte)] t ∧ va_D A (wz_254 h0 ta rw ag h0_argumentCount h0_reason h0_place h0_loaded h0_wafer_r h0_spare_r h0_program_r h0_coder_r h0_reader_r h0_validator_r h0_machine_r ta tab ta_length tab ctab gtab)
set_option maxHeartbeats 4000000 in
set_option maxRecDepth 100000 in
theorem c_WF_feed (l : Launch) (hlt : l.stackTraces = false) (dC : Nat → ClassId) (dI : Nat → Nat → Nat) (sz : Nat) (sa : Nat → Nat) (h0 ta rw ag h0_wafer_r h0_spare_r h0_program_r h0_coder_r h0_reader_r h0_validator_r h0_machine_r tab : Nat) (ctab : ClassId) (h0_argumentCount : Int32) (h0_reason : Int32) (h0_place : Int32) (h0_loaded : Int32) (ta_length : Int32) (gtab : Nat → Int32)  (b_ta_length : 0 ≤ ta_length.toInt ∧ ta_length.toInt ≤ 2000) (p0 : Int32) (p1 : Int32) (p2 : Int32) (p3 : Int32) (p4 : Int32)   : tz_Met l y_WF_feed w_WF_feed ({ frames := 6, cells := 1, slots := 6, locals := 90 }) (va_Pc [.ref h0, .int p0, .int p1, .int p2, .int p3, .int p4] (fun U => U.heap.size = sz ∧ va_P (dC, dI) cls (wz_254 h0 ta rw ag h0_argumentCount h0_reason h0_place h0_loaded h0_wafer_r h0_spare_r h0_program_r h0_coder_r h0_reader_r h0_validator_r h0_machine_r ta tab ta_length tab ctab gtab) U.heap ∧ va_K (dC, dI) cls [(ctab, .byte)] U ∧ va_D (fun _ => True) (wz_254 h0 ta rw ag h0_argumentCount h0_reason h0_place h0_loaded h0_wafer_r h0_spare_r h0_program_r h0_coder_r h0_reader_r h0_validator_r h0_machine_r ta tab ta_length tab ctab gtab) ∧ sw sa (va_A (wz_254 h0 ta rw ag h0_argumentCount h0_reason h0_place h0_loaded h0_wafer_r h0_spare_r h0_program_r h0_coder_r h0_reader_r h0_validator_r h0_machine_r ta tab ta_length tab ctab gtab) sz) U U.heap)) (tq_Q (tq_i (fun (r : Int32) (u : (Nat → Int32) × Int32) => match u with | (gtab2, ta_length2) => (0 ≤ ta_length2.toInt ∧ ta_length2.toInt ≤ 2000) ∧ (ta_length2.toInt = ta_length.toInt + 20 ∧ r = ta_length2)) "java/lang/IndexOutOfBoundsException" (fun (u : (Nat → Int32) × Int32) => match u with | (gtab2, ta_length2) => (0 ≤ ta_length2.toInt ∧ ta_length2.toInt ≤ 2000) ∧ (ta_length2 = ta_length ∧ 1980 < ta_length.toInt))) (at_WF_feed dC dI sa h0 ta rw ag h0_wafer_r h0_spare_r h0_program_r h0_coder_r h0_reader_r h0_validator_r h0_machine_r tab ctab h0_argumentCount h0_reason h0_place h0_loaded (va_A (wz_254 h0 ta rw ag h0_argumentCount h0_reason h0_place h0_loaded h0_wafer_r h0_spare_r h0_program_r h0_coder_r h0_reader_r h0_validator_r h0_machine_r ta tab ta_length tab ctab gtab) sz)) (va_A (wz_254 h0 ta rw ag h0_argumentCount h0_reason h0_place h0_loaded h0_wafer_r h0_spare_r h0_program_r h0_coder_r h0_reader_r h0_validator_r h0_machine_r ta tab ta_length tab ctab gtab) sz)) (tz_k 0 0 1 6) (va_A (wz_254 h0 ta rw ag h0_argumentCount h0_reason h0_place h0_loaded h0_wafer_r h0_spare_r h0_program_r h0_coder_r h0_reader_r h0_validator_r h0_machine_r ta tab ta_length tab ctab gtab) sz) := by
  refine tz_ofW (cc := b_WF_feed) (maxL := 6) (ret := (Option.some .int)) (by decide) rfl ?_
  intro p e s m args below meth c s₁ B hml hno hv
  obtain ⟨rfl, hsz, hP, hK, hD0, hSW⟩ := hv
  have hx := B.exec
  have hb := B.bytes
  have hr := B.returns
  have hts0 := atoms_spec (ws := w_WF_feed) B.pre
  have hts : ∀ w ∈ lw_g, w.before _ s = true := fun w h => hts0 w (List.mem_cons_of_mem _ h)
  have hown : s.vm.findClass R_WF = some m.cls := findClass_of_methodNamed B.named
  have hlocks := B.notSynchronized
  clear hts0
  subst hsz
  have hD := hD0.self (sz := s.heap.size)
  generalize hAe : va_A (wz_254 h0 ta rw ag h0_argumentCount h0_reason h0_place h0_loaded h0_wafer_r h0_spare_r h0_program_r h0_coder_r h0_reader_r h0_validator_r h0_machine_r ta tab ta_length tab ctab gtab) s.heap.size = A at hD hSW ⊢
  have hA : ∀ q : Nat, s.heap.size ≤ q → A q := fun q h => by rw [← hAe]; exact Or.inr h
  clear hAe
  have hP : va_P (dC, dI) cls (wz_254 h0 ta rw ag h0_argumentCount h0_reason h0_place h0_loaded h0_wafer_r h0_spare_r h0_program_r h0_coder_r h0_reader_r h0_validator_r h0_machine_r ta tab ta_length tab ctab gtab) s.heap := hP
  have hl := lv_entry ([.ref h0, .int p0, .int p1, .int p2, .int p3, .int p4]) (n := 6) (Nat.le_of_ble_eq_true rfl)
  rw [lg_entry_eq]
  generalize (lg_sl ([.ref h0, .int p0, .int p1, .int p2, .int p3, .int p4]) ++ List.replicate (6 - (lg_sl ([.ref h0, .int p0, .int p1, .int p2, .int p3, .int p4])).length) Slot.unset).toArray = ls at hl ⊢
  have hl : lv_has ls 6 [(0, .ref h0), (1, .int p0), (2, .int p1), (3, .int p2), (4, .int p3), (5, .int p4)] := hl
  have k0 : (0 : Int32).toInt = 0 := by decide
  refine w_gen (A := A) hP (fun H locs hP hS => ?_)
  have k20 : (20 : Int32).toInt = 20 := by decide
  have k2000 : (2000 : Int32).toInt = 2000 := by decide
  have lo_p0 := i32_lo p0
  have hi_p0 := i32_hi p0
  have lo_p1 := i32_lo p1
  have hi_p1 := i32_hi p1
  have lo_p2 := i32_lo p2
  have hi_p2 := i32_hi p2
  have lo_p3 := i32_lo p3
  have hi_p3 := i32_hi p3
  have lo_p4 := i32_lo p4
  have hi_p4 := i32_hi p4
  refine lv_aload_n hx hb d_WF_feed_0 rfl (lv_at hl 0 rfl) ?_
  refine va_get (D := (dC, dI)) (ci := 0) (v := .ref ta) (C := R_WF) (T := F_WF) (N := 14) hx hb hts i_WF hown hK hP 0 rfl rfl 0 (by decide) (hts _ kF_WF_16) (fun _ h9 => h9) rfl d_WF_feed_1 ?_
  refine va_get (D := (dC, dI)) (ci := 1) (v := .int ta_length) (C := R_BR) (T := F_BR) (N := 2) hx hb hts i_BR hown hK hP 1 rfl rfl 1 (by decide) (hts _ kF_WF_85) (fun _ h9 => h9) rfl d_WF_feed_4 ?_
  refine lv_bipush (v := 20) hx hb d_WF_feed_7 (by decide) ?_
  refine lv_iadd hx hb d_WF_feed_9 ?_
  refine lv_topi (fun x1 ex1 => ?_)
  have tx1 : x1.toInt = ta_length.toInt + 20 := by have z := i32_add ex1 (by (first | (apply Int.le_antisymm <;> omega) | omega)) (by (first | (apply Int.le_antisymm <;> omega) | omega)); first | exact z | (first | (apply Int.le_antisymm <;> omega) | omega)
  refine lv_sipush (v := 2000) hx hb d_WF_feed_10 (by decide) ?_
  refine lv_icmp_le (tgt := 24) hx hb d_WF_feed_13 (by decide) (fun c13 => ?_) (fun c13 => ?_)
  · have q13 := leI c13
    refine lv_aload_n hx hb d_WF_feed_24 rfl (lv_at hl 0 rfl) ?_
    refine va_get (D := (dC, dI)) (ci := 0) (v := .ref ta) (C := R_WF) (T := F_WF) (N := 14) hx hb hts i_WF hown hK hP 0 rfl rfl 0 (by decide) (hts _ kF_WF_16) (fun _ h9 => h9) rfl d_WF_feed_25 ?_
    refine lv_iload_n hx hb d_WF_feed_28 rfl (lv_at hl 1 rfl) ?_
    have hPc := hP.sb (wq := [(ta, .inr (1, [.ref tab, .int ta_length])), (tab, .inl (ctab, 2000, .inl gtab))]) [1, 2] rfl
    have hDc := hD.sb (wq := [(ta, .inr (1, [.ref tab, .int ta_length])), (tab, .inl (ctab, 2000, .inl gtab))]) [1, 2] (by decide) rfl
    have hKc := hK.sb (tyq := [(ctab, .byte)]) [0] rfl
    have hFc := va_free (wc := [(ta, .inr (1, [.ref tab, .int ta_length])), (tab, .inl (ctab, 2000, .inl gtab))]) hD hS hA [1, 2] rfl
    refine va_callv (va_runV (As := [.int p0]) (rest := []) ⟨hx, hb, hml, hown, hts⟩ (c_BR_putInt l dC dI ta tab H.size ctab 2000 ta_length gtab (by (first | (apply Int.le_antisymm <;> omega) | omega)) (by (first | (apply Int.le_antisymm <;> omega) | omega)) (by (first | (apply Int.le_antisymm <;> omega) | omega)) p0) (cwV 1 hts (gV kM_WF_91 kV_BR_putInt kS_BR_putInt kI_BR kC_BR_putInt) rfl rfl rfl (by decide +kernel) ⟨Nat.le_of_ble_eq_true rfl, Nat.le_of_ble_eq_true rfl⟩) ⟨fun a U g mk z => by obtain ⟨z0, z1, zP, zK, zD⟩ := z; exact ⟨z0, z1, zP, va_K.moved (u := U) (U := U.calling g mk a) (Vm.Alike.refl U.vm) zK, zD⟩, va_recv hKc hPc (ci := 1) (q0 := 0) rfl rfl, fun U hU hW => ⟨rfl, by rw [hU], va_P.he hU.symm hPc, va_K.moved hW.alike hKc, hDc.weaken (fun _ _ _ _ => trivial)⟩⟩ rfl rfl hl.1 rfl (lv_room (Nat.le_of_ble_eq_true rfl)) d_WF_feed_29 ⟨(Nat.zero_le _), (Nat.zero_le _)⟩) hS (fun q _ h => hFc q h) hFc (fun u t H1 locs ht hvm hw hB hz1 hk1 hS => ?_)
    obtain ⟨n3, f4⟩ := u
    try dsimp only at hw
    have tn3 := hw
    obtain ⟨hP1, hK1, hD1⟩ := hB
    replace hP1 := va_P.he ht hP1
    obtain ⟨hP, hD⟩ := va_join (wr := (wz_255 h0 ta rw ag h0_argumentCount h0_reason h0_place h0_loaded h0_wafer_r h0_spare_r h0_program_r h0_coder_r h0_reader_r h0_validator_r h0_machine_r)) (w1 := [(ta, .inr (1, [.ref tab, .int n3])), (tab, .inl (ctab, 2000, .inl f4))]) hP hD [1, 2] [0] rfl rfl (by decide) (by decide) hk1 hFc hP1 hD1
    clear hPc hDc hKc hFc hz1 hk1 hP1 hK1 hD1
    rename Heap => H
    have hP : va_P (dC, dI) cls (wz_254 h0 ta rw ag h0_argumentCount h0_reason h0_place h0_loaded h0_wafer_r h0_spare_r h0_program_r h0_coder_r h0_reader_r h0_validator_r h0_machine_r ta tab n3 tab ctab f4) H := hP
    have hD : va_D A (wz_254 h0 ta rw ag h0_argumentCount h0_reason h0_place h0_loaded h0_wafer_r h0_spare_r h0_program_r h0_coder_r h0_reader_r h0_validator_r h0_machine_r ta tab n3 tab ctab f4) := hD
    refine lv_aload_n hx hb d_WF_feed_32 rfl (lv_at hl 0 rfl) ?_
    refine va_get (D := (dC, dI)) (ci := 0) (v := .ref ta) (C := R_WF) (T := F_WF) (N := 14) hx hb hts i_WF hown hK hP 0 rfl rfl 0 (by decide) (hts _ kF_WF_16) (fun _ h9 => h9) rfl d_WF_feed_33 ?_
    refine lv_iload_n hx hb d_WF_feed_36 rfl (lv_at hl 2 rfl) ?_
    have hPc := hP.sb (wq := [(ta, .inr (1, [.ref tab, .int n3])), (tab, .inl (ctab, 2000, .inl f4))]) [1, 2] rfl
    have hDc := hD.sb (wq := [(ta, .inr (1, [.ref tab, .int n3])), (tab, .inl (ctab, 2000, .inl f4))]) [1, 2] (by decide) rfl
    have hKc := hK.sb (tyq := [(ctab, .byte)]) [0] rfl
    have hFc := va_free (wc := [(ta, .inr (1, [.ref tab, .int n3])), (tab, .inl (ctab, 2000, .inl f4))]) hD hS hA [1, 2] rfl
    refine va_callv (va_runV (As := [.int p1]) (rest := []) ⟨hx, hb, hml, hown, hts⟩ (c_BR_putInt l dC dI ta tab H.size ctab 2000 n3 f4 (by (first | (apply Int.le_antisymm <;> omega) | omega)) (by (first | (apply Int.le_antisymm <;> omega) | omega)) (by (first | (apply Int.le_antisymm <;> omega) | omega)) p1) (cwV 1 hts (gV kM_WF_91 kV_BR_putInt kS_BR_putInt kI_BR kC_BR_putInt) rfl rfl rfl (by decide +kernel) ⟨Nat.le_of_ble_eq_true rfl, Nat.le_of_ble_eq_true rfl⟩) ⟨fun a U g mk z => by obtain ⟨z0, z1, zP, zK, zD⟩ := z; exact ⟨z0, z1, zP, va_K.moved (u := U) (U := U.calling g mk a) (Vm.Alike.refl U.vm) zK, zD⟩, va_recv hKc hPc (ci := 1) (q0 := 0) rfl rfl, fun U hU hW => ⟨rfl, by rw [hU], va_P.he hU.symm hPc, va_K.moved hW.alike hKc, hDc.weaken (fun _ _ _ _ => trivial)⟩⟩ rfl rfl hl.1 rfl (lv_room (Nat.le_of_ble_eq_true rfl)) d_WF_feed_37 ⟨(Nat.zero_le _), (Nat.zero_le _)⟩) hS (fun q _ h => hFc q h) hFc (fun u t H1 locs ht hvm hw hB hz1 hk1 hS => ?_)
    obtain ⟨n6, f7⟩ := u
    try dsimp only at hw
    have tn6 := hw
    obtain ⟨hP1, hK1, hD1⟩ := hB
    replace hP1 := va_P.he ht hP1
    obtain ⟨hP, hD⟩ := va_join (wr := (wz_255 h0 ta rw ag h0_argumentCount h0_reason h0_place h0_loaded h0_wafer_r h0_spare_r h0_program_r h0_coder_r h0_reader_r h0_validator_r h0_machine_r)) (w1 := [(ta, .inr (1, [.ref tab, .int n6])), (tab, .inl (ctab, 2000, .inl f7))]) hP hD [1, 2] [0] rfl rfl (by decide) (by decide) hk1 hFc hP1 hD1
    clear hPc hDc hKc hFc hz1 hk1 hP1 hK1 hD1
    rename Heap => H
    have hP : va_P (dC, dI) cls (wz_254 h0 ta rw ag h0_argumentCount h0_reason h0_place h0_loaded h0_wafer_r h0_spare_r h0_program_r h0_coder_r h0_reader_r h0_validator_r h0_machine_r ta tab n6 tab ctab f7) H := hP
    have hD : va_D A (wz_254 h0 ta rw ag h0_argumentCount h0_reason h0_place h0_loaded h0_wafer_r h0_spare_r h0_program_r h0_coder_r h0_reader_r h0_validator_r h0_machine_r ta tab n6 tab ctab f7) := hD
    refine lv_aload_n hx hb d_WF_feed_40 rfl (lv_at hl 0 rfl) ?_
    refine va_get (D := (dC, dI)) (ci := 0) (v := .ref ta) (C := R_WF) (T := F_WF) (N := 14) hx hb hts i_WF hown hK hP 0 rfl rfl 0 (by decide) (hts _ kF_WF_16) (fun _ h9 => h9) rfl d_WF_feed_41 ?_
    refine lv_iload_n hx hb d_WF_feed_44 rfl (lv_at hl 3 rfl) ?_
    have hPc := hP.sb (wq := [(ta, .inr (1, [.ref tab, .int n6])), (tab, .inl (ctab, 2000, .inl f7))]) [1, 2] rfl
    have hDc := hD.sb (wq := [(ta, .inr (1, [.ref tab, .int n6])), (tab, .inl (ctab, 2000, .inl f7))]) [1, 2] (by decide) rfl
    have hKc := hK.sb (tyq := [(ctab, .byte)]) [0] rfl
    have hFc := va_free (wc := [(ta, .inr (1, [.ref tab, .int n6])), (tab, .inl (ctab, 2000, .inl f7))]) hD hS hA [1, 2] rfl
    refine va_callv (va_runV (As := [.int p2]) (rest := []) ⟨hx, hb, hml, hown, hts⟩ (c_BR_putInt l dC dI ta tab H.size ctab 2000 n6 f7 (by (first | (apply Int.le_antisymm <;> omega) | omega)) (by (first | (apply Int.le_antisymm <;> omega) | omega)) (by (first | (apply Int.le_antisymm <;> omega) | omega)) p2) (cwV 1 hts (gV kM_WF_91 kV_BR_putInt kS_BR_putInt kI_BR kC_BR_putInt) rfl rfl rfl (by decide +kernel) ⟨Nat.le_of_ble_eq_true rfl, Nat.le_of_ble_eq_true rfl⟩) ⟨fun a U g mk z => by obtain ⟨z0, z1, zP, zK, zD⟩ := z; exact ⟨z0, z1, zP, va_K.moved (u := U) (U := U.calling g mk a) (Vm.Alike.refl U.vm) zK, zD⟩, va_recv hKc hPc (ci := 1) (q0 := 0) rfl rfl, fun U hU hW => ⟨rfl, by rw [hU], va_P.he hU.symm hPc, va_K.moved hW.alike hKc, hDc.weaken (fun _ _ _ _ => trivial)⟩⟩ rfl rfl hl.1 rfl (lv_room (Nat.le_of_ble_eq_true rfl)) d_WF_feed_45 ⟨(Nat.zero_le _), (Nat.zero_le _)⟩) hS (fun q _ h => hFc q h) hFc (fun u t H1 locs ht hvm hw hB hz1 hk1 hS => ?_)
    obtain ⟨n9, f10⟩ := u
    try dsimp only at hw
    have tn9 := hw
    obtain ⟨hP1, hK1, hD1⟩ := hB
    replace hP1 := va_P.he ht hP1
    obtain ⟨hP, hD⟩ := va_join (wr := (wz_255 h0 ta rw ag h0_argumentCount h0_reason h0_place h0_loaded h0_wafer_r h0_spare_r h0_program_r h0_coder_r h0_reader_r h0_validator_r h0_machine_r)) (w1 := [(ta, .inr (1, [.ref tab, .int n9])), (tab, .inl (ctab, 2000, .inl f10))]) hP hD [1, 2] [0] rfl rfl (by decide) (by decide) hk1 hFc hP1 hD1
    clear hPc hDc hKc hFc hz1 hk1 hP1 hK1 hD1
    rename Heap => H
    have hP : va_P (dC, dI) cls (wz_254 h0 ta rw ag h0_argumentCount h0_reason h0_place h0_loaded h0_wafer_r h0_spare_r h0_program_r h0_coder_r h0_reader_r h0_validator_r h0_machine_r ta tab n9 tab ctab f10) H := hP
    have hD : va_D A (wz_254 h0 ta rw ag h0_argumentCount h0_reason h0_place h0_loaded h0_wafer_r h0_spare_r h0_program_r h0_coder_r h0_reader_r h0_validator_r h0_machine_r ta tab n9 tab ctab f10) := hD
    refine lv_aload_n hx hb d_WF_feed_48 rfl (lv_at hl 0 rfl) ?_
    refine va_get (D := (dC, dI)) (ci := 0) (v := .ref ta) (C := R_WF) (T := F_WF) (N := 14) hx hb hts i_WF hown hK hP 0 rfl rfl 0 (by decide) (hts _ kF_WF_16) (fun _ h9 => h9) rfl d_WF_feed_49 ?_
    refine lv_iload hx hb d_WF_feed_52 (lv_at hl 4 rfl) ?_
    have hPc := hP.sb (wq := [(ta, .inr (1, [.ref tab, .int n9])), (tab, .inl (ctab, 2000, .inl f10))]) [1, 2] rfl
    have hDc := hD.sb (wq := [(ta, .inr (1, [.ref tab, .int n9])), (tab, .inl (ctab, 2000, .inl f10))]) [1, 2] (by decide) rfl
    have hKc := hK.sb (tyq := [(ctab, .byte)]) [0] rfl
    have hFc := va_free (wc := [(ta, .inr (1, [.ref tab, .int n9])), (tab, .inl (ctab, 2000, .inl f10))]) hD hS hA [1, 2] rfl
    refine va_callv (va_runV (As := [.int p3]) (rest := []) ⟨hx, hb, hml, hown, hts⟩ (c_BR_putInt l dC dI ta tab H.size ctab 2000 n9 f10 (by (first | (apply Int.le_antisymm <;> omega) | omega)) (by (first | (apply Int.le_antisymm <;> omega) | omega)) (by (first | (apply Int.le_antisymm <;> omega) | omega)) p3) (cwV 1 hts (gV kM_WF_91 kV_BR_putInt kS_BR_putInt kI_BR kC_BR_putInt) rfl rfl rfl (by decide +kernel) ⟨Nat.le_of_ble_eq_true rfl, Nat.le_of_ble_eq_true rfl⟩) ⟨fun a U g mk z => by obtain ⟨z0, z1, zP, zK, zD⟩ := z; exact ⟨z0, z1, zP, va_K.moved (u := U) (U := U.calling g mk a) (Vm.Alike.refl U.vm) zK, zD⟩, va_recv hKc hPc (ci := 1) (q0 := 0) rfl rfl, fun U hU hW => ⟨rfl, by rw [hU], va_P.he hU.symm hPc, va_K.moved hW.alike hKc, hDc.weaken (fun _ _ _ _ => trivial)⟩⟩ rfl rfl hl.1 rfl (lv_room (Nat.le_of_ble_eq_true rfl)) d_WF_feed_54 ⟨(Nat.zero_le _), (Nat.zero_le _)⟩) hS (fun q _ h => hFc q h) hFc (fun u t H1 locs ht hvm hw hB hz1 hk1 hS => ?_)
    obtain ⟨n12, f13⟩ := u
    try dsimp only at hw
    have tn12 := hw
    obtain ⟨hP1, hK1, hD1⟩ := hB
    replace hP1 := va_P.he ht hP1
    obtain ⟨hP, hD⟩ := va_join (wr := (wz_255 h0 ta rw ag h0_argumentCount h0_reason h0_place h0_loaded h0_wafer_r h0_spare_r h0_program_r h0_coder_r h0_reader_r h0_validator_r h0_machine_r)) (w1 := [(ta, .inr (1, [.ref tab, .int n12])), (tab, .inl (ctab, 2000, .inl f13))]) hP hD [1, 2] [0] rfl rfl (by decide) (by decide) hk1 hFc hP1 hD1
    clear hPc hDc hKc hFc hz1 hk1 hP1 hK1 hD1
    rename Heap => H
    have hP : va_P (dC, dI) cls (wz_254 h0 ta rw ag h0_argumentCount h0_reason h0_place h0_loaded h0_wafer_r h0_spare_r h0_program_r h0_coder_r h0_reader_r h0_validator_r h0_machine_r ta tab n12 tab ctab f13) H := hP
    have hD : va_D A (wz_254 h0 ta rw ag h0_argumentCount h0_reason h0_place h0_loaded h0_wafer_r h0_spare_r h0_program_r h0_coder_r h0_reader_r h0_validator_r h0_machine_r ta tab n12 tab ctab f13) := hD
    refine lv_aload_n hx hb d_WF_feed_57 rfl (lv_at hl 0 rfl) ?_
    refine va_get (D := (dC, dI)) (ci := 0) (v := .ref ta) (C := R_WF) (T := F_WF) (N := 14) hx hb hts i_WF hown hK hP 0 rfl rfl 0 (by decide) (hts _ kF_WF_16) (fun _ h9 => h9) rfl d_WF_feed_58 ?_
    refine lv_iload hx hb d_WF_feed_61 (lv_at hl 5 rfl) ?_
    have hPc := hP.sb (wq := [(ta, .inr (1, [.ref tab, .int n12])), (tab, .inl (ctab, 2000, .inl f13))]) [1, 2] rfl
    have hDc := hD.sb (wq := [(ta, .inr (1, [.ref tab, .int n12])), (tab, .inl (ctab, 2000, .inl f13))]) [1, 2] (by decide) rfl
    have hKc := hK.sb (tyq := [(ctab, .byte)]) [0] rfl
    have hFc := va_free (wc := [(ta, .inr (1, [.ref tab, .int n12])), (tab, .inl (ctab, 2000, .inl f13))]) hD hS hA [1, 2] rfl
    refine va_callv (va_runV (As := [.int p4]) (rest := []) ⟨hx, hb, hml, hown, hts⟩ (c_BR_putInt l dC dI ta tab H.size ctab 2000 n12 f13 (by (first | (apply Int.le_antisymm <;> omega) | omega)) (by (first | (apply Int.le_antisymm <;> omega) | omega)) (by (first | (apply Int.le_antisymm <;> omega) | omega)) p4) (cwV 1 hts (gV kM_WF_91 kV_BR_putInt kS_BR_putInt kI_BR kC_BR_putInt) rfl rfl rfl (by decide +kernel) ⟨Nat.le_of_ble_eq_true rfl, Nat.le_of_ble_eq_true rfl⟩) ⟨fun a U g mk z => by obtain ⟨z0, z1, zP, zK, zD⟩ := z; exact ⟨z0, z1, zP, va_K.moved (u := U) (U := U.calling g mk a) (Vm.Alike.refl U.vm) zK, zD⟩, va_recv hKc hPc (ci := 1) (q0 := 0) rfl rfl, fun U hU hW => ⟨rfl, by rw [hU], va_P.he hU.symm hPc, va_K.moved hW.alike hKc, hDc.weaken (fun _ _ _ _ => trivial)⟩⟩ rfl rfl hl.1 rfl (lv_room (Nat.le_of_ble_eq_true rfl)) d_WF_feed_63 ⟨(Nat.zero_le _), (Nat.zero_le _)⟩) hS (fun q _ h => hFc q h) hFc (fun u t H1 locs ht hvm hw hB hz1 hk1 hS => ?_)
    obtain ⟨n15, f16⟩ := u
    try dsimp only at hw
    have tn15 := hw
    obtain ⟨hP1, hK1, hD1⟩ := hB
    replace hP1 := va_P.he ht hP1
    obtain ⟨hP, hD⟩ := va_join (wr := (wz_255 h0 ta rw ag h0_argumentCount h0_reason h0_place h0_loaded h0_wafer_r h0_spare_r h0_program_r h0_coder_r h0_reader_r h0_validator_r h0_machine_r)) (w1 := [(ta, .inr (1, [.ref tab, .int n15])), (tab, .inl (ctab, 2000, .inl f16))]) hP hD [1, 2] [0] rfl rfl (by decide) (by decide) hk1 hFc hP1 hD1
    clear hPc hDc hKc hFc hz1 hk1 hP1 hK1 hD1
    rename Heap => H
    have hP : va_P (dC, dI) cls (wz_254 h0 ta rw ag h0_argumentCount h0_reason h0_place h0_loaded h0_wafer_r h0_spare_r h0_program_r h0_coder_r h0_reader_r h0_validator_r h0_machine_r ta tab n15 tab ctab f16) H := hP
    have hD : va_D A (wz_254 h0 ta rw ag h0_argumentCount h0_reason h0_place h0_loaded h0_wafer_r h0_spare_r h0_program_r h0_coder_r h0_reader_r h0_validator_r h0_machine_r ta tab n15 tab ctab f16) := hD
    refine lv_aload_n hx hb d_WF_feed_66 rfl (lv_at hl 0 rfl) ?_
    refine va_get (D := (dC, dI)) (ci := 0) (v := .ref ta) (C := R_WF) (T := F_WF) (N := 14) hx hb hts i_WF hown hK hP 0 rfl rfl 0 (by decide) (hts _ kF_WF_16) (fun _ h9 => h9) rfl d_WF_feed_67 ?_
    refine va_get (D := (dC, dI)) (ci := 1) (v := .int n15) (C := R_BR) (T := F_BR) (N := 2) hx hb hts i_BR hown hK hP 1 rfl rfl 1 (by decide) (hts _ kF_WF_85) (fun _ h9 => h9) rfl d_WF_feed_70 ?_
    have hP9 := hP.sb (wq := (wz_254 h0 ta rw ag h0_argumentCount h0_reason h0_place h0_loaded h0_wafer_r h0_spare_r h0_program_r h0_coder_r h0_reader_r h0_validator_r h0_machine_r ta tab n15 tab ctab f16)) [0, 1, 2] rfl
    have hD9 := hD.sb (wq := (wz_254 h0 ta rw ag h0_argumentCount h0_reason h0_place h0_loaded h0_wafer_r h0_spare_r h0_program_r h0_coder_r h0_reader_r h0_validator_r h0_machine_r ta tab n15 tab ctab f16)) [0, 1, 2] (by decide) rfl
    exact tz_up (fun _ => rfl) (W.iret (v := n15) hx hb hr (fun t ht hW => ⟨⟨(f16, n15), ⟨n15, rfl, ⟨by (try dsimp only) <;> (first | (apply Int.le_antisymm <;> omega) | omega), ⟨by (try dsimp only) <;> (first | (apply Int.le_antisymm <;> omega) | omega), by (try dsimp only) <;> first | rfl | exact Int32.toInt_inj.mp (by (first | (apply Int.le_antisymm <;> omega) | omega))⟩⟩⟩, va_P.he ht.symm hP9, va_K.moved hW.alike hK, hD9⟩, hS.F ht⟩) hS.2.2 d_WF_feed_73)
  · have q13 := nleI c13
    have hP9 := hP.sb (wq := (wz_254 h0 ta rw ag h0_argumentCount h0_reason h0_place h0_loaded h0_wafer_r h0_spare_r h0_program_r h0_coder_r h0_reader_r h0_validator_r h0_machine_r ta tab ta_length tab ctab gtab)) [0, 1, 2] rfl
    have hD9 := hD.sb (wq := (wz_254 h0 ta rw ag h0_argumentCount h0_reason h0_place h0_loaded h0_wafer_r h0_spare_r h0_program_r h0_coder_r h0_reader_r h0_validator_r h0_machine_r ta tab ta_length tab ctab gtab)) [0, 1, 2] (by decide) rfl
    exact tz_throwNew hx hb hno hlocks hlt (hl.1.trans hml.symm) hown (by decide +kernel) (by decide +kernel) (fun U hU hW => eb_WF_io hts hSW hS U hU hW) d_WF_feed_16 d_WF_feed_19 d_WF_feed_20 d_WF_feed_23 (by decide) (Nat.le_of_ble_eq_true rfl) (Nat.le_of_ble_eq_true rfl) (Nat.le_of_ble_eq_true rfl) (fun _ => rfl) (fun x t h1 h2 h3 h4 => ⟨⟨(gtab, ta_length), ⟨⟨b_ta_length, ⟨rfl, by (first | (apply Int.le_antisymm <;> omega) | omega)⟩⟩, h3⟩, vp_ext hP9 h2, va_K.moved h4.alike hK, hD9⟩, vs_ext hS h1 h2⟩) hS.2.2
abbrev b_WF_argument : ByteArray := prog_1_method_8_code
def y_WF_argument : MethodName := ⟨R_WF, "argument", "(J)I"⟩
abbrev w_WF_argument : List Cond := .code y_WF_argument b_WF_argument 3 (Option.some .int) :: lw_g
theorem kC_WF_argument : Cond.code y_WF_argument b_WF_argument 3 (Option.some .int) ∈ lw_g := in_c7 84 rfl rfl
theorem d_WF_argument_0 : decode b_WF_argument 0 = .ok (.aload_n 0, 1) := bz_c42 (by decide +kernel)
theorem d_WF_argument_1 : decode b_WF_argument 1 = .ok (.getfield 139, 3) := bz_c180 (by decide +kernel)
theorem d_WF_argument_4 : decode b_WF_argument 4 = .ok (.bipush 8, 2) := bz_c16 (by decide +kernel)
theorem d_WF_argument_6 : decode b_WF_argument 6 = .ok (.if_icmp .lt 11, 3) := bz_c161 (by decide +kernel)
theorem d_WF_argument_9 : decode b_WF_argument 9 = .ok (.new 88, 3) := bz_c187 (by decide +kernel)
theorem d_WF_argument_12 : decode b_WF_argument 12 = .ok (.dup, 1) := bz_c89 (by decide +kernel)
theorem d_WF_argument_13 : decode b_WF_argument 13 = .ok (.invokespecial 90, 3) := bz_c183 (by decide +kernel)
theorem d_WF_argument_16 : decode b_WF_argument 16 = .ok (.athrow, 1) := bz_c191 (by decide +kernel)
theorem d_WF_argument_17 : decode b_WF_argument 17 = .ok (.aload_n 0, 1) := bz_c42 (by decide +kernel)
theorem d_WF_argument_18 : decode b_WF_argument 18 = .ok (.getfield 23, 3) := bz_c180 (by decide +kernel)
theorem d_WF_argument_21 : decode b_WF_argument 21 = .ok (.aload_n 0, 1) := bz_c42 (by decide +kernel)
theorem d_WF_argument_22 : decode b_WF_argument 22 = .ok (.dup, 1) := bz_c89 (by decide +kernel)
theorem d_WF_argument_23 : decode b_WF_argument 23 = .ok (.getfield 139, 3) := bz_c180 (by decide +kernel)
theorem d_WF_argument_26 : decode b_WF_argument 26 = .ok (.dup_x1, 1) := by decide +kernel
theorem d_WF_argument_27 : decode b_WF_argument 27 = .ok (.iconst 1, 1) := bz_c4 (by decide +kernel)
theorem d_WF_argument_28 : decode b_WF_argument 28 = .ok (.iadd, 1) := bz_c96 (by decide +kernel)
theorem d_WF_argument_29 : decode b_WF_argument 29 = .ok (.putfield 139, 3) := bz_c181 (by decide +kernel)
theorem d_WF_argument_32 : decode b_WF_argument 32 = .ok (.lload_n 1, 1) := bz_c31 (by decide +kernel)
theorem d_WF_argument_33 : decode b_WF_argument 33 = .ok (.lastore, 1) := bz_c80 (by decide +kernel)
theorem d_WF_argument_34 : decode b_WF_argument 34 = .ok (.aload_n 0, 1) := bz_c42 (by decide +kernel)
theorem d_WF_argument_35 : decode b_WF_argument 35 = .ok (.getfield 139, 3) := bz_c180 (by decide +kernel)
theorem d_WF_argument_38 : decode b_WF_argument 38 = .ok (.ireturn, 1) := bz_c172 (by decide +kernel)
theorem kF_WF_139 : Cond.fieldLink R_WF 139 "WaferForge" "argumentCount" "I" ∈ lw_g := in_c3 119 rfl rfl
theorem kF_WF_23 : Cond.fieldLink R_WF 23 "WaferForge" "arguments" "[J" ∈ lw_g := in_c3 118 rfl rfl
abbrev at_WF_argument (dC : Nat → ClassId) (dI : Nat → Nat → Nat) (sa : Nat → Nat) (h0 ta rw ag h0_wafer_r h0_spare_r h0_program_r h0_coder_r h0_reader_r h0_validator_r h0_machine_r : Nat) (cag : ClassId) (h0_reason : Int32) (h0_place : Int32) (h0_loaded : Int32) (A : Nat → Prop) (u : (Nat → Int64) × Int32) (t : State) : Prop := match u with | (gag, h0_argumentCount) => va_P (dC, dI) cls (wz_256 h0 ta rw ag h0_argumentCount h0_reason h0_place h0_loaded h0_wafer_r h0_spare_r h0_program_r h0_coder_r h0_reader_r h0_validator_r h0_machine_r ag cag gag) t.heap ∧ va_K (dC, dI) cls [(cag, .long)] t ∧ va_D A (wz_256 h0 ta rw ag h0_argumentCount h0_reason h0_place h0_loaded h0_wafer_r h0_spare_r h0_program_r h0_coder_r h0_reader_r h0_validator_r h0_machine_r ag cag gag)
set_option maxHeartbeats 4000000 in
set_option maxRecDepth 100000 in
theorem c_WF_argument (l : Launch) (hlt : l.stackTraces = false) (dC : Nat → ClassId) (dI : Nat → Nat → Nat) (sz : Nat) (sa : Nat → Nat) (h0 ta rw ag h0_wafer_r h0_spare_r h0_program_r h0_coder_r h0_reader_r h0_validator_r h0_machine_r : Nat) (cag : ClassId) (h0_argumentCount : Int32) (h0_reason : Int32) (h0_place : Int32) (h0_loaded : Int32) (gag : Nat → Int64)  (b_h0_argumentCount : 0 ≤ h0_argumentCount.toInt ∧ h0_argumentCount.toInt ≤ 8) (p0 : Int64)   : tz_Met l y_WF_argument w_WF_argument ({ frames := 6, cells := 1, slots := 6, locals := 90 }) (va_Pc [.ref h0, .long p0] (fun U => U.heap.size = sz ∧ va_P (dC, dI) cls (wz_256 h0 ta rw ag h0_argumentCount h0_reason h0_place h0_loaded h0_wafer_r h0_spare_r h0_program_r h0_coder_r h0_reader_r h0_validator_r h0_machine_r ag cag gag) U.heap ∧ va_K (dC, dI) cls [(cag, .long)] U ∧ va_D (fun _ => True) (wz_256 h0 ta rw ag h0_argumentCount h0_reason h0_place h0_loaded h0_wafer_r h0_spare_r h0_program_r h0_coder_r h0_reader_r h0_validator_r h0_machine_r ag cag gag) ∧ sw sa (va_A (wz_256 h0 ta rw ag h0_argumentCount h0_reason h0_place h0_loaded h0_wafer_r h0_spare_r h0_program_r h0_coder_r h0_reader_r h0_validator_r h0_machine_r ag cag gag) sz) U U.heap)) (tq_Q (tq_i (fun (r : Int32) (u : (Nat → Int64) × Int32) => match u with | (gag2, h0_argumentCount2) => (0 ≤ h0_argumentCount2.toInt ∧ h0_argumentCount2.toInt ≤ 8) ∧ (True)) "java/lang/IndexOutOfBoundsException" (fun (u : (Nat → Int64) × Int32) => match u with | (gag2, h0_argumentCount2) => (0 ≤ h0_argumentCount2.toInt ∧ h0_argumentCount2.toInt ≤ 8))) (at_WF_argument dC dI sa h0 ta rw ag h0_wafer_r h0_spare_r h0_program_r h0_coder_r h0_reader_r h0_validator_r h0_machine_r cag h0_reason h0_place h0_loaded (va_A (wz_256 h0 ta rw ag h0_argumentCount h0_reason h0_place h0_loaded h0_wafer_r h0_spare_r h0_program_r h0_coder_r h0_reader_r h0_validator_r h0_machine_r ag cag gag) sz)) (va_A (wz_256 h0 ta rw ag h0_argumentCount h0_reason h0_place h0_loaded h0_wafer_r h0_spare_r h0_program_r h0_coder_r h0_reader_r h0_validator_r h0_machine_r ag cag gag) sz)) (tz_k 0 0 1 6) (va_A (wz_256 h0 ta rw ag h0_argumentCount h0_reason h0_place h0_loaded h0_wafer_r h0_spare_r h0_program_r h0_coder_r h0_reader_r h0_validator_r h0_machine_r ag cag gag) sz) := by
  refine tz_ofW (cc := b_WF_argument) (maxL := 3) (ret := (Option.some .int)) (by decide) rfl ?_
  intro p e s m args below meth c s₁ B hml hno hv
  obtain ⟨rfl, hsz, hP, hK, hD0, hSW⟩ := hv
  have hx := B.exec
  have hb := B.bytes
  have hr := B.returns
  have hts0 := atoms_spec (ws := w_WF_argument) B.pre
  have hts : ∀ w ∈ lw_g, w.before _ s = true := fun w h => hts0 w (List.mem_cons_of_mem _ h)
  have hown : s.vm.findClass R_WF = some m.cls := findClass_of_methodNamed B.named
  have hlocks := B.notSynchronized
  clear hts0
  subst hsz
  have hD := hD0.self (sz := s.heap.size)
  generalize hAe : va_A (wz_256 h0 ta rw ag h0_argumentCount h0_reason h0_place h0_loaded h0_wafer_r h0_spare_r h0_program_r h0_coder_r h0_reader_r h0_validator_r h0_machine_r ag cag gag) s.heap.size = A at hD hSW ⊢
  have hA : ∀ q : Nat, s.heap.size ≤ q → A q := fun q h => by rw [← hAe]; exact Or.inr h
  clear hAe
  have hP : va_P (dC, dI) cls (wz_256 h0 ta rw ag h0_argumentCount h0_reason h0_place h0_loaded h0_wafer_r h0_spare_r h0_program_r h0_coder_r h0_reader_r h0_validator_r h0_machine_r ag cag gag) s.heap := hP
  have hl := lv_entry ([.ref h0, .long p0]) (n := 3) (Nat.le_of_ble_eq_true rfl)
  rw [lg_entry_eq]
  generalize (lg_sl ([.ref h0, .long p0]) ++ List.replicate (3 - (lg_sl ([.ref h0, .long p0])).length) Slot.unset).toArray = ls at hl ⊢
  have hl : lv_has ls 3 [(0, .ref h0), (1, .long p0)] := hl
  have k0 : (0 : Int32).toInt = 0 := by decide
  refine w_gen (A := A) hP (fun H locs hP hS => ?_)
  have k1 : (1 : Int32).toInt = 1 := by decide
  have k8 : (8 : Int32).toInt = 8 := by decide
  refine lv_aload_n hx hb d_WF_argument_0 rfl (lv_at hl 0 rfl) ?_
  refine va_get (D := (dC, dI)) (ci := 0) (v := .int h0_argumentCount) (C := R_WF) (T := F_WF) (N := 14) hx hb hts i_WF hown hK hP 0 rfl rfl 3 (by decide) (hts _ kF_WF_139) (fun _ h9 => h9) rfl d_WF_argument_1 ?_
  refine lv_bipush (v := 8) hx hb d_WF_argument_4 (by decide) ?_
  refine lv_icmp_lt (tgt := 17) hx hb d_WF_argument_6 (by decide) (fun c6 => ?_) (fun c6 => ?_)
  · have q6 := ltI c6
    refine lv_aload_n hx hb d_WF_argument_17 rfl (lv_at hl 0 rfl) ?_
    refine va_get (D := (dC, dI)) (ci := 0) (v := .ref ag) (C := R_WF) (T := F_WF) (N := 14) hx hb hts i_WF hown hK hP 0 rfl rfl 2 (by decide) (hts _ kF_WF_23) (fun _ h9 => h9) rfl d_WF_argument_18 ?_
    refine lv_aload_n hx hb d_WF_argument_21 rfl (lv_at hl 0 rfl) ?_
    refine lv_dup hx hb d_WF_argument_22 rfl ?_
    refine va_get (D := (dC, dI)) (ci := 0) (v := .int h0_argumentCount) (C := R_WF) (T := F_WF) (N := 14) hx hb hts i_WF hown hK hP 0 rfl rfl 3 (by decide) (hts _ kF_WF_139) (fun _ h9 => h9) rfl d_WF_argument_23 ?_
    refine lv_dup_x1 hx hb d_WF_argument_26 rfl rfl ?_
    refine lv_iconst (v := 1) hx hb d_WF_argument_27 (by decide) ?_
    refine lv_iadd hx hb d_WF_argument_28 ?_
    refine lv_topi (fun x1 ex1 => ?_)
    have tx1 : x1.toInt = h0_argumentCount.toInt + 1 := by have z := i32_add ex1 (by (first | (apply Int.le_antisymm <;> omega) | omega)) (by (first | (apply Int.le_antisymm <;> omega) | omega)); first | exact z | (first | (apply Int.le_antisymm <;> omega) | omega)
    refine va_put (D := (dC, dI)) (ci := 0) (v := .int x1) (ty := .int) (C := R_WF) (T := F_WF) (N := 14) hx hb hts i_WF t_WF t_WF_ok n_WF hown hK hP hD hS 0 rfl rfl 3 (by decide) (hts _ kF_WF_139) (fun _ h9 => h9) rfl (by decide +kernel) rfl rfl (Nat.le_of_ble_eq_true rfl) d_WF_argument_29 (fun H locs hP hD hS => ?_)
    refine lv_lload_n hx hb d_WF_argument_32 rfl (lv_at hl 1 rfl) ?_
    have g33 : vp_in h0_argumentCount 8 := vp_in_iff.mpr ⟨by (first | (apply Int.le_antisymm <;> omega) | omega), by (first | (apply Int.le_antisymm <;> omega) | omega)⟩
    refine va_last hx hb hK hP hD hS 1 0 rfl rfl g33 d_WF_argument_33 (fun H locs hP hD hS => ?_)
    generalize ef2 : vp_updL gag h0_argumentCount.toNatClampNeg p0 = f2 at hP hD
    refine lv_aload_n hx hb d_WF_argument_34 rfl (lv_at hl 0 rfl) ?_
    refine va_get (D := (dC, dI)) (ci := 0) (v := .int x1) (C := R_WF) (T := F_WF) (N := 14) hx hb hts i_WF hown hK hP 0 rfl rfl 3 (by decide) (hts _ kF_WF_139) (fun _ h9 => h9) rfl d_WF_argument_35 ?_
    have hP9 := hP.sb (wq := (wz_256 h0 ta rw ag x1 h0_reason h0_place h0_loaded h0_wafer_r h0_spare_r h0_program_r h0_coder_r h0_reader_r h0_validator_r h0_machine_r ag cag f2)) [0, 1] rfl
    have hD9 := hD.sb (wq := (wz_256 h0 ta rw ag x1 h0_reason h0_place h0_loaded h0_wafer_r h0_spare_r h0_program_r h0_coder_r h0_reader_r h0_validator_r h0_machine_r ag cag f2)) [0, 1] (by decide) rfl
    exact tz_up (fun _ => rfl) (W.iret (v := x1) hx hb hr (fun t ht hW => ⟨⟨(f2, x1), ⟨x1, rfl, ⟨by (try dsimp only) <;> (first | (apply Int.le_antisymm <;> omega) | omega), trivial⟩⟩, va_P.he ht.symm hP9, va_K.moved hW.alike hK, hD9⟩, hS.F ht⟩) hS.2.2 d_WF_argument_38)
  · have q6 := nltI c6
    have hP9 := hP.sb (wq := (wz_256 h0 ta rw ag h0_argumentCount h0_reason h0_place h0_loaded h0_wafer_r h0_spare_r h0_program_r h0_coder_r h0_reader_r h0_validator_r h0_machine_r ag cag gag)) [0, 1] rfl
    have hD9 := hD.sb (wq := (wz_256 h0 ta rw ag h0_argumentCount h0_reason h0_place h0_loaded h0_wafer_r h0_spare_r h0_program_r h0_coder_r h0_reader_r h0_validator_r h0_machine_r ag cag gag)) [0, 1] (by decide) rfl
    exact tz_throwNew hx hb hno hlocks hlt (hl.1.trans hml.symm) hown (by decide +kernel) (by decide +kernel) (fun U hU hW => eb_WF_io hts hSW hS U hU hW) d_WF_argument_9 d_WF_argument_12 d_WF_argument_13 d_WF_argument_16 (by decide) (Nat.le_of_ble_eq_true rfl) (Nat.le_of_ble_eq_true rfl) (Nat.le_of_ble_eq_true rfl) (fun _ => rfl) (fun x t h1 h2 h3 h4 => ⟨⟨(gag, h0_argumentCount), ⟨(b_h0_argumentCount), h3⟩, vp_ext hP9 h2, va_K.moved h4.alike hK, hD9⟩, vs_ext hS h1 h2⟩) hS.2.2
end q_98
