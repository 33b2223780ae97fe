section q_n22
/-! the reference: types of every value; what is known while statements are looked at -/
theorem k_typed (l : Launch) (hlt : l.stackTraces = false) : ∀ dep, k_MD_typed l dep := by
  intro dep
  induction dep with
  | zero =>
    intro dC dI sz szl sa h0 rf tap gnm gpl gty gvl fun_ lev po_now kno mad mag h0_smalls_r h0_greats_r h0_module_r h0_spare_r blk stk hgt lab ous kis los mem glo val ffu fre fba fla lat lhe rsl arg cgnm cgty cfun_ ckno cr cpn cpb cps h0_taped h0_length h0_kind h0_from h0_to h0_word h0_numeral h0_globalCount h0_funCount h0_open h0_signs h0_knownCount h0_loops h0_madeLength h0_m h0_cursor h0_limit h0_top h0_depth h0_function h0_pages h0_valueTop h0_frames h0_labelTop h0_steps h0_there h0_resultLength h0_reason h0_place h0_argumentCount h0_code rf_backtrace rf_detailMessage rf_cause rf_stackTrace rf_depth rf_suppressedExceptions rf_reason rf_place ggnm ggty gfun_ gkno LP fP fnm fpl po_fns po_fls po_fys fps fN frs po_fbd fsg fgn fT gM gN ggv gtk gd ge gK gc gb b_h0_globalCount b_h0_funCount b_h0_knownCount po_n hnw hpar hkn hgN hgl hft hut hdp
    exfalso
    (first | (apply Int.le_antisymm <;> omega) | omega)
  | succ dep ih =>
    intro dC dI sz szl sa h0 rf tap gnm gpl gty gvl fun_ lev po_now kno mad mag h0_smalls_r h0_greats_r h0_module_r h0_spare_r blk stk hgt lab ous kis los mem glo val ffu fre fba fla lat lhe rsl arg cgnm cgty cfun_ ckno cr cpn cpb cps h0_taped h0_length h0_kind h0_from h0_to h0_word h0_numeral h0_globalCount h0_funCount h0_open h0_signs h0_knownCount h0_loops h0_madeLength h0_m h0_cursor h0_limit h0_top h0_depth h0_function h0_pages h0_valueTop h0_frames h0_labelTop h0_steps h0_there h0_resultLength h0_reason h0_place h0_argumentCount h0_code rf_backtrace rf_detailMessage rf_cause rf_stackTrace rf_depth rf_suppressedExceptions rf_reason rf_place ggnm ggty gfun_ gkno LP fP fnm fpl po_fns po_fls po_fys fps fN frs po_fbd fsg fgn fT gM gN ggv gtk gd ge gK gc gb b_h0_globalCount b_h0_funCount b_h0_knownCount po_n hnw hpar hkn hgN hgl hft hut hdp
    exact c_MD_typed l hlt (dC := dC) (dI := dI) (sz := sz) (szl := szl) (sa := sa) (h0 := h0) (rf := rf) (tap := tap) (gnm := gnm) (gpl := gpl) (gty := gty) (gvl := gvl) (fun_ := fun_) (lev := lev) (po_now := po_now) (kno := kno) (mad := mad) (mag := mag) (h0_smalls_r := h0_smalls_r) (h0_greats_r := h0_greats_r) (h0_module_r := h0_module_r) (h0_spare_r := h0_spare_r) (blk := blk) (stk := stk) (hgt := hgt) (lab := lab) (ous := ous) (kis := kis) (los := los) (mem := mem) (glo := glo) (val := val) (ffu := ffu) (fre := fre) (fba := fba) (fla := fla) (lat := lat) (lhe := lhe) (rsl := rsl) (arg := arg) (cgnm := cgnm) (cgty := cgty) (cfun_ := cfun_) (ckno := ckno) (cr := cr) (cpn := cpn) (cpb := cpb) (cps := cps) (h0_taped := h0_taped) (h0_length := h0_length) (h0_kind := h0_kind) (h0_from := h0_from) (h0_to := h0_to) (h0_word := h0_word) (h0_numeral := h0_numeral) (h0_globalCount := h0_globalCount) (h0_funCount := h0_funCount) (h0_open := h0_open) (h0_signs := h0_signs) (h0_knownCount := h0_knownCount) (h0_loops := h0_loops) (h0_madeLength := h0_madeLength) (h0_m := h0_m) (h0_cursor := h0_cursor) (h0_limit := h0_limit) (h0_top := h0_top) (h0_depth := h0_depth) (h0_function := h0_function) (h0_pages := h0_pages) (h0_valueTop := h0_valueTop) (h0_frames := h0_frames) (h0_labelTop := h0_labelTop) (h0_steps := h0_steps) (h0_there := h0_there) (h0_resultLength := h0_resultLength) (h0_reason := h0_reason) (h0_place := h0_place) (h0_argumentCount := h0_argumentCount) (h0_code := h0_code) (rf_backtrace := rf_backtrace) (rf_detailMessage := rf_detailMessage) (rf_cause := rf_cause) (rf_stackTrace := rf_stackTrace) (rf_depth := rf_depth) (rf_suppressedExceptions := rf_suppressedExceptions) (rf_reason := rf_reason) (rf_place := rf_place) (ggnm := ggnm) (ggty := ggty) (gfun_ := gfun_) (gkno := gkno) (LP := LP) (fP := fP) (dep := dep) (hK_typed := ih) (fnm := fnm) (fpl := fpl) (po_fns := po_fns) (po_fls := po_fls) (po_fys := po_fys) (fps := fps) (fN := fN) (frs := frs) (po_fbd := po_fbd) (fsg := fsg) (fgn := fgn) (fT := fT) (gM := gM) (gN := gN) (ggv := ggv) (gtk := gtk) (gd := gd) (ge := ge) (gK := gK) (gc := gc) (gb := gb) (b_h0_globalCount := b_h0_globalCount) (b_h0_funCount := b_h0_funCount) (b_h0_knownCount := b_h0_knownCount) (po_n := po_n) (hnw := hnw) (hpar := hpar) (hkn := hkn) (hgN := hgN) (hgl := hgl) (hft := hft) (hut := hut) (hdp := (by (first | (apply Int.le_antisymm <;> omega) | omega)))
theorem ty_ne {D : va_G} {cl : List vw_C} {tys : List (ClassId × FieldType)} {s : State} {i j : Nat} {c1 c2 : ClassId} {t1 t2 : FieldType} (hK : va_K D cl tys s) (h1 : tys[i]? = some (c1, t1)) (h2 : tys[j]? = some (c2, t2)) (ht : t1 ≠ t2) : c1 ≠ c2 := by
  intro e
  subst e
  obtain ⟨-, k, e1, c, e2⟩ := (hK.2 i _ h1).1 0 (fun _ => .null)
  obtain ⟨-, k', e1', c', e2'⟩ := (hK.2 j _ h2).1 0 (fun _ => .null)
  have e3 : some k = some k' := e1.symm.trans e1'
  injection e3 with e3
  subst e3
  rw [e2] at e2'
  injection e2' with _ e4
  exact ht e4
section USC
variable {L : List Nat} {f f2 : Nat → va_E} {cpn cpb : ClassId} {V T : Nat → Int → Nat → Prop} {op : Int32} {nm : Value} {t cnt : Int32} {g : Nat → Option Nat} {c : Int} {b : Nat} {K : Nat → Prop}
theorem usc_op (h : usc L f cpb V T op nm t cnt g c b) : 10 ≤ op.toInt ∧ op.toInt ≤ 18 := by
  rcases h with ⟨q, h⟩ | ⟨q, h⟩ | ⟨q, h⟩ | ⟨q, h⟩ | ⟨q, h⟩ | ⟨q, h⟩ | ⟨q, h⟩ | ⟨q, h⟩ <;> clear h <;> (first | (apply Int.le_antisymm <;> omega) | omega)
theorem usc_18 (h : usc L f cpb V T op nm t cnt g c b) (e : op.toInt = 18) : ∃ (cf : Nat → Nat) (kf : Nat → Int), (∀ i : Nat, (i : Int) < cnt.toInt → g i = some (cf i) ∧ 0 ≤ kf i ∧ T (cf i) (kf i) b) ∧ ksum kf cnt.toInt.toNat ≤ c := by
  rcases h with ⟨q, h⟩ | ⟨q, h⟩ | ⟨q, h⟩ | ⟨q, h⟩ | ⟨q, h⟩ | ⟨q, h⟩ | ⟨q, h⟩ | ⟨q, h⟩ <;> first | exact h | (exfalso; clear h; (first | (apply Int.le_antisymm <;> omega) | omega))
theorem usc_10 (h : usc L f cpb V T op nm t cnt g c b) (e : op.toInt = 10) : cnt.toInt = 1 ∧ t27 t.toInt ∧ nmP L f cpb nm ∧ ∃ (c0 : Nat) (k0 : Int), g 0 = some c0 ∧ V c0 k0 b ∧ 0 ≤ k0 ∧ k0 + 10 ≤ c := by
  rcases h with ⟨q, h⟩ | ⟨q, h⟩ | ⟨q, h⟩ | ⟨q, h⟩ | ⟨q, h⟩ | ⟨q, h⟩ | ⟨q, h⟩ | ⟨q, h⟩ <;> first | exact h | (exfalso; clear h; (first | (apply Int.le_antisymm <;> omega) | omega))
theorem usc_11 (h : usc L f cpb V T op nm t cnt g c b) (e : op.toInt = 11) : cnt.toInt = 1 ∧ nmP L f cpb nm ∧ ∃ (c0 : Nat) (k0 : Int), g 0 = some c0 ∧ V c0 k0 b ∧ 0 ≤ k0 ∧ k0 + 10 ≤ c := by
  rcases h with ⟨q, h⟩ | ⟨q, h⟩ | ⟨q, h⟩ | ⟨q, h⟩ | ⟨q, h⟩ | ⟨q, h⟩ | ⟨q, h⟩ | ⟨q, h⟩ <;> first | exact h | (exfalso; clear h; (first | (apply Int.le_antisymm <;> omega) | omega))
theorem usc_12 (h : usc L f cpb V T op nm t cnt g c b) (e : op.toInt = 12) : ∃ (cf : Nat → Nat) (kf : Nat → Int) (b1 : Nat), V (cf 0) (kf 0) b ∧ (cnt.toInt = 2 ∨ cnt.toInt = 3) ∧ (∀ i : Nat, (i : Int) < cnt.toInt → g i = some (cf i) ∧ 0 ≤ kf i) ∧ (∀ i : Nat, 1 ≤ (i : Int) → (i : Int) < cnt.toInt → T (cf i) (kf i) b1) ∧ b1 + 1 ≤ b ∧ ksum kf cnt.toInt.toNat + 8 * cnt.toInt ≤ c := by
  rcases h with ⟨q, h⟩ | ⟨q, h⟩ | ⟨q, h⟩ | ⟨q, h⟩ | ⟨q, h⟩ | ⟨q, h⟩ | ⟨q, h⟩ | ⟨q, h⟩
  · exfalso; clear h; (first | (apply Int.le_antisymm <;> omega) | omega)
  · exfalso; clear h; (first | (apply Int.le_antisymm <;> omega) | omega)
  · exfalso; clear h; (first | (apply Int.le_antisymm <;> omega) | omega)
  · obtain ⟨c0, k0, c1, k1, b1, h1, h2, h3, h4, h5, h6, h7, h8⟩ := h
    rcases h8 with ⟨z1, z2⟩ | ⟨z1, c2, k2, z2, z3, z4, z5⟩
    · refine ⟨fun i => if i = 0 then c0 else c1, fun i => if i = 0 then k0 else k1, b1, h2, Or.inl z1, fun i hi => ?_, fun i hi hj => ?_, h7, ?_⟩
      · by_cases q : i = 0
        · subst q; exact ⟨h1, h3⟩
        · have : i = 1 := by (first | (apply Int.le_antisymm <;> omega) | omega)
          subst this; exact ⟨h4, h6⟩
      · have : i = 1 := by (first | (apply Int.le_antisymm <;> omega) | omega)
        subst this; exact h5
      · rw [z1]
        show ((0 : Int) + k0) + k1 + 8 * 2 ≤ c
        (first | (apply Int.le_antisymm <;> omega) | omega)
    · refine ⟨fun i => if i = 0 then c0 else if i = 1 then c1 else c2, fun i => if i = 0 then k0 else if i = 1 then k1 else k2, b1, h2, Or.inr z1, fun i hi => ?_, fun i hi hj => ?_, h7, ?_⟩
      · by_cases q : i = 0
        · subst q; exact ⟨h1, h3⟩
        · by_cases q1 : i = 1
          · subst q1; exact ⟨h4, h6⟩
          · have : i = 2 := by (first | (apply Int.le_antisymm <;> omega) | omega)
            subst this; exact ⟨z2, z4⟩
      · by_cases q1 : i = 1
        · subst q1; exact h5
        · have : i = 2 := by (first | (apply Int.le_antisymm <;> omega) | omega)
          subst this; exact z3
      · rw [z1]
        show (((0 : Int) + k0) + k1) + k2 + 8 * 3 ≤ c
        (first | (apply Int.le_antisymm <;> omega) | omega)
  · exfalso; clear h; (first | (apply Int.le_antisymm <;> omega) | omega)
  · exfalso; clear h; (first | (apply Int.le_antisymm <;> omega) | omega)
  · exfalso; clear h; (first | (apply Int.le_antisymm <;> omega) | omega)
  · exfalso; clear h; (first | (apply Int.le_antisymm <;> omega) | omega)
theorem usc_13 (h : usc L f cpb V T op nm t cnt g c b) (e : op.toInt = 13) : cnt.toInt = 2 ∧ ∃ (c0 : Nat) (k0 : Int) (c1 : Nat) (k1 : Int) (b1 : Nat), g 0 = some c0 ∧ V c0 k0 b1 ∧ 0 ≤ k0 ∧ g 1 = some c1 ∧ T c1 k1 b1 ∧ 0 ≤ k1 ∧ b1 + 2 ≤ b ∧ k0 + k1 + 56 ≤ c := by
  rcases h with ⟨q, h⟩ | ⟨q, h⟩ | ⟨q, h⟩ | ⟨q, h⟩ | ⟨q, h⟩ | ⟨q, h⟩ | ⟨q, h⟩ | ⟨q, h⟩ <;> first | exact h | (exfalso; clear h; (first | (apply Int.le_antisymm <;> omega) | omega))
theorem usc_14 (h : usc L f cpb V T op nm t cnt g c b) (e : op.toInt = 14 ∨ op.toInt = 15) : cnt.toInt = 0 ∧ 10 ≤ c := by
  rcases h with ⟨q, h⟩ | ⟨q, h⟩ | ⟨q, h⟩ | ⟨q, h⟩ | ⟨q, h⟩ | ⟨q, h⟩ | ⟨q, h⟩ | ⟨q, h⟩ <;> first | exact h | (exfalso; clear h; (first | (apply Int.le_antisymm <;> omega) | omega))
theorem usc_16 (h : usc L f cpb V T op nm t cnt g c b) (e : op.toInt = 16) : (cnt.toInt = 0 ∧ 8 ≤ c) ∨ (cnt.toInt = 1 ∧ ∃ (c0 : Nat) (k0 : Int), g 0 = some c0 ∧ V c0 k0 b ∧ 0 ≤ k0 ∧ k0 + 8 ≤ c) := by
  rcases h with ⟨q, h⟩ | ⟨q, h⟩ | ⟨q, h⟩ | ⟨q, h⟩ | ⟨q, h⟩ | ⟨q, h⟩ | ⟨q, h⟩ | ⟨q, h⟩ <;> first | exact h | (exfalso; clear h; (first | (apply Int.le_antisymm <;> omega) | omega))
theorem usc_17 (h : usc L f cpb V T op nm t cnt g c b) (e : op.toInt = 17) : cnt.toInt = 1 ∧ ∃ (c0 : Nat) (k0 : Int), g 0 = some c0 ∧ V c0 k0 b ∧ 0 ≤ k0 ∧ k0 + 10 ≤ c := by
  rcases h with ⟨q, h⟩ | ⟨q, h⟩ | ⟨q, h⟩ | ⟨q, h⟩ | ⟨q, h⟩ | ⟨q, h⟩ | ⟨q, h⟩ | ⟨q, h⟩ <;> first | exact h | (exfalso; clear h; (first | (apply Int.le_antisymm <;> omega) | omega))
theorem us_c {d a : Nat} (h : us L f cpn cpb d a c b) : 0 ≤ c := by
  cases d with
  | zero => exact h.elim
  | succ d =>
    obtain ⟨op, pl, nm, v, t, p, n, cnt, ix, gl, hq9r⟩ := h
    obtain ⟨g, h1, h2, h3, h4, h5, h⟩ := hq9r
    rcases h with ⟨q, cf, kf, h3, h4⟩ | ⟨q, h1, h2, h0, c0, k0, h3, h4, h5, h6⟩ | ⟨q, h1, h0, c0, k0, h3, h4, h5, h6⟩ | ⟨q, c0, k0, c1, k1, b1, h1, h2, h3, h4, h5, h6, h7, h8⟩ | ⟨q, h0, c0, k0, c1, k1, b1, h1, h2, h3, h4, h5, h6, h7, h8⟩ | ⟨q, h1, h2⟩ | ⟨q, h1⟩ | ⟨q, h1, c0, k0, h3, h4, h5, h6⟩
    · have := ks_0 (kf := kf) (n := cnt.toInt.toNat) (fun i hi => (h3 i (by (first | (apply Int.le_antisymm <;> omega) | omega))).2.1)
      (first | (apply Int.le_antisymm <;> omega) | omega)
    · (first | (apply Int.le_antisymm <;> omega) | omega)
    · (first | (apply Int.le_antisymm <;> omega) | omega)
    · rcases h8 with ⟨z1, z2⟩ | ⟨z1, y, k2, z2, z3, z4, z5⟩ <;> (first | (apply Int.le_antisymm <;> omega) | omega)
    · (first | (apply Int.le_antisymm <;> omega) | omega)
    · (first | (apply Int.le_antisymm <;> omega) | omega)
    · rcases h1 with ⟨z1, z2⟩ | ⟨z1, y, k2, z2, z3, z4, z5⟩ <;> (first | (apply Int.le_antisymm <;> omega) | omega)
    · (first | (apply Int.le_antisymm <;> omega) | omega)
theorem st_out {d e a : Nat} (h : us L f cpn cpb d a c b) (hf : fp L f cpn e a K) : ∃ (d1 : Nat) (op pl : Int32) (nm : Value) (v : Int64) (t : Int32) (p n : Nat) (cnt ix gl : Int32) (g : Nat → Option Nat) (Kf : Nat → Nat → Prop), d = d1 + 1 ∧ (a ∈ L ∧ nP f a op pl nm v t p cnt ix gl) ∧ aP L f cpn p n g ∧ (0 ≤ cnt.toInt ∧ cnt.toInt ≤ (n : Int) ∧ n < 100000) ∧ gl.toInt = 0 ∧ (10 ≤ op.toInt ∧ op.toInt ≤ 18) ∧ usc L f cpb (fun a c b => ∃ e, e ≤ d1 ∧ uv L f cpn cpb e a c b) (us L f cpn cpb d1) op nm t cnt g c b ∧ K a ∧ kds L f cpn a K cnt.toInt g Kf := by
  cases d with
  | zero => exact h.elim
  | succ d =>
    obtain ⟨op, pl, nm, v, t, p, n, cnt, ix, gl, hq9r⟩ := h
    obtain ⟨g, h1, h2, h3, h4, h5, h6⟩ := hq9r
    obtain ⟨k1, Kf, k2⟩ := fp_kds hf h2 h3
    exact ⟨d, op, pl, nm, v, t, p, n, cnt, ix, gl, g, Kf, rfl, ⟨h1, h2⟩, h3, h4, h5, usc_op h6, h6, k1, k2⟩
end USC
/-- what is known while statements are looked at -/
def env9 (L : List Nat) (f : Nat → va_E) (cps cr cpb : ClassId) (M : Nat → Prop) (a : Nat) (nm : Value) (pl : Int32) (nms pls tys : Nat) (ps rs : Int32) (bd : Nat) (sg N : Int32) (gn : Nat → Option Nat) (T : Nat → Int32) (kc : Int) (kno : Nat → Int32) : Prop := nwf L f cps cr M a nm pl nms pls tys ps N rs bd sg gn T ∧ par9 L f cpb N.toInt gn T ∧ kno9 kc N.toInt kno ∧ (0 ≤ ps.toInt ∧ ps.toInt ≤ N.toInt ∧ N.toInt ≤ 50 ∧ kc ≤ N.toInt)
section LK
variable {L : List Nat} {f f2 : Nat → va_E} {cps cr cpn cpb : ClassId} {K M : Nat → Prop} {a : Nat} {nm : Value} {pl : Int32} {nms pls tys : Nat} {ps rs : Int32} {bd : Nat} {sg N N2 : Int32} {gn : Nat → Option Nat} {T : Nat → Int32} {kc : Int} {kno : Nat → Int32} {fc gc gg : Int} {gv tk : Nat → Int}
theorem env9.cgn (h : cgn K f f2) (e : env9 L f cps cr cpb M a nm pl nms pls tys ps rs bd sg N gn T kc kno) : env9 L f2 cps cr cpb M a nm pl nms pls tys ps rs bd sg N gn T kc kno := ⟨nwf.cgn h e.1, par9.kp (h.kp (cpn := cpb)) e.2.1, e.2.2⟩
/-- statements below a node: those from lo up to i have types -/
def mxs (L : List Nat) (f : Nat → va_E) (cpn cpb : ClassId) (N fc gc : Int) (gv tk : Nat → Int) (gg : Int) (d b : Nat) (il : Bool) (n : Int) (cf : Nat → Nat) (kf : Nat → Int) (lo i : Int) : Prop := (∀ j : Nat, i ≤ (j : Int) → (j : Int) < n → us L f cpn cpb d (cf j) (kf j) b) ∧ ∀ j : Nat, lo ≤ (j : Int) → (j : Int) < i → ts L f cpn cpb N fc gc gv tk gg d il (cf j) (kf j) b
theorem mxs_k {K1 : Nat → Prop} {N N2 : Int} {a d b : Nat} {il : Bool} {n lo i : Int} {g : Nat → Option Nat} {cf : Nat → Nat} {kf : Nat → Int} {Kf : Nat → Nat → Prop} (h : mxs L f cpn cpb N fc gc gv tk gg d b il n cf kf lo i) (hlo : 0 ≤ lo) (hi : i ≤ n) (hN : N ≤ N2) (hk : kds L f cpn a K n g Kf) (hg : ∀ j : Nat, (j : Int) < n → g j = some (cf j)) (hc : kp cpn cpb K1 f f2) (hd : ∀ (j x : Nat), lo ≤ (j : Int) → (j : Int) < n → Kf j x → ¬ K1 x) (hl : lo ≤ i) : mxs L f2 cpn cpb N2 fc gc gv tk gg d b il n cf kf lo i := by
  refine ⟨fun j h1 h2 => ?_, fun j h0 h1 => ?_⟩
  · obtain ⟨e, z⟩ := kd_at hk h2 (hg j h2)
    exact us_kp hc d (fun x hx => hd j x (by (first | (apply Int.le_antisymm <;> omega) | omega)) h2 hx) z (h.1 j h1 h2)
  · obtain ⟨e, z⟩ := kd_at hk (by (first | (apply Int.le_antisymm <;> omega) | omega)) (hg j (by (first | (apply Int.le_antisymm <;> omega) | omega)))
    exact ts_kp hc hN d (fun x hx => hd j x h0 (by (first | (apply Int.le_antisymm <;> omega) | omega)) hx) z (h.2 j h0 h1)
theorem mxs_s {N N2 : Int} {a d b m : Nat} {il : Bool} {n lo i i2 : Int} {g : Nat → Option Nat} {cf : Nat → Nat} {kf : Nat → Int} {Kf : Nat → Nat → Prop} (h : mxs L f cpn cpb N fc gc gv tk gg d b il n cf kf lo i) (hm : (m : Int) = i) (hi2 : i2 = i + 1) (hi : i < n) (hN : N ≤ N2) (hk : kds L f cpn a K n g Kf) (hg : ∀ j : Nat, (j : Int) < n → g j = some (cf j)) (hc : kp cpn cpb (Kf m) f f2) (hv : ts L f2 cpn cpb N2 fc gc gv tk gg d il (cf m) (kf m) b) : mxs L f2 cpn cpb N2 fc gc gv tk gg d b il n cf kf lo i2 := by
  subst hi2
  have ne : ∀ (j x : Nat), (j : Int) < n → j ≠ m → Kf j x → ¬ Kf m x := fun j x hj q hx hy => q (hk.2.2 j m x hj (by (first | (apply Int.le_antisymm <;> omega) | omega)) hx hy)
  refine ⟨fun j h1 h2 => ?_, fun j h0 h1 => ?_⟩
  · obtain ⟨e, z⟩ := kd_at hk h2 (hg j h2)
    exact us_kp hc d (fun x hx => ne j x h2 (by (first | (apply Int.le_antisymm <;> omega) | omega)) hx) z (h.1 j (by (first | (apply Int.le_antisymm <;> omega) | omega)) h2)
  · by_cases q : j = m
    · subst q
      exact hv
    · obtain ⟨e, z⟩ := kd_at hk (by (first | (apply Int.le_antisymm <;> omega) | omega)) (hg j (by (first | (apply Int.le_antisymm <;> omega) | omega)))
      exact ts_kp hc hN d (fun x hx => ne j x (by (first | (apply Int.le_antisymm <;> omega) | omega)) q hx) z (h.2 j h0 (by (first | (apply Int.le_antisymm <;> omega) | omega)))
/-- an if whose parts have types -/
theorem ts_if {N : Int} {V : Nat → Int32 → Int → Nat → Prop} {TT : Bool → Nat → Int → Nat → Prop} {il : Bool} {op cnt ix gl t0 : Int32} {g : Nat → Option Nat} {c : Int} {b b1 : Nat} {cf : Nat → Nat} {kf : Nat → Int} (ho : op.toInt = 12) (hv : V (cf 0) t0 (kf 0) b) (ht : t27 t0.toInt) (hn : cnt.toInt = 2 ∨ cnt.toInt = 3) (hg : ∀ i : Nat, (i : Int) < cnt.toInt → g i = some (cf i) ∧ 0 ≤ kf i) (hT : ∀ i : Nat, 1 ≤ (i : Int) → (i : Int) < cnt.toInt → TT il (cf i) (kf i) b1) (hb : b1 + 1 ≤ b) (hc : ksum kf cnt.toInt.toNat + 8 * cnt.toInt ≤ c) : tsc N gc gg V TT il op cnt ix gl g c b := by
  refine Or.inr (Or.inr (Or.inl ⟨ho, by (first | (apply Int.le_antisymm <;> omega) | omega), cf 0, t0, kf 0, cf 1, kf 1, b1, (hg 0 (by (first | (apply Int.le_antisymm <;> omega) | omega))).1, ht, hv, (hg 0 (by (first | (apply Int.le_antisymm <;> omega) | omega))).2, (hg 1 (by (first | (apply Int.le_antisymm <;> omega) | omega))).1, hT 1 (by (first | (apply Int.le_antisymm <;> omega) | omega)) (by (first | (apply Int.le_antisymm <;> omega) | omega)), (hg 1 (by (first | (apply Int.le_antisymm <;> omega) | omega))).2, hb, ?_⟩))
  rcases hn with q | q
  · refine Or.inl ⟨q, ?_⟩
    rw [q] at hc
    have : ((0 : Int) + kf 0) + kf 1 + 8 * 2 ≤ c := hc
    (first | (apply Int.le_antisymm <;> omega) | omega)
  · refine Or.inr ⟨by (first | (apply Int.le_antisymm <;> omega) | omega), cf 2, kf 2, (hg 2 (by (first | (apply Int.le_antisymm <;> omega) | omega))).1, hT 2 (by (first | (apply Int.le_antisymm <;> omega) | omega)) (by (first | (apply Int.le_antisymm <;> omega) | omega)), (hg 2 (by (first | (apply Int.le_antisymm <;> omega) | omega))).2, ?_⟩
    rw [q] at hc
    have : (((0 : Int) + kf 0) + kf 1) + kf 2 + 8 * 3 ≤ c := hc
    (first | (apply Int.le_antisymm <;> omega) | omega)
theorem ftb_A {n : Int} {g : Nat → Option Nat} {p : Nat} {c : ClassId} {x x2 : vp_A} (h : ftb L f cr cpb n g gv tk) (hp : f p = .inl (c, x)) (h1 : c ≠ cr) (h2 : c ≠ cpb) : ftb L (va_up f p (.inl (c, x2))) cr cpb n g gv tk := fun j hj => by
  obtain ⟨a, nm, pl, nms, pls, tys, ps, N, rs, bd, sg, T, q1, ⟨q2, q2'⟩, q3, ⟨q4, q4'⟩, q5⟩ := h j hj
  have e1 : va_up f p (.inl (c, x2)) a = _ := (va_up_ne _ _ (fun z => by subst z; rw [q2'] at hp; cases hp)).trans q2'
  have e2 : va_up f p (.inl (c, x2)) tys = _ := (va_up_ne _ _ (fun z => by subst z; rw [q4'] at hp; injection hp with hp; injection hp with hp _; exact h1 hp.symm)).trans q4'
  exact ⟨a, nm, pl, nms, pls, tys, ps, N, rs, bd, sg, T, q1, ⟨q2, e1⟩, (cgs.upA (cpn := cpb) (K := fun _ => False) (M := fun _ => True) hp trivial h2 h2).2.nm q3, ⟨q4, e2⟩, q5⟩
theorem ftb_T {n : Int} {g : Nat → Option Nat} {p k : Nat} {T2 : Nat → Int32} {t : Int32} (h : ftb L f cr cpb n g gv tk) (hp : f p = .inl (cr, 51, .inl T)) (e : T2 = upd T k t) (ht : t27 t.toInt) (h2 : cr ≠ cpb) : ftb L (va_up f p (.inl (cr, 51, .inl T2))) cr cpb n g gv tk := fun j hj => by
  obtain ⟨a, nm, pl, nms, pls, tys, ps, N, rs, bd, sg, T1, q1, ⟨q2, q2'⟩, q3, ⟨q4, q4'⟩, q5, q6, q7, q8, q9⟩ := h j hj
  have e1 : va_up f p (.inl (cr, 51, .inl T2)) a = _ := (va_up_ne _ _ (fun z => by subst z; rw [q2'] at hp; cases hp)).trans q2'
  have hn := (cgs.upA (x2 := (51, .inl T2)) (cpn := cpb) (K := fun _ => False) (M := fun _ => True) hp trivial h2 h2).2.nm q3
  by_cases z : tys = p
  · subst z
    rw [q4'] at hp
    injection hp with hp
    injection hp with _ hp
    injection hp with _ hp
    injection hp with hp
    subst hp
    refine ⟨a, nm, pl, nms, pls, tys, ps, N, rs, bd, sg, T2, q1, ⟨q2, e1⟩, hn, ⟨q4, va_up_self _ _ _⟩, q5, q6, q7, q8, fun i hi => ?_⟩
    rw [e]
    by_cases y : i = k
    · rw [y, pk_us]; exact ht
    · rw [pk_un y]; exact q9 i hi
  · exact ⟨a, nm, pl, nms, pls, tys, ps, N, rs, bd, sg, T1, q1, ⟨q2, e1⟩, hn, ⟨q4, (va_up_ne _ _ z).trans q4'⟩, q5, q6, q7, q8, q9⟩
theorem ftb_N {n : Int} {g : Nat → Option Nat} (h : ftb L f cr cpb n g gv tk) (hp : f a = .inr (14, [nm, .int pl, .ref nms, .ref pls, .ref tys, .int ps, .int N, .int rs, .ref bd, .int sg])) : ftb L (va_up f a (.inr (14, [nm, .int pl, .ref nms, .ref pls, .ref tys, .int ps, .int N2, .int rs, .ref bd, .int sg]))) cr cpb n g gv tk := fun j hj => by
  obtain ⟨a1, nm1, pl1, nms1, pls1, tys1, ps1, N1, rs1, bd1, sg1, T1, q1, ⟨q2, q2'⟩, q3, ⟨q4, q4'⟩, q5⟩ := h j hj
  have e2 : va_up f a (.inr (14, [nm, .int pl, .ref nms, .ref pls, .ref tys, .int ps, .int N2, .int rs, .ref bd, .int sg])) tys1 = _ := (va_up_ne _ _ (fun z => by subst z; rw [q4'] at hp; cases hp)).trans q4'
  have hn := (cgs.up14 (vs2 := [nm, .int pl, .ref nms, .ref pls, .ref tys, .int ps, .int N2, .int rs, .ref bd, .int sg]) (cpn := cpb) (cpb := cpb) (K := fun _ => False) (M := fun _ => True) hp trivial).2.nm q3
  by_cases z : a1 = a
  · subst z
    rw [q2'] at hp
    injection hp with hp
    injection hp with _ hp
    injection hp with b0 hp
    injection hp with b1 hp
    injection hp with b2 hp
    injection hp with b3 hp
    injection hp with b4 hp
    injection hp with b5 hp
    injection hp with b6 hp
    injection hp with b7 hp
    injection hp with b8 hp
    injection hp with b9 hp
    subst b0
    rw [← b1, ← b2, ← b3, ← b4, ← b5, ← b7, ← b8, ← b9] at e2 hn ⊢
    exact ⟨a1, nm1, pl1, nms1, pls1, tys1, ps1, N2, rs1, bd1, sg1, T1, q1, ⟨q2, va_up_self _ _ _⟩, hn, ⟨q4, e2⟩, q5⟩
  · exact ⟨a1, nm1, pl1, nms1, pls1, tys1, ps1, N1, rs1, bd1, sg1, T1, q1, ⟨q2, (va_up_ne _ _ z).trans q2'⟩, hn, ⟨q4, e2⟩, q5⟩
theorem par_2 {n n2 : Int} {gn2 : Nat → Option Nat} {T2 : Nat → Int32} {k r : Nat} {t : Int32} (h : par9 L f cpb n gn T) (hk : (k : Int) = n) (hn2 : n2 = n + 1) (e1 : gn2 = va_up gn k (some r)) (e2 : T2 = upd T k t) (ht : t27 t.toInt) (hn : nmP L f cpb (.ref r)) : par9 L f cpb n2 gn2 T2 := fun j hj => by
  subst e1 e2
  by_cases q : j = k
  · subst q
    rw [pk_us, va_up_self]
    exact ⟨ht, r, rfl, hn⟩
  · obtain ⟨x, r9, c, d⟩ := h j (by (first | (apply Int.le_antisymm <;> omega) | omega))
    rw [pk_un q, va_up_ne _ _ q]
    exact ⟨x, r9, c, d⟩
theorem kno_2 {n n2 N N2 : Int} {kno2 : Nat → Int32} {k : Nat} {x : Int32} (h : kno9 n N kno) (hk : (k : Int) = n) (hn2 : n2 = n + 1) (e : kno2 = upd kno k x) (hx : 0 ≤ x.toInt ∧ x.toInt < N2) (hN : N ≤ N2) : kno9 n2 N2 kno2 := fun j hj => by
  subst e
  by_cases q : j = k
  · rw [q, pk_us]; exact hx
  · rw [pk_un q]
    have := h j (by (first | (apply Int.le_antisymm <;> omega) | omega))
    (first | (apply Int.le_antisymm <;> omega) | omega)
theorem kno_m {n n2 N N2 : Int} (h : kno9 n N kno) (hn : n2 ≤ n) (hN : N ≤ N2) : kno9 n2 N2 kno := fun j hj => by
  have := h j (by (first | (apply Int.le_antisymm <;> omega) | omega))
  (first | (apply Int.le_antisymm <;> omega) | omega)
end LK
end q_n22
section q_n23
/-! the reference: looking at a statement, as a contract -/
abbrev b_MD_look1 : ByteArray := prog_15_method_32_code
def y_MD_look1 : MethodName := ⟨R_MD, "look", "(LWaferForgeModel$N;)V"⟩
abbrev w_MD_look1 : List Cond := .code y_MD_look1 b_MD_look1 5 none :: lw_g
theorem kC_MD_look1 : Cond.code y_MD_look1 b_MD_look1 5 none ∈ lw_g := in_c12 32 rfl rfl
theorem d_MD_look1_0 : decode b_MD_look1 0 = .ok (.aload_n 1, 1) := bz_c43 (by decide +kernel)
theorem d_MD_look1_1 : decode b_MD_look1 1 = .ok (.getfield 129, 3) := bz_c180 (by decide +kernel)
theorem d_MD_look1_4 : decode b_MD_look1 4 = .ok (.tableswitch 483 10 18 #[91, 243, 276, 333, 391, 391, 409, 483, 52], 52) := by decide +kernel
theorem d_MD_look1_56 : decode b_MD_look1 56 = .ok (.aload_n 0, 1) := bz_c42 (by decide +kernel)
theorem d_MD_look1_57 : decode b_MD_look1 57 = .ok (.getfield 307, 3) := bz_c180 (by decide +kernel)
theorem d_MD_look1_60 : decode b_MD_look1 60 = .ok (.istore_n 2, 1) := bz_c61 (by decide +kernel)
theorem d_MD_look1_61 : decode b_MD_look1 61 = .ok (.iconst 0, 1) := bz_c3 (by decide +kernel)
theorem d_MD_look1_62 : decode b_MD_look1 62 = .ok (.istore_n 3, 1) := bz_c62 (by decide +kernel)
theorem d_MD_look1_63 : decode b_MD_look1 63 = .ok (.iload_n 3, 1) := bz_c29 (by decide +kernel)
theorem d_MD_look1_64 : decode b_MD_look1 64 = .ok (.aload_n 1, 1) := bz_c43 (by decide +kernel)
theorem d_MD_look1_65 : decode b_MD_look1 65 = .ok (.getfield 300, 3) := bz_c180 (by decide +kernel)
theorem d_MD_look1_68 : decode b_MD_look1 68 = .ok (.if_icmp .ge 19, 3) := bz_c162 (by decide +kernel)
theorem d_MD_look1_71 : decode b_MD_look1 71 = .ok (.aload_n 0, 1) := bz_c42 (by decide +kernel)
theorem d_MD_look1_72 : decode b_MD_look1 72 = .ok (.aload_n 1, 1) := bz_c43 (by decide +kernel)
theorem d_MD_look1_73 : decode b_MD_look1 73 = .ok (.getfield 331, 3) := bz_c180 (by decide +kernel)
theorem d_MD_look1_76 : decode b_MD_look1 76 = .ok (.iload_n 3, 1) := bz_c29 (by decide +kernel)
theorem d_MD_look1_77 : decode b_MD_look1 77 = .ok (.aaload, 1) := bz_c50 (by decide +kernel)
theorem d_MD_look1_78 : decode b_MD_look1 78 = .ok (.invokevirtual 322, 3) := bz_c182 (by decide +kernel)
theorem d_MD_look1_81 : decode b_MD_look1 81 = .ok (.iinc 3 1, 3) := by decide +kernel
theorem d_MD_look1_84 : decode b_MD_look1 84 = .ok (.goto (-21), 3) := bz_c167 (by decide +kernel)
theorem d_MD_look1_87 : decode b_MD_look1 87 = .ok (.aload_n 0, 1) := bz_c42 (by decide +kernel)
theorem d_MD_look1_88 : decode b_MD_look1 88 = .ok (.iload_n 2, 1) := bz_c28 (by decide +kernel)
theorem d_MD_look1_89 : decode b_MD_look1 89 = .ok (.putfield 307, 3) := bz_c181 (by decide +kernel)
theorem d_MD_look1_92 : decode b_MD_look1 92 = .ok (.goto 406, 3) := bz_c167 (by decide +kernel)
theorem d_MD_look1_95 : decode b_MD_look1 95 = .ok (.aload_n 0, 1) := bz_c42 (by decide +kernel)
theorem d_MD_look1_96 : decode b_MD_look1 96 = .ok (.aload_n 0, 1) := bz_c42 (by decide +kernel)
theorem d_MD_look1_97 : decode b_MD_look1 97 = .ok (.aload_n 1, 1) := bz_c43 (by decide +kernel)
theorem d_MD_look1_98 : decode b_MD_look1 98 = .ok (.getfield 331, 3) := bz_c180 (by decide +kernel)
theorem d_MD_look1_101 : decode b_MD_look1 101 = .ok (.iconst 0, 1) := bz_c3 (by decide +kernel)
theorem d_MD_look1_102 : decode b_MD_look1 102 = .ok (.aaload, 1) := bz_c50 (by decide +kernel)
theorem d_MD_look1_103 : decode b_MD_look1 103 = .ok (.invokevirtual 335, 3) := bz_c182 (by decide +kernel)
theorem d_MD_look1_106 : decode b_MD_look1 106 = .ok (.aload_n 1, 1) := bz_c43 (by decide +kernel)
theorem d_MD_look1_107 : decode b_MD_look1 107 = .ok (.getfield 259, 3) := bz_c180 (by decide +kernel)
theorem d_MD_look1_110 : decode b_MD_look1 110 = .ok (.if_icmp .ne 7, 3) := bz_c160 (by decide +kernel)
theorem d_MD_look1_113 : decode b_MD_look1 113 = .ok (.iconst 1, 1) := bz_c4 (by decide +kernel)
theorem d_MD_look1_114 : decode b_MD_look1 114 = .ok (.goto 4, 3) := bz_c167 (by decide +kernel)
theorem d_MD_look1_117 : decode b_MD_look1 117 = .ok (.iconst 0, 1) := bz_c3 (by decide +kernel)
theorem d_MD_look1_118 : decode b_MD_look1 118 = .ok (.aload_n 1, 1) := bz_c43 (by decide +kernel)
theorem d_MD_look1_119 : decode b_MD_look1 119 = .ok (.invokevirtual 339, 3) := bz_c182 (by decide +kernel)
theorem d_MD_look1_122 : decode b_MD_look1 122 = .ok (.aload_n 0, 1) := bz_c42 (by decide +kernel)
theorem d_MD_look1_123 : decode b_MD_look1 123 = .ok (.aload_n 1, 1) := bz_c43 (by decide +kernel)
theorem d_MD_look1_124 : decode b_MD_look1 124 = .ok (.getfield 258, 3) := bz_c180 (by decide +kernel)
theorem d_MD_look1_127 : decode b_MD_look1 127 = .ok (.invokevirtual 313, 3) := bz_c182 (by decide +kernel)
theorem d_MD_look1_130 : decode b_MD_look1 130 = .ok (.ifCond .lt 13, 3) := bz_c155 (by decide +kernel)
theorem d_MD_look1_133 : decode b_MD_look1 133 = .ok (.aload_n 0, 1) := bz_c42 (by decide +kernel)
theorem d_MD_look1_134 : decode b_MD_look1 134 = .ok (.iconst 4, 1) := bz_c7 (by decide +kernel)
theorem d_MD_look1_135 : decode b_MD_look1 135 = .ok (.aload_n 1, 1) := bz_c43 (by decide +kernel)
theorem d_MD_look1_136 : decode b_MD_look1 136 = .ok (.getfield 132, 3) := bz_c180 (by decide +kernel)
theorem d_MD_look1_139 : decode b_MD_look1 139 = .ok (.invokevirtual 115, 3) := bz_c182 (by decide +kernel)
theorem d_MD_look1_142 : decode b_MD_look1 142 = .ok (.athrow, 1) := bz_c191 (by decide +kernel)
theorem d_MD_look1_143 : decode b_MD_look1 143 = .ok (.aload_n 0, 1) := bz_c42 (by decide +kernel)
theorem d_MD_look1_144 : decode b_MD_look1 144 = .ok (.getfield 303, 3) := bz_c180 (by decide +kernel)
theorem d_MD_look1_147 : decode b_MD_look1 147 = .ok (.getfield 319, 3) := bz_c180 (by decide +kernel)
theorem d_MD_look1_150 : decode b_MD_look1 150 = .ok (.bipush 50, 2) := bz_c16 (by decide +kernel)
theorem d_MD_look1_152 : decode b_MD_look1 152 = .ok (.if_icmp .ne 13, 3) := bz_c160 (by decide +kernel)
theorem d_MD_look1_155 : decode b_MD_look1 155 = .ok (.aload_n 0, 1) := bz_c42 (by decide +kernel)
theorem d_MD_look1_156 : decode b_MD_look1 156 = .ok (.iconst 5, 1) := bz_c8 (by decide +kernel)
theorem d_MD_look1_157 : decode b_MD_look1 157 = .ok (.aload_n 1, 1) := bz_c43 (by decide +kernel)
theorem d_MD_look1_158 : decode b_MD_look1 158 = .ok (.getfield 132, 3) := bz_c180 (by decide +kernel)
theorem d_MD_look1_161 : decode b_MD_look1 161 = .ok (.invokevirtual 115, 3) := bz_c182 (by decide +kernel)
theorem d_MD_look1_164 : decode b_MD_look1 164 = .ok (.athrow, 1) := bz_c191 (by decide +kernel)
theorem d_MD_look1_165 : decode b_MD_look1 165 = .ok (.aload_n 1, 1) := bz_c43 (by decide +kernel)
theorem d_MD_look1_166 : decode b_MD_look1 166 = .ok (.aload_n 0, 1) := bz_c42 (by decide +kernel)
theorem d_MD_look1_167 : decode b_MD_look1 167 = .ok (.getfield 303, 3) := bz_c180 (by decide +kernel)
theorem d_MD_look1_170 : decode b_MD_look1 170 = .ok (.getfield 319, 3) := bz_c180 (by decide +kernel)
theorem d_MD_look1_173 : decode b_MD_look1 173 = .ok (.putfield 325, 3) := bz_c181 (by decide +kernel)
theorem d_MD_look1_176 : decode b_MD_look1 176 = .ok (.aload_n 0, 1) := bz_c42 (by decide +kernel)
theorem d_MD_look1_177 : decode b_MD_look1 177 = .ok (.getfield 303, 3) := bz_c180 (by decide +kernel)
theorem d_MD_look1_180 : decode b_MD_look1 180 = .ok (.getfield 214, 3) := bz_c180 (by decide +kernel)
theorem d_MD_look1_183 : decode b_MD_look1 183 = .ok (.aload_n 1, 1) := bz_c43 (by decide +kernel)
theorem d_MD_look1_184 : decode b_MD_look1 184 = .ok (.getfield 325, 3) := bz_c180 (by decide +kernel)
theorem d_MD_look1_187 : decode b_MD_look1 187 = .ok (.aload_n 1, 1) := bz_c43 (by decide +kernel)
theorem d_MD_look1_188 : decode b_MD_look1 188 = .ok (.getfield 258, 3) := bz_c180 (by decide +kernel)
theorem d_MD_look1_191 : decode b_MD_look1 191 = .ok (.aastore, 1) := bz_c83 (by decide +kernel)
theorem d_MD_look1_192 : decode b_MD_look1 192 = .ok (.aload_n 0, 1) := bz_c42 (by decide +kernel)
theorem d_MD_look1_193 : decode b_MD_look1 193 = .ok (.getfield 303, 3) := bz_c180 (by decide +kernel)
theorem d_MD_look1_196 : decode b_MD_look1 196 = .ok (.getfield 217, 3) := bz_c180 (by decide +kernel)
theorem d_MD_look1_199 : decode b_MD_look1 199 = .ok (.aload_n 1, 1) := bz_c43 (by decide +kernel)
theorem d_MD_look1_200 : decode b_MD_look1 200 = .ok (.getfield 325, 3) := bz_c180 (by decide +kernel)
theorem d_MD_look1_203 : decode b_MD_look1 203 = .ok (.aload_n 1, 1) := bz_c43 (by decide +kernel)
theorem d_MD_look1_204 : decode b_MD_look1 204 = .ok (.getfield 259, 3) := bz_c180 (by decide +kernel)
theorem d_MD_look1_207 : decode b_MD_look1 207 = .ok (.iastore, 1) := bz_c79 (by decide +kernel)
theorem d_MD_look1_208 : decode b_MD_look1 208 = .ok (.aload_n 0, 1) := bz_c42 (by decide +kernel)
theorem d_MD_look1_209 : decode b_MD_look1 209 = .ok (.getfield 303, 3) := bz_c180 (by decide +kernel)
theorem d_MD_look1_212 : decode b_MD_look1 212 = .ok (.dup, 1) := bz_c89 (by decide +kernel)
theorem d_MD_look1_213 : decode b_MD_look1 213 = .ok (.getfield 319, 3) := bz_c180 (by decide +kernel)
theorem d_MD_look1_216 : decode b_MD_look1 216 = .ok (.iconst 1, 1) := bz_c4 (by decide +kernel)
theorem d_MD_look1_217 : decode b_MD_look1 217 = .ok (.iadd, 1) := bz_c96 (by decide +kernel)
theorem d_MD_look1_218 : decode b_MD_look1 218 = .ok (.putfield 319, 3) := bz_c181 (by decide +kernel)
theorem d_MD_look1_221 : decode b_MD_look1 221 = .ok (.aload_n 0, 1) := bz_c42 (by decide +kernel)
theorem d_MD_look1_222 : decode b_MD_look1 222 = .ok (.getfield 316, 3) := bz_c180 (by decide +kernel)
theorem d_MD_look1_225 : decode b_MD_look1 225 = .ok (.aload_n 0, 1) := bz_c42 (by decide +kernel)
theorem d_MD_look1_226 : decode b_MD_look1 226 = .ok (.getfield 307, 3) := bz_c180 (by decide +kernel)
theorem d_MD_look1_229 : decode b_MD_look1 229 = .ok (.aload_n 1, 1) := bz_c43 (by decide +kernel)
theorem d_MD_look1_230 : decode b_MD_look1 230 = .ok (.getfield 325, 3) := bz_c180 (by decide +kernel)
theorem d_MD_look1_233 : decode b_MD_look1 233 = .ok (.iastore, 1) := bz_c79 (by decide +kernel)
theorem d_MD_look1_234 : decode b_MD_look1 234 = .ok (.aload_n 0, 1) := bz_c42 (by decide +kernel)
theorem d_MD_look1_235 : decode b_MD_look1 235 = .ok (.dup, 1) := bz_c89 (by decide +kernel)
theorem d_MD_look1_236 : decode b_MD_look1 236 = .ok (.getfield 307, 3) := bz_c180 (by decide +kernel)
theorem d_MD_look1_239 : decode b_MD_look1 239 = .ok (.iconst 1, 1) := bz_c4 (by decide +kernel)
theorem d_MD_look1_240 : decode b_MD_look1 240 = .ok (.iadd, 1) := bz_c96 (by decide +kernel)
theorem d_MD_look1_241 : decode b_MD_look1 241 = .ok (.putfield 307, 3) := bz_c181 (by decide +kernel)
theorem d_MD_look1_244 : decode b_MD_look1 244 = .ok (.goto 254, 3) := bz_c167 (by decide +kernel)
theorem d_MD_look1_247 : decode b_MD_look1 247 = .ok (.aload_n 0, 1) := bz_c42 (by decide +kernel)
theorem d_MD_look1_248 : decode b_MD_look1 248 = .ok (.aload_n 1, 1) := bz_c43 (by decide +kernel)
theorem d_MD_look1_249 : decode b_MD_look1 249 = .ok (.getfield 331, 3) := bz_c180 (by decide +kernel)
theorem d_MD_look1_252 : decode b_MD_look1 252 = .ok (.iconst 0, 1) := bz_c3 (by decide +kernel)
theorem d_MD_look1_253 : decode b_MD_look1 253 = .ok (.aaload, 1) := bz_c50 (by decide +kernel)
theorem d_MD_look1_254 : decode b_MD_look1 254 = .ok (.invokevirtual 335, 3) := bz_c182 (by decide +kernel)
theorem d_MD_look1_257 : decode b_MD_look1 257 = .ok (.istore_n 3, 1) := bz_c62 (by decide +kernel)
theorem d_MD_look1_258 : decode b_MD_look1 258 = .ok (.aload_n 0, 1) := bz_c42 (by decide +kernel)
theorem d_MD_look1_259 : decode b_MD_look1 259 = .ok (.iload_n 3, 1) := bz_c29 (by decide +kernel)
theorem d_MD_look1_260 : decode b_MD_look1 260 = .ok (.aload_n 0, 1) := bz_c42 (by decide +kernel)
theorem d_MD_look1_261 : decode b_MD_look1 261 = .ok (.aload_n 1, 1) := bz_c43 (by decide +kernel)
theorem d_MD_look1_262 : decode b_MD_look1 262 = .ok (.invokevirtual 343, 3) := bz_c182 (by decide +kernel)
theorem d_MD_look1_265 : decode b_MD_look1 265 = .ok (.if_icmp .ne 7, 3) := bz_c160 (by decide +kernel)
theorem d_MD_look1_268 : decode b_MD_look1 268 = .ok (.iconst 1, 1) := bz_c4 (by decide +kernel)
theorem d_MD_look1_269 : decode b_MD_look1 269 = .ok (.goto 4, 3) := bz_c167 (by decide +kernel)
theorem d_MD_look1_272 : decode b_MD_look1 272 = .ok (.iconst 0, 1) := bz_c3 (by decide +kernel)
theorem d_MD_look1_273 : decode b_MD_look1 273 = .ok (.aload_n 1, 1) := bz_c43 (by decide +kernel)
theorem d_MD_look1_274 : decode b_MD_look1 274 = .ok (.invokevirtual 339, 3) := bz_c182 (by decide +kernel)
theorem d_MD_look1_277 : decode b_MD_look1 277 = .ok (.goto 221, 3) := bz_c167 (by decide +kernel)
theorem d_MD_look1_280 : decode b_MD_look1 280 = .ok (.aload_n 0, 1) := bz_c42 (by decide +kernel)
theorem d_MD_look1_281 : decode b_MD_look1 281 = .ok (.aload_n 0, 1) := bz_c42 (by decide +kernel)
theorem d_MD_look1_282 : decode b_MD_look1 282 = .ok (.aload_n 1, 1) := bz_c43 (by decide +kernel)
theorem d_MD_look1_283 : decode b_MD_look1 283 = .ok (.getfield 331, 3) := bz_c180 (by decide +kernel)
theorem d_MD_look1_286 : decode b_MD_look1 286 = .ok (.iconst 0, 1) := bz_c3 (by decide +kernel)
theorem d_MD_look1_287 : decode b_MD_look1 287 = .ok (.aaload, 1) := bz_c50 (by decide +kernel)
theorem d_MD_look1_288 : decode b_MD_look1 288 = .ok (.invokevirtual 335, 3) := bz_c182 (by decide +kernel)
theorem d_MD_look1_291 : decode b_MD_look1 291 = .ok (.bipush 127, 2) := bz_c16 (by decide +kernel)
theorem d_MD_look1_293 : decode b_MD_look1 293 = .ok (.if_icmp .ne 7, 3) := bz_c160 (by decide +kernel)
theorem d_MD_look1_296 : decode b_MD_look1 296 = .ok (.iconst 1, 1) := bz_c4 (by decide +kernel)
theorem d_MD_look1_297 : decode b_MD_look1 297 = .ok (.goto 4, 3) := bz_c167 (by decide +kernel)
theorem d_MD_look1_300 : decode b_MD_look1 300 = .ok (.iconst 0, 1) := bz_c3 (by decide +kernel)
theorem d_MD_look1_301 : decode b_MD_look1 301 = .ok (.aload_n 1, 1) := bz_c43 (by decide +kernel)
theorem d_MD_look1_302 : decode b_MD_look1 302 = .ok (.invokevirtual 339, 3) := bz_c182 (by decide +kernel)
theorem d_MD_look1_305 : decode b_MD_look1 305 = .ok (.iconst 1, 1) := bz_c4 (by decide +kernel)
theorem d_MD_look1_306 : decode b_MD_look1 306 = .ok (.istore 4, 2) := bz_c54 (by decide +kernel)
theorem d_MD_look1_308 : decode b_MD_look1 308 = .ok (.iload 4, 2) := bz_c21 (by decide +kernel)
theorem d_MD_look1_310 : decode b_MD_look1 310 = .ok (.aload_n 1, 1) := bz_c43 (by decide +kernel)
theorem d_MD_look1_311 : decode b_MD_look1 311 = .ok (.getfield 300, 3) := bz_c180 (by decide +kernel)
theorem d_MD_look1_314 : decode b_MD_look1 314 = .ok (.if_icmp .ge 20, 3) := bz_c162 (by decide +kernel)
theorem d_MD_look1_317 : decode b_MD_look1 317 = .ok (.aload_n 0, 1) := bz_c42 (by decide +kernel)
theorem d_MD_look1_318 : decode b_MD_look1 318 = .ok (.aload_n 1, 1) := bz_c43 (by decide +kernel)
theorem d_MD_look1_319 : decode b_MD_look1 319 = .ok (.getfield 331, 3) := bz_c180 (by decide +kernel)
theorem d_MD_look1_322 : decode b_MD_look1 322 = .ok (.iload 4, 2) := bz_c21 (by decide +kernel)
theorem d_MD_look1_324 : decode b_MD_look1 324 = .ok (.aaload, 1) := bz_c50 (by decide +kernel)
theorem d_MD_look1_325 : decode b_MD_look1 325 = .ok (.invokevirtual 322, 3) := bz_c182 (by decide +kernel)
theorem d_MD_look1_328 : decode b_MD_look1 328 = .ok (.iinc 4 1, 3) := by decide +kernel
theorem d_MD_look1_331 : decode b_MD_look1 331 = .ok (.goto (-23), 3) := bz_c167 (by decide +kernel)
theorem d_MD_look1_334 : decode b_MD_look1 334 = .ok (.goto 164, 3) := bz_c167 (by decide +kernel)
theorem d_MD_look1_337 : decode b_MD_look1 337 = .ok (.aload_n 0, 1) := bz_c42 (by decide +kernel)
theorem d_MD_look1_338 : decode b_MD_look1 338 = .ok (.aload_n 0, 1) := bz_c42 (by decide +kernel)
theorem d_MD_look1_339 : decode b_MD_look1 339 = .ok (.aload_n 1, 1) := bz_c43 (by decide +kernel)
theorem d_MD_look1_340 : decode b_MD_look1 340 = .ok (.getfield 331, 3) := bz_c180 (by decide +kernel)
theorem d_MD_look1_343 : decode b_MD_look1 343 = .ok (.iconst 0, 1) := bz_c3 (by decide +kernel)
theorem d_MD_look1_344 : decode b_MD_look1 344 = .ok (.aaload, 1) := bz_c50 (by decide +kernel)
theorem d_MD_look1_345 : decode b_MD_look1 345 = .ok (.invokevirtual 335, 3) := bz_c182 (by decide +kernel)
theorem d_MD_look1_348 : decode b_MD_look1 348 = .ok (.bipush 127, 2) := bz_c16 (by decide +kernel)
theorem d_MD_look1_350 : decode b_MD_look1 350 = .ok (.if_icmp .ne 7, 3) := bz_c160 (by decide +kernel)
theorem d_MD_look1_353 : decode b_MD_look1 353 = .ok (.iconst 1, 1) := bz_c4 (by decide +kernel)
theorem d_MD_look1_354 : decode b_MD_look1 354 = .ok (.goto 4, 3) := bz_c167 (by decide +kernel)
theorem d_MD_look1_357 : decode b_MD_look1 357 = .ok (.iconst 0, 1) := bz_c3 (by decide +kernel)
theorem d_MD_look1_358 : decode b_MD_look1 358 = .ok (.aload_n 1, 1) := bz_c43 (by decide +kernel)
theorem d_MD_look1_359 : decode b_MD_look1 359 = .ok (.invokevirtual 339, 3) := bz_c182 (by decide +kernel)
theorem d_MD_look1_362 : decode b_MD_look1 362 = .ok (.aload_n 0, 1) := bz_c42 (by decide +kernel)
theorem d_MD_look1_363 : decode b_MD_look1 363 = .ok (.dup, 1) := bz_c89 (by decide +kernel)
theorem d_MD_look1_364 : decode b_MD_look1 364 = .ok (.getfield 310, 3) := bz_c180 (by decide +kernel)
theorem d_MD_look1_367 : decode b_MD_look1 367 = .ok (.iconst 1, 1) := bz_c4 (by decide +kernel)
theorem d_MD_look1_368 : decode b_MD_look1 368 = .ok (.iadd, 1) := bz_c96 (by decide +kernel)
theorem d_MD_look1_369 : decode b_MD_look1 369 = .ok (.putfield 310, 3) := bz_c181 (by decide +kernel)
theorem d_MD_look1_372 : decode b_MD_look1 372 = .ok (.aload_n 0, 1) := bz_c42 (by decide +kernel)
theorem d_MD_look1_373 : decode b_MD_look1 373 = .ok (.aload_n 1, 1) := bz_c43 (by decide +kernel)
theorem d_MD_look1_374 : decode b_MD_look1 374 = .ok (.getfield 331, 3) := bz_c180 (by decide +kernel)
theorem d_MD_look1_377 : decode b_MD_look1 377 = .ok (.iconst 1, 1) := bz_c4 (by decide +kernel)
theorem d_MD_look1_378 : decode b_MD_look1 378 = .ok (.aaload, 1) := bz_c50 (by decide +kernel)
theorem d_MD_look1_379 : decode b_MD_look1 379 = .ok (.invokevirtual 322, 3) := bz_c182 (by decide +kernel)
theorem d_MD_look1_382 : decode b_MD_look1 382 = .ok (.aload_n 0, 1) := bz_c42 (by decide +kernel)
theorem d_MD_look1_383 : decode b_MD_look1 383 = .ok (.dup, 1) := bz_c89 (by decide +kernel)
theorem d_MD_look1_384 : decode b_MD_look1 384 = .ok (.getfield 310, 3) := bz_c180 (by decide +kernel)
theorem d_MD_look1_387 : decode b_MD_look1 387 = .ok (.iconst 1, 1) := bz_c4 (by decide +kernel)
theorem d_MD_look1_388 : decode b_MD_look1 388 = .ok (.isub, 1) := bz_c100 (by decide +kernel)
theorem d_MD_look1_389 : decode b_MD_look1 389 = .ok (.putfield 310, 3) := bz_c181 (by decide +kernel)
theorem d_MD_look1_392 : decode b_MD_look1 392 = .ok (.goto 106, 3) := bz_c167 (by decide +kernel)
theorem d_MD_look1_395 : decode b_MD_look1 395 = .ok (.aload_n 0, 1) := bz_c42 (by decide +kernel)
theorem d_MD_look1_396 : decode b_MD_look1 396 = .ok (.getfield 310, 3) := bz_c180 (by decide +kernel)
theorem d_MD_look1_399 : decode b_MD_look1 399 = .ok (.ifCond .ne 99, 3) := bz_c154 (by decide +kernel)
theorem d_MD_look1_402 : decode b_MD_look1 402 = .ok (.aload_n 0, 1) := bz_c42 (by decide +kernel)
theorem d_MD_look1_403 : decode b_MD_look1 403 = .ok (.bipush 6, 2) := bz_c16 (by decide +kernel)
theorem d_MD_look1_405 : decode b_MD_look1 405 = .ok (.aload_n 1, 1) := bz_c43 (by decide +kernel)
theorem d_MD_look1_406 : decode b_MD_look1 406 = .ok (.getfield 132, 3) := bz_c180 (by decide +kernel)
theorem d_MD_look1_409 : decode b_MD_look1 409 = .ok (.invokevirtual 115, 3) := bz_c182 (by decide +kernel)
theorem d_MD_look1_412 : decode b_MD_look1 412 = .ok (.athrow, 1) := bz_c191 (by decide +kernel)
theorem d_MD_look1_413 : decode b_MD_look1 413 = .ok (.aload_n 0, 1) := bz_c42 (by decide +kernel)
theorem d_MD_look1_414 : decode b_MD_look1 414 = .ok (.aload_n 1, 1) := bz_c43 (by decide +kernel)
theorem d_MD_look1_415 : decode b_MD_look1 415 = .ok (.getfield 300, 3) := bz_c180 (by decide +kernel)
theorem d_MD_look1_418 : decode b_MD_look1 418 = .ok (.ifCond .ne 7, 3) := bz_c154 (by decide +kernel)
theorem d_MD_look1_421 : decode b_MD_look1 421 = .ok (.iconst 0, 1) := bz_c3 (by decide +kernel)
theorem d_MD_look1_422 : decode b_MD_look1 422 = .ok (.goto 13, 3) := bz_c167 (by decide +kernel)
theorem d_MD_look1_425 : decode b_MD_look1 425 = .ok (.aload_n 0, 1) := bz_c42 (by decide +kernel)
theorem d_MD_look1_426 : decode b_MD_look1 426 = .ok (.aload_n 1, 1) := bz_c43 (by decide +kernel)
theorem d_MD_look1_427 : decode b_MD_look1 427 = .ok (.getfield 331, 3) := bz_c180 (by decide +kernel)
theorem d_MD_look1_430 : decode b_MD_look1 430 = .ok (.iconst 0, 1) := bz_c3 (by decide +kernel)
theorem d_MD_look1_431 : decode b_MD_look1 431 = .ok (.aaload, 1) := bz_c50 (by decide +kernel)
theorem d_MD_look1_432 : decode b_MD_look1 432 = .ok (.invokevirtual 335, 3) := bz_c182 (by decide +kernel)
theorem d_MD_look1_435 : decode b_MD_look1 435 = .ok (.aload_n 0, 1) := bz_c42 (by decide +kernel)
theorem d_MD_look1_436 : decode b_MD_look1 436 = .ok (.getfield 303, 3) := bz_c180 (by decide +kernel)
theorem d_MD_look1_439 : decode b_MD_look1 439 = .ok (.getfield 222, 3) := bz_c180 (by decide +kernel)
theorem d_MD_look1_442 : decode b_MD_look1 442 = .ok (.if_icmp .ne 37, 3) := bz_c160 (by decide +kernel)
theorem d_MD_look1_445 : decode b_MD_look1 445 = .ok (.aload_n 1, 1) := bz_c43 (by decide +kernel)
theorem d_MD_look1_446 : decode b_MD_look1 446 = .ok (.getfield 300, 3) := bz_c180 (by decide +kernel)
theorem d_MD_look1_449 : decode b_MD_look1 449 = .ok (.ifCond .le 7, 3) := bz_c158 (by decide +kernel)
theorem d_MD_look1_452 : decode b_MD_look1 452 = .ok (.iconst 1, 1) := bz_c4 (by decide +kernel)
theorem d_MD_look1_453 : decode b_MD_look1 453 = .ok (.goto 4, 3) := bz_c167 (by decide +kernel)
theorem d_MD_look1_456 : decode b_MD_look1 456 = .ok (.iconst 0, 1) := bz_c3 (by decide +kernel)
theorem d_MD_look1_457 : decode b_MD_look1 457 = .ok (.aload_n 0, 1) := bz_c42 (by decide +kernel)
theorem d_MD_look1_458 : decode b_MD_look1 458 = .ok (.getfield 303, 3) := bz_c180 (by decide +kernel)
theorem d_MD_look1_461 : decode b_MD_look1 461 = .ok (.getfield 222, 3) := bz_c180 (by decide +kernel)
theorem d_MD_look1_464 : decode b_MD_look1 464 = .ok (.ifCond .eq 7, 3) := bz_c153 (by decide +kernel)
theorem d_MD_look1_467 : decode b_MD_look1 467 = .ok (.iconst 1, 1) := bz_c4 (by decide +kernel)
theorem d_MD_look1_468 : decode b_MD_look1 468 = .ok (.goto 4, 3) := bz_c167 (by decide +kernel)
theorem d_MD_look1_471 : decode b_MD_look1 471 = .ok (.iconst 0, 1) := bz_c3 (by decide +kernel)
theorem d_MD_look1_472 : decode b_MD_look1 472 = .ok (.if_icmp .ne 7, 3) := bz_c160 (by decide +kernel)
theorem d_MD_look1_475 : decode b_MD_look1 475 = .ok (.iconst 1, 1) := bz_c4 (by decide +kernel)
theorem d_MD_look1_476 : decode b_MD_look1 476 = .ok (.goto 4, 3) := bz_c167 (by decide +kernel)
theorem d_MD_look1_479 : decode b_MD_look1 479 = .ok (.iconst 0, 1) := bz_c3 (by decide +kernel)
theorem d_MD_look1_480 : decode b_MD_look1 480 = .ok (.aload_n 1, 1) := bz_c43 (by decide +kernel)
theorem d_MD_look1_481 : decode b_MD_look1 481 = .ok (.invokevirtual 339, 3) := bz_c182 (by decide +kernel)
theorem d_MD_look1_484 : decode b_MD_look1 484 = .ok (.goto 14, 3) := bz_c167 (by decide +kernel)
theorem d_MD_look1_487 : decode b_MD_look1 487 = .ok (.aload_n 0, 1) := bz_c42 (by decide +kernel)
theorem d_MD_look1_488 : decode b_MD_look1 488 = .ok (.aload_n 1, 1) := bz_c43 (by decide +kernel)
theorem d_MD_look1_489 : decode b_MD_look1 489 = .ok (.getfield 331, 3) := bz_c180 (by decide +kernel)
theorem d_MD_look1_492 : decode b_MD_look1 492 = .ok (.iconst 0, 1) := bz_c3 (by decide +kernel)
theorem d_MD_look1_493 : decode b_MD_look1 493 = .ok (.aaload, 1) := bz_c50 (by decide +kernel)
theorem d_MD_look1_494 : decode b_MD_look1 494 = .ok (.invokevirtual 335, 3) := bz_c182 (by decide +kernel)
theorem d_MD_look1_497 : decode b_MD_look1 497 = .ok (.pop, 1) := bz_c87 (by decide +kernel)
theorem d_MD_look1_498 : decode b_MD_look1 498 = .ok (.return_, 1) := bz_c177 (by decide +kernel)
theorem kM_MD_322 : Cond.methodLink R_MD 322 y_MD_look1 ∈ lw_g := in_c12 29 rfl rfl
theorem kV_MD_look1 : Cond.instanceMethod y_MD_look1 ∈ lw_g := in_c12 31 rfl rfl
theorem kS_MD_look1 : Cond.selects R_MD y_MD_look1 y_MD_look1 ∈ lw_g := in_s 146 (by decide +kernel) rfl
abbrev at_MD_look1 (dC : Nat → ClassId) (dI : Nat → Nat → Nat) (sz szl : Nat) (sa : Nat → Nat) (h0 rf tap gnm gpl gty gvl fun_ lev po_now kno mad mag h0_smalls_r h0_greats_r h0_module_r h0_spare_r blk stk hgt lab ous kis los mem glo val ffu fre fba fla lat lhe rsl arg : Nat) (cgnm cgty cfun_ ckno cr cpn cpb cps : ClassId) (h0_taped : Int32) (h0_length : Int32) (h0_kind : Int32) (h0_from : Int32) (h0_to : Int32) (h0_word : Value) (h0_numeral : Int64) (h0_globalCount : Int32) (h0_funCount : Int32) (h0_open : Int32) (h0_signs : Int32) (h0_madeLength : Int32) (h0_m : Value) (h0_cursor : Int32) (h0_limit : Int32) (h0_top : Int32) (h0_depth : Int32) (h0_function : Int32) (h0_pages : Int32) (h0_valueTop : Int32) (h0_frames : Int32) (h0_labelTop : Int32) (h0_steps : Int32) (h0_there : Int32) (h0_resultLength : Int32) (h0_reason : Int32) (h0_place : Int32) (h0_argumentCount : Int32) (h0_code : Int32) (rf_backtrace : Value) (rf_detailMessage : Value) (rf_cause : Value) (rf_stackTrace : Value) (rf_depth : Int32) (rf_suppressedExceptions : Value) (ggnm : Nat → Option Nat) (ggty : Nat → Int32) (gfun_ : Nat → Option Nat) (LP : List Nat) (A : Nat → Prop) (u : (Nat → Int32) × Int32 × Int32 × Int32 × Int32 × Nat × Nat × (Nat → va_E)) (t : State) : Prop := match u with | (gkno, h0_knownCount, h0_loops, rf_place, rf_reason, kcz, knz, fP) => va_P (dC, dI) cls2 (((wz_591 h0 rf tap h0_taped h0_length h0_kind h0_from h0_to h0_word h0_numeral gnm gpl gty gvl h0_globalCount fun_ h0_funCount h0_open h0_signs lev po_now kno h0_knownCount h0_loops mad h0_madeLength mag h0_smalls_r h0_greats_r h0_module_r h0_spare_r h0_m h0_cursor h0_limit blk stk h0_top hgt lab ous kis los h0_depth h0_function mem h0_pages glo val h0_valueTop ffu fre fba fla h0_frames lat lhe h0_labelTop h0_steps h0_there rsl h0_resultLength h0_reason h0_place arg h0_argumentCount h0_code rf rf_backtrace rf_detailMessage rf_cause rf_stackTrace rf_depth rf_suppressedExceptions rf_reason rf_place gnm cgnm ggnm gty cgty ggty fun_ cfun_ gfun_ kno ckno gkno) : va_W) ++ va_pl LP fP) t.heap ∧ va_K (dC, dI) cls2 [(cgnm, .object "java/lang/String"), (cgty, .int), (cfun_, .object "WaferForgeModel$Fun"), (ckno, .int), (cr, .int), (cpn, .object "WaferForgeModel$N"), (cpb, .byte), (cps, .object "java/lang/String")] t ∧ va_D A (((wz_591 h0 rf tap h0_taped h0_length h0_kind h0_from h0_to h0_word h0_numeral gnm gpl gty gvl h0_globalCount fun_ h0_funCount h0_open h0_signs lev po_now kno h0_knownCount h0_loops mad h0_madeLength mag h0_smalls_r h0_greats_r h0_module_r h0_spare_r h0_m h0_cursor h0_limit blk stk h0_top hgt lab ous kis los h0_depth h0_function mem h0_pages glo val h0_valueTop ffu fre fba fla h0_frames lat lhe h0_labelTop h0_steps h0_there rsl h0_resultLength h0_reason h0_place arg h0_argumentCount h0_code rf rf_backtrace rf_detailMessage rf_cause rf_stackTrace rf_depth rf_suppressedExceptions rf_reason rf_place gnm cgnm ggnm gty cgty ggty fun_ cfun_ gfun_ kno ckno gkno) : va_W) ++ va_pl LP fP) ∧ t.heap.size ≤ sz + kcz ∧ hsl t.heap ≤ szl + knz
def k_MD_look1 (l : Launch) (dep : Nat) : Prop := ∀ (dC : Nat → ClassId) (dI : Nat → Nat → Nat) (sz : Nat) (szl : Nat) (sa : Nat → Nat) (h0 rf tap gnm gpl gty gvl fun_ lev po_now kno mad mag h0_smalls_r h0_greats_r h0_module_r h0_spare_r blk stk hgt lab ous kis los mem glo val ffu fre fba fla lat lhe rsl arg : Nat) (cgnm cgty cfun_ ckno cr cpn cpb cps : ClassId) (h0_taped : Int32) (h0_length : Int32) (h0_kind : Int32) (h0_from : Int32) (h0_to : Int32) (h0_word : Value) (h0_numeral : Int64) (h0_globalCount : Int32) (h0_funCount : Int32) (h0_open : Int32) (h0_signs : Int32) (h0_knownCount : Int32) (h0_loops : Int32) (h0_madeLength : Int32) (h0_m : Value) (h0_cursor : Int32) (h0_limit : Int32) (h0_top : Int32) (h0_depth : Int32) (h0_function : Int32) (h0_pages : Int32) (h0_valueTop : Int32) (h0_frames : Int32) (h0_labelTop : Int32) (h0_steps : Int32) (h0_there : Int32) (h0_resultLength : Int32) (h0_reason : Int32) (h0_place : Int32) (h0_argumentCount : Int32) (h0_code : Int32) (rf_backtrace : Value) (rf_detailMessage : Value) (rf_cause : Value) (rf_stackTrace : Value) (rf_depth : Int32) (rf_suppressedExceptions : Value) (rf_reason : Int32) (rf_place : Int32) (ggnm : Nat → Option Nat) (ggty : Nat → Int32) (gfun_ : Nat → Option Nat) (gkno : Nat → Int32) (LP : List Nat) (fP : Nat → va_E) (fnm : Value) (fpl : Int32) (po_fns : Nat) (po_fls : Nat) (po_fys : Nat) (fps : Int32) (fN : Int32) (frs : Int32) (po_fbd : Nat) (fsg : Int32) (fgn : Nat → Option Nat) (fT : Nat → Int32) (gM : Nat → Prop) (ggv : Nat → Int) (gtk : Nat → Int) (gg : Int) (gd : Nat) (ge : Nat) (gK : Nat → Prop) (gil : Bool) (gc : Int) (gb : Nat)  (b_h0_globalCount : 0 ≤ h0_globalCount.toInt ∧ h0_globalCount.toInt ≤ 20) (b_h0_funCount : 0 ≤ h0_funCount.toInt ∧ h0_funCount.toInt ≤ 20) (b_h0_knownCount : 0 ≤ h0_knownCount.toInt ∧ h0_knownCount.toInt ≤ 51) (b_h0_loops : 0 ≤ h0_loops.toInt ∧ h0_loops.toInt ≤ 1000) (po_n : Nat)  (hen : bx (env9 LP fP cps cr cpb gM po_now fnm fpl po_fns po_fls po_fys fps frs po_fbd fsg fN fgn fT h0_knownCount.toInt gkno)) (hgl : bx (glt LP fP cpb h0_globalCount.toInt ggnm ggty)) (hft : bx (ftb LP fP cr cpb h0_funCount.toInt gfun_ ggv gtk)) (hus : bx (us LP fP cpn cpb gd po_n gc gb ∧ fp LP fP cpn ge po_n gK)) (hlo : h0_loops.toInt + (gd : Int) ≤ 1000) (hil : bx (h0_loops.toInt ≠ 0 → gil = true)) (hrs : bx ((frs.toInt = 0 → gg = 64) ∧ (frs.toInt = 0 ∨ t27 frs.toInt))) (hdp : gd < dep), tz_Met l y_MD_look1 w_MD_look1 ({ frames := 3 * dep + 23, cells := (2 * gc / 5).toNat, slots := (13 * gc).toNat, locals := 100 * dep + 400 }) (va_Pc [.ref h0, .ref po_n] (fun U => U.heap.size = sz ∧ va_P (dC, dI) cls2 (((wz_591 h0 rf tap h0_taped h0_length h0_kind h0_from h0_to h0_word h0_numeral gnm gpl gty gvl h0_globalCount fun_ h0_funCount h0_open h0_signs lev po_now kno h0_knownCount h0_loops mad h0_madeLength mag h0_smalls_r h0_greats_r h0_module_r h0_spare_r h0_m h0_cursor h0_limit blk stk h0_top hgt lab ous kis los h0_depth h0_function mem h0_pages glo val h0_valueTop ffu fre fba fla h0_frames lat lhe h0_labelTop h0_steps h0_there rsl h0_resultLength h0_reason h0_place arg h0_argumentCount h0_code rf rf_backtrace rf_detailMessage rf_cause rf_stackTrace rf_depth rf_suppressedExceptions rf_reason rf_place gnm cgnm ggnm gty cgty ggty fun_ cfun_ gfun_ kno ckno gkno) : va_W) ++ va_pl LP fP) U.heap ∧ va_K (dC, dI) cls2 [(cgnm, .object "java/lang/String"), (cgty, .int), (cfun_, .object "WaferForgeModel$Fun"), (ckno, .int), (cr, .int), (cpn, .object "WaferForgeModel$N"), (cpb, .byte), (cps, .object "java/lang/String")] U ∧ va_D (fun _ => True) (((wz_591 h0 rf tap h0_taped h0_length h0_kind h0_from h0_to h0_word h0_numeral gnm gpl gty gvl h0_globalCount fun_ h0_funCount h0_open h0_signs lev po_now kno h0_knownCount h0_loops mad h0_madeLength mag h0_smalls_r h0_greats_r h0_module_r h0_spare_r h0_m h0_cursor h0_limit blk stk h0_top hgt lab ous kis los h0_depth h0_function mem h0_pages glo val h0_valueTop ffu fre fba fla h0_frames lat lhe h0_labelTop h0_steps h0_there rsl h0_resultLength h0_reason h0_place arg h0_argumentCount h0_code rf rf_backtrace rf_detailMessage rf_cause rf_stackTrace rf_depth rf_suppressedExceptions rf_reason rf_place gnm cgnm ggnm gty cgty ggty fun_ cfun_ gfun_ kno ckno gkno) : va_W) ++ va_pl LP fP) ∧ sm sa (va_A (((wz_591 h0 rf tap h0_taped h0_length h0_kind h0_from h0_to h0_word h0_numeral gnm gpl gty gvl h0_globalCount fun_ h0_funCount h0_open h0_signs lev po_now kno h0_knownCount h0_loops mad h0_madeLength mag h0_smalls_r h0_greats_r h0_module_r h0_spare_r h0_m h0_cursor h0_limit blk stk h0_top hgt lab ous kis los h0_depth h0_function mem h0_pages glo val h0_valueTop ffu fre fba fla h0_frames lat lhe h0_labelTop h0_steps h0_there rsl h0_resultLength h0_reason h0_place arg h0_argumentCount h0_code rf rf_backtrace rf_detailMessage rf_cause rf_stackTrace rf_depth rf_suppressedExceptions rf_reason rf_place gnm cgnm ggnm gty cgty ggty fun_ cfun_ gfun_ kno ckno gkno) : va_W) ++ va_pl LP fP) sz) U U.heap ∧ hsl U.heap = szl)) (tq_Q (tr_v (fun (u : (Nat → Int32) × Int32 × Int32 × Int32 × Int32 × Nat × Nat × (Nat → va_E)) => match u with | (gkno2, h0_knownCount2, h0_loops2, rf_place2, rf_reason2, kcz2, knz2, fP2) => (0 ≤ h0_knownCount2.toInt ∧ h0_knownCount2.toInt ≤ 51) ∧ (0 ≤ h0_loops2.toInt ∧ h0_loops2.toInt ≤ 1000) ∧ ((∃ (N2 : Int32) (gn2 : Nat → Option Nat) (T2 : Nat → Int32), env9 LP fP2 cps cr cpb gM po_now fnm fpl po_fns po_fls po_fys fps frs po_fbd fsg N2 gn2 T2 h0_knownCount2.toInt gkno2 ∧ fN.toInt ≤ N2.toInt ∧ ts LP fP2 cpn cpb N2.toInt h0_funCount.toInt h0_globalCount.toInt ggv gtk gg gd gil po_n gc gb) ∧ h0_knownCount.toInt ≤ h0_knownCount2.toInt ∧ h0_loops2.toInt = h0_loops.toInt ∧ ftb LP fP2 cr cpb h0_funCount.toInt gfun_ ggv gtk ∧ cgs cpn cpb gK gM fP fP2 ∧ kcz2 ≤ (2 * gc / 5).toNat ∧ knz2 ≤ (8 * gc).toNat)) rf "WaferForgeModel$Refused" (fun (u : (Nat → Int32) × Int32 × Int32 × Int32 × Int32 × Nat × Nat × (Nat → va_E)) => match u with | (gkno2, h0_knownCount2, h0_loops2, rf_place2, rf_reason2, kcz2, knz2, fP2) => (0 ≤ h0_knownCount2.toInt ∧ h0_knownCount2.toInt ≤ 51) ∧ (0 ≤ h0_loops2.toInt ∧ h0_loops2.toInt ≤ 1000))) (at_MD_look1 dC dI sz szl sa h0 rf tap gnm gpl gty gvl fun_ lev po_now kno mad mag h0_smalls_r h0_greats_r h0_module_r h0_spare_r blk stk hgt lab ous kis los mem glo val ffu fre fba fla lat lhe rsl arg cgnm cgty cfun_ ckno cr cpn cpb cps h0_taped h0_length h0_kind h0_from h0_to h0_word h0_numeral h0_globalCount h0_funCount h0_open h0_signs h0_madeLength h0_m h0_cursor h0_limit h0_top h0_depth h0_function h0_pages h0_valueTop h0_frames h0_labelTop h0_steps h0_there h0_resultLength h0_reason h0_place h0_argumentCount h0_code rf_backtrace rf_detailMessage rf_cause rf_stackTrace rf_depth rf_suppressedExceptions ggnm ggty gfun_ LP (va_A (((wz_591 h0 rf tap h0_taped h0_length h0_kind h0_from h0_to h0_word h0_numeral gnm gpl gty gvl h0_globalCount fun_ h0_funCount h0_open h0_signs lev po_now kno h0_knownCount h0_loops mad h0_madeLength mag h0_smalls_r h0_greats_r h0_module_r h0_spare_r h0_m h0_cursor h0_limit blk stk h0_top hgt lab ous kis los h0_depth h0_function mem h0_pages glo val h0_valueTop ffu fre fba fla h0_frames lat lhe h0_labelTop h0_steps h0_there rsl h0_resultLength h0_reason h0_place arg h0_argumentCount h0_code rf rf_backtrace rf_detailMessage rf_cause rf_stackTrace rf_depth rf_suppressedExceptions rf_reason rf_place gnm cgnm ggnm gty cgty ggty fun_ cfun_ gfun_ kno ckno gkno) : va_W) ++ va_pl LP fP) sz)) (va_A (((wz_591 h0 rf tap h0_taped h0_length h0_kind h0_from h0_to h0_word h0_numeral gnm gpl gty gvl h0_globalCount fun_ h0_funCount h0_open h0_signs lev po_now kno h0_knownCount h0_loops mad h0_madeLength mag h0_smalls_r h0_greats_r h0_module_r h0_spare_r h0_m h0_cursor h0_limit blk stk h0_top hgt lab ous kis los h0_depth h0_function mem h0_pages glo val h0_valueTop ffu fre fba fla h0_frames lat lhe h0_labelTop h0_steps h0_there rsl h0_resultLength h0_reason h0_place arg h0_argumentCount h0_code rf rf_backtrace rf_detailMessage rf_cause rf_stackTrace rf_depth rf_suppressedExceptions rf_reason rf_place gnm cgnm ggnm gty cgty ggty fun_ cfun_ gfun_ kno ckno gkno) : va_W) ++ va_pl LP fP) sz)) (tz_k ((2 * gc / 5).toNat) ((13 * gc).toNat) ((2 * gc / 5).toNat) ((13 * gc).toNat)) (va_A (((wz_591 h0 rf tap h0_taped h0_length h0_kind h0_from h0_to h0_word h0_numeral gnm gpl gty gvl h0_globalCount fun_ h0_funCount h0_open h0_signs lev po_now kno h0_knownCount h0_loops mad h0_madeLength mag h0_smalls_r h0_greats_r h0_module_r h0_spare_r h0_m h0_cursor h0_limit blk stk h0_top hgt lab ous kis los h0_depth h0_function mem h0_pages glo val h0_valueTop ffu fre fba fla h0_frames lat lhe h0_labelTop h0_steps h0_there rsl h0_resultLength h0_reason h0_place arg h0_argumentCount h0_code rf rf_backtrace rf_detailMessage rf_cause rf_stackTrace rf_depth rf_suppressedExceptions rf_reason rf_place gnm cgnm ggnm gty cgty ggty fun_ cfun_ gfun_ kno ckno gkno) : va_W) ++ va_pl LP fP) sz)
end q_n23
section q_n23b
/-! the reference: looking at a statement: brk -/
theorem kF_MD_310 : Cond.fieldLink R_MD 310 "WaferForgeModel" "loops" "I" ∈ lw_g := in_c9 3 rfl rfl
set_option maxHeartbeats 4000000 in
set_option maxRecDepth 100000 in
theorem c_MD_look1b (l : Launch) (hlt : l.stackTraces = false) (dC : Nat → ClassId) (dI : Nat → Nat → Nat) (sz : Nat) (szl : Nat) (sa : Nat → Nat) (h0 rf tap gnm gpl gty gvl fun_ lev po_now kno mad mag h0_smalls_r h0_greats_r h0_module_r h0_spare_r blk stk hgt lab ous kis los mem glo val ffu fre fba fla lat lhe rsl arg : Nat) (cgnm cgty cfun_ ckno cr cpn cpb cps : ClassId) (h0_taped : Int32) (h0_length : Int32) (h0_kind : Int32) (h0_from : Int32) (h0_to : Int32) (h0_word : Value) (h0_numeral : Int64) (h0_globalCount : Int32) (h0_funCount : Int32) (h0_open : Int32) (h0_signs : Int32) (h0_knownCount : Int32) (h0_loops : Int32) (h0_madeLength : Int32) (h0_m : Value) (h0_cursor : Int32) (h0_limit : Int32) (h0_top : Int32) (h0_depth : Int32) (h0_function : Int32) (h0_pages : Int32) (h0_valueTop : Int32) (h0_frames : Int32) (h0_labelTop : Int32) (h0_steps : Int32) (h0_there : Int32) (h0_resultLength : Int32) (h0_reason : Int32) (h0_place : Int32) (h0_argumentCount : Int32) (h0_code : Int32) (rf_backtrace : Value) (rf_detailMessage : Value) (rf_cause : Value) (rf_stackTrace : Value) (rf_depth : Int32) (rf_suppressedExceptions : Value) (rf_reason : Int32) (rf_place : Int32) (ggnm : Nat → Option Nat) (ggty : Nat → Int32) (gfun_ : Nat → Option Nat) (gkno : Nat → Int32) (LP : List Nat) (fP : Nat → va_E) (dep : Nat) (hK_look : k_MD_look1 l dep) (hK_typed : k_MD_typed l dep) (fnm : Value) (fpl : Int32) (po_fns : Nat) (po_fls : Nat) (po_fys : Nat) (fps : Int32) (fN : Int32) (frs : Int32) (po_fbd : Nat) (fsg : Int32) (fgn : Nat → Option Nat) (fT : Nat → Int32) (gM : Nat → Prop) (ggv : Nat → Int) (gtk : Nat → Int) (gg : Int) (gd : Nat) (ge : Nat) (gK : Nat → Prop) (gil : Bool) (gc : Int) (gb : Nat)  (b_h0_globalCount : 0 ≤ h0_globalCount.toInt ∧ h0_globalCount.toInt ≤ 20) (b_h0_funCount : 0 ≤ h0_funCount.toInt ∧ h0_funCount.toInt ≤ 20) (b_h0_knownCount : 0 ≤ h0_knownCount.toInt ∧ h0_knownCount.toInt ≤ 51) (b_h0_loops : 0 ≤ h0_loops.toInt ∧ h0_loops.toInt ≤ 1000) (po_n : Nat)  (hen : bx (env9 LP fP cps cr cpb gM po_now fnm fpl po_fns po_fls po_fys fps frs po_fbd fsg fN fgn fT h0_knownCount.toInt gkno)) (hgl : bx (glt LP fP cpb h0_globalCount.toInt ggnm ggty)) (hft : bx (ftb LP fP cr cpb h0_funCount.toInt gfun_ ggv gtk)) (hus : bx (us LP fP cpn cpb gd po_n gc gb ∧ fp LP fP cpn ge po_n gK)) (hlo : h0_loops.toInt + (gd : Int) ≤ 1000) (hil : bx (h0_loops.toInt ≠ 0 → gil = true)) (hrs : bx ((frs.toInt = 0 → gg = 64) ∧ (frs.toInt = 0 ∨ t27 frs.toInt))) (hdp : gd ≤ dep) (hop : bx (opn9 fP po_n 14 15)) : tz_Met l y_MD_look1 w_MD_look1 ({ frames := 3 * (dep + 1) + 23, cells := (2 * gc / 5).toNat, slots := (13 * gc).toNat, locals := 100 * (dep + 1) + 400 }) (va_Pc [.ref h0, .ref po_n] (fun U => U.heap.size = sz ∧ va_P (dC, dI) cls2 (((wz_591 h0 rf tap h0_taped h0_length h0_kind h0_from h0_to h0_word h0_numeral gnm gpl gty gvl h0_globalCount fun_ h0_funCount h0_open h0_signs lev po_now kno h0_knownCount h0_loops mad h0_madeLength mag h0_smalls_r h0_greats_r h0_module_r h0_spare_r h0_m h0_cursor h0_limit blk stk h0_top hgt lab ous kis los h0_depth h0_function mem h0_pages glo val h0_valueTop ffu fre fba fla h0_frames lat lhe h0_labelTop h0_steps h0_there rsl h0_resultLength h0_reason h0_place arg h0_argumentCount h0_code rf rf_backtrace rf_detailMessage rf_cause rf_stackTrace rf_depth rf_suppressedExceptions rf_reason rf_place gnm cgnm ggnm gty cgty ggty fun_ cfun_ gfun_ kno ckno gkno) : va_W) ++ va_pl LP fP) U.heap ∧ va_K (dC, dI) cls2 [(cgnm, .object "java/lang/String"), (cgty, .int), (cfun_, .object "WaferForgeModel$Fun"), (ckno, .int), (cr, .int), (cpn, .object "WaferForgeModel$N"), (cpb, .byte), (cps, .object "java/lang/String")] U ∧ va_D (fun _ => True) (((wz_591 h0 rf tap h0_taped h0_length h0_kind h0_from h0_to h0_word h0_numeral gnm gpl gty gvl h0_globalCount fun_ h0_funCount h0_open h0_signs lev po_now kno h0_knownCount h0_loops mad h0_madeLength mag h0_smalls_r h0_greats_r h0_module_r h0_spare_r h0_m h0_cursor h0_limit blk stk h0_top hgt lab ous kis los h0_depth h0_function mem h0_pages glo val h0_valueTop ffu fre fba fla h0_frames lat lhe h0_labelTop h0_steps h0_there rsl h0_resultLength h0_reason h0_place arg h0_argumentCount h0_code rf rf_backtrace rf_detailMessage rf_cause rf_stackTrace rf_depth rf_suppressedExceptions rf_reason rf_place gnm cgnm ggnm gty cgty ggty fun_ cfun_ gfun_ kno ckno gkno) : va_W) ++ va_pl LP fP) ∧ sm sa (va_A (((wz_591 h0 rf tap h0_taped h0_length h0_kind h0_from h0_to h0_word h0_numeral gnm gpl gty gvl h0_globalCount fun_ h0_funCount h0_open h0_signs lev po_now kno h0_knownCount h0_loops mad h0_madeLength mag h0_smalls_r h0_greats_r h0_module_r h0_spare_r h0_m h0_cursor h0_limit blk stk h0_top hgt lab ous kis los h0_depth h0_function mem h0_pages glo val h0_valueTop ffu fre fba fla h0_frames lat lhe h0_labelTop h0_steps h0_there rsl h0_resultLength h0_reason h0_place arg h0_argumentCount h0_code rf rf_backtrace rf_detailMessage rf_cause rf_stackTrace rf_depth rf_suppressedExceptions rf_reason rf_place gnm cgnm ggnm gty cgty ggty fun_ cfun_ gfun_ kno ckno gkno) : va_W) ++ va_pl LP fP) sz) U U.heap ∧ hsl U.heap = szl)) (tq_Q (tr_v (fun (u : (Nat → Int32) × Int32 × Int32 × Int32 × Int32 × Nat × Nat × (Nat → va_E)) => match u with | (gkno2, h0_knownCount2, h0_loops2, rf_place2, rf_reason2, kcz2, knz2, fP2) => (0 ≤ h0_knownCount2.toInt ∧ h0_knownCount2.toInt ≤ 51) ∧ (0 ≤ h0_loops2.toInt ∧ h0_loops2.toInt ≤ 1000) ∧ ((∃ (N2 : Int32) (gn2 : Nat → Option Nat) (T2 : Nat → Int32), env9 LP fP2 cps cr cpb gM po_now fnm fpl po_fns po_fls po_fys fps frs po_fbd fsg N2 gn2 T2 h0_knownCount2.toInt gkno2 ∧ fN.toInt ≤ N2.toInt ∧ ts LP fP2 cpn cpb N2.toInt h0_funCount.toInt h0_globalCount.toInt ggv gtk gg gd gil po_n gc gb) ∧ h0_knownCount.toInt ≤ h0_knownCount2.toInt ∧ h0_loops2.toInt = h0_loops.toInt ∧ ftb LP fP2 cr cpb h0_funCount.toInt gfun_ ggv gtk ∧ cgs cpn cpb gK gM fP fP2 ∧ kcz2 ≤ (2 * gc / 5).toNat ∧ knz2 ≤ (8 * gc).toNat)) rf "WaferForgeModel$Refused" (fun (u : (Nat → Int32) × Int32 × Int32 × Int32 × Int32 × Nat × Nat × (Nat → va_E)) => match u with | (gkno2, h0_knownCount2, h0_loops2, rf_place2, rf_reason2, kcz2, knz2, fP2) => (0 ≤ h0_knownCount2.toInt ∧ h0_knownCount2.toInt ≤ 51) ∧ (0 ≤ h0_loops2.toInt ∧ h0_loops2.toInt ≤ 1000))) (at_MD_look1 dC dI sz szl sa h0 rf tap gnm gpl gty gvl fun_ lev po_now kno mad mag h0_smalls_r h0_greats_r h0_module_r h0_spare_r blk stk hgt lab ous kis los mem glo val ffu fre fba fla lat lhe rsl arg cgnm cgty cfun_ ckno cr cpn cpb cps h0_taped h0_length h0_kind h0_from h0_to h0_word h0_numeral h0_globalCount h0_funCount h0_open h0_signs h0_madeLength h0_m h0_cursor h0_limit h0_top h0_depth h0_function h0_pages h0_valueTop h0_frames h0_labelTop h0_steps h0_there h0_resultLength h0_reason h0_place h0_argumentCount h0_code rf_backtrace rf_detailMessage rf_cause rf_stackTrace rf_depth rf_suppressedExceptions ggnm ggty gfun_ LP (va_A (((wz_591 h0 rf tap h0_taped h0_length h0_kind h0_from h0_to h0_word h0_numeral gnm gpl gty gvl h0_globalCount fun_ h0_funCount h0_open h0_signs lev po_now kno h0_knownCount h0_loops mad h0_madeLength mag h0_smalls_r h0_greats_r h0_module_r h0_spare_r h0_m h0_cursor h0_limit blk stk h0_top hgt lab ous kis los h0_depth h0_function mem h0_pages glo val h0_valueTop ffu fre fba fla h0_frames lat lhe h0_labelTop h0_steps h0_there rsl h0_resultLength h0_reason h0_place arg h0_argumentCount h0_code rf rf_backtrace rf_detailMessage rf_cause rf_stackTrace rf_depth rf_suppressedExceptions rf_reason rf_place gnm cgnm ggnm gty cgty ggty fun_ cfun_ gfun_ kno ckno gkno) : va_W) ++ va_pl LP fP) sz)) (va_A (((wz_591 h0 rf tap h0_taped h0_length h0_kind h0_from h0_to h0_word h0_numeral gnm gpl gty gvl h0_globalCount fun_ h0_funCount h0_open h0_signs lev po_now kno h0_knownCount h0_loops mad h0_madeLength mag h0_smalls_r h0_greats_r h0_module_r h0_spare_r h0_m h0_cursor h0_limit blk stk h0_top hgt lab ous kis los h0_depth h0_function mem h0_pages glo val h0_valueTop ffu fre fba fla h0_frames lat lhe h0_labelTop h0_steps h0_there rsl h0_resultLength h0_reason h0_place arg h0_argumentCount h0_code rf rf_backtrace rf_detailMessage rf_cause rf_stackTrace rf_depth rf_suppressedExceptions rf_reason rf_place gnm cgnm ggnm gty cgty ggty fun_ cfun_ gfun_ kno ckno gkno) : va_W) ++ va_pl LP fP) sz)) (tz_k ((2 * gc / 5).toNat) ((13 * gc).toNat) ((2 * gc / 5).toNat) ((13 * gc).toNat)) (va_A (((wz_591 h0 rf tap h0_taped h0_length h0_kind h0_from h0_to h0_word h0_numeral gnm gpl gty gvl h0_globalCount fun_ h0_funCount h0_open h0_signs lev po_now kno h0_knownCount h0_loops mad h0_madeLength mag h0_smalls_r h0_greats_r h0_module_r h0_spare_r h0_m h0_cursor h0_limit blk stk h0_top hgt lab ous kis los h0_depth h0_function mem h0_pages glo val h0_valueTop ffu fre fba fla h0_frames lat lhe h0_labelTop h0_steps h0_there rsl h0_resultLength h0_reason h0_place arg h0_argumentCount h0_code rf rf_backtrace rf_detailMessage rf_cause rf_stackTrace rf_depth rf_suppressedExceptions rf_reason rf_place gnm cgnm ggnm gty cgty ggty fun_ cfun_ gfun_ kno ckno gkno) : va_W) ++ va_pl LP fP) sz) := by
  refine tz_ofW (cc := b_MD_look1) (maxL := 5) (ret := none) (by decide) rfl ?_
  intro p e s m args below meth c s₁ B hml hno hv
  obtain ⟨rfl, hsz, hP, hK, hD0, hSW, hszl⟩ := hv
  have hx := B.exec
  have hb := B.bytes
  have hr := B.returns
  have hts0 := atoms_spec (ws := w_MD_look1) B.pre
  have hts : ∀ w ∈ lw_g, w.before _ s = true := fun w h => hts0 w (List.mem_cons_of_mem _ h)
  have hown : s.vm.findClass R_MD = some m.cls := findClass_of_methodNamed B.named
  have hlocks := B.notSynchronized
  clear hts0
  subst hsz
  subst hszl
  have hD := hD0.self (sz := s.heap.size)
  generalize hAe : va_A (((wz_591 h0 rf tap h0_taped h0_length h0_kind h0_from h0_to h0_word h0_numeral gnm gpl gty gvl h0_globalCount fun_ h0_funCount h0_open h0_signs lev po_now kno h0_knownCount h0_loops mad h0_madeLength mag h0_smalls_r h0_greats_r h0_module_r h0_spare_r h0_m h0_cursor h0_limit blk stk h0_top hgt lab ous kis los h0_depth h0_function mem h0_pages glo val h0_valueTop ffu fre fba fla h0_frames lat lhe h0_labelTop h0_steps h0_there rsl h0_resultLength h0_reason h0_place arg h0_argumentCount h0_code rf rf_backtrace rf_detailMessage rf_cause rf_stackTrace rf_depth rf_suppressedExceptions rf_reason rf_place gnm cgnm ggnm gty cgty ggty fun_ cfun_ gfun_ kno ckno gkno) : va_W) ++ va_pl LP fP) s.heap.size = A at hD hSW ⊢
  have hA : ∀ q : Nat, s.heap.size ≤ q → A q := fun q h => by rw [← hAe]; exact Or.inr h
  clear hAe
  have hP : va_P (dC, dI) cls2 (((wz_591 h0 rf tap h0_taped h0_length h0_kind h0_from h0_to h0_word h0_numeral gnm gpl gty gvl h0_globalCount fun_ h0_funCount h0_open h0_signs lev po_now kno h0_knownCount h0_loops mad h0_madeLength mag h0_smalls_r h0_greats_r h0_module_r h0_spare_r h0_m h0_cursor h0_limit blk stk h0_top hgt lab ous kis los h0_depth h0_function mem h0_pages glo val h0_valueTop ffu fre fba fla h0_frames lat lhe h0_labelTop h0_steps h0_there rsl h0_resultLength h0_reason h0_place arg h0_argumentCount h0_code rf rf_backtrace rf_detailMessage rf_cause rf_stackTrace rf_depth rf_suppressedExceptions rf_reason rf_place gnm cgnm ggnm gty cgty ggty fun_ cfun_ gfun_ kno ckno gkno) : va_W) ++ va_pl LP fP) s.heap := hP
  have hl := lv_entry ([.ref h0, .ref po_n]) (n := 5) (Nat.le_of_ble_eq_true rfl)
  rw [lg_entry_eq]
  generalize (lg_sl ([.ref h0, .ref po_n]) ++ List.replicate (5 - (lg_sl ([.ref h0, .ref po_n])).length) Slot.unset).toArray = ls at hl ⊢
  have hl : lv_has ls 5 [(0, .ref h0), (1, .ref po_n)] := hl
  have k0 : (0 : Int32).toInt = 0 := by decide
  refine w_gen (A := A) hP (fun H locs hP hS => ?_)
  have k1 : (1 : Int32).toInt = 1 := by decide
  have k4 : (4 : Int32).toInt = 4 := by decide
  have k5 : (5 : Int32).toInt = 5 := by decide
  have k6 : (6 : Int32).toInt = 6 := by decide
  have k50 : (50 : Int32).toInt = 50 := by decide
  have k127 : (127 : Int32).toInt = 127 := by decide
  have hnd := vq_nd hD
  obtain ⟨hu_, hf_⟩ := hus.out
  have gc0 := us_c hu_
  obtain ⟨d1, nop, npl, nm, nv, nt, po_np, np, ncnt, nix, ngl, gq, Kf, ed, ⟨na1, na2⟩, ⟨pa1, pa2⟩, nbd, ngl0, nopb, huc, hKa, hkd⟩ := st_out hu_ hf_
  clear hu_ hf_
  have pa0 := pa2
  replace hkd : bx _ := hkd
  have hkd0 := hkd
  have hgl0 := hgl
  have cq : bx (cgs cpn cpb gK gM fP fP) := cgs.rfl'
  have en := hen
  obtain ⟨hnw, hpar, hkn, hen1, hen2, hen3, hen4⟩ := en.out
  obtain ⟨⟨nwa, nwb⟩, ⟨nna, nnb⟩, ⟨nya, nyb⟩, gM1, gM2, gM3⟩ := hnw
  replace hpar : bx _ := hpar
  replace hkn : bx _ := hkn
  obtain ⟨op9, pl9, nm9, v9, t9_, p9_, c9_, i9_, g9_, ho1, ho2⟩ := hop.out
  have ho3 := (nP_inj na2 ho1).1
  rw [← ho3] at ho2
  clear ho1 ho3
  unfold nP at na2
  have k00 : (0 : Int32).toNatClampNeg = 0 := rfl
  have k01 : (1 : Int32).toNatClampNeg = 1 := rfl
  obtain ⟨w1_, w2_⟩ := usc_14 huc ho2
  clear huc
  refine lv_aload_n hx hb d_MD_look1_0 rfl (lv_at hl 1 rfl) ?_
  obtain ⟨q1, hq1⟩ := pl_ix (X := (wz_591 h0 rf tap h0_taped h0_length h0_kind h0_from h0_to h0_word h0_numeral gnm gpl gty gvl h0_globalCount fun_ h0_funCount h0_open h0_signs lev po_now kno h0_knownCount h0_loops mad h0_madeLength mag h0_smalls_r h0_greats_r h0_module_r h0_spare_r h0_m h0_cursor h0_limit blk stk h0_top hgt lab ous kis los h0_depth h0_function mem h0_pages glo val h0_valueTop ffu fre fba fla h0_frames lat lhe h0_labelTop h0_steps h0_there rsl h0_resultLength h0_reason h0_place arg h0_argumentCount h0_code rf rf_backtrace rf_detailMessage rf_cause rf_stackTrace rf_depth rf_suppressedExceptions rf_reason rf_place gnm cgnm ggnm gty cgty ggty fun_ cfun_ gfun_ kno ckno gkno)) (L := LP) (f := fP) na1 na2
  refine va_getN (D := (dC, dI)) (ci := 13) (v := .int nop) (C := R_MN) (T := F_MN) (N := 9) hx hb hts i_MN hown hK hP q1 hq1 rfl 0 (by decide) (sm_f (k := 44) hSW rfl) (fun _ h9 => h9) rfl d_MD_look1_1 ?_
  by_cases g4_395 : nop.toInt = 14 ∨ nop.toInt = 15
  · have ho4 : tab_off 483 10 18 #[91, 243, 276, 333, 391, 391, 409, 483, 52] nop.toInt = 391 := by rcases g4_395 with z | z <;> (rw [z]; rfl)
    refine lv_tab (tgt := 395) hx hb d_MD_look1_4 (by decide) ho4 (by decide) ?_
    clear ho4
    refine lv_aload_n hx hb d_MD_look1_395 rfl (lv_at hl 0 rfl) ?_
    refine va_get (D := (dC, dI)) (ci := 11) (v := .int h0_loops) (C := R_MD) (T := F_MD) (N := 65) hx hb hts i_MD hown hK hP 0 rfl rfl 22 (by decide) (hts _ kF_MD_310) (fun _ h9 => h9) rfl d_MD_look1_396 ?_
    refine lv_if_ne (tgt := 498) hx hb d_MD_look1_399 (by decide) (fun c399 => ?_) (fun c399 => ?_)
    · have q399 := neI c399
      have hP9 := hP.part (cx := (wz_591 h0 rf tap h0_taped h0_length h0_kind h0_from h0_to h0_word h0_numeral gnm gpl gty gvl h0_globalCount fun_ h0_funCount h0_open h0_signs lev po_now kno h0_knownCount h0_loops mad h0_madeLength mag h0_smalls_r h0_greats_r h0_module_r h0_spare_r h0_m h0_cursor h0_limit blk stk h0_top hgt lab ous kis los h0_depth h0_function mem h0_pages glo val h0_valueTop ffu fre fba fla h0_frames lat lhe h0_labelTop h0_steps h0_there rsl h0_resultLength h0_reason h0_place arg h0_argumentCount h0_code rf rf_backtrace rf_detailMessage rf_cause rf_stackTrace rf_depth rf_suppressedExceptions rf_reason rf_place gnm cgnm ggnm gty cgty ggty fun_ cfun_ gfun_ kno ckno gkno)) [0, 1, 2, 3, 4, 5] rfl
      have hD9 := hD.part (cx := (wz_591 h0 rf tap h0_taped h0_length h0_kind h0_from h0_to h0_word h0_numeral gnm gpl gty gvl h0_globalCount fun_ h0_funCount h0_open h0_signs lev po_now kno h0_knownCount h0_loops mad h0_madeLength mag h0_smalls_r h0_greats_r h0_module_r h0_spare_r h0_m h0_cursor h0_limit blk stk h0_top hgt lab ous kis los h0_depth h0_function mem h0_pages glo val h0_valueTop ffu fre fba fla h0_frames lat lhe h0_labelTop h0_steps h0_there rsl h0_resultLength h0_reason h0_place arg h0_argumentCount h0_code rf rf_backtrace rf_detailMessage rf_cause rf_stackTrace rf_depth rf_suppressedExceptions rf_reason rf_place gnm cgnm ggnm gty cgty ggty fun_ cfun_ gfun_ kno ckno gkno)) [0, 1, 2, 3, 4, 5] (by decide) rfl
      refine w_known (fun hzc hzs => ?_)
      refine W.widen (k := (2 * gc / 5).toNat) (n := (13 * gc).toNat) (by (first | (apply Int.le_antisymm <;> omega) | omega)) (by (first | (apply Int.le_antisymm <;> omega) | omega)) ?_
      exact tz_up (fun _ => rfl) (W.vret hx hb hr (fun t ht hW => ⟨⟨(gkno, h0_knownCount, h0_loops, rf_place, rf_reason, 0, 0, fP), ⟨rfl, ⟨b_h0_knownCount, b_h0_loops, ⟨⟨fN, fgn, fT, en.out, by (first | (apply Int.le_antisymm <;> omega) | omega), (by rw [ed]; exact ⟨nop, npl, nm, nv, nt, po_np, np, ncnt, nix, ngl, gq, na1, na2, ⟨pa1, pa2⟩, nbd, Or.inr (Or.inr (Or.inr (Or.inr (Or.inl ⟨ho2, hil.out (by (first | (apply Int.le_antisymm <;> omega) | omega)), w2_⟩))))⟩)⟩, by (try dsimp only) <;> (first | (apply Int.le_antisymm <;> omega) | omega), by (try dsimp only) <;> (first | (apply Int.le_antisymm <;> omega) | omega), hft.out, cq.out, by (try dsimp only) <;> (first | (apply Int.le_antisymm <;> omega) | omega), by (try dsimp only) <;> (first | (apply Int.le_antisymm <;> omega) | omega)⟩⟩⟩, va_P.he ht.symm hP9, va_K.moved hW.alike hK, hD9, by rw [ht]; exact hzc, by rw [ht]; exact hzs⟩, hS.F ht⟩) hS.2.2 d_MD_look1_498)
    · have q399 := eqI c399
      refine lv_aload_n hx hb d_MD_look1_402 rfl (lv_at hl 0 rfl) ?_
      refine lv_bipush (v := 6) hx hb d_MD_look1_403 (by decide) ?_
      refine lv_aload_n hx hb d_MD_look1_405 rfl (lv_at hl 1 rfl) ?_
      obtain ⟨q2, hq2⟩ := pl_ix (X := (wz_591 h0 rf tap h0_taped h0_length h0_kind h0_from h0_to h0_word h0_numeral gnm gpl gty gvl h0_globalCount fun_ h0_funCount h0_open h0_signs lev po_now kno h0_knownCount h0_loops mad h0_madeLength mag h0_smalls_r h0_greats_r h0_module_r h0_spare_r h0_m h0_cursor h0_limit blk stk h0_top hgt lab ous kis los h0_depth h0_function mem h0_pages glo val h0_valueTop ffu fre fba fla h0_frames lat lhe h0_labelTop h0_steps h0_there rsl h0_resultLength h0_reason h0_place arg h0_argumentCount h0_code rf rf_backtrace rf_detailMessage rf_cause rf_stackTrace rf_depth rf_suppressedExceptions rf_reason rf_place gnm cgnm ggnm gty cgty ggty fun_ cfun_ gfun_ kno ckno gkno)) (L := LP) (f := fP) na1 na2
      refine va_getN (D := (dC, dI)) (ci := 13) (v := .int npl) (C := R_MN) (T := F_MN) (N := 9) hx hb hts i_MN hown hK hP q2 hq2 rfl 1 (by decide) (sm_f (k := 45) hSW rfl) (fun _ h9 => h9) rfl d_MD_look1_406 ?_
      have hPc := hP.sb (wq := (wz_588 h0 rf tap h0_taped h0_length h0_kind h0_from h0_to h0_word h0_numeral gnm gpl gty gvl h0_globalCount fun_ h0_funCount h0_open h0_signs lev po_now kno h0_knownCount h0_loops mad h0_madeLength mag h0_smalls_r h0_greats_r h0_module_r h0_spare_r h0_m h0_cursor h0_limit blk stk h0_top hgt lab ous kis los h0_depth h0_function mem h0_pages glo val h0_valueTop ffu fre fba fla h0_frames lat lhe h0_labelTop h0_steps h0_there rsl h0_resultLength h0_reason h0_place arg h0_argumentCount h0_code rf rf_backtrace rf_detailMessage rf_cause rf_stackTrace rf_depth rf_suppressedExceptions rf_reason rf_place)) [0, 1] rfl
      have hDc := hD.sb (wq := (wz_588 h0 rf tap h0_taped h0_length h0_kind h0_from h0_to h0_word h0_numeral gnm gpl gty gvl h0_globalCount fun_ h0_funCount h0_open h0_signs lev po_now kno h0_knownCount h0_loops mad h0_madeLength mag h0_smalls_r h0_greats_r h0_module_r h0_spare_r h0_m h0_cursor h0_limit blk stk h0_top hgt lab ous kis los h0_depth h0_function mem h0_pages glo val h0_valueTop ffu fre fba fla h0_frames lat lhe h0_labelTop h0_steps h0_there rsl h0_resultLength h0_reason h0_place arg h0_argumentCount h0_code rf rf_backtrace rf_detailMessage rf_cause rf_stackTrace rf_depth rf_suppressedExceptions rf_reason rf_place)) [0, 1] (by decide) rfl
      have hKc := hK.sb (tyq := []) [] rfl
      have hFc := va_free (wc := (wz_588 h0 rf tap h0_taped h0_length h0_kind h0_from h0_to h0_word h0_numeral gnm gpl gty gvl h0_globalCount fun_ h0_funCount h0_open h0_signs lev po_now kno h0_knownCount h0_loops mad h0_madeLength mag h0_smalls_r h0_greats_r h0_module_r h0_spare_r h0_m h0_cursor h0_limit blk stk h0_top hgt lab ous kis los h0_depth h0_function mem h0_pages glo val h0_valueTop ffu fre fba fla h0_frames lat lhe h0_labelTop h0_steps h0_there rsl h0_resultLength h0_reason h0_place arg h0_argumentCount h0_code rf rf_backtrace rf_detailMessage rf_cause rf_stackTrace rf_depth rf_suppressedExceptions rf_reason rf_place)) hD hS hA [0, 1] rfl
      refine va_callr (va_runV (As := [.int 6, .int npl]) (rest := []) ⟨hx, hb, hml, hown, hts⟩ (c_MD_no l dC dI H.size h0 rf tap gnm gpl gty gvl fun_ lev kno mad mag h0_smalls_r h0_greats_r h0_module_r h0_spare_r blk stk hgt lab ous kis los mem glo val ffu fre fba fla lat lhe rsl arg h0_taped h0_length h0_kind h0_from h0_to h0_word h0_numeral h0_globalCount h0_funCount h0_open h0_signs (.ref po_now) h0_knownCount h0_loops h0_madeLength h0_m h0_cursor h0_limit h0_top h0_depth h0_function h0_pages h0_valueTop h0_frames h0_labelTop h0_steps h0_there h0_resultLength h0_reason h0_place h0_argumentCount h0_code rf_backtrace rf_detailMessage rf_cause rf_stackTrace rf_depth rf_suppressedExceptions rf_reason rf_place 6 npl) (cwV 2 hts (gV kM_MD_115 kV_MD_no kS_MD_no kI_MD kC_MD_no) rfl rfl rfl (by decide +kernel) ⟨(show 0 + 1 ≤ 3 * (dep + 1) + 23 from by (first | (apply Int.le_antisymm <;> omega) | omega)), (show 8 + (3 + 11) + (0) ≤ 100 * (dep + 1) + 400 from by (first | (apply Int.le_antisymm <;> omega) | omega))⟩) ⟨fun a U g mk z => by obtain ⟨z0, z1, zP, zK, zD, zS⟩ := z; exact ⟨z0, z1, zP, va_K.moved (u := U) (U := U.calling g mk a) (Vm.Alike.refl U.vm) zK, zD, sw_nest.same (s := U) (U := U.calling g mk a) rfl zS⟩, va_recv hKc hPc (ci := 11) (q0 := 0) rfl rfl, fun U hU hW => ⟨rfl, by rw [hU], va_P.he hU.symm hPc, va_K.moved hW.alike hKc, hDc.weaken (fun _ _ _ _ => trivial), hSW.nest.warm hW⟩⟩ rfl rfl hl.1 rfl (lv_room (Nat.le_of_ble_eq_true rfl)) d_MD_look1_409 ⟨by dsimp only [headSpec]; (first | (apply Int.le_antisymm <;> omega) | omega), by dsimp only [headSpec]; (first | (apply Int.le_antisymm <;> omega) | omega)⟩) hS (fun q _ h => hFc q h) hFc (fun u ra t H1 locs ht hvm hw hB hz1 hk1 hS => ?_)
      obtain ⟨rfl, hB⟩ := hB
      obtain ⟨n4, n5⟩ := u
      try dsimp only at hw
      have xr3 := hw
      try clear hw
      obtain ⟨hP1, hK1, hD1⟩ := hB
      replace hP1 := va_P.he ht hP1
      obtain ⟨hP, hD⟩ := va_joinQ (wr := (wz_594 gnm cgnm ggnm gty cgty ggty fun_ cfun_ gfun_ kno ckno gkno)) (w1 := (wz_588 h0 rf tap h0_taped h0_length h0_kind h0_from h0_to h0_word h0_numeral gnm gpl gty gvl h0_globalCount fun_ h0_funCount h0_open h0_signs lev po_now kno h0_knownCount h0_loops mad h0_madeLength mag h0_smalls_r h0_greats_r h0_module_r h0_spare_r h0_m h0_cursor h0_limit blk stk h0_top hgt lab ous kis los h0_depth h0_function mem h0_pages glo val h0_valueTop ffu fre fba fla h0_frames lat lhe h0_labelTop h0_steps h0_there rsl h0_resultLength h0_reason h0_place arg h0_argumentCount h0_code rf rf_backtrace rf_detailMessage rf_cause rf_stackTrace rf_depth rf_suppressedExceptions n5 n4)) hP hD [0, 1] [2, 3, 4, 5] rfl rfl (by decide) (by decide) hk1 hFc hP1 hD1
      clear hPc hDc hKc hFc hz1 hk1 hP1 hK1 hD1
      rename Heap => H
      have hP : va_P (dC, dI) cls2 (((wz_595 gnm cgnm ggnm gty cgty ggty fun_ cfun_ gfun_ kno ckno gkno h0 rf tap h0_taped h0_length h0_kind h0_from h0_to h0_word h0_numeral gnm gpl gty gvl h0_globalCount fun_ h0_funCount h0_open h0_signs lev po_now kno h0_knownCount h0_loops mad h0_madeLength mag h0_smalls_r h0_greats_r h0_module_r h0_spare_r h0_m h0_cursor h0_limit blk stk h0_top hgt lab ous kis los h0_depth h0_function mem h0_pages glo val h0_valueTop ffu fre fba fla h0_frames lat lhe h0_labelTop h0_steps h0_there rsl h0_resultLength h0_reason h0_place arg h0_argumentCount h0_code rf rf_backtrace rf_detailMessage rf_cause rf_stackTrace rf_depth rf_suppressedExceptions n5 n4) : va_W) ++ va_pl LP fP) H := hP
      have hD : va_D A (((wz_595 gnm cgnm ggnm gty cgty ggty fun_ cfun_ gfun_ kno ckno gkno h0 rf tap h0_taped h0_length h0_kind h0_from h0_to h0_word h0_numeral gnm gpl gty gvl h0_globalCount fun_ h0_funCount h0_open h0_signs lev po_now kno h0_knownCount h0_loops mad h0_madeLength mag h0_smalls_r h0_greats_r h0_module_r h0_spare_r h0_m h0_cursor h0_limit blk stk h0_top hgt lab ous kis los h0_depth h0_function mem h0_pages glo val h0_valueTop ffu fre fba fla h0_frames lat lhe h0_labelTop h0_steps h0_there rsl h0_resultLength h0_reason h0_place arg h0_argumentCount h0_code rf rf_backtrace rf_detailMessage rf_cause rf_stackTrace rf_depth rf_suppressedExceptions n5 n4) : va_W) ++ va_pl LP fP) := hD
      have hP9 := hP.part (cx := (wz_591 h0 rf tap h0_taped h0_length h0_kind h0_from h0_to h0_word h0_numeral gnm gpl gty gvl h0_globalCount fun_ h0_funCount h0_open h0_signs lev po_now kno h0_knownCount h0_loops mad h0_madeLength mag h0_smalls_r h0_greats_r h0_module_r h0_spare_r h0_m h0_cursor h0_limit blk stk h0_top hgt lab ous kis los h0_depth h0_function mem h0_pages glo val h0_valueTop ffu fre fba fla h0_frames lat lhe h0_labelTop h0_steps h0_there rsl h0_resultLength h0_reason h0_place arg h0_argumentCount h0_code rf rf_backtrace rf_detailMessage rf_cause rf_stackTrace rf_depth rf_suppressedExceptions n5 n4 gnm cgnm ggnm gty cgty ggty fun_ cfun_ gfun_ kno ckno gkno)) [4, 5, 0, 1, 2, 3] rfl
      have hD9 := hD.part (cx := (wz_591 h0 rf tap h0_taped h0_length h0_kind h0_from h0_to h0_word h0_numeral gnm gpl gty gvl h0_globalCount fun_ h0_funCount h0_open h0_signs lev po_now kno h0_knownCount h0_loops mad h0_madeLength mag h0_smalls_r h0_greats_r h0_module_r h0_spare_r h0_m h0_cursor h0_limit blk stk h0_top hgt lab ous kis los h0_depth h0_function mem h0_pages glo val h0_valueTop ffu fre fba fla h0_frames lat lhe h0_labelTop h0_steps h0_there rsl h0_resultLength h0_reason h0_place arg h0_argumentCount h0_code rf rf_backtrace rf_detailMessage rf_cause rf_stackTrace rf_depth rf_suppressedExceptions n5 n4 gnm cgnm ggnm gty cgty ggty fun_ cfun_ gfun_ kno ckno gkno)) [4, 5, 0, 1, 2, 3] (by decide) rfl
      refine W.widen (k := (2 * gc / 5).toNat) (n := (13 * gc).toNat) (by (first | (apply Int.le_antisymm <;> omega) | omega)) (by (first | (apply Int.le_antisymm <;> omega) | omega)) ?_
      refine w_known (fun hzc hzs => ?_)
      exact tz_athrow rfl hx hb hno hlocks (fun t ht hW => ⟨⟨(gkno, h0_knownCount, h0_loops, n4, n5, ((2 * gc / 5).toNat), ((13 * gc).toNat), fP), ⟨⟨b_h0_knownCount, b_h0_loops⟩, rfl, by rw [ht]; exact (show xo _ _ s H from va_recv hK hP (ci := 15) (q0 := 5) rfl rfl).moved hW.alike⟩, va_P.he ht.symm hP9, va_K.moved hW.alike hK, hD9, by rw [ht]; exact hzc, by rw [ht]; exact hzs⟩, hS.F ht⟩) hS.2.2 d_MD_look1_412
  · skip
    exfalso; (first | (apply Int.le_antisymm <;> omega) | omega)
end q_n23b
