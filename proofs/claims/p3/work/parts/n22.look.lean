/-! the reference: types of every value; what is known while statements are looked at -/
theorem k_typed (l : Launch) (hlt : l.stackTraces = false) : ∀ dep, k_MD_typed l dep := by
  intro dep
  induction dep with
  | zero =>
    intro dC dI sz szl sa h0 rf tap gnm gpl gty gvl fun_ lev po_now kno mad mag h0_smalls_r h0_greats_r h0_module_r h0_spare_r blk stk hgt lab ous kis los mem glo val ffu fre fba fla lat lhe rsl arg cgnm cgty cfun_ ckno cr cpn cpb cps h0_taped h0_length h0_kind h0_from h0_to h0_word h0_numeral h0_globalCount h0_funCount h0_open h0_signs h0_knownCount h0_loops h0_madeLength h0_m h0_cursor h0_limit h0_top h0_depth h0_function h0_pages h0_valueTop h0_frames h0_labelTop h0_steps h0_there h0_resultLength h0_reason h0_place h0_argumentCount h0_code rf_backtrace rf_detailMessage rf_cause rf_stackTrace rf_depth rf_suppressedExceptions rf_reason rf_place ggnm ggty gfun_ gkno LP fP fnm fpl po_fns po_fls po_fys fps fN frs po_fbd fsg fgn fT gM gN ggv gtk gd ge gK gc gb b_h0_globalCount b_h0_funCount b_h0_knownCount po_n hnw hpar hkn hgN hgl hft hut hdp
    exfalso
    omega
  | succ dep ih =>
    intro dC dI sz szl sa h0 rf tap gnm gpl gty gvl fun_ lev po_now kno mad mag h0_smalls_r h0_greats_r h0_module_r h0_spare_r blk stk hgt lab ous kis los mem glo val ffu fre fba fla lat lhe rsl arg cgnm cgty cfun_ ckno cr cpn cpb cps h0_taped h0_length h0_kind h0_from h0_to h0_word h0_numeral h0_globalCount h0_funCount h0_open h0_signs h0_knownCount h0_loops h0_madeLength h0_m h0_cursor h0_limit h0_top h0_depth h0_function h0_pages h0_valueTop h0_frames h0_labelTop h0_steps h0_there h0_resultLength h0_reason h0_place h0_argumentCount h0_code rf_backtrace rf_detailMessage rf_cause rf_stackTrace rf_depth rf_suppressedExceptions rf_reason rf_place ggnm ggty gfun_ gkno LP fP fnm fpl po_fns po_fls po_fys fps fN frs po_fbd fsg fgn fT gM gN ggv gtk gd ge gK gc gb b_h0_globalCount b_h0_funCount b_h0_knownCount po_n hnw hpar hkn hgN hgl hft hut hdp
    exact c_MD_typed l hlt (dC := dC) (dI := dI) (sz := sz) (szl := szl) (sa := sa) (h0 := h0) (rf := rf) (tap := tap) (gnm := gnm) (gpl := gpl) (gty := gty) (gvl := gvl) (fun_ := fun_) (lev := lev) (po_now := po_now) (kno := kno) (mad := mad) (mag := mag) (h0_smalls_r := h0_smalls_r) (h0_greats_r := h0_greats_r) (h0_module_r := h0_module_r) (h0_spare_r := h0_spare_r) (blk := blk) (stk := stk) (hgt := hgt) (lab := lab) (ous := ous) (kis := kis) (los := los) (mem := mem) (glo := glo) (val := val) (ffu := ffu) (fre := fre) (fba := fba) (fla := fla) (lat := lat) (lhe := lhe) (rsl := rsl) (arg := arg) (cgnm := cgnm) (cgty := cgty) (cfun_ := cfun_) (ckno := ckno) (cr := cr) (cpn := cpn) (cpb := cpb) (cps := cps) (h0_taped := h0_taped) (h0_length := h0_length) (h0_kind := h0_kind) (h0_from := h0_from) (h0_to := h0_to) (h0_word := h0_word) (h0_numeral := h0_numeral) (h0_globalCount := h0_globalCount) (h0_funCount := h0_funCount) (h0_open := h0_open) (h0_signs := h0_signs) (h0_knownCount := h0_knownCount) (h0_loops := h0_loops) (h0_madeLength := h0_madeLength) (h0_m := h0_m) (h0_cursor := h0_cursor) (h0_limit := h0_limit) (h0_top := h0_top) (h0_depth := h0_depth) (h0_function := h0_function) (h0_pages := h0_pages) (h0_valueTop := h0_valueTop) (h0_frames := h0_frames) (h0_labelTop := h0_labelTop) (h0_steps := h0_steps) (h0_there := h0_there) (h0_resultLength := h0_resultLength) (h0_reason := h0_reason) (h0_place := h0_place) (h0_argumentCount := h0_argumentCount) (h0_code := h0_code) (rf_backtrace := rf_backtrace) (rf_detailMessage := rf_detailMessage) (rf_cause := rf_cause) (rf_stackTrace := rf_stackTrace) (rf_depth := rf_depth) (rf_suppressedExceptions := rf_suppressedExceptions) (rf_reason := rf_reason) (rf_place := rf_place) (ggnm := ggnm) (ggty := ggty) (gfun_ := gfun_) (gkno := gkno) (LP := LP) (fP := fP) (dep := dep) (hK_typed := ih) (fnm := fnm) (fpl := fpl) (po_fns := po_fns) (po_fls := po_fls) (po_fys := po_fys) (fps := fps) (fN := fN) (frs := frs) (po_fbd := po_fbd) (fsg := fsg) (fgn := fgn) (fT := fT) (gM := gM) (gN := gN) (ggv := ggv) (gtk := gtk) (gd := gd) (ge := ge) (gK := gK) (gc := gc) (gb := gb) (b_h0_globalCount := b_h0_globalCount) (b_h0_funCount := b_h0_funCount) (b_h0_knownCount := b_h0_knownCount) (po_n := po_n) (hnw := hnw) (hpar := hpar) (hkn := hkn) (hgN := hgN) (hgl := hgl) (hft := hft) (hut := hut) (hdp := (by omega))
theorem ty_ne {D : va_G} {cl : List vw_C} {tys : List (ClassId × FieldType)} {s : State} {i j : Nat} {c1 c2 : ClassId} {t1 t2 : FieldType} (hK : va_K D cl tys s) (h1 : tys[i]? = some (c1, t1)) (h2 : tys[j]? = some (c2, t2)) (ht : t1 ≠ t2) : c1 ≠ c2 := by
  intro e
  subst e
  obtain ⟨-, k, e1, c, e2⟩ := (hK.2 i _ h1).1 0 (fun _ => .null)
  obtain ⟨-, k', e1', c', e2'⟩ := (hK.2 j _ h2).1 0 (fun _ => .null)
  have e3 : some k = some k' := e1.symm.trans e1'
  injection e3 with e3
  subst e3
  rw [e2] at e2'
  injection e2' with _ e4
  exact ht e4
section USC
variable {L : List Nat} {f f2 : Nat → va_E} {cpn cpb : ClassId} {V T : Nat → Int → Nat → Prop} {op : Int32} {nm : Value} {t cnt : Int32} {g : Nat → Option Nat} {c : Int} {b : Nat} {K : Nat → Prop}
theorem usc_op (h : usc L f cpb V T op nm t cnt g c b) : 10 ≤ op.toInt ∧ op.toInt ≤ 18 := by
  rcases h with ⟨q, h⟩ | ⟨q, h⟩ | ⟨q, h⟩ | ⟨q, h⟩ | ⟨q, h⟩ | ⟨q, h⟩ | ⟨q, h⟩ | ⟨q, h⟩ <;> clear h <;> omega
theorem usc_18 (h : usc L f cpb V T op nm t cnt g c b) (e : op.toInt = 18) : ∃ (cf : Nat → Nat) (kf : Nat → Int), (∀ i : Nat, (i : Int) < cnt.toInt → g i = some (cf i) ∧ 0 ≤ kf i ∧ T (cf i) (kf i) b) ∧ ksum kf cnt.toInt.toNat ≤ c := by
  rcases h with ⟨q, h⟩ | ⟨q, h⟩ | ⟨q, h⟩ | ⟨q, h⟩ | ⟨q, h⟩ | ⟨q, h⟩ | ⟨q, h⟩ | ⟨q, h⟩ <;> first | exact h | (exfalso; clear h; omega)
theorem usc_10 (h : usc L f cpb V T op nm t cnt g c b) (e : op.toInt = 10) : cnt.toInt = 1 ∧ t27 t.toInt ∧ nmP L f cpb nm ∧ ∃ (c0 : Nat) (k0 : Int), g 0 = some c0 ∧ V c0 k0 b ∧ 0 ≤ k0 ∧ k0 + 10 ≤ c := by
  rcases h with ⟨q, h⟩ | ⟨q, h⟩ | ⟨q, h⟩ | ⟨q, h⟩ | ⟨q, h⟩ | ⟨q, h⟩ | ⟨q, h⟩ | ⟨q, h⟩ <;> first | exact h | (exfalso; clear h; omega)
theorem usc_11 (h : usc L f cpb V T op nm t cnt g c b) (e : op.toInt = 11) : cnt.toInt = 1 ∧ nmP L f cpb nm ∧ ∃ (c0 : Nat) (k0 : Int), g 0 = some c0 ∧ V c0 k0 b ∧ 0 ≤ k0 ∧ k0 + 10 ≤ c := by
  rcases h with ⟨q, h⟩ | ⟨q, h⟩ | ⟨q, h⟩ | ⟨q, h⟩ | ⟨q, h⟩ | ⟨q, h⟩ | ⟨q, h⟩ | ⟨q, h⟩ <;> first | exact h | (exfalso; clear h; omega)
theorem usc_12 (h : usc L f cpb V T op nm t cnt g c b) (e : op.toInt = 12) : ∃ (cf : Nat → Nat) (kf : Nat → Int) (b1 : Nat), V (cf 0) (kf 0) b ∧ (cnt.toInt = 2 ∨ cnt.toInt = 3) ∧ (∀ i : Nat, (i : Int) < cnt.toInt → g i = some (cf i) ∧ 0 ≤ kf i) ∧ (∀ i : Nat, 1 ≤ (i : Int) → (i : Int) < cnt.toInt → T (cf i) (kf i) b1) ∧ b1 + 1 ≤ b ∧ ksum kf cnt.toInt.toNat + 8 * cnt.toInt ≤ c := by
  rcases h with ⟨q, h⟩ | ⟨q, h⟩ | ⟨q, h⟩ | ⟨q, h⟩ | ⟨q, h⟩ | ⟨q, h⟩ | ⟨q, h⟩ | ⟨q, h⟩
  · exfalso; clear h; omega
  · exfalso; clear h; omega
  · exfalso; clear h; omega
  · obtain ⟨c0, k0, c1, k1, b1, h1, h2, h3, h4, h5, h6, h7, h8⟩ := h
    rcases h8 with ⟨z1, z2⟩ | ⟨z1, c2, k2, z2, z3, z4, z5⟩
    · refine ⟨fun i => if i = 0 then c0 else c1, fun i => if i = 0 then k0 else k1, b1, h2, Or.inl z1, fun i hi => ?_, fun i hi hj => ?_, h7, ?_⟩
      · by_cases q : i = 0
        · subst q; exact ⟨h1, h3⟩
        · have : i = 1 := by omega
          subst this; exact ⟨h4, h6⟩
      · have : i = 1 := by omega
        subst this; exact h5
      · rw [z1]
        show ((0 : Int) + k0) + k1 + 8 * 2 ≤ c
        omega
    · refine ⟨fun i => if i = 0 then c0 else if i = 1 then c1 else c2, fun i => if i = 0 then k0 else if i = 1 then k1 else k2, b1, h2, Or.inr z1, fun i hi => ?_, fun i hi hj => ?_, h7, ?_⟩
      · by_cases q : i = 0
        · subst q; exact ⟨h1, h3⟩
        · by_cases q1 : i = 1
          · subst q1; exact ⟨h4, h6⟩
          · have : i = 2 := by omega
            subst this; exact ⟨z2, z4⟩
      · by_cases q1 : i = 1
        · subst q1; exact h5
        · have : i = 2 := by omega
          subst this; exact z3
      · rw [z1]
        show (((0 : Int) + k0) + k1) + k2 + 8 * 3 ≤ c
        omega
  · exfalso; clear h; omega
  · exfalso; clear h; omega
  · exfalso; clear h; omega
  · exfalso; clear h; omega
theorem usc_13 (h : usc L f cpb V T op nm t cnt g c b) (e : op.toInt = 13) : cnt.toInt = 2 ∧ ∃ (c0 : Nat) (k0 : Int) (c1 : Nat) (k1 : Int) (b1 : Nat), g 0 = some c0 ∧ V c0 k0 b1 ∧ 0 ≤ k0 ∧ g 1 = some c1 ∧ T c1 k1 b1 ∧ 0 ≤ k1 ∧ b1 + 2 ≤ b ∧ k0 + k1 + 56 ≤ c := by
  rcases h with ⟨q, h⟩ | ⟨q, h⟩ | ⟨q, h⟩ | ⟨q, h⟩ | ⟨q, h⟩ | ⟨q, h⟩ | ⟨q, h⟩ | ⟨q, h⟩ <;> first | exact h | (exfalso; clear h; omega)
theorem usc_14 (h : usc L f cpb V T op nm t cnt g c b) (e : op.toInt = 14 ∨ op.toInt = 15) : cnt.toInt = 0 ∧ 10 ≤ c := by
  rcases h with ⟨q, h⟩ | ⟨q, h⟩ | ⟨q, h⟩ | ⟨q, h⟩ | ⟨q, h⟩ | ⟨q, h⟩ | ⟨q, h⟩ | ⟨q, h⟩ <;> first | exact h | (exfalso; clear h; omega)
theorem usc_16 (h : usc L f cpb V T op nm t cnt g c b) (e : op.toInt = 16) : (cnt.toInt = 0 ∧ 8 ≤ c) ∨ (cnt.toInt = 1 ∧ ∃ (c0 : Nat) (k0 : Int), g 0 = some c0 ∧ V c0 k0 b ∧ 0 ≤ k0 ∧ k0 + 8 ≤ c) := by
  rcases h with ⟨q, h⟩ | ⟨q, h⟩ | ⟨q, h⟩ | ⟨q, h⟩ | ⟨q, h⟩ | ⟨q, h⟩ | ⟨q, h⟩ | ⟨q, h⟩ <;> first | exact h | (exfalso; clear h; omega)
theorem usc_17 (h : usc L f cpb V T op nm t cnt g c b) (e : op.toInt = 17) : cnt.toInt = 1 ∧ ∃ (c0 : Nat) (k0 : Int), g 0 = some c0 ∧ V c0 k0 b ∧ 0 ≤ k0 ∧ k0 + 10 ≤ c := by
  rcases h with ⟨q, h⟩ | ⟨q, h⟩ | ⟨q, h⟩ | ⟨q, h⟩ | ⟨q, h⟩ | ⟨q, h⟩ | ⟨q, h⟩ | ⟨q, h⟩ <;> first | exact h | (exfalso; clear h; omega)
theorem us_c {d a : Nat} (h : us L f cpn cpb d a c b) : 0 ≤ c := by
  cases d with
  | zero => exact h.elim
  | succ d =>
    obtain ⟨op, pl, nm, v, t, p, n, cnt, ix, gl, hq9r⟩ := h
    obtain ⟨g, h1, h2, h3, h4, h5, h⟩ := hq9r
    rcases h with ⟨q, cf, kf, h3, h4⟩ | ⟨q, h1, h2, h0, c0, k0, h3, h4, h5, h6⟩ | ⟨q, h1, h0, c0, k0, h3, h4, h5, h6⟩ | ⟨q, c0, k0, c1, k1, b1, h1, h2, h3, h4, h5, h6, h7, h8⟩ | ⟨q, h0, c0, k0, c1, k1, b1, h1, h2, h3, h4, h5, h6, h7, h8⟩ | ⟨q, h1, h2⟩ | ⟨q, h1⟩ | ⟨q, h1, c0, k0, h3, h4, h5, h6⟩
    · have := ks_0 (kf := kf) (n := cnt.toInt.toNat) (fun i hi => (h3 i (by omega)).2.1)
      omega
    · omega
    · omega
    · rcases h8 with ⟨z1, z2⟩ | ⟨z1, y, k2, z2, z3, z4, z5⟩ <;> omega
    · omega
    · omega
    · rcases h1 with ⟨z1, z2⟩ | ⟨z1, y, k2, z2, z3, z4, z5⟩ <;> omega
    · omega
theorem st_out {d e a : Nat} (h : us L f cpn cpb d a c b) (hf : fp L f cpn e a K) : ∃ (d1 : Nat) (op pl : Int32) (nm : Value) (v : Int64) (t : Int32) (p n : Nat) (cnt ix gl : Int32) (g : Nat → Option Nat) (Kf : Nat → Nat → Prop), d = d1 + 1 ∧ (a ∈ L ∧ nP f a op pl nm v t p cnt ix gl) ∧ aP L f cpn p n g ∧ (0 ≤ cnt.toInt ∧ cnt.toInt ≤ (n : Int) ∧ n < 100000) ∧ gl.toInt = 0 ∧ (10 ≤ op.toInt ∧ op.toInt ≤ 18) ∧ usc L f cpb (fun a c b => ∃ e, e ≤ d1 ∧ uv L f cpn cpb e a c b) (us L f cpn cpb d1) op nm t cnt g c b ∧ K a ∧ kds L f cpn a K cnt.toInt g Kf := by
  cases d with
  | zero => exact h.elim
  | succ d =>
    obtain ⟨op, pl, nm, v, t, p, n, cnt, ix, gl, hq9r⟩ := h
    obtain ⟨g, h1, h2, h3, h4, h5, h6⟩ := hq9r
    obtain ⟨k1, Kf, k2⟩ := fp_kds hf h2 h3
    exact ⟨d, op, pl, nm, v, t, p, n, cnt, ix, gl, g, Kf, rfl, ⟨h1, h2⟩, h3, h4, h5, usc_op h6, h6, k1, k2⟩
end USC
/-- what is known while statements are looked at -/
def env9 (L : List Nat) (f : Nat → va_E) (cps cr cpb : ClassId) (M : Nat → Prop) (a : Nat) (nm : Value) (pl : Int32) (nms pls tys : Nat) (ps rs : Int32) (bd : Nat) (sg N : Int32) (gn : Nat → Option Nat) (T : Nat → Int32) (kc : Int) (kno : Nat → Int32) : Prop := nwf L f cps cr M a nm pl nms pls tys ps N rs bd sg gn T ∧ par9 L f cpb N.toInt gn T ∧ kno9 kc N.toInt kno ∧ (0 ≤ ps.toInt ∧ ps.toInt ≤ N.toInt ∧ N.toInt ≤ 50 ∧ kc ≤ N.toInt)
section LK
variable {L : List Nat} {f f2 : Nat → va_E} {cps cr cpn cpb : ClassId} {K M : Nat → Prop} {a : Nat} {nm : Value} {pl : Int32} {nms pls tys : Nat} {ps rs : Int32} {bd : Nat} {sg N N2 : Int32} {gn : Nat → Option Nat} {T : Nat → Int32} {kc : Int} {kno : Nat → Int32} {fc gc gg : Int} {gv tk : Nat → Int}
theorem env9.cgn (h : cgn K f f2) (e : env9 L f cps cr cpb M a nm pl nms pls tys ps rs bd sg N gn T kc kno) : env9 L f2 cps cr cpb M a nm pl nms pls tys ps rs bd sg N gn T kc kno := ⟨nwf.cgn h e.1, par9.kp (h.kp (cpn := cpb)) e.2.1, e.2.2⟩
/-- statements below a node: those from lo up to i have types -/
def mxs (L : List Nat) (f : Nat → va_E) (cpn cpb : ClassId) (N fc gc : Int) (gv tk : Nat → Int) (gg : Int) (d b : Nat) (il : Bool) (n : Int) (cf : Nat → Nat) (kf : Nat → Int) (lo i : Int) : Prop := (∀ j : Nat, i ≤ (j : Int) → (j : Int) < n → us L f cpn cpb d (cf j) (kf j) b) ∧ ∀ j : Nat, lo ≤ (j : Int) → (j : Int) < i → ts L f cpn cpb N fc gc gv tk gg d il (cf j) (kf j) b
theorem mxs_k {K1 : Nat → Prop} {N N2 : Int} {a d b : Nat} {il : Bool} {n lo i : Int} {g : Nat → Option Nat} {cf : Nat → Nat} {kf : Nat → Int} {Kf : Nat → Nat → Prop} (h : mxs L f cpn cpb N fc gc gv tk gg d b il n cf kf lo i) (hlo : 0 ≤ lo) (hi : i ≤ n) (hN : N ≤ N2) (hk : kds L f cpn a K n g Kf) (hg : ∀ j : Nat, (j : Int) < n → g j = some (cf j)) (hc : kp cpn cpb K1 f f2) (hd : ∀ (j x : Nat), lo ≤ (j : Int) → (j : Int) < n → Kf j x → ¬ K1 x) (hl : lo ≤ i) : mxs L f2 cpn cpb N2 fc gc gv tk gg d b il n cf kf lo i := by
  refine ⟨fun j h1 h2 => ?_, fun j h0 h1 => ?_⟩
  · obtain ⟨e, z⟩ := kd_at hk h2 (hg j h2)
    exact us_kp hc d (fun x hx => hd j x (by omega) h2 hx) z (h.1 j h1 h2)
  · obtain ⟨e, z⟩ := kd_at hk (by omega) (hg j (by omega))
    exact ts_kp hc hN d (fun x hx => hd j x h0 (by omega) hx) z (h.2 j h0 h1)
theorem mxs_s {N N2 : Int} {a d b m : Nat} {il : Bool} {n lo i i2 : Int} {g : Nat → Option Nat} {cf : Nat → Nat} {kf : Nat → Int} {Kf : Nat → Nat → Prop} (h : mxs L f cpn cpb N fc gc gv tk gg d b il n cf kf lo i) (hm : (m : Int) = i) (hi2 : i2 = i + 1) (hi : i < n) (hN : N ≤ N2) (hk : kds L f cpn a K n g Kf) (hg : ∀ j : Nat, (j : Int) < n → g j = some (cf j)) (hc : kp cpn cpb (Kf m) f f2) (hv : ts L f2 cpn cpb N2 fc gc gv tk gg d il (cf m) (kf m) b) : mxs L f2 cpn cpb N2 fc gc gv tk gg d b il n cf kf lo i2 := by
  subst hi2
  have ne : ∀ (j x : Nat), (j : Int) < n → j ≠ m → Kf j x → ¬ Kf m x := fun j x hj q hx hy => q (hk.2.2 j m x hj (by omega) hx hy)
  refine ⟨fun j h1 h2 => ?_, fun j h0 h1 => ?_⟩
  · obtain ⟨e, z⟩ := kd_at hk h2 (hg j h2)
    exact us_kp hc d (fun x hx => ne j x h2 (by omega) hx) z (h.1 j (by omega) h2)
  · by_cases q : j = m
    · subst q
      exact hv
    · obtain ⟨e, z⟩ := kd_at hk (by omega) (hg j (by omega))
      exact ts_kp hc hN d (fun x hx => ne j x (by omega) q hx) z (h.2 j h0 (by omega))
/-- an if whose parts have types -/
theorem ts_if {N : Int} {V : Nat → Int32 → Int → Nat → Prop} {TT : Bool → Nat → Int → Nat → Prop} {il : Bool} {op cnt ix gl t0 : Int32} {g : Nat → Option Nat} {c : Int} {b b1 : Nat} {cf : Nat → Nat} {kf : Nat → Int} (ho : op.toInt = 12) (hv : V (cf 0) t0 (kf 0) b) (ht : t27 t0.toInt) (hn : cnt.toInt = 2 ∨ cnt.toInt = 3) (hg : ∀ i : Nat, (i : Int) < cnt.toInt → g i = some (cf i) ∧ 0 ≤ kf i) (hT : ∀ i : Nat, 1 ≤ (i : Int) → (i : Int) < cnt.toInt → TT il (cf i) (kf i) b1) (hb : b1 + 1 ≤ b) (hc : ksum kf cnt.toInt.toNat + 8 * cnt.toInt ≤ c) : tsc N gc gg V TT il op cnt ix gl g c b := by
  refine Or.inr (Or.inr (Or.inl ⟨ho, by omega, cf 0, t0, kf 0, cf 1, kf 1, b1, (hg 0 (by omega)).1, ht, hv, (hg 0 (by omega)).2, (hg 1 (by omega)).1, hT 1 (by omega) (by omega), (hg 1 (by omega)).2, hb, ?_⟩))
  rcases hn with q | q
  · refine Or.inl ⟨q, ?_⟩
    rw [q] at hc
    have : ((0 : Int) + kf 0) + kf 1 + 8 * 2 ≤ c := hc
    omega
  · refine Or.inr ⟨by omega, cf 2, kf 2, (hg 2 (by omega)).1, hT 2 (by omega) (by omega), (hg 2 (by omega)).2, ?_⟩
    rw [q] at hc
    have : (((0 : Int) + kf 0) + kf 1) + kf 2 + 8 * 3 ≤ c := hc
    omega
theorem ftb_A {n : Int} {g : Nat → Option Nat} {p : Nat} {c : ClassId} {x x2 : vp_A} (h : ftb L f cr cpb n g gv tk) (hp : f p = .inl (c, x)) (h1 : c ≠ cr) (h2 : c ≠ cpb) : ftb L (va_up f p (.inl (c, x2))) cr cpb n g gv tk := fun j hj => by
  obtain ⟨a, nm, pl, nms, pls, tys, ps, N, rs, bd, sg, T, q1, ⟨q2, q2'⟩, q3, ⟨q4, q4'⟩, q5⟩ := h j hj
  have e1 : va_up f p (.inl (c, x2)) a = _ := (va_up_ne _ _ (fun z => by subst z; rw [q2'] at hp; cases hp)).trans q2'
  have e2 : va_up f p (.inl (c, x2)) tys = _ := (va_up_ne _ _ (fun z => by subst z; rw [q4'] at hp; injection hp with hp; injection hp with hp _; exact h1 hp.symm)).trans q4'
  exact ⟨a, nm, pl, nms, pls, tys, ps, N, rs, bd, sg, T, q1, ⟨q2, e1⟩, (cgs.upA (cpn := cpb) (K := fun _ => False) (M := fun _ => True) hp trivial h2 h2).2.nm q3, ⟨q4, e2⟩, q5⟩
theorem ftb_T {n : Int} {g : Nat → Option Nat} {p k : Nat} {T2 : Nat → Int32} {t : Int32} (h : ftb L f cr cpb n g gv tk) (hp : f p = .inl (cr, 51, .inl T)) (e : T2 = upd T k t) (ht : t27 t.toInt) (h2 : cr ≠ cpb) : ftb L (va_up f p (.inl (cr, 51, .inl T2))) cr cpb n g gv tk := fun j hj => by
  obtain ⟨a, nm, pl, nms, pls, tys, ps, N, rs, bd, sg, T1, q1, ⟨q2, q2'⟩, q3, ⟨q4, q4'⟩, q5, q6, q7, q8, q9⟩ := h j hj
  have e1 : va_up f p (.inl (cr, 51, .inl T2)) a = _ := (va_up_ne _ _ (fun z => by subst z; rw [q2'] at hp; cases hp)).trans q2'
  have hn := (cgs.upA (x2 := (51, .inl T2)) (cpn := cpb) (K := fun _ => False) (M := fun _ => True) hp trivial h2 h2).2.nm q3
  by_cases z : tys = p
  · subst z
    rw [q4'] at hp
    injection hp with hp
    injection hp with _ hp
    injection hp with _ hp
    injection hp with hp
    subst hp
    refine ⟨a, nm, pl, nms, pls, tys, ps, N, rs, bd, sg, T2, q1, ⟨q2, e1⟩, hn, ⟨q4, va_up_self _ _ _⟩, q5, q6, q7, q8, fun i hi => ?_⟩
    rw [e]
    by_cases y : i = k
    · rw [y, pk_us]; exact ht
    · rw [pk_un y]; exact q9 i hi
  · exact ⟨a, nm, pl, nms, pls, tys, ps, N, rs, bd, sg, T1, q1, ⟨q2, e1⟩, hn, ⟨q4, (va_up_ne _ _ z).trans q4'⟩, q5, q6, q7, q8, q9⟩
theorem ftb_N {n : Int} {g : Nat → Option Nat} (h : ftb L f cr cpb n g gv tk) (hp : f a = .inr (14, [nm, .int pl, .ref nms, .ref pls, .ref tys, .int ps, .int N, .int rs, .ref bd, .int sg])) : ftb L (va_up f a (.inr (14, [nm, .int pl, .ref nms, .ref pls, .ref tys, .int ps, .int N2, .int rs, .ref bd, .int sg]))) cr cpb n g gv tk := fun j hj => by
  obtain ⟨a1, nm1, pl1, nms1, pls1, tys1, ps1, N1, rs1, bd1, sg1, T1, q1, ⟨q2, q2'⟩, q3, ⟨q4, q4'⟩, q5⟩ := h j hj
  have e2 : va_up f a (.inr (14, [nm, .int pl, .ref nms, .ref pls, .ref tys, .int ps, .int N2, .int rs, .ref bd, .int sg])) tys1 = _ := (va_up_ne _ _ (fun z => by subst z; rw [q4'] at hp; cases hp)).trans q4'
  have hn := (cgs.up14 (vs2 := [nm, .int pl, .ref nms, .ref pls, .ref tys, .int ps, .int N2, .int rs, .ref bd, .int sg]) (cpn := cpb) (cpb := cpb) (K := fun _ => False) (M := fun _ => True) hp trivial).2.nm q3
  by_cases z : a1 = a
  · subst z
    rw [q2'] at hp
    injection hp with hp
    injection hp with _ hp
    injection hp with b0 hp
    injection hp with b1 hp
    injection hp with b2 hp
    injection hp with b3 hp
    injection hp with b4 hp
    injection hp with b5 hp
    injection hp with b6 hp
    injection hp with b7 hp
    injection hp with b8 hp
    injection hp with b9 hp
    subst b0
    rw [← b1, ← b2, ← b3, ← b4, ← b5, ← b7, ← b8, ← b9] at e2 hn ⊢
    exact ⟨a1, nm1, pl1, nms1, pls1, tys1, ps1, N2, rs1, bd1, sg1, T1, q1, ⟨q2, va_up_self _ _ _⟩, hn, ⟨q4, e2⟩, q5⟩
  · exact ⟨a1, nm1, pl1, nms1, pls1, tys1, ps1, N1, rs1, bd1, sg1, T1, q1, ⟨q2, (va_up_ne _ _ z).trans q2'⟩, hn, ⟨q4, e2⟩, q5⟩
theorem par_2 {n n2 : Int} {gn2 : Nat → Option Nat} {T2 : Nat → Int32} {k r : Nat} {t : Int32} (h : par9 L f cpb n gn T) (hk : (k : Int) = n) (hn2 : n2 = n + 1) (e1 : gn2 = va_up gn k (some r)) (e2 : T2 = upd T k t) (ht : t27 t.toInt) (hn : nmP L f cpb (.ref r)) : par9 L f cpb n2 gn2 T2 := fun j hj => by
  subst e1 e2
  by_cases q : j = k
  · subst q
    rw [pk_us, va_up_self]
    exact ⟨ht, r, rfl, hn⟩
  · obtain ⟨x, r9, c, d⟩ := h j (by omega)
    rw [pk_un q, va_up_ne _ _ q]
    exact ⟨x, r9, c, d⟩
theorem kno_2 {n n2 N N2 : Int} {kno2 : Nat → Int32} {k : Nat} {x : Int32} (h : kno9 n N kno) (hk : (k : Int) = n) (hn2 : n2 = n + 1) (e : kno2 = upd kno k x) (hx : 0 ≤ x.toInt ∧ x.toInt < N2) (hN : N ≤ N2) : kno9 n2 N2 kno2 := fun j hj => by
  subst e
  by_cases q : j = k
  · rw [q, pk_us]; exact hx
  · rw [pk_un q]
    have := h j (by omega)
    omega
theorem kno_m {n n2 N N2 : Int} (h : kno9 n N kno) (hn : n2 ≤ n) (hN : N ≤ N2) : kno9 n2 N2 kno := fun j hj => by
  have := h j (by omega)
  omega
end LK
