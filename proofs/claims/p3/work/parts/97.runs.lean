/-! what was compiled may be run -/
theorem vr_n1 {op : Int} (h : op < 32 ∨ 36 < op) : ¬ (op = 35 ∨ op = 36) := by omega
theorem vr_n2 {op : Int} (h : op < 32 ∨ 36 < op) : ¬ (32 ≤ op ∧ op ≤ 34) := by omega
theorem vr_v {nl gv tk : Nat → Int} {fc gc : Int} {f : Nat} {op v v2 : Int} {B B2 : List vt} {h h2 : Int} (H : vr nl gv tk fc gc f op v B h B2 h2) (hn : op ≠ 2 ∧ op ≠ 3 ∧ op ≠ 4 ∧ op ≠ 16 ∧ (op < 32 ∨ 36 < op)) : vr nl gv tk fc gc f op v2 B h B2 h2 := by
  obtain ⟨o, g, hb, d, R, a1, a2, a3, a4, a5, hq9r⟩ := H
  obtain ⟨a6, a7, a8, a9, a10, a11, a12, a13, a14, a15, a16⟩ := hq9r
  exact ⟨o, g, hb, d, R, a1, a2, a3, a4, a5, fun z => z.elim (fun e => absurd e hn.1) (fun e => absurd e hn.2.1), fun z => absurd z hn.2.2.1, a8, a9, a10, fun z => absurd z hn.2.2.2.1, a12, a13, fun z => absurd z (vr_n2 hn.2.2.2.2), fun z => absurd z (vr_n1 hn.2.2.2.2), a16⟩
theorem vr_nl {nl gv tk : Nat → Int} {fc gc N : Int} {f : Nat} {op v : Int} {B B2 : List vt} {h h2 : Int} (H : vr (fun _ => N) gv tk fc gc 0 op v B h B2 h2) (hn : nl f = N) : vr nl gv tk fc gc f op v B h B2 h2 := by
  obtain ⟨o, g, hb, d, R, a1, a2, a3, a4, a5, hq9r⟩ := H
  obtain ⟨a6, a7, a8, a9, a10, a11, a12, a13, a14, a15⟩ := hq9r
  exact ⟨o, g, hb, d, R, a1, a2, a3, a4, a5, a6, a7, a8, a9, a10, a11, a12, a13, fun z => by rw [hn]; exact a14 z, a15⟩
theorem cr_seq {N fc gc : Int} {gv tk : Nat → Int} : ∀ {l : List ci} {B : List vt} {h : Int} {B2 : List vt} {h2 : Int}, cr N gv tk fc gc l B h B2 h2 → ∃ (Bs : Nat → List vt) (hs : Nat → Int), Bs 0 = B ∧ hs 0 = h ∧ ∀ (i : Nat) (x : ci), l[i]? = some x → c1 N gv tk fc gc x (Bs i) (hs i) (Bs (i + 1)) (hs (i + 1)) := by
  intro l
  induction l with
  | nil => intro B h B2 h2 _; exact ⟨fun _ => B, fun _ => h, rfl, rfl, fun i x hx => by simp at hx⟩
  | cons y l ih =>
    intro B h B2 h2 H
    obtain ⟨B1, h1, q1, q2⟩ := H
    obtain ⟨Bs, hs, e1, e2, e3⟩ := ih q2
    refine ⟨fun i => match i with | 0 => B | i + 1 => Bs i, fun i => match i with | 0 => h | i + 1 => hs i, rfl, rfl, fun i x hx => ?_⟩
    cases i with
    | zero =>
      have e : y = x := by simpa using hx
      subst e
      show c1 N gv tk fc gc y B h (Bs 0) (hs 0)
      rw [e1, e2]
      exact q1
    | succ i => exact e3 i x (by simpa using hx)
theorem vfin_of {gv tk nl : Nat → Int} {fc gc lc : Int} {ft cfi clk cop cpt cel : Nat → Int32} {cva : Nat → Int64} {f : Nat} (h : cx gv tk fc gc ft cfi clk cop cva f) (hn : nl f = tk f + (clk f).toInt) (hr : rc_fin (cfi f).toNatClampNeg (cfi (f + 1)).toNatClampNeg cop cpt cel cva lc) : vfin nl gv tk fc gc f cop cpt cel cva lc (cfi f).toNatClampNeg ((cfi (f + 1)).toNatClampNeg - 1) := by
  obtain ⟨R, l, B, hh, q1, q2, q3, q4, q5, q6⟩ := h
  obtain ⟨sb, r1, r2, r3, r4⟩ := hr
  obtain ⟨Bs, hs, e1, e2, e3⟩ := cr_seq q2
  have c1_ := i32_clamp (x := cfi f) q4
  have c2_ := i32_clamp (x := cfi (f + 1)) (by omega)
  obtain ⟨a, ea⟩ : ∃ a, a = (cfi f).toNatClampNeg := ⟨_, rfl⟩
  obtain ⟨m, em⟩ : ∃ m, m = (cfi (f + 1)).toNatClampNeg - 1 := ⟨_, rfl⟩
  rw [← em] at r2 r3 r4 ⊢
  rw [← ea] at r2 q6 ⊢
  have hm : m = a + l.length := by omega
  have st : ∀ i, i < l.length → ∃ x, l[i]? = some x ∧ c1 (tk f + (rsum R : Int)) gv tk fc gc x (Bs i) (hs i) (Bs (i + 1)) (hs (i + 1)) := fun i hi => ⟨l[i], List.getElem?_eq_getElem hi, e3 i l[i] (List.getElem?_eq_getElem hi)⟩
  refine ⟨sb, fun j => Bs (j - a), fun j => hs (j - a), r2, r3, r4, fun j j1 j2 j3 => ?_, fun j j1 j2 j3 => ?_, ?_, ?_, ?_⟩
  · dsimp only
    obtain ⟨x, hx, hc⟩ := st (j - a) (by omega)
    have hx2 : (l ++ [((11 : Int), (0 : Int))])[j - a]? = some x := by rw [List.getElem?_append_left (by omega)]; exact hx
    obtain ⟨w1, w2⟩ := q6 (j - a) x hx2
    rw [show a + (j - a) = j by omega] at w1 w2
    rw [show j + 1 - a = j - a + 1 by omega, w1]
    have v1 := vr_nl (nl := nl) (f := f) hc.1 (by rw [hn, q3])
    by_cases z : x.1 = 65 ∨ x.1 = 66 ∨ x.1 = 40 ∨ x.1 = 41 ∨ x.1 = 44 ∨ x.1 = 45 ∨ x.1 = 54 ∨ x.1 = 55 ∨ x.1 = 58
    · exact vr_v v1 (by omega)
    · rw [w2 (by omega) (by omega) (by omega)]
      exact v1
  · dsimp only
    by_cases z : j = a
    · rw [z, Nat.sub_self, e1, e2]
      refine ⟨Int.le_refl _, fun y hy => ?_⟩
      rw [List.mem_singleton.mp hy]
      exact Int.le_refl _
    · obtain ⟨x, hx, hc⟩ := st (j - a - 1) (by omega)
      rw [show j - a - 1 + 1 = j - a by omega] at hc
      exact hc.2
  · show (Bs (a - a)).length = 1
    rw [Nat.sub_self, e1]
    rfl
  · show hs (a - a) = 0
    rw [Nat.sub_self, e2]
  · show vlive (Bs (a - a)) = true
    rw [Nat.sub_self, e1]
    rfl
theorem mo_comp {pf ft to : Nat → Int32} {R : List Nat} {qn : Nat} {qG : List (Nat × Int)} {qX : List (List Nat × Nat × Nat)} {tc fcn hm gcn ec cc acl lc : Int32} {pl_ pm : Int64} {wat wap wag waf wgt wez cfi clk clt cop cpt cel cla : Nat → Int32} {cva : Nat → Int64} (hn : qn ≤ 20) (hG : qG.length ≤ 20) (hpf : ∀ f, f < qn → 0 ≤ tkF pf f ∧ tkF pf f ≤ 8)
    (ht : tyI to (tkF pf) ft qn R) (h : rA R (tkF pf) ft to qn qG qX (gvF ft) (qG.length : Int) 11 tc fcn hm gcn ec cc acl lc pl_ pm wat wap wag waf wgt wez cfi clk clt cop cpt cel cva) (hal : acl.toInt ≤ 5000) (hlc : lc.toInt = 0) :
    mo_ok fcn.toInt gcn.toInt waf wat wag cfi clk cop cpt cel cla cva ∧ fcn.toInt = (qn : Int) ∧ gcn.toInt = (qG.length : Int) := by
  obtain ⟨h1, h3, h5, h6, -, h7, h10, -⟩ := h
  obtain ⟨t1, t2, t3⟩ := h1 (by decide)
  obtain ⟨f1, f2⟩ := h3 (by decide)
  obtain ⟨g1, -⟩ := h6 (by decide)
  obtain ⟨d1_, d2_, d3_⟩ := h10 (by decide)
  have tl := tyI_len qn ht
  have key : ∀ f : Nat, (f : Int) < (qn : Int) → 0 ≤ (waf f).toInt ∧ (waf f).toInt < tc.toInt ∧ (wat (waf f).toNatClampNeg).toInt = tkF pf f ∧ (wag (waf f).toNatClampNeg).toInt = (ft f).toInt := by
    intro f hf
    obtain ⟨k0, r, k1, k2, k3⟩ := tyI_get qn ht f (by omega)
    have e := f2 f hf
    have kl := (List.getElem?_eq_some_iff.mp k1).1
    have c := i32_clamp (x := waf f) (by omega)
    obtain ⟨r2, m1, m2, m3⟩ := t2 (waf f).toNatClampNeg (by omega)
    rw [show (waf f).toNatClampNeg = (to f).toInt.toNat by omega] at m1 ⊢
    rw [show (waf f).toNatClampNeg = (to f).toInt.toNat by omega] at m2 m3
    rw [k1] at m1
    have er := Option.some.inj m1
    subst er
    exact ⟨by omega, by omega, by rw [m2, k2], by rw [m3, k3]⟩
  have hT : rd_T tc.toInt wat wap := by
    refine ⟨fun t hh => ?_, fun j hj => t3 j (by omega)⟩
    obtain ⟨r, m1, m2, -⟩ := t2 t (by omega)
    have rr := hpf r (tl.2 r (List.mem_of_getElem? m1))
    omega
  refine ⟨?_, f1, g1⟩
  rw [f1, g1]
  refine mo_of (nl := fun f => tkF pf f + (clk f).toInt) (gv := gvF ft) (tk := tkF pf) (len := acl.toInt) (lc := lc.toInt) (gwap := wap) (gclt := clt) (by omega) (fun f hf => by omega) (vw_of hT (by omega) (fun f hf => (key f hf).1) d2_ (fun f hf => (key f hf).2.1)) (fun f hf => ?_) (fun f hf => ?_) (fun f hf => ?_) d2_ hal (by omega) (fun j hj => by omega) (fun f hf => ?_)
  · rw [(key f hf).2.2.2]
    rfl
  · rw [(key f hf).2.2.1]
  · rw [(key f hf).2.2.1]
  · exact vfin_of (d3_ f (by omega)) rfl (d2_.1 f hf).2.2.2.1
