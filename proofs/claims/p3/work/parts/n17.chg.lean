/-! the reference: what typing changes in the pool, and what it keeps -/
section CHG
variable {L : List Nat} {f f2 f3 : Nat → va_E} {cpn cpb : ClassId} {K K2 M M2 : Nat → Prop}
theorem nP_inj {a : Nat} {op pl : Int32} {nm : Value} {v : Int64} {t : Int32} {p : Nat} {cnt ix gl op2 pl2 : Int32} {nm2 : Value} {v2 : Int64} {t2 : Int32} {p2 : Nat} {cnt2 ix2 gl2 : Int32} (h : nP f a op pl nm v t p cnt ix gl) (h2 : nP f a op2 pl2 nm2 v2 t2 p2 cnt2 ix2 gl2) : op = op2 ∧ pl = pl2 ∧ nm = nm2 ∧ v = v2 ∧ t = t2 ∧ p = p2 ∧ cnt = cnt2 ∧ ix = ix2 ∧ gl = gl2 := by
  unfold nP at h h2
  rw [h] at h2
  injection h2 with h2
  injection h2 with _ h2
  injection h2 with a1 h2
  injection h2 with a2 h2
  injection h2 with a3 h2
  injection h2 with a4 h2
  injection h2 with a5 h2
  injection h2 with a6 h2
  injection h2 with a7 h2
  injection h2 with a8 h2
  injection h2 with a9 h2
  injection a1 with a1
  injection a2 with a2
  injection a4 with a4
  injection a5 with a5
  injection a6 with a6
  injection a7 with a7
  injection a8 with a8
  injection a9 with a9
  exact ⟨a1, a2, a3, a4, a5, a6, a7, a8, a9⟩
theorem aP_inj {p n n2 : Nat} {g g2 : Nat → Option Nat} (h : aP L f cpn p n g) (h2 : aP L f cpn p n2 g2) : n = n2 ∧ g = g2 := by
  have e := h.2.symm.trans h2.2
  injection e with e
  injection e with _ e
  injection e with e1 e
  injection e with e
  injection e with e
  injection e with e
  injection e with e
  exact ⟨e1, e⟩
/-- what trees rest on is kept, but for types and places in nodes of K -/
def kp (cpn cpb : ClassId) (K : Nat → Prop) (f f2 : Nat → va_E) : Prop :=
  (∀ (a : Nat) (vs : List Value), ¬ K a → f a = .inr (13, vs) → f2 a = .inr (13, vs)) ∧
  (∀ (a : Nat) (op pl : Int32) (nm : Value) (v : Int64) (t : Int32) (p : Nat) (cnt ix gl : Int32), nP f a op pl nm v t p cnt ix gl → ∃ t2 ix2 gl2, nP f2 a op pl nm v t2 p cnt ix2 gl2) ∧
  (∀ (a : Nat) (vs : List Value), f a = .inr (16, vs) → f2 a = .inr (16, vs)) ∧
  (∀ (a : Nat) (x : vp_A), f a = .inl (cpn, x) → f2 a = .inl (cpn, x)) ∧
  (∀ (a : Nat) (x : vp_A), f a = .inl (cpb, x) → f2 a = .inl (cpb, x))
theorem kp.rfl' : kp cpn cpb K f f := ⟨fun _ _ _ h => h, fun _ _ _ _ _ _ _ _ _ _ h => ⟨_, _, _, h⟩, fun _ _ h => h, fun _ _ h => h, fun _ _ h => h⟩
theorem kp.trans (h : kp cpn cpb K f f2) (h2 : kp cpn cpb K f2 f3) : kp cpn cpb K f f3 :=
  ⟨fun a vs k e => h2.1 a vs k (h.1 a vs k e), fun a op pl nm v t p cnt ix gl e => by
    obtain ⟨t2, i2, g2, e2⟩ := h.2.1 a op pl nm v t p cnt ix gl e
    exact h2.2.1 a op pl nm v t2 p cnt i2 g2 e2, fun a vs e => h2.2.2.1 a vs (h.2.2.1 a vs e), fun a x e => h2.2.2.2.1 a x (h.2.2.2.1 a x e), fun a x e => h2.2.2.2.2 a x (h.2.2.2.2 a x e)⟩
theorem kp.mono (h : kp cpn cpb K f f2) (hk : ∀ x, K x → K2 x) : kp cpn cpb K2 f f2 := ⟨fun a vs k e => h.1 a vs (fun z => k (hk a z)) e, h.2⟩
/-- only nodes of K have changed, and only in type, index, global -/
def cgn (K : Nat → Prop) (f f2 : Nat → va_E) : Prop :=
  (∀ (a : Nat) (x : ClassId × vp_A), f a = .inl x → f2 a = .inl x) ∧
  (∀ (a ci : Nat) (vs : List Value), ci ≠ 13 → f a = .inr (ci, vs) → f2 a = .inr (ci, vs)) ∧
  (∀ (a : Nat) (vs : List Value), ¬ K a → f a = .inr (13, vs) → f2 a = .inr (13, vs)) ∧
  (∀ (a : Nat) (op pl : Int32) (nm : Value) (v : Int64) (t : Int32) (p : Nat) (cnt ix gl : Int32), nP f a op pl nm v t p cnt ix gl → ∃ t2 ix2 gl2, nP f2 a op pl nm v t2 p cnt ix2 gl2)
theorem cgn.rfl' : cgn K f f := ⟨fun _ _ h => h, fun _ _ _ _ h => h, fun _ _ _ h => h, fun _ _ _ _ _ _ _ _ _ _ h => ⟨_, _, _, h⟩⟩
theorem cgn.trans (h : cgn K f f2) (h2 : cgn K f2 f3) : cgn K f f3 :=
  ⟨fun a x e => h2.1 a x (h.1 a x e), fun a c vs k e => h2.2.1 a c vs k (h.2.1 a c vs k e), fun a vs k e => h2.2.2.1 a vs k (h.2.2.1 a vs k e), fun a op pl nm v t p cnt ix gl e => by
    obtain ⟨t2, i2, g2, e2⟩ := h.2.2.2 a op pl nm v t p cnt ix gl e
    exact h2.2.2.2 a op pl nm v t2 p cnt i2 g2 e2⟩
theorem cgn.mono (h : cgn K f f2) (hk : ∀ x, K x → K2 x) : cgn K2 f f2 := ⟨h.1, h.2.1, fun a vs k e => h.2.2.1 a vs (fun z => k (hk a z)) e, h.2.2.2⟩
theorem cgn.kp (h : cgn K f f2) : kp cpn cpb K f f2 := ⟨h.2.2.1, h.2.2.2, fun a vs e => h.2.1 a 16 vs (by decide) e, fun a x e => h.1 a _ e, fun a x e => h.1 a _ e⟩
theorem cgn.up {a : Nat} {op pl : Int32} {nm : Value} {v : Int64} {t : Int32} {p : Nat} {cnt ix gl t2 ix2 gl2 : Int32} (h : nP f a op pl nm v t p cnt ix gl) (hk : K a) : cgn K f (va_up f a (.inr (13, [.int op, .int pl, nm, .long v, .int t2, .ref p, .int cnt, .int ix2, .int gl2]))) := by
  unfold nP at h
  refine ⟨fun b x e => ?_, fun b c vs q e => ?_, fun b vs q e => ?_, fun b op1 pl1 nm1 v1 t1 p1 c1 i1 g1 e => ?_⟩
  · have n : b ≠ a := fun z => by subst z; rw [h] at e; cases e
    rw [va_up_ne _ _ n]; exact e
  · have n : b ≠ a := fun z => by subst z; rw [h] at e; injection e with e; injection e with e _; exact q e.symm
    rw [va_up_ne _ _ n]; exact e
  · have n : b ≠ a := fun z => by subst z; exact q hk
    rw [va_up_ne _ _ n]; exact e
  · by_cases n : b = a
    · subst n
      obtain ⟨r1, r2, r3, r4, r5, r6, r7, r8, r9⟩ := nP_inj e h
      subst r1 r2 r3 r4 r6 r7
      exact ⟨t2, ix2, gl2, va_up_self _ _ _⟩
    · exact ⟨t1, i1, g1, by unfold nP; rw [va_up_ne _ _ n]; exact e⟩
/-- what a statement changes: nodes of K, and cells of M that are no nodes, no texts -/
def cgs (cpn cpb : ClassId) (K M : Nat → Prop) (f f2 : Nat → va_E) : Prop := (∀ a, ¬ K a → ¬ M a → f2 a = f a) ∧ kp cpn cpb K f f2
theorem cgs.rfl' : cgs cpn cpb K M f f := ⟨fun _ _ _ => rfl, kp.rfl'⟩
theorem cgs.trans (h : cgs cpn cpb K M f f2) (h2 : cgs cpn cpb K M f2 f3) : cgs cpn cpb K M f f3 := ⟨fun a k m => (h2.1 a k m).trans (h.1 a k m), h.2.trans h2.2⟩
theorem cgs.mono (h : cgs cpn cpb K M f f2) (hk : ∀ x, K x → K2 x) (hm : ∀ x, M x → M2 x) : cgs cpn cpb K2 M2 f f2 := ⟨fun a k m => h.1 a (fun z => k (hk a z)) (fun z => m (hm a z)), h.2.mono hk⟩
theorem cgn.s (h : cgn K f f2) : cgs cpn cpb K M f f2 := by
  refine ⟨fun a k _ => ?_, h.kp⟩
  cases e : f a with
  | inl x => exact h.1 a x e
  | inr y =>
    obtain ⟨ci, vs⟩ := y
    by_cases q : ci = 13
    · subst q
      exact h.2.2.1 a vs k e
    · exact h.2.1 a ci vs q e
theorem cgs.up14 {a : Nat} {vs vs2 : List Value} (h : f a = .inr (14, vs)) (hm : M a) : cgs cpn cpb K M f (va_up f a (.inr (14, vs2))) := by
  have n : ∀ {b : Nat} {e : va_E}, f b = e → e ≠ .inr (14, vs) → va_up f a (.inr (14, vs2)) b = e := fun {b e} hb q => by
    have z : b ≠ a := fun z => q (by subst z; exact hb.symm.trans h)
    rw [va_up_ne _ _ z]; exact hb
  refine ⟨fun b _ q => va_up_ne _ _ (fun z => q (z ▸ hm)), fun b vs _ e => n e (fun q => by injection q with q; injection q with q _; exact absurd q (by decide)), fun b op pl nm v t p cnt ix gl e => ⟨t, ix, gl, n e (fun q => by injection q with q; injection q with q _; exact absurd q (by decide))⟩, fun b vs e => n e (fun q => by injection q with q; injection q with q _; exact absurd q (by decide)), fun b x e => n e (fun q => by cases q), fun b x e => n e (fun q => by cases q)⟩
theorem cgs.upA {a : Nat} {c : ClassId} {x x2 : vp_A} (h : f a = .inl (c, x)) (hm : M a) (h1 : c ≠ cpn) (h2 : c ≠ cpb) : cgs cpn cpb K M f (va_up f a (.inl (c, x2))) := by
  have n : ∀ {b : Nat} {e : va_E}, f b = e → e ≠ .inl (c, x) → va_up f a (.inl (c, x2)) b = e := fun {b e} hb q => by
    have z : b ≠ a := fun z => q (by subst z; exact hb.symm.trans h)
    rw [va_up_ne _ _ z]; exact hb
  refine ⟨fun b _ q => va_up_ne _ _ (fun z => q (z ▸ hm)), fun b vs _ e => n e (fun q => by cases q), fun b op pl nm v t p cnt ix gl e => ⟨t, ix, gl, n e (fun q => by cases q)⟩, fun b vs e => n e (fun q => by cases q), fun b x e => n e (fun q => by injection q with q; injection q with q _; exact h1 q.symm), fun b x e => n e (fun q => by injection q with q; injection q with q _; exact h2 q.symm)⟩
theorem kp.str {s : Nat} {nb : List Int32} (h : kp cpn cpb K f f2) (hs : strP L f cpb s nb) : strP L f2 cpb s nb := by
  obtain ⟨h1, v, y, z, g, h2, h3, h4, h5⟩ := hs
  exact ⟨h1, v, y, z, g, h.2.2.1 _ _ h2, h3, h.2.2.2.2 _ _ h4, h5⟩
theorem kp.nm {nm : Value} (h : kp cpn cpb K f f2) (hs : nmP L f cpb nm) : nmP L f2 cpb nm := by
  obtain ⟨s, nb, e, h1, h2⟩ := hs
  exact ⟨s, nb, e, h.str h1, h2⟩
theorem kp.aP {p n : Nat} {g : Nat → Option Nat} (h : kp cpn cpb K f f2) (ha : aP L f cpn p n g) : aP L f2 cpn p n g := ⟨ha.1, h.2.2.2.1 _ _ ha.2⟩
theorem kp.fp (h : kp cpn cpb K f f2) : ∀ (d : Nat) {a : Nat} {K1 : Nat → Prop}, fp L f cpn d a K1 → fp L f2 cpn d a K1
  | 0, _, _, hu => hu.elim
  | d + 1, a, K1, hu => by
    obtain ⟨op, pl, nm, v, t, p, n, cnt, ix, gl, hq9r⟩ := hu
    obtain ⟨g, Kf, h1, h2, h3, h4, h5, h6, h7⟩ := hq9r
    obtain ⟨t2, i2, g2, e2⟩ := h.2.1 a op pl nm v t p cnt ix gl h2
    refine ⟨op, pl, nm, v, t2, p, n, cnt, i2, g2, g, Kf, h1, e2, h.aP h3, h4, fun i hi => ?_, h6, h7⟩
    obtain ⟨y, y1, y2⟩ := h5 i hi
    exact ⟨y, y1, kp.fp h d y2⟩
/-- a tree's parts and whose they are -/
def kds (L : List Nat) (f : Nat → va_E) (cpn : ClassId) (a : Nat) (K : Nat → Prop) (cnt : Int) (g : Nat → Option Nat) (Kf : Nat → Nat → Prop) : Prop := (∀ i : Nat, (i : Int) < cnt → ∃ y e, g i = some y ∧ fp L f cpn e y (Kf i)) ∧ (∀ (i x : Nat), (i : Int) < cnt → Kf i x → K x ∧ x ≠ a) ∧ ∀ (i j x : Nat), (i : Int) < cnt → (j : Int) < cnt → Kf i x → Kf j x → i = j
theorem fp_kds {e a : Nat} {op pl : Int32} {nm : Value} {v : Int64} {t : Int32} {p n : Nat} {cnt ix gl : Int32} {g : Nat → Option Nat} (h : fp L f cpn e a K) (h1 : nP f a op pl nm v t p cnt ix gl) (h2 : aP L f cpn p n g) : K a ∧ ∃ Kf, kds L f cpn a K cnt.toInt g Kf := by
  cases e with
  | zero => exact h.elim
  | succ e =>
    obtain ⟨op', pl', nm', v', t', p', n', cnt', ix', gl', hq9r⟩ := h
    obtain ⟨g', Kf, q1, q2, q3, q4, q5, q6, q7⟩ := hq9r
    obtain ⟨-, -, -, -, -, r6, r7, -, -⟩ := nP_inj q2 h1
    subst r6 r7
    obtain ⟨-, r9⟩ := aP_inj q3 h2
    subst r9
    exact ⟨q4, Kf, fun i hi => by obtain ⟨y, y1, y2⟩ := q5 i hi; exact ⟨y, e, y1, y2⟩, q6, q7⟩
theorem kds.kp {a : Nat} {K0 : Nat → Prop} {cnt : Int} {g : Nat → Option Nat} {Kf : Nat → Nat → Prop} (h : kp cpn cpb K f f2) (hk : kds L f cpn a K0 cnt g Kf) : kds L f2 cpn a K0 cnt g Kf := ⟨fun i hi => by obtain ⟨y, e, y1, y2⟩ := hk.1 i hi; exact ⟨y, e, y1, h.fp e y2⟩, hk.2⟩
theorem uvc.kid {T T2 : Nat → Int → Nat → Prop} {op : Int32} {nm : Value} {v : Int64} {t cnt : Int32} {g : Nat → Option Nat} {c : Int} {b : Nat} (h : kp cpn cpb K f f2) (hT : ∀ (i y : Nat) (c : Int) (b : Nat), (i : Int) < cnt.toInt → g i = some y → T y c b → T2 y c b) (hu : uvc L f cpb T op nm v t cnt g c b) : uvc L f2 cpb T2 op nm v t cnt g c b := by
  rcases hu with ⟨q, h1, h2, h3⟩ | ⟨q, h1, h2⟩ | ⟨q, h1, h2, cf, kf, h3, h4⟩ | ⟨q, h1, h2, c0, k0, h3, h4, h5, h6⟩ | ⟨q, h1, c0, k0, h3, h4, h5, h6⟩ | ⟨q, h1, c0, c1, k0, k1, b1, sr, nb, h3, h4, h5, h6, h7, h8, h9, h10, h11, h12, h13⟩
  · exact Or.inl ⟨q, h1, h2, h3⟩
  · exact Or.inr (Or.inl ⟨q, h.nm h1, h2⟩)
  · exact Or.inr (Or.inr (Or.inl ⟨q, h.nm h1, h2, cf, kf, fun i hi => ⟨(h3 i hi).1, (h3 i hi).2.1, hT i _ _ _ hi (h3 i hi).1 (h3 i hi).2.2⟩, h4⟩))
  · exact Or.inr (Or.inr (Or.inr (Or.inl ⟨q, h1, h2, c0, k0, h3, hT 0 _ _ _ (by omega) h3 h4, h5, h6⟩)))
  · exact Or.inr (Or.inr (Or.inr (Or.inr (Or.inl ⟨q, h1, c0, k0, h3, hT 0 _ _ _ (by omega) h3 h4, h5, h6⟩))))
  · exact Or.inr (Or.inr (Or.inr (Or.inr (Or.inr ⟨q, h1, c0, c1, k0, k1, b1, sr, nb, h3, h4, hT 0 _ _ _ (by omega) h3 h5, hT 1 _ _ _ (by omega) h4 h6, h7, h8, h9, h10, h.str h11, h12, h13⟩))))
theorem uv_kp (h : kp cpn cpb K f f2) : ∀ (d : Nat) {e a : Nat} {c : Int} {b : Nat} {K1 : Nat → Prop}, (∀ x, K1 x → ¬ K x) → fp L f cpn e a K1 → uv L f cpn cpb d a c b → uv L f2 cpn cpb d a c b
  | 0, _, _, _, _, _, _, _, hu => hu.elim
  | d + 1, e, a, c, b, K1, hk, hf, hu => by
    obtain ⟨op, pl, nm, v, t, p, n, cnt, ix, gl, hq9r⟩ := hu
    obtain ⟨g, h1, h2, h3, h4, h5, h6⟩ := hq9r
    obtain ⟨ka, Kf, k1, k2, k3⟩ := fp_kds hf h2 h3
    refine ⟨op, pl, nm, v, t, p, n, cnt, ix, gl, g, h1, h.1 a _ (hk a ka) h2, h.aP h3, h4, h5, uvc.kid h (fun i y c b hi hy q => ?_) h6⟩
    obtain ⟨z, e1, z1, z2⟩ := k1 i hi
    rw [hy] at z1
    injection z1 with z1
    subst z1
    exact uv_kp h d (fun x hx => hk x (k2 i x hi hx).1) z2 q
section TV
variable {N N2 fc gc gg : Int} {gv tk : Nat → Int}
theorem tvc.kid {T T2 : Nat → Int32 → Int → Nat → Prop} {op : Int32} {nm : Value} {v : Int64} {t cnt ix gl : Int32} {g : Nat → Option Nat} {c : Int} {b : Nat} (h : kp cpn cpb K f f2) (hN : N ≤ N2) (hT : ∀ (i y : Nat) (t : Int32) (c : Int) (b : Nat), (i : Int) < cnt.toInt → g i = some y → T y t c b → T2 y t c b) (hu : tvc L f cpb N fc gc gv tk T op nm v t cnt ix gl g c b) : tvc L f2 cpb N2 fc gc gv tk T2 op nm v t cnt ix gl g c b := by
  rcases hu with h1 | ⟨q, h1, h2, h3⟩ | ⟨q, cf, tf, kf, h1, h2⟩ | ⟨q1, q2, q3, c0, t0, k0, q4, q5, q6, q7⟩ | ⟨q1, q2, q3, c0, t0, k0, q4, q5, q6, q7⟩ | ⟨q1, q2, q3, c0, c1, t0, t1, k0, k1, b1, sr, nb, q4, q5, q6, q7, q8, q9, q10, q11, q12, q13, q14, q15⟩
  · exact Or.inl h1
  · exact Or.inr (Or.inl ⟨q, h1, by omega, h3⟩)
  · refine Or.inr (Or.inr (Or.inl ⟨q, cf, tf, kf, fun i hi => ?_, ?_⟩))
    · obtain ⟨a1, a2, a3, a4⟩ := h1 i hi
      exact ⟨a1, a2, a3, hT i _ _ _ _ hi a1 a4⟩
    · rcases h2 with h2 | ⟨a1, ⟨sr, nb, a2, a3, a4⟩, a5⟩
      · exact Or.inl h2
      · exact Or.inr ⟨a1, ⟨sr, nb, a2, h.str a3, a4⟩, a5⟩
  · exact Or.inr (Or.inr (Or.inr (Or.inl ⟨q1, q2, q3, c0, t0, k0, q4, q5, hT 0 _ _ _ _ (by omega) q4 q6, q7⟩)))
  · exact Or.inr (Or.inr (Or.inr (Or.inr (Or.inl ⟨q1, q2, q3, c0, t0, k0, q4, q5, hT 0 _ _ _ _ (by omega) q4 q6, q7⟩))))
  · exact Or.inr (Or.inr (Or.inr (Or.inr (Or.inr ⟨q1, q2, q3, c0, c1, t0, t1, k0, k1, b1, sr, nb, q4, q5, q6, q7, hT 0 _ _ _ _ (by omega) q4 q8, hT 1 _ _ _ _ (by omega) q5 q9, q10, q11, q12, q13, h.str q14, q15⟩))))
theorem tv_kp (h : kp cpn cpb K f f2) (hN : N ≤ N2) : ∀ (d : Nat) {e a : Nat} {t : Int32} {c : Int} {b : Nat} {K1 : Nat → Prop}, (∀ x, K1 x → ¬ K x) → fp L f cpn e a K1 → tv L f cpn cpb N fc gc gv tk d a t c b → tv L f2 cpn cpb N2 fc gc gv tk d a t c b
  | 0, _, _, _, _, _, _, _, _, hu => hu.elim
  | d + 1, e, a, t, c, b, K1, hk, hf, hu => by
    obtain ⟨op, pl, nm, v, p, n, cnt, ix, gl, g, h1, h2, h3, h4, h6⟩ := hu
    obtain ⟨ka, Kf, k1, k2, k3⟩ := fp_kds hf h2 h3
    refine ⟨op, pl, nm, v, p, n, cnt, ix, gl, g, h1, h.1 a _ (hk a ka) h2, h.aP h3, h4, tvc.kid h hN (fun i y t c b hi hy q => ?_) h6⟩
    obtain ⟨z, e1, z1, z2⟩ := k1 i hi
    rw [hy] at z1
    injection z1 with z1
    subst z1
    exact tv_kp h hN d (fun x hx => hk x (k2 i x hi hx).1) z2 q
theorem usc.kid {V V2 T T2 : Nat → Int → Nat → Prop} {op : Int32} {nm : Value} {t cnt : Int32} {g : Nat → Option Nat} {c : Int} {b : Nat} (h : kp cpn cpb K f f2) (hV : ∀ (i y : Nat) (c : Int) (b : Nat), (i : Int) < cnt.toInt → g i = some y → V y c b → V2 y c b) (hT : ∀ (i y : Nat) (c : Int) (b : Nat), (i : Int) < cnt.toInt → g i = some y → T y c b → T2 y c b) (hu : usc L f cpb V T op nm t cnt g c b) : usc L f2 cpb V2 T2 op nm t cnt g c b := by
  rcases hu with ⟨q, cf, kf, h3, h4⟩ | ⟨q, h1, h2, h0, c0, k0, h3, h4, h5, h6⟩ | ⟨q, h1, h0, c0, k0, h3, h4, h5, h6⟩ | ⟨q, c0, k0, c1, k1, b1, h1, h2, h3, h4, h5, h6, h7, h8⟩ | ⟨q, h0, c0, k0, c1, k1, b1, h1, h2, h3, h4, h5, h6, h7, h8⟩ | ⟨q, h1, h2⟩ | ⟨q, h1⟩ | ⟨q, h1, c0, k0, h3, h4, h5, h6⟩
  · exact Or.inl ⟨q, cf, kf, fun i hi => ⟨(h3 i hi).1, (h3 i hi).2.1, hT i _ _ _ hi (h3 i hi).1 (h3 i hi).2.2⟩, h4⟩
  · exact Or.inr (Or.inl ⟨q, h1, h2, h.nm h0, c0, k0, h3, hV 0 _ _ _ (by omega) h3 h4, h5, h6⟩)
  · exact Or.inr (Or.inr (Or.inl ⟨q, h1, h.nm h0, c0, k0, h3, hV 0 _ _ _ (by omega) h3 h4, h5, h6⟩))
  · refine Or.inr (Or.inr (Or.inr (Or.inl ⟨q, c0, k0, c1, k1, b1, h1, hV 0 _ _ _ (by omega) h1 h2, h3, h4, hT 1 _ _ _ (by omega) h4 h5, h6, h7, ?_⟩)))
    rcases h8 with ⟨z1, z2⟩ | ⟨z1, y, k2, z2, z3, z4, z5⟩
    · exact Or.inl ⟨z1, z2⟩
    · exact Or.inr ⟨z1, y, k2, z2, hT 2 _ _ _ (by omega) z2 z3, z4, z5⟩
  · exact Or.inr (Or.inr (Or.inr (Or.inr (Or.inl ⟨q, h0, c0, k0, c1, k1, b1, h1, hV 0 _ _ _ (by omega) h1 h2, h3, h4, hT 1 _ _ _ (by omega) h4 h5, h6, h7, h8⟩))))
  · exact Or.inr (Or.inr (Or.inr (Or.inr (Or.inr (Or.inl ⟨q, h1, h2⟩)))))
  · refine Or.inr (Or.inr (Or.inr (Or.inr (Or.inr (Or.inr (Or.inl ⟨q, ?_⟩))))))
    rcases h1 with ⟨z1, z2⟩ | ⟨z1, y, k2, z2, z3, z4, z5⟩
    · exact Or.inl ⟨z1, z2⟩
    · exact Or.inr ⟨z1, y, k2, z2, hV 0 _ _ _ (by omega) z2 z3, z4, z5⟩
  · exact Or.inr (Or.inr (Or.inr (Or.inr (Or.inr (Or.inr (Or.inr ⟨q, h1, c0, k0, h3, hV 0 _ _ _ (by omega) h3 h4, h5, h6⟩))))))
theorem us_kp (h : kp cpn cpb K f f2) : ∀ (d : Nat) {e a : Nat} {c : Int} {b : Nat} {K1 : Nat → Prop}, (∀ x, K1 x → ¬ K x) → fp L f cpn e a K1 → us L f cpn cpb d a c b → us L f2 cpn cpb d a c b
  | 0, _, _, _, _, _, _, _, hu => hu.elim
  | d + 1, e, a, c, b, K1, hk, hf, hu => by
    obtain ⟨op, pl, nm, v, t, p, n, cnt, ix, gl, hq9r⟩ := hu
    obtain ⟨g, h1, h2, h3, h4, h5, h6⟩ := hq9r
    obtain ⟨ka, Kf, k1, k2, k3⟩ := fp_kds hf h2 h3
    refine ⟨op, pl, nm, v, t, p, n, cnt, ix, gl, g, h1, h.1 a _ (hk a ka) h2, h.aP h3, h4, h5, usc.kid h (fun i y c b hi hy q => ?_) (fun i y c b hi hy q => ?_) h6⟩
    · obtain ⟨z, e1, z1, z2⟩ := k1 i hi
      rw [hy] at z1
      injection z1 with z1
      subst z1
      obtain ⟨d1, q1, q2⟩ := q
      exact ⟨d1, q1, uv_kp h d1 (fun x hx => hk x (k2 i x hi hx).1) z2 q2⟩
    · obtain ⟨z, e1, z1, z2⟩ := k1 i hi
      rw [hy] at z1
      injection z1 with z1
      subst z1
      exact us_kp h d (fun x hx => hk x (k2 i x hi hx).1) z2 q
theorem tsc.kid {V V2 : Nat → Int32 → Int → Nat → Prop} {T T2 : Bool → Nat → Int → Nat → Prop} {il : Bool} {op cnt ix gl : Int32} {g : Nat → Option Nat} {c : Int} {b : Nat} (hN : N ≤ N2) (hV : ∀ (i y : Nat) (t : Int32) (c : Int) (b : Nat), (i : Int) < cnt.toInt → g i = some y → V y t c b → V2 y t c b) (hT : ∀ (i y : Nat) (l : Bool) (c : Int) (b : Nat), (i : Int) < cnt.toInt → g i = some y → T l y c b → T2 l y c b) (h : tsc N gc gg V T il op cnt ix gl g c b) : tsc N2 gc gg V2 T2 il op cnt ix gl g c b := by
  rcases h with ⟨q, cf, kf, h1, h2⟩ | ⟨q1, q2, q3, q4, c0, t0, k0, q5, q6, q7, q8⟩ | ⟨q1, q2, c0, t0, k0, c1, k1, b1, q3, q4, q5, q6, q7, q8, q9, q10, q11⟩ | ⟨q1, q2, c0, t0, k0, c1, k1, b1, q3, q4, q5, q6, q7, q8, q9⟩ | h | ⟨q1, q2⟩ | ⟨q1, q2, c0, t0, k0, q3, q4, q5, q6⟩
  · exact Or.inl ⟨q, cf, kf, fun i hi => ⟨(h1 i hi).1, (h1 i hi).2.1, hT i _ _ _ _ hi (h1 i hi).1 (h1 i hi).2.2⟩, h2⟩
  · exact Or.inr (Or.inl ⟨q1, q2, q3, by omega, c0, t0, k0, q5, q6, hV 0 _ _ _ _ (by omega) q5 q7, q8⟩)
  · refine Or.inr (Or.inr (Or.inl ⟨q1, q2, c0, t0, k0, c1, k1, b1, q3, q4, hV 0 _ _ _ _ (by omega) q3 q5, q6, q7, hT 1 _ _ _ _ (by omega) q7 q8, q9, q10, ?_⟩))
    rcases q11 with w | ⟨w1, c2, k2, w2, w3, w4⟩
    · exact Or.inl w
    · exact Or.inr ⟨w1, c2, k2, w2, hT 2 _ _ _ _ (by omega) w2 w3, w4⟩
  · exact Or.inr (Or.inr (Or.inr (Or.inl ⟨q1, q2, c0, t0, k0, c1, k1, b1, q3, q4, hV 0 _ _ _ _ (by omega) q3 q5, q6, q7, hT 1 _ _ _ _ (by omega) q7 q8, q9⟩)))
  · exact Or.inr (Or.inr (Or.inr (Or.inr (Or.inl h))))
  · refine Or.inr (Or.inr (Or.inr (Or.inr (Or.inr (Or.inl ⟨q1, ?_⟩)))))
    rcases q2 with w | ⟨w1, c0, t0, k0, w2, w3, w4, w5⟩
    · exact Or.inl w
    · exact Or.inr ⟨w1, c0, t0, k0, w2, w3, hV 0 _ _ _ _ (by omega) w2 w4, w5⟩
  · exact Or.inr (Or.inr (Or.inr (Or.inr (Or.inr (Or.inr ⟨q1, q2, c0, t0, k0, q3, q4, hV 0 _ _ _ _ (by omega) q3 q5, q6⟩)))))
theorem ts_kp (h : kp cpn cpb K f f2) (hN : N ≤ N2) : ∀ (d : Nat) {e a : Nat} {il : Bool} {c : Int} {b : Nat} {K1 : Nat → Prop}, (∀ x, K1 x → ¬ K x) → fp L f cpn e a K1 → ts L f cpn cpb N fc gc gv tk gg d il a c b → ts L f2 cpn cpb N2 fc gc gv tk gg d il a c b
  | 0, _, _, _, _, _, _, _, _, hu => hu.elim
  | d + 1, e, a, il, c, b, K1, hk, hf, hu => by
    obtain ⟨op, pl, nm, v, t, p, n, cnt, ix, gl, hq9r⟩ := hu
    obtain ⟨g, h1, h2, h3, h4, h6⟩ := hq9r
    obtain ⟨ka, Kf, k1, k2, k3⟩ := fp_kds hf h2 h3
    refine ⟨op, pl, nm, v, t, p, n, cnt, ix, gl, g, h1, h.1 a _ (hk a ka) h2, h.aP h3, h4, tsc.kid hN (fun i y t c b hi hy q => ?_) (fun i y l c b hi hy q => ?_) h6⟩
    · obtain ⟨z, e1, z1, z2⟩ := k1 i hi
      rw [hy] at z1
      injection z1 with z1
      subst z1
      obtain ⟨d1, q1, q2⟩ := q
      exact ⟨d1, q1, tv_kp h hN d1 (fun x hx => hk x (k2 i x hi hx).1) z2 q2⟩
    · obtain ⟨z, e1, z1, z2⟩ := k1 i hi
      rw [hy] at z1
      injection z1 with z1
      subst z1
      exact ts_kp h hN d (fun x hx => hk x (k2 i x hi hx).1) z2 q
end TV
end CHG
