/-! the reference: what the parser makes -/
def tr_r {S : Type} (pr : Nat → S → Prop) (a : Nat) (C : String) (pt : S → Prop) : Outcome → S → State → Prop := fun o u t => match o with | .returned v => (∃ r : Nat, v = some (.ref r) ∧ pr r u) | .threw x => pt u ∧ x = a ∧ xo C x t t.heap
section TRR
variable {p : Program} {l : Launch} {e : Env} {R : Room} {s : State} {m : MethodId} {args : Array Value} {below : List Frame} {meth : Method} {c : Code} {H : Heap} {locs : List Loc} {cells slots mr sr mt st : Nat}
variable {A0 A1 : Nat → Prop} {H0 : Heap} {pc : Nat} {ls : Array Slot} {st0 rest : List Value} {a : Array Value} {Q : State → Prop} {free : Addr → Prop} {C : String} {S : Type} {B : S → State → Prop} {pt : S → Prop} {rx : Nat}
theorem tr_callr {pr : Nat → S → Prop} (hr : tz_Run p l e R s m args below meth c H locs cells slots (tz_k mr sr mt st) (F0 m pc ls st0) rest (tq_Q (tr_r pr rx C pt) B A1 a) free) (hS : va_S A0 H0 H locs) (hA : ∀ q, q < H.size → A1 q → A0 q) (hf : ∀ q, free q → A0 q)
    (kr : ∀ (r : Nat) (u : S) (t : State) (H1 : Heap) (locs1 : List Loc), t.heap = H1 → s.vm.Alike t.vm → pr r u → B u t → H.size ≤ H1.size → (∀ q : Nat, q < H.size → ¬ A1 q → H1[q]? = H[q]?) → va_S A0 H0 H1 locs1 → W p l e R s m args below meth c H1 locs1 (cells + mr) (slots + sr) Q (F0 m (pc + 3) ls (.ref r :: rest)))
    (kt : ∀ (x : Addr) (u : S) (t : State) (H1 : Heap) (locs1 : List Loc), t.heap = H1 → s.vm.Alike t.vm → pt u → (x = rx ∧ xo C x s H1) → B u t → H.size ≤ H1.size → (∀ q : Nat, q < H.size → ¬ A1 q → H1[q]? = H[q]?) → va_S A0 H0 H1 locs1 → tx_T p l e R s m args below meth c H1 locs1 (cells + mt) (slots + st) Q (F0 m pc ls rest) x) :
    W p l e R s m args below meth c H locs cells slots Q (F0 m pc ls st0) :=
  tq_core hr hS hA hf (fun v u t H1 locs1 h1 h2 h3 h4 h5 h6 h7 => by obtain ⟨r, rfl, h3⟩ := h3; exact kr r u t H1 locs1 h1 h2 h3 h4 h5 h6 h7)
    (fun x u t H1 locs1 h1 h2 h3 h4 h5 h6 h7 => kt x u t H1 locs1 h1 h2 h3.1 ⟨h3.2.1, by rw [← h1]; exact h3.2.2.back h2⟩ h4 h5 h6 h7)
end TRR
section PEX
variable {L L2 : List Nat} {f f2 : Nat → va_E} {cpn cpb : ClassId}
theorem strP_pex {s : Nat} {nb : List Int32} (h : pex L f L2 f2) (hs : strP L f cpb s nb) : strP L2 f2 cpb s nb := by
  obtain ⟨h1, v, y, z, g, h2, h3, h4, h5⟩ := hs
  exact ⟨(h s h1).1, v, y, z, g, by rw [(h s h1).2]; exact h2, (h v h3).1, by rw [(h v h3).2]; exact h4, h5⟩
theorem nP_pex {a : Nat} {op pl : Int32} {nm : Value} {v : Int64} {t : Int32} {p : Nat} {cnt ix gl : Int32} (h : pex L f L2 f2) (ha : a ∈ L) (hn : nP f a op pl nm v t p cnt ix gl) : nP f2 a op pl nm v t p cnt ix gl := by
  unfold nP at hn ⊢
  rw [(h a ha).2]
  exact hn
theorem aP_pex {p n : Nat} {g : Nat → Option Nat} (h : pex L f L2 f2) (ha : aP L f cpn p n g) : aP L2 f2 cpn p n g := ⟨(h p ha.1).1, by rw [(h p ha.1).2]; exact ha.2⟩
end PEX
/-- a name in the pool -/
def nmP (L : List Nat) (f : Nat → va_E) (cpb : ClassId) (nm : Value) : Prop := ∃ (sr : Nat) (nb : List Int32), nm = .ref sr ∧ strP L f cpb sr nb ∧ ns9 nb ∧ nb.length ≤ 20
theorem nmP_pex {L L2 : List Nat} {f f2 : Nat → va_E} {cpb : ClassId} {nm : Value} (h : pex L f L2 f2) (hs : nmP L f cpb nm) : nmP L2 f2 cpb nm := by
  obtain ⟨s, nb, e, h1, h2⟩ := hs
  exact ⟨s, nb, e, strP_pex h h1, h2⟩
/-- what a node of a value may be before it has types -/
def uvc (L : List Nat) (f : Nat → va_E) (cpb : ClassId) (T : Nat → Int → Nat → Prop) (op : Int32) (nm : Value) (v : Int64) (t cnt : Int32) (g : Nat → Option Nat) (c : Int) (b : Nat) : Prop :=
  (op.toInt = 0 ∧ ((t.toInt = 127 ∧ in32 v) ∨ t.toInt = 126) ∧ 8 ≤ c ∧ 5 * (1 + ((sleb 10 v.toInt).length : Int)) ≤ c) ∨
  (op.toInt = 1 ∧ nmP L f cpb nm ∧ 10 ≤ c) ∨
  (op.toInt = 2 ∧ nmP L f cpb nm ∧ cnt.toInt ≤ 8 ∧ ∃ (cf : Nat → Nat) (kf : Nat → Int), (∀ i : Nat, (i : Int) < cnt.toInt → g i = some (cf i) ∧ 0 ≤ kf i ∧ T (cf i) (kf i) b) ∧ ksum kf cnt.toInt.toNat + 15 ≤ c) ∨
  (op.toInt = 3 ∧ (v.toInt = 126 ∨ v.toInt = 127) ∧ cnt.toInt = 1 ∧ ∃ (c0 : Nat) (k0 : Int), g 0 = some c0 ∧ T c0 k0 b ∧ 0 ≤ k0 ∧ k0 + 8 ≤ c) ∨
  (op.toInt = 5 ∧ cnt.toInt = 1 ∧ ∃ (c0 : Nat) (k0 : Int), g 0 = some c0 ∧ T c0 k0 b ∧ 0 ≤ k0 ∧ k0 + 16 ≤ c) ∨
  (op.toInt = 4 ∧ cnt.toInt = 2 ∧ ∃ (c0 c1 : Nat) (k0 k1 : Int) (b1 sr : Nat) (nb : List Int32), g 0 = some c0 ∧ g 1 = some c1 ∧ T c0 k0 b ∧ T c1 k1 b1 ∧ b1 + lg9 nb ≤ b ∧ 0 ≤ k0 ∧ 0 ≤ k1 ∧ nm = .ref sr ∧ strP L f cpb sr nb ∧ k0 + k1 + ocost nb ≤ c ∧ nb.length ≤ 3)
/-- a value's tree before it has types: depth, root, cost, ifs within ifs -/
def uv (L : List Nat) (f : Nat → va_E) (cpn cpb : ClassId) : Nat → Nat → Int → Nat → Prop
  | 0, _, _, _ => False
  | d + 1, a, c, b => ∃ (op pl : Int32) (nm : Value) (v : Int64) (t : Int32) (p n : Nat) (cnt ix gl : Int32) (g : Nat → Option Nat), a ∈ L ∧ nP f a op pl nm v t p cnt ix gl ∧ aP L f cpn p n g ∧ (0 ≤ cnt.toInt ∧ cnt.toInt ≤ (n : Int) ∧ n < 100000) ∧ gl.toInt = 0 ∧ uvc L f cpb (uv L f cpn cpb d) op nm v t cnt g c b
/-- what a statement's node may be before it has types -/
def usc (L : List Nat) (f : Nat → va_E) (cpb : ClassId) (V T : Nat → Int → Nat → Prop) (op : Int32) (nm : Value) (t cnt : Int32) (g : Nat → Option Nat) (c : Int) (b : Nat) : Prop :=
  (op.toInt = 18 ∧ ∃ (cf : Nat → Nat) (kf : Nat → Int), (∀ i : Nat, (i : Int) < cnt.toInt → g i = some (cf i) ∧ 0 ≤ kf i ∧ T (cf i) (kf i) b) ∧ ksum kf cnt.toInt.toNat ≤ c) ∨
  (op.toInt = 10 ∧ cnt.toInt = 1 ∧ t27 t.toInt ∧ nmP L f cpb nm ∧ ∃ (c0 : Nat) (k0 : Int), g 0 = some c0 ∧ V c0 k0 b ∧ 0 ≤ k0 ∧ k0 + 10 ≤ c) ∨
  (op.toInt = 11 ∧ cnt.toInt = 1 ∧ nmP L f cpb nm ∧ ∃ (c0 : Nat) (k0 : Int), g 0 = some c0 ∧ V c0 k0 b ∧ 0 ≤ k0 ∧ k0 + 10 ≤ c) ∨
  (op.toInt = 12 ∧ ∃ (c0 : Nat) (k0 : Int) (c1 : Nat) (k1 : Int) (b1 : Nat), g 0 = some c0 ∧ V c0 k0 b ∧ 0 ≤ k0 ∧ g 1 = some c1 ∧ T c1 k1 b1 ∧ 0 ≤ k1 ∧ b1 + 1 ≤ b ∧ ((cnt.toInt = 2 ∧ k0 + k1 + 16 ≤ c) ∨ (cnt.toInt = 3 ∧ ∃ (c2 : Nat) (k2 : Int), g 2 = some c2 ∧ T c2 k2 b1 ∧ 0 ≤ k2 ∧ k0 + k1 + k2 + 24 ≤ c))) ∨
  (op.toInt = 13 ∧ cnt.toInt = 2 ∧ ∃ (c0 : Nat) (k0 : Int) (c1 : Nat) (k1 : Int) (b1 : Nat), g 0 = some c0 ∧ V c0 k0 b1 ∧ 0 ≤ k0 ∧ g 1 = some c1 ∧ T c1 k1 b1 ∧ 0 ≤ k1 ∧ b1 + 2 ≤ b ∧ k0 + k1 + 56 ≤ c) ∨
  ((op.toInt = 14 ∨ op.toInt = 15) ∧ cnt.toInt = 0 ∧ 10 ≤ c) ∨
  (op.toInt = 16 ∧ ((cnt.toInt = 0 ∧ 8 ≤ c) ∨ (cnt.toInt = 1 ∧ ∃ (c0 : Nat) (k0 : Int), g 0 = some c0 ∧ V c0 k0 b ∧ 0 ≤ k0 ∧ k0 + 8 ≤ c))) ∨
  (op.toInt = 17 ∧ cnt.toInt = 1 ∧ ∃ (c0 : Nat) (k0 : Int), g 0 = some c0 ∧ V c0 k0 b ∧ 0 ≤ k0 ∧ k0 + 10 ≤ c)
def us (L : List Nat) (f : Nat → va_E) (cpn cpb : ClassId) : Nat → Nat → Int → Nat → Prop
  | 0, _, _, _ => False
  | d + 1, a, c, b => ∃ (op pl : Int32) (nm : Value) (v : Int64) (t : Int32) (p n : Nat) (cnt ix gl : Int32) (g : Nat → Option Nat), a ∈ L ∧ nP f a op pl nm v t p cnt ix gl ∧ aP L f cpn p n g ∧ (0 ≤ cnt.toInt ∧ cnt.toInt ≤ (n : Int) ∧ n < 100000) ∧ gl.toInt = 0 ∧ usc L f cpb (fun a c b => ∃ e, e ≤ d ∧ uv L f cpn cpb e a c b) (us L f cpn cpb d) op nm t cnt g c b
/-- whose nodes are a tree's: K; no two parts share one -/
def fp (L : List Nat) (f : Nat → va_E) (cpn : ClassId) : Nat → Nat → (Nat → Prop) → Prop
  | 0, _, _ => False
  | d + 1, a, K => ∃ (op pl : Int32) (nm : Value) (v : Int64) (t : Int32) (p n : Nat) (cnt ix gl : Int32) (g : Nat → Option Nat) (Kf : Nat → Nat → Prop), a ∈ L ∧ nP f a op pl nm v t p cnt ix gl ∧ aP L f cpn p n g ∧ K a ∧
    (∀ i : Nat, (i : Int) < cnt.toInt → ∃ y, g i = some y ∧ fp L f cpn d y (Kf i)) ∧ (∀ (i x : Nat), (i : Int) < cnt.toInt → Kf i x → K x ∧ x ≠ a) ∧ ∀ (i j x : Nat), (i : Int) < cnt.toInt → (j : Int) < cnt.toInt → Kf i x → Kf j x → i = j
theorem uvc.mono {L L2 : List Nat} {f f2 : Nat → va_E} {cpb : ClassId} {T T2 : Nat → Int → Nat → Prop} {op : Int32} {nm : Value} {v : Int64} {t cnt : Int32} {g : Nat → Option Nat} {c c2 : Int} {b b2 : Nat} (h : pex L f L2 f2) (hT : ∀ a c b e, b ≤ e → T a c b → T2 a c e) (hc : c ≤ c2) (hb : b ≤ b2) (hu : uvc L f cpb T op nm v t cnt g c b) : uvc L2 f2 cpb T2 op nm v t cnt g c2 b2 := by
  rcases hu with ⟨q, h1, h2, h3⟩ | ⟨q, h1, h2⟩ | ⟨q, h1, h2, cf, kf, h3, h4⟩ | ⟨q, h1, h2, c0, k0, h3, h4, h5, h6⟩ | ⟨q, h1, c0, k0, h3, h4, h5, h6⟩ | ⟨q, h1, c0, c1, k0, k1, b1, sr, nb, h3, h4, h5, h6, h7, h8, h9, h10, h11, h12, h13⟩
  · exact Or.inl ⟨q, h1, by omega, by omega⟩
  · exact Or.inr (Or.inl ⟨q, nmP_pex h h1, by omega⟩)
  · exact Or.inr (Or.inr (Or.inl ⟨q, nmP_pex h h1, h2, cf, kf, fun i hi => ⟨(h3 i hi).1, (h3 i hi).2.1, hT _ _ _ _ hb (h3 i hi).2.2⟩, by omega⟩))
  · exact Or.inr (Or.inr (Or.inr (Or.inl ⟨q, h1, h2, c0, k0, h3, hT _ _ _ _ hb h4, h5, by omega⟩)))
  · exact Or.inr (Or.inr (Or.inr (Or.inr (Or.inl ⟨q, h1, c0, k0, h3, hT _ _ _ _ hb h4, h5, by omega⟩))))
  · exact Or.inr (Or.inr (Or.inr (Or.inr (Or.inr ⟨q, h1, c0, c1, k0, k1, b1, sr, nb, h3, h4, hT _ _ _ _ hb h5, hT _ _ _ _ (Nat.le_refl _) h6, by omega, h8, h9, h10, strP_pex h h11, by omega, h13⟩))))
theorem uv_mono {L L2 : List Nat} {f f2 : Nat → va_E} {cpn cpb : ClassId} (h : pex L f L2 f2) : ∀ (d d2 : Nat) {a : Nat} {c c2 : Int} {b b2 : Nat}, d ≤ d2 → c ≤ c2 → b ≤ b2 → uv L f cpn cpb d a c b → uv L2 f2 cpn cpb d2 a c2 b2
  | 0, _, _, _, _, _, _, _, _, _, hu => hu.elim
  | d + 1, d2, a, c, c2, b, b2, hd, hc, hb, hu => by
    obtain ⟨op, pl, nm, v, t, p, n, cnt, ix, gl, hq9r⟩ := hu
    obtain ⟨g, h1, h2, h3, h4, h5, h6⟩ := hq9r
    cases d2 with
    | zero => omega
    | succ d2 => exact ⟨op, pl, nm, v, t, p, n, cnt, ix, gl, g, (h a h1).1, nP_pex h h1 h2, aP_pex h h3, h4, h5, uvc.mono h (fun a c b e hbe q => uv_mono h d d2 (by omega) (Int.le_refl _) hbe q) hc hb h6⟩
theorem usc.mono {L L2 : List Nat} {f f2 : Nat → va_E} {cpb : ClassId} {V V2 T T2 : Nat → Int → Nat → Prop} {op : Int32} {nm : Value} {t cnt : Int32} {g : Nat → Option Nat} {c c2 : Int} {b b2 : Nat} (h : pex L f L2 f2) (hV : ∀ a c b e, b ≤ e → V a c b → V2 a c e) (hT : ∀ a c b e, b ≤ e → T a c b → T2 a c e) (hc : c ≤ c2) (hb : b ≤ b2) (hu : usc L f cpb V T op nm t cnt g c b) : usc L2 f2 cpb V2 T2 op nm t cnt g c2 b2 := by
  rcases hu with ⟨q, cf, kf, h3, h4⟩ | ⟨q, h1, h2, h0, c0, k0, h3, h4, h5, h6⟩ | ⟨q, h1, h0, c0, k0, h3, h4, h5, h6⟩ | ⟨q, c0, k0, c1, k1, b1, h1, h2, h3, h4, h5, h6, h7, h8⟩ | ⟨q, h0, c0, k0, c1, k1, b1, h1, h2, h3, h4, h5, h6, h7, h8⟩ | ⟨q, h1, h2⟩ | ⟨q, h1⟩ | ⟨q, h1, c0, k0, h3, h4, h5, h6⟩
  · exact Or.inl ⟨q, cf, kf, fun i hi => ⟨(h3 i hi).1, (h3 i hi).2.1, hT _ _ _ _ hb (h3 i hi).2.2⟩, by omega⟩
  · exact Or.inr (Or.inl ⟨q, h1, h2, nmP_pex h h0, c0, k0, h3, hV _ _ _ _ hb h4, h5, by omega⟩)
  · exact Or.inr (Or.inr (Or.inl ⟨q, h1, nmP_pex h h0, c0, k0, h3, hV _ _ _ _ hb h4, h5, by omega⟩))
  · refine Or.inr (Or.inr (Or.inr (Or.inl ⟨q, c0, k0, c1, k1, b1, h1, hV _ _ _ _ hb h2, h3, h4, hT _ _ _ _ (Nat.le_refl _) h5, h6, by omega, ?_⟩)))
    rcases h8 with ⟨z1, z2⟩ | ⟨z1, y, k2, z2, z3, z4, z5⟩
    · exact Or.inl ⟨z1, by omega⟩
    · exact Or.inr ⟨z1, y, k2, z2, hT _ _ _ _ (Nat.le_refl _) z3, z4, by omega⟩
  · exact Or.inr (Or.inr (Or.inr (Or.inr (Or.inl ⟨q, h0, c0, k0, c1, k1, b1, h1, hV _ _ _ _ (Nat.le_refl _) h2, h3, h4, hT _ _ _ _ (Nat.le_refl _) h5, h6, by omega, by omega⟩))))
  · exact Or.inr (Or.inr (Or.inr (Or.inr (Or.inr (Or.inl ⟨q, h1, by omega⟩)))))
  · refine Or.inr (Or.inr (Or.inr (Or.inr (Or.inr (Or.inr (Or.inl ⟨q, ?_⟩))))))
    rcases h1 with ⟨z1, z2⟩ | ⟨z1, y, k2, z2, z3, z4, z5⟩
    · exact Or.inl ⟨z1, by omega⟩
    · exact Or.inr ⟨z1, y, k2, z2, hV _ _ _ _ hb z3, z4, by omega⟩
  · exact Or.inr (Or.inr (Or.inr (Or.inr (Or.inr (Or.inr (Or.inr ⟨q, h1, c0, k0, h3, hV _ _ _ _ hb h4, h5, by omega⟩))))))
theorem us_mono {L L2 : List Nat} {f f2 : Nat → va_E} {cpn cpb : ClassId} (h : pex L f L2 f2) : ∀ (d d2 : Nat) {a : Nat} {c c2 : Int} {b b2 : Nat}, d ≤ d2 → c ≤ c2 → b ≤ b2 → us L f cpn cpb d a c b → us L2 f2 cpn cpb d2 a c2 b2
  | 0, _, _, _, _, _, _, _, _, _, hu => hu.elim
  | d + 1, d2, a, c, c2, b, b2, hd, hc, hb, hu => by
    obtain ⟨op, pl, nm, v, t, p, n, cnt, ix, gl, hq9r⟩ := hu
    obtain ⟨g, h1, h2, h3, h4, h5, h6⟩ := hq9r
    cases d2 with
    | zero => omega
    | succ d2 => exact ⟨op, pl, nm, v, t, p, n, cnt, ix, gl, g, (h a h1).1, nP_pex h h1 h2, aP_pex h h3, h4, h5, usc.mono h (fun a c b e hbe ⟨z, z1, z2⟩ => ⟨z, by omega, uv_mono h z z (Nat.le_refl _) (Int.le_refl _) hbe z2⟩) (fun a c b e hbe q => us_mono h d d2 (by omega) (Int.le_refl _) hbe q) hc hb h6⟩
theorem fp_mono {L L2 : List Nat} {f f2 : Nat → va_E} {cpn : ClassId} (h : pex L f L2 f2) : ∀ (d d2 : Nat) {a : Nat} {K K2 : Nat → Prop}, d ≤ d2 → (∀ x, K x → K2 x) → fp L f cpn d a K → fp L2 f2 cpn d2 a K2
  | 0, _, _, _, _, _, _, hu => hu.elim
  | d + 1, d2, a, K, K2, hd, hk, hu => by
    obtain ⟨op, pl, nm, v, t, p, n, cnt, ix, gl, hq9r⟩ := hu
    obtain ⟨g, Kf, h1, h2, h3, h4, h5, h6, h7⟩ := hq9r
    cases d2 with
    | zero => omega
    | succ d2 =>
      refine ⟨op, pl, nm, v, t, p, n, cnt, ix, gl, g, Kf, (h a h1).1, nP_pex h h1 h2, aP_pex h h3, hk a h4, fun i hi => ?_, fun i x hi hx => ⟨hk x (h6 i x hi hx).1, (h6 i x hi hx).2⟩, h7⟩
      obtain ⟨y, y1, y2⟩ := h5 i hi
      exact ⟨y, y1, fp_mono h d d2 (by omega) (fun _ q => q) y2⟩
/-- the parts of a node that is being made -/
def kid (T : List Nat → (Nat → va_E) → Nat → Int → Prop) (cpn : ClassId) (L0 L : List Nat) (f : Nat → va_E) (d : Nat) (g : Nat → Option Nat) (n : Nat) (C : Int) : Prop := ∃ (cf : Nat → Nat) (kf : Nat → Int) (Kf : Nat → Nat → Prop), (∀ i : Nat, i < n → g i = some (cf i) ∧ 0 ≤ kf i ∧ T L f (cf i) (kf i) ∧ fp L f cpn d (cf i) (Kf i) ∧ ∀ x, Kf i x → x ∈ L ∧ x ∉ L0) ∧ (∀ (i j x : Nat), i < n → j < n → Kf i x → Kf j x → i = j) ∧ ksum kf n ≤ C
def nw9 (L0 L : List Nat) : Nat → Prop := fun x => x ∈ L ∧ x ∉ L0
theorem kid_0 {T : List Nat → (Nat → va_E) → Nat → Int → Prop} {cpn : ClassId} {L0 L : List Nat} {f : Nat → va_E} {d : Nat} {g : Nat → Option Nat} {C : Int} (hC : 0 ≤ C) : kid T cpn L0 L f d g 0 C := ⟨fun _ => 0, fun _ => 0, fun _ _ => False, fun i hi => absurd hi (Nat.not_lt_zero i), fun i j x hi => absurd hi (Nat.not_lt_zero i), hC⟩
theorem kid_pex {T T2 : List Nat → (Nat → va_E) → Nat → Int → Prop} {cpn : ClassId} {L0 L L2 : List Nat} {f f2 : Nat → va_E} {d d2 : Nat} {g g2 : Nat → Option Nat} {n : Nat} {C C2 : Int} (hd2 : d ≤ d2) (hT : ∀ a c, T L f a c → T2 L2 f2 a c) (hp : pex L f L2 f2) (hC : C ≤ C2) (hg : ∀ i, i < n → g2 i = g i) (h : kid T cpn L0 L f d g n C) : kid T2 cpn L0 L2 f2 d2 g2 n C2 := by
  obtain ⟨cf, kf, Kf, h1, h2, h3⟩ := h
  refine ⟨cf, kf, Kf, fun i hi => ?_, h2, Int.le_trans h3 hC⟩
  obtain ⟨a, b, c, e, q⟩ := h1 i hi
  exact ⟨by rw [hg i hi]; exact a, b, hT _ _ c, fp_mono hp d d2 hd2 (fun _ q => q) e, fun x hx => ⟨(hp x (q x hx).1).1, (q x hx).2⟩⟩
theorem ksum_cg {kf kf2 : Nat → Int} : ∀ {n : Nat}, (∀ i, i < n → kf2 i = kf i) → ksum kf2 n = ksum kf n
  | 0, _ => rfl
  | n + 1, h => by
    show ksum kf2 n + kf2 n = ksum kf n + kf n
    rw [ksum_cg (fun i hi => h i (by omega)), h n (by omega)]
theorem kid_s {T T2 : List Nat → (Nat → va_E) → Nat → Int → Prop} {cpn : ClassId} {L0 L L2 : List Nat} {f f2 : Nat → va_E} {d d1 d2 : Nat} {g g2 : Nat → Option Nat} {n y : Nat} {C C2 k : Int} (hd2 : d ≤ d2) (hT : ∀ a c, T L f a c → T2 L2 f2 a c) (hp : pex L f L2 f2) (h0 : ∀ x, x ∈ L0 → x ∈ L) (h : kid T cpn L0 L f d g n C) (hg : ∀ i, i < n → g2 i = g i) (hy : g2 n = some y) (hk : 0 ≤ k) (ht : T2 L2 f2 y k) (hd : d1 ≤ d2) (hf : fp L2 f2 cpn d1 y (nw9 L L2)) (hC : C + k ≤ C2) : kid T2 cpn L0 L2 f2 d2 g2 (n + 1) C2 := by
  obtain ⟨cf, kf, Kf, h1, h2, h3⟩ := h
  refine ⟨fun i => if i < n then cf i else y, fun i => if i < n then kf i else k, fun i => if i < n then Kf i else nw9 L L2, fun i hi => ?_, fun i j x hi hj hx hz => ?_, ?_⟩
  · by_cases q : i < n
    · obtain ⟨a, b, c, e, z⟩ := h1 i q
      dsimp only
      rw [if_pos q, if_pos q, if_pos q]
      exact ⟨by rw [hg i q]; exact a, b, hT _ _ c, fp_mono hp d d2 hd2 (fun _ q => q) e, fun x hx => ⟨(hp x (z x hx).1).1, (z x hx).2⟩⟩
    · have e : i = n := by omega
      subst e
      dsimp only
      rw [if_neg q, if_neg q, if_neg q]
      exact ⟨hy, hk, ht, fp_mono pex.rfl' d1 d2 hd (fun _ q => q) hf, fun x hx => ⟨hx.1, fun z => hx.2 (h0 x z)⟩⟩
  · dsimp only at hx hz
    by_cases q : i < n
    · rw [if_pos q] at hx
      by_cases q2 : j < n
      · rw [if_pos q2] at hz
        exact h2 i j x q q2 hx hz
      · rw [if_neg q2] at hz
        exact absurd (((h1 i q).2.2.2.2 x hx).1) hz.2
    · rw [if_neg q] at hx
      by_cases q2 : j < n
      · rw [if_pos q2] at hz
        exact absurd (((h1 j q2).2.2.2.2 x hz).1) hx.2
      · omega
  · show ksum _ n + (if n < n then kf n else k) ≤ C2
    rw [ksum_cg (kf := kf) (fun i hi => if_pos hi), if_neg (Nat.lt_irrefl n)]
    omega
/-- a node and its parts come into the pool -/
theorem node_in {L : List Nat} {f : Nat → va_E} {cpn : ClassId} {a p n : Nat} {g : Nat → Option Nat} {op pl : Int32} {nm : Value} {v : Int64} {t cnt ix gl : Int32} (h1 : p ∉ L) (h2 : a ∉ L ++ [p]) : (a ∈ (L ++ [p]) ++ [a] ∧ nP (va_up (va_up f p (.inl (cpn, n, .inr (.inr (.inr (.inr g)))))) a (.inr (13, [.int op, .int pl, nm, .long v, .int t, .ref p, .int cnt, .int ix, .int gl]))) a op pl nm v t p cnt ix gl ∧ aP ((L ++ [p]) ++ [a]) (va_up (va_up f p (.inl (cpn, n, .inr (.inr (.inr (.inr g)))))) a (.inr (13, [.int op, .int pl, nm, .long v, .int t, .ref p, .int cnt, .int ix, .int gl]))) cpn p n g) ∧ pex L f ((L ++ [p]) ++ [a]) (va_up (va_up f p (.inl (cpn, n, .inr (.inr (.inr (.inr g)))))) a (.inr (13, [.int op, .int pl, nm, .long v, .int t, .ref p, .int cnt, .int ix, .int gl]))) ∧ a ∉ L := by
  have hv : p ≠ a := fun q => h2 (q ▸ List.mem_append_right _ (List.mem_singleton.mpr rfl))
  refine ⟨⟨List.mem_append_right _ (List.mem_singleton.mpr rfl), va_up_self _ _ _, List.mem_append_left _ (List.mem_append_right _ (List.mem_singleton.mpr rfl)), ?_⟩, (pex_in h1).trans (pex_in h2), fun z => h2 (List.mem_append_left _ z)⟩
  rw [va_up_ne _ _ hv, va_up_self]
/-- what is told of a node that came into the pool -/
def nin9 (L0 L : List Nat) (f : Nat → va_E) (cpn : ClassId) (L2 : List Nat) (f2 : Nat → va_E) (a : Nat) (op pl : Int32) (nm : Value) (v : Int64) (t : Int32) (p n : Nat) (cnt ix gl : Int32) (g : Nat → Option Nat) : Prop := (a ∈ L2 ∧ nP f2 a op pl nm v t p cnt ix gl ∧ aP L2 f2 cpn p n g) ∧ pex L f L2 f2 ∧ a ∉ L ∧ ∀ x, x ∈ L0 → x ∈ L
theorem nin_fp {T : List Nat → (Nat → va_E) → Nat → Int → Prop} {L0 L L2 : List Nat} {f f2 : Nat → va_E} {cpn : ClassId} {a : Nat} {op pl : Int32} {nm : Value} {v : Int64} {t : Int32} {p n : Nat} {cnt ix gl : Int32} {g : Nat → Option Nat} {d k : Nat} {C : Int} (h : nin9 L0 L f cpn L2 f2 a op pl nm v t p n cnt ix gl g) (hk : kid T cpn L0 L f d g k C) (hc : cnt.toInt = (k : Int)) : fp L2 f2 cpn (d + 1) a (nw9 L0 L2) := by
  obtain ⟨⟨a1, a2, a3⟩, b, c, e⟩ := h
  obtain ⟨cf, kf, Kf, h1, h2, -⟩ := hk
  refine ⟨op, pl, nm, v, t, p, n, cnt, ix, gl, g, Kf, a1, a2, a3, ⟨a1, fun z => c (e a z)⟩, fun i hi => ?_, fun i x hi hx => ?_, fun i j x hi hj => h2 i j x (by omega) (by omega)⟩
  · obtain ⟨q1, q2, q3, q4, q5⟩ := h1 i (by omega)
    exact ⟨cf i, q1, fp_mono b d d (Nat.le_refl _) (fun _ q => q) q4⟩
  · have z := (h1 i (by omega)).2.2.2.2 x hx
    exact ⟨⟨(b x z.1).1, z.2⟩, fun q => c (q ▸ z.1)⟩
def isN (L : List Nat) (f : Nat → va_E) (a : Nat) : Prop := a ∈ L ∧ ∃ vs, f a = .inr (13, vs)
theorem uv_isN {L : List Nat} {f : Nat → va_E} {cpn cpb : ClassId} {d a : Nat} {c : Int} {b : Nat} (h : uv L f cpn cpb d a c b) : isN L f a := by
  cases d with
  | zero => exact h.elim
  | succ d =>
    obtain ⟨op, pl, nm, v, t, p, n, cnt, ix, gl, g, h1, h2, -⟩ := h
    exact ⟨h1, _, h2⟩
theorem us_isN {L : List Nat} {f : Nat → va_E} {cpn cpb : ClassId} {d a : Nat} {c : Int} {b : Nat} (h : us L f cpn cpb d a c b) : isN L f a := by
  cases d with
  | zero => exact h.elim
  | succ d =>
    obtain ⟨op, pl, nm, v, t, p, n, cnt, ix, gl, g, h1, h2, -⟩ := h
    exact ⟨h1, _, h2⟩
theorem isN_pex {L L2 : List Nat} {f f2 : Nat → va_E} {a : Nat} (h : pex L f L2 f2) (hn : isN L f a) : isN L2 f2 a := ⟨(h a hn.1).1, by obtain ⟨vs, e⟩ := hn.2; exact ⟨vs, by rw [(h a hn.1).2]; exact e⟩⟩
def fs9 (tp : Nat → Int32) (len t fr2 t2 : Int) : Prop := ∃ f9 t9, tk9 tp len t f9 t9 ∧ t9 ≤ t2 ∧ f9 ≤ fr2
/-- from one token to a later one: what was made of cells and slots -/
def adv9 (tp : Nat → Int32) (cpb : ClassId) (len : Int) (L : List Nat) (f : Nat → va_E) (fr t : Int) (L2 : List Nat) (f2 : Nat → va_E) (W : Value) (k fr2 t2 n : Int) (kc kn : Nat) (q1 q2 z1 z2 : Int) : Prop := lx9 tp len k fr2 t2 n ∧ lw9 L2 f2 cpb W k ∧ pex L f L2 f2 ∧ fs9 tp len t fr2 t2 ∧ t ≤ fr2 ∧ fr < t ∧ (kc : Int) + z1 ≤ q1 * (t2 - t) + 8 * (fr2 - fr) ∧ (kn : Int) + z2 ≤ q2 * (t2 - t) + 60 * (fr2 - fr)
theorem nxt_f {tp : Nat → Int32} {cpb : ClassId} {len t : Int} {L L2 : List Nat} {f f2 : Nat → va_E} {W : Value} {k fr t2 n : Int} {kc kn : Nat} (h : nxt9 tp cpb len L f t L2 f2 W k fr t2 n kc kn) : bx (lx9 tp len k fr t2 n) ∧ bx (lw9 L2 f2 cpb W k) ∧ bx (pex L f L2 f2) ∧ bx (fs9 tp len t fr t2) ∧ t ≤ fr ∧ fr ≤ t2 ∧ t2 ≤ len ∧ 0 ≤ k ∧ k ≤ 6 ∧ (k ≠ 0 → fr < t2) ∧ (kc : Int) ≤ 8 * (t2 - fr) ∧ (kn : Int) ≤ 80 * (t2 - fr) := by
  obtain ⟨a, b, c, d, e1, e2, e3⟩ := h
  have a9 := a
  obtain ⟨q1, q2, q3, q4, q5, q6, q7, -⟩ := a9
  exact ⟨a, d, c, ⟨fr, t2, e3, Int.le_refl _, Int.le_refl _⟩, b, q2, q3, q4, q5, q7, by omega, by omega⟩
theorem adv_f {tp : Nat → Int32} {cpb : ClassId} {len fr t : Int} {L L2 : List Nat} {f f2 : Nat → va_E} {W : Value} {k fr2 t2 n : Int} {kc kn : Nat} {qa qb z1 z2 : Int} (h : adv9 tp cpb len L f fr t L2 f2 W k fr2 t2 n kc kn qa qb z1 z2) : bx (lx9 tp len k fr2 t2 n) ∧ bx (lw9 L2 f2 cpb W k) ∧ bx (pex L f L2 f2) ∧ bx (fs9 tp len t fr2 t2) ∧ t ≤ fr2 ∧ fr2 ≤ t2 ∧ t2 ≤ len ∧ 0 ≤ k ∧ k ≤ 6 ∧ (k ≠ 0 → fr2 < t2) ∧ (kc : Int) + z1 ≤ qa * (t2 - t) + 8 * (fr2 - fr) ∧ (kn : Int) + z2 ≤ qb * (t2 - t) + 60 * (fr2 - fr) ∧ fr < t := by
  obtain ⟨a, b, c, d0, d, d2, e1, e2⟩ := h
  have a9 := a
  obtain ⟨q1, q2, q3, q4, q5, q6, q7, -⟩ := a9
  exact ⟨a, b, c, d0, d, q2, q3, q4, q5, q7, e1, e2, d2⟩
/-- what take tells -/
theorem tak_f {tp : Nat → Int32} {cpb : ClassId} {len : Int} {L L2 : List Nat} {f f2 : Nat → va_E} {W W2 : Value} {k fr t k2 fr2 t2 : Int32} {n n2 : Int64} {kc kn : Nat} {r : Int32} (hx : bx (lx9 tp len k.toInt fr.toInt t.toInt n.toInt)) (hw : bx (lw9 L f cpb W k.toInt)) (h : (r.toInt = 0 ∧ L2 = L ∧ f2 = f ∧ W2 = W ∧ k2 = k ∧ fr2 = fr ∧ t2 = t ∧ n2 = n ∧ kc = 0 ∧ kn = 0) ∨ (r.toInt = 1 ∧ fr.toInt < t.toInt ∧ nxt9 tp cpb len L f t.toInt L2 f2 W2 k2.toInt fr2.toInt t2.toInt n2.toInt kc kn)) :
    bx (lx9 tp len k2.toInt fr2.toInt t2.toInt n2.toInt) ∧ bx (lw9 L2 f2 cpb W2 k2.toInt) ∧ bx (pex L f L2 f2) ∧ bx (r.toInt = 1 → fs9 tp len t.toInt fr2.toInt t2.toInt) ∧ ((r.toInt = 0 ∧ fr2.toInt = fr.toInt ∧ t2.toInt = t.toInt ∧ k2.toInt = k.toInt) ∨ (r.toInt = 1 ∧ t.toInt ≤ fr2.toInt ∧ fr.toInt < t.toInt)) ∧ fr2.toInt ≤ t2.toInt ∧ t2.toInt ≤ len ∧ 0 ≤ k2.toInt ∧ k2.toInt ≤ 6 ∧ (k2.toInt ≠ 0 → fr2.toInt < t2.toInt) ∧ (kc : Int) ≤ 8 * (t2.toInt - t.toInt) ∧ (kn : Int) ≤ 80 * (t2.toInt - t.toInt) := by
  rcases h with ⟨h1, rfl, rfl, rfl, rfl, rfl, rfl, rfl, rfl, rfl⟩ | ⟨h1, h2, h3⟩
  · have a9 := hx.out
    obtain ⟨q1, q2, q3, q4, q5, q6, q7, -⟩ := a9
    exact ⟨hx, hw, pex.rfl', fun z => absurd z (by omega), Or.inl ⟨h1, rfl, rfl, rfl⟩, q2, q3, q4, q5, q7, by omega, by omega⟩
  · obtain ⟨a, b, c, d, e1, e2, e3, e4, e5, e6, e7, e8⟩ := nxt_f h3
    exact ⟨a, b, c, fun _ => d.out, Or.inr ⟨h1, e1, h2⟩, e2, e3, e4, e5, e6, by omega, by omega⟩
theorem lw_pex {L L2 : List Nat} {f f2 : Nat → va_E} {cpb : ClassId} {W : Value} {k : Int} (h : pex L f L2 f2) (hw : lw9 L f cpb W k) : lw9 L2 f2 cpb W k := fun q => by
  obtain ⟨w, g, e, s, z⟩ := hw q
  exact ⟨w, g, e, strP_pex h s, z⟩
theorem fs_le {tp : Nat → Int32} {len t fr2 t2 fr3 t3 : Int} (h : fs9 tp len t fr2 t2) (h1 : fr2 ≤ fr3) (h2 : t2 ≤ t3) : fs9 tp len t fr3 t3 := by
  obtain ⟨a, b, c, d, e⟩ := h
  exact ⟨a, b, c, by omega, by omega⟩
section NIN
variable {L0 L L2 Lb Lc Ld : List Nat} {f f2 : Nat → va_E} {cpn cpb : ClassId} {a : Nat} {op pl : Int32} {nm : Value} {v : Int64} {t : Int32} {p n : Nat} {cnt ix gl : Int32} {g : Nat → Option Nat} {d c0 c1 : Nat} {k0 k1 c : Int} {b b1 : Nat}
def TT9 : List Nat → (Nat → va_E) → Nat → Int → Prop := fun _ _ _ _ => True
theorem fp_0 (h : nin9 L0 L f cpn L2 f2 a op pl nm v t p n cnt ix gl g) (hc : cnt.toInt = 0) : fp L2 f2 cpn (d + 1) a (nw9 L0 L2) := nin_fp (T := TT9) (k := 0) (C := 0) h (kid_0 (Int.le_refl _)) (by omega)
theorem fp_1 (h : nin9 L0 L f cpn L2 f2 a op pl nm v t p n cnt ix gl g) (hc : cnt.toInt = 1) (hg : g 0 = some c0) (hf : fp L f cpn d c0 (nw9 Lb L)) (hb : ∀ x, x ∈ L0 → x ∈ Lb) : fp L2 f2 cpn (d + 1) a (nw9 L0 L2) := by
  obtain ⟨⟨a1, a2, a3⟩, b, c, e⟩ := h
  refine ⟨op, pl, nm, v, t, p, n, cnt, ix, gl, g, fun _ => nw9 Lb L, a1, a2, a3, ⟨a1, fun z => c (e a z)⟩, fun i hi => ?_, fun i x hi hx => ?_, fun i j x hi hj _ _ => by omega⟩
  · have e0 : i = 0 := by omega
    subst e0
    exact ⟨c0, hg, fp_mono b d d (Nat.le_refl _) (fun _ q => q) hf⟩
  · exact ⟨⟨(b x hx.1).1, fun z => hx.2 (hb x z)⟩, fun q => c (q ▸ hx.1)⟩
theorem fp_2 {d2 : Nat} {fc : Nat → va_E} (h : nin9 L0 L f cpn L2 f2 a op pl nm v t p n cnt ix gl g) (hc : cnt.toInt = 2) (hg : g 0 = some c0) (hg1 : g 1 = some c1) (hf : fp Lc fc cpn d c0 (nw9 Lb Lc)) (hb : ∀ x, x ∈ L0 → x ∈ Lb) (hp : pex Lc fc L f) (hf1 : fp L f cpn d c1 (nw9 Ld L)) (hbc : ∀ x, x ∈ Lc → x ∈ Ld) (hb0 : ∀ x, x ∈ L0 → x ∈ Ld) (hd : d ≤ d2) : fp L2 f2 cpn (d2 + 1) a (nw9 L0 L2) := by
  obtain ⟨⟨a1, a2, a3⟩, b, c, e⟩ := h
  refine ⟨op, pl, nm, v, t, p, n, cnt, ix, gl, g, fun i => if i = 0 then nw9 Lb Lc else nw9 Ld L, a1, a2, a3, ⟨a1, fun z => c (e a z)⟩, fun i hi => ?_, fun i x hi hx => ?_, fun i j x hi hj hx hy => ?_⟩
  · by_cases q : i = 0
    · subst q
      exact ⟨c0, hg, fp_mono (hp.trans b) d d2 hd (fun _ q => q) hf⟩
    · have e0 : i = 1 := by omega
      subst e0
      exact ⟨c1, hg1, fp_mono b d d2 hd (fun _ q => q) hf1⟩
  · dsimp only at hx
    by_cases q : i = 0
    · rw [if_pos q] at hx
      have z := (hp x hx.1).1
      exact ⟨⟨(b x z).1, fun y => hx.2 (hb x y)⟩, fun y => c (y ▸ z)⟩
    · rw [if_neg q] at hx
      exact ⟨⟨(b x hx.1).1, fun y => hx.2 (hb0 x y)⟩, fun y => c (y ▸ hx.1)⟩
  · dsimp only at hx hy
    by_cases q : i = 0
    · by_cases q2 : j = 0
      · omega
      · rw [if_pos q] at hx
        rw [if_neg q2] at hy
        exact absurd (hbc x hx.1) hy.2
    · by_cases q2 : j = 0
      · rw [if_neg q] at hx
        rw [if_pos q2] at hy
        exact absurd (hbc x hy.1) hx.2
      · omega
theorem uv_of (h : nin9 L0 L f cpn L2 f2 a op pl nm v t p n cnt ix gl g) (hn : 0 ≤ cnt.toInt ∧ cnt.toInt ≤ (n : Int) ∧ n < 100000) (hgl : gl.toInt = 0) (hu : uvc L2 f2 cpb (uv L2 f2 cpn cpb d) op nm v t cnt g c b) : uv L2 f2 cpn cpb (d + 1) a c b := ⟨op, pl, nm, v, t, p, n, cnt, ix, gl, g, h.1.1, h.1.2.1, h.1.2.2, hn, hgl, hu⟩
theorem us_of (h : nin9 L0 L f cpn L2 f2 a op pl nm v t p n cnt ix gl g) (hn : 0 ≤ cnt.toInt ∧ cnt.toInt ≤ (n : Int) ∧ n < 100000) (hgl : gl.toInt = 0) (hu : usc L2 f2 cpb (fun a c b => ∃ e, e ≤ d ∧ uv L2 f2 cpn cpb e a c b) (us L2 f2 cpn cpb d) op nm t cnt g c b) : us L2 f2 cpn cpb (d + 1) a c b := ⟨op, pl, nm, v, t, p, n, cnt, ix, gl, g, h.1.1, h.1.2.1, h.1.2.2, hn, hgl, hu⟩
end NIN
