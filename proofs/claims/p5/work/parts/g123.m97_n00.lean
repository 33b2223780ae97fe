section q_m97
/-! the reference: what the parser makes -/
def tr_r {S : Type} (pr : Nat → S → Prop) (a : Nat) (C : String) (pt : S → Prop) : Outcome → S → State → Prop := fun o u t => match o with | .returned v => (∃ r : Nat, v = some (.ref r) ∧ pr r u) | .threw x => pt u ∧ x = a ∧ xo C x t t.heap
section TRR
variable {p : Program} {l : Launch} {e : Env} {R : Room} {s : State} {m : MethodId} {args : Array Value} {below : List Frame} {meth : Method} {c : Code} {H : Heap} {locs : List Loc} {cells slots mr sr mt st : Nat}
variable {A0 A1 : Nat → Prop} {H0 : Heap} {pc : Nat} {ls : Array Slot} {st0 rest : List Value} {a : Array Value} {Q : State → Prop} {free : Addr → Prop} {C : String} {S : Type} {B : S → State → Prop} {pt : S → Prop} {rx : Nat}
theorem tr_callr {pr : Nat → S → Prop} (hr : tz_Run p l e R s m args below meth c H locs cells slots (tz_k mr sr mt st) (F0 m pc ls st0) rest (tq_Q (tr_r pr rx C pt) B A1 a) free) (hS : va_S A0 H0 H locs) (hA : ∀ q, q < H.size → A1 q → A0 q) (hf : ∀ q, free q → A0 q)
    (kr : ∀ (r : Nat) (u : S) (t : State) (H1 : Heap) (locs1 : List Loc), t.heap = H1 → s.vm.Alike t.vm → pr r u → B u t → H.size ≤ H1.size → (∀ q : Nat, q < H.size → ¬ A1 q → H1[q]? = H[q]?) → va_S A0 H0 H1 locs1 → W p l e R s m args below meth c H1 locs1 (cells + mr) (slots + sr) Q (F0 m (pc + 3) ls (.ref r :: rest)))
    (kt : ∀ (x : Addr) (u : S) (t : State) (H1 : Heap) (locs1 : List Loc), t.heap = H1 → s.vm.Alike t.vm → pt u → (x = rx ∧ xo C x s H1) → B u t → H.size ≤ H1.size → (∀ q : Nat, q < H.size → ¬ A1 q → H1[q]? = H[q]?) → va_S A0 H0 H1 locs1 → tx_T p l e R s m args below meth c H1 locs1 (cells + mt) (slots + st) Q (F0 m pc ls rest) x) :
    W p l e R s m args below meth c H locs cells slots Q (F0 m pc ls st0) :=
  tq_core hr hS hA hf (fun v u t H1 locs1 h1 h2 h3 h4 h5 h6 h7 => by obtain ⟨r, rfl, h3⟩ := h3; exact kr r u t H1 locs1 h1 h2 h3 h4 h5 h6 h7)
    (fun x u t H1 locs1 h1 h2 h3 h4 h5 h6 h7 => kt x u t H1 locs1 h1 h2 h3.1 ⟨h3.2.1, by rw [← h1]; exact h3.2.2.back h2⟩ h4 h5 h6 h7)
end TRR
section PEX
variable {L L2 : List Nat} {f f2 : Nat → va_E} {cpn cpb : ClassId}
theorem strP_pex {s : Nat} {nb : List Int32} (h : pex L f L2 f2) (hs : strP L f cpb s nb) : strP L2 f2 cpb s nb := by
  obtain ⟨h1, v, y, z, g, h2, h3, h4, h5⟩ := hs
  exact ⟨(h s h1).1, v, y, z, g, by rw [(h s h1).2]; exact h2, (h v h3).1, by rw [(h v h3).2]; exact h4, h5⟩
theorem nP_pex {a : Nat} {op pl : Int32} {nm : Value} {v : Int64} {t : Int32} {p : Nat} {cnt ix gl : Int32} (h : pex L f L2 f2) (ha : a ∈ L) (hn : nP f a op pl nm v t p cnt ix gl) : nP f2 a op pl nm v t p cnt ix gl := by
  unfold nP at hn ⊢
  rw [(h a ha).2]
  exact hn
theorem aP_pex {p n : Nat} {g : Nat → Option Nat} (h : pex L f L2 f2) (ha : aP L f cpn p n g) : aP L2 f2 cpn p n g := ⟨(h p ha.1).1, by rw [(h p ha.1).2]; exact ha.2⟩
end PEX
/-- a name in the pool -/
def nmP (L : List Nat) (f : Nat → va_E) (cpb : ClassId) (nm : Value) : Prop := ∃ (sr : Nat) (nb : List Int32), nm = .ref sr ∧ strP L f cpb sr nb ∧ ns9 nb ∧ nb.length ≤ 20
theorem nmP_pex {L L2 : List Nat} {f f2 : Nat → va_E} {cpb : ClassId} {nm : Value} (h : pex L f L2 f2) (hs : nmP L f cpb nm) : nmP L2 f2 cpb nm := by
  obtain ⟨s, nb, e, h1, h2⟩ := hs
  exact ⟨s, nb, e, strP_pex h h1, h2⟩
/-- what a node of a value may be before it has types -/
def uvc (L : List Nat) (f : Nat → va_E) (cpb : ClassId) (T : Nat → Int → Nat → Prop) (op : Int32) (nm : Value) (v : Int64) (t cnt : Int32) (g : Nat → Option Nat) (c : Int) (b : Nat) : Prop :=
  (op.toInt = 0 ∧ ((t.toInt = 127 ∧ in32 v) ∨ t.toInt = 126) ∧ 8 ≤ c ∧ 5 * (1 + ((sleb 10 v.toInt).length : Int)) ≤ c) ∨
  (op.toInt = 1 ∧ nmP L f cpb nm ∧ 10 ≤ c) ∨
  (op.toInt = 2 ∧ nmP L f cpb nm ∧ cnt.toInt ≤ 8 ∧ ∃ (cf : Nat → Nat) (kf : Nat → Int), (∀ i : Nat, (i : Int) < cnt.toInt → g i = some (cf i) ∧ 0 ≤ kf i ∧ T (cf i) (kf i) b) ∧ ksum kf cnt.toInt.toNat + 15 ≤ c) ∨
  (op.toInt = 3 ∧ (v.toInt = 126 ∨ v.toInt = 127) ∧ cnt.toInt = 1 ∧ ∃ (c0 : Nat) (k0 : Int), g 0 = some c0 ∧ T c0 k0 b ∧ 0 ≤ k0 ∧ k0 + 8 ≤ c) ∨
  (op.toInt = 5 ∧ cnt.toInt = 1 ∧ ∃ (c0 : Nat) (k0 : Int), g 0 = some c0 ∧ T c0 k0 b ∧ 0 ≤ k0 ∧ k0 + 16 ≤ c) ∨
  (op.toInt = 4 ∧ cnt.toInt = 2 ∧ ∃ (c0 c1 : Nat) (k0 k1 : Int) (b1 sr : Nat) (nb : List Int32), g 0 = some c0 ∧ g 1 = some c1 ∧ T c0 k0 b ∧ T c1 k1 b1 ∧ b1 + lg9 nb ≤ b ∧ 0 ≤ k0 ∧ 0 ≤ k1 ∧ nm = .ref sr ∧ strP L f cpb sr nb ∧ k0 + k1 + ocost nb ≤ c ∧ nb.length ≤ 3)
/-- a value's tree before it has types: depth, root, cost, ifs within ifs -/
def uv (L : List Nat) (f : Nat → va_E) (cpn cpb : ClassId) : Nat → Nat → Int → Nat → Prop
  | 0, _, _, _ => False
  | d + 1, a, c, b => ∃ (op pl : Int32) (nm : Value) (v : Int64) (t : Int32) (p n : Nat) (cnt ix gl : Int32) (g : Nat → Option Nat), a ∈ L ∧ nP f a op pl nm v t p cnt ix gl ∧ aP L f cpn p n g ∧ (0 ≤ cnt.toInt ∧ cnt.toInt ≤ (n : Int) ∧ n < 100000) ∧ gl.toInt = 0 ∧ uvc L f cpb (uv L f cpn cpb d) op nm v t cnt g c b
/-- what a statement's node may be before it has types -/
def usc (L : List Nat) (f : Nat → va_E) (cpb : ClassId) (V T : Nat → Int → Nat → Prop) (op : Int32) (nm : Value) (t cnt : Int32) (g : Nat → Option Nat) (c : Int) (b : Nat) : Prop :=
  (op.toInt = 18 ∧ ∃ (cf : Nat → Nat) (kf : Nat → Int), (∀ i : Nat, (i : Int) < cnt.toInt → g i = some (cf i) ∧ 0 ≤ kf i ∧ T (cf i) (kf i) b) ∧ ksum kf cnt.toInt.toNat ≤ c) ∨
  (op.toInt = 10 ∧ cnt.toInt = 1 ∧ t27 t.toInt ∧ nmP L f cpb nm ∧ ∃ (c0 : Nat) (k0 : Int), g 0 = some c0 ∧ V c0 k0 b ∧ 0 ≤ k0 ∧ k0 + 10 ≤ c) ∨
  (op.toInt = 11 ∧ cnt.toInt = 1 ∧ nmP L f cpb nm ∧ ∃ (c0 : Nat) (k0 : Int), g 0 = some c0 ∧ V c0 k0 b ∧ 0 ≤ k0 ∧ k0 + 10 ≤ c) ∨
  (op.toInt = 12 ∧ ∃ (c0 : Nat) (k0 : Int) (c1 : Nat) (k1 : Int) (b1 : Nat), g 0 = some c0 ∧ V c0 k0 b ∧ 0 ≤ k0 ∧ g 1 = some c1 ∧ T c1 k1 b1 ∧ 0 ≤ k1 ∧ b1 + 1 ≤ b ∧ ((cnt.toInt = 2 ∧ k0 + k1 + 16 ≤ c) ∨ (cnt.toInt = 3 ∧ ∃ (c2 : Nat) (k2 : Int), g 2 = some c2 ∧ T c2 k2 b1 ∧ 0 ≤ k2 ∧ k0 + k1 + k2 + 24 ≤ c))) ∨
  (op.toInt = 13 ∧ cnt.toInt = 2 ∧ ∃ (c0 : Nat) (k0 : Int) (c1 : Nat) (k1 : Int) (b1 : Nat), g 0 = some c0 ∧ V c0 k0 b1 ∧ 0 ≤ k0 ∧ g 1 = some c1 ∧ T c1 k1 b1 ∧ 0 ≤ k1 ∧ b1 + 2 ≤ b ∧ k0 + k1 + 56 ≤ c) ∨
  ((op.toInt = 14 ∨ op.toInt = 15) ∧ cnt.toInt = 0 ∧ 10 ≤ c) ∨
  (op.toInt = 16 ∧ ((cnt.toInt = 0 ∧ 8 ≤ c) ∨ (cnt.toInt = 1 ∧ ∃ (c0 : Nat) (k0 : Int), g 0 = some c0 ∧ V c0 k0 b ∧ 0 ≤ k0 ∧ k0 + 8 ≤ c))) ∨
  (op.toInt = 17 ∧ cnt.toInt = 1 ∧ ∃ (c0 : Nat) (k0 : Int), g 0 = some c0 ∧ V c0 k0 b ∧ 0 ≤ k0 ∧ k0 + 10 ≤ c)
def us (L : List Nat) (f : Nat → va_E) (cpn cpb : ClassId) : Nat → Nat → Int → Nat → Prop
  | 0, _, _, _ => False
  | d + 1, a, c, b => ∃ (op pl : Int32) (nm : Value) (v : Int64) (t : Int32) (p n : Nat) (cnt ix gl : Int32) (g : Nat → Option Nat), a ∈ L ∧ nP f a op pl nm v t p cnt ix gl ∧ aP L f cpn p n g ∧ (0 ≤ cnt.toInt ∧ cnt.toInt ≤ (n : Int) ∧ n < 100000) ∧ gl.toInt = 0 ∧ usc L f cpb (fun a c b => ∃ e, e ≤ d ∧ uv L f cpn cpb e a c b) (us L f cpn cpb d) op nm t cnt g c b
/-- whose nodes are a tree's: K; no two parts share one -/
def fp (L : List Nat) (f : Nat → va_E) (cpn : ClassId) : Nat → Nat → (Nat → Prop) → Prop
  | 0, _, _ => False
  | d + 1, a, K => ∃ (op pl : Int32) (nm : Value) (v : Int64) (t : Int32) (p n : Nat) (cnt ix gl : Int32) (g : Nat → Option Nat) (Kf : Nat → Nat → Prop), a ∈ L ∧ nP f a op pl nm v t p cnt ix gl ∧ aP L f cpn p n g ∧ K a ∧
    (∀ i : Nat, (i : Int) < cnt.toInt → ∃ y, g i = some y ∧ fp L f cpn d y (Kf i)) ∧ (∀ (i x : Nat), (i : Int) < cnt.toInt → Kf i x → K x ∧ x ≠ a) ∧ ∀ (i j x : Nat), (i : Int) < cnt.toInt → (j : Int) < cnt.toInt → Kf i x → Kf j x → i = j
theorem uvc.mono {L L2 : List Nat} {f f2 : Nat → va_E} {cpb : ClassId} {T T2 : Nat → Int → Nat → Prop} {op : Int32} {nm : Value} {v : Int64} {t cnt : Int32} {g : Nat → Option Nat} {c c2 : Int} {b b2 : Nat} (h : pex L f L2 f2) (hT : ∀ a c b e, b ≤ e → T a c b → T2 a c e) (hc : c ≤ c2) (hb : b ≤ b2) (hu : uvc L f cpb T op nm v t cnt g c b) : uvc L2 f2 cpb T2 op nm v t cnt g c2 b2 := by
  rcases hu with ⟨q, h1, h2, h3⟩ | ⟨q, h1, h2⟩ | ⟨q, h1, h2, cf, kf, h3, h4⟩ | ⟨q, h1, h2, c0, k0, h3, h4, h5, h6⟩ | ⟨q, h1, c0, k0, h3, h4, h5, h6⟩ | ⟨q, h1, c0, c1, k0, k1, b1, sr, nb, h3, h4, h5, h6, h7, h8, h9, h10, h11, h12, h13⟩
  · exact Or.inl ⟨q, h1, by (first | (apply Int.le_antisymm <;> omega) | omega), by (first | (apply Int.le_antisymm <;> omega) | omega)⟩
  · exact Or.inr (Or.inl ⟨q, nmP_pex h h1, by (first | (apply Int.le_antisymm <;> omega) | omega)⟩)
  · exact Or.inr (Or.inr (Or.inl ⟨q, nmP_pex h h1, h2, cf, kf, fun i hi => ⟨(h3 i hi).1, (h3 i hi).2.1, hT _ _ _ _ hb (h3 i hi).2.2⟩, by (first | (apply Int.le_antisymm <;> omega) | omega)⟩))
  · exact Or.inr (Or.inr (Or.inr (Or.inl ⟨q, h1, h2, c0, k0, h3, hT _ _ _ _ hb h4, h5, by (first | (apply Int.le_antisymm <;> omega) | omega)⟩)))
  · exact Or.inr (Or.inr (Or.inr (Or.inr (Or.inl ⟨q, h1, c0, k0, h3, hT _ _ _ _ hb h4, h5, by (first | (apply Int.le_antisymm <;> omega) | omega)⟩))))
  · exact Or.inr (Or.inr (Or.inr (Or.inr (Or.inr ⟨q, h1, c0, c1, k0, k1, b1, sr, nb, h3, h4, hT _ _ _ _ hb h5, hT _ _ _ _ (Nat.le_refl _) h6, by (first | (apply Int.le_antisymm <;> omega) | omega), h8, h9, h10, strP_pex h h11, by (first | (apply Int.le_antisymm <;> omega) | omega), h13⟩))))
theorem uv_mono {L L2 : List Nat} {f f2 : Nat → va_E} {cpn cpb : ClassId} (h : pex L f L2 f2) : ∀ (d d2 : Nat) {a : Nat} {c c2 : Int} {b b2 : Nat}, d ≤ d2 → c ≤ c2 → b ≤ b2 → uv L f cpn cpb d a c b → uv L2 f2 cpn cpb d2 a c2 b2
  | 0, _, _, _, _, _, _, _, _, _, hu => hu.elim
  | d + 1, d2, a, c, c2, b, b2, hd, hc, hb, hu => by
    obtain ⟨op, pl, nm, v, t, p, n, cnt, ix, gl, hq9r⟩ := hu
    obtain ⟨g, h1, h2, h3, h4, h5, h6⟩ := hq9r
    cases d2 with
    | zero => (first | (apply Int.le_antisymm <;> omega) | omega)
    | succ d2 => exact ⟨op, pl, nm, v, t, p, n, cnt, ix, gl, g, (h a h1).1, nP_pex h h1 h2, aP_pex h h3, h4, h5, uvc.mono h (fun a c b e hbe q => uv_mono h d d2 (by (first | (apply Int.le_antisymm <;> omega) | omega)) (Int.le_refl _) hbe q) hc hb h6⟩
theorem usc.mono {L L2 : List Nat} {f f2 : Nat → va_E} {cpb : ClassId} {V V2 T T2 : Nat → Int → Nat → Prop} {op : Int32} {nm : Value} {t cnt : Int32} {g : Nat → Option Nat} {c c2 : Int} {b b2 : Nat} (h : pex L f L2 f2) (hV : ∀ a c b e, b ≤ e → V a c b → V2 a c e) (hT : ∀ a c b e, b ≤ e → T a c b → T2 a c e) (hc : c ≤ c2) (hb : b ≤ b2) (hu : usc L f cpb V T op nm t cnt g c b) : usc L2 f2 cpb V2 T2 op nm t cnt g c2 b2 := by
  rcases hu with ⟨q, cf, kf, h3, h4⟩ | ⟨q, h1, h2, h0, c0, k0, h3, h4, h5, h6⟩ | ⟨q, h1, h0, c0, k0, h3, h4, h5, h6⟩ | ⟨q, c0, k0, c1, k1, b1, h1, h2, h3, h4, h5, h6, h7, h8⟩ | ⟨q, h0, c0, k0, c1, k1, b1, h1, h2, h3, h4, h5, h6, h7, h8⟩ | ⟨q, h1, h2⟩ | ⟨q, h1⟩ | ⟨q, h1, c0, k0, h3, h4, h5, h6⟩
  · exact Or.inl ⟨q, cf, kf, fun i hi => ⟨(h3 i hi).1, (h3 i hi).2.1, hT _ _ _ _ hb (h3 i hi).2.2⟩, by (first | (apply Int.le_antisymm <;> omega) | omega)⟩
  · exact Or.inr (Or.inl ⟨q, h1, h2, nmP_pex h h0, c0, k0, h3, hV _ _ _ _ hb h4, h5, by (first | (apply Int.le_antisymm <;> omega) | omega)⟩)
  · exact Or.inr (Or.inr (Or.inl ⟨q, h1, nmP_pex h h0, c0, k0, h3, hV _ _ _ _ hb h4, h5, by (first | (apply Int.le_antisymm <;> omega) | omega)⟩))
  · refine Or.inr (Or.inr (Or.inr (Or.inl ⟨q, c0, k0, c1, k1, b1, h1, hV _ _ _ _ hb h2, h3, h4, hT _ _ _ _ (Nat.le_refl _) h5, h6, by (first | (apply Int.le_antisymm <;> omega) | omega), ?_⟩)))
    rcases h8 with ⟨z1, z2⟩ | ⟨z1, y, k2, z2, z3, z4, z5⟩
    · exact Or.inl ⟨z1, by (first | (apply Int.le_antisymm <;> omega) | omega)⟩
    · exact Or.inr ⟨z1, y, k2, z2, hT _ _ _ _ (Nat.le_refl _) z3, z4, by (first | (apply Int.le_antisymm <;> omega) | omega)⟩
  · exact Or.inr (Or.inr (Or.inr (Or.inr (Or.inl ⟨q, h0, c0, k0, c1, k1, b1, h1, hV _ _ _ _ (Nat.le_refl _) h2, h3, h4, hT _ _ _ _ (Nat.le_refl _) h5, h6, by (first | (apply Int.le_antisymm <;> omega) | omega), by (first | (apply Int.le_antisymm <;> omega) | omega)⟩))))
  · exact Or.inr (Or.inr (Or.inr (Or.inr (Or.inr (Or.inl ⟨q, h1, by (first | (apply Int.le_antisymm <;> omega) | omega)⟩)))))
  · refine Or.inr (Or.inr (Or.inr (Or.inr (Or.inr (Or.inr (Or.inl ⟨q, ?_⟩))))))
    rcases h1 with ⟨z1, z2⟩ | ⟨z1, y, k2, z2, z3, z4, z5⟩
    · exact Or.inl ⟨z1, by (first | (apply Int.le_antisymm <;> omega) | omega)⟩
    · exact Or.inr ⟨z1, y, k2, z2, hV _ _ _ _ hb z3, z4, by (first | (apply Int.le_antisymm <;> omega) | omega)⟩
  · exact Or.inr (Or.inr (Or.inr (Or.inr (Or.inr (Or.inr (Or.inr ⟨q, h1, c0, k0, h3, hV _ _ _ _ hb h4, h5, by (first | (apply Int.le_antisymm <;> omega) | omega)⟩))))))
theorem us_mono {L L2 : List Nat} {f f2 : Nat → va_E} {cpn cpb : ClassId} (h : pex L f L2 f2) : ∀ (d d2 : Nat) {a : Nat} {c c2 : Int} {b b2 : Nat}, d ≤ d2 → c ≤ c2 → b ≤ b2 → us L f cpn cpb d a c b → us L2 f2 cpn cpb d2 a c2 b2
  | 0, _, _, _, _, _, _, _, _, _, hu => hu.elim
  | d + 1, d2, a, c, c2, b, b2, hd, hc, hb, hu => by
    obtain ⟨op, pl, nm, v, t, p, n, cnt, ix, gl, hq9r⟩ := hu
    obtain ⟨g, h1, h2, h3, h4, h5, h6⟩ := hq9r
    cases d2 with
    | zero => (first | (apply Int.le_antisymm <;> omega) | omega)
    | succ d2 => exact ⟨op, pl, nm, v, t, p, n, cnt, ix, gl, g, (h a h1).1, nP_pex h h1 h2, aP_pex h h3, h4, h5, usc.mono h (fun a c b e hbe ⟨z, z1, z2⟩ => ⟨z, by (first | (apply Int.le_antisymm <;> omega) | omega), uv_mono h z z (Nat.le_refl _) (Int.le_refl _) hbe z2⟩) (fun a c b e hbe q => us_mono h d d2 (by (first | (apply Int.le_antisymm <;> omega) | omega)) (Int.le_refl _) hbe q) hc hb h6⟩
theorem fp_mono {L L2 : List Nat} {f f2 : Nat → va_E} {cpn : ClassId} (h : pex L f L2 f2) : ∀ (d d2 : Nat) {a : Nat} {K K2 : Nat → Prop}, d ≤ d2 → (∀ x, K x → K2 x) → fp L f cpn d a K → fp L2 f2 cpn d2 a K2
  | 0, _, _, _, _, _, _, hu => hu.elim
  | d + 1, d2, a, K, K2, hd, hk, hu => by
    obtain ⟨op, pl, nm, v, t, p, n, cnt, ix, gl, hq9r⟩ := hu
    obtain ⟨g, Kf, h1, h2, h3, h4, h5, h6, h7⟩ := hq9r
    cases d2 with
    | zero => (first | (apply Int.le_antisymm <;> omega) | omega)
    | succ d2 =>
      refine ⟨op, pl, nm, v, t, p, n, cnt, ix, gl, g, Kf, (h a h1).1, nP_pex h h1 h2, aP_pex h h3, hk a h4, fun i hi => ?_, fun i x hi hx => ⟨hk x (h6 i x hi hx).1, (h6 i x hi hx).2⟩, h7⟩
      obtain ⟨y, y1, y2⟩ := h5 i hi
      exact ⟨y, y1, fp_mono h d d2 (by (first | (apply Int.le_antisymm <;> omega) | omega)) (fun _ q => q) y2⟩
/-- the parts of a node that is being made -/
def kid (T : List Nat → (Nat → va_E) → Nat → Int → Prop) (cpn : ClassId) (L0 L : List Nat) (f : Nat → va_E) (d : Nat) (g : Nat → Option Nat) (n : Nat) (C : Int) : Prop := ∃ (cf : Nat → Nat) (kf : Nat → Int) (Kf : Nat → Nat → Prop), (∀ i : Nat, i < n → g i = some (cf i) ∧ 0 ≤ kf i ∧ T L f (cf i) (kf i) ∧ fp L f cpn d (cf i) (Kf i) ∧ ∀ x, Kf i x → x ∈ L ∧ x ∉ L0) ∧ (∀ (i j x : Nat), i < n → j < n → Kf i x → Kf j x → i = j) ∧ ksum kf n ≤ C
def nw9 (L0 L : List Nat) : Nat → Prop := fun x => x ∈ L ∧ x ∉ L0
theorem kid_0 {T : List Nat → (Nat → va_E) → Nat → Int → Prop} {cpn : ClassId} {L0 L : List Nat} {f : Nat → va_E} {d : Nat} {g : Nat → Option Nat} {C : Int} (hC : 0 ≤ C) : kid T cpn L0 L f d g 0 C := ⟨fun _ => 0, fun _ => 0, fun _ _ => False, fun i hi => absurd hi (Nat.not_lt_zero i), fun i j x hi => absurd hi (Nat.not_lt_zero i), hC⟩
theorem kid_pex {T T2 : List Nat → (Nat → va_E) → Nat → Int → Prop} {cpn : ClassId} {L0 L L2 : List Nat} {f f2 : Nat → va_E} {d d2 : Nat} {g g2 : Nat → Option Nat} {n : Nat} {C C2 : Int} (hd2 : d ≤ d2) (hT : ∀ a c, T L f a c → T2 L2 f2 a c) (hp : pex L f L2 f2) (hC : C ≤ C2) (hg : ∀ i, i < n → g2 i = g i) (h : kid T cpn L0 L f d g n C) : kid T2 cpn L0 L2 f2 d2 g2 n C2 := by
  obtain ⟨cf, kf, Kf, h1, h2, h3⟩ := h
  refine ⟨cf, kf, Kf, fun i hi => ?_, h2, Int.le_trans h3 hC⟩
  obtain ⟨a, b, c, e, q⟩ := h1 i hi
  exact ⟨by rw [hg i hi]; exact a, b, hT _ _ c, fp_mono hp d d2 hd2 (fun _ q => q) e, fun x hx => ⟨(hp x (q x hx).1).1, (q x hx).2⟩⟩
theorem ksum_cg {kf kf2 : Nat → Int} : ∀ {n : Nat}, (∀ i, i < n → kf2 i = kf i) → ksum kf2 n = ksum kf n
  | 0, _ => rfl
  | n + 1, h => by
    show ksum kf2 n + kf2 n = ksum kf n + kf n
    rw [ksum_cg (fun i hi => h i (by (first | (apply Int.le_antisymm <;> omega) | omega))), h n (by (first | (apply Int.le_antisymm <;> omega) | omega))]
theorem kid_s {T T2 : List Nat → (Nat → va_E) → Nat → Int → Prop} {cpn : ClassId} {L0 L L2 : List Nat} {f f2 : Nat → va_E} {d d1 d2 : Nat} {g g2 : Nat → Option Nat} {n y : Nat} {C C2 k : Int} (hd2 : d ≤ d2) (hT : ∀ a c, T L f a c → T2 L2 f2 a c) (hp : pex L f L2 f2) (h0 : ∀ x, x ∈ L0 → x ∈ L) (h : kid T cpn L0 L f d g n C) (hg : ∀ i, i < n → g2 i = g i) (hy : g2 n = some y) (hk : 0 ≤ k) (ht : T2 L2 f2 y k) (hd : d1 ≤ d2) (hf : fp L2 f2 cpn d1 y (nw9 L L2)) (hC : C + k ≤ C2) : kid T2 cpn L0 L2 f2 d2 g2 (n + 1) C2 := by
  obtain ⟨cf, kf, Kf, h1, h2, h3⟩ := h
  refine ⟨fun i => if i < n then cf i else y, fun i => if i < n then kf i else k, fun i => if i < n then Kf i else nw9 L L2, fun i hi => ?_, fun i j x hi hj hx hz => ?_, ?_⟩
  · by_cases q : i < n
    · obtain ⟨a, b, c, e, z⟩ := h1 i q
      dsimp only
      rw [if_pos q, if_pos q, if_pos q]
      exact ⟨by rw [hg i q]; exact a, b, hT _ _ c, fp_mono hp d d2 hd2 (fun _ q => q) e, fun x hx => ⟨(hp x (z x hx).1).1, (z x hx).2⟩⟩
    · have e : i = n := by (first | (apply Int.le_antisymm <;> omega) | omega)
      subst e
      dsimp only
      rw [if_neg q, if_neg q, if_neg q]
      exact ⟨hy, hk, ht, fp_mono pex.rfl2 d1 d2 hd (fun _ q => q) hf, fun x hx => ⟨hx.1, fun z => hx.2 (h0 x z)⟩⟩
  · dsimp only at hx hz
    by_cases q : i < n
    · rw [if_pos q] at hx
      by_cases q2 : j < n
      · rw [if_pos q2] at hz
        exact h2 i j x q q2 hx hz
      · rw [if_neg q2] at hz
        exact absurd (((h1 i q).2.2.2.2 x hx).1) hz.2
    · rw [if_neg q] at hx
      by_cases q2 : j < n
      · rw [if_pos q2] at hz
        exact absurd (((h1 j q2).2.2.2.2 x hz).1) hx.2
      · (first | (apply Int.le_antisymm <;> omega) | omega)
  · show ksum _ n + (if n < n then kf n else k) ≤ C2
    rw [ksum_cg (kf := kf) (fun i hi => if_pos hi), if_neg (Nat.lt_irrefl n)]
    (first | (apply Int.le_antisymm <;> omega) | omega)
/-- a node and its parts come into the pool -/
theorem node_in {L : List Nat} {f : Nat → va_E} {cpn : ClassId} {a p n : Nat} {g : Nat → Option Nat} {op pl : Int32} {nm : Value} {v : Int64} {t cnt ix gl : Int32} (h1 : p ∉ L) (h2 : a ∉ L ++ [p]) : (a ∈ (L ++ [p]) ++ [a] ∧ nP (va_up (va_up f p (.inl (cpn, n, .inr (.inr (.inr (.inr g)))))) a (.inr (13, [.int op, .int pl, nm, .long v, .int t, .ref p, .int cnt, .int ix, .int gl]))) a op pl nm v t p cnt ix gl ∧ aP ((L ++ [p]) ++ [a]) (va_up (va_up f p (.inl (cpn, n, .inr (.inr (.inr (.inr g)))))) a (.inr (13, [.int op, .int pl, nm, .long v, .int t, .ref p, .int cnt, .int ix, .int gl]))) cpn p n g) ∧ pex L f ((L ++ [p]) ++ [a]) (va_up (va_up f p (.inl (cpn, n, .inr (.inr (.inr (.inr g)))))) a (.inr (13, [.int op, .int pl, nm, .long v, .int t, .ref p, .int cnt, .int ix, .int gl]))) ∧ a ∉ L := by
  have hv : p ≠ a := fun q => h2 (q ▸ List.mem_append_right _ (List.mem_singleton.mpr rfl))
  refine ⟨⟨List.mem_append_right _ (List.mem_singleton.mpr rfl), va_up_self _ _ _, List.mem_append_left _ (List.mem_append_right _ (List.mem_singleton.mpr rfl)), ?_⟩, (pex_in h1).trans (pex_in h2), fun z => h2 (List.mem_append_left _ z)⟩
  rw [va_up_ne _ _ hv, va_up_self]
/-- what is told of a node that came into the pool -/
def nin9 (L0 L : List Nat) (f : Nat → va_E) (cpn : ClassId) (L2 : List Nat) (f2 : Nat → va_E) (a : Nat) (op pl : Int32) (nm : Value) (v : Int64) (t : Int32) (p n : Nat) (cnt ix gl : Int32) (g : Nat → Option Nat) : Prop := (a ∈ L2 ∧ nP f2 a op pl nm v t p cnt ix gl ∧ aP L2 f2 cpn p n g) ∧ pex L f L2 f2 ∧ a ∉ L ∧ ∀ x, x ∈ L0 → x ∈ L
theorem nin_fp {T : List Nat → (Nat → va_E) → Nat → Int → Prop} {L0 L L2 : List Nat} {f f2 : Nat → va_E} {cpn : ClassId} {a : Nat} {op pl : Int32} {nm : Value} {v : Int64} {t : Int32} {p n : Nat} {cnt ix gl : Int32} {g : Nat → Option Nat} {d k : Nat} {C : Int} (h : nin9 L0 L f cpn L2 f2 a op pl nm v t p n cnt ix gl g) (hk : kid T cpn L0 L f d g k C) (hc : cnt.toInt = (k : Int)) : fp L2 f2 cpn (d + 1) a (nw9 L0 L2) := by
  obtain ⟨⟨a1, a2, a3⟩, b, c, e⟩ := h
  obtain ⟨cf, kf, Kf, h1, h2, -⟩ := hk
  refine ⟨op, pl, nm, v, t, p, n, cnt, ix, gl, g, Kf, a1, a2, a3, ⟨a1, fun z => c (e a z)⟩, fun i hi => ?_, fun i x hi hx => ?_, fun i j x hi hj => h2 i j x (by (first | (apply Int.le_antisymm <;> omega) | omega)) (by (first | (apply Int.le_antisymm <;> omega) | omega))⟩
  · obtain ⟨q1, q2, q3, q4, q5⟩ := h1 i (by (first | (apply Int.le_antisymm <;> omega) | omega))
    exact ⟨cf i, q1, fp_mono b d d (Nat.le_refl _) (fun _ q => q) q4⟩
  · have z := (h1 i (by (first | (apply Int.le_antisymm <;> omega) | omega))).2.2.2.2 x hx
    exact ⟨⟨(b x z.1).1, z.2⟩, fun q => c (q ▸ z.1)⟩
def isN (L : List Nat) (f : Nat → va_E) (a : Nat) : Prop := a ∈ L ∧ ∃ vs, f a = .inr (13, vs)
theorem uv_isN {L : List Nat} {f : Nat → va_E} {cpn cpb : ClassId} {d a : Nat} {c : Int} {b : Nat} (h : uv L f cpn cpb d a c b) : isN L f a := by
  cases d with
  | zero => exact h.elim
  | succ d =>
    obtain ⟨op, pl, nm, v, t, p, n, cnt, ix, gl, g, h1, h2, -⟩ := h
    exact ⟨h1, _, h2⟩
theorem us_isN {L : List Nat} {f : Nat → va_E} {cpn cpb : ClassId} {d a : Nat} {c : Int} {b : Nat} (h : us L f cpn cpb d a c b) : isN L f a := by
  cases d with
  | zero => exact h.elim
  | succ d =>
    obtain ⟨op, pl, nm, v, t, p, n, cnt, ix, gl, g, h1, h2, -⟩ := h
    exact ⟨h1, _, h2⟩
theorem isN_pex {L L2 : List Nat} {f f2 : Nat → va_E} {a : Nat} (h : pex L f L2 f2) (hn : isN L f a) : isN L2 f2 a := ⟨(h a hn.1).1, by obtain ⟨vs, e⟩ := hn.2; exact ⟨vs, by rw [(h a hn.1).2]; exact e⟩⟩
def fs9 (tp : Nat → Int32) (len t fr2 t2 : Int) : Prop := ∃ f9 t9, tk9 tp len t f9 t9 ∧ t9 ≤ t2 ∧ f9 ≤ fr2
/-- from one token to a later one: what was made of cells and slots -/
def adv9 (tp : Nat → Int32) (cpb : ClassId) (len : Int) (L : List Nat) (f : Nat → va_E) (fr t : Int) (L2 : List Nat) (f2 : Nat → va_E) (W : Value) (k fr2 t2 n : Int) (kc kn : Nat) (q1 q2 z1 z2 : Int) : Prop := lx9 tp len k fr2 t2 n ∧ lw9 L2 f2 cpb W k ∧ pex L f L2 f2 ∧ fs9 tp len t fr2 t2 ∧ t ≤ fr2 ∧ fr < t ∧ (kc : Int) + z1 ≤ q1 * (t2 - t) + 8 * (fr2 - fr) ∧ (kn : Int) + z2 ≤ q2 * (t2 - t) + 60 * (fr2 - fr)
theorem nxt_f {tp : Nat → Int32} {cpb : ClassId} {len t : Int} {L L2 : List Nat} {f f2 : Nat → va_E} {W : Value} {k fr t2 n : Int} {kc kn : Nat} (h : nxt9 tp cpb len L f t L2 f2 W k fr t2 n kc kn) : bx (lx9 tp len k fr t2 n) ∧ bx (lw9 L2 f2 cpb W k) ∧ bx (pex L f L2 f2) ∧ bx (fs9 tp len t fr t2) ∧ t ≤ fr ∧ fr ≤ t2 ∧ t2 ≤ len ∧ 0 ≤ k ∧ k ≤ 6 ∧ (k ≠ 0 → fr < t2) ∧ (kc : Int) ≤ 8 * (t2 - fr) ∧ (kn : Int) ≤ 80 * (t2 - fr) := by
  obtain ⟨a, b, c, d, e1, e2, e3⟩ := h
  have a9 := a
  obtain ⟨q1, q2, q3, q4, q5, q6, q7, -⟩ := a9
  exact ⟨a, d, c, ⟨fr, t2, e3, Int.le_refl _, Int.le_refl _⟩, b, q2, q3, q4, q5, q7, by (first | (apply Int.le_antisymm <;> omega) | omega), by (first | (apply Int.le_antisymm <;> omega) | omega)⟩
theorem adv_f {tp : Nat → Int32} {cpb : ClassId} {len fr t : Int} {L L2 : List Nat} {f f2 : Nat → va_E} {W : Value} {k fr2 t2 n : Int} {kc kn : Nat} {qa qb z1 z2 : Int} (h : adv9 tp cpb len L f fr t L2 f2 W k fr2 t2 n kc kn qa qb z1 z2) : bx (lx9 tp len k fr2 t2 n) ∧ bx (lw9 L2 f2 cpb W k) ∧ bx (pex L f L2 f2) ∧ bx (fs9 tp len t fr2 t2) ∧ t ≤ fr2 ∧ fr2 ≤ t2 ∧ t2 ≤ len ∧ 0 ≤ k ∧ k ≤ 6 ∧ (k ≠ 0 → fr2 < t2) ∧ (kc : Int) + z1 ≤ qa * (t2 - t) + 8 * (fr2 - fr) ∧ (kn : Int) + z2 ≤ qb * (t2 - t) + 60 * (fr2 - fr) ∧ fr < t := by
  obtain ⟨a, b, c, d0, d, d2, e1, e2⟩ := h
  have a9 := a
  obtain ⟨q1, q2, q3, q4, q5, q6, q7, -⟩ := a9
  exact ⟨a, b, c, d0, d, q2, q3, q4, q5, q7, e1, e2, d2⟩
/-- what take tells -/
theorem tak_f {tp : Nat → Int32} {cpb : ClassId} {len : Int} {L L2 : List Nat} {f f2 : Nat → va_E} {W W2 : Value} {k fr t k2 fr2 t2 : Int32} {n n2 : Int64} {kc kn : Nat} {r : Int32} (hx : bx (lx9 tp len k.toInt fr.toInt t.toInt n.toInt)) (hw : bx (lw9 L f cpb W k.toInt)) (h : (r.toInt = 0 ∧ L2 = L ∧ f2 = f ∧ W2 = W ∧ k2 = k ∧ fr2 = fr ∧ t2 = t ∧ n2 = n ∧ kc = 0 ∧ kn = 0) ∨ (r.toInt = 1 ∧ fr.toInt < t.toInt ∧ nxt9 tp cpb len L f t.toInt L2 f2 W2 k2.toInt fr2.toInt t2.toInt n2.toInt kc kn)) :
    bx (lx9 tp len k2.toInt fr2.toInt t2.toInt n2.toInt) ∧ bx (lw9 L2 f2 cpb W2 k2.toInt) ∧ bx (pex L f L2 f2) ∧ bx (r.toInt = 1 → fs9 tp len t.toInt fr2.toInt t2.toInt) ∧ ((r.toInt = 0 ∧ fr2.toInt = fr.toInt ∧ t2.toInt = t.toInt ∧ k2.toInt = k.toInt) ∨ (r.toInt = 1 ∧ t.toInt ≤ fr2.toInt ∧ fr.toInt < t.toInt)) ∧ fr2.toInt ≤ t2.toInt ∧ t2.toInt ≤ len ∧ 0 ≤ k2.toInt ∧ k2.toInt ≤ 6 ∧ (k2.toInt ≠ 0 → fr2.toInt < t2.toInt) ∧ (kc : Int) ≤ 8 * (t2.toInt - t.toInt) ∧ (kn : Int) ≤ 80 * (t2.toInt - t.toInt) := by
  rcases h with ⟨h1, rfl, rfl, rfl, rfl, rfl, rfl, rfl, rfl, rfl⟩ | ⟨h1, h2, h3⟩
  · have a9 := hx.out
    obtain ⟨q1, q2, q3, q4, q5, q6, q7, -⟩ := a9
    exact ⟨hx, hw, pex.rfl2, fun z => absurd z (by (first | (apply Int.le_antisymm <;> omega) | omega)), Or.inl ⟨h1, rfl, rfl, rfl⟩, q2, q3, q4, q5, q7, by (first | (apply Int.le_antisymm <;> omega) | omega), by (first | (apply Int.le_antisymm <;> omega) | omega)⟩
  · obtain ⟨a, b, c, d, e1, e2, e3, e4, e5, e6, e7, e8⟩ := nxt_f h3
    exact ⟨a, b, c, fun _ => d.out, Or.inr ⟨h1, e1, h2⟩, e2, e3, e4, e5, e6, by (first | (apply Int.le_antisymm <;> omega) | omega), by (first | (apply Int.le_antisymm <;> omega) | omega)⟩
theorem lw_pex {L L2 : List Nat} {f f2 : Nat → va_E} {cpb : ClassId} {W : Value} {k : Int} (h : pex L f L2 f2) (hw : lw9 L f cpb W k) : lw9 L2 f2 cpb W k := fun q => by
  obtain ⟨w, g, e, s, z⟩ := hw q
  exact ⟨w, g, e, strP_pex h s, z⟩
theorem fs_le {tp : Nat → Int32} {len t fr2 t2 fr3 t3 : Int} (h : fs9 tp len t fr2 t2) (h1 : fr2 ≤ fr3) (h2 : t2 ≤ t3) : fs9 tp len t fr3 t3 := by
  obtain ⟨a, b, c, d, e⟩ := h
  exact ⟨a, b, c, by (first | (apply Int.le_antisymm <;> omega) | omega), by (first | (apply Int.le_antisymm <;> omega) | omega)⟩
section NIN
variable {L0 L L2 Lb Lc Ld : List Nat} {f f2 : Nat → va_E} {cpn cpb : ClassId} {a : Nat} {op pl : Int32} {nm : Value} {v : Int64} {t : Int32} {p n : Nat} {cnt ix gl : Int32} {g : Nat → Option Nat} {d c0 c1 : Nat} {k0 k1 c : Int} {b b1 : Nat}
def TT9 : List Nat → (Nat → va_E) → Nat → Int → Prop := fun _ _ _ _ => True
theorem fp_0 (h : nin9 L0 L f cpn L2 f2 a op pl nm v t p n cnt ix gl g) (hc : cnt.toInt = 0) : fp L2 f2 cpn (d + 1) a (nw9 L0 L2) := nin_fp (T := TT9) (k := 0) (C := 0) h (kid_0 (Int.le_refl _)) (by (first | (apply Int.le_antisymm <;> omega) | omega))
theorem fp_1 (h : nin9 L0 L f cpn L2 f2 a op pl nm v t p n cnt ix gl g) (hc : cnt.toInt = 1) (hg : g 0 = some c0) (hf : fp L f cpn d c0 (nw9 Lb L)) (hb : ∀ x, x ∈ L0 → x ∈ Lb) : fp L2 f2 cpn (d + 1) a (nw9 L0 L2) := by
  obtain ⟨⟨a1, a2, a3⟩, b, c, e⟩ := h
  refine ⟨op, pl, nm, v, t, p, n, cnt, ix, gl, g, fun _ => nw9 Lb L, a1, a2, a3, ⟨a1, fun z => c (e a z)⟩, fun i hi => ?_, fun i x hi hx => ?_, fun i j x hi hj _ _ => by (first | (apply Int.le_antisymm <;> omega) | omega)⟩
  · have e0 : i = 0 := by (first | (apply Int.le_antisymm <;> omega) | omega)
    subst e0
    exact ⟨c0, hg, fp_mono b d d (Nat.le_refl _) (fun _ q => q) hf⟩
  · exact ⟨⟨(b x hx.1).1, fun z => hx.2 (hb x z)⟩, fun q => c (q ▸ hx.1)⟩
theorem fp_2 {d2 : Nat} {fc : Nat → va_E} (h : nin9 L0 L f cpn L2 f2 a op pl nm v t p n cnt ix gl g) (hc : cnt.toInt = 2) (hg : g 0 = some c0) (hg1 : g 1 = some c1) (hf : fp Lc fc cpn d c0 (nw9 Lb Lc)) (hb : ∀ x, x ∈ L0 → x ∈ Lb) (hp : pex Lc fc L f) (hf1 : fp L f cpn d c1 (nw9 Ld L)) (hbc : ∀ x, x ∈ Lc → x ∈ Ld) (hb0 : ∀ x, x ∈ L0 → x ∈ Ld) (hd : d ≤ d2) : fp L2 f2 cpn (d2 + 1) a (nw9 L0 L2) := by
  obtain ⟨⟨a1, a2, a3⟩, b, c, e⟩ := h
  refine ⟨op, pl, nm, v, t, p, n, cnt, ix, gl, g, fun i => if i = 0 then nw9 Lb Lc else nw9 Ld L, a1, a2, a3, ⟨a1, fun z => c (e a z)⟩, fun i hi => ?_, fun i x hi hx => ?_, fun i j x hi hj hx hy => ?_⟩
  · by_cases q : i = 0
    · subst q
      exact ⟨c0, hg, fp_mono (hp.trans b) d d2 hd (fun _ q => q) hf⟩
    · have e0 : i = 1 := by (first | (apply Int.le_antisymm <;> omega) | omega)
      subst e0
      exact ⟨c1, hg1, fp_mono b d d2 hd (fun _ q => q) hf1⟩
  · dsimp only at hx
    by_cases q : i = 0
    · rw [if_pos q] at hx
      have z := (hp x hx.1).1
      exact ⟨⟨(b x z).1, fun y => hx.2 (hb x y)⟩, fun y => c (y ▸ z)⟩
    · rw [if_neg q] at hx
      exact ⟨⟨(b x hx.1).1, fun y => hx.2 (hb0 x y)⟩, fun y => c (y ▸ hx.1)⟩
  · dsimp only at hx hy
    by_cases q : i = 0
    · by_cases q2 : j = 0
      · (first | (apply Int.le_antisymm <;> omega) | omega)
      · rw [if_pos q] at hx
        rw [if_neg q2] at hy
        exact absurd (hbc x hx.1) hy.2
    · by_cases q2 : j = 0
      · rw [if_neg q] at hx
        rw [if_pos q2] at hy
        exact absurd (hbc x hy.1) hx.2
      · (first | (apply Int.le_antisymm <;> omega) | omega)
theorem uv_of (h : nin9 L0 L f cpn L2 f2 a op pl nm v t p n cnt ix gl g) (hn : 0 ≤ cnt.toInt ∧ cnt.toInt ≤ (n : Int) ∧ n < 100000) (hgl : gl.toInt = 0) (hu : uvc L2 f2 cpb (uv L2 f2 cpn cpb d) op nm v t cnt g c b) : uv L2 f2 cpn cpb (d + 1) a c b := ⟨op, pl, nm, v, t, p, n, cnt, ix, gl, g, h.1.1, h.1.2.1, h.1.2.2, hn, hgl, hu⟩
theorem us_of (h : nin9 L0 L f cpn L2 f2 a op pl nm v t p n cnt ix gl g) (hn : 0 ≤ cnt.toInt ∧ cnt.toInt ≤ (n : Int) ∧ n < 100000) (hgl : gl.toInt = 0) (hu : usc L2 f2 cpb (fun a c b => ∃ e, e ≤ d ∧ uv L2 f2 cpn cpb e a c b) (us L2 f2 cpn cpb d) op nm t cnt g c b) : us L2 f2 cpn cpb (d + 1) a c b := ⟨op, pl, nm, v, t, p, n, cnt, ix, gl, g, h.1.1, h.1.2.1, h.1.2.2, hn, hgl, hu⟩
end NIN
end q_m97
section q_m98
/-! the reference: nodes of trees are made, parts are added -/
abbrev b_MN_init : ByteArray := prog_18_method_1_code
def y_MN_init : MethodName := ⟨R_MN, "<init>", "()V"⟩
abbrev w_MN_init : List Cond := .code y_MN_init b_MN_init 1 none :: lw_g
theorem kC_MN_init : Cond.code y_MN_init b_MN_init 1 none ∈ lw_g := in_c11 184 rfl rfl
theorem d_MN_init_0 : decode b_MN_init 0 = .ok (.aload_n 0, 1) := bz_c42 (by decide +kernel)
theorem d_MN_init_1 : decode b_MN_init 1 = .ok (.invokespecial 1, 3) := bz_c183 (by decide +kernel)
theorem d_MN_init_4 : decode b_MN_init 4 = .ok (.aload_n 0, 1) := bz_c42 (by decide +kernel)
theorem d_MN_init_5 : decode b_MN_init 5 = .ok (.iconst 2, 1) := bz_c5 (by decide +kernel)
theorem d_MN_init_6 : decode b_MN_init 6 = .ok (.anewarray 7, 3) := bz_c189 (by decide +kernel)
theorem d_MN_init_9 : decode b_MN_init 9 = .ok (.putfield 9, 3) := bz_c181 (by decide +kernel)
theorem d_MN_init_12 : decode b_MN_init 12 = .ok (.return_, 1) := bz_c177 (by decide +kernel)
theorem kM_MN_1 : Cond.methodLink R_MN 1 Lib.objectInit ∈ lw_g := in_c11 185 rfl rfl
theorem kK_MN_7 : Cond.classLink R_MN 7 "WaferForgeModel$N" ∈ lw_g := in_c11 186 rfl rfl
theorem kF_MN_9 : Cond.fieldLink R_MN 9 "WaferForgeModel$N" "parts" "[LWaferForgeModel$N;" ∈ lw_g := in_c11 193 rfl rfl
abbrev at_MN_init (dC : Nat → ClassId) (dI : Nat → Nat → Nat) (sz szl : Nat) (sa : Nat → Nat) (h0 : Nat) (cpn : ClassId) (h0_op : Int32) (h0_place : Int32) (h0_name : Value) (h0_value : Int64) (h0_type : Int32) (h0_parts : Value) (h0_count : Int32) (h0_index : Int32) (h0_global : Int32) (A : Nat → Prop) (u : (Nat → Option Nat) × Nat × Nat × Nat × Nat) (t : State) : Prop := match u with | (gnw, kcz, knz, nnw, nw) => va_P (dC, dI) cls2 (wz_510 h0 h0_op h0_place h0_name h0_value h0_type nw h0_count h0_index h0_global nw cpn nnw gnw) t.heap ∧ va_K (dC, dI) cls2 [(cpn, .object "WaferForgeModel$N")] t ∧ va_D A (wz_510 h0 h0_op h0_place h0_name h0_value h0_type nw h0_count h0_index h0_global nw cpn nnw gnw) ∧ t.heap.size ≤ sz + kcz ∧ hsl t.heap ≤ szl + knz
set_option maxHeartbeats 4000000 in
set_option maxRecDepth 100000 in
theorem c_MN_init (l : Launch) (hlt : l.stackTraces = false) (dC : Nat → ClassId) (dI : Nat → Nat → Nat) (sz : Nat) (szl : Nat) (sa : Nat → Nat) (h0 : Nat) (cpn : ClassId) (h0_op : Int32) (h0_place : Int32) (h0_name : Value) (h0_value : Int64) (h0_type : Int32) (h0_parts : Value) (h0_count : Int32) (h0_index : Int32) (h0_global : Int32)      : Met l y_MN_init w_MN_init ({ frames := 1, cells := 1, slots := 2, locals := 20 }) (va_Pc [.ref h0] (fun U => U.heap.size = sz ∧ va_P (dC, dI) cls2 (wz_511 h0 h0_op h0_place h0_name h0_value h0_type h0_parts h0_count h0_index h0_global) U.heap ∧ va_K (dC, dI) cls2 [(cpn, .object "WaferForgeModel$N")] U ∧ va_D (fun _ => True) (wz_511 h0 h0_op h0_place h0_name h0_value h0_type h0_parts h0_count h0_index h0_global) ∧ sm sa (va_A (wz_511 h0 h0_op h0_place h0_name h0_value h0_type h0_parts h0_count h0_index h0_global) sz) U U.heap ∧ hsl U.heap = szl)) (va_Qv (fun (u : (Nat → Option Nat) × Nat × Nat × Nat × Nat) => match u with | (gnw2, kcz2, knz2, nnw2, nw2) => (nnw2 = 2 ∧ kcz2 = 1 ∧ knz2 = 2)) (at_MN_init dC dI sz szl sa h0 cpn h0_op h0_place h0_name h0_value h0_type h0_parts h0_count h0_index h0_global (va_A (wz_511 h0 h0_op h0_place h0_name h0_value h0_type h0_parts h0_count h0_index h0_global) sz)) (va_A (wz_511 h0 h0_op h0_place h0_name h0_value h0_type h0_parts h0_count h0_index h0_global) sz)) (1) (2) (va_A (wz_511 h0 h0_op h0_place h0_name h0_value h0_type h0_parts h0_count h0_index h0_global) sz) := by
  refine Met.ofW (cc := b_MN_init) (maxL := 1) (ret := none) (by decide) rfl ?_
  intro p e s m args below meth c s₁ B hml hv
  obtain ⟨rfl, hsz, hP, hK, hD0, hSW, hszl⟩ := hv
  have hx := B.exec
  have hb := B.bytes
  have hr := B.returns
  have hts0 := atoms_spec (ws := w_MN_init) B.pre
  have hts : ∀ w ∈ lw_g, w.before _ s = true := fun w h => hts0 w (List.mem_cons_of_mem _ h)
  have hown : s.vm.findClass R_MN = some m.cls := findClass_of_methodNamed B.named
  have hlocks := B.notSynchronized
  clear hts0
  subst hsz
  subst hszl
  have hD := hD0.self (sz := s.heap.size)
  generalize hAe : va_A (wz_511 h0 h0_op h0_place h0_name h0_value h0_type h0_parts h0_count h0_index h0_global) s.heap.size = A at hD hSW ⊢
  have hA : ∀ q : Nat, s.heap.size ≤ q → A q := fun q h => by rw [← hAe]; exact Or.inr h
  clear hAe
  have hP : va_P (dC, dI) cls2 (wz_511 h0 h0_op h0_place h0_name h0_value h0_type h0_parts h0_count h0_index h0_global) s.heap := hP
  have hl := lv_entry ([.ref h0]) (n := 1) (Nat.le_of_ble_eq_true rfl)
  rw [lg_entry_eq]
  generalize (lg_sl ([.ref h0]) ++ List.replicate (1 - (lg_sl ([.ref h0])).length) Slot.unset).toArray = ls at hl ⊢
  have hl : lv_has ls 1 [(0, .ref h0)] := hl
  have k0 : (0 : Int32).toInt = 0 := by decide
  refine w_gen (A := A) hP (fun H locs hP hS => ?_)
  have k2 : (2 : Int32).toInt = 2 := by decide
  have hin : meth.name = "<init>" := (name_of_methodNamed B.named B.method).1
  refine lv_aload_n hx hb d_MN_init_0 rfl (lv_at hl 0 rfl) ?_
  refine W.objInit hx hb hown (hts _ kM_MN_1) (hts _ kV_oi) (hts _ kC_oi) rfl (by rw [hml]; exact hl.1) rfl d_MN_init_1 (Nat.le_of_ble_eq_true rfl) (Nat.le_of_ble_eq_true rfl) ?_
  refine W.eq (g2 := F0 m 4 ls []) rfl ?_
  refine lv_aload_n hx hb d_MN_init_4 rfl (lv_at hl 0 rfl) ?_
  refine lv_iconst (v := 2) hx hb d_MN_init_5 (by decide) ?_
  refine vn_newq (C := "WaferForgeModel$N") hx hb hown (hts _ kK_MN_7) (hSW.aoN) hK hP hD hS hA 0 rfl 2 (by decide) rfl (by (first | (apply Int.le_antisymm <;> omega) | omega)) (by dsimp only [headSpec]; (first | (apply Int.le_antisymm <;> omega) | omega)) (by dsimp only [headSpec]; (first | (apply Int.le_antisymm <;> omega) | omega)) d_MN_init_6 (fun nq6 H hP hD hS => ?_)
  have hP : va_P (dC, dI) cls2 [(h0, .inr (13, [.int h0_op, .int h0_place, h0_name, .long h0_value, .int h0_type, h0_parts, .int h0_count, .int h0_index, .int h0_global])), (nq6, .inl (cpn, 2, .inr (.inr (.inr (.inr (fun _ => none))))))] H := hP
  have hD : va_D A [(h0, .inr (13, [.int h0_op, .int h0_place, h0_name, .long h0_value, .int h0_type, h0_parts, .int h0_count, .int h0_index, .int h0_global])), (nq6, .inl (cpn, 2, .inr (.inr (.inr (.inr (fun _ => none))))))] := hD
  refine va_put (D := (dC, dI)) (ci := 13) (v := .ref nq6) (ty := .array (.object "WaferForgeModel$N")) (C := R_MN) (T := F_MN) (N := 9) hx hb hts i_MN t_MN t_MN_ok n_MN hown hK hP hD hS 0 rfl rfl 5 (by decide) (hts _ kF_MN_9) (fun _ h9 => h9) rfl (by decide +kernel) rfl rfl (Nat.le_of_ble_eq_true rfl) d_MN_init_9 (fun H locs hP hD hS => ?_)
  have hP9 := hP.sb (wq := [(h0, .inr (13, [.int h0_op, .int h0_place, h0_name, .long h0_value, .int h0_type, .ref nq6, .int h0_count, .int h0_index, .int h0_global])), (nq6, .inl (cpn, 2, .inr (.inr (.inr (.inr (fun _ => none))))))]) [0, 1] rfl
  have hD9 := hD.sb (wq := [(h0, .inr (13, [.int h0_op, .int h0_place, h0_name, .long h0_value, .int h0_type, .ref nq6, .int h0_count, .int h0_index, .int h0_global])), (nq6, .inl (cpn, 2, .inr (.inr (.inr (.inr (fun _ => none))))))]) [0, 1] (by decide) rfl
  refine w_known (fun hzc hzs => ?_)
  refine W.widen (k := 1) (n := 2) (by (first | (apply Int.le_antisymm <;> omega) | omega)) (by (first | (apply Int.le_antisymm <;> omega) | omega)) ?_
  exact W.vret hx hb hr (fun t ht hW => ⟨⟨(fun _ => none, 0 + 1, 0 + 2, 2, nq6), rfl, (⟨by (first | (apply Int.le_antisymm <;> omega) | omega), by (first | (apply Int.le_antisymm <;> omega) | omega), by (first | (apply Int.le_antisymm <;> omega) | omega)⟩), va_P.he ht.symm hP9, va_K.moved hW.alike hK, hD9, by rw [ht]; exact hzc, by rw [ht]; exact hzs⟩, hS.F ht⟩) hS.2.2 d_MN_init_12
abbrev b_MD_node : ByteArray := prog_15_method_13_code
def y_MD_node : MethodName := ⟨R_MD, "node", "(II)LWaferForgeModel$N;"⟩
abbrev w_MD_node : List Cond := .code y_MD_node b_MD_node 4 (Option.some (.object "WaferForgeModel$N")) :: lw_g
theorem kC_MD_node : Cond.code y_MD_node b_MD_node 4 (Option.some (.object "WaferForgeModel$N")) ∈ lw_g := in_c11 179 rfl rfl
theorem d_MD_node_0 : decode b_MD_node 0 = .ok (.new 126, 3) := bz_c187 (by decide +kernel)
theorem d_MD_node_3 : decode b_MD_node 3 = .ok (.dup, 1) := bz_c89 (by decide +kernel)
theorem d_MD_node_4 : decode b_MD_node 4 = .ok (.invokespecial 128, 3) := bz_c183 (by decide +kernel)
theorem d_MD_node_7 : decode b_MD_node 7 = .ok (.astore_n 3, 1) := bz_c78 (by decide +kernel)
theorem d_MD_node_8 : decode b_MD_node 8 = .ok (.aload_n 3, 1) := bz_c45 (by decide +kernel)
theorem d_MD_node_9 : decode b_MD_node 9 = .ok (.iload_n 1, 1) := bz_c27 (by decide +kernel)
theorem d_MD_node_10 : decode b_MD_node 10 = .ok (.putfield 129, 3) := bz_c181 (by decide +kernel)
theorem d_MD_node_13 : decode b_MD_node 13 = .ok (.aload_n 3, 1) := bz_c45 (by decide +kernel)
theorem d_MD_node_14 : decode b_MD_node 14 = .ok (.iload_n 2, 1) := bz_c28 (by decide +kernel)
theorem d_MD_node_15 : decode b_MD_node 15 = .ok (.putfield 132, 3) := bz_c181 (by decide +kernel)
theorem d_MD_node_18 : decode b_MD_node 18 = .ok (.aload_n 3, 1) := bz_c45 (by decide +kernel)
theorem d_MD_node_19 : decode b_MD_node 19 = .ok (.areturn, 1) := bz_c176 (by decide +kernel)
theorem kV_MN_init : Cond.instanceMethod y_MN_init ∈ lw_g := in_c11 183 rfl rfl
theorem kK_MD_126 : Cond.classLink R_MD 126 "WaferForgeModel$N" ∈ lw_g := in_c11 180 rfl rfl
theorem kN_MN : Cond.instantiable R_MN 9 ∈ lw_g := in_c11 181 rfl rfl
abbrev at_MD_node (dC : Nat → ClassId) (dI : Nat → Nat → Nat) (sz szl : Nat) (sa : Nat → Nat) (h0 rf tap h0_globalNames_r h0_globalPlaces_r h0_globalTypes_r h0_globalValues_r h0_funs_r h0_levels_r h0_known_r mad mag h0_smalls_r h0_greats_r h0_module_r h0_spare_r blk stk hgt lab ous kis los mem glo val ffu fre fba fla lat lhe rsl arg : Nat) (cpn : ClassId) (h0_taped : Int32) (h0_length : Int32) (h0_kind : Int32) (h0_from : Int32) (h0_to : Int32) (h0_word : Value) (h0_numeral : Int64) (h0_globalCount : Int32) (h0_funCount : Int32) (h0_open : Int32) (h0_signs : Int32) (h0_now : Value) (h0_knownCount : Int32) (h0_loops : Int32) (h0_madeLength : Int32) (h0_m : Value) (h0_cursor : Int32) (h0_limit : Int32) (h0_top : Int32) (h0_depth : Int32) (h0_function : Int32) (h0_pages : Int32) (h0_valueTop : Int32) (h0_frames : Int32) (h0_labelTop : Int32) (h0_steps : Int32) (h0_there : Int32) (h0_resultLength : Int32) (h0_reason : Int32) (h0_place : Int32) (h0_argumentCount : Int32) (h0_code : Int32) (A : Nat → Prop) (u : (Nat → Option Nat) × Int32 × Int32 × Nat × Nat × Nat × Nat × Nat) (t : State) : Prop := match u with | (gnw, ns_op, ns_place, kcz, knz, nnw, ns, nw) => va_P (dC, dI) cls2 (wz_512 h0 rf tap h0_taped h0_length h0_kind h0_from h0_to h0_word h0_numeral h0_globalNames_r h0_globalPlaces_r h0_globalTypes_r h0_globalValues_r h0_globalCount h0_funs_r h0_funCount h0_open h0_signs h0_levels_r h0_now h0_known_r h0_knownCount h0_loops mad h0_madeLength mag h0_smalls_r h0_greats_r h0_module_r h0_spare_r h0_m h0_cursor h0_limit blk stk h0_top hgt lab ous kis los h0_depth h0_function mem h0_pages glo val h0_valueTop ffu fre fba fla h0_frames lat lhe h0_labelTop h0_steps h0_there rsl h0_resultLength h0_reason h0_place arg h0_argumentCount h0_code ns ns_op ns_place 0 0 nw 0 0 0 nw cpn nnw gnw) t.heap ∧ va_K (dC, dI) cls2 [(cpn, .object "WaferForgeModel$N")] t ∧ va_D A (wz_512 h0 rf tap h0_taped h0_length h0_kind h0_from h0_to h0_word h0_numeral h0_globalNames_r h0_globalPlaces_r h0_globalTypes_r h0_globalValues_r h0_globalCount h0_funs_r h0_funCount h0_open h0_signs h0_levels_r h0_now h0_known_r h0_knownCount h0_loops mad h0_madeLength mag h0_smalls_r h0_greats_r h0_module_r h0_spare_r h0_m h0_cursor h0_limit blk stk h0_top hgt lab ous kis los h0_depth h0_function mem h0_pages glo val h0_valueTop ffu fre fba fla h0_frames lat lhe h0_labelTop h0_steps h0_there rsl h0_resultLength h0_reason h0_place arg h0_argumentCount h0_code ns ns_op ns_place 0 0 nw 0 0 0 nw cpn nnw gnw) ∧ t.heap.size ≤ sz + kcz ∧ hsl t.heap ≤ szl + knz
set_option maxHeartbeats 4000000 in
set_option maxRecDepth 100000 in
theorem c_MD_node (l : Launch) (hlt : l.stackTraces = false) (dC : Nat → ClassId) (dI : Nat → Nat → Nat) (sz : Nat) (szl : Nat) (sa : Nat → Nat) (h0 rf tap h0_globalNames_r h0_globalPlaces_r h0_globalTypes_r h0_globalValues_r h0_funs_r h0_levels_r h0_known_r mad mag h0_smalls_r h0_greats_r h0_module_r h0_spare_r blk stk hgt lab ous kis los mem glo val ffu fre fba fla lat lhe rsl arg : Nat) (cpn : ClassId) (h0_taped : Int32) (h0_length : Int32) (h0_kind : Int32) (h0_from : Int32) (h0_to : Int32) (h0_word : Value) (h0_numeral : Int64) (h0_globalCount : Int32) (h0_funCount : Int32) (h0_open : Int32) (h0_signs : Int32) (h0_now : Value) (h0_knownCount : Int32) (h0_loops : Int32) (h0_madeLength : Int32) (h0_m : Value) (h0_cursor : Int32) (h0_limit : Int32) (h0_top : Int32) (h0_depth : Int32) (h0_function : Int32) (h0_pages : Int32) (h0_valueTop : Int32) (h0_frames : Int32) (h0_labelTop : Int32) (h0_steps : Int32) (h0_there : Int32) (h0_resultLength : Int32) (h0_reason : Int32) (h0_place : Int32) (h0_argumentCount : Int32) (h0_code : Int32)   (p1 : Int32) (p2 : Int32)   : Met l y_MD_node w_MD_node ({ frames := 2, cells := 2, slots := 11, locals := 40 }) (va_Pc [.ref h0, .int p1, .int p2] (fun U => U.heap.size = sz ∧ va_P (dC, dI) cls2 (wz_306 h0 rf tap h0_taped h0_length h0_kind h0_from h0_to h0_word h0_numeral h0_globalNames_r h0_globalPlaces_r h0_globalTypes_r h0_globalValues_r h0_globalCount h0_funs_r h0_funCount h0_open h0_signs h0_levels_r h0_now h0_known_r h0_knownCount h0_loops mad h0_madeLength mag h0_smalls_r h0_greats_r h0_module_r h0_spare_r h0_m h0_cursor h0_limit blk stk h0_top hgt lab ous kis los h0_depth h0_function mem h0_pages glo val h0_valueTop ffu fre fba fla h0_frames lat lhe h0_labelTop h0_steps h0_there rsl h0_resultLength h0_reason h0_place arg h0_argumentCount h0_code) U.heap ∧ va_K (dC, dI) cls2 [(cpn, .object "WaferForgeModel$N")] U ∧ va_D (fun _ => True) (wz_306 h0 rf tap h0_taped h0_length h0_kind h0_from h0_to h0_word h0_numeral h0_globalNames_r h0_globalPlaces_r h0_globalTypes_r h0_globalValues_r h0_globalCount h0_funs_r h0_funCount h0_open h0_signs h0_levels_r h0_now h0_known_r h0_knownCount h0_loops mad h0_madeLength mag h0_smalls_r h0_greats_r h0_module_r h0_spare_r h0_m h0_cursor h0_limit blk stk h0_top hgt lab ous kis los h0_depth h0_function mem h0_pages glo val h0_valueTop ffu fre fba fla h0_frames lat lhe h0_labelTop h0_steps h0_there rsl h0_resultLength h0_reason h0_place arg h0_argumentCount h0_code) ∧ sm sa (va_A (wz_306 h0 rf tap h0_taped h0_length h0_kind h0_from h0_to h0_word h0_numeral h0_globalNames_r h0_globalPlaces_r h0_globalTypes_r h0_globalValues_r h0_globalCount h0_funs_r h0_funCount h0_open h0_signs h0_levels_r h0_now h0_known_r h0_knownCount h0_loops mad h0_madeLength mag h0_smalls_r h0_greats_r h0_module_r h0_spare_r h0_m h0_cursor h0_limit blk stk h0_top hgt lab ous kis los h0_depth h0_function mem h0_pages glo val h0_valueTop ffu fre fba fla h0_frames lat lhe h0_labelTop h0_steps h0_there rsl h0_resultLength h0_reason h0_place arg h0_argumentCount h0_code) sz) U U.heap ∧ hsl U.heap = szl)) (va_Qr (fun (u : (Nat → Option Nat) × Int32 × Int32 × Nat × Nat × Nat × Nat × Nat) => match u with | (gnw2, ns_op2, ns_place2, kcz2, knz2, nnw2, ns2, nw2) => (nnw2 = 2 ∧ kcz2 = 2 ∧ knz2 = 11 ∧ ns_op2 = p1 ∧ ns_place2 = p2)) (fun (u : (Nat → Option Nat) × Int32 × Int32 × Nat × Nat × Nat × Nat × Nat) (ra : Nat) (t : State) => (match u with | (gnw, ns_op, ns_place, kcz, knz, nnw, ns, nw) => ns) = ra ∧ (at_MD_node dC dI sz szl sa h0 rf tap h0_globalNames_r h0_globalPlaces_r h0_globalTypes_r h0_globalValues_r h0_funs_r h0_levels_r h0_known_r mad mag h0_smalls_r h0_greats_r h0_module_r h0_spare_r blk stk hgt lab ous kis los mem glo val ffu fre fba fla lat lhe rsl arg cpn h0_taped h0_length h0_kind h0_from h0_to h0_word h0_numeral h0_globalCount h0_funCount h0_open h0_signs h0_now h0_knownCount h0_loops h0_madeLength h0_m h0_cursor h0_limit h0_top h0_depth h0_function h0_pages h0_valueTop h0_frames h0_labelTop h0_steps h0_there h0_resultLength h0_reason h0_place h0_argumentCount h0_code (va_A (wz_306 h0 rf tap h0_taped h0_length h0_kind h0_from h0_to h0_word h0_numeral h0_globalNames_r h0_globalPlaces_r h0_globalTypes_r h0_globalValues_r h0_globalCount h0_funs_r h0_funCount h0_open h0_signs h0_levels_r h0_now h0_known_r h0_knownCount h0_loops mad h0_madeLength mag h0_smalls_r h0_greats_r h0_module_r h0_spare_r h0_m h0_cursor h0_limit blk stk h0_top hgt lab ous kis los h0_depth h0_function mem h0_pages glo val h0_valueTop ffu fre fba fla h0_frames lat lhe h0_labelTop h0_steps h0_there rsl h0_resultLength h0_reason h0_place arg h0_argumentCount h0_code) sz)) u t) (va_A (wz_306 h0 rf tap h0_taped h0_length h0_kind h0_from h0_to h0_word h0_numeral h0_globalNames_r h0_globalPlaces_r h0_globalTypes_r h0_globalValues_r h0_globalCount h0_funs_r h0_funCount h0_open h0_signs h0_levels_r h0_now h0_known_r h0_knownCount h0_loops mad h0_madeLength mag h0_smalls_r h0_greats_r h0_module_r h0_spare_r h0_m h0_cursor h0_limit blk stk h0_top hgt lab ous kis los h0_depth h0_function mem h0_pages glo val h0_valueTop ffu fre fba fla h0_frames lat lhe h0_labelTop h0_steps h0_there rsl h0_resultLength h0_reason h0_place arg h0_argumentCount h0_code) sz)) (2) (11) (va_A (wz_306 h0 rf tap h0_taped h0_length h0_kind h0_from h0_to h0_word h0_numeral h0_globalNames_r h0_globalPlaces_r h0_globalTypes_r h0_globalValues_r h0_globalCount h0_funs_r h0_funCount h0_open h0_signs h0_levels_r h0_now h0_known_r h0_knownCount h0_loops mad h0_madeLength mag h0_smalls_r h0_greats_r h0_module_r h0_spare_r h0_m h0_cursor h0_limit blk stk h0_top hgt lab ous kis los h0_depth h0_function mem h0_pages glo val h0_valueTop ffu fre fba fla h0_frames lat lhe h0_labelTop h0_steps h0_there rsl h0_resultLength h0_reason h0_place arg h0_argumentCount h0_code) sz) := by
  refine Met.ofW (cc := b_MD_node) (maxL := 4) (ret := (Option.some (.object "WaferForgeModel$N"))) (by decide) rfl ?_
  intro p e s m args below meth c s₁ B hml hv
  obtain ⟨rfl, hsz, hP, hK, hD0, hSW, hszl⟩ := hv
  have hx := B.exec
  have hb := B.bytes
  have hr := B.returns
  have hts0 := atoms_spec (ws := w_MD_node) B.pre
  have hts : ∀ w ∈ lw_g, w.before _ s = true := fun w h => hts0 w (List.mem_cons_of_mem _ h)
  have hown : s.vm.findClass R_MD = some m.cls := findClass_of_methodNamed B.named
  have hlocks := B.notSynchronized
  clear hts0
  subst hsz
  subst hszl
  have hD := hD0.self (sz := s.heap.size)
  generalize hAe : va_A (wz_306 h0 rf tap h0_taped h0_length h0_kind h0_from h0_to h0_word h0_numeral h0_globalNames_r h0_globalPlaces_r h0_globalTypes_r h0_globalValues_r h0_globalCount h0_funs_r h0_funCount h0_open h0_signs h0_levels_r h0_now h0_known_r h0_knownCount h0_loops mad h0_madeLength mag h0_smalls_r h0_greats_r h0_module_r h0_spare_r h0_m h0_cursor h0_limit blk stk h0_top hgt lab ous kis los h0_depth h0_function mem h0_pages glo val h0_valueTop ffu fre fba fla h0_frames lat lhe h0_labelTop h0_steps h0_there rsl h0_resultLength h0_reason h0_place arg h0_argumentCount h0_code) s.heap.size = A at hD hSW ⊢
  have hA : ∀ q : Nat, s.heap.size ≤ q → A q := fun q h => by rw [← hAe]; exact Or.inr h
  clear hAe
  have hP : va_P (dC, dI) cls2 (wz_306 h0 rf tap h0_taped h0_length h0_kind h0_from h0_to h0_word h0_numeral h0_globalNames_r h0_globalPlaces_r h0_globalTypes_r h0_globalValues_r h0_globalCount h0_funs_r h0_funCount h0_open h0_signs h0_levels_r h0_now h0_known_r h0_knownCount h0_loops mad h0_madeLength mag h0_smalls_r h0_greats_r h0_module_r h0_spare_r h0_m h0_cursor h0_limit blk stk h0_top hgt lab ous kis los h0_depth h0_function mem h0_pages glo val h0_valueTop ffu fre fba fla h0_frames lat lhe h0_labelTop h0_steps h0_there rsl h0_resultLength h0_reason h0_place arg h0_argumentCount h0_code) s.heap := hP
  have hl := lv_entry ([.ref h0, .int p1, .int p2]) (n := 4) (Nat.le_of_ble_eq_true rfl)
  rw [lg_entry_eq]
  generalize (lg_sl ([.ref h0, .int p1, .int p2]) ++ List.replicate (4 - (lg_sl ([.ref h0, .int p1, .int p2])).length) Slot.unset).toArray = ls at hl ⊢
  have hl : lv_has ls 4 [(0, .ref h0), (1, .int p1), (2, .int p2)] := hl
  have k0 : (0 : Int32).toInt = 0 := by decide
  refine w_gen (A := A) hP (fun H locs hP hS => ?_)
  have lo_p1 := i32_lo p1
  have hi_p1 := i32_hi p1
  have lo_p2 := i32_lo p2
  have hi_p2 := i32_hi p2
  refine va_new (ci := 13) (fs := [.int 0, .int 0, .null, .long 0, .int 0, .null, .int 0, .int 0, .int 0]) (C := R_MN) (T := F_MN) (N := 9) hx hb hts i_MN t_MN t_MN_ok hown (hts _ kK_MD_126) (hts _ kN_MN) (hts _ kI_MN) hK hP hD hS hA rfl (lt_all (by decide)) (by dsimp only [headSpec]; (first | (apply Int.le_antisymm <;> omega) | omega)) (by dsimp only [headSpec]; (first | (apply Int.le_antisymm <;> omega) | omega)) d_MD_node_0 (fun nq0 H hP hD hS => ?_)
  have hP : va_P (dC, dI) cls2 [(h0, .inr (11, (.ref rf :: .ref tap :: .int h0_taped :: .int h0_length :: .int h0_kind :: .int h0_from :: .int h0_to :: h0_word :: .long h0_numeral :: .ref h0_globalNames_r :: .ref h0_globalPlaces_r :: .ref h0_globalTypes_r :: .ref h0_globalValues_r :: .int h0_globalCount :: .ref h0_funs_r :: .int h0_funCount :: .int h0_open :: .int h0_signs :: .ref h0_levels_r :: h0_now :: .ref h0_known_r :: .int h0_knownCount :: .int h0_loops :: .ref mad :: .int h0_madeLength :: .ref mag :: .ref h0_smalls_r :: .ref h0_greats_r :: .ref h0_module_r :: .ref h0_spare_r :: h0_m :: .int h0_cursor :: .int h0_limit :: [ .ref blk, .ref stk, .int h0_top, .ref hgt, .ref lab, .ref ous, .ref kis, .ref los, .int h0_depth, .int h0_function, .ref mem, .int h0_pages, .ref glo, .ref val, .int h0_valueTop, .ref ffu, .ref fre, .ref fba, .ref fla, .int h0_frames, .ref lat, .ref lhe, .int h0_labelTop, .int h0_steps, .int h0_there, .ref rsl, .int h0_resultLength, .int h0_reason, .int h0_place, .ref arg, .int h0_argumentCount, .int h0_code]))), (nq0, .inr (13, [.int 0, .int 0, .null, .long 0, .int 0, .null, .int 0, .int 0, .int 0]))] H := hP
  have hD : va_D A [(h0, .inr (11, (.ref rf :: .ref tap :: .int h0_taped :: .int h0_length :: .int h0_kind :: .int h0_from :: .int h0_to :: h0_word :: .long h0_numeral :: .ref h0_globalNames_r :: .ref h0_globalPlaces_r :: .ref h0_globalTypes_r :: .ref h0_globalValues_r :: .int h0_globalCount :: .ref h0_funs_r :: .int h0_funCount :: .int h0_open :: .int h0_signs :: .ref h0_levels_r :: h0_now :: .ref h0_known_r :: .int h0_knownCount :: .int h0_loops :: .ref mad :: .int h0_madeLength :: .ref mag :: .ref h0_smalls_r :: .ref h0_greats_r :: .ref h0_module_r :: .ref h0_spare_r :: h0_m :: .int h0_cursor :: .int h0_limit :: [ .ref blk, .ref stk, .int h0_top, .ref hgt, .ref lab, .ref ous, .ref kis, .ref los, .int h0_depth, .int h0_function, .ref mem, .int h0_pages, .ref glo, .ref val, .int h0_valueTop, .ref ffu, .ref fre, .ref fba, .ref fla, .int h0_frames, .ref lat, .ref lhe, .int h0_labelTop, .int h0_steps, .int h0_there, .ref rsl, .int h0_resultLength, .int h0_reason, .int h0_place, .ref arg, .int h0_argumentCount, .int h0_code]))), (nq0, .inr (13, [.int 0, .int 0, .null, .long 0, .int 0, .null, .int 0, .int 0, .int 0]))] := hD
  refine lv_dup hx hb d_MD_node_3 rfl ?_
  refine w_known (fun hzc hzs => ?_)
  have hPc := hP.sb (wq := (wz_513 nq0 0 0 0 0 0 0 0)) [1] rfl
  have hDc := hD.sb (wq := (wz_513 nq0 0 0 0 0 0 0 0)) [1] (by decide) rfl
  have hKc := hK.sb (tyq := [(cpn, .object "WaferForgeModel$N")]) [0] rfl
  have hFc := va_free (wc := (wz_513 nq0 0 0 0 0 0 0 0)) hD hS hA [1] rfl
  refine va_callv (va_runIN (As := []) (rest := [.ref nq0]) ⟨hx, hb, hml, hown, hts⟩ (c_MN_init l hlt dC dI H.size (hsl H) sa nq0 cpn 0 0 .null 0 0 .null 0 0 0) ⟨va_cnB 0 hts (gW kC_MN_init) rfl rfl rfl (sm_nm (k := 7) hSW rfl) (hts _ kI_MN) (by decide +kernel) ⟨Nat.le_of_ble_eq_true rfl, Nat.le_of_ble_eq_true rfl⟩, rfl, hts _ kV_MN_init⟩ ⟨fun a U g mk z => by obtain ⟨z0, z1, zP, zK, zD, zS, zZ⟩ := z; exact ⟨z0, z1, zP, va_K.moved (u := U) (U := U.calling g mk a) (Vm.Alike.refl U.vm) zK, zD, sm.same (u := U) (U := U.calling g mk a) rfl zS, zZ⟩, fun U hU hW => ⟨rfl, by rw [hU], va_P.he hU.symm hPc, va_K.moved hW.alike hKc, hDc.weaken (fun _ _ _ _ => trivial), hSW.call hS hFc hW hU, by rw [hU]⟩⟩ rfl rfl hl.1 rfl (lv_room (Nat.le_of_ble_eq_true rfl)) d_MD_node_4 ⟨by dsimp only [headSpec]; (first | (apply Int.le_antisymm <;> omega) | omega), by dsimp only [headSpec]; (first | (apply Int.le_antisymm <;> omega) | omega)⟩) hS (fun q _ h => hFc q h) hFc (fun u t H1 locs ht hvm hw hB hz1 hk1 hS => ?_)
  obtain ⟨n2, n3, n4, n5, nq4_nw⟩ := u
  try dsimp only at hw
  have xr1 := hw
  try clear hw
  obtain ⟨y1, y2, y3⟩ := xr1
  obtain ⟨hP1, hK1, hD1, hZc, hZs⟩ := hB
  rw [ht] at hP1 hZc hZs
  obtain ⟨kc6, ekc6⟩ : ∃ z : Nat, z = 0 + 1 + n3 := ⟨_, rfl⟩
  obtain ⟨kn7, ekn7⟩ : ∃ z : Nat, z = 0 + 9 + n4 := ⟨_, rfl⟩
  refine w_refund (c2 := kc6) (n2 := kn7) (by (first | (apply Int.le_antisymm <;> omega) | omega)) (by (first | (apply Int.le_antisymm <;> omega) | omega)) ?_
  clear hzc hzs hZc hZs
  obtain ⟨hP, hD⟩ := va_join (wr := (wz_306 h0 rf tap h0_taped h0_length h0_kind h0_from h0_to h0_word h0_numeral h0_globalNames_r h0_globalPlaces_r h0_globalTypes_r h0_globalValues_r h0_globalCount h0_funs_r h0_funCount h0_open h0_signs h0_levels_r h0_now h0_known_r h0_knownCount h0_loops mad h0_madeLength mag h0_smalls_r h0_greats_r h0_module_r h0_spare_r h0_m h0_cursor h0_limit blk stk h0_top hgt lab ous kis los h0_depth h0_function mem h0_pages glo val h0_valueTop ffu fre fba fla h0_frames lat lhe h0_labelTop h0_steps h0_there rsl h0_resultLength h0_reason h0_place arg h0_argumentCount h0_code)) (w1 := (wz_514 nq0 0 0 0 0 nq4_nw 0 0 0 nq4_nw cpn n5 n2)) hP hD [1] [0] rfl rfl (by decide) (by decide) hk1 hFc hP1 hD1
  clear hPc hDc hKc hFc hz1 hk1 hP1 hK1 hD1
  rename Heap => H
  have hP : va_P (dC, dI) cls2 (wz_512 h0 rf tap h0_taped h0_length h0_kind h0_from h0_to h0_word h0_numeral h0_globalNames_r h0_globalPlaces_r h0_globalTypes_r h0_globalValues_r h0_globalCount h0_funs_r h0_funCount h0_open h0_signs h0_levels_r h0_now h0_known_r h0_knownCount h0_loops mad h0_madeLength mag h0_smalls_r h0_greats_r h0_module_r h0_spare_r h0_m h0_cursor h0_limit blk stk h0_top hgt lab ous kis los h0_depth h0_function mem h0_pages glo val h0_valueTop ffu fre fba fla h0_frames lat lhe h0_labelTop h0_steps h0_there rsl h0_resultLength h0_reason h0_place arg h0_argumentCount h0_code nq0 0 0 0 0 nq4_nw 0 0 0 nq4_nw cpn n5 n2) H := hP
  have hD : va_D A (wz_512 h0 rf tap h0_taped h0_length h0_kind h0_from h0_to h0_word h0_numeral h0_globalNames_r h0_globalPlaces_r h0_globalTypes_r h0_globalValues_r h0_globalCount h0_funs_r h0_funCount h0_open h0_signs h0_levels_r h0_now h0_known_r h0_knownCount h0_loops mad h0_madeLength mag h0_smalls_r h0_greats_r h0_module_r h0_spare_r h0_m h0_cursor h0_limit blk stk h0_top hgt lab ous kis los h0_depth h0_function mem h0_pages glo val h0_valueTop ffu fre fba fla h0_frames lat lhe h0_labelTop h0_steps h0_there rsl h0_resultLength h0_reason h0_place arg h0_argumentCount h0_code nq0 0 0 0 0 nq4_nw 0 0 0 nq4_nw cpn n5 n2) := hD
  refine lv_astore_n (lv' := [(3, .ref nq0), (0, .ref h0), (1, .int p1), (2, .int p2)]) hx hb d_MD_node_7 rfl hl (by decide) rfl (fun ls hl => ?_)
  refine lv_aload_n hx hb d_MD_node_8 rfl (lv_at hl 0 rfl) ?_
  refine lv_iload_n hx hb d_MD_node_9 rfl (lv_at hl 2 rfl) ?_
  refine va_putN (D := (dC, dI)) (ci := 13) (v := .int p1) (ty := .int) (C := R_MN) (T := F_MN) (N := 9) hx hb hts i_MN t_MN t_MN_ok n_MN hown hK hP hD hS 1 rfl rfl 0 (by decide) (sm_f (k := 44) hSW rfl) (fun _ h9 => h9) rfl (by decide +kernel) rfl rfl (Nat.le_of_ble_eq_true rfl) d_MD_node_10 (fun H locs hP hD hS => ?_)
  refine lv_aload_n hx hb d_MD_node_13 rfl (lv_at hl 0 rfl) ?_
  refine lv_iload_n hx hb d_MD_node_14 rfl (lv_at hl 3 rfl) ?_
  refine va_putN (D := (dC, dI)) (ci := 13) (v := .int p2) (ty := .int) (C := R_MN) (T := F_MN) (N := 9) hx hb hts i_MN t_MN t_MN_ok n_MN hown hK hP hD hS 1 rfl rfl 1 (by decide) (sm_f (k := 45) hSW rfl) (fun _ h9 => h9) rfl (by decide +kernel) rfl rfl (Nat.le_of_ble_eq_true rfl) d_MD_node_15 (fun H locs hP hD hS => ?_)
  refine lv_aload_n hx hb d_MD_node_18 rfl (lv_at hl 0 rfl) ?_
  have hP9 := hP.sb (wq := (wz_512 h0 rf tap h0_taped h0_length h0_kind h0_from h0_to h0_word h0_numeral h0_globalNames_r h0_globalPlaces_r h0_globalTypes_r h0_globalValues_r h0_globalCount h0_funs_r h0_funCount h0_open h0_signs h0_levels_r h0_now h0_known_r h0_knownCount h0_loops mad h0_madeLength mag h0_smalls_r h0_greats_r h0_module_r h0_spare_r h0_m h0_cursor h0_limit blk stk h0_top hgt lab ous kis los h0_depth h0_function mem h0_pages glo val h0_valueTop ffu fre fba fla h0_frames lat lhe h0_labelTop h0_steps h0_there rsl h0_resultLength h0_reason h0_place arg h0_argumentCount h0_code nq0 p1 p2 0 0 nq4_nw 0 0 0 nq4_nw cpn n5 n2)) [0, 1, 2] rfl
  have hD9 := hD.sb (wq := (wz_512 h0 rf tap h0_taped h0_length h0_kind h0_from h0_to h0_word h0_numeral h0_globalNames_r h0_globalPlaces_r h0_globalTypes_r h0_globalValues_r h0_globalCount h0_funs_r h0_funCount h0_open h0_signs h0_levels_r h0_now h0_known_r h0_knownCount h0_loops mad h0_madeLength mag h0_smalls_r h0_greats_r h0_module_r h0_spare_r h0_m h0_cursor h0_limit blk stk h0_top hgt lab ous kis los h0_depth h0_function mem h0_pages glo val h0_valueTop ffu fre fba fla h0_frames lat lhe h0_labelTop h0_steps h0_there rsl h0_resultLength h0_reason h0_place arg h0_argumentCount h0_code nq0 p1 p2 0 0 nq4_nw 0 0 0 nq4_nw cpn n5 n2)) [0, 1, 2] (by decide) rfl
  refine w_known (fun hzc hzs => ?_)
  refine W.widen (k := 2) (n := 11) (by (first | (apply Int.le_antisymm <;> omega) | omega)) (by (first | (apply Int.le_antisymm <;> omega) | omega)) ?_
  exact W.aret (v := .ref nq0) hx hb hr (Or.inl ⟨_, rfl⟩) (Or.inr ⟨_, rfl⟩) (fun t ht hW => ⟨⟨(n2, p1, p2, kc6, kn7, n5, nq0, nq4_nw), nq0, rfl, (⟨by (first | (apply Int.le_antisymm <;> omega) | omega), by (first | (apply Int.le_antisymm <;> omega) | omega), by (first | (apply Int.le_antisymm <;> omega) | omega), rfl, rfl⟩), rfl, va_P.he ht.symm hP9, va_K.moved hW.alike hK, hD9, by rw [ht]; exact hzc, by rw [ht]; exact hzs⟩, hS.F ht⟩) hS.2.2 d_MD_node_19
end q_m98
section q_m99
/-! the reference: a part is added -/
theorem up_s {α : Type} {g g2 : Nat → Option α} {n : Nat} {y : α} (e : va_up g n (some y) = g2) : g2 n = some y ∧ ∀ j, j ≠ n → g2 j = g j := by
  subst e
  exact ⟨va_up_self _ _ _, fun j hj => va_up_ne _ _ hj⟩
abbrev b_MN_add : ByteArray := prog_18_method_2_code
def y_MN_add : MethodName := ⟨R_MN, "add", "(LWaferForgeModel$N;)V"⟩
abbrev w_MN_add : List Cond := .code y_MN_add b_MN_add 4 none :: lw_g
theorem kC_MN_add : Cond.code y_MN_add b_MN_add 4 none ∈ lw_g := in_c12 5 rfl rfl
theorem d_MN_add_0 : decode b_MN_add 0 = .ok (.aload_n 0, 1) := bz_c42 (by decide +kernel)
theorem d_MN_add_1 : decode b_MN_add 1 = .ok (.getfield 13, 3) := bz_c180 (by decide +kernel)
theorem d_MN_add_4 : decode b_MN_add 4 = .ok (.aload_n 0, 1) := bz_c42 (by decide +kernel)
theorem d_MN_add_5 : decode b_MN_add 5 = .ok (.getfield 9, 3) := bz_c180 (by decide +kernel)
theorem d_MN_add_8 : decode b_MN_add 8 = .ok (.arraylength, 1) := bz_c190 (by decide +kernel)
theorem d_MN_add_9 : decode b_MN_add 9 = .ok (.if_icmp .ne 43, 3) := bz_c160 (by decide +kernel)
theorem d_MN_add_12 : decode b_MN_add 12 = .ok (.iconst 2, 1) := bz_c5 (by decide +kernel)
theorem d_MN_add_13 : decode b_MN_add 13 = .ok (.aload_n 0, 1) := bz_c42 (by decide +kernel)
theorem d_MN_add_14 : decode b_MN_add 14 = .ok (.getfield 13, 3) := bz_c180 (by decide +kernel)
theorem d_MN_add_17 : decode b_MN_add 17 = .ok (.imul, 1) := bz_c104 (by decide +kernel)
theorem d_MN_add_18 : decode b_MN_add 18 = .ok (.anewarray 7, 3) := bz_c189 (by decide +kernel)
theorem d_MN_add_21 : decode b_MN_add 21 = .ok (.astore_n 2, 1) := bz_c77 (by decide +kernel)
theorem d_MN_add_22 : decode b_MN_add 22 = .ok (.iconst 0, 1) := bz_c3 (by decide +kernel)
theorem d_MN_add_23 : decode b_MN_add 23 = .ok (.istore_n 3, 1) := bz_c62 (by decide +kernel)
theorem d_MN_add_24 : decode b_MN_add 24 = .ok (.iload_n 3, 1) := bz_c29 (by decide +kernel)
theorem d_MN_add_25 : decode b_MN_add 25 = .ok (.aload_n 0, 1) := bz_c42 (by decide +kernel)
theorem d_MN_add_26 : decode b_MN_add 26 = .ok (.getfield 13, 3) := bz_c180 (by decide +kernel)
theorem d_MN_add_29 : decode b_MN_add 29 = .ok (.if_icmp .ge 18, 3) := bz_c162 (by decide +kernel)
theorem d_MN_add_32 : decode b_MN_add 32 = .ok (.aload_n 2, 1) := bz_c44 (by decide +kernel)
theorem d_MN_add_33 : decode b_MN_add 33 = .ok (.iload_n 3, 1) := bz_c29 (by decide +kernel)
theorem d_MN_add_34 : decode b_MN_add 34 = .ok (.aload_n 0, 1) := bz_c42 (by decide +kernel)
theorem d_MN_add_35 : decode b_MN_add 35 = .ok (.getfield 9, 3) := bz_c180 (by decide +kernel)
theorem d_MN_add_38 : decode b_MN_add 38 = .ok (.iload_n 3, 1) := bz_c29 (by decide +kernel)
theorem d_MN_add_39 : decode b_MN_add 39 = .ok (.aaload, 1) := bz_c50 (by decide +kernel)
theorem d_MN_add_40 : decode b_MN_add 40 = .ok (.aastore, 1) := bz_c83 (by decide +kernel)
theorem d_MN_add_41 : decode b_MN_add 41 = .ok (.iinc 3 1, 3) := by decide +kernel
theorem d_MN_add_44 : decode b_MN_add 44 = .ok (.goto (-20), 3) := bz_c167 (by decide +kernel)
theorem d_MN_add_47 : decode b_MN_add 47 = .ok (.aload_n 0, 1) := bz_c42 (by decide +kernel)
theorem d_MN_add_48 : decode b_MN_add 48 = .ok (.aload_n 2, 1) := bz_c44 (by decide +kernel)
theorem d_MN_add_49 : decode b_MN_add 49 = .ok (.putfield 9, 3) := bz_c181 (by decide +kernel)
theorem d_MN_add_52 : decode b_MN_add 52 = .ok (.aload_n 0, 1) := bz_c42 (by decide +kernel)
theorem d_MN_add_53 : decode b_MN_add 53 = .ok (.getfield 9, 3) := bz_c180 (by decide +kernel)
theorem d_MN_add_56 : decode b_MN_add 56 = .ok (.aload_n 0, 1) := bz_c42 (by decide +kernel)
theorem d_MN_add_57 : decode b_MN_add 57 = .ok (.getfield 13, 3) := bz_c180 (by decide +kernel)
theorem d_MN_add_60 : decode b_MN_add 60 = .ok (.aload_n 1, 1) := bz_c43 (by decide +kernel)
theorem d_MN_add_61 : decode b_MN_add 61 = .ok (.aastore, 1) := bz_c83 (by decide +kernel)
theorem d_MN_add_62 : decode b_MN_add 62 = .ok (.aload_n 0, 1) := bz_c42 (by decide +kernel)
theorem d_MN_add_63 : decode b_MN_add 63 = .ok (.dup, 1) := bz_c89 (by decide +kernel)
theorem d_MN_add_64 : decode b_MN_add 64 = .ok (.getfield 13, 3) := bz_c180 (by decide +kernel)
theorem d_MN_add_67 : decode b_MN_add 67 = .ok (.iconst 1, 1) := bz_c4 (by decide +kernel)
theorem d_MN_add_68 : decode b_MN_add 68 = .ok (.iadd, 1) := bz_c96 (by decide +kernel)
theorem d_MN_add_69 : decode b_MN_add 69 = .ok (.putfield 13, 3) := bz_c181 (by decide +kernel)
theorem d_MN_add_72 : decode b_MN_add 72 = .ok (.return_, 1) := bz_c177 (by decide +kernel)
theorem kF_MN_13 : Cond.fieldLink R_MN 13 "WaferForgeModel$N" "count" "I" ∈ lw_g := in_c11 195 rfl rfl
abbrev at_MN_add (dC : Nat → ClassId) (dI : Nat → Nat → Nat) (sz szl : Nat) (sa : Nat → Nat) (h0 pa : Nat) (cpn cr cpb : ClassId) (h0_op : Int32) (h0_place : Int32) (h0_name : Value) (h0_value : Int64) (h0_type : Int32) (h0_index : Int32) (h0_global : Int32) (LP : List Nat) (fP : Nat → va_E) (A : Nat → Prop) (u : (Nat → Option Nat) × Nat × Int32 × Nat × Nat × Nat) (t : State) : Prop := match u with | (gpa, pa, h0_count, kcz, knz, npa) => va_P (dC, dI) cls2 (((wz_510 h0 h0_op h0_place h0_name h0_value h0_type pa h0_count h0_index h0_global pa cpn npa gpa) : va_W) ++ va_pl LP fP) t.heap ∧ va_K (dC, dI) cls2 [(cpn, .object "WaferForgeModel$N"), (cr, .int), (cpb, .byte)] t ∧ va_D A (((wz_510 h0 h0_op h0_place h0_name h0_value h0_type pa h0_count h0_index h0_global pa cpn npa gpa) : va_W) ++ va_pl LP fP) ∧ t.heap.size ≤ sz + kcz ∧ hsl t.heap ≤ szl + knz
set_option maxHeartbeats 4000000 in
set_option maxRecDepth 100000 in
theorem c_MN_add (l : Launch) (hlt : l.stackTraces = false) (dC : Nat → ClassId) (dI : Nat → Nat → Nat) (sz : Nat) (szl : Nat) (sa : Nat → Nat) (h0 pa : Nat) (cpn cr cpb : ClassId) (h0_op : Int32) (h0_place : Int32) (h0_name : Value) (h0_value : Int64) (h0_type : Int32) (h0_count : Int32) (h0_index : Int32) (h0_global : Int32) (npa : Nat) (gpa : Nat → Option Nat) (LP : List Nat) (fP : Nat → va_E)  (b_h0_count : 0 ≤ h0_count.toInt ∧ h0_count.toInt ≤ 50000) (po_n : Nat)  (hn : bx (isN LP fP po_n)) (hel : bx (∀ j : Nat, (j : Int) < h0_count.toInt → ∃ y, gpa j = some y ∧ isN LP fP y)) (hc : h0_count.toInt ≤ (npa : Int) ∧ 1 ≤ npa ∧ npa ≤ 40000) : Met l y_MN_add w_MN_add ({ frames := 0, cells := 1, slots := 2 * h0_count.toInt.toNat, locals := 0 }) (va_Pc [.ref h0, .ref po_n] (fun U => U.heap.size = sz ∧ va_P (dC, dI) cls2 (((wz_510 h0 h0_op h0_place h0_name h0_value h0_type pa h0_count h0_index h0_global pa cpn npa gpa) : va_W) ++ va_pl LP fP) U.heap ∧ va_K (dC, dI) cls2 [(cpn, .object "WaferForgeModel$N"), (cr, .int), (cpb, .byte)] U ∧ va_D (fun _ => True) (((wz_510 h0 h0_op h0_place h0_name h0_value h0_type pa h0_count h0_index h0_global pa cpn npa gpa) : va_W) ++ va_pl LP fP) ∧ sm sa (va_A (((wz_510 h0 h0_op h0_place h0_name h0_value h0_type pa h0_count h0_index h0_global pa cpn npa gpa) : va_W) ++ va_pl LP fP) sz) U U.heap ∧ hsl U.heap = szl)) (va_Qv (fun (u : (Nat → Option Nat) × Nat × Int32 × Nat × Nat × Nat) => match u with | (gpa2, pa2, h0_count2, kcz2, knz2, npa2) => (0 ≤ h0_count2.toInt ∧ h0_count2.toInt ≤ 50000) ∧ (h0_count2.toInt = h0_count.toInt + 1 ∧ gpa2 h0_count.toNatClampNeg = some po_n ∧ (∀ j : Nat, (j : Int) < h0_count.toInt → gpa2 j = gpa j) ∧ ((npa2 = npa ∧ kcz2 = 0 ∧ knz2 = 0) ∨ (h0_count.toInt = (npa : Int) ∧ npa2 = 2 * npa ∧ kcz2 = 1 ∧ knz2 = npa2)) ∧ h0_count2.toInt ≤ (npa2 : Int))) (at_MN_add dC dI sz szl sa h0 pa cpn cr cpb h0_op h0_place h0_name h0_value h0_type h0_index h0_global LP fP (va_A (((wz_510 h0 h0_op h0_place h0_name h0_value h0_type pa h0_count h0_index h0_global pa cpn npa gpa) : va_W) ++ va_pl LP fP) sz)) (va_A (((wz_510 h0 h0_op h0_place h0_name h0_value h0_type pa h0_count h0_index h0_global pa cpn npa gpa) : va_W) ++ va_pl LP fP) sz)) (1) (2 * h0_count.toInt.toNat) (va_A (((wz_510 h0 h0_op h0_place h0_name h0_value h0_type pa h0_count h0_index h0_global pa cpn npa gpa) : va_W) ++ va_pl LP fP) sz) := by
  refine Met.ofW (cc := b_MN_add) (maxL := 4) (ret := none) (by decide) rfl ?_
  intro p e s m args below meth c s₁ B hml hv
  obtain ⟨rfl, hsz, hP, hK, hD0, hSW, hszl⟩ := hv
  have hx := B.exec
  have hb := B.bytes
  have hr := B.returns
  have hts0 := atoms_spec (ws := w_MN_add) B.pre
  have hts : ∀ w ∈ lw_g, w.before _ s = true := fun w h => hts0 w (List.mem_cons_of_mem _ h)
  have hown : s.vm.findClass R_MN = some m.cls := findClass_of_methodNamed B.named
  have hlocks := B.notSynchronized
  clear hts0
  subst hsz
  subst hszl
  have hD := hD0.self (sz := s.heap.size)
  generalize hAe : va_A (((wz_510 h0 h0_op h0_place h0_name h0_value h0_type pa h0_count h0_index h0_global pa cpn npa gpa) : va_W) ++ va_pl LP fP) s.heap.size = A at hD hSW ⊢
  have hA : ∀ q : Nat, s.heap.size ≤ q → A q := fun q h => by rw [← hAe]; exact Or.inr h
  clear hAe
  have hP : va_P (dC, dI) cls2 (((wz_510 h0 h0_op h0_place h0_name h0_value h0_type pa h0_count h0_index h0_global pa cpn npa gpa) : va_W) ++ va_pl LP fP) s.heap := hP
  have hl := lv_entry ([.ref h0, .ref po_n]) (n := 4) (Nat.le_of_ble_eq_true rfl)
  rw [lg_entry_eq]
  generalize (lg_sl ([.ref h0, .ref po_n]) ++ List.replicate (4 - (lg_sl ([.ref h0, .ref po_n])).length) Slot.unset).toArray = ls at hl ⊢
  have hl : lv_has ls 4 [(0, .ref h0), (1, .ref po_n)] := hl
  have k0 : (0 : Int32).toInt = 0 := by decide
  refine w_gen (A := A) hP (fun H locs hP hS => ?_)
  have k1 : (1 : Int32).toInt = 1 := by decide
  have k2 : (2 : Int32).toInt = 2 := by decide
  have hnd := vq_nd hD
  obtain ⟨hn1, vsn, hn2⟩ := hn.out
  refine lv_aload_n hx hb d_MN_add_0 rfl (lv_at hl 0 rfl) ?_
  refine va_get (D := (dC, dI)) (ci := 13) (v := .int h0_count) (C := R_MN) (T := F_MN) (N := 9) hx hb hts i_MN hown hK hP 0 rfl rfl 6 (by decide) (hts _ kF_MN_13) (fun _ h9 => h9) rfl d_MN_add_1 ?_
  refine lv_aload_n hx hb d_MN_add_4 rfl (lv_at hl 0 rfl) ?_
  refine va_get (D := (dC, dI)) (ci := 13) (v := .ref pa) (C := R_MN) (T := F_MN) (N := 9) hx hb hts i_MN hown hK hP 0 rfl rfl 5 (by decide) (hts _ kF_MN_9) (fun _ h9 => h9) rfl d_MN_add_5 ?_
  refine va_alen hx hb hK hP 1 0 rfl rfl rfl d_MN_add_8 ?_
  refine lv_topi (fun x1 ex1 => ?_)
  have tx1 : x1.toInt = npa := by rw [ex1]; exact i32_len (by (first | (apply Int.le_antisymm <;> omega) | omega))
  refine lv_icmp_ne (tgt := 52) hx hb d_MN_add_9 (by decide) (fun c9 => ?_) (fun c9 => ?_)
  · have q9 := neI c9
    refine lv_aload_n hx hb d_MN_add_52 rfl (lv_at hl 0 rfl) ?_
    refine va_get (D := (dC, dI)) (ci := 13) (v := .ref pa) (C := R_MN) (T := F_MN) (N := 9) hx hb hts i_MN hown hK hP 0 rfl rfl 5 (by decide) (hts _ kF_MN_9) (fun _ h9 => h9) rfl d_MN_add_53 ?_
    refine lv_aload_n hx hb d_MN_add_56 rfl (lv_at hl 0 rfl) ?_
    refine va_get (D := (dC, dI)) (ci := 13) (v := .int h0_count) (C := R_MN) (T := F_MN) (N := 9) hx hb hts i_MN hown hK hP 0 rfl rfl 6 (by decide) (hts _ kF_MN_13) (fun _ h9 => h9) rfl d_MN_add_57 ?_
    refine lv_aload_n hx hb d_MN_add_60 rfl (lv_at hl 1 rfl) ?_
    have g61 : vp_in h0_count npa := vp_in_iff.mpr ⟨by (first | (apply Int.le_antisymm <;> omega) | omega), by (first | (apply Int.le_antisymm <;> omega) | omega)⟩
    obtain ⟨q2, hq2⟩ := pl_ix (X := (wz_510 h0 h0_op h0_place h0_name h0_value h0_type pa h0_count h0_index h0_global pa cpn npa gpa)) (L := LP) (f := fP) hn1 hn2
    refine va_astq hx hb hK hP hD hS 1 0 q2 13 rfl rfl hq2 rfl g61 d_MN_add_61 (fun H locs hP hD hS => ?_)
    have hP : va_P (dC, dI) cls2 (([(h0, .inr (13, [.int h0_op, .int h0_place, h0_name, .long h0_value, .int h0_type, .ref pa, .int h0_count, .int h0_index, .int h0_global])), (pa, .inl (cpn, npa, .inr (.inr (.inr (.inr ((va_up gpa h0_count.toNatClampNeg (some po_n))))))))] : va_W) ++ va_pl LP fP) H := hP
    have hD : va_D A (([(h0, .inr (13, [.int h0_op, .int h0_place, h0_name, .long h0_value, .int h0_type, .ref pa, .int h0_count, .int h0_index, .int h0_global])), (pa, .inl (cpn, npa, .inr (.inr (.inr (.inr ((va_up gpa h0_count.toNatClampNeg (some po_n))))))))] : va_W) ++ va_pl LP fP) := hD
    generalize ef3 : va_up gpa h0_count.toNatClampNeg (some po_n) = f3 at hP hD
    have z61 := up_s ef3
    have z60 := i32_clamp (x := h0_count) (by (first | (apply Int.le_antisymm <;> omega) | omega))
    refine lv_aload_n hx hb d_MN_add_62 rfl (lv_at hl 0 rfl) ?_
    refine lv_dup hx hb d_MN_add_63 rfl ?_
    refine va_get (D := (dC, dI)) (ci := 13) (v := .int h0_count) (C := R_MN) (T := F_MN) (N := 9) hx hb hts i_MN hown hK hP 0 rfl rfl 6 (by decide) (hts _ kF_MN_13) (fun _ h9 => h9) rfl d_MN_add_64 ?_
    refine lv_iconst (v := 1) hx hb d_MN_add_67 (by decide) ?_
    refine lv_iadd hx hb d_MN_add_68 ?_
    refine lv_topi (fun x4 ex4 => ?_)
    have tx4 : x4.toInt = h0_count.toInt + 1 := by have z := i32_add ex4 (by (first | (apply Int.le_antisymm <;> omega) | omega)) (by (first | (apply Int.le_antisymm <;> omega) | omega)); first | exact z | (first | (apply Int.le_antisymm <;> omega) | omega)
    refine va_put (D := (dC, dI)) (ci := 13) (v := .int x4) (ty := .int) (C := R_MN) (T := F_MN) (N := 9) hx hb hts i_MN t_MN t_MN_ok n_MN hown hK hP hD hS 0 rfl rfl 6 (by decide) (hts _ kF_MN_13) (fun _ h9 => h9) rfl (by decide +kernel) rfl rfl (Nat.le_of_ble_eq_true rfl) d_MN_add_69 (fun H locs hP hD hS => ?_)
    have hP : va_P (dC, dI) cls2 (((wz_510 h0 h0_op h0_place h0_name h0_value h0_type pa x4 h0_index h0_global pa cpn npa f3) : va_W) ++ va_pl LP fP) H := hP
    have hD : va_D A (((wz_510 h0 h0_op h0_place h0_name h0_value h0_type pa x4 h0_index h0_global pa cpn npa f3) : va_W) ++ va_pl LP fP) := hD
    have hP9 := hP.part (cx := (wz_510 h0 h0_op h0_place h0_name h0_value h0_type pa x4 h0_index h0_global pa cpn npa f3)) [0, 1] rfl
    have hD9 := hD.part (cx := (wz_510 h0 h0_op h0_place h0_name h0_value h0_type pa x4 h0_index h0_global pa cpn npa f3)) [0, 1] (by decide) rfl
    refine w_known (fun hzc hzs => ?_)
    refine W.widen (k := 1) (n := 2 * h0_count.toInt.toNat) (by (first | (apply Int.le_antisymm <;> omega) | omega)) (by (first | (apply Int.le_antisymm <;> omega) | omega)) ?_
    exact W.vret hx hb hr (fun t ht hW => ⟨⟨(f3, pa, x4, 0, 0, npa), rfl, ⟨by (try dsimp only) <;> (first | (apply Int.le_antisymm <;> omega) | omega), ⟨by (try dsimp only) <;> (first | (apply Int.le_antisymm <;> omega) | omega), z61.1, fun j hj => by rw [z61.2 j (by (first | (apply Int.le_antisymm <;> omega) | omega))], by (try dsimp only) <;> (first | (apply Int.le_antisymm <;> omega) | omega), by (try dsimp only) <;> (first | (apply Int.le_antisymm <;> omega) | omega)⟩⟩, va_P.he ht.symm hP9, va_K.moved hW.alike hK, hD9, by rw [ht]; exact hzc, by rw [ht]; exact hzs⟩, hS.F ht⟩) hS.2.2 d_MN_add_72
  · have q9 := eqI c9
    refine lv_iconst (v := 2) hx hb d_MN_add_12 (by decide) ?_
    refine lv_aload_n hx hb d_MN_add_13 rfl (lv_at hl 0 rfl) ?_
    refine va_get (D := (dC, dI)) (ci := 13) (v := .int h0_count) (C := R_MN) (T := F_MN) (N := 9) hx hb hts i_MN hown hK hP 0 rfl rfl 6 (by decide) (hts _ kF_MN_13) (fun _ h9 => h9) rfl d_MN_add_14 ?_
    refine lv_imul hx hb d_MN_add_17 ?_
    refine lv_topi (fun x5 ex5 => ?_)
    have tx5 : x5.toInt = 2 * h0_count.toInt := by have z := i32_mul ex5 (by rw [k2]; (first | (apply Int.le_antisymm <;> omega) | omega)) (by rw [k2]; (first | (apply Int.le_antisymm <;> omega) | omega)); rw [k2] at z; exact z
    obtain ⟨N6, eN6⟩ : ∃ z : Nat, x5.toNatClampNeg = z := ⟨_, rfl⟩
    have tN6 : (N6 : Int) = x5.toInt := by rw [← eN6]; exact i32_clamp (by (first | (apply Int.le_antisymm <;> omega) | omega))
    refine vn_newq (C := "WaferForgeModel$N") hx hb hown (hts _ kK_MN_7) (hSW.aoN) hK hP hD hS hA 0 rfl N6 (nneg9 (by (first | (apply Int.le_antisymm <;> omega) | omega))) eN6 (by (first | (apply Int.le_antisymm <;> omega) | omega)) (by dsimp only [headSpec]; (first | (apply Int.le_antisymm <;> omega) | omega)) (by dsimp only [headSpec]; (first | (apply Int.le_antisymm <;> omega) | omega)) d_MN_add_18 (fun nq18 H hP hD hS => ?_)
    obtain ⟨hP, hD⟩ := vn_mv hP hD
    have hP : va_P (dC, dI) cls2 (((wz_515 h0 h0_op h0_place h0_name h0_value h0_type pa h0_count h0_index h0_global pa cpn npa gpa nq18 cpn N6 (fun _ => none)) : va_W) ++ va_pl LP fP) H := hP
    have hD : va_D A (((wz_515 h0 h0_op h0_place h0_name h0_value h0_type pa h0_count h0_index h0_global pa cpn npa gpa nq18 cpn N6 (fun _ => none)) : va_W) ++ va_pl LP fP) := hD
    refine lv_astore_n (lv' := [(2, .ref nq18), (0, .ref h0), (1, .ref po_n)]) hx hb d_MN_add_21 rfl hl (by decide) rfl (fun ls hl => ?_)
    refine lv_iconst (v := 0) hx hb d_MN_add_22 (by decide) ?_
    refine lv_istore_n (lv' := [(3, .int 0), (2, .ref nq18), (0, .ref h0), (1, .ref po_n)]) hx hb d_MN_add_23 rfl hl (by decide) rfl (fun ls hl => ?_)
    refine w_loop (σ := Int32 × (Nat → Option Nat)) (fun u H locs ls => match u with | (j24_l3, j24_nq18) => (0 ≤ j24_l3.toInt ∧ j24_l3.toInt ≤ 50000) ∧ (j24_l3.toInt ≤ h0_count.toInt) ∧ (bx (∀ j : Nat, (j : Int) < j24_l3.toInt → j24_nq18 j = gpa j)) ∧ va_P (dC, dI) cls2 (((wz_516 h0 h0_op h0_place h0_name h0_value h0_type pa h0_count h0_index h0_global pa cpn npa gpa nq18 cpn N6 j24_nq18) : va_W) ++ va_pl LP fP) H ∧ va_D A (((wz_516 h0 h0_op h0_place h0_name h0_value h0_type pa h0_count h0_index h0_global pa cpn npa gpa nq18 cpn N6 j24_nq18) : va_W) ++ va_pl LP fP) ∧ va_S A s.heap H locs ∧ lv_has ls 4 [(0, .ref h0), (1, .ref po_n), (2, .ref nq18), (3, .int j24_l3)]) (fun u => match u with | (j24_l3, j24_nq18) => (h0_count.toInt - j24_l3.toInt).toNat) ?_ (0, fun _ => none) ⟨by (try dsimp only) <;> (first | (apply Int.le_antisymm <;> omega) | omega), by (try dsimp only) <;> (first | (apply Int.le_antisymm <;> omega) | omega), (fun j hj => absurd hj (by rw [k0]; (first | (apply Int.le_antisymm <;> omega) | omega))), hP, hD, hS, lv_sub hl [2, 3, 1, 0] rfl⟩
    intro N24 ih24 u H locs ls hN24 hI
    obtain ⟨j24_l3, j24_nq18⟩ := u
    obtain ⟨b_j24_l3, u0, u1, hP, hD, hS, hl⟩ := hI
    have hN24 : (h0_count.toInt - j24_l3.toInt).toNat < N24 + 1 := hN24
    refine lv_iload_n hx hb d_MN_add_24 rfl (lv_at hl 3 rfl) ?_
    refine lv_aload_n hx hb d_MN_add_25 rfl (lv_at hl 0 rfl) ?_
    refine va_get (D := (dC, dI)) (ci := 13) (v := .int h0_count) (C := R_MN) (T := F_MN) (N := 9) hx hb hts i_MN hown hK hP 0 rfl rfl 6 (by decide) (hts _ kF_MN_13) (fun _ h9 => h9) rfl d_MN_add_26 ?_
    refine lv_icmp_ge (tgt := 47) hx hb d_MN_add_29 (by decide) (fun c29 => ?_) (fun c29 => ?_)
    · have q29 := leI c29
      refine lv_aload_n hx hb d_MN_add_47 rfl (lv_at hl 0 rfl) ?_
      refine lv_aload_n hx hb d_MN_add_48 rfl (lv_at hl 2 rfl) ?_
      refine va_put (D := (dC, dI)) (ci := 13) (v := .ref nq18) (ty := .array (.object "WaferForgeModel$N")) (C := R_MN) (T := F_MN) (N := 9) hx hb hts i_MN t_MN t_MN_ok n_MN hown hK hP hD hS 0 rfl rfl 5 (by decide) (hts _ kF_MN_9) (fun _ h9 => h9) rfl (by decide +kernel) rfl rfl (Nat.le_of_ble_eq_true rfl) d_MN_add_49 (fun H locs hP hD hS => ?_)
      refine lv_aload_n hx hb d_MN_add_52 rfl (lv_at hl 0 rfl) ?_
      refine va_get (D := (dC, dI)) (ci := 13) (v := .ref nq18) (C := R_MN) (T := F_MN) (N := 9) hx hb hts i_MN hown hK hP 0 rfl rfl 5 (by decide) (hts _ kF_MN_9) (fun _ h9 => h9) rfl d_MN_add_53 ?_
      refine lv_aload_n hx hb d_MN_add_56 rfl (lv_at hl 0 rfl) ?_
      refine va_get (D := (dC, dI)) (ci := 13) (v := .int h0_count) (C := R_MN) (T := F_MN) (N := 9) hx hb hts i_MN hown hK hP 0 rfl rfl 6 (by decide) (hts _ kF_MN_13) (fun _ h9 => h9) rfl d_MN_add_57 ?_
      refine lv_aload_n hx hb d_MN_add_60 rfl (lv_at hl 1 rfl) ?_
      have g61 : vp_in h0_count N6 := vp_in_iff.mpr ⟨by (first | (apply Int.le_antisymm <;> omega) | omega), by (first | (apply Int.le_antisymm <;> omega) | omega)⟩
      obtain ⟨q7, hq7⟩ := pl_ix (X := (wz_516 h0 h0_op h0_place h0_name h0_value h0_type nq18 h0_count h0_index h0_global pa cpn npa gpa nq18 cpn N6 j24_nq18)) (L := LP) (f := fP) hn1 hn2
      refine va_astq hx hb hK hP hD hS 2 0 q7 13 rfl rfl hq7 rfl g61 d_MN_add_61 (fun H locs hP hD hS => ?_)
      have hP : va_P (dC, dI) cls2 (((wz_515 h0 h0_op h0_place h0_name h0_value h0_type nq18 h0_count h0_index h0_global pa cpn npa gpa nq18 cpn N6 (va_up j24_nq18 h0_count.toNatClampNeg (some po_n))) : va_W) ++ va_pl LP fP) H := hP
      have hD : va_D A (((wz_515 h0 h0_op h0_place h0_name h0_value h0_type nq18 h0_count h0_index h0_global pa cpn npa gpa nq18 cpn N6 (va_up j24_nq18 h0_count.toNatClampNeg (some po_n))) : va_W) ++ va_pl LP fP) := hD
      generalize ef8 : va_up j24_nq18 h0_count.toNatClampNeg (some po_n) = f8 at hP hD
      have z61 := up_s ef8
      have z60 := i32_clamp (x := h0_count) (by (first | (apply Int.le_antisymm <;> omega) | omega))
      refine lv_aload_n hx hb d_MN_add_62 rfl (lv_at hl 0 rfl) ?_
      refine lv_dup hx hb d_MN_add_63 rfl ?_
      refine va_get (D := (dC, dI)) (ci := 13) (v := .int h0_count) (C := R_MN) (T := F_MN) (N := 9) hx hb hts i_MN hown hK hP 0 rfl rfl 6 (by decide) (hts _ kF_MN_13) (fun _ h9 => h9) rfl d_MN_add_64 ?_
      refine lv_iconst (v := 1) hx hb d_MN_add_67 (by decide) ?_
      refine lv_iadd hx hb d_MN_add_68 ?_
      refine lv_topi (fun x9 ex9 => ?_)
      have tx9 : x9.toInt = h0_count.toInt + 1 := by have z := i32_add ex9 (by (first | (apply Int.le_antisymm <;> omega) | omega)) (by (first | (apply Int.le_antisymm <;> omega) | omega)); first | exact z | (first | (apply Int.le_antisymm <;> omega) | omega)
      refine va_put (D := (dC, dI)) (ci := 13) (v := .int x9) (ty := .int) (C := R_MN) (T := F_MN) (N := 9) hx hb hts i_MN t_MN t_MN_ok n_MN hown hK hP hD hS 0 rfl rfl 6 (by decide) (hts _ kF_MN_13) (fun _ h9 => h9) rfl (by decide +kernel) rfl rfl (Nat.le_of_ble_eq_true rfl) d_MN_add_69 (fun H locs hP hD hS => ?_)
      have hP : va_P (dC, dI) cls2 (((wz_516 h0 h0_op h0_place h0_name h0_value h0_type nq18 x9 h0_index h0_global pa cpn npa gpa nq18 cpn N6 f8) : va_W) ++ va_pl LP fP) H := hP
      have hD : va_D A (((wz_516 h0 h0_op h0_place h0_name h0_value h0_type nq18 x9 h0_index h0_global pa cpn npa gpa nq18 cpn N6 f8) : va_W) ++ va_pl LP fP) := hD
      have hP9 := hP.part (cx := (wz_510 h0 h0_op h0_place h0_name h0_value h0_type nq18 x9 h0_index h0_global nq18 cpn N6 f8)) [0, 2] rfl
      have hD9 := hD.part (cx := (wz_510 h0 h0_op h0_place h0_name h0_value h0_type nq18 x9 h0_index h0_global nq18 cpn N6 f8)) [0, 2] (by decide) rfl
      refine w_known (fun hzc hzs => ?_)
      refine W.widen (k := 1) (n := 2 * h0_count.toInt.toNat) (by (first | (apply Int.le_antisymm <;> omega) | omega)) (by (first | (apply Int.le_antisymm <;> omega) | omega)) ?_
      exact W.vret hx hb hr (fun t ht hW => ⟨⟨(f8, nq18, x9, 0 + 1, 0 + N6, N6), rfl, ⟨by (try dsimp only) <;> (first | (apply Int.le_antisymm <;> omega) | omega), ⟨by (try dsimp only) <;> (first | (apply Int.le_antisymm <;> omega) | omega), z61.1, fun j hj => by rw [z61.2 j (by (first | (apply Int.le_antisymm <;> omega) | omega))]; exact u1.out j (by (first | (apply Int.le_antisymm <;> omega) | omega)), by (try dsimp only) <;> (first | (apply Int.le_antisymm <;> omega) | omega), by (try dsimp only) <;> (first | (apply Int.le_antisymm <;> omega) | omega)⟩⟩, va_P.he ht.symm hP9, va_K.moved hW.alike hK, hD9, by rw [ht]; exact hzc, by rw [ht]; exact hzs⟩, hS.F ht⟩) hS.2.2 d_MN_add_72
    · have q29 := nleI c29
      refine lv_aload_n hx hb d_MN_add_32 rfl (lv_at hl 2 rfl) ?_
      refine lv_iload_n hx hb d_MN_add_33 rfl (lv_at hl 3 rfl) ?_
      refine lv_aload_n hx hb d_MN_add_34 rfl (lv_at hl 0 rfl) ?_
      refine va_get (D := (dC, dI)) (ci := 13) (v := .ref pa) (C := R_MN) (T := F_MN) (N := 9) hx hb hts i_MN hown hK hP 0 rfl rfl 5 (by decide) (hts _ kF_MN_9) (fun _ h9 => h9) rfl d_MN_add_35 ?_
      refine lv_iload_n hx hb d_MN_add_38 rfl (lv_at hl 3 rfl) ?_
      have z39 := i32_clamp (x := j24_l3) (by (first | (apply Int.le_antisymm <;> omega) | omega))
      obtain ⟨po_y, ey, hy1, vsy, hy2⟩ := hel.out j24_l3.toNatClampNeg (by (first | (apply Int.le_antisymm <;> omega) | omega))
      have g39 : vp_in j24_l3 npa := vp_in_iff.mpr ⟨by (first | (apply Int.le_antisymm <;> omega) | omega), by (first | (apply Int.le_antisymm <;> omega) | omega)⟩
      refine vq_aldo hx hb hK hP 1 0 rfl rfl g39 (y := po_y) ey d_MN_add_39 ?_
      have g40 : vp_in j24_l3 N6 := vp_in_iff.mpr ⟨by (first | (apply Int.le_antisymm <;> omega) | omega), by (first | (apply Int.le_antisymm <;> omega) | omega)⟩
      obtain ⟨q10, hq10⟩ := pl_ix (X := (wz_516 h0 h0_op h0_place h0_name h0_value h0_type pa h0_count h0_index h0_global pa cpn npa gpa nq18 cpn N6 j24_nq18)) (L := LP) (f := fP) hy1 hy2
      refine va_astq hx hb hK hP hD hS 2 0 q10 13 rfl rfl hq10 rfl g40 d_MN_add_40 (fun H locs hP hD hS => ?_)
      have hP : va_P (dC, dI) cls2 (((wz_515 h0 h0_op h0_place h0_name h0_value h0_type pa h0_count h0_index h0_global pa cpn npa gpa nq18 cpn N6 (va_up j24_nq18 j24_l3.toNatClampNeg (some po_y))) : va_W) ++ va_pl LP fP) H := hP
      have hD : va_D A (((wz_515 h0 h0_op h0_place h0_name h0_value h0_type pa h0_count h0_index h0_global pa cpn npa gpa nq18 cpn N6 (va_up j24_nq18 j24_l3.toNatClampNeg (some po_y))) : va_W) ++ va_pl LP fP) := hD
      generalize ef11 : va_up j24_nq18 j24_l3.toNatClampNeg (some po_y) = f11 at hP hD
      have z40 := up_s ef11
      obtain ⟨x12, ex12⟩ : ∃ z : Int32, z = j24_l3 + 1 := ⟨_, rfl⟩
      have tx12 : x12.toInt = j24_l3.toInt + 1 := by have z := i32_add ex12 (by (first | (apply Int.le_antisymm <;> omega) | omega)) (by (first | (apply Int.le_antisymm <;> omega) | omega)); first | exact z | (first | (apply Int.le_antisymm <;> omega) | omega)
      refine lv_iinc (v := x12) (lv' := [(3, .int x12), (0, .ref h0), (1, .ref po_n), (2, .ref nq18)]) hx hb d_MN_add_41 hl (k := 3) rfl (by rw [ex12]; rfl) (by decide) rfl (fun ls hl => ?_)
      refine lv_goto (tgt := 24) hx hb d_MN_add_44 (by decide) ?_
      exact ih24 (x12, f11) _ _ _ (by show (h0_count.toInt - x12.toInt).toNat < N24; (first | (apply Int.le_antisymm <;> omega) | omega)) ⟨by (try dsimp only) <;> (first | (apply Int.le_antisymm <;> omega) | omega), by (try dsimp only) <;> (first | (apply Int.le_antisymm <;> omega) | omega), (fun j hj => by by_cases q : j = j24_l3.toNatClampNeg; (rw [q, z40.1, ey]); (rw [z40.2 j q]; exact u1.out j (by (first | (apply Int.le_antisymm <;> omega) | omega)))), hP, hD, hS, lv_sub hl [1, 2, 3, 0] rfl⟩
end q_m99
section q_n00
/-! the reference: a name; is it a set; is the sign of a level -/
abbrev b_MD_name : ByteArray := prog_15_method_14_code
def y_MD_name : MethodName := ⟨R_MD, "name", "()Ljava/lang/String;"⟩
abbrev w_MD_name : List Cond := .code y_MD_name b_MD_name 2 (Option.some (.object "java/lang/String")) :: lw_g
theorem kC_MD_name : Cond.code y_MD_name b_MD_name 2 (Option.some (.object "java/lang/String")) ∈ lw_g := in_c11 100 rfl rfl
theorem d_MD_name_0 : decode b_MD_name 0 = .ok (.aload_n 0, 1) := bz_c42 (by decide +kernel)
theorem d_MD_name_1 : decode b_MD_name 1 = .ok (.aload_n 0, 1) := bz_c42 (by decide +kernel)
theorem d_MD_name_2 : decode b_MD_name 2 = .ok (.getfield 33, 3) := bz_c180 (by decide +kernel)
theorem d_MD_name_5 : decode b_MD_name 5 = .ok (.iconst 1, 1) := bz_c4 (by decide +kernel)
theorem d_MD_name_6 : decode b_MD_name 6 = .ok (.if_icmp .ne 7, 3) := bz_c160 (by decide +kernel)
theorem d_MD_name_9 : decode b_MD_name 9 = .ok (.iconst 1, 1) := bz_c4 (by decide +kernel)
theorem d_MD_name_10 : decode b_MD_name 10 = .ok (.goto 4, 3) := bz_c167 (by decide +kernel)
theorem d_MD_name_13 : decode b_MD_name 13 = .ok (.iconst 0, 1) := bz_c3 (by decide +kernel)
theorem d_MD_name_14 : decode b_MD_name 14 = .ok (.invokevirtual 122, 3) := bz_c182 (by decide +kernel)
theorem d_MD_name_17 : decode b_MD_name 17 = .ok (.aload_n 0, 1) := bz_c42 (by decide +kernel)
theorem d_MD_name_18 : decode b_MD_name 18 = .ok (.getfield 57, 3) := bz_c180 (by decide +kernel)
theorem d_MD_name_21 : decode b_MD_name 21 = .ok (.astore_n 1, 1) := bz_c76 (by decide +kernel)
theorem d_MD_name_22 : decode b_MD_name 22 = .ok (.aload_n 0, 1) := bz_c42 (by decide +kernel)
theorem d_MD_name_23 : decode b_MD_name 23 = .ok (.invokevirtual 112, 3) := bz_c182 (by decide +kernel)
theorem d_MD_name_26 : decode b_MD_name 26 = .ok (.aload_n 1, 1) := bz_c43 (by decide +kernel)
theorem d_MD_name_27 : decode b_MD_name 27 = .ok (.areturn, 1) := bz_c176 (by decide +kernel)
abbrev at_MD_name (dC : Nat → ClassId) (dI : Nat → Nat → Nat) (sz szl : Nat) (sa : Nat → Nat) (h0 rf tap h0_globalNames_r h0_globalPlaces_r h0_globalTypes_r h0_globalValues_r h0_funs_r h0_levels_r h0_known_r mad mag h0_smalls_r h0_greats_r h0_module_r h0_spare_r blk stk hgt lab ous kis los mem glo val ffu fre fba fla lat lhe rsl arg : Nat) (ctap cr cpn cpb : ClassId) (h0_taped : Int32) (h0_length : Int32) (h0_globalCount : Int32) (h0_funCount : Int32) (h0_open : Int32) (h0_signs : Int32) (h0_now : Value) (h0_knownCount : Int32) (h0_loops : Int32) (h0_madeLength : Int32) (h0_m : Value) (h0_cursor : Int32) (h0_limit : Int32) (h0_top : Int32) (h0_depth : Int32) (h0_function : Int32) (h0_pages : Int32) (h0_valueTop : Int32) (h0_frames : Int32) (h0_labelTop : Int32) (h0_steps : Int32) (h0_there : Int32) (h0_resultLength : Int32) (h0_reason : Int32) (h0_place : Int32) (h0_argumentCount : Int32) (h0_code : Int32) (rf_backtrace : Value) (rf_detailMessage : Value) (rf_cause : Value) (rf_stackTrace : Value) (rf_depth : Int32) (rf_suppressedExceptions : Value) (gtap : Nat → Int32) (A : Nat → Prop) (u : (List Nat) × Int32 × Int32 × Int64 × Int32 × Int32 × Int32 × Nat × Nat × (Nat → va_E) × Value) (t : State) : Prop := match u with | (LP, h0_from, h0_kind, h0_numeral, h0_to, rf_place, rf_reason, kcz, knz, fP, h0_word) => va_P (dC, dI) cls2 (((wz_507 h0 rf tap h0_taped h0_length h0_kind h0_from h0_to h0_word h0_numeral h0_globalNames_r h0_globalPlaces_r h0_globalTypes_r h0_globalValues_r h0_globalCount h0_funs_r h0_funCount h0_open h0_signs h0_levels_r h0_now h0_known_r h0_knownCount h0_loops mad h0_madeLength mag h0_smalls_r h0_greats_r h0_module_r h0_spare_r h0_m h0_cursor h0_limit blk stk h0_top hgt lab ous kis los h0_depth h0_function mem h0_pages glo val h0_valueTop ffu fre fba fla h0_frames lat lhe h0_labelTop h0_steps h0_there rsl h0_resultLength h0_reason h0_place arg h0_argumentCount h0_code rf rf_backtrace rf_detailMessage rf_cause rf_stackTrace rf_depth rf_suppressedExceptions rf_reason rf_place tap ctap gtap) : va_W) ++ va_pl LP fP) t.heap ∧ va_K (dC, dI) cls2 [(ctap, .byte), (cr, .int), (cpn, .object "WaferForgeModel$N"), (cpb, .byte)] t ∧ va_D A (((wz_507 h0 rf tap h0_taped h0_length h0_kind h0_from h0_to h0_word h0_numeral h0_globalNames_r h0_globalPlaces_r h0_globalTypes_r h0_globalValues_r h0_globalCount h0_funs_r h0_funCount h0_open h0_signs h0_levels_r h0_now h0_known_r h0_knownCount h0_loops mad h0_madeLength mag h0_smalls_r h0_greats_r h0_module_r h0_spare_r h0_m h0_cursor h0_limit blk stk h0_top hgt lab ous kis los h0_depth h0_function mem h0_pages glo val h0_valueTop ffu fre fba fla h0_frames lat lhe h0_labelTop h0_steps h0_there rsl h0_resultLength h0_reason h0_place arg h0_argumentCount h0_code rf rf_backtrace rf_detailMessage rf_cause rf_stackTrace rf_depth rf_suppressedExceptions rf_reason rf_place tap ctap gtap) : va_W) ++ va_pl LP fP) ∧ t.heap.size ≤ sz + kcz ∧ hsl t.heap ≤ szl + knz
set_option maxHeartbeats 4000000 in
set_option maxRecDepth 100000 in
theorem c_MD_name (l : Launch) (hlt : l.stackTraces = false) (dC : Nat → ClassId) (dI : Nat → Nat → Nat) (sz : Nat) (szl : Nat) (sa : Nat → Nat) (h0 rf tap h0_globalNames_r h0_globalPlaces_r h0_globalTypes_r h0_globalValues_r h0_funs_r h0_levels_r h0_known_r mad mag h0_smalls_r h0_greats_r h0_module_r h0_spare_r blk stk hgt lab ous kis los mem glo val ffu fre fba fla lat lhe rsl arg : Nat) (ctap cr cpn cpb : ClassId) (h0_taped : Int32) (h0_length : Int32) (h0_kind : Int32) (h0_from : Int32) (h0_to : Int32) (h0_word : Value) (h0_numeral : Int64) (h0_globalCount : Int32) (h0_funCount : Int32) (h0_open : Int32) (h0_signs : Int32) (h0_now : Value) (h0_knownCount : Int32) (h0_loops : Int32) (h0_madeLength : Int32) (h0_m : Value) (h0_cursor : Int32) (h0_limit : Int32) (h0_top : Int32) (h0_depth : Int32) (h0_function : Int32) (h0_pages : Int32) (h0_valueTop : Int32) (h0_frames : Int32) (h0_labelTop : Int32) (h0_steps : Int32) (h0_there : Int32) (h0_resultLength : Int32) (h0_reason : Int32) (h0_place : Int32) (h0_argumentCount : Int32) (h0_code : Int32) (rf_backtrace : Value) (rf_detailMessage : Value) (rf_cause : Value) (rf_stackTrace : Value) (rf_depth : Int32) (rf_suppressedExceptions : Value) (rf_reason : Int32) (rf_place : Int32) (gtap : Nat → Int32) (LP : List Nat) (fP : Nat → va_E)  (b_h0_length : 0 ≤ h0_length.toInt ∧ h0_length.toInt ≤ 2000) (b_h0_from : 0 ≤ h0_from.toInt ∧ h0_from.toInt ≤ 2000) (b_h0_to : 0 ≤ h0_to.toInt ∧ h0_to.toInt ≤ 2000)   (hlx : bx (lx9 gtap h0_length.toInt h0_kind.toInt h0_from.toInt h0_to.toInt h0_numeral.toInt)) (hlw : bx (lw9 LP fP cpb h0_word h0_kind.toInt)) : tz_Met l y_MD_name w_MD_name ({ frames := 7, cells := 8 * (h0_length.toInt - h0_to.toInt).toNat + 4, slots := 80 * (h0_length.toInt - h0_to.toInt).toNat + 120, locals := 174 }) (va_Pc [.ref h0] (fun U => U.heap.size = sz ∧ va_P (dC, dI) cls2 (((wz_507 h0 rf tap h0_taped h0_length h0_kind h0_from h0_to h0_word h0_numeral h0_globalNames_r h0_globalPlaces_r h0_globalTypes_r h0_globalValues_r h0_globalCount h0_funs_r h0_funCount h0_open h0_signs h0_levels_r h0_now h0_known_r h0_knownCount h0_loops mad h0_madeLength mag h0_smalls_r h0_greats_r h0_module_r h0_spare_r h0_m h0_cursor h0_limit blk stk h0_top hgt lab ous kis los h0_depth h0_function mem h0_pages glo val h0_valueTop ffu fre fba fla h0_frames lat lhe h0_labelTop h0_steps h0_there rsl h0_resultLength h0_reason h0_place arg h0_argumentCount h0_code rf rf_backtrace rf_detailMessage rf_cause rf_stackTrace rf_depth rf_suppressedExceptions rf_reason rf_place tap ctap gtap) : va_W) ++ va_pl LP fP) U.heap ∧ va_K (dC, dI) cls2 [(ctap, .byte), (cr, .int), (cpn, .object "WaferForgeModel$N"), (cpb, .byte)] U ∧ va_D (fun _ => True) (((wz_507 h0 rf tap h0_taped h0_length h0_kind h0_from h0_to h0_word h0_numeral h0_globalNames_r h0_globalPlaces_r h0_globalTypes_r h0_globalValues_r h0_globalCount h0_funs_r h0_funCount h0_open h0_signs h0_levels_r h0_now h0_known_r h0_knownCount h0_loops mad h0_madeLength mag h0_smalls_r h0_greats_r h0_module_r h0_spare_r h0_m h0_cursor h0_limit blk stk h0_top hgt lab ous kis los h0_depth h0_function mem h0_pages glo val h0_valueTop ffu fre fba fla h0_frames lat lhe h0_labelTop h0_steps h0_there rsl h0_resultLength h0_reason h0_place arg h0_argumentCount h0_code rf rf_backtrace rf_detailMessage rf_cause rf_stackTrace rf_depth rf_suppressedExceptions rf_reason rf_place tap ctap gtap) : va_W) ++ va_pl LP fP) ∧ sm sa (va_A (((wz_507 h0 rf tap h0_taped h0_length h0_kind h0_from h0_to h0_word h0_numeral h0_globalNames_r h0_globalPlaces_r h0_globalTypes_r h0_globalValues_r h0_globalCount h0_funs_r h0_funCount h0_open h0_signs h0_levels_r h0_now h0_known_r h0_knownCount h0_loops mad h0_madeLength mag h0_smalls_r h0_greats_r h0_module_r h0_spare_r h0_m h0_cursor h0_limit blk stk h0_top hgt lab ous kis los h0_depth h0_function mem h0_pages glo val h0_valueTop ffu fre fba fla h0_frames lat lhe h0_labelTop h0_steps h0_there rsl h0_resultLength h0_reason h0_place arg h0_argumentCount h0_code rf rf_backtrace rf_detailMessage rf_cause rf_stackTrace rf_depth rf_suppressedExceptions rf_reason rf_place tap ctap gtap) : va_W) ++ va_pl LP fP) sz) U U.heap ∧ hsl U.heap = szl)) (tq_Q (tr_r (fun (r : Nat) (u : (List Nat) × Int32 × Int32 × Int64 × Int32 × Int32 × Int32 × Nat × Nat × (Nat → va_E) × Value) => match u with | (LP2, h0_from2, h0_kind2, h0_numeral2, h0_to2, rf_place2, rf_reason2, kcz2, knz2, fP2, h0_word2) => (0 ≤ h0_from2.toInt ∧ h0_from2.toInt ≤ 2000) ∧ (0 ≤ h0_to2.toInt ∧ h0_to2.toInt ≤ 2000) ∧ (nmP LP2 fP2 cpb (.ref r) ∧ h0_from.toInt < h0_to.toInt ∧ nxt9 gtap cpb h0_length.toInt LP fP h0_to.toInt LP2 fP2 h0_word2 h0_kind2.toInt h0_from2.toInt h0_to2.toInt h0_numeral2.toInt kcz2 knz2)) rf "WaferForgeModel$Refused" (fun (u : (List Nat) × Int32 × Int32 × Int64 × Int32 × Int32 × Int32 × Nat × Nat × (Nat → va_E) × Value) => match u with | (LP2, h0_from2, h0_kind2, h0_numeral2, h0_to2, rf_place2, rf_reason2, kcz2, knz2, fP2, h0_word2) => (0 ≤ h0_from2.toInt ∧ h0_from2.toInt ≤ 2000) ∧ (0 ≤ h0_to2.toInt ∧ h0_to2.toInt ≤ 2000) ∧ (pex LP fP LP2 fP2 ∧ kcz2 = 0 ∧ knz2 = 0))) (at_MD_name dC dI sz szl sa h0 rf tap h0_globalNames_r h0_globalPlaces_r h0_globalTypes_r h0_globalValues_r h0_funs_r h0_levels_r h0_known_r mad mag h0_smalls_r h0_greats_r h0_module_r h0_spare_r blk stk hgt lab ous kis los mem glo val ffu fre fba fla lat lhe rsl arg ctap cr cpn cpb h0_taped h0_length h0_globalCount h0_funCount h0_open h0_signs h0_now h0_knownCount h0_loops h0_madeLength h0_m h0_cursor h0_limit h0_top h0_depth h0_function h0_pages h0_valueTop h0_frames h0_labelTop h0_steps h0_there h0_resultLength h0_reason h0_place h0_argumentCount h0_code rf_backtrace rf_detailMessage rf_cause rf_stackTrace rf_depth rf_suppressedExceptions gtap (va_A (((wz_507 h0 rf tap h0_taped h0_length h0_kind h0_from h0_to h0_word h0_numeral h0_globalNames_r h0_globalPlaces_r h0_globalTypes_r h0_globalValues_r h0_globalCount h0_funs_r h0_funCount h0_open h0_signs h0_levels_r h0_now h0_known_r h0_knownCount h0_loops mad h0_madeLength mag h0_smalls_r h0_greats_r h0_module_r h0_spare_r h0_m h0_cursor h0_limit blk stk h0_top hgt lab ous kis los h0_depth h0_function mem h0_pages glo val h0_valueTop ffu fre fba fla h0_frames lat lhe h0_labelTop h0_steps h0_there rsl h0_resultLength h0_reason h0_place arg h0_argumentCount h0_code rf rf_backtrace rf_detailMessage rf_cause rf_stackTrace rf_depth rf_suppressedExceptions rf_reason rf_place tap ctap gtap) : va_W) ++ va_pl LP fP) sz)) (va_A (((wz_507 h0 rf tap h0_taped h0_length h0_kind h0_from h0_to h0_word h0_numeral h0_globalNames_r h0_globalPlaces_r h0_globalTypes_r h0_globalValues_r h0_globalCount h0_funs_r h0_funCount h0_open h0_signs h0_levels_r h0_now h0_known_r h0_knownCount h0_loops mad h0_madeLength mag h0_smalls_r h0_greats_r h0_module_r h0_spare_r h0_m h0_cursor h0_limit blk stk h0_top hgt lab ous kis los h0_depth h0_function mem h0_pages glo val h0_valueTop ffu fre fba fla h0_frames lat lhe h0_labelTop h0_steps h0_there rsl h0_resultLength h0_reason h0_place arg h0_argumentCount h0_code rf rf_backtrace rf_detailMessage rf_cause rf_stackTrace rf_depth rf_suppressedExceptions rf_reason rf_place tap ctap gtap) : va_W) ++ va_pl LP fP) sz)) (tz_k (8 * (h0_length.toInt - h0_to.toInt).toNat + 4) (80 * (h0_length.toInt - h0_to.toInt).toNat + 120) (8 * (h0_length.toInt - h0_to.toInt).toNat + 4) (80 * (h0_length.toInt - h0_to.toInt).toNat + 120)) (va_A (((wz_507 h0 rf tap h0_taped h0_length h0_kind h0_from h0_to h0_word h0_numeral h0_globalNames_r h0_globalPlaces_r h0_globalTypes_r h0_globalValues_r h0_globalCount h0_funs_r h0_funCount h0_open h0_signs h0_levels_r h0_now h0_known_r h0_knownCount h0_loops mad h0_madeLength mag h0_smalls_r h0_greats_r h0_module_r h0_spare_r h0_m h0_cursor h0_limit blk stk h0_top hgt lab ous kis los h0_depth h0_function mem h0_pages glo val h0_valueTop ffu fre fba fla h0_frames lat lhe h0_labelTop h0_steps h0_there rsl h0_resultLength h0_reason h0_place arg h0_argumentCount h0_code rf rf_backtrace rf_detailMessage rf_cause rf_stackTrace rf_depth rf_suppressedExceptions rf_reason rf_place tap ctap gtap) : va_W) ++ va_pl LP fP) sz) := by
  refine tz_ofW (cc := b_MD_name) (maxL := 2) (ret := (Option.some (.object "java/lang/String"))) (by decide) rfl ?_
  intro p e s m args below meth c s₁ B hml hno hv
  obtain ⟨rfl, hsz, hP, hK, hD0, hSW, hszl⟩ := hv
  have hx := B.exec
  have hb := B.bytes
  have hr := B.returns
  have hts0 := atoms_spec (ws := w_MD_name) B.pre
  have hts : ∀ w ∈ lw_g, w.before _ s = true := fun w h => hts0 w (List.mem_cons_of_mem _ h)
  have hown : s.vm.findClass R_MD = some m.cls := findClass_of_methodNamed B.named
  have hlocks := B.notSynchronized
  clear hts0
  subst hsz
  subst hszl
  have hD := hD0.self (sz := s.heap.size)
  generalize hAe : va_A (((wz_507 h0 rf tap h0_taped h0_length h0_kind h0_from h0_to h0_word h0_numeral h0_globalNames_r h0_globalPlaces_r h0_globalTypes_r h0_globalValues_r h0_globalCount h0_funs_r h0_funCount h0_open h0_signs h0_levels_r h0_now h0_known_r h0_knownCount h0_loops mad h0_madeLength mag h0_smalls_r h0_greats_r h0_module_r h0_spare_r h0_m h0_cursor h0_limit blk stk h0_top hgt lab ous kis los h0_depth h0_function mem h0_pages glo val h0_valueTop ffu fre fba fla h0_frames lat lhe h0_labelTop h0_steps h0_there rsl h0_resultLength h0_reason h0_place arg h0_argumentCount h0_code rf rf_backtrace rf_detailMessage rf_cause rf_stackTrace rf_depth rf_suppressedExceptions rf_reason rf_place tap ctap gtap) : va_W) ++ va_pl LP fP) s.heap.size = A at hD hSW ⊢
  have hA : ∀ q : Nat, s.heap.size ≤ q → A q := fun q h => by rw [← hAe]; exact Or.inr h
  clear hAe
  have hP : va_P (dC, dI) cls2 (((wz_507 h0 rf tap h0_taped h0_length h0_kind h0_from h0_to h0_word h0_numeral h0_globalNames_r h0_globalPlaces_r h0_globalTypes_r h0_globalValues_r h0_globalCount h0_funs_r h0_funCount h0_open h0_signs h0_levels_r h0_now h0_known_r h0_knownCount h0_loops mad h0_madeLength mag h0_smalls_r h0_greats_r h0_module_r h0_spare_r h0_m h0_cursor h0_limit blk stk h0_top hgt lab ous kis los h0_depth h0_function mem h0_pages glo val h0_valueTop ffu fre fba fla h0_frames lat lhe h0_labelTop h0_steps h0_there rsl h0_resultLength h0_reason h0_place arg h0_argumentCount h0_code rf rf_backtrace rf_detailMessage rf_cause rf_stackTrace rf_depth rf_suppressedExceptions rf_reason rf_place tap ctap gtap) : va_W) ++ va_pl LP fP) s.heap := hP
  have hl := lv_entry ([.ref h0]) (n := 2) (Nat.le_of_ble_eq_true rfl)
  rw [lg_entry_eq]
  generalize (lg_sl ([.ref h0]) ++ List.replicate (2 - (lg_sl ([.ref h0])).length) Slot.unset).toArray = ls at hl ⊢
  have hl : lv_has ls 2 [(0, .ref h0)] := hl
  have k0 : (0 : Int32).toInt = 0 := by decide
  refine w_gen (A := A) hP (fun H locs hP hS => ?_)
  have k1 : (1 : Int32).toInt = 1 := by decide
  have hnd := vq_nd hD
  obtain ⟨gw, hgw⟩ := wd_gw hlw.out
  replace hgw : bx _ := hgw
  obtain ⟨l1_, l2_, l3_, l4_, l5_, l6_, l7_, l8_, -, -, -⟩ := hlx.out
  refine lv_aload_n hx hb d_MD_name_0 rfl (lv_at hl 0 rfl) ?_
  refine lv_aload_n hx hb d_MD_name_1 rfl (lv_at hl 0 rfl) ?_
  refine va_get (D := (dC, dI)) (ci := 11) (v := .int h0_kind) (C := R_MD) (T := F_MD) (N := 65) hx hb hts i_MD hown hK hP 0 rfl rfl 4 (by decide) (hts _ kF_MD_33) (fun _ h9 => h9) rfl d_MD_name_2 ?_
  refine lv_iconst (v := 1) hx hb d_MD_name_5 (by decide) ?_
  refine lv_icmp_ne (tgt := 13) hx hb d_MD_name_6 (by decide) (fun c6 => ?_) (fun c6 => ?_)
  · have q6 := neI c6
    refine lv_iconst (v := 0) hx hb d_MD_name_13 (by decide) ?_
    have hPc := hP.sb (wq := (wz_301 h0 rf tap h0_taped h0_length h0_kind h0_from h0_to h0_word h0_numeral h0_globalNames_r h0_globalPlaces_r h0_globalTypes_r h0_globalValues_r h0_globalCount h0_funs_r h0_funCount h0_open h0_signs h0_levels_r h0_now h0_known_r h0_knownCount h0_loops mad h0_madeLength mag h0_smalls_r h0_greats_r h0_module_r h0_spare_r h0_m h0_cursor h0_limit blk stk h0_top hgt lab ous kis los h0_depth h0_function mem h0_pages glo val h0_valueTop ffu fre fba fla h0_frames lat lhe h0_labelTop h0_steps h0_there rsl h0_resultLength h0_reason h0_place arg h0_argumentCount h0_code rf rf_backtrace rf_detailMessage rf_cause rf_stackTrace rf_depth rf_suppressedExceptions rf_reason rf_place)) [0, 1] rfl
    have hDc := hD.sb (wq := (wz_301 h0 rf tap h0_taped h0_length h0_kind h0_from h0_to h0_word h0_numeral h0_globalNames_r h0_globalPlaces_r h0_globalTypes_r h0_globalValues_r h0_globalCount h0_funs_r h0_funCount h0_open h0_signs h0_levels_r h0_now h0_known_r h0_knownCount h0_loops mad h0_madeLength mag h0_smalls_r h0_greats_r h0_module_r h0_spare_r h0_m h0_cursor h0_limit blk stk h0_top hgt lab ous kis los h0_depth h0_function mem h0_pages glo val h0_valueTop ffu fre fba fla h0_frames lat lhe h0_labelTop h0_steps h0_there rsl h0_resultLength h0_reason h0_place arg h0_argumentCount h0_code rf rf_backtrace rf_detailMessage rf_cause rf_stackTrace rf_depth rf_suppressedExceptions rf_reason rf_place)) [0, 1] (by decide) rfl
    have hKc := hK.sb (tyq := []) [] rfl
    have hFc := va_free (wc := (wz_301 h0 rf tap h0_taped h0_length h0_kind h0_from h0_to h0_word h0_numeral h0_globalNames_r h0_globalPlaces_r h0_globalTypes_r h0_globalValues_r h0_globalCount h0_funs_r h0_funCount h0_open h0_signs h0_levels_r h0_now h0_known_r h0_knownCount h0_loops mad h0_madeLength mag h0_smalls_r h0_greats_r h0_module_r h0_spare_r h0_m h0_cursor h0_limit blk stk h0_top hgt lab ous kis los h0_depth h0_function mem h0_pages glo val h0_valueTop ffu fre fba fla h0_frames lat lhe h0_labelTop h0_steps h0_there rsl h0_resultLength h0_reason h0_place arg h0_argumentCount h0_code rf rf_backtrace rf_detailMessage rf_cause rf_stackTrace rf_depth rf_suppressedExceptions rf_reason rf_place)) hD hS hA [0, 1] rfl
    refine tr_callv (tz_runV (As := [.int 0]) (rest := []) ⟨hx, hb, hml, hown, hts⟩ (c_MD_can l hlt dC dI H.size h0 rf tap h0_globalNames_r h0_globalPlaces_r h0_globalTypes_r h0_globalValues_r h0_funs_r h0_levels_r h0_known_r mad mag h0_smalls_r h0_greats_r h0_module_r h0_spare_r blk stk hgt lab ous kis los mem glo val ffu fre fba fla lat lhe rsl arg h0_taped h0_length h0_kind h0_from h0_to h0_word h0_numeral h0_globalCount h0_funCount h0_open h0_signs h0_now h0_knownCount h0_loops h0_madeLength h0_m h0_cursor h0_limit h0_top h0_depth h0_function h0_pages h0_valueTop h0_frames h0_labelTop h0_steps h0_there h0_resultLength h0_reason h0_place h0_argumentCount h0_code rf_backtrace rf_detailMessage rf_cause rf_stackTrace rf_depth rf_suppressedExceptions rf_reason rf_place (b_h0_from) 0 (Or.inl rfl)) (cwV 1 hts (gV kM_MD_122 kV_MD_can kS_MD_can kI_MD kC_MD_can) rfl rfl rfl (by decide +kernel) ⟨Nat.le_of_ble_eq_true rfl, Nat.le_of_ble_eq_true rfl⟩) ⟨fun a U g mk z => by obtain ⟨z0, z1, zP, zK, zD, zS⟩ := z; exact ⟨z0, z1, zP, va_K.moved (u := U) (U := U.calling g mk a) (Vm.Alike.refl U.vm) zK, zD, sw_nest.same (s := U) (U := U.calling g mk a) rfl zS⟩, va_recv hKc hPc (ci := 11) (q0 := 0) rfl rfl, fun U hU hW => ⟨rfl, by rw [hU], va_P.he hU.symm hPc, va_K.moved hW.alike hKc, hDc.weaken (fun _ _ _ _ => trivial), hSW.nest.warm hW⟩⟩ rfl rfl hl.1 rfl (lv_room (Nat.le_of_ble_eq_true rfl)) d_MD_name_14 ⟨by dsimp only [headSpec]; (first | (apply Int.le_antisymm <;> omega) | omega), by dsimp only [headSpec]; (first | (apply Int.le_antisymm <;> omega) | omega)⟩) hS (fun q _ h => hFc q h) hFc (fun u t H1 locs ht hvm hw hB hz1 hk1 hS => ?_) (fun xx u t H1 locs ht hvm hw hXX hB hz1 hk1 hS => ?_)
    rotate_left
    · skip
      obtain ⟨hxa, hXX⟩ := hXX
      obtain ⟨n2, n3⟩ := u
      try dsimp only at hw
      have tq9 := hw
      obtain ⟨hP1, hK1, hD1⟩ := hB
      replace hP1 := va_P.he ht hP1
      obtain ⟨hP, hD⟩ := va_joinQ (wr := [(tap, .inl (ctap, 2000, .inl gtap))]) (w1 := (wz_301 h0 rf tap h0_taped h0_length h0_kind h0_from h0_to h0_word h0_numeral h0_globalNames_r h0_globalPlaces_r h0_globalTypes_r h0_globalValues_r h0_globalCount h0_funs_r h0_funCount h0_open h0_signs h0_levels_r h0_now h0_known_r h0_knownCount h0_loops mad h0_madeLength mag h0_smalls_r h0_greats_r h0_module_r h0_spare_r h0_m h0_cursor h0_limit blk stk h0_top hgt lab ous kis los h0_depth h0_function mem h0_pages glo val h0_valueTop ffu fre fba fla h0_frames lat lhe h0_labelTop h0_steps h0_there rsl h0_resultLength h0_reason h0_place arg h0_argumentCount h0_code rf rf_backtrace rf_detailMessage rf_cause rf_stackTrace rf_depth rf_suppressedExceptions n3 n2)) hP hD [0, 1] [2] rfl rfl (by decide) (by decide) hk1 hFc hP1 hD1
      have hP : va_P (dC, dI) cls2 (((wz_509 tap ctap gtap h0 rf tap h0_taped h0_length h0_kind h0_from h0_to h0_word h0_numeral h0_globalNames_r h0_globalPlaces_r h0_globalTypes_r h0_globalValues_r h0_globalCount h0_funs_r h0_funCount h0_open h0_signs h0_levels_r h0_now h0_known_r h0_knownCount h0_loops mad h0_madeLength mag h0_smalls_r h0_greats_r h0_module_r h0_spare_r h0_m h0_cursor h0_limit blk stk h0_top hgt lab ous kis los h0_depth h0_function mem h0_pages glo val h0_valueTop ffu fre fba fla h0_frames lat lhe h0_labelTop h0_steps h0_there rsl h0_resultLength h0_reason h0_place arg h0_argumentCount h0_code rf rf_backtrace rf_detailMessage rf_cause rf_stackTrace rf_depth rf_suppressedExceptions n3 n2) : va_W) ++ va_pl LP fP) H1 := hP
      have hD : va_D A (((wz_509 tap ctap gtap h0 rf tap h0_taped h0_length h0_kind h0_from h0_to h0_word h0_numeral h0_globalNames_r h0_globalPlaces_r h0_globalTypes_r h0_globalValues_r h0_globalCount h0_funs_r h0_funCount h0_open h0_signs h0_levels_r h0_now h0_known_r h0_knownCount h0_loops mad h0_madeLength mag h0_smalls_r h0_greats_r h0_module_r h0_spare_r h0_m h0_cursor h0_limit blk stk h0_top hgt lab ous kis los h0_depth h0_function mem h0_pages glo val h0_valueTop ffu fre fba fla h0_frames lat lhe h0_labelTop h0_steps h0_there rsl h0_resultLength h0_reason h0_place arg h0_argumentCount h0_code rf rf_backtrace rf_detailMessage rf_cause rf_stackTrace rf_depth rf_suppressedExceptions n3 n2) : va_W) ++ va_pl LP fP) := hD
      have hP9 := hP.part (cx := (wz_507 h0 rf tap h0_taped h0_length h0_kind h0_from h0_to h0_word h0_numeral h0_globalNames_r h0_globalPlaces_r h0_globalTypes_r h0_globalValues_r h0_globalCount h0_funs_r h0_funCount h0_open h0_signs h0_levels_r h0_now h0_known_r h0_knownCount h0_loops mad h0_madeLength mag h0_smalls_r h0_greats_r h0_module_r h0_spare_r h0_m h0_cursor h0_limit blk stk h0_top hgt lab ous kis los h0_depth h0_function mem h0_pages glo val h0_valueTop ffu fre fba fla h0_frames lat lhe h0_labelTop h0_steps h0_there rsl h0_resultLength h0_reason h0_place arg h0_argumentCount h0_code rf rf_backtrace rf_detailMessage rf_cause rf_stackTrace rf_depth rf_suppressedExceptions n3 n2 tap ctap gtap)) [1, 2, 0] rfl
      have hD9 := hD.part (cx := (wz_507 h0 rf tap h0_taped h0_length h0_kind h0_from h0_to h0_word h0_numeral h0_globalNames_r h0_globalPlaces_r h0_globalTypes_r h0_globalValues_r h0_globalCount h0_funs_r h0_funCount h0_open h0_signs h0_levels_r h0_now h0_known_r h0_knownCount h0_loops mad h0_madeLength mag h0_smalls_r h0_greats_r h0_module_r h0_spare_r h0_m h0_cursor h0_limit blk stk h0_top hgt lab ous kis los h0_depth h0_function mem h0_pages glo val h0_valueTop ffu fre fba fla h0_frames lat lhe h0_labelTop h0_steps h0_there rsl h0_resultLength h0_reason h0_place arg h0_argumentCount h0_code rf rf_backtrace rf_detailMessage rf_cause rf_stackTrace rf_depth rf_suppressedExceptions n3 n2 tap ctap gtap)) [1, 2, 0] (by decide) rfl
      refine x_known (fun hzc hzs => ?_)
      refine x_widen (c2 := 8 * (h0_length.toInt - h0_to.toInt).toNat + 4) (n2 := 80 * (h0_length.toInt - h0_to.toInt).toNat + 120) (by (first | (apply Int.le_antisymm <;> omega) | omega)) (by (first | (apply Int.le_antisymm <;> omega) | omega)) ?_
      exact tz_leave rfl hno hlocks (fun t ht hW => ⟨⟨(LP, h0_from, h0_kind, h0_numeral, h0_to, n2, n3, (0 + 0), (0 + 0), fP, h0_word), ⟨⟨b_h0_from, b_h0_to, ⟨pex.rfl2, by (try dsimp only) <;> (first | (apply Int.le_antisymm <;> omega) | omega), by (try dsimp only) <;> (first | (apply Int.le_antisymm <;> omega) | omega)⟩⟩, hxa, by rw [ht]; exact hXX.moved hW.alike⟩, va_P.he ht.symm hP9, va_K.moved hW.alike hK, hD9, by rw [ht]; exact hzc, by rw [ht]; exact hzs⟩, hS.F ht⟩) hS.2.2
    obtain ⟨n4, n5⟩ := u
    try dsimp only at hw
    have xr1 := hw
    try clear hw
    exact absurd xr1 (by decide)
  · have q6 := eqI c6
    refine lv_iconst (v := 1) hx hb d_MD_name_9 (by decide) ?_
    refine lv_goto (tgt := 14) hx hb d_MD_name_10 (by decide) ?_
    have hPc := hP.sb (wq := (wz_301 h0 rf tap h0_taped h0_length h0_kind h0_from h0_to h0_word h0_numeral h0_globalNames_r h0_globalPlaces_r h0_globalTypes_r h0_globalValues_r h0_globalCount h0_funs_r h0_funCount h0_open h0_signs h0_levels_r h0_now h0_known_r h0_knownCount h0_loops mad h0_madeLength mag h0_smalls_r h0_greats_r h0_module_r h0_spare_r h0_m h0_cursor h0_limit blk stk h0_top hgt lab ous kis los h0_depth h0_function mem h0_pages glo val h0_valueTop ffu fre fba fla h0_frames lat lhe h0_labelTop h0_steps h0_there rsl h0_resultLength h0_reason h0_place arg h0_argumentCount h0_code rf rf_backtrace rf_detailMessage rf_cause rf_stackTrace rf_depth rf_suppressedExceptions rf_reason rf_place)) [0, 1] rfl
    have hDc := hD.sb (wq := (wz_301 h0 rf tap h0_taped h0_length h0_kind h0_from h0_to h0_word h0_numeral h0_globalNames_r h0_globalPlaces_r h0_globalTypes_r h0_globalValues_r h0_globalCount h0_funs_r h0_funCount h0_open h0_signs h0_levels_r h0_now h0_known_r h0_knownCount h0_loops mad h0_madeLength mag h0_smalls_r h0_greats_r h0_module_r h0_spare_r h0_m h0_cursor h0_limit blk stk h0_top hgt lab ous kis los h0_depth h0_function mem h0_pages glo val h0_valueTop ffu fre fba fla h0_frames lat lhe h0_labelTop h0_steps h0_there rsl h0_resultLength h0_reason h0_place arg h0_argumentCount h0_code rf rf_backtrace rf_detailMessage rf_cause rf_stackTrace rf_depth rf_suppressedExceptions rf_reason rf_place)) [0, 1] (by decide) rfl
    have hKc := hK.sb (tyq := []) [] rfl
    have hFc := va_free (wc := (wz_301 h0 rf tap h0_taped h0_length h0_kind h0_from h0_to h0_word h0_numeral h0_globalNames_r h0_globalPlaces_r h0_globalTypes_r h0_globalValues_r h0_globalCount h0_funs_r h0_funCount h0_open h0_signs h0_levels_r h0_now h0_known_r h0_knownCount h0_loops mad h0_madeLength mag h0_smalls_r h0_greats_r h0_module_r h0_spare_r h0_m h0_cursor h0_limit blk stk h0_top hgt lab ous kis los h0_depth h0_function mem h0_pages glo val h0_valueTop ffu fre fba fla h0_frames lat lhe h0_labelTop h0_steps h0_there rsl h0_resultLength h0_reason h0_place arg h0_argumentCount h0_code rf rf_backtrace rf_detailMessage rf_cause rf_stackTrace rf_depth rf_suppressedExceptions rf_reason rf_place)) hD hS hA [0, 1] rfl
    refine tr_callv (tz_runV (As := [.int 1]) (rest := []) ⟨hx, hb, hml, hown, hts⟩ (c_MD_can l hlt dC dI H.size h0 rf tap h0_globalNames_r h0_globalPlaces_r h0_globalTypes_r h0_globalValues_r h0_funs_r h0_levels_r h0_known_r mad mag h0_smalls_r h0_greats_r h0_module_r h0_spare_r blk stk hgt lab ous kis los mem glo val ffu fre fba fla lat lhe rsl arg h0_taped h0_length h0_kind h0_from h0_to h0_word h0_numeral h0_globalCount h0_funCount h0_open h0_signs h0_now h0_knownCount h0_loops h0_madeLength h0_m h0_cursor h0_limit h0_top h0_depth h0_function h0_pages h0_valueTop h0_frames h0_labelTop h0_steps h0_there h0_resultLength h0_reason h0_place h0_argumentCount h0_code rf_backtrace rf_detailMessage rf_cause rf_stackTrace rf_depth rf_suppressedExceptions rf_reason rf_place (b_h0_from) 1 (Or.inr rfl)) (cwV 1 hts (gV kM_MD_122 kV_MD_can kS_MD_can kI_MD kC_MD_can) rfl rfl rfl (by decide +kernel) ⟨Nat.le_of_ble_eq_true rfl, Nat.le_of_ble_eq_true rfl⟩) ⟨fun a U g mk z => by obtain ⟨z0, z1, zP, zK, zD, zS⟩ := z; exact ⟨z0, z1, zP, va_K.moved (u := U) (U := U.calling g mk a) (Vm.Alike.refl U.vm) zK, zD, sw_nest.same (s := U) (U := U.calling g mk a) rfl zS⟩, va_recv hKc hPc (ci := 11) (q0 := 0) rfl rfl, fun U hU hW => ⟨rfl, by rw [hU], va_P.he hU.symm hPc, va_K.moved hW.alike hKc, hDc.weaken (fun _ _ _ _ => trivial), hSW.nest.warm hW⟩⟩ rfl rfl hl.1 rfl (lv_room (Nat.le_of_ble_eq_true rfl)) d_MD_name_14 ⟨by dsimp only [headSpec]; (first | (apply Int.le_antisymm <;> omega) | omega), by dsimp only [headSpec]; (first | (apply Int.le_antisymm <;> omega) | omega)⟩) hS (fun q _ h => hFc q h) hFc (fun u t H1 locs ht hvm hw hB hz1 hk1 hS => ?_) (fun xx u t H1 locs ht hvm hw hXX hB hz1 hk1 hS => ?_)
    rotate_left
    · skip
      obtain ⟨hxa, hXX⟩ := hXX
      obtain ⟨n7, n8⟩ := u
      try dsimp only at hw
      have tq9 := hw
      exact absurd tq9 (by decide)
    obtain ⟨n9, n10⟩ := u
    try dsimp only at hw
    have xr6 := hw
    try clear hw
    obtain ⟨hP1, hK1, hD1⟩ := hB
    replace hP1 := va_P.he ht hP1
    obtain ⟨hP, hD⟩ := va_joinQ (wr := [(tap, .inl (ctap, 2000, .inl gtap))]) (w1 := (wz_301 h0 rf tap h0_taped h0_length h0_kind h0_from h0_to h0_word h0_numeral h0_globalNames_r h0_globalPlaces_r h0_globalTypes_r h0_globalValues_r h0_globalCount h0_funs_r h0_funCount h0_open h0_signs h0_levels_r h0_now h0_known_r h0_knownCount h0_loops mad h0_madeLength mag h0_smalls_r h0_greats_r h0_module_r h0_spare_r h0_m h0_cursor h0_limit blk stk h0_top hgt lab ous kis los h0_depth h0_function mem h0_pages glo val h0_valueTop ffu fre fba fla h0_frames lat lhe h0_labelTop h0_steps h0_there rsl h0_resultLength h0_reason h0_place arg h0_argumentCount h0_code rf rf_backtrace rf_detailMessage rf_cause rf_stackTrace rf_depth rf_suppressedExceptions n10 n9)) hP hD [0, 1] [2] rfl rfl (by decide) (by decide) hk1 hFc hP1 hD1
    clear hPc hDc hKc hFc hz1 hk1 hP1 hK1 hD1
    rename Heap => H
    have hP : va_P (dC, dI) cls2 (((wz_509 tap ctap gtap h0 rf tap h0_taped h0_length h0_kind h0_from h0_to h0_word h0_numeral h0_globalNames_r h0_globalPlaces_r h0_globalTypes_r h0_globalValues_r h0_globalCount h0_funs_r h0_funCount h0_open h0_signs h0_levels_r h0_now h0_known_r h0_knownCount h0_loops mad h0_madeLength mag h0_smalls_r h0_greats_r h0_module_r h0_spare_r h0_m h0_cursor h0_limit blk stk h0_top hgt lab ous kis los h0_depth h0_function mem h0_pages glo val h0_valueTop ffu fre fba fla h0_frames lat lhe h0_labelTop h0_steps h0_there rsl h0_resultLength h0_reason h0_place arg h0_argumentCount h0_code rf rf_backtrace rf_detailMessage rf_cause rf_stackTrace rf_depth rf_suppressedExceptions n10 n9) : va_W) ++ va_pl LP fP) H := hP
    have hD : va_D A (((wz_509 tap ctap gtap h0 rf tap h0_taped h0_length h0_kind h0_from h0_to h0_word h0_numeral h0_globalNames_r h0_globalPlaces_r h0_globalTypes_r h0_globalValues_r h0_globalCount h0_funs_r h0_funCount h0_open h0_signs h0_levels_r h0_now h0_known_r h0_knownCount h0_loops mad h0_madeLength mag h0_smalls_r h0_greats_r h0_module_r h0_spare_r h0_m h0_cursor h0_limit blk stk h0_top hgt lab ous kis los h0_depth h0_function mem h0_pages glo val h0_valueTop ffu fre fba fla h0_frames lat lhe h0_labelTop h0_steps h0_there rsl h0_resultLength h0_reason h0_place arg h0_argumentCount h0_code rf rf_backtrace rf_detailMessage rf_cause rf_stackTrace rf_depth rf_suppressedExceptions n10 n9) : va_W) ++ va_pl LP fP) := hD
    refine lv_aload_n hx hb d_MD_name_17 rfl (lv_at hl 0 rfl) ?_
    obtain ⟨po_w, gw9, ew, hstr, hns, h20, -⟩ := hlw.out (Or.inl (by (first | (apply Int.le_antisymm <;> omega) | omega)))
    rw [ew] at hP hD
    replace hstr : bx _ := hstr
    have hP : va_P (dC, dI) cls2 (([(tap, .inl (ctap, 2000, .inl gtap)), (h0, .inr (11, (.ref rf :: .ref tap :: .int h0_taped :: .int h0_length :: .int h0_kind :: .int h0_from :: .int h0_to :: .ref po_w :: .long h0_numeral :: .ref h0_globalNames_r :: .ref h0_globalPlaces_r :: .ref h0_globalTypes_r :: .ref h0_globalValues_r :: .int h0_globalCount :: .ref h0_funs_r :: .int h0_funCount :: .int h0_open :: .int h0_signs :: .ref h0_levels_r :: h0_now :: .ref h0_known_r :: .int h0_knownCount :: .int h0_loops :: .ref mad :: .int h0_madeLength :: .ref mag :: .ref h0_smalls_r :: .ref h0_greats_r :: .ref h0_module_r :: .ref h0_spare_r :: h0_m :: .int h0_cursor :: .int h0_limit :: [ .ref blk, .ref stk, .int h0_top, .ref hgt, .ref lab, .ref ous, .ref kis, .ref los, .int h0_depth, .int h0_function, .ref mem, .int h0_pages, .ref glo, .ref val, .int h0_valueTop, .ref ffu, .ref fre, .ref fba, .ref fla, .int h0_frames, .ref lat, .ref lhe, .int h0_labelTop, .int h0_steps, .int h0_there, .ref rsl, .int h0_resultLength, .int h0_reason, .int h0_place, .ref arg, .int h0_argumentCount, .int h0_code]))), (rf, .inr (15, [rf_backtrace, rf_detailMessage, rf_cause, rf_stackTrace, .int rf_depth, rf_suppressedExceptions, .int n10, .int n9]))] : va_W) ++ va_pl LP fP) H := hP
    have hD : va_D A (([(tap, .inl (ctap, 2000, .inl gtap)), (h0, .inr (11, (.ref rf :: .ref tap :: .int h0_taped :: .int h0_length :: .int h0_kind :: .int h0_from :: .int h0_to :: .ref po_w :: .long h0_numeral :: .ref h0_globalNames_r :: .ref h0_globalPlaces_r :: .ref h0_globalTypes_r :: .ref h0_globalValues_r :: .int h0_globalCount :: .ref h0_funs_r :: .int h0_funCount :: .int h0_open :: .int h0_signs :: .ref h0_levels_r :: h0_now :: .ref h0_known_r :: .int h0_knownCount :: .int h0_loops :: .ref mad :: .int h0_madeLength :: .ref mag :: .ref h0_smalls_r :: .ref h0_greats_r :: .ref h0_module_r :: .ref h0_spare_r :: h0_m :: .int h0_cursor :: .int h0_limit :: [ .ref blk, .ref stk, .int h0_top, .ref hgt, .ref lab, .ref ous, .ref kis, .ref los, .int h0_depth, .int h0_function, .ref mem, .int h0_pages, .ref glo, .ref val, .int h0_valueTop, .ref ffu, .ref fre, .ref fba, .ref fla, .int h0_frames, .ref lat, .ref lhe, .int h0_labelTop, .int h0_steps, .int h0_there, .ref rsl, .int h0_resultLength, .int h0_reason, .int h0_place, .ref arg, .int h0_argumentCount, .int h0_code]))), (rf, .inr (15, [rf_backtrace, rf_detailMessage, rf_cause, rf_stackTrace, .int rf_depth, rf_suppressedExceptions, .int n10, .int n9]))] : va_W) ++ va_pl LP fP) := hD
    refine va_get (D := (dC, dI)) (ci := 11) (v := .ref po_w) (C := R_MD) (T := F_MD) (N := 65) hx hb hts i_MD hown hK hP 1 rfl rfl 7 (by decide) (hts _ kF_MD_57) (fun _ h9 => h9) rfl d_MD_name_18 ?_
    refine lv_astore_n (lv' := [(1, .ref po_w), (0, .ref h0)]) hx hb d_MD_name_21 rfl hl (by decide) rfl (fun ls hl => ?_)
    refine lv_aload_n hx hb d_MD_name_22 rfl (lv_at hl 1 rfl) ?_
    refine w_known (fun hzc hzs => ?_)
    have hPc := hP.part (cx := (wz_501 h0 rf tap h0_taped h0_length h0_kind h0_from h0_to po_w h0_numeral h0_globalNames_r h0_globalPlaces_r h0_globalTypes_r h0_globalValues_r h0_globalCount h0_funs_r h0_funCount h0_open h0_signs h0_levels_r h0_now h0_known_r h0_knownCount h0_loops mad h0_madeLength mag h0_smalls_r h0_greats_r h0_module_r h0_spare_r h0_m h0_cursor h0_limit blk stk h0_top hgt lab ous kis los h0_depth h0_function mem h0_pages glo val h0_valueTop ffu fre fba fla h0_frames lat lhe h0_labelTop h0_steps h0_there rsl h0_resultLength h0_reason h0_place arg h0_argumentCount h0_code tap ctap gtap)) [1, 0] rfl
    have hDc := hD.part (cx := (wz_501 h0 rf tap h0_taped h0_length h0_kind h0_from h0_to po_w h0_numeral h0_globalNames_r h0_globalPlaces_r h0_globalTypes_r h0_globalValues_r h0_globalCount h0_funs_r h0_funCount h0_open h0_signs h0_levels_r h0_now h0_known_r h0_knownCount h0_loops mad h0_madeLength mag h0_smalls_r h0_greats_r h0_module_r h0_spare_r h0_m h0_cursor h0_limit blk stk h0_top hgt lab ous kis los h0_depth h0_function mem h0_pages glo val h0_valueTop ffu fre fba fla h0_frames lat lhe h0_labelTop h0_steps h0_there rsl h0_resultLength h0_reason h0_place arg h0_argumentCount h0_code tap ctap gtap)) [1, 0] (by decide) rfl
    have hKc := hK.sb (tyq := [(ctap, .byte), (cr, .int), (cpn, .object "WaferForgeModel$N"), (cpb, .byte)]) [0, 1, 2, 3] rfl
    have hFc := va_freeP (cx := (wz_501 h0 rf tap h0_taped h0_length h0_kind h0_from h0_to po_w h0_numeral h0_globalNames_r h0_globalPlaces_r h0_globalTypes_r h0_globalValues_r h0_globalCount h0_funs_r h0_funCount h0_open h0_signs h0_levels_r h0_now h0_known_r h0_knownCount h0_loops mad h0_madeLength mag h0_smalls_r h0_greats_r h0_module_r h0_spare_r h0_m h0_cursor h0_limit blk stk h0_top hgt lab ous kis los h0_depth h0_function mem h0_pages glo val h0_valueTop ffu fre fba fla h0_frames lat lhe h0_labelTop h0_steps h0_there rsl h0_resultLength h0_reason h0_place arg h0_argumentCount h0_code tap ctap gtap)) hD hS hA [1, 0] rfl
    refine va_callv (va_runV (As := []) (rest := []) ⟨hx, hb, hml, hown, hts⟩ (c_MD_next l hlt dC dI H.size (hsl H) sa h0 rf tap h0_globalNames_r h0_globalPlaces_r h0_globalTypes_r h0_globalValues_r h0_funs_r h0_levels_r h0_known_r mad mag h0_smalls_r h0_greats_r h0_module_r h0_spare_r blk stk hgt lab ous kis los mem glo val ffu fre fba fla lat lhe rsl arg ctap cr cpn cpb h0_taped h0_length h0_kind h0_from h0_to (.ref po_w) h0_numeral h0_globalCount h0_funCount h0_open h0_signs h0_now h0_knownCount h0_loops h0_madeLength h0_m h0_cursor h0_limit h0_top h0_depth h0_function h0_pages h0_valueTop h0_frames h0_labelTop h0_steps h0_there h0_resultLength h0_reason h0_place h0_argumentCount h0_code gtap LP fP (b_h0_length) (b_h0_from) (b_h0_to) (by (first | (apply Int.le_antisymm <;> omega) | omega))) (cwV 0 hts (gV kM_MD_112 kV_MD_next kS_MD_next kI_MD kC_MD_next) rfl rfl rfl (by decide +kernel) ⟨Nat.le_of_ble_eq_true rfl, Nat.le_of_ble_eq_true rfl⟩) ⟨fun a U g mk z => by obtain ⟨z0, z1, zP, zK, zD, zS, zZ⟩ := z; exact ⟨z0, z1, zP, va_K.moved (u := U) (U := U.calling g mk a) (Vm.Alike.refl U.vm) zK, zD, sm.same (u := U) (U := U.calling g mk a) rfl zS, zZ⟩, va_recv hKc hPc (ci := 11) (q0 := 0) rfl rfl, fun U hU hW => ⟨rfl, by rw [hU], va_P.he hU.symm hPc, va_K.moved hW.alike hKc, hDc.weaken (fun _ _ _ _ => trivial), hSW.call hS hFc hW hU, by rw [hU]⟩⟩ rfl rfl hl.1 rfl (lv_room (Nat.le_of_ble_eq_true rfl)) d_MD_name_23 ⟨by dsimp only [headSpec]; (first | (apply Int.le_antisymm <;> omega) | omega), by dsimp only [headSpec]; (first | (apply Int.le_antisymm <;> omega) | omega)⟩) hS (fun q _ h => hFc q h) hFc (fun u t H1 locs ht hvm hw hB hz1 hk1 hS => ?_)
    obtain ⟨n14, n15, n16, n17, n18, n19, n20, n21, n22⟩ := u
    try dsimp only at hw
    obtain ⟨bn15, bn18, xr13⟩ := hw
    try clear hw
    have y23 := xr13
    have zz1_ := lx_le xr13.1.1
    have zz2_ := xr13.1.2.1
    have zz3_ := xr13.2.1
    have zz4_ := xr13.2.2.1
    obtain ⟨hP1, hK1, hD1, hZc, hZs⟩ := hB
    rw [ht] at hP1 hZc hZs
    obtain ⟨kc23, ekc23⟩ : ∃ z : Nat, z = 0 + 0 + n19 := ⟨_, rfl⟩
    obtain ⟨kn24, ekn24⟩ : ∃ z : Nat, z = 0 + 0 + n20 := ⟨_, rfl⟩
    refine w_refund (c2 := kc23) (n2 := kn24) (by (first | (apply Int.le_antisymm <;> omega) | omega)) (by (first | (apply Int.le_antisymm <;> omega) | omega)) ?_
    clear hzc hzs hZc hZs
    obtain ⟨hP, hD⟩ := va_joinP (wr := (wz_374 rf rf_backtrace rf_detailMessage rf_cause rf_stackTrace rf_depth rf_suppressedExceptions n10 n9)) (rx := (wz_307 h0 rf tap h0_taped h0_length n16 n15 n18 n22 n17 h0_globalNames_r h0_globalPlaces_r h0_globalTypes_r h0_globalValues_r h0_globalCount h0_funs_r h0_funCount h0_open h0_signs h0_levels_r h0_now h0_known_r h0_knownCount h0_loops mad h0_madeLength mag h0_smalls_r h0_greats_r h0_module_r h0_spare_r h0_m h0_cursor h0_limit blk stk h0_top hgt lab ous kis los h0_depth h0_function mem h0_pages glo val h0_valueTop ffu fre fba fla h0_frames lat lhe h0_labelTop h0_steps h0_there rsl h0_resultLength h0_reason h0_place arg h0_argumentCount h0_code tap ctap gtap)) hP hD [1, 0] [2] rfl rfl (by decide) (by decide) hk1 hFc hP1 hD1
    clear hPc hDc hKc hFc hz1 hk1 hP1 hK1 hD1
    rename Heap => H
    have hP : va_P (dC, dI) cls2 (((wz_508 rf rf_backtrace rf_detailMessage rf_cause rf_stackTrace rf_depth rf_suppressedExceptions n10 n9 h0 rf tap h0_taped h0_length n16 n15 n18 n22 n17 h0_globalNames_r h0_globalPlaces_r h0_globalTypes_r h0_globalValues_r h0_globalCount h0_funs_r h0_funCount h0_open h0_signs h0_levels_r h0_now h0_known_r h0_knownCount h0_loops mad h0_madeLength mag h0_smalls_r h0_greats_r h0_module_r h0_spare_r h0_m h0_cursor h0_limit blk stk h0_top hgt lab ous kis los h0_depth h0_function mem h0_pages glo val h0_valueTop ffu fre fba fla h0_frames lat lhe h0_labelTop h0_steps h0_there rsl h0_resultLength h0_reason h0_place arg h0_argumentCount h0_code tap ctap gtap) : va_W) ++ va_pl n14 n21) H := hP
    have hD : va_D A (((wz_508 rf rf_backtrace rf_detailMessage rf_cause rf_stackTrace rf_depth rf_suppressedExceptions n10 n9 h0 rf tap h0_taped h0_length n16 n15 n18 n22 n17 h0_globalNames_r h0_globalPlaces_r h0_globalTypes_r h0_globalValues_r h0_globalCount h0_funs_r h0_funCount h0_open h0_signs h0_levels_r h0_now h0_known_r h0_knownCount h0_loops mad h0_madeLength mag h0_smalls_r h0_greats_r h0_module_r h0_spare_r h0_m h0_cursor h0_limit blk stk h0_top hgt lab ous kis los h0_depth h0_function mem h0_pages glo val h0_valueTop ffu fre fba fla h0_frames lat lhe h0_labelTop h0_steps h0_there rsl h0_resultLength h0_reason h0_place arg h0_argumentCount h0_code tap ctap gtap) : va_W) ++ va_pl n14 n21) := hD
    refine lv_aload_n hx hb d_MD_name_26 rfl (lv_at hl 0 rfl) ?_
    have hP9 := hP.part (cx := (wz_507 h0 rf tap h0_taped h0_length n16 n15 n18 n22 n17 h0_globalNames_r h0_globalPlaces_r h0_globalTypes_r h0_globalValues_r h0_globalCount h0_funs_r h0_funCount h0_open h0_signs h0_levels_r h0_now h0_known_r h0_knownCount h0_loops mad h0_madeLength mag h0_smalls_r h0_greats_r h0_module_r h0_spare_r h0_m h0_cursor h0_limit blk stk h0_top hgt lab ous kis los h0_depth h0_function mem h0_pages glo val h0_valueTop ffu fre fba fla h0_frames lat lhe h0_labelTop h0_steps h0_there rsl h0_resultLength h0_reason h0_place arg h0_argumentCount h0_code rf rf_backtrace rf_detailMessage rf_cause rf_stackTrace rf_depth rf_suppressedExceptions n10 n9 tap ctap gtap)) [1, 0, 2] rfl
    have hD9 := hD.part (cx := (wz_507 h0 rf tap h0_taped h0_length n16 n15 n18 n22 n17 h0_globalNames_r h0_globalPlaces_r h0_globalTypes_r h0_globalValues_r h0_globalCount h0_funs_r h0_funCount h0_open h0_signs h0_levels_r h0_now h0_known_r h0_knownCount h0_loops mad h0_madeLength mag h0_smalls_r h0_greats_r h0_module_r h0_spare_r h0_m h0_cursor h0_limit blk stk h0_top hgt lab ous kis los h0_depth h0_function mem h0_pages glo val h0_valueTop ffu fre fba fla h0_frames lat lhe h0_labelTop h0_steps h0_there rsl h0_resultLength h0_reason h0_place arg h0_argumentCount h0_code rf rf_backtrace rf_detailMessage rf_cause rf_stackTrace rf_depth rf_suppressedExceptions n10 n9 tap ctap gtap)) [1, 0, 2] (by decide) rfl
    refine w_known (fun hzc hzs => ?_)
    refine W.widen (k := 8 * (h0_length.toInt - h0_to.toInt).toNat + 4) (n := 80 * (h0_length.toInt - h0_to.toInt).toNat + 120) (by (first | (apply Int.le_antisymm <;> omega) | omega)) (by (first | (apply Int.le_antisymm <;> omega) | omega)) ?_
    exact tz_up (fun _ => rfl) (W.aret (v := .ref po_w) hx hb hr (Or.inl ⟨_, rfl⟩) (Or.inr ⟨_, rfl⟩) (fun t ht hW => ⟨⟨(n14, n15, n16, n17, n18, n9, n10, kc23, kn24, n21, n22), ⟨po_w, rfl, ⟨bn15, bn18, ⟨⟨po_w, _, rfl, strP_pex y23.1.2.2.1 hstr.out, hns, h20 (by (first | (apply Int.le_antisymm <;> omega) | omega))⟩, by (first | (apply Int.le_antisymm <;> omega) | omega), nx_of (W0 := .ref po_w) (by (try dsimp only); refine ⟨y23.1, ?_, ?_, y23.2.2.2.1⟩ <;> (have a9 := y23.2.1; have b9 := y23.2.2.1; (first | (apply Int.le_antisymm <;> omega) | omega)))⟩⟩⟩, va_P.he ht.symm hP9, va_K.moved hW.alike hK, hD9, by rw [ht]; exact hzc, by rw [ht]; exact hzs⟩, hS.F ht⟩) hS.2.2 d_MD_name_27)
end q_n00
