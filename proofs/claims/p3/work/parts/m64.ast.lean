/-! the reference: trees in the pool, and the code of their values -/
def nP (f : Nat → va_E) (a : Nat) (op pl : Int32) (nm : Value) (v : Int64) (t : Int32) (p : Nat) (cnt ix gl : Int32) : Prop := f a = .inr (13, [.int op, .int pl, nm, .long v, .int t, .ref p, .int cnt, .int ix, .int gl])
def aP (L : List Nat) (f : Nat → va_E) (cpn : ClassId) (p n : Nat) (g : Nat → Option Nat) : Prop := p ∈ L ∧ f p = .inl (cpn, n, .inr (.inr (.inr (.inr g))))
/-- the first n of a row, as a list -/
def sbl (g : Nat → Int32) (n : Nat) : List Int32 := (List.range n).map g
theorem sbl_len {g : Nat → Int32} {n : Nat} : (sbl g n).length = n := by unfold sbl; rw [List.length_map, List.length_range]
theorem sbl_get {g : Nat → Int32} {n j : Nat} (h : j < n) : (sbl g n).getD j 0 = g j := by
  unfold sbl
  rw [List.getD_eq_getElem?_getD, List.getElem?_map, List.getElem?_range h]
  rfl
theorem sbl_cg {g g2 : Nat → Int32} {n : Nat} (h : ∀ j, j < n → g2 j = g j) : sbl g2 n = sbl g n := by
  unfold sbl
  exact List.map_congr_left (fun j hj => h j (List.mem_range.mp hj))
theorem sbl_0 {g : Nat → Int32} : sbl g 0 = [] := rfl
theorem sbl_s {g : Nat → Int32} {n : Nat} : sbl g (n + 1) = sbl g n ++ [g n] := by
  unfold sbl
  rw [List.range_succ, List.map_append]
  rfl
theorem sbl_up {g g2 : Nat → Int32} {n : Nat} {v : Int32} (e : upd g n v = g2) : sbl g2 (n + 1) = sbl g n ++ [v] := by
  subst e
  rw [sbl_s, pk_us, sbl_cg (g := g) (fun j hj => pk_un (by omega))]
theorem sbl_app {g g2 : Nat → Int32} {n k : Nat} {b : List Int32} (h1 : ∀ j, j < n → g2 j = g j) (h2 : ∀ j, j < k → g2 (n + j) = b.getD j 0) (hb : b.length = k) : sbl g2 (n + k) = sbl g n ++ b := by
  refine List.ext_getElem? (fun i => ?_)
  by_cases q1 : i < n + k
  · by_cases q : i < n
    · rw [List.getElem?_append_left (by rw [sbl_len]; exact q)]
      unfold sbl
      rw [List.getElem?_map, List.getElem?_map, List.getElem?_range q1, List.getElem?_range q]
      show some (g2 i) = some (g i)
      rw [h1 i q]
    · rw [List.getElem?_append_right (by rw [sbl_len]; omega), sbl_len]
      have e := h2 (i - n) (by omega)
      rw [show n + (i - n) = i by omega, List.getD_eq_getElem?_getD, List.getElem?_eq_getElem (by omega)] at e
      unfold sbl
      rw [List.getElem?_map, List.getElem?_range q1, List.getElem?_eq_getElem (by omega)]
      show some (g2 i) = _
      rw [e]
      rfl
  · rw [List.getElem?_eq_none (by rw [sbl_len]; omega), List.getElem?_eq_none (by rw [List.length_append, sbl_len]; omega)]
theorem sbl_eq {g : Nat → Int32} {nb : List Int32} (h : ∀ j, j < nb.length → g j = nb.getD j 0) : sbl g nb.length = nb := lst_eq9 (n := nb.length) (by rw [sbl_len]) rfl (fun j hj => by rw [sbl_get (by omega), h j (by omega)])
def rht (nb : List Int32) (h z : Int32) : Prop := (h = 0 ∨ h = hs9 nb nb.length) ∧ (z.toInt ≠ 0 → hs9 nb nb.length = 0)
def byt9 (nb : List Int32) : Prop := ∀ j : Nat, -128 ≤ (nb.getD j 0).toInt ∧ (nb.getD j 0).toInt ≤ 127
def strP (L : List Nat) (f : Nat → va_E) (cpb : ClassId) (s : Nat) (nb : List Int32) : Prop := s ∈ L ∧ ∃ (v : Nat) (h z : Int32) (g : Nat → Int32), f s = .inr (16, [.ref v, .int 0, .int h, .int z]) ∧ v ∈ L ∧ f v = .inl (cpb, nb.length, .inl g) ∧ (∀ j, j < nb.length → g j = nb.getD j 0) ∧ rht nb h z ∧ byt9 nb ∧ nb.length ≤ 4000 ∧ ∀ j : Nat, -128 ≤ (g j).toInt ∧ (g j).toInt ≤ 127
def lg9 (nb : List Int32) : Nat := if nb = [124, 124] ∨ nb = [38, 38] then 1 else 0
def ocost (nb : List Int32) : Int := if nb = [124, 124] ∨ nb = [38, 38] then 48 else 8
def ksum (kf : Nat → Int) : Nat → Int
  | 0 => 0
  | n + 1 => ksum kf n + kf n
/-- the calls of the language's own: how many are given, what comes out -/
def owk (nb : List Int32) (cnt t : Int) : Prop :=
  (nb = [108, 111, 97, 100, 56] ∧ cnt = 1 ∧ t = 127) ∨ (nb = [108, 111, 97, 100, 51, 50] ∧ cnt = 1 ∧ t = 127) ∨ (nb = [108, 111, 97, 100, 54, 52] ∧ cnt = 1 ∧ t = 126) ∨
  (nb = [115, 116, 111, 114, 101, 56] ∧ cnt = 2 ∧ t = 0) ∨ (nb = [115, 116, 111, 114, 101, 51, 50] ∧ cnt = 2 ∧ t = 0) ∨ (nb = [115, 116, 111, 114, 101, 54, 52] ∧ cnt = 2 ∧ t = 0) ∨
  (nb = [115, 105, 122, 101] ∧ cnt = 0 ∧ t = 127) ∨ (nb = [103, 114, 111, 119] ∧ cnt = 1 ∧ t = 127) ∨ (nb = [116, 114, 97, 112] ∧ cnt = 0 ∧ t = 0)
/-- what a node of a value may be; T: its parts -/
def tvc (L : List Nat) (f : Nat → va_E) (cpb : ClassId) (N fc gc : Int) (gv tk : Nat → Int) (T : Nat → Int32 → Int → Nat → Prop) (op : Int32) (nm : Value) (v : Int64) (t cnt ix gl : Int32) (g : Nat → Option Nat) (c : Int) (b : Nat) : Prop :=
  (op.toInt = 0 ∧ ((t.toInt = 127 ∧ in32 v) ∨ t.toInt = 126) ∧ 8 ≤ c ∧ 5 * (1 + ((sleb 10 v.toInt).length : Int)) ≤ c) ∨
  (op.toInt = 1 ∧ t27 t.toInt ∧ ((gl.toInt = 1 ∧ ix.toInt < gc) ∨ (gl.toInt = 0 ∧ ix.toInt < N)) ∧ (0 ≤ ix.toInt ∧ ix.toInt < 128) ∧ 10 ≤ c) ∨
  (op.toInt = 2 ∧ ∃ (cf : Nat → Nat) (tf : Nat → Int32) (kf : Nat → Int), (∀ i : Nat, (i : Int) < cnt.toInt → g i = some (cf i) ∧ t27 (tf i).toInt ∧ 0 ≤ kf i ∧ T (cf i) (tf i) (kf i) b) ∧
    ((0 ≤ ix.toInt ∧ ix.toInt < fc ∧ ix.toInt < 128 ∧ tk ix.toInt.toNat = cnt.toInt ∧ gv ix.toInt.toNat = ga0 t.toInt ∧ ksum kf cnt.toInt.toNat + 10 ≤ c) ∨ (ix.toInt < 0 ∧ (∃ (sr : Nat) (nb : List Int32), nm = .ref sr ∧ strP L f cpb sr nb ∧ owk nb cnt.toInt t.toInt) ∧ ksum kf cnt.toInt.toNat + 15 ≤ c))) ∨
  (op.toInt = 3 ∧ t27 t.toInt ∧ 1 ≤ cnt.toInt ∧ ∃ (c0 : Nat) (t0 : Int32) (k0 : Int), g 0 = some c0 ∧ t27 t0.toInt ∧ T c0 t0 k0 b ∧ 0 ≤ k0 ∧ k0 + 8 ≤ c) ∨
  (op.toInt = 5 ∧ t27 t.toInt ∧ 1 ≤ cnt.toInt ∧ ∃ (c0 : Nat) (t0 : Int32) (k0 : Int), g 0 = some c0 ∧ t27 t0.toInt ∧ T c0 t0 k0 b ∧ 0 ≤ k0 ∧ k0 + 16 ≤ c) ∨
  (op.toInt = 4 ∧ t27 t.toInt ∧ 2 ≤ cnt.toInt ∧ ∃ (c0 c1 : Nat) (t0 t1 : Int32) (k0 k1 : Int) (b1 sr : Nat) (nb : List Int32), g 0 = some c0 ∧ g 1 = some c1 ∧ t27 t0.toInt ∧ t27 t1.toInt ∧ T c0 t0 k0 b ∧ T c1 t1 k1 b1 ∧ b1 + lg9 nb ≤ b ∧ 0 ≤ k0 ∧ 0 ≤ k1 ∧ nm = .ref sr ∧ strP L f cpb sr nb ∧ k0 + k1 + ocost nb ≤ c ∧ nb.length ≤ 3)
/-- a value's tree, with its types: depth, root, type, cost, ifs within ifs -/
def tv (L : List Nat) (f : Nat → va_E) (cpn cpb : ClassId) (N fc gc : Int) (gv tk : Nat → Int) : Nat → Nat → Int32 → Int → Nat → Prop
  | 0, _, _, _, _ => False
  | d + 1, a, t, c, b => ∃ (op pl : Int32) (nm : Value) (v : Int64) (p n : Nat) (cnt ix gl : Int32) (g : Nat → Option Nat), a ∈ L ∧ nP f a op pl nm v t p cnt ix gl ∧ aP L f cpn p n g ∧ (0 ≤ cnt.toInt ∧ cnt.toInt ≤ (n : Int) ∧ n < 100000) ∧ tvc L f cpb N fc gc gv tk (tv L f cpn cpb N fc gc gv tk d) op nm v t cnt ix gl g c b
section TVC
variable {L : List Nat} {f : Nat → va_E} {cpn cpb : ClassId} {N fc gc : Int} {gv tk : Nat → Int} {T : Nat → Int32 → Int → Nat → Prop} {op : Int32} {nm : Value} {v : Int64} {t cnt ix gl : Int32} {g : Nat → Option Nat} {c : Int} {b d a : Nat}
theorem tv_out (h : tv L f cpn cpb N fc gc gv tk d a t c b) : ∃ (d1 : Nat) (op pl : Int32) (nm : Value) (v : Int64) (p n : Nat) (cnt ix gl : Int32) (g : Nat → Option Nat), d = d1 + 1 ∧ a ∈ L ∧ nP f a op pl nm v t p cnt ix gl ∧ aP L f cpn p n g ∧ (0 ≤ cnt.toInt ∧ cnt.toInt ≤ (n : Int) ∧ n < 100000) ∧ tvc L f cpb N fc gc gv tk (tv L f cpn cpb N fc gc gv tk d1) op nm v t cnt ix gl g c b := by
  cases d with
  | zero => exact h.elim
  | succ d1 =>
    obtain ⟨op, pl, nm, v, p, n, cnt, ix, gl, g, h⟩ := h
    exact ⟨d1, op, pl, nm, v, p, n, cnt, ix, gl, g, rfl, h⟩
theorem tvc_0 (h : tvc L f cpb N fc gc gv tk T op nm v t cnt ix gl g c b) (e : op.toInt = 0) : ((t.toInt = 127 ∧ in32 v) ∨ t.toInt = 126) ∧ 8 ≤ c ∧ 5 * (1 + ((sleb 10 v.toInt).length : Int)) ≤ c := by
  rcases h with ⟨q, h⟩ | ⟨q, h⟩ | ⟨q, h⟩ | ⟨q, h⟩ | ⟨q, h⟩ | ⟨q, h⟩
  · exact h
  all_goals (exfalso; clear h; omega)
theorem tvc_1 (h : tvc L f cpb N fc gc gv tk T op nm v t cnt ix gl g c b) (e : op.toInt = 1) : t27 t.toInt ∧ ((gl.toInt = 1 ∧ ix.toInt < gc) ∨ (gl.toInt = 0 ∧ ix.toInt < N)) ∧ (0 ≤ ix.toInt ∧ ix.toInt < 128) ∧ 10 ≤ c := by
  rcases h with ⟨q, h⟩ | ⟨q, h⟩ | ⟨q, h⟩ | ⟨q, h⟩ | ⟨q, h⟩ | ⟨q, h⟩
  · exfalso; clear h; omega
  · exact h
  all_goals (exfalso; clear h; omega)
theorem tvc_2 (h : tvc L f cpb N fc gc gv tk T op nm v t cnt ix gl g c b) (e : op.toInt = 2) : ∃ (cf : Nat → Nat) (tf : Nat → Int32) (kf : Nat → Int), (∀ i : Nat, (i : Int) < cnt.toInt → g i = some (cf i) ∧ t27 (tf i).toInt ∧ 0 ≤ kf i ∧ T (cf i) (tf i) (kf i) b) ∧
    ((0 ≤ ix.toInt ∧ ix.toInt < fc ∧ ix.toInt < 128 ∧ tk ix.toInt.toNat = cnt.toInt ∧ gv ix.toInt.toNat = ga0 t.toInt ∧ ksum kf cnt.toInt.toNat + 10 ≤ c) ∨ (ix.toInt < 0 ∧ (∃ (sr : Nat) (nb : List Int32), nm = .ref sr ∧ strP L f cpb sr nb ∧ owk nb cnt.toInt t.toInt) ∧ ksum kf cnt.toInt.toNat + 15 ≤ c)) := by
  rcases h with ⟨q, h⟩ | ⟨q, h⟩ | ⟨q, h⟩ | ⟨q, h⟩ | ⟨q, h⟩ | ⟨q, h⟩
  · exfalso; clear h; omega
  · exfalso; clear h; omega
  · exact h
  all_goals (exfalso; clear h; omega)
theorem tvc_3 (h : tvc L f cpb N fc gc gv tk T op nm v t cnt ix gl g c b) (e : op.toInt = 3) : t27 t.toInt ∧ 1 ≤ cnt.toInt ∧ ∃ (c0 : Nat) (t0 : Int32) (k0 : Int), g 0 = some c0 ∧ t27 t0.toInt ∧ T c0 t0 k0 b ∧ 0 ≤ k0 ∧ k0 + 8 ≤ c := by
  rcases h with ⟨q, h⟩ | ⟨q, h⟩ | ⟨q, h⟩ | ⟨q, h⟩ | ⟨q, h⟩ | ⟨q, h⟩
  · exfalso; clear h; omega
  · exfalso; clear h; omega
  · exfalso; clear h; omega
  · exact h
  all_goals (exfalso; clear h; omega)
theorem tvc_5 (h : tvc L f cpb N fc gc gv tk T op nm v t cnt ix gl g c b) (e : op.toInt = 5) : t27 t.toInt ∧ 1 ≤ cnt.toInt ∧ ∃ (c0 : Nat) (t0 : Int32) (k0 : Int), g 0 = some c0 ∧ t27 t0.toInt ∧ T c0 t0 k0 b ∧ 0 ≤ k0 ∧ k0 + 16 ≤ c := by
  rcases h with ⟨q, h⟩ | ⟨q, h⟩ | ⟨q, h⟩ | ⟨q, h⟩ | ⟨q, h⟩ | ⟨q, h⟩
  · exfalso; clear h; omega
  · exfalso; clear h; omega
  · exfalso; clear h; omega
  · exfalso; clear h; omega
  · exact h
  · exfalso; clear h; omega
theorem tvc_4 (h : tvc L f cpb N fc gc gv tk T op nm v t cnt ix gl g c b) (e : op.toInt = 4) : t27 t.toInt ∧ 2 ≤ cnt.toInt ∧ ∃ (c0 c1 : Nat) (t0 t1 : Int32) (k0 k1 : Int) (b1 sr : Nat) (nb : List Int32), g 0 = some c0 ∧ g 1 = some c1 ∧ t27 t0.toInt ∧ t27 t1.toInt ∧ T c0 t0 k0 b ∧ T c1 t1 k1 b1 ∧ b1 + lg9 nb ≤ b ∧ 0 ≤ k0 ∧ 0 ≤ k1 ∧ nm = .ref sr ∧ strP L f cpb sr nb ∧ k0 + k1 + ocost nb ≤ c ∧ nb.length ≤ 3 := by
  rcases h with ⟨q, h⟩ | ⟨q, h⟩ | ⟨q, h⟩ | ⟨q, h⟩ | ⟨q, h⟩ | ⟨q, h⟩
  · exfalso; clear h; omega
  · exfalso; clear h; omega
  · exfalso; clear h; omega
  · exfalso; clear h; omega
  · exfalso; clear h; omega
  · exact h
theorem nP_op {op2 pl pl2 : Int32} {nm2 : Value} {v2 : Int64} {t2 : Int32} {p p2 : Nat} {cnt2 ix2 gl2 : Int32} (h : nP f a op pl nm v t p cnt ix gl) (h2 : nP f a op2 pl2 nm2 v2 t2 p2 cnt2 ix2 gl2) : op = op2 ∧ t = t2 := by
  unfold nP at h h2
  rw [h] at h2
  injection h2 with h2
  injection h2 with _ h2
  injection h2 with h3 h2
  injection h2 with _ h2
  injection h2 with _ h2
  injection h2 with _ h2
  injection h2 with h4 h2
  injection h3 with h3
  injection h4 with h4
  exact ⟨h3, h4⟩
theorem tv_ty (h : tv L f cpn cpb N fc gc gv tk d a t c b) : ∃ (op pl : Int32) (nm : Value) (v : Int64) (p : Nat) (cnt ix gl : Int32), a ∈ L ∧ nP f a op pl nm v t p cnt ix gl := by
  obtain ⟨d1, op, pl, nm, v, p, n, cnt, ix, gl, g, -, h1, h2, -⟩ := tv_out h
  exact ⟨op, pl, nm, v, p, cnt, ix, gl, h1, h2⟩
end TVC
/-- nothing but kept hashes of texts has changed -/
def hsh (f f2 : Nat → va_E) : Prop := ∀ a, f2 a = f a ∨ ∃ (v : Nat) (h z h2 z2 : Int32) (c : ClassId) (n : Nat) (g : Nat → Int32), f a = .inr (16, [.ref v, .int 0, .int h, .int z]) ∧ f2 a = .inr (16, [.ref v, .int 0, .int h2, .int z2]) ∧ f v = .inl (c, n, .inl g) ∧ rht (sbl g n) h2 z2
theorem hsh.rfl' {f : Nat → va_E} : hsh f f := fun _ => Or.inl rfl
theorem hsh.aback {f f2 : Nat → va_E} {a : Nat} {x : ClassId × vp_A} (h : hsh f f2) (e : f2 a = .inl x) : f a = .inl x := by
  rcases h a with q | ⟨v, y, z, y2, z2, c, n, g, -, e2, -⟩
  · rw [← q]; exact e
  · rw [e] at e2
    cases e2
theorem hsh.trans {f f2 f3 : Nat → va_E} (h : hsh f f2) (h2 : hsh f2 f3) : hsh f f3 := by
  intro a
  rcases h2 a with e | ⟨v, x, z, x2, z2, c, n, g, e1, e2, e5, e6⟩
  · rw [e]; exact h a
  · rcases h a with e3 | ⟨w, y, u, y2, u2, c', n', g', e3, e4, -, -⟩
    · rw [e3] at e1
      exact Or.inr ⟨v, x, z, x2, z2, c, n, g, e1, e2, h.aback e5, e6⟩
    · rw [e4] at e1
      injection e1 with e1
      injection e1 with _ e1
      injection e1 with e7 _
      injection e7 with e7
      subst e7
      exact Or.inr ⟨w, y, u, x2, z2, c, n, g, e3, e2, h.aback e5, e6⟩
theorem hsh.n {f f2 : Nat → va_E} {a ci : Nat} {fs : List Value} (h : hsh f f2) (hc : ci ≠ 16) (e : f a = .inr (ci, fs)) : f2 a = .inr (ci, fs) := by
  rcases h a with q | ⟨v, x, z, x2, z2, c, n, g, e1, -⟩
  · rw [q]; exact e
  · rw [e] at e1
    injection e1 with e1
    injection e1 with e1 _
    exact absurd e1 hc
theorem hsh.a {f f2 : Nat → va_E} {a : Nat} {x : ClassId × vp_A} (h : hsh f f2) (e : f a = .inl x) : f2 a = .inl x := by
  rcases h a with q | ⟨v, y, z, y2, z2, c, n, g, e1, -⟩
  · rw [q]; exact e
  · rw [e] at e1
    cases e1
theorem hsh.s {L : List Nat} {f f2 : Nat → va_E} {cpb : ClassId} {s : Nat} {nb : List Int32} (h : hsh f f2) (e : strP L f cpb s nb) : strP L f2 cpb s nb := by
  obtain ⟨e1, v, x, z, g, e2, e3, e4, e5, e6, e7⟩ := e
  rcases h s with q | ⟨w, y, u, y2, u2, c, n, g', q1, q2, q4, q5⟩
  · exact ⟨e1, v, x, z, g, by rw [q]; exact e2, e3, h.a e4, e5, e6, e7⟩
  · rw [e2] at q1
    injection q1 with q1
    injection q1 with _ q1
    injection q1 with q3 _
    injection q3 with q3
    subst q3
    rw [e4] at q4
    injection q4 with q4
    injection q4 with _ q4
    injection q4 with q6 q4
    injection q4 with q4
    subst q6
    subst q4
    rw [sbl_eq e5] at q5
    exact ⟨e1, v, y2, u2, g, q2, e3, h.a e4, e5, q5, e7⟩
theorem tvc.mono {L : List Nat} {f f2 : Nat → va_E} {cpb : ClassId} {N fc gc : Int} {gv tk : Nat → Int} {T T2 : Nat → Int32 → Int → Nat → Prop} {op : Int32} {nm : Value} {v : Int64} {t cnt ix gl : Int32} {g : Nat → Option Nat} {c : Int} {b : Nat} (hh : hsh f f2) (hT : ∀ a t c b, T a t c b → T2 a t c b) (h : tvc L f cpb N fc gc gv tk T op nm v t cnt ix gl g c b) : tvc L f2 cpb N fc gc gv tk T2 op nm v t cnt ix gl g c b := by
  rcases h with h | h | ⟨q, cf, tf, kf, h1, h2⟩ | ⟨q1, q2, q3, c0, t0, k0, q4, q5, q6, q7⟩ | ⟨q1, q2, q3, c0, t0, k0, q4, q5, q6, q7⟩ | ⟨q1, q2, q3, c0, c1, t0, t1, k0, k1, b1, sr, nb, q4, q5, q6, q7, q8, q9, q10, q11, q12, q13, q14, q15⟩
  · exact Or.inl h
  · exact Or.inr (Or.inl h)
  · refine Or.inr (Or.inr (Or.inl ⟨q, cf, tf, kf, fun i hi => ?_, ?_⟩))
    · obtain ⟨a1, a2, a3, a4⟩ := h1 i hi
      exact ⟨a1, a2, a3, hT _ _ _ _ a4⟩
    · rcases h2 with h2 | ⟨a1, ⟨sr, nb, a2, a3, a4⟩, a5⟩
      · exact Or.inl h2
      · exact Or.inr ⟨a1, ⟨sr, nb, a2, hh.s a3, a4⟩, a5⟩
  · exact Or.inr (Or.inr (Or.inr (Or.inl ⟨q1, q2, q3, c0, t0, k0, q4, q5, hT _ _ _ _ q6, q7⟩)))
  · exact Or.inr (Or.inr (Or.inr (Or.inr (Or.inl ⟨q1, q2, q3, c0, t0, k0, q4, q5, hT _ _ _ _ q6, q7⟩))))
  · exact Or.inr (Or.inr (Or.inr (Or.inr (Or.inr ⟨q1, q2, q3, c0, c1, t0, t1, k0, k1, b1, sr, nb, q4, q5, q6, q7, hT _ _ _ _ q8, hT _ _ _ _ q9, q10, q11, q12, q13, hh.s q14, q15⟩))))
theorem tv_hsh {L : List Nat} {f f2 : Nat → va_E} {cpn cpb : ClassId} {N fc gc : Int} {gv tk : Nat → Int} (hh : hsh f f2) : ∀ (d : Nat) {a : Nat} {t : Int32} {c : Int} {b : Nat}, tv L f cpn cpb N fc gc gv tk d a t c b → tv L f2 cpn cpb N fc gc gv tk d a t c b
  | 0, _, _, _, _, h => h
  | d + 1, a, t, c, b, h => by
    obtain ⟨op, pl, nm, v, p, n, cnt, ix, gl, g, h1, h2, h3, h4, h5⟩ := h
    exact ⟨op, pl, nm, v, p, n, cnt, ix, gl, g, h1, hh.n (by decide) h2, ⟨h3.1, hh.a h3.2⟩, h4, tvc.mono hh (fun a t c b q => tv_hsh hh d q) h5⟩
section WV
variable {N fc gc : Int} {gv tk : Nat → Int}
/-- code that takes p and leaves q -/
def Wv (N fc gc : Int) (gv tk : Nat → Int) (l : List ci) (p q : Int) : Prop := ∀ (o g hb d : Int) (R : List vt) (h : Int), 0 ≤ hb → hb + p ≤ h → (∀ y ∈ R, 0 ≤ y.2.2.1) → cz N gv tk fc gc l ((o, g, hb, d) :: R) h ((o, g, hb, d) :: R) (h - p + q)
theorem Wv.seq {l1 l2 : List ci} {p q q2 r s : Int} (h1 : Wv N fc gc gv tk l1 p q) (h2 : Wv N fc gc gv tk l2 q2 r) (hq : q2 ≤ q) (hp : 0 ≤ p) (hs : s = q - q2 + r) : Wv N fc gc gv tk (l1 ++ l2) p s := by
  intro o g hb d R h a1 a2 a3
  have k1 := h1 o g hb d R h a1 a2 a3
  have k2 := h2 o g hb d R (h - p + q) a1 (by omega) a3
  rw [show h - p + q - q2 + r = h - p + s by omega] at k2
  exact cz_app k1 k2
theorem lz_of {x : ci} {o g hb d : Int} {R : List vt} {h : Int} (hx : x.1 ≠ 12 ∧ x.1 ≠ 13 ∧ x.1 ≠ 15 ∧ x.1 ≠ 14 ∧ x.1 ≠ 110 ∧ x.1 ≠ 112) : lz x ((o, g, hb, d) :: R) h :=
  ⟨o, g, hb, d, R, rfl, ⟨fun z => absurd z hx.1, fun z => absurd z hx.2.1, fun z => absurd z hx.2.2.1⟩, hx.2.2.2⟩
theorem tp_of {o g hb d p h : Int} {R : List vt} (a1 : 0 ≤ hb) (a2 : hb + p ≤ h) (hp : 0 ≤ p) (a3 : ∀ y ∈ R, 0 ≤ y.2.2.1) : tp p ((o, g, hb, d) :: R) h :=
  ⟨⟨o, g, hb, d, R, rfl, a2⟩, by omega, fun y hy => by
    rcases List.mem_cons.mp hy with z | z
    · rw [z]; exact a1
    · exact a3 y z⟩
theorem Wv.w01 {op v : Int} (ho : op = 32 ∨ op = 35 ∨ op = 63 ∨ op = 65 ∨ op = 66) (h1 : op = 32 → 0 ≤ v ∧ v < N) (h2 : op = 35 → 0 ≤ v ∧ v < gc) : Wv N fc gc gv tk [(op, v)] 0 1 := by
  intro o g hb d R h a1 a2 a3
  refine cz_one ⟨?_, lz_of (by dsimp only; omega)⟩
  have q := c1_01 (N := N) (gv := gv) (tk := tk) (fc := fc) (gc := gc) (v := v) (tp_of (o := o) (g := g) (d := d) a1 a2 (by omega) a3) ho h1 h2
  rw [show h - 0 + 1 = h + 1 by omega]
  exact q
theorem Wv.w10 {op v : Int} (ho : op = 26 ∨ op = 33 ∨ op = 36) (h1 : op = 33 → 0 ≤ v ∧ v < N) (h2 : op = 36 → 0 ≤ v ∧ v < gc) : Wv N fc gc gv tk [(op, v)] 1 0 := by
  intro o g hb d R h a1 a2 a3
  refine cz_one ⟨?_, lz_of (by dsimp only; omega)⟩
  have q := c1_10 (N := N) (gv := gv) (tk := tk) (fc := fc) (gc := gc) (v := v) (tp_of (o := o) (g := g) (d := d) a1 a2 (by omega) a3) (by omega) h1 h2
  rw [show h - 1 + 0 = h - 1 by omega]
  exact q
theorem c1_80 {v : Int} {B : List vt} {h : Int} (H : tp 1 B h) : c1 N gv tk fc gc (80, v) B h B h := by
  obtain ⟨⟨o, g, hb, d, R, e, a2⟩, a3, a4⟩ := H
  refine ⟨⟨o, g, hb, d, R, e, by omega, ?_⟩, by omega, a4⟩
  dsimp only
  refine ⟨?_, ?_, ?_, ?_, ?_, ?_, ?_, ?_, ?_, ?_, ?_, ?_, ?_, ?_, ?_, ?_, ?_, ?_⟩ <;> intro z <;> first | (exfalso; omega) | skip
  exact ⟨rfl, by omega, fun _ => ⟨by omega, by omega⟩⟩
theorem Wv.w11 {op v : Int} (ho : op = 64 ∨ op = 40 ∨ op = 41 ∨ op = 45 ∨ op = 69 ∨ op = 80 ∨ op = 167 ∨ op = 172) : Wv N fc gc gv tk [(op, v)] 1 1 := by
  intro o g hb d R h a1 a2 a3
  refine cz_one ⟨?_, lz_of (by dsimp only; omega)⟩
  have t := tp_of (o := o) (g := g) (d := d) a1 a2 (by omega) a3
  rw [show h - 1 + 1 = h by omega]
  by_cases q : op = 80
  · subst q; exact c1_80 t
  · exact c1_11 t (by omega)
theorem Wv.w21 {op v : Int} (ho : two op) (hn : op ≠ 110 ∧ op ≠ 112) : Wv N fc gc gv tk [(op, v)] 2 1 := by
  intro o g hb d R h a1 a2 a3
  have ho2 := ho
  unfold two at ho2
  refine cz_one ⟨?_, lz_of (by dsimp only; omega)⟩
  have q := c1_21 (N := N) (gv := gv) (tk := tk) (fc := fc) (gc := gc) (v := v) (tp_of (o := o) (g := g) (d := d) a1 a2 (by omega) a3) ho
  rw [show h - 2 + 1 = h - 1 by omega]
  exact q
theorem Wv.w20 {op v : Int} (ho : op = 54 ∨ op = 55 ∨ op = 58) : Wv N fc gc gv tk [(op, v)] 2 0 := by
  intro o g hb d R h a1 a2 a3
  refine cz_one ⟨?_, lz_of (by dsimp only; omega)⟩
  have q := c1_20 (N := N) (gv := gv) (tk := tk) (fc := fc) (gc := gc) (v := v) (tp_of (o := o) (g := g) (d := d) a1 a2 (by omega) a3) ho
  rw [show h - 2 + 0 = h - 2 by omega]
  exact q
theorem Wv.call {v : Int} (h0 : 0 ≤ v) (h1 : v < fc) (h2 : 0 ≤ gv v.toNat) (h3 : 0 ≤ tk v.toNat) : Wv N fc gc gv tk [(16, v)] (tk v.toNat) (gv v.toNat) := by
  intro o g hb d R h a1 a2 a3
  exact cz_one ⟨c1_call (tp_of (o := o) (g := g) (d := d) a1 a2 h3 a3) h0 h1 h2 h3, lz_of (by dsimp only; omega)⟩
/-- a value that is asked for by an if -/
theorem Wv.ife {l1 l2 : List ci} (h1 : Wv N fc gc gv tk l1 0 1) (h2 : Wv N fc gc gv tk l2 0 1) : Wv N fc gc gv tk ((4, 127) :: (l1 ++ ((5, 0) :: (l2 ++ [(11, 0)])))) 1 1 := by
  intro o g hb d R h a1 a2 a3
  rw [show h - 1 + 1 = h by omega]
  have hm : ∀ y ∈ ((o, g, hb, d) :: R : List vt), 0 ≤ y.2.2.1 := (tp_of (o := o) (g := g) (d := d) a1 (show hb + 1 ≤ h by omega) (by omega) a3).2.2
  have k1 := h1 4 127 (h - 1) 0 ((o, g, hb, d) :: R) (h - 1) (by omega) (by omega) hm
  have k2 := h2 5 127 (h - 1) 0 ((o, g, hb, d) :: R) (h - 1) (by omega) (by omega) hm
  rw [show h - 1 - 0 + 1 = h by omega] at k1 k2
  refine cz_cons ⟨c1_if (tp_of a1 (show hb + 1 ≤ h by omega) (by omega) a3) rfl, lz_of (by dsimp only; omega)⟩ (cz_app k1 (cz_cons ⟨c1_els (hb := h - 1) (by show h = h - 1 + ga 127; unfold ga; rw [if_neg (by decide)]; omega) (by omega) hm, lz_of (by dsimp only; omega)⟩ (cz_app k2 (cz_one ⟨c1_end (hb := h - 1) (g := 127) (by show h = h - 1 + ga 127; unfold ga; rw [if_neg (by decide)]; omega) (by show h = h - 1 + ga 127; unfold ga; rw [if_neg (by decide)]; omega) (by omega) hm (by decide), lz_of (by dsimp only; omega)⟩))))
/-- the code of a value of type t: its cost, its ifs within ifs -/
def vok (N fc gc : Int) (gv tk : Nat → Int) (l : List ci) (t c : Int) (b : Nat) : Prop :=
  iokl2 l ∧ 8 * (l.length : Int) ≤ c ∧ 5 * ((enl l).length : Int) ≤ c ∧ (∀ S : List Nat, S.length + b ≤ 100 → dl l S = some S) ∧ (t ≠ 0 → Wv N fc gc gv tk l 0 1) ∧
  ∀ (o g hb d : Int) (R : List vt) (h : Int), 0 ≤ hb → hb ≤ h → (∀ y ∈ R, 0 ≤ y.2.2.1) → ∃ d', cz N gv tk fc gc l ((o, g, hb, d) :: R) h ((o, g, hb, d') :: R) (h + ga0 t)
theorem vok_W {l : List ci} {t c : Int} {b : Nat} (h1 : iokl2 l) (h2 : 8 * (l.length : Int) ≤ c) (h3 : 5 * ((enl l).length : Int) ≤ c) (h4 : ∀ S : List Nat, S.length + b ≤ 100 → dl l S = some S) (h5 : Wv N fc gc gv tk l 0 (ga0 t)) : vok N fc gc gv tk l t c b := by
  refine ⟨h1, h2, h3, h4, fun z => ?_, fun o g hb d R h a1 a2 a3 => ⟨d, ?_⟩⟩
  · have e := (ga0_b t).2.2.1 z
    rw [e] at h5
    exact h5
  · have k := h5 o g hb d R h a1 (by omega) a3
    rw [show h - 0 + ga0 t = h + ga0 t by omega] at k
    exact k
end WV
