/-! the reference: types of values: trees -/
theorem uvc_op {L : List Nat} {f : Nat → va_E} {cpb : ClassId} {T : Nat → Int → Nat → Prop} {op : Int32} {nm : Value} {v : Int64} {t cnt : Int32} {g : Nat → Option Nat} {c : Int} {b : Nat} (h : uvc L f cpb T op nm v t cnt g c b) : (0 ≤ op.toInt ∧ op.toInt ≤ 5) ∧ 8 ≤ c ∨ (op.toInt = 2 ∨ op.toInt = 3 ∨ op.toInt = 4 ∨ op.toInt = 5) := by
  rcases h with ⟨q, h1, h2, h3⟩ | ⟨q, h1, h2⟩ | ⟨q, h⟩ | ⟨q, h⟩ | ⟨q, h⟩ | ⟨q, h⟩
  · exact Or.inl ⟨by omega, h2⟩
  · exact Or.inl ⟨by omega, by omega⟩
  all_goals (clear h; exact Or.inr (by omega))
section UVC
variable {L : List Nat} {f f2 : Nat → va_E} {cpn cpb : ClassId} {T : Nat → Int → Nat → Prop} {op : Int32} {nm : Value} {v : Int64} {t cnt : Int32} {g : Nat → Option Nat} {c : Int} {b : Nat} {K : Nat → Prop}
theorem uvc_0 (h : uvc L f cpb T op nm v t cnt g c b) (e : op.toInt = 0) : ((t.toInt = 127 ∧ in32 v) ∨ t.toInt = 126) ∧ 8 ≤ c ∧ 5 * (1 + ((sleb 10 v.toInt).length : Int)) ≤ c := by
  rcases h with ⟨q, h⟩ | ⟨q, h⟩ | ⟨q, h⟩ | ⟨q, h⟩ | ⟨q, h⟩ | ⟨q, h⟩
  · exact h
  all_goals (exfalso; clear h; omega)
theorem uvc_1 (h : uvc L f cpb T op nm v t cnt g c b) (e : op.toInt = 1) : nmP L f cpb nm ∧ 10 ≤ c := by
  rcases h with ⟨q, h⟩ | ⟨q, h⟩ | ⟨q, h⟩ | ⟨q, h⟩ | ⟨q, h⟩ | ⟨q, h⟩
  · exfalso; clear h; omega
  · exact h
  all_goals (exfalso; clear h; omega)
theorem uvc_2 (h : uvc L f cpb T op nm v t cnt g c b) (e : op.toInt = 2) : nmP L f cpb nm ∧ cnt.toInt ≤ 8 ∧ ∃ (cf : Nat → Nat) (kf : Nat → Int), (∀ i : Nat, (i : Int) < cnt.toInt → g i = some (cf i) ∧ 0 ≤ kf i ∧ T (cf i) (kf i) b) ∧ ksum kf cnt.toInt.toNat + 15 ≤ c := by
  rcases h with ⟨q, h⟩ | ⟨q, h⟩ | ⟨q, h⟩ | ⟨q, h⟩ | ⟨q, h⟩ | ⟨q, h⟩
  · exfalso; clear h; omega
  · exfalso; clear h; omega
  · exact h
  all_goals (exfalso; clear h; omega)
theorem uvc_3 (h : uvc L f cpb T op nm v t cnt g c b) (e : op.toInt = 3) : (v.toInt = 126 ∨ v.toInt = 127) ∧ cnt.toInt = 1 ∧ ∃ (c0 : Nat) (k0 : Int), g 0 = some c0 ∧ T c0 k0 b ∧ 0 ≤ k0 ∧ k0 + 8 ≤ c := by
  rcases h with ⟨q, h⟩ | ⟨q, h⟩ | ⟨q, h⟩ | ⟨q, h⟩ | ⟨q, h⟩ | ⟨q, h⟩
  · exfalso; clear h; omega
  · exfalso; clear h; omega
  · exfalso; clear h; omega
  · exact h
  all_goals (exfalso; clear h; omega)
theorem uvc_5 (h : uvc L f cpb T op nm v t cnt g c b) (e : op.toInt = 5) : cnt.toInt = 1 ∧ ∃ (c0 : Nat) (k0 : Int), g 0 = some c0 ∧ T c0 k0 b ∧ 0 ≤ k0 ∧ k0 + 16 ≤ c := by
  rcases h with ⟨q, h⟩ | ⟨q, h⟩ | ⟨q, h⟩ | ⟨q, h⟩ | ⟨q, h⟩ | ⟨q, h⟩
  · exfalso; clear h; omega
  · exfalso; clear h; omega
  · exfalso; clear h; omega
  · exfalso; clear h; omega
  · exact h
  · exfalso; clear h; omega
theorem uvc_4 (h : uvc L f cpb T op nm v t cnt g c b) (e : op.toInt = 4) : cnt.toInt = 2 ∧ ∃ (c0 c1 : Nat) (k0 k1 : Int) (b1 sr : Nat) (nb : List Int32), g 0 = some c0 ∧ g 1 = some c1 ∧ T c0 k0 b ∧ T c1 k1 b1 ∧ b1 + lg9 nb ≤ b ∧ 0 ≤ k0 ∧ 0 ≤ k1 ∧ nm = .ref sr ∧ strP L f cpb sr nb ∧ k0 + k1 + ocost nb ≤ c ∧ nb.length ≤ 3 := by
  rcases h with ⟨q, h⟩ | ⟨q, h⟩ | ⟨q, h⟩ | ⟨q, h⟩ | ⟨q, h⟩ | ⟨q, h⟩
  · exfalso; clear h; omega
  · exfalso; clear h; omega
  · exfalso; clear h; omega
  · exfalso; clear h; omega
  · exfalso; clear h; omega
  · exact h
theorem oc_8 {nb : List Int32} : 8 ≤ ocost nb := by unfold ocost; split <;> omega
theorem uv_c {d a : Nat} (h : uv L f cpn cpb d a c b) : 8 ≤ c := by
  cases d with
  | zero => exact h.elim
  | succ d =>
    obtain ⟨op, pl, nm, v, t, p, n, cnt, ix, gl, hq9r⟩ := h
    obtain ⟨g, h1, h2, h3, h4, h5, h⟩ := hq9r
    rcases h with ⟨q, h1, h2, h3⟩ | ⟨q, h1, h2⟩ | ⟨q, h1, h2, cf, kf, h3, h4⟩ | ⟨q, h1, h2, c0, k0, h3, h4, h5, h6⟩ | ⟨q, h1, c0, k0, h3, h4, h5, h6⟩ | ⟨q, h1, c0, c1, k0, k1, b1, sr, nb, h3, h4, h5, h6, h7, h8, h9, h10, h11, h12, h13⟩
    · exact h2
    · omega
    · have := ks_0 (kf := kf) (n := cnt.toInt.toNat) (fun i hi => (h3 i (by omega)).2.1)
      omega
    · omega
    · omega
    · have := oc_8 (nb := nb)
      omega
/-- a tree before its types, opened: its node, its parts, whose they are -/
theorem ut_out {d e a : Nat} (h : uv L f cpn cpb d a c b) (hf : fp L f cpn e a K) : ∃ (d1 : Nat) (op pl : Int32) (nm : Value) (v : Int64) (t : Int32) (p n : Nat) (cnt ix gl : Int32) (g : Nat → Option Nat) (Kf : Nat → Nat → Prop), d = d1 + 1 ∧ (a ∈ L ∧ nP f a op pl nm v t p cnt ix gl) ∧ aP L f cpn p n g ∧ (0 ≤ cnt.toInt ∧ cnt.toInt ≤ (n : Int) ∧ n < 100000) ∧ gl.toInt = 0 ∧ (0 ≤ op.toInt ∧ op.toInt ≤ 5) ∧ uvc L f cpb (uv L f cpn cpb d1) op nm v t cnt g c b ∧ K a ∧ kds L f cpn a K cnt.toInt g Kf := by
  cases d with
  | zero => exact h.elim
  | succ d =>
    obtain ⟨op, pl, nm, v, t, p, n, cnt, ix, gl, hq9r⟩ := h
    obtain ⟨g, h1, h2, h3, h4, h5, h6⟩ := hq9r
    obtain ⟨k1, Kf, k2⟩ := fp_kds hf h2 h3
    exact ⟨d, op, pl, nm, v, t, p, n, cnt, ix, gl, g, Kf, rfl, ⟨h1, h2⟩, h3, h4, h5, by rcases uvc_op h6 with q | q <;> omega, h6, k1, k2⟩
theorem kd_at {a i y : Nat} {n : Int} {Kf : Nat → Nat → Prop} (h : kds L f cpn a K n g Kf) (hi : (i : Int) < n) (hg : g i = some y) : ∃ e, fp L f cpn e y (Kf i) := by
  obtain ⟨z, e, z1, z2⟩ := h.1 i hi
  rw [hg] at z1
  injection z1 with z1
  subst z1
  exact ⟨e, z2⟩
end UVC
section TO
variable {L : List Nat} {f f2 : Nat → va_E} {cpn cpb : ClassId} {N fc gc : Int} {gv tk : Nat → Int} {K : Nat → Prop}
/-- a tree whose root's type is r, but not yet written down -/
def to9 (L : List Nat) (f : Nat → va_E) (cpn cpb : ClassId) (N fc gc : Int) (gv tk : Nat → Int) (d a : Nat) (r : Int32) (c : Int) (b : Nat) : Prop := ∃ (d1 : Nat) (op pl : Int32) (nm : Value) (v : Int64) (t : Int32) (p n : Nat) (cnt ix gl : Int32) (g : Nat → Option Nat), d = d1 + 1 ∧ (a ∈ L ∧ nP f a op pl nm v t p cnt ix gl) ∧ aP L f cpn p n g ∧ (0 ≤ cnt.toInt ∧ cnt.toInt ≤ (n : Int) ∧ n < 100000) ∧ tvc L f cpb N fc gc gv tk (tv L f cpn cpb N fc gc gv tk d1) op nm v r cnt ix gl g c b
/-- and written down -/
theorem to_tv {d e a : Nat} {r : Int32} {c : Int} {b : Nat} {op pl : Int32} {nm : Value} {v : Int64} {t : Int32} {p : Nat} {cnt ix gl : Int32} (h : to9 L f cpn cpb N fc gc gv tk d a r c b) (hf : fp L f cpn e a K) (h1 : nP f a op pl nm v t p cnt ix gl) : tv L (va_up f a (.inr (13, [.int op, .int pl, nm, .long v, .int r, .ref p, .int cnt, .int ix, .int gl]))) cpn cpb N fc gc gv tk d a r c b := by
  obtain ⟨d1, op', pl', nm', v', t', p', n, cnt', ix', gl', g, rfl, ⟨h2, h3⟩, h4, h5, h6⟩ := h
  obtain ⟨r1, r2, r3, r4, r5, r6, r7, r8, r9⟩ := nP_inj h3 h1
  subst r1 r2 r3 r4 r6 r7 r8 r9
  obtain ⟨ka, Kf, k⟩ := fp_kds hf h1 h4
  have cu : cgn (fun x => x = a) f (va_up f a (.inr (13, [.int op', .int pl', nm', .long v', .int r, .ref p', .int cnt', .int ix', .int gl']))) := cgn.up h1 rfl
  refine ⟨op', pl', nm', v', p', n, cnt', ix', gl', g, h2, va_up_self _ _ _, (cu.kp (cpb := cpb)).aP h4, h5, tvc.kid (cu.kp (cpn := cpn)) (Int.le_refl _) (fun i y t c b hi hy q => ?_) h6⟩
  obtain ⟨e1, z⟩ := kd_at k hi hy
  exact tv_kp cu.kp (Int.le_refl _) d1 (fun x hx => (k.2.1 i x hi hx).2) z q
/-- what is given to a call: the first i have types -/
def mix (L : List Nat) (f : Nat → va_E) (cpn cpb : ClassId) (N fc gc : Int) (gv tk : Nat → Int) (d b : Nat) (n : Int) (cf : Nat → Nat) (kf : Nat → Int) (i : Int) : Prop := (∀ j : Nat, i ≤ (j : Int) → (j : Int) < n → uv L f cpn cpb d (cf j) (kf j) b) ∧ ∀ j : Nat, (j : Int) < i → ∃ t : Int32, (t.toInt = 0 ∨ t27 t.toInt) ∧ tv L f cpn cpb N fc gc gv tk d (cf j) t (kf j) b
theorem mix_cgn {a d b : Nat} {n i : Int} {g : Nat → Option Nat} {cf : Nat → Nat} {kf : Nat → Int} {Kf : Nat → Nat → Prop} {K1 : Nat → Prop} (h : mix L f cpn cpb N fc gc gv tk d b n cf kf i) (hi : i ≤ n) (hk : kds L f cpn a K n g Kf) (hg : ∀ j : Nat, (j : Int) < n → g j = some (cf j)) (hc : cgn K1 f f2) (hd : ∀ (j x : Nat), (j : Int) < n → Kf j x → ¬ K1 x) : mix L f2 cpn cpb N fc gc gv tk d b n cf kf i := by
  refine ⟨fun j h1 h2 => ?_, fun j h1 => ?_⟩
  · obtain ⟨e, z⟩ := kd_at hk h2 (hg j h2)
    exact uv_kp hc.kp d (fun x hx => hd j x h2 hx) z (h.1 j h1 h2)
  · obtain ⟨t, t1, t2⟩ := h.2 j h1
    obtain ⟨e, z⟩ := kd_at hk (by omega) (hg j (by omega))
    exact ⟨t, t1, tv_kp hc.kp (Int.le_refl _) d (fun x hx => hd j x (by omega) hx) z t2⟩
theorem mix_s {a d b m : Nat} {n i i2 : Int} {t : Int32} {g : Nat → Option Nat} {cf : Nat → Nat} {kf : Nat → Int} {Kf : Nat → Nat → Prop} (h : mix L f cpn cpb N fc gc gv tk d b n cf kf i) (hm : (m : Int) = i) (hi2 : i2 = i + 1) (hi : i < n) (hk : kds L f cpn a K n g Kf) (hg : ∀ j : Nat, (j : Int) < n → g j = some (cf j)) (hc : cgn (Kf m) f f2) (ht : t.toInt = 0 ∨ t27 t.toInt) (hv : tv L f2 cpn cpb N fc gc gv tk d (cf m) t (kf m) b) : mix L f2 cpn cpb N fc gc gv tk d b n cf kf i2 := by
  subst hi2
  have ne : ∀ (j x : Nat), (j : Int) < n → j ≠ m → Kf j x → ¬ Kf m x := fun j x hj q hx hy => q (hk.2.2 j m x hj (by omega) hx hy)
  refine ⟨fun j h1 h2 => ?_, fun j h1 => ?_⟩
  · obtain ⟨e, z⟩ := kd_at hk h2 (hg j h2)
    exact uv_kp hc.kp d (fun x hx => ne j x h2 (by omega) hx) z (h.1 j (by omega) h2)
  · by_cases q : j = m
    · subst q
      exact ⟨t, ht, hv⟩
    · obtain ⟨t, t1, t2⟩ := h.2 j (by omega)
      obtain ⟨e, z⟩ := kd_at hk (by omega) (hg j (by omega))
      exact ⟨t, t1, tv_kp hc.kp (Int.le_refl _) d (fun x hx => ne j x (by omega) q hx) z t2⟩
theorem pick9 {n : Int} {P : Nat → Int32 → Prop} (h : ∀ j : Nat, (j : Int) < n → ∃ t, P j t) : ∃ tf : Nat → Int32, ∀ j : Nat, (j : Int) < n → P j (tf j) :=
  ⟨fun j => if q : (j : Int) < n then Classical.choose (h j q) else 0, fun j hj => by dsimp only; rw [dif_pos hj]; exact Classical.choose_spec (h j hj)⟩
end TO
/-- a word up to the next blank -/
theorem tww {t nb : List Int32} {p : Nat} (h1 : ∀ j, j < nb.length → t.getD (p + j) 0 = nb.getD j 0) (h2 : t.getD (p + nb.length) 0 = 32) (h3 : p + nb.length < t.length) (hn : ns9 nb) : (t.drop p).takeWhile (fun x => x != 32) = nb := by
  have e : t.drop p = nb ++ (32 :: t.drop (p + nb.length + 1)) := by
    refine List.ext_getElem? (fun i => ?_)
    rw [List.getElem?_drop]
    by_cases q : i < nb.length
    · rw [List.getElem?_append_left q]
      have z := h1 i q
      rw [List.getD_eq_getElem?_getD, List.getD_eq_getElem?_getD, List.getElem?_eq_getElem (by omega), List.getElem?_eq_getElem q] at z
      rw [List.getElem?_eq_getElem (by omega), List.getElem?_eq_getElem q]
      exact congrArg some z
    · rw [List.getElem?_append_right (by omega)]
      by_cases q2 : i = nb.length
      · subst q2
        rw [Nat.sub_self]
        rw [List.getD_eq_getElem?_getD, List.getElem?_eq_getElem h3] at h2
        rw [List.getElem?_eq_getElem h3]
        exact congrArg some h2
      · obtain ⟨k, rfl⟩ : ∃ k, i = nb.length + 1 + k := ⟨i - nb.length - 1, by omega⟩
        rw [show nb.length + 1 + k - nb.length = k + 1 by omega, List.getElem?_cons_succ, List.getElem?_drop]
        congr 1
        omega
  rw [e, List.takeWhile_append_of_pos (fun x hx => by have := hn x hx; simpa using this)]
  simp
/-- the names of the calls of the language's own -/
def own9 (nb : List Int32) : Prop := nb = [108, 111, 97, 100, 56] ∨ nb = [108, 111, 97, 100, 51, 50] ∨ nb = [108, 111, 97, 100, 54, 52] ∨ nb = [115, 116, 111, 114, 101, 56] ∨ nb = [115, 116, 111, 114, 101, 51, 50] ∨ nb = [115, 116, 111, 114, 101, 54, 52] ∨ nb = [115, 105, 122, 101] ∨ nb = [103, 114, 111, 119] ∨ nb = [116, 114, 97, 112]
theorem own_sub {nb : List Int32} {i : Int} (hn : ns9 nb) (h : sub9 (litB.getD 25 []) (32 :: (nb ++ [32])) i) : own9 nb := by
  obtain ⟨a, b, c⟩ := h
  have hl : (litB.getD 25 []).length = 59 := by decide +kernel
  simp only [List.length_cons, List.length_append, List.length_nil] at b c
  have d : ∀ n : Fin 58, (litB.getD 25 []).getD n.val 0 = 32 → own9 (((litB.getD 25 []).drop (n.val + 1)).takeWhile (fun x => x != 32)) := by unfold own9; decide +kernel
  have e := d ⟨i.toNat, by omega⟩ (by have := c 0 (by omega); rw [Nat.add_zero] at this; exact this)
  dsimp only at e
  have g1 : ∀ j, j < nb.length → (litB.getD 25 []).getD (i.toNat + 1 + j) 0 = nb.getD j 0 := fun j hj => by
    have z := c (1 + j) (by omega)
    rw [show i.toNat + (1 + j) = i.toNat + 1 + j by omega, Nat.add_comm 1 j, List.getD_cons_succ] at z
    rw [z, List.getD_eq_getElem?_getD, List.getElem?_append_left hj, ← List.getD_eq_getElem?_getD]
  have g2 : (litB.getD 25 []).getD (i.toNat + 1 + nb.length) 0 = 32 := by
    have z := c (1 + nb.length) (by omega)
    rw [show i.toNat + (1 + nb.length) = i.toNat + 1 + nb.length by omega, Nat.add_comm 1 nb.length, List.getD_cons_succ] at z
    rw [z, List.getD_eq_getElem?_getD, List.getElem?_append_right (Nat.le_refl _), Nat.sub_self]
    rfl
  rw [tww g1 g2 (by omega) hn] at e
  exact e
/-- how many are given, by whether it begins with store -/
def wt7 (nb : List Int32) (st w : Int) : Prop := own9 nb → (st = 1 ∧ w = 2 ∧ (nb = [115, 116, 111, 114, 101, 56] ∨ nb = [115, 116, 111, 114, 101, 51, 50] ∨ nb = [115, 116, 111, 114, 101, 54, 52])) ∨ (st = 0 ∧ w = 1 ∧ (nb = [108, 111, 97, 100, 56] ∨ nb = [108, 111, 97, 100, 51, 50] ∨ nb = [108, 111, 97, 100, 54, 52] ∨ nb = [103, 114, 111, 119])) ∨ (st = 0 ∧ w = 0 ∧ (nb = [115, 105, 122, 101] ∨ nb = [116, 114, 97, 112]))
def pfx9 (b b2 : List Int32) : Prop := b2.length ≤ b.length ∧ ∀ j : Nat, j < b2.length → b.getD j 0 = b2.getD j 0
theorem wt_s {nb : List Int32} (h : pfx9 nb (litB.getD 32 [])) : wt7 nb 1 2 := by
  intro h0
  rcases h0 with e | e | e | e | e | e | e | e | e <;> subst e <;> revert h <;> unfold pfx9 <;> decide +kernel
theorem wt_l {nb : List Int32} (h : ¬ pfx9 nb (litB.getD 32 [])) (h2 : pfx9 nb (litB.getD 33 []) ∨ nb = litB.getD 34 []) : wt7 nb 0 1 := by
  intro h0
  rcases h0 with e | e | e | e | e | e | e | e | e <;> subst e <;> revert h h2 <;> unfold pfx9 <;> decide +kernel
theorem wt_0 {nb : List Int32} (h : ¬ pfx9 nb (litB.getD 32 [])) (h2 : ¬ pfx9 nb (litB.getD 33 [])) (h3 : nb ≠ litB.getD 34 []) : wt7 nb 0 0 := by
  intro h0
  rcases h0 with e | e | e | e | e | e | e | e | e <;> subst e <;> revert h h2 h3 <;> unfold pfx9 <;> decide +kernel
theorem ow_fin {nb : List Int32} {st w cnt r : Int} (h0 : own9 nb) (h : wt7 nb st w) (hc : cnt = w) (hr : (r = 0 ∧ (st = 1 ∨ nb = litB.getD 36 [])) ∨ (st = 0 ∧ nb ≠ litB.getD 36 [] ∧ ((r = 126 ∧ nb = litB.getD 37 []) ∨ (r = 127 ∧ nb ≠ litB.getD 37 [])))) : owk nb cnt r := by
  have e36 : litB.getD 36 [] = [116, 114, 97, 112] := by decide +kernel
  have e37 : litB.getD 37 [] = [108, 111, 97, 100, 54, 52] := by decide +kernel
  rw [e36, e37] at hr
  subst hc
  unfold owk
  rcases h h0 with ⟨a, b, c⟩ | ⟨a, b, c⟩ | ⟨a, b, c⟩
  · subst a b
    rcases c with c | c | c <;> subst c <;> simp_all
  · subst a b
    rcases c with c | c | c | c <;> subst c <;> simp_all
  · subst a b
    rcases c with c | c <;> subst c <;> simp_all
