/-! p5: the class: bytes and numbers are read as zU, zSn and their like read them -/
theorem ty_zz {f : Nat → Int32} {s a lim s2 a2 r s3 : Int32} (h : rn f s a lim s2 a2 r) (ha : 0 ≤ a.toInt) (hl : 0 ≤ lim.toInt)
    (c : (s3.toInt = 1 ∧ s2.toInt = 1 ∧ (r.toInt = 127 ∨ r.toInt = 126)) ∨ (s3.toInt = 0 ∧ ¬ (s2.toInt = 1 ∧ (r.toInt = 127 ∨ r.toInt = 126)))) :
    rz (zTy f lim.toNatClampNeg a.toNatClampNeg) s s3 a2 r.toInt := by
  have ka := i32_clamp ha
  have kl := i32_clamp hl
  unfold rz zTy
  rcases h with ⟨h1, h2, h3, h4, h5⟩ | ⟨h1, h2, h3, h4⟩
  · have k2 := i32_clamp (x := a2) (by (first | (apply Int.le_antisymm <;> omega) | omega))
    rcases c with ⟨c1, c2, c3⟩ | ⟨c1, c2⟩
    · refine Or.inl ⟨c1, h2, by (first | (apply Int.le_antisymm <;> omega) | omega), ?_⟩
      rw [if_pos ⟨by (first | (apply Int.le_antisymm <;> omega) | omega), by (first | (apply Int.le_antisymm <;> omega) | omega)⟩, show bn (f a.toNatClampNeg) = r.toInt.toNat by (first | (apply Int.le_antisymm <;> omega) | omega), show a.toNatClampNeg + 1 = a2.toNatClampNeg by (first | (apply Int.le_antisymm <;> omega) | omega)]
    · exact Or.inr ⟨c1, fun _ => if_neg (by (first | (apply Int.le_antisymm <;> omega) | omega))⟩
  · exact Or.inr ⟨by (first | (apply Int.le_antisymm <;> omega) | omega), fun hs => if_neg (by have := h2 hs; (first | (apply Int.le_antisymm <;> omega) | omega))⟩
theorem fl_z {f : Nat → Int32} {s a lim s2 a2 r s3 : Int32} (h : rn f s a lim s2 a2 r) (ha : 0 ≤ a.toInt) (hl : 0 ≤ lim.toInt)
    (c : (s3.toInt = 1 ∧ s2.toInt = 1 ∧ r.toInt ≤ 1) ∨ (s3.toInt = 0 ∧ ¬ (s2.toInt = 1 ∧ r.toInt ≤ 1))) :
    rz (zFl f lim.toNatClampNeg a.toNatClampNeg) s s3 a2 r.toInt := by
  have ka := i32_clamp ha
  have kl := i32_clamp hl
  unfold rz zFl
  rcases h with ⟨h1, h2, h3, h4, h5⟩ | ⟨h1, h2, h3, h4⟩
  · have k2 := i32_clamp (x := a2) (by (first | (apply Int.le_antisymm <;> omega) | omega))
    rcases c with ⟨c1, c2, c3⟩ | ⟨c1, c2⟩
    · refine Or.inl ⟨c1, h2, by (first | (apply Int.le_antisymm <;> omega) | omega), ?_⟩
      rw [if_pos ⟨by (first | (apply Int.le_antisymm <;> omega) | omega), by (first | (apply Int.le_antisymm <;> omega) | omega)⟩, show bn (f a.toNatClampNeg) = r.toInt.toNat by (first | (apply Int.le_antisymm <;> omega) | omega), show a.toNatClampNeg + 1 = a2.toNatClampNeg by (first | (apply Int.le_antisymm <;> omega) | omega)]
    · exact Or.inr ⟨c1, fun _ => if_neg (by (first | (apply Int.le_antisymm <;> omega) | omega))⟩
  · exact Or.inr ⟨by (first | (apply Int.le_antisymm <;> omega) | omega), fun hs => if_neg (by have := h2 hs; (first | (apply Int.le_antisymm <;> omega) | omega))⟩
theorem ex_z {f : Nat → Int32} {s a lim s2 a2 r s3 p : Int32} (h : rn f s a lim s2 a2 r) (ha : 0 ≤ a.toInt) (hl : 0 ≤ lim.toInt) (hp : 0 ≤ p.toInt)
    (c : (s3.toInt = 1 ∧ s2.toInt = 1 ∧ r.toInt = p.toInt) ∨ (s3.toInt = 0 ∧ ¬ (s2.toInt = 1 ∧ r.toInt = p.toInt))) :
    rp (zE f lim.toNatClampNeg p.toInt.toNat a.toNatClampNeg) s s3 a2 := by
  have ka := i32_clamp ha
  have kl := i32_clamp hl
  unfold rp zE
  rcases h with ⟨h1, h2, h3, h4, h5⟩ | ⟨h1, h2, h3, h4⟩
  · have k2 := i32_clamp (x := a2) (by (first | (apply Int.le_antisymm <;> omega) | omega))
    rcases c with ⟨c1, c2, c3⟩ | ⟨c1, c2⟩
    · refine Or.inl ⟨c1, h2, ?_⟩
      rw [if_pos ⟨by (first | (apply Int.le_antisymm <;> omega) | omega), by (first | (apply Int.le_antisymm <;> omega) | omega)⟩, show a.toNatClampNeg + 1 = a2.toNatClampNeg by (first | (apply Int.le_antisymm <;> omega) | omega)]
    · exact Or.inr ⟨c1, fun _ => if_neg (by (first | (apply Int.le_antisymm <;> omega) | omega))⟩
  · exact Or.inr ⟨by (first | (apply Int.le_antisymm <;> omega) | omega), fun hs => if_neg (by have := h2 hs; (first | (apply Int.le_antisymm <;> omega) | omega))⟩
/-- seven bits more, as a sum -/
theorem zor {v p x y : Int64} {sh : Int32} {k : Nat} (hx : x = p <<< (sh.toInt64 &&& 63)) (hy : y = v ||| x) (hv : 0 ≤ v.toInt) (hv2 : v.toInt < 128 ^ k) (hp : 0 ≤ p.toInt ∧ p.toInt < 128) (hs : sh.toInt = 7 * k) (hk : k ≤ 4) : y.toInt = ((v.toInt.toNat + 128 ^ k * p.toInt.toNat : Nat) : Int) := by
  obtain ⟨a, ha, rfl, ea⟩ := lN_of hv
  obtain ⟨b, hb, rfl, eb⟩ := lN_of hp.1
  obtain ⟨j, hj, rfl, ej⟩ := nI_of' (x := sh) (by (first | (apply Int.le_antisymm <;> omega) | omega))
  have ejk : j = 7 * k := by (first | (apply Int.le_antisymm <;> omega) | omega)
  subst ejk
  have e7 : (2 : Nat) ^ (7 * k) = 128 ^ k := by rw [Nat.pow_mul]
  have hpk : 128 ^ k ≤ 128 ^ 4 := Nat.pow_le_pow_right (by decide) hk
  have ha2 : a < 2 ^ (7 * k) := by
    rw [e7]
    have h := hv2
    rw [ea] at h
    exact_mod_cast h
  have hb2 : b * 2 ^ (7 * k) ≤ 127 * 128 ^ 4 := by rw [e7]; exact Nat.mul_le_mul (by (first | (apply Int.le_antisymm <;> omega) | omega)) hpk
  have ha3 : a < 128 ^ 4 := by rw [e7] at ha2; (first | (apply Int.le_antisymm <;> omega) | omega)
  rw [wb_shl b (by (first | (apply Int.le_antisymm <;> omega) | omega))] at hx
  rw [hx, wb_or (by (first | (apply Int.le_antisymm <;> omega) | omega)) (by (first | (apply Int.le_antisymm <;> omega) | omega))] at hy
  have h3 : a ||| b * 2 ^ (7 * k) = a + b * 2 ^ (7 * k) := by rw [Nat.or_comm, Nat.mul_comm b, ← Nat.two_pow_add_eq_or_of_lt ha2, Nat.add_comm]
  rw [hy, h3, pk_lT (by (first | (apply Int.le_antisymm <;> omega) | omega)), ea, eb, e7, Int.toNat_natCast, Int.toNat_natCast, Nat.mul_comm b]
def uz (f : Nat → Int32) (s a lim s2 a2 : Int32) (sh v : Int) : Prop := ∃ k : Nat, k ≤ 5 ∧ sh = 7 * k ∧ 0 ≤ v ∧ v < 128 ^ k ∧ ((s2.toInt = 1 ∧ s.toInt = 1 ∧ zU f lim.toNatClampNeg 5 1 0 a.toNatClampNeg = zU f lim.toNatClampNeg (5 - k) (128 ^ k) v.toNat a2.toNatClampNeg) ∨ (s2.toInt = 0 ∧ (s.toInt = 1 → zU f lim.toNatClampNeg 5 1 0 a.toNatClampNeg = none)))
def ux (f : Nat → Int32) (s a lim s2 a2 : Int32) (y : Int) : Prop := 0 ≤ y ∧ ((s2.toInt = 1 ∧ s.toInt = 1 ∧ zU f lim.toNatClampNeg 5 1 0 a.toNatClampNeg = some (y.toNat, a2.toNatClampNeg)) ∨ (s2.toInt = 0 ∧ (s.toInt = 1 → zU f lim.toNatClampNeg 5 1 0 a.toNatClampNeg = none)))
theorem uz_0 {f : Nat → Int32} {s a lim : Int32} {sh v : Int} (hs : s.toInt = 0 ∨ s.toInt = 1) (h1 : sh = 0) (h2 : v = 0) : uz f s a lim s a sh v := by
  subst h1 h2
  refine ⟨0, by decide, by decide, by decide, by decide, ?_⟩
  rcases hs with h | h
  · exact Or.inr ⟨h, fun z => absurd z (by (first | (apply Int.le_antisymm <;> omega) | omega))⟩
  · exact Or.inl ⟨h, h, rfl⟩
theorem uz_b {f : Nat → Int32} {s a lim s2 a2 : Int32} {sh v : Int} (h : uz f s a lim s2 a2 sh v) : 0 ≤ v ∧ v < 34359738368 := by
  obtain ⟨k, hk, -, h1, h2, -⟩ := h
  have hp : (128 : Nat) ^ k ≤ 34359738368 := Nat.le_trans (Nat.pow_le_pow_right (by decide) hk) (by decide)
  have hq : ((128 ^ k : Nat) : Int) = (128 : Int) ^ k := by push_cast; rfl
  rw [← hq] at h2
  exact ⟨h1, by (first | (apply Int.le_antisymm <;> omega) | omega)⟩
theorem zU_s {f : Nat → Int32} {L : Nat} (n q v a : Nat) : zU f L (n + 1) q v a = if a < L then (if bn (f a) < 128 then some (v + q * bn (f a), a + 1) else zU f L n (q * 128) (v + q * (bn (f a) - 128)) (a + 1)) else none := rfl
theorem uz_n {f : Nat → Int32} {s a lim s2 a2 s3 a3 r sh : Int32} {v p x y : Int64} (h : uz f s a lim s2 a2 sh.toInt v.toInt) (hn : rn f s2 a2 lim s3 a3 r) (h2 : 0 ≤ a2.toInt) (hl : 0 ≤ lim.toInt) (h3 : sh.toInt < 35) (hp : p.toInt = r.toInt % 128) (hx : x = p <<< (sh.toInt64 &&& 63)) (hy : y = v ||| x) :
    (128 ≤ r.toInt → uz f s a lim s3 a3 (sh.toInt + 7) y.toInt) ∧ (r.toInt < 128 → ux f s a lim s3 a3 y.toInt) := by
  obtain ⟨k, hk, e1, e2, e3, e4⟩ := h
  have k4 : k ≤ 4 := by (first | (apply Int.le_antisymm <;> omega) | omega)
  have ey := zor hx hy e2 e3 (by (first | (apply Int.le_antisymm <;> omega) | omega)) e1 k4
  obtain ⟨n, en⟩ : ∃ n, 5 - k = n + 1 := ⟨4 - k, by (first | (apply Int.le_antisymm <;> omega) | omega)⟩
  have ka := i32_clamp h2
  have kl := i32_clamp hl
  have eV : (v.toInt.toNat : Int) = v.toInt := Int.toNat_of_nonneg e2
  have hV : v.toInt.toNat < 128 ^ k := by
    have : (v.toInt.toNat : Int) < ((128 ^ k : Nat) : Int) := by rw [eV]; push_cast; exact e3
    exact Int.ofNat_lt.mp this
  have hmu : 128 ^ k * p.toInt.toNat ≤ 128 ^ k * 127 := Nat.mul_le_mul_left _ (by (first | (apply Int.le_antisymm <;> omega) | omega))
  rcases hn with ⟨n1, n2, n3, n4, n5⟩ | ⟨n1, n2, n3, n4⟩
  · have k3 := i32_clamp (x := a3) (by (first | (apply Int.le_antisymm <;> omega) | omega))
    rcases e4 with ⟨f1, f2, f3⟩ | ⟨f1, f2⟩
    · rw [en, zU_s n, if_pos (show a2.toNatClampNeg < lim.toNatClampNeg by (first | (apply Int.le_antisymm <;> omega) | omega))] at f3
      have ea3 : a2.toNatClampNeg + 1 = a3.toNatClampNeg := by (first | (apply Int.le_antisymm <;> omega) | omega)
      refine ⟨fun hr => ⟨k + 1, by (first | (apply Int.le_antisymm <;> omega) | omega), by (first | (apply Int.le_antisymm <;> omega) | omega), by (first | (apply Int.le_antisymm <;> omega) | omega), ?_, Or.inl ⟨n1, f2, ?_⟩⟩, fun hr => ⟨by (first | (apply Int.le_antisymm <;> omega) | omega), Or.inl ⟨n1, f2, ?_⟩⟩⟩
      · rw [ey, show (128 : Int) ^ (k + 1) = ((128 ^ (k + 1) : Nat) : Int) by push_cast; rfl]
        apply Int.ofNat_lt.mpr
        rw [Nat.pow_succ]
        (first | (apply Int.le_antisymm <;> omega) | omega)
      · have e5 : 5 - (k + 1) = n := by (first | (apply Int.le_antisymm <;> omega) | omega)
        have bl := bn_lt (f a2.toNatClampNeg)
        clear hmu hV
        have e6 : bn (f a2.toNatClampNeg) - 128 = p.toInt.toNat := Nat.le_antisymm (by (first | (apply Int.le_antisymm <;> omega) | omega)) (by (first | (apply Int.le_antisymm <;> omega) | omega))
        have e7 : (128 : Nat) ^ (k + 1) = 128 ^ k * 128 := Nat.pow_succ 128 k
        rw [f3, if_neg (by (first | (apply Int.le_antisymm <;> omega) | omega)), ea3, ey, Int.toNat_natCast, e5, e6, e7]
      · rw [f3, if_pos (by (first | (apply Int.le_antisymm <;> omega) | omega)), ea3, ey, Int.toNat_natCast, show bn (f a2.toNatClampNeg) = p.toInt.toNat by (first | (apply Int.le_antisymm <;> omega) | omega)]
    · exact absurd f1 (by (first | (apply Int.le_antisymm <;> omega) | omega))
  · refine ⟨fun hr => absurd hr (by (first | (apply Int.le_antisymm <;> omega) | omega)), fun _ => ⟨by (first | (apply Int.le_antisymm <;> omega) | omega), Or.inr ⟨n1, fun hs => ?_⟩⟩⟩
    rcases e4 with ⟨f1, f2, f3⟩ | ⟨f1, f2⟩
    · rw [f3, en, zU_s, if_neg (by have := n2 f1; (first | (apply Int.le_antisymm <;> omega) | omega))]
    · exact f2 hs
theorem uz_end {f : Nat → Int32} {s a lim s2 a2 : Int32} {sh v : Int} (h : uz f s a lim s2 a2 sh v) (h5 : 35 ≤ sh) : s.toInt = 1 → zU f lim.toNatClampNeg 5 1 0 a.toNatClampNeg = none := by
  obtain ⟨k, hk, e1, e2, e3, e4⟩ := h
  intro hs
  rcases e4 with ⟨f1, f2, f3⟩ | ⟨f1, f2⟩
  · rw [f3, show 5 - k = 0 by (first | (apply Int.le_antisymm <;> omega) | omega), zU]
  · exact f2 hs
theorem um_1 {f : Nat → Int32} {s a lim s2 a2 s3 : Int32} {y M : Int} (h : ux f s a lim s2 a2 y) (h3 : s3.toInt = 1) (h2 : s2.toInt = 1) (hM : y ≤ M) : rz (zM f lim.toNatClampNeg M.toNat a.toNatClampNeg) s s3 a2 y := by
  obtain ⟨h0, h | h⟩ := h
  · refine Or.inl ⟨h3, h.2.1, h0, ?_⟩
    unfold zM
    rw [h.2.2]
    exact if_pos (by (first | (apply Int.le_antisymm <;> omega) | omega))
  · exact absurd h.1 (by (first | (apply Int.le_antisymm <;> omega) | omega))
theorem um_0 {f : Nat → Int32} {s a lim s2 a2 s3 : Int32} {y M r : Int} (h : ux f s a lim s2 a2 y) (h3 : s3.toInt = 0) (h2 : ¬ (s2.toInt = 1 ∧ y ≤ M)) (hM : 0 ≤ M) : rz (zM f lim.toNatClampNeg M.toNat a.toNatClampNeg) s s3 a2 r := by
  refine Or.inr ⟨h3, fun hs => ?_⟩
  unfold zM
  obtain ⟨h0, h | h⟩ := h
  · rw [h.2.2]
    exact if_neg (by (first | (apply Int.le_antisymm <;> omega) | omega))
  · rw [h.2 hs]
theorem um_n {f : Nat → Int32} {s a lim a2 s3 : Int32} {M r : Int} (h : s.toInt = 1 → zU f lim.toNatClampNeg 5 1 0 a.toNatClampNeg = none) (h3 : s3.toInt = 0) : rz (zM f lim.toNatClampNeg M.toNat a.toNatClampNeg) s s3 a2 r := by
  refine Or.inr ⟨h3, fun hs => ?_⟩
  unfold zM
  rw [h hs]
theorem and127F : ∀ b : Fin 256, (nI b.val &&& 127).toInt = (b.val % 128 : Nat) := by decide +kernel
theorem and127_t {r x : Int32} {y : Int64} (e1 : x = r &&& 127) (e2 : y = x.toInt64) (h0 : 0 ≤ r.toInt) (h1 : r.toInt ≤ 255) : y.toInt = r.toInt % 128 := by
  obtain ⟨k, hk, rfl, ek⟩ := nI_of' h0
  have q := and127F ⟨k, by (first | (apply Int.le_antisymm <;> omega) | omega)⟩
  dsimp only at q
  rw [i2l_t e2, e1, q]
  (first | (apply Int.le_antisymm <;> omega) | omega)
/-! numbers with sign -/
def zSg (f : Nat → Int32) (L : Nat) (b : Int) (a : Nat) : Option Nat := if b = 32 then zSn f L zq32 5 a else zSn f L zq64 10 a
def sgz (f : Nat → Int32) (s a lim s2 a2 : Int32) (b sh : Int) : Prop := ∃ k : Nat, k ≤ (if b = 32 then 5 else 10) ∧ sh = 7 * k ∧ ((s2.toInt = 1 ∧ s.toInt = 1 ∧ zSg f lim.toNatClampNeg b a.toNatClampNeg = zSn f lim.toNatClampNeg (if b = 32 then zq32 else zq64) ((if b = 32 then 5 else 10) - k) a2.toNatClampNeg) ∨ (s2.toInt = 0 ∧ (s.toInt = 1 → zSg f lim.toNatClampNeg b a.toNatClampNeg = none)))
theorem sgz_0 {f : Nat → Int32} {s a lim : Int32} {b sh : Int} (hs : s.toInt = 0 ∨ s.toInt = 1) (h1 : sh = 0) : sgz f s a lim s a b sh := by
  subst h1
  refine ⟨0, Nat.zero_le _, by decide, ?_⟩
  rcases hs with h | h
  · exact Or.inr ⟨h, fun z => absurd z (by (first | (apply Int.le_antisymm <;> omega) | omega))⟩
  · refine Or.inl ⟨h, h, ?_⟩
    unfold zSg
    split
    · rfl
    · rfl
/-- the byte r ends the number (below 128): whether its highest bits are as they must -/
def sgk (b sh r : Int) : Prop := if b - sh ≤ 7 then (if b = 32 then zq32 r.toNat else zq64 r.toNat) = true else True
theorem sgz_go {f : Nat → Int32} {s a lim s2 a2 s3 a3 r : Int32} {b sh : Int} (h : sgz f s a lim s2 a2 b sh) (hn : rn f s2 a2 lim s3 a3 r) (h2 : 0 ≤ a2.toInt) (hl : 0 ≤ lim.toInt) (hb : b = 32 ∨ b = 64) (h3 : sh < b) (hr : 128 ≤ r.toInt) : sgz f s a lim s3 a3 b (sh + 7) := by
  obtain ⟨k, hk, e1, e4⟩ := h
  have ka := i32_clamp h2
  have kl := i32_clamp hl
  rcases hn with ⟨n1, n2, n3, n4, n5⟩ | ⟨n1, n2, n3, n4⟩
  · have k3 := i32_clamp (x := a3) (by (first | (apply Int.le_antisymm <;> omega) | omega))
    rcases e4 with ⟨f1, f2, f3⟩ | ⟨f1, f2⟩
    · rcases hb with rfl | rfl
      · rw [if_pos rfl] at hk f3
        rw [if_pos rfl] at f3
        obtain ⟨n, en⟩ : ∃ n, 5 - k = n + 1 := ⟨4 - k, by (first | (apply Int.le_antisymm <;> omega) | omega)⟩
        refine ⟨k + 1, by rw [if_pos rfl]; (first | (apply Int.le_antisymm <;> omega) | omega), by (first | (apply Int.le_antisymm <;> omega) | omega), Or.inl ⟨n1, f2, ?_⟩⟩
        rw [f3, en, zSn, if_pos (by (first | (apply Int.le_antisymm <;> omega) | omega)), if_neg (by (first | (apply Int.le_antisymm <;> omega) | omega)), if_pos rfl, if_pos rfl, show 5 - (k + 1) = n by (first | (apply Int.le_antisymm <;> omega) | omega), show a2.toNatClampNeg + 1 = a3.toNatClampNeg by (first | (apply Int.le_antisymm <;> omega) | omega)]
      · rw [if_neg (by decide)] at hk f3
        rw [if_neg (by decide)] at f3
        obtain ⟨n, en⟩ : ∃ n, 10 - k = n + 1 := ⟨9 - k, by (first | (apply Int.le_antisymm <;> omega) | omega)⟩
        refine ⟨k + 1, by rw [if_neg (by decide)]; (first | (apply Int.le_antisymm <;> omega) | omega), by (first | (apply Int.le_antisymm <;> omega) | omega), Or.inl ⟨n1, f2, ?_⟩⟩
        rw [f3, en, zSn, if_pos (by (first | (apply Int.le_antisymm <;> omega) | omega)), if_neg (by (first | (apply Int.le_antisymm <;> omega) | omega)), if_neg (by decide), if_neg (by decide), show 10 - (k + 1) = n by (first | (apply Int.le_antisymm <;> omega) | omega), show a2.toNatClampNeg + 1 = a3.toNatClampNeg by (first | (apply Int.le_antisymm <;> omega) | omega)]
    · exact absurd f1 (by (first | (apply Int.le_antisymm <;> omega) | omega))
  · exact absurd hr (by (first | (apply Int.le_antisymm <;> omega) | omega))
theorem sgz_end {f : Nat → Int32} {s a lim s2 a2 : Int32} {b sh : Int} (h : sgz f s a lim s2 a2 b sh) (hb : b = 32 ∨ b = 64) (h5 : b ≤ sh) : s.toInt = 1 → zSg f lim.toNatClampNeg b a.toNatClampNeg = none := by
  obtain ⟨k, hk, e1, e4⟩ := h
  intro hs
  rcases e4 with ⟨f1, f2, f3⟩ | ⟨f1, f2⟩
  · rw [f3, show (if b = 32 then 5 else 10) - k = 0 by rcases hb with rfl | rfl; (rw [if_pos rfl]; (first | (apply Int.le_antisymm <;> omega) | omega)); (rw [if_neg (by decide)]; (first | (apply Int.le_antisymm <;> omega) | omega)), zSn]
  · exact f2 hs
theorem sgz_x {f : Nat → Int32} {s a lim s2 a2 s3 a3 r s4 : Int32} {b sh : Int} (h : sgz f s a lim s2 a2 b sh) (hn : rn f s2 a2 lim s3 a3 r) (h2 : 0 ≤ a2.toInt) (hl : 0 ≤ lim.toInt) (hb : b = 32 ∨ b = 64) (h3 : sh < b) (hr : r.toInt < 128) (c : (s4.toInt = 1 ∧ s3.toInt = 1 ∧ sgk b sh r.toInt) ∨ (s4.toInt = 0 ∧ ¬ (s3.toInt = 1 ∧ sgk b sh r.toInt))) : rp (zSg f lim.toNatClampNeg b a.toNatClampNeg) s s4 a3 := by
  obtain ⟨k, hk, e1, e4⟩ := h
  have ka := i32_clamp h2
  have kl := i32_clamp hl
  unfold sgk at c
  rcases hn with ⟨n1, n2, n3, n4, n5⟩ | ⟨n1, n2, n3, n4⟩
  · have k3 := i32_clamp (x := a3) (by (first | (apply Int.le_antisymm <;> omega) | omega))
    have er : r.toInt.toNat = bn (f a2.toNatClampNeg) := by (first | (apply Int.le_antisymm <;> omega) | omega)
    rw [er] at c
    rcases e4 with ⟨f1, f2, f3⟩ | ⟨f1, f2⟩
    · have hh : zSg f lim.toNatClampNeg b a.toNatClampNeg = if (b - sh ≤ 7 → (if b = 32 then zq32 (bn (f a2.toNatClampNeg)) else zq64 (bn (f a2.toNatClampNeg))) = true) then some a3.toNatClampNeg else none := by
        rcases hb with rfl | rfl
        · rw [if_pos rfl] at hk f3
          rw [if_pos rfl] at f3
          obtain ⟨n, en⟩ : ∃ n, 5 - k = n + 1 := ⟨4 - k, by (first | (apply Int.le_antisymm <;> omega) | omega)⟩
          rw [f3, en, zSn, if_pos (by (first | (apply Int.le_antisymm <;> omega) | omega)), if_pos (by (first | (apply Int.le_antisymm <;> omega) | omega)), show a2.toNatClampNeg + 1 = a3.toNatClampNeg by (first | (apply Int.le_antisymm <;> omega) | omega)]
          by_cases q : n = 0
          · rw [if_pos q]
            by_cases w : zq32 (bn (f a2.toNatClampNeg)) = true
            · rw [if_pos w, if_pos (fun _ => by rw [if_pos rfl]; exact w)]
            · rw [if_neg w, if_neg (fun z => w (by have := z (by (first | (apply Int.le_antisymm <;> omega) | omega)); rw [if_pos rfl] at this; exact this))]
          · rw [if_neg q, if_pos (fun z => absurd z (by (first | (apply Int.le_antisymm <;> omega) | omega)))]
        · rw [if_neg (by decide)] at hk f3
          rw [if_neg (by decide)] at f3
          obtain ⟨n, en⟩ : ∃ n, 10 - k = n + 1 := ⟨9 - k, by (first | (apply Int.le_antisymm <;> omega) | omega)⟩
          rw [f3, en, zSn, if_pos (by (first | (apply Int.le_antisymm <;> omega) | omega)), if_pos (by (first | (apply Int.le_antisymm <;> omega) | omega)), show a2.toNatClampNeg + 1 = a3.toNatClampNeg by (first | (apply Int.le_antisymm <;> omega) | omega)]
          by_cases q : n = 0
          · rw [if_pos q]
            by_cases w : zq64 (bn (f a2.toNatClampNeg)) = true
            · rw [if_pos w, if_pos (fun _ => by rw [if_neg (by decide)]; exact w)]
            · rw [if_neg w, if_neg (fun z => w (by have := z (by (first | (apply Int.le_antisymm <;> omega) | omega)); rw [if_neg (by decide)] at this; exact this))]
          · rw [if_neg q, if_pos (fun z => absurd z (by (first | (apply Int.le_antisymm <;> omega) | omega)))]
      rw [hh]
      rcases c with ⟨c1, c2, c3⟩ | ⟨c1, c2⟩
      · refine Or.inl ⟨c1, f2, if_pos (fun z => ?_)⟩
        rw [if_pos z] at c3
        exact c3
      · refine Or.inr ⟨c1, fun _ => if_neg (fun z => c2 ⟨n1, ?_⟩)⟩
        split
        · rename_i w
          exact z w
        · trivial
    · exact absurd f1 (by (first | (apply Int.le_antisymm <;> omega) | omega))
  · refine Or.inr ⟨?_, fun hs => ?_⟩
    · rcases c with c | c
      · exact absurd c.2.1 (by (first | (apply Int.le_antisymm <;> omega) | omega))
      · exact c.1
    · rcases e4 with ⟨f1, f2, f3⟩ | ⟨f1, f2⟩
      · have := n2 f1
        rw [f3]
        rcases hb with rfl | rfl
        · rw [if_pos rfl] at hk
          obtain ⟨n, en⟩ : ∃ n, 5 - k = n + 1 := ⟨4 - k, by (first | (apply Int.le_antisymm <;> omega) | omega)⟩
          rw [if_pos rfl, if_pos rfl, en, zSn, if_neg (by (first | (apply Int.le_antisymm <;> omega) | omega))]
        · rw [if_neg (by decide)] at hk
          obtain ⟨n, en⟩ : ∃ n, 10 - k = n + 1 := ⟨9 - k, by (first | (apply Int.le_antisymm <;> omega) | omega)⟩
          rw [if_neg (by decide), if_neg (by decide), en, zSn, if_neg (by (first | (apply Int.le_antisymm <;> omega) | omega))]
      · exact f2 hs
theorem sg32F : ∀ b : Fin 128, ((((nI b.val <<< ((25 : Int32) &&& 31)) >>> ((25 : Int32) &&& 31)) >>> ((3 : Int32) &&& 31)).toInt = 0 ∨ (((nI b.val <<< ((25 : Int32) &&& 31)) >>> ((25 : Int32) &&& 31)) >>> ((3 : Int32) &&& 31)).toInt = -1) ↔ zq32 b.val = true := by decide +kernel
theorem sg64F : ∀ b : Fin 128, ((((nI b.val <<< ((25 : Int32) &&& 31)) >>> ((25 : Int32) &&& 31)) >>> ((0 : Int32) &&& 31)).toInt = 0 ∨ (((nI b.val <<< ((25 : Int32) &&& 31)) >>> ((25 : Int32) &&& 31)) >>> ((0 : Int32) &&& 31)).toInt = -1) ↔ zq64 b.val = true := by decide +kernel
theorem sgk_1 {b sh : Int} {r x y z w : Int32} (hb : b = 32 ∨ b = 64) (hsh : ∃ k : Nat, sh = 7 * k) (h1 : sh < b) (h7 : b - sh ≤ 7) (e1 : x = r <<< ((25 : Int32) &&& 31)) (e2 : y = x >>> ((25 : Int32) &&& 31)) (e3 : z.toInt = b - sh - 1) (e4 : w = y >>> (z &&& 31)) (h0 : 0 ≤ r.toInt) (hr : r.toInt < 128) : (w.toInt = 0 ∨ w.toInt = -1) ↔ sgk b sh r.toInt := by
  obtain ⟨k, ek⟩ := hsh
  obtain ⟨j, hj, rfl, ej⟩ := nI_of' h0
  unfold sgk
  rw [if_pos h7, ej, Int.toNat_natCast]
  rcases hb with rfl | rfl
  · rw [if_pos rfl, e4, e2, e1, show z = 3 from Int32.toInt_inj.mp (by rw [e3, show (3 : Int32).toInt = 3 by decide]; (first | (apply Int.le_antisymm <;> omega) | omega))]
    exact sg32F ⟨j, by (first | (apply Int.le_antisymm <;> omega) | omega)⟩
  · rw [if_neg (by decide), e4, e2, e1, show z = 0 from Int32.toInt_inj.mp (by rw [e3, show (0 : Int32).toInt = 0 by decide]; (first | (apply Int.le_antisymm <;> omega) | omega))]
    exact sg64F ⟨j, by (first | (apply Int.le_antisymm <;> omega) | omega)⟩
theorem sgk_0 {b sh r : Int} {w : Int32} (h7 : ¬ b - sh ≤ 7) (e : w.toInt = 0) : (w.toInt = 0 ∨ w.toInt = -1) ↔ sgk b sh r := by
  unfold sgk
  rw [if_neg h7]
  exact ⟨fun _ => trivial, fun _ => Or.inl e⟩
theorem sgz_k {f : Nat → Int32} {s a lim s2 a2 : Int32} {b sh : Int} (h : sgz f s a lim s2 a2 b sh) : ∃ k : Nat, sh = 7 * k := by
  obtain ⟨k, -, e, -⟩ := h
  exact ⟨k, e⟩
abbrev at_RE_nexty (dC : Nat → ClassId) (dI : Nat → Nat → Nat) (h0 aw ac ob ab wat wap wag waf wgt wft wfv wgc wek wei wes wez ax : Nat) (cax : ClassId) (h0_limit : Int32) (h0_codeCount : Int32) (h0_openCount : Int32) (aw_typeCount : Int32) (aw_functionCount : Int32) (aw_hasMemory : Int32) (aw_pagesLeast : Int64) (aw_pagesMost : Int64) (aw_globalCount : Int32) (aw_exportCount : Int32) (ab_length : Int32) (gax : Nat → Int32) (A : Nat → Prop) (u : Int32 × Int32) (t : State) : Prop := match u with | (h0_at, h0_sound) => va_P (dC, dI) cls (wz_46 h0 aw ac h0_at h0_limit h0_sound h0_codeCount ob h0_openCount aw ab ac aw_typeCount wat wap wag aw_functionCount waf aw_hasMemory aw_pagesLeast aw_pagesMost aw_globalCount wgt wft wfv wgc aw_exportCount wek wei wes wez ab ax ab_length ax cax gax) t.heap ∧ va_K (dC, dI) cls [(cax, .byte)] t ∧ va_D A (wz_46 h0 aw ac h0_at h0_limit h0_sound h0_codeCount ob h0_openCount aw ab ac aw_typeCount wat wap wag aw_functionCount waf aw_hasMemory aw_pagesLeast aw_pagesMost aw_globalCount wgt wft wfv wgc aw_exportCount wek wei wes wez ab ax ab_length ax cax gax)
set_option maxHeartbeats 4000000 in
set_option maxRecDepth 100000 in
theorem c_RE_nexty (l : Launch) (dC : Nat → ClassId) (dI : Nat → Nat → Nat) (sz : Nat) (h0 aw ac ob ab wat wap wag waf wgt wft wfv wgc wek wei wes wez ax : Nat) (cax : ClassId) (h0_at : Int32) (h0_limit : Int32) (h0_sound : Int32) (h0_codeCount : Int32) (h0_openCount : Int32) (aw_typeCount : Int32) (aw_functionCount : Int32) (aw_hasMemory : Int32) (aw_pagesLeast : Int64) (aw_pagesMost : Int64) (aw_globalCount : Int32) (aw_exportCount : Int32) (ab_length : Int32) (gax : Nat → Int32)  (b_h0_sound : h0_sound = 0 ∨ h0_sound = 1)   (ha : 0 ≤ h0_at.toInt ∧ h0_at.toInt ≤ h0_limit.toInt ∧ h0_limit.toInt ≤ ab_length.toInt ∧ ab_length.toInt ≤ 8192) : Met l y_RE_next w_RE_next ({ frames := 0, cells := 0, slots := 0, locals := 0 }) (va_Pc [.ref h0] (fun U => U.heap.size = sz ∧ va_P (dC, dI) cls (wz_46 h0 aw ac h0_at h0_limit h0_sound h0_codeCount ob h0_openCount aw ab ac aw_typeCount wat wap wag aw_functionCount waf aw_hasMemory aw_pagesLeast aw_pagesMost aw_globalCount wgt wft wfv wgc aw_exportCount wek wei wes wez ab ax ab_length ax cax gax) U.heap ∧ va_K (dC, dI) cls [(cax, .byte)] U ∧ va_D (fun _ => True) (wz_46 h0 aw ac h0_at h0_limit h0_sound h0_codeCount ob h0_openCount aw ab ac aw_typeCount wat wap wag aw_functionCount waf aw_hasMemory aw_pagesLeast aw_pagesMost aw_globalCount wgt wft wfv wgc aw_exportCount wek wei wes wez ab ax ab_length ax cax gax))) (va_Qi (fun (r : Int32) (u : Int32 × Int32) => match u with | (h0_at2, h0_sound2) => (0 ≤ r.toInt ∧ r.toInt ≤ 255) ∧ (h0_sound2 = 0 ∨ h0_sound2 = 1) ∧ ((h0_at.toInt ≤ h0_at2.toInt ∧ h0_at2.toInt ≤ h0_limit.toInt) ∧ rn gax h0_sound h0_at h0_limit h0_sound2 h0_at2 r)) (at_RE_nexty dC dI h0 aw ac ob ab wat wap wag waf wgt wft wfv wgc wek wei wes wez ax cax h0_limit h0_codeCount h0_openCount aw_typeCount aw_functionCount aw_hasMemory aw_pagesLeast aw_pagesMost aw_globalCount aw_exportCount ab_length gax (va_A (wz_46 h0 aw ac h0_at h0_limit h0_sound h0_codeCount ob h0_openCount aw ab ac aw_typeCount wat wap wag aw_functionCount waf aw_hasMemory aw_pagesLeast aw_pagesMost aw_globalCount wgt wft wfv wgc aw_exportCount wek wei wes wez ab ax ab_length ax cax gax) sz)) (va_A (wz_46 h0 aw ac h0_at h0_limit h0_sound h0_codeCount ob h0_openCount aw ab ac aw_typeCount wat wap wag aw_functionCount waf aw_hasMemory aw_pagesLeast aw_pagesMost aw_globalCount wgt wft wfv wgc aw_exportCount wek wei wes wez ab ax ab_length ax cax gax) sz)) 0 0 (va_A (wz_46 h0 aw ac h0_at h0_limit h0_sound h0_codeCount ob h0_openCount aw ab ac aw_typeCount wat wap wag aw_functionCount waf aw_hasMemory aw_pagesLeast aw_pagesMost aw_globalCount wgt wft wfv wgc aw_exportCount wek wei wes wez ab ax ab_length ax cax gax) sz) := by
  refine Met.ofW (cc := b_RE_next) (maxL := 1) (ret := (Option.some .int)) (by decide) rfl ?_
  intro p e s m args below meth c s₁ B hml hv
  obtain ⟨rfl, hsz, hP, hK, hD0⟩ := hv
  have hx := B.exec
  have hb := B.bytes
  have hr := B.returns
  have hts0 := atoms_spec (ws := w_RE_next) B.pre
  have hts : ∀ w ∈ lw_g, w.before _ s = true := fun w h => hts0 w (List.mem_cons_of_mem _ h)
  have hown : s.vm.findClass R_RE = some m.cls := findClass_of_methodNamed B.named
  have hlocks := B.notSynchronized
  clear hts0
  subst hsz
  have hD := hD0.self (sz := s.heap.size)
  generalize hAe : va_A (wz_46 h0 aw ac h0_at h0_limit h0_sound h0_codeCount ob h0_openCount aw ab ac aw_typeCount wat wap wag aw_functionCount waf aw_hasMemory aw_pagesLeast aw_pagesMost aw_globalCount wgt wft wfv wgc aw_exportCount wek wei wes wez ab ax ab_length ax cax gax) s.heap.size = A at hD ⊢
  have hA : ∀ q : Nat, s.heap.size ≤ q → A q := fun q h => by rw [← hAe]; exact Or.inr h
  clear hAe
  have hP : va_P (dC, dI) cls (wz_46 h0 aw ac h0_at h0_limit h0_sound h0_codeCount ob h0_openCount aw ab ac aw_typeCount wat wap wag aw_functionCount waf aw_hasMemory aw_pagesLeast aw_pagesMost aw_globalCount wgt wft wfv wgc aw_exportCount wek wei wes wez ab ax ab_length ax cax gax) s.heap := hP
  have hl := lv_entry ([.ref h0]) (n := 1) (Nat.le_of_ble_eq_true rfl)
  rw [lg_entry_eq]
  generalize (lg_sl ([.ref h0]) ++ List.replicate (1 - (lg_sl ([.ref h0])).length) Slot.unset).toArray = ls at hl ⊢
  have hl : lv_has ls 1 [(0, .ref h0)] := hl
  have k0 : (0 : Int32).toInt = 0 := by decide
  refine w_gen (A := A) hP (fun H locs hP hS => ?_)
  have k1 : (1 : Int32).toInt = 1 := by decide
  have k255 : (255 : Int32).toInt = 255 := by decide
  have th0_sound := b01 b_h0_sound
  refine lv_aload_n hx hb d_RE_next_0 rfl (lv_at hl 0 rfl) ?_
  refine va_get (D := (dC, dI)) (ci := 7) (v := .int h0_sound) (C := R_RE) (T := F_RE) (N := 8) hx hb hts i_RE hown hK hP 0 rfl rfl 4 (by decide) (hts _ kF_RE_45) (fun _ h9 => h9) rfl d_RE_next_1 ?_
  refine w_cut (pc2 := 18) (σ := Unit) (fun u H locs ls => match u with | _ => (h0_sound.toInt = 1 → h0_limit.toInt ≤ h0_at.toInt) ∧ va_P (dC, dI) cls (wz_46 h0 aw ac h0_at h0_limit h0_sound h0_codeCount ob h0_openCount aw ab ac aw_typeCount wat wap wag aw_functionCount waf aw_hasMemory aw_pagesLeast aw_pagesMost aw_globalCount wgt wft wfv wgc aw_exportCount wek wei wes wez ab ax ab_length ax cax gax) H ∧ va_D A (wz_46 h0 aw ac h0_at h0_limit h0_sound h0_codeCount ob h0_openCount aw ab ac aw_typeCount wat wap wag aw_functionCount waf aw_hasMemory aw_pagesLeast aw_pagesMost aw_globalCount wgt wft wfv wgc aw_exportCount wek wei wes wez ab ax ab_length ax cax gax) ∧ va_S A s.heap H locs ∧ lv_has ls 1 [(0, .ref h0)]) (fun u => match u with | _ => []) ?_ (fun jn18 => ?_)
  · intro u H locs ls hI
    obtain ⟨y18, hP, hD, hS, hl⟩ := hI
    refine lv_aload_n hx hb d_RE_next_18 rfl (lv_at hl 0 rfl) ?_
    refine lv_iconst (v := 0) hx hb d_RE_next_19 (by decide) ?_
    refine va_put (D := (dC, dI)) (ci := 7) (v := .int 0) (ty := .boolean) (C := R_RE) (T := F_RE) (N := 8) hx hb hts i_RE t_RE t_RE_ok n_RE hown hK hP hD hS 0 rfl rfl 4 (by decide) (hts _ kF_RE_45) (fun _ h9 => h9) rfl (by decide +kernel) rfl rfl (Nat.le_of_ble_eq_true rfl) d_RE_next_20 (fun H locs hP hD hS => ?_)
    refine lv_iconst (v := 0) hx hb d_RE_next_23 (by decide) ?_
    have hP9 := hP.sb (wq := (wz_46 h0 aw ac h0_at h0_limit 0 h0_codeCount ob h0_openCount aw ab ac aw_typeCount wat wap wag aw_functionCount waf aw_hasMemory aw_pagesLeast aw_pagesMost aw_globalCount wgt wft wfv wgc aw_exportCount wek wei wes wez ab ax ab_length ax cax gax)) [0, 1, 2, 3] rfl
    have hD9 := hD.sb (wq := (wz_46 h0 aw ac h0_at h0_limit 0 h0_codeCount ob h0_openCount aw ab ac aw_typeCount wat wap wag aw_functionCount waf aw_hasMemory aw_pagesLeast aw_pagesMost aw_globalCount wgt wft wfv wgc aw_exportCount wek wei wes wez ab ax ab_length ax cax gax)) [0, 1, 2, 3] (by decide) rfl
    exact W.iret (v := 0) hx hb hr (fun t ht hW => ⟨⟨0, (h0_at, 0), rfl, ⟨by (try dsimp only) <;> (first | (apply Int.le_antisymm <;> omega) | omega), Or.inl rfl, ⟨⟨by (try dsimp only) <;> (first | (apply Int.le_antisymm <;> omega) | omega), by (try dsimp only) <;> (first | (apply Int.le_antisymm <;> omega) | omega)⟩, Or.inr ⟨by decide, y18, rfl, by decide⟩⟩⟩, va_P.he ht.symm hP9, va_K.moved hW.alike hK, hD9⟩, hS.F ht⟩) hS.2.2 d_RE_next_24
  · skip
    refine lv_if_eq (tgt := 18) hx hb d_RE_next_4 (by decide) (fun c4 => ?_) (fun c4 => ?_)
    · have q4 := eqI c4
      exact jn18 () _ _ _ ⟨fun z => by (first | (apply Int.le_antisymm <;> omega) | omega), hP, hD, hS, lv_sub hl [0] rfl⟩
    · have q4 := neI c4
      refine lv_aload_n hx hb d_RE_next_7 rfl (lv_at hl 0 rfl) ?_
      refine va_get (D := (dC, dI)) (ci := 7) (v := .int h0_at) (C := R_RE) (T := F_RE) (N := 8) hx hb hts i_RE hown hK hP 0 rfl rfl 2 (by decide) (hts _ kF_RE_29) (fun _ h9 => h9) rfl d_RE_next_8 ?_
      refine lv_aload_n hx hb d_RE_next_11 rfl (lv_at hl 0 rfl) ?_
      refine va_get (D := (dC, dI)) (ci := 7) (v := .int h0_limit) (C := R_RE) (T := F_RE) (N := 8) hx hb hts i_RE hown hK hP 0 rfl rfl 3 (by decide) (hts _ kF_RE_42) (fun _ h9 => h9) rfl d_RE_next_12 ?_
      refine lv_icmp_lt (tgt := 25) hx hb d_RE_next_15 (by decide) (fun c15 => ?_) (fun c15 => ?_)
      · have q15 := ltI c15
        refine lv_aload_n hx hb d_RE_next_25 rfl (lv_at hl 0 rfl) ?_
        refine va_get (D := (dC, dI)) (ci := 7) (v := .ref aw) (C := R_RE) (T := F_RE) (N := 8) hx hb hts i_RE hown hK hP 0 rfl rfl 0 (by decide) (hts _ kF_RE_15) (fun _ h9 => h9) rfl d_RE_next_26 ?_
        refine va_get (D := (dC, dI)) (ci := 10) (v := .ref ab) (C := R_WA) (T := F_WA) (N := 21) hx hb hts i_WA hown hK hP 1 rfl rfl 0 (by decide) (hts _ kF_RE_33) (fun _ h9 => h9) rfl d_RE_next_29 ?_
        refine va_get (D := (dC, dI)) (ci := 1) (v := .ref ax) (C := R_BR) (T := F_BR) (N := 2) hx hb hts i_BR hown hK hP 2 rfl rfl 0 (by decide) (hts _ kF_RE_237) (fun _ h9 => h9) rfl d_RE_next_32 ?_
        refine lv_aload_n hx hb d_RE_next_35 rfl (lv_at hl 0 rfl) ?_
        refine lv_dup hx hb d_RE_next_36 rfl ?_
        refine va_get (D := (dC, dI)) (ci := 7) (v := .int h0_at) (C := R_RE) (T := F_RE) (N := 8) hx hb hts i_RE hown hK hP 0 rfl rfl 2 (by decide) (hts _ kF_RE_29) (fun _ h9 => h9) rfl d_RE_next_37 ?_
        refine lv_dup_x1 hx hb d_RE_next_40 rfl rfl ?_
        refine lv_iconst (v := 1) hx hb d_RE_next_41 (by decide) ?_
        refine lv_iadd hx hb d_RE_next_42 ?_
        refine lv_topi (fun x1 ex1 => ?_)
        have tx1 : x1.toInt = h0_at.toInt + 1 := by have z := i32_add ex1 (by (first | (apply Int.le_antisymm <;> omega) | omega)) (by (first | (apply Int.le_antisymm <;> omega) | omega)); first | exact z | (first | (apply Int.le_antisymm <;> omega) | omega)
        refine va_put (D := (dC, dI)) (ci := 7) (v := .int x1) (ty := .int) (C := R_RE) (T := F_RE) (N := 8) hx hb hts i_RE t_RE t_RE_ok n_RE hown hK hP hD hS 0 rfl rfl 2 (by decide) (hts _ kF_RE_29) (fun _ h9 => h9) rfl (by decide +kernel) rfl rfl (Nat.le_of_ble_eq_true rfl) d_RE_next_43 (fun H locs hP hD hS => ?_)
        have g46 : vp_in h0_at 8192 := vp_in_iff.mpr ⟨by (first | (apply Int.le_antisymm <;> omega) | omega), by (first | (apply Int.le_antisymm <;> omega) | omega)⟩
        refine va_bald hx hb hK hP 3 0 rfl rfl g46 d_RE_next_46 ?_
        refine lv_topi (fun x2 ex2 => ?_)
        refine lv_sipush (v := 255) hx hb d_RE_next_47 (by decide) ?_
        refine lv_iand hx hb d_RE_next_50 ?_
        refine lv_topi (fun x3 ex3 => ?_)
        have tx3 := and255 x2
        rw [← ex3] at tx3
        have ux3 := bn_lt x2
        have hP9 := hP.sb (wq := (wz_46 h0 aw ac x1 h0_limit h0_sound h0_codeCount ob h0_openCount aw ab ac aw_typeCount wat wap wag aw_functionCount waf aw_hasMemory aw_pagesLeast aw_pagesMost aw_globalCount wgt wft wfv wgc aw_exportCount wek wei wes wez ab ax ab_length ax cax gax)) [0, 1, 2, 3] rfl
        have hD9 := hD.sb (wq := (wz_46 h0 aw ac x1 h0_limit h0_sound h0_codeCount ob h0_openCount aw ab ac aw_typeCount wat wap wag aw_functionCount waf aw_hasMemory aw_pagesLeast aw_pagesMost aw_globalCount wgt wft wfv wgc aw_exportCount wek wei wes wez ab ax ab_length ax cax gax)) [0, 1, 2, 3] (by decide) rfl
        exact W.iret (v := x3) hx hb hr (fun t ht hW => ⟨⟨x3, (x1, h0_sound), rfl, ⟨by (try dsimp only) <;> (first | (apply Int.le_antisymm <;> omega) | omega), b_h0_sound, ⟨⟨by (try dsimp only) <;> (first | (apply Int.le_antisymm <;> omega) | omega), by (try dsimp only) <;> (first | (apply Int.le_antisymm <;> omega) | omega)⟩, Or.inl ⟨by (try dsimp only) <;> (first | (apply Int.le_antisymm <;> omega) | omega), by (try dsimp only) <;> (first | (apply Int.le_antisymm <;> omega) | omega), by (try dsimp only) <;> (first | (apply Int.le_antisymm <;> omega) | omega), by (try dsimp only) <;> (first | (apply Int.le_antisymm <;> omega) | omega), by rw [tx3, ex2]⟩⟩⟩, va_P.he ht.symm hP9, va_K.moved hW.alike hK, hD9⟩, hS.F ht⟩) hS.2.2 d_RE_next_51
      · have q15 := nltI c15
        exact jn18 () _ _ _ ⟨fun z => by (first | (apply Int.le_antisymm <;> omega) | omega), hP, hD, hS, lv_sub hl [0] rfl⟩
abbrev at_RE_readTypey (dC : Nat → ClassId) (dI : Nat → Nat → Nat) (h0 aw ac ob ab wat wap wag waf wgt wft wfv wgc wek wei wes wez ax : Nat) (cax : ClassId) (h0_limit : Int32) (h0_codeCount : Int32) (h0_openCount : Int32) (aw_typeCount : Int32) (aw_functionCount : Int32) (aw_hasMemory : Int32) (aw_pagesLeast : Int64) (aw_pagesMost : Int64) (aw_globalCount : Int32) (aw_exportCount : Int32) (ab_length : Int32) (gax : Nat → Int32) (A : Nat → Prop) (u : Int32 × Int32) (t : State) : Prop := match u with | (h0_at, h0_sound) => va_P (dC, dI) cls (wz_46 h0 aw ac h0_at h0_limit h0_sound h0_codeCount ob h0_openCount aw ab ac aw_typeCount wat wap wag aw_functionCount waf aw_hasMemory aw_pagesLeast aw_pagesMost aw_globalCount wgt wft wfv wgc aw_exportCount wek wei wes wez ab ax ab_length ax cax gax) t.heap ∧ va_K (dC, dI) cls [(cax, .byte)] t ∧ va_D A (wz_46 h0 aw ac h0_at h0_limit h0_sound h0_codeCount ob h0_openCount aw ab ac aw_typeCount wat wap wag aw_functionCount waf aw_hasMemory aw_pagesLeast aw_pagesMost aw_globalCount wgt wft wfv wgc aw_exportCount wek wei wes wez ab ax ab_length ax cax gax)
set_option maxHeartbeats 4000000 in
set_option maxRecDepth 100000 in
theorem c_RE_readTypey (l : Launch) (dC : Nat → ClassId) (dI : Nat → Nat → Nat) (sz : Nat) (h0 aw ac ob ab wat wap wag waf wgt wft wfv wgc wek wei wes wez ax : Nat) (cax : ClassId) (h0_at : Int32) (h0_limit : Int32) (h0_sound : Int32) (h0_codeCount : Int32) (h0_openCount : Int32) (aw_typeCount : Int32) (aw_functionCount : Int32) (aw_hasMemory : Int32) (aw_pagesLeast : Int64) (aw_pagesMost : Int64) (aw_globalCount : Int32) (aw_exportCount : Int32) (ab_length : Int32) (gax : Nat → Int32)  (b_h0_sound : h0_sound = 0 ∨ h0_sound = 1)   (ha : 0 ≤ h0_at.toInt ∧ h0_at.toInt ≤ h0_limit.toInt ∧ h0_limit.toInt ≤ ab_length.toInt ∧ ab_length.toInt ≤ 8192) : Met l y_RE_readType w_RE_readType ({ frames := 1, cells := 0, slots := 0, locals := 20 }) (va_Pc [.ref h0] (fun U => U.heap.size = sz ∧ va_P (dC, dI) cls (wz_46 h0 aw ac h0_at h0_limit h0_sound h0_codeCount ob h0_openCount aw ab ac aw_typeCount wat wap wag aw_functionCount waf aw_hasMemory aw_pagesLeast aw_pagesMost aw_globalCount wgt wft wfv wgc aw_exportCount wek wei wes wez ab ax ab_length ax cax gax) U.heap ∧ va_K (dC, dI) cls [(cax, .byte)] U ∧ va_D (fun _ => True) (wz_46 h0 aw ac h0_at h0_limit h0_sound h0_codeCount ob h0_openCount aw ab ac aw_typeCount wat wap wag aw_functionCount waf aw_hasMemory aw_pagesLeast aw_pagesMost aw_globalCount wgt wft wfv wgc aw_exportCount wek wei wes wez ab ax ab_length ax cax gax))) (va_Qi (fun (r : Int32) (u : Int32 × Int32) => match u with | (h0_at2, h0_sound2) => (0 ≤ r.toInt ∧ r.toInt ≤ 255) ∧ (h0_sound2 = 0 ∨ h0_sound2 = 1) ∧ ((h0_at.toInt ≤ h0_at2.toInt ∧ h0_at2.toInt ≤ h0_limit.toInt) ∧ rz (zTy gax h0_limit.toNatClampNeg h0_at.toNatClampNeg) h0_sound h0_sound2 h0_at2 r.toInt)) (at_RE_readTypey dC dI h0 aw ac ob ab wat wap wag waf wgt wft wfv wgc wek wei wes wez ax cax h0_limit h0_codeCount h0_openCount aw_typeCount aw_functionCount aw_hasMemory aw_pagesLeast aw_pagesMost aw_globalCount aw_exportCount ab_length gax (va_A (wz_46 h0 aw ac h0_at h0_limit h0_sound h0_codeCount ob h0_openCount aw ab ac aw_typeCount wat wap wag aw_functionCount waf aw_hasMemory aw_pagesLeast aw_pagesMost aw_globalCount wgt wft wfv wgc aw_exportCount wek wei wes wez ab ax ab_length ax cax gax) sz)) (va_A (wz_46 h0 aw ac h0_at h0_limit h0_sound h0_codeCount ob h0_openCount aw ab ac aw_typeCount wat wap wag aw_functionCount waf aw_hasMemory aw_pagesLeast aw_pagesMost aw_globalCount wgt wft wfv wgc aw_exportCount wek wei wes wez ab ax ab_length ax cax gax) sz)) 0 0 (va_A (wz_46 h0 aw ac h0_at h0_limit h0_sound h0_codeCount ob h0_openCount aw ab ac aw_typeCount wat wap wag aw_functionCount waf aw_hasMemory aw_pagesLeast aw_pagesMost aw_globalCount wgt wft wfv wgc aw_exportCount wek wei wes wez ab ax ab_length ax cax gax) sz) := by
  refine Met.ofW (cc := b_RE_readType) (maxL := 2) (ret := (Option.some .int)) (by decide) rfl ?_
  intro p e s m args below meth c s₁ B hml hv
  obtain ⟨rfl, hsz, hP, hK, hD0⟩ := hv
  have hx := B.exec
  have hb := B.bytes
  have hr := B.returns
  have hts0 := atoms_spec (ws := w_RE_readType) B.pre
  have hts : ∀ w ∈ lw_g, w.before _ s = true := fun w h => hts0 w (List.mem_cons_of_mem _ h)
  have hown : s.vm.findClass R_RE = some m.cls := findClass_of_methodNamed B.named
  have hlocks := B.notSynchronized
  clear hts0
  subst hsz
  have hD := hD0.self (sz := s.heap.size)
  generalize hAe : va_A (wz_46 h0 aw ac h0_at h0_limit h0_sound h0_codeCount ob h0_openCount aw ab ac aw_typeCount wat wap wag aw_functionCount waf aw_hasMemory aw_pagesLeast aw_pagesMost aw_globalCount wgt wft wfv wgc aw_exportCount wek wei wes wez ab ax ab_length ax cax gax) s.heap.size = A at hD ⊢
  have hA : ∀ q : Nat, s.heap.size ≤ q → A q := fun q h => by rw [← hAe]; exact Or.inr h
  clear hAe
  have hP : va_P (dC, dI) cls (wz_46 h0 aw ac h0_at h0_limit h0_sound h0_codeCount ob h0_openCount aw ab ac aw_typeCount wat wap wag aw_functionCount waf aw_hasMemory aw_pagesLeast aw_pagesMost aw_globalCount wgt wft wfv wgc aw_exportCount wek wei wes wez ab ax ab_length ax cax gax) s.heap := hP
  have hl := lv_entry ([.ref h0]) (n := 2) (Nat.le_of_ble_eq_true rfl)
  rw [lg_entry_eq]
  generalize (lg_sl ([.ref h0]) ++ List.replicate (2 - (lg_sl ([.ref h0])).length) Slot.unset).toArray = ls at hl ⊢
  have hl : lv_has ls 2 [(0, .ref h0)] := hl
  have k0 : (0 : Int32).toInt = 0 := by decide
  refine w_gen (A := A) hP (fun H locs hP hS => ?_)
  have k1 : (1 : Int32).toInt = 1 := by decide
  have k126 : (126 : Int32).toInt = 126 := by decide
  have k127 : (127 : Int32).toInt = 127 := by decide
  have th0_sound := b01 b_h0_sound
  refine lv_aload_n hx hb d_RE_readType_0 rfl (lv_at hl 0 rfl) ?_
  have hPc := hP.sb (wq := (wz_46 h0 aw ac h0_at h0_limit h0_sound h0_codeCount ob h0_openCount aw ab ac aw_typeCount wat wap wag aw_functionCount waf aw_hasMemory aw_pagesLeast aw_pagesMost aw_globalCount wgt wft wfv wgc aw_exportCount wek wei wes wez ab ax ab_length ax cax gax)) [0, 1, 2, 3] rfl
  have hDc := hD.sb (wq := (wz_46 h0 aw ac h0_at h0_limit h0_sound h0_codeCount ob h0_openCount aw ab ac aw_typeCount wat wap wag aw_functionCount waf aw_hasMemory aw_pagesLeast aw_pagesMost aw_globalCount wgt wft wfv wgc aw_exportCount wek wei wes wez ab ax ab_length ax cax gax)) [0, 1, 2, 3] (by decide) rfl
  have hKc := hK.sb (tyq := [(cax, .byte)]) [0] rfl
  have hFc := va_free (wc := (wz_46 h0 aw ac h0_at h0_limit h0_sound h0_codeCount ob h0_openCount aw ab ac aw_typeCount wat wap wag aw_functionCount waf aw_hasMemory aw_pagesLeast aw_pagesMost aw_globalCount wgt wft wfv wgc aw_exportCount wek wei wes wez ab ax ab_length ax cax gax)) hD hS hA [0, 1, 2, 3] rfl
  refine va_calli (va_runV (As := []) (rest := []) ⟨hx, hb, hml, hown, hts⟩ (c_RE_nexty l dC dI H.size h0 aw ac ob ab wat wap wag waf wgt wft wfv wgc wek wei wes wez ax cax h0_at h0_limit h0_sound h0_codeCount h0_openCount aw_typeCount aw_functionCount aw_hasMemory aw_pagesLeast aw_pagesMost aw_globalCount aw_exportCount ab_length gax (b_h0_sound) (by (try dsimp only) <;> (first | (apply Int.le_antisymm <;> omega) | omega))) (cwV 0 hts (gV kM_RE_60 kV_RE_next kS_RE_next kI_RE kC_RE_next) rfl rfl rfl (by decide +kernel) ⟨Nat.le_of_ble_eq_true rfl, Nat.le_of_ble_eq_true rfl⟩) ⟨fun a U g mk z => by obtain ⟨z0, z1, zP, zK, zD⟩ := z; exact ⟨z0, z1, zP, va_K.moved (u := U) (U := U.calling g mk a) (Vm.Alike.refl U.vm) zK, zD⟩, va_recv hKc hPc (ci := 7) (q0 := 0) rfl rfl, fun U hU hW => ⟨rfl, by rw [hU], va_P.he hU.symm hPc, va_K.moved hW.alike hKc, hDc.weaken (fun _ _ _ _ => trivial)⟩⟩ rfl rfl hl.1 rfl (lv_room (Nat.le_of_ble_eq_true rfl)) d_RE_readType_1 ⟨(Nat.zero_le _), (Nat.zero_le _)⟩) hS (fun q _ h => hFc q h) hFc (fun r1 u t H1 locs ht hvm hw hB hz1 hk1 hS => ?_)
  obtain ⟨n2, n3⟩ := u
  try dsimp only at hw
  obtain ⟨br1, bn3, xr1⟩ := hw
  try clear hw
  have tn3 := b01 bn3
  obtain ⟨hP1, hK1, hD1⟩ := hB
  replace hP1 := va_P.he ht hP1
  obtain ⟨hP, hD⟩ := va_join (wr := []) (w1 := (wz_46 h0 aw ac n2 h0_limit n3 h0_codeCount ob h0_openCount aw ab ac aw_typeCount wat wap wag aw_functionCount waf aw_hasMemory aw_pagesLeast aw_pagesMost aw_globalCount wgt wft wfv wgc aw_exportCount wek wei wes wez ab ax ab_length ax cax gax)) hP hD [0, 1, 2, 3] [] rfl rfl (by decide) (by decide) hk1 hFc hP1 hD1
  clear hPc hDc hKc hFc hz1 hk1 hP1 hK1 hD1
  rename Heap => H
  have hP : va_P (dC, dI) cls (wz_46 h0 aw ac n2 h0_limit n3 h0_codeCount ob h0_openCount aw ab ac aw_typeCount wat wap wag aw_functionCount waf aw_hasMemory aw_pagesLeast aw_pagesMost aw_globalCount wgt wft wfv wgc aw_exportCount wek wei wes wez ab ax ab_length ax cax gax) H := hP
  have hD : va_D A (wz_46 h0 aw ac n2 h0_limit n3 h0_codeCount ob h0_openCount aw ab ac aw_typeCount wat wap wag aw_functionCount waf aw_hasMemory aw_pagesLeast aw_pagesMost aw_globalCount wgt wft wfv wgc aw_exportCount wek wei wes wez ab ax ab_length ax cax gax) := hD
  refine lv_istore_n (lv' := [(1, .int r1), (0, .ref h0)]) hx hb d_RE_readType_4 rfl hl (by decide) rfl (fun ls hl => ?_)
  refine lv_aload_n hx hb d_RE_readType_5 rfl (lv_at hl 1 rfl) ?_
  refine lv_aload_n hx hb d_RE_readType_6 rfl (lv_at hl 1 rfl) ?_
  refine va_get (D := (dC, dI)) (ci := 7) (v := .int n3) (C := R_RE) (T := F_RE) (N := 8) hx hb hts i_RE hown hK hP 0 rfl rfl 4 (by decide) (hts _ kF_RE_45) (fun _ h9 => h9) rfl d_RE_readType_7 ?_
  refine w_cut (pc2 := 30) (σ := Int32) (fun u H locs ls => match u with | j30_s0 => (j30_s0 = 0 ∨ j30_s0 = 1) ∧ ((j30_s0.toInt = 1 ∧ n3.toInt = 1 ∧ (r1.toInt = 127 ∨ r1.toInt = 126)) ∨ (j30_s0.toInt = 0 ∧ ¬ (n3.toInt = 1 ∧ (r1.toInt = 127 ∨ r1.toInt = 126)))) ∧ va_P (dC, dI) cls (wz_46 h0 aw ac n2 h0_limit n3 h0_codeCount ob h0_openCount aw ab ac aw_typeCount wat wap wag aw_functionCount waf aw_hasMemory aw_pagesLeast aw_pagesMost aw_globalCount wgt wft wfv wgc aw_exportCount wek wei wes wez ab ax ab_length ax cax gax) H ∧ va_D A (wz_46 h0 aw ac n2 h0_limit n3 h0_codeCount ob h0_openCount aw ab ac aw_typeCount wat wap wag aw_functionCount waf aw_hasMemory aw_pagesLeast aw_pagesMost aw_globalCount wgt wft wfv wgc aw_exportCount wek wei wes wez ab ax ab_length ax cax gax) ∧ va_S A s.heap H locs ∧ lv_has ls 2 [(1, .int r1)]) (fun u => match u with | j30_s0 => [.int j30_s0, .ref h0]) ?_ (fun jn30 => ?_)
  · intro u H locs ls hI
    obtain ⟨j30_s0, rfl⟩ : ∃ z, z = u := ⟨_, rfl⟩
    obtain ⟨b_j30_s0, y30, hP, hD, hS, hl⟩ := hI
    have tj30_s0 := b01 b_j30_s0
    refine va_put (D := (dC, dI)) (ci := 7) (v := .int j30_s0) (ty := .boolean) (C := R_RE) (T := F_RE) (N := 8) hx hb hts i_RE t_RE t_RE_ok n_RE hown hK hP hD hS 0 rfl rfl 4 (by decide) (hts _ kF_RE_45) (fun _ h9 => h9) rfl (by decide +kernel) (zn01 (b_j30_s0)) (fz01 (b_j30_s0)) (Nat.le_of_ble_eq_true rfl) d_RE_readType_30 (fun H locs hP hD hS => ?_)
    refine lv_iload_n hx hb d_RE_readType_33 rfl (lv_at hl 0 rfl) ?_
    have hP9 := hP.sb (wq := (wz_46 h0 aw ac n2 h0_limit j30_s0 h0_codeCount ob h0_openCount aw ab ac aw_typeCount wat wap wag aw_functionCount waf aw_hasMemory aw_pagesLeast aw_pagesMost aw_globalCount wgt wft wfv wgc aw_exportCount wek wei wes wez ab ax ab_length ax cax gax)) [0, 1, 2, 3] rfl
    have hD9 := hD.sb (wq := (wz_46 h0 aw ac n2 h0_limit j30_s0 h0_codeCount ob h0_openCount aw ab ac aw_typeCount wat wap wag aw_functionCount waf aw_hasMemory aw_pagesLeast aw_pagesMost aw_globalCount wgt wft wfv wgc aw_exportCount wek wei wes wez ab ax ab_length ax cax gax)) [0, 1, 2, 3] (by decide) rfl
    exact W.iret (v := r1) hx hb hr (fun t ht hW => ⟨⟨r1, (n2, j30_s0), rfl, ⟨br1, b_j30_s0, ⟨⟨by (try dsimp only) <;> (first | (apply Int.le_antisymm <;> omega) | omega), by (try dsimp only) <;> (first | (apply Int.le_antisymm <;> omega) | omega)⟩, ty_zz xr1.2 (by (first | (apply Int.le_antisymm <;> omega) | omega)) (by (first | (apply Int.le_antisymm <;> omega) | omega)) y30⟩⟩, va_P.he ht.symm hP9, va_K.moved hW.alike hK, hD9⟩, hS.F ht⟩) hS.2.2 d_RE_readType_34
  · skip
    refine w_cut (pc2 := 29) (σ := Unit) (fun u H locs ls => match u with | _ => (¬ (n3.toInt = 1 ∧ (r1.toInt = 127 ∨ r1.toInt = 126))) ∧ va_P (dC, dI) cls (wz_46 h0 aw ac n2 h0_limit n3 h0_codeCount ob h0_openCount aw ab ac aw_typeCount wat wap wag aw_functionCount waf aw_hasMemory aw_pagesLeast aw_pagesMost aw_globalCount wgt wft wfv wgc aw_exportCount wek wei wes wez ab ax ab_length ax cax gax) H ∧ va_D A (wz_46 h0 aw ac n2 h0_limit n3 h0_codeCount ob h0_openCount aw ab ac aw_typeCount wat wap wag aw_functionCount waf aw_hasMemory aw_pagesLeast aw_pagesMost aw_globalCount wgt wft wfv wgc aw_exportCount wek wei wes wez ab ax ab_length ax cax gax) ∧ va_S A s.heap H locs ∧ lv_has ls 2 [(1, .int r1)]) (fun u => match u with | _ => [.ref h0]) ?_ (fun jn29 => ?_)
    · intro u H locs ls hI
      obtain ⟨y29, hP, hD, hS, hl⟩ := hI
      refine lv_iconst (v := 0) hx hb d_RE_readType_29 (by decide) ?_
      exact jn30 0 _ _ _ ⟨Or.inl rfl, by (try dsimp only) <;> (first | (apply Int.le_antisymm <;> omega) | omega), hP, hD, hS, lv_sub hl [0] rfl⟩
    · skip
      refine lv_if_eq (tgt := 29) hx hb d_RE_readType_10 (by decide) (fun c10 => ?_) (fun c10 => ?_)
      · have q10 := eqI c10
        exact jn29 () _ _ _ ⟨by (try dsimp only) <;> (first | (apply Int.le_antisymm <;> omega) | omega), hP, hD, hS, lv_sub hl [0] rfl⟩
      · have q10 := neI c10
        refine lv_iload_n hx hb d_RE_readType_13 rfl (lv_at hl 0 rfl) ?_
        refine lv_bipush (v := 127) hx hb d_RE_readType_14 (by decide) ?_
        refine w_cut (pc2 := 25) (σ := Unit) (fun u H locs ls => match u with | _ => (n3.toInt = 1 ∧ (r1.toInt = 127 ∨ r1.toInt = 126)) ∧ va_P (dC, dI) cls (wz_46 h0 aw ac n2 h0_limit n3 h0_codeCount ob h0_openCount aw ab ac aw_typeCount wat wap wag aw_functionCount waf aw_hasMemory aw_pagesLeast aw_pagesMost aw_globalCount wgt wft wfv wgc aw_exportCount wek wei wes wez ab ax ab_length ax cax gax) H ∧ va_D A (wz_46 h0 aw ac n2 h0_limit n3 h0_codeCount ob h0_openCount aw ab ac aw_typeCount wat wap wag aw_functionCount waf aw_hasMemory aw_pagesLeast aw_pagesMost aw_globalCount wgt wft wfv wgc aw_exportCount wek wei wes wez ab ax ab_length ax cax gax) ∧ va_S A s.heap H locs ∧ lv_has ls 2 [(1, .int r1)]) (fun u => match u with | _ => [.ref h0]) ?_ (fun jn25 => ?_)
        · intro u H locs ls hI
          obtain ⟨y25, hP, hD, hS, hl⟩ := hI
          refine lv_iconst (v := 1) hx hb d_RE_readType_25 (by decide) ?_
          refine lv_goto (tgt := 30) hx hb d_RE_readType_26 (by decide) ?_
          exact jn30 1 _ _ _ ⟨Or.inr rfl, by (try dsimp only) <;> (first | (apply Int.le_antisymm <;> omega) | omega), hP, hD, hS, lv_sub hl [0] rfl⟩
        · skip
          refine lv_icmp_eq (tgt := 25) hx hb d_RE_readType_16 (by decide) (fun c16 => ?_) (fun c16 => ?_)
          · have q16 := eqI c16
            exact jn25 () _ _ _ ⟨by (try dsimp only) <;> (first | (apply Int.le_antisymm <;> omega) | omega), hP, hD, hS, lv_sub hl [0] rfl⟩
          · have q16 := neI c16
            refine lv_iload_n hx hb d_RE_readType_19 rfl (lv_at hl 0 rfl) ?_
            refine lv_bipush (v := 126) hx hb d_RE_readType_20 (by decide) ?_
            refine lv_icmp_ne (tgt := 29) hx hb d_RE_readType_22 (by decide) (fun c22 => ?_) (fun c22 => ?_)
            · have q22 := neI c22
              exact jn29 () _ _ _ ⟨by (try dsimp only) <;> (first | (apply Int.le_antisymm <;> omega) | omega), hP, hD, hS, lv_sub hl [0] rfl⟩
            · have q22 := eqI c22
              exact jn25 () _ _ _ ⟨by (try dsimp only) <;> (first | (apply Int.le_antisymm <;> omega) | omega), hP, hD, hS, lv_sub hl [0] rfl⟩
abbrev at_RE_readFlagy (dC : Nat → ClassId) (dI : Nat → Nat → Nat) (h0 aw ac ob ab wat wap wag waf wgt wft wfv wgc wek wei wes wez ax : Nat) (cax : ClassId) (h0_limit : Int32) (h0_codeCount : Int32) (h0_openCount : Int32) (aw_typeCount : Int32) (aw_functionCount : Int32) (aw_hasMemory : Int32) (aw_pagesLeast : Int64) (aw_pagesMost : Int64) (aw_globalCount : Int32) (aw_exportCount : Int32) (ab_length : Int32) (gax : Nat → Int32) (A : Nat → Prop) (u : Int32 × Int32) (t : State) : Prop := match u with | (h0_at, h0_sound) => va_P (dC, dI) cls (wz_46 h0 aw ac h0_at h0_limit h0_sound h0_codeCount ob h0_openCount aw ab ac aw_typeCount wat wap wag aw_functionCount waf aw_hasMemory aw_pagesLeast aw_pagesMost aw_globalCount wgt wft wfv wgc aw_exportCount wek wei wes wez ab ax ab_length ax cax gax) t.heap ∧ va_K (dC, dI) cls [(cax, .byte)] t ∧ va_D A (wz_46 h0 aw ac h0_at h0_limit h0_sound h0_codeCount ob h0_openCount aw ab ac aw_typeCount wat wap wag aw_functionCount waf aw_hasMemory aw_pagesLeast aw_pagesMost aw_globalCount wgt wft wfv wgc aw_exportCount wek wei wes wez ab ax ab_length ax cax gax)
set_option maxHeartbeats 4000000 in
set_option maxRecDepth 100000 in
theorem c_RE_readFlagy (l : Launch) (dC : Nat → ClassId) (dI : Nat → Nat → Nat) (sz : Nat) (h0 aw ac ob ab wat wap wag waf wgt wft wfv wgc wek wei wes wez ax : Nat) (cax : ClassId) (h0_at : Int32) (h0_limit : Int32) (h0_sound : Int32) (h0_codeCount : Int32) (h0_openCount : Int32) (aw_typeCount : Int32) (aw_functionCount : Int32) (aw_hasMemory : Int32) (aw_pagesLeast : Int64) (aw_pagesMost : Int64) (aw_globalCount : Int32) (aw_exportCount : Int32) (ab_length : Int32) (gax : Nat → Int32)  (b_h0_sound : h0_sound = 0 ∨ h0_sound = 1)   (ha : 0 ≤ h0_at.toInt ∧ h0_at.toInt ≤ h0_limit.toInt ∧ h0_limit.toInt ≤ ab_length.toInt ∧ ab_length.toInt ≤ 8192) : Met l y_RE_readFlag w_RE_readFlag ({ frames := 1, cells := 0, slots := 0, locals := 20 }) (va_Pc [.ref h0] (fun U => U.heap.size = sz ∧ va_P (dC, dI) cls (wz_46 h0 aw ac h0_at h0_limit h0_sound h0_codeCount ob h0_openCount aw ab ac aw_typeCount wat wap wag aw_functionCount waf aw_hasMemory aw_pagesLeast aw_pagesMost aw_globalCount wgt wft wfv wgc aw_exportCount wek wei wes wez ab ax ab_length ax cax gax) U.heap ∧ va_K (dC, dI) cls [(cax, .byte)] U ∧ va_D (fun _ => True) (wz_46 h0 aw ac h0_at h0_limit h0_sound h0_codeCount ob h0_openCount aw ab ac aw_typeCount wat wap wag aw_functionCount waf aw_hasMemory aw_pagesLeast aw_pagesMost aw_globalCount wgt wft wfv wgc aw_exportCount wek wei wes wez ab ax ab_length ax cax gax))) (va_Qi (fun (r : Int32) (u : Int32 × Int32) => match u with | (h0_at2, h0_sound2) => (0 ≤ r.toInt ∧ r.toInt ≤ 255) ∧ (h0_sound2 = 0 ∨ h0_sound2 = 1) ∧ ((h0_at.toInt ≤ h0_at2.toInt ∧ h0_at2.toInt ≤ h0_limit.toInt) ∧ rz (zFl gax h0_limit.toNatClampNeg h0_at.toNatClampNeg) h0_sound h0_sound2 h0_at2 r.toInt)) (at_RE_readFlagy dC dI h0 aw ac ob ab wat wap wag waf wgt wft wfv wgc wek wei wes wez ax cax h0_limit h0_codeCount h0_openCount aw_typeCount aw_functionCount aw_hasMemory aw_pagesLeast aw_pagesMost aw_globalCount aw_exportCount ab_length gax (va_A (wz_46 h0 aw ac h0_at h0_limit h0_sound h0_codeCount ob h0_openCount aw ab ac aw_typeCount wat wap wag aw_functionCount waf aw_hasMemory aw_pagesLeast aw_pagesMost aw_globalCount wgt wft wfv wgc aw_exportCount wek wei wes wez ab ax ab_length ax cax gax) sz)) (va_A (wz_46 h0 aw ac h0_at h0_limit h0_sound h0_codeCount ob h0_openCount aw ab ac aw_typeCount wat wap wag aw_functionCount waf aw_hasMemory aw_pagesLeast aw_pagesMost aw_globalCount wgt wft wfv wgc aw_exportCount wek wei wes wez ab ax ab_length ax cax gax) sz)) 0 0 (va_A (wz_46 h0 aw ac h0_at h0_limit h0_sound h0_codeCount ob h0_openCount aw ab ac aw_typeCount wat wap wag aw_functionCount waf aw_hasMemory aw_pagesLeast aw_pagesMost aw_globalCount wgt wft wfv wgc aw_exportCount wek wei wes wez ab ax ab_length ax cax gax) sz) := by
  refine Met.ofW (cc := b_RE_readFlag) (maxL := 2) (ret := (Option.some .int)) (by decide) rfl ?_
  intro p e s m args below meth c s₁ B hml hv
  obtain ⟨rfl, hsz, hP, hK, hD0⟩ := hv
  have hx := B.exec
  have hb := B.bytes
  have hr := B.returns
  have hts0 := atoms_spec (ws := w_RE_readFlag) B.pre
  have hts : ∀ w ∈ lw_g, w.before _ s = true := fun w h => hts0 w (List.mem_cons_of_mem _ h)
  have hown : s.vm.findClass R_RE = some m.cls := findClass_of_methodNamed B.named
  have hlocks := B.notSynchronized
  clear hts0
  subst hsz
  have hD := hD0.self (sz := s.heap.size)
  generalize hAe : va_A (wz_46 h0 aw ac h0_at h0_limit h0_sound h0_codeCount ob h0_openCount aw ab ac aw_typeCount wat wap wag aw_functionCount waf aw_hasMemory aw_pagesLeast aw_pagesMost aw_globalCount wgt wft wfv wgc aw_exportCount wek wei wes wez ab ax ab_length ax cax gax) s.heap.size = A at hD ⊢
  have hA : ∀ q : Nat, s.heap.size ≤ q → A q := fun q h => by rw [← hAe]; exact Or.inr h
  clear hAe
  have hP : va_P (dC, dI) cls (wz_46 h0 aw ac h0_at h0_limit h0_sound h0_codeCount ob h0_openCount aw ab ac aw_typeCount wat wap wag aw_functionCount waf aw_hasMemory aw_pagesLeast aw_pagesMost aw_globalCount wgt wft wfv wgc aw_exportCount wek wei wes wez ab ax ab_length ax cax gax) s.heap := hP
  have hl := lv_entry ([.ref h0]) (n := 2) (Nat.le_of_ble_eq_true rfl)
  rw [lg_entry_eq]
  generalize (lg_sl ([.ref h0]) ++ List.replicate (2 - (lg_sl ([.ref h0])).length) Slot.unset).toArray = ls at hl ⊢
  have hl : lv_has ls 2 [(0, .ref h0)] := hl
  have k0 : (0 : Int32).toInt = 0 := by decide
  refine w_gen (A := A) hP (fun H locs hP hS => ?_)
  have k1 : (1 : Int32).toInt = 1 := by decide
  have th0_sound := b01 b_h0_sound
  refine lv_aload_n hx hb d_RE_readFlag_0 rfl (lv_at hl 0 rfl) ?_
  have hPc := hP.sb (wq := (wz_46 h0 aw ac h0_at h0_limit h0_sound h0_codeCount ob h0_openCount aw ab ac aw_typeCount wat wap wag aw_functionCount waf aw_hasMemory aw_pagesLeast aw_pagesMost aw_globalCount wgt wft wfv wgc aw_exportCount wek wei wes wez ab ax ab_length ax cax gax)) [0, 1, 2, 3] rfl
  have hDc := hD.sb (wq := (wz_46 h0 aw ac h0_at h0_limit h0_sound h0_codeCount ob h0_openCount aw ab ac aw_typeCount wat wap wag aw_functionCount waf aw_hasMemory aw_pagesLeast aw_pagesMost aw_globalCount wgt wft wfv wgc aw_exportCount wek wei wes wez ab ax ab_length ax cax gax)) [0, 1, 2, 3] (by decide) rfl
  have hKc := hK.sb (tyq := [(cax, .byte)]) [0] rfl
  have hFc := va_free (wc := (wz_46 h0 aw ac h0_at h0_limit h0_sound h0_codeCount ob h0_openCount aw ab ac aw_typeCount wat wap wag aw_functionCount waf aw_hasMemory aw_pagesLeast aw_pagesMost aw_globalCount wgt wft wfv wgc aw_exportCount wek wei wes wez ab ax ab_length ax cax gax)) hD hS hA [0, 1, 2, 3] rfl
  refine va_calli (va_runV (As := []) (rest := []) ⟨hx, hb, hml, hown, hts⟩ (c_RE_nexty l dC dI H.size h0 aw ac ob ab wat wap wag waf wgt wft wfv wgc wek wei wes wez ax cax h0_at h0_limit h0_sound h0_codeCount h0_openCount aw_typeCount aw_functionCount aw_hasMemory aw_pagesLeast aw_pagesMost aw_globalCount aw_exportCount ab_length gax (b_h0_sound) (by (try dsimp only) <;> (first | (apply Int.le_antisymm <;> omega) | omega))) (cwV 0 hts (gV kM_RE_60 kV_RE_next kS_RE_next kI_RE kC_RE_next) rfl rfl rfl (by decide +kernel) ⟨Nat.le_of_ble_eq_true rfl, Nat.le_of_ble_eq_true rfl⟩) ⟨fun a U g mk z => by obtain ⟨z0, z1, zP, zK, zD⟩ := z; exact ⟨z0, z1, zP, va_K.moved (u := U) (U := U.calling g mk a) (Vm.Alike.refl U.vm) zK, zD⟩, va_recv hKc hPc (ci := 7) (q0 := 0) rfl rfl, fun U hU hW => ⟨rfl, by rw [hU], va_P.he hU.symm hPc, va_K.moved hW.alike hKc, hDc.weaken (fun _ _ _ _ => trivial)⟩⟩ rfl rfl hl.1 rfl (lv_room (Nat.le_of_ble_eq_true rfl)) d_RE_readFlag_1 ⟨(Nat.zero_le _), (Nat.zero_le _)⟩) hS (fun q _ h => hFc q h) hFc (fun r1 u t H1 locs ht hvm hw hB hz1 hk1 hS => ?_)
  obtain ⟨n2, n3⟩ := u
  try dsimp only at hw
  obtain ⟨br1, bn3, xr1⟩ := hw
  try clear hw
  have tn3 := b01 bn3
  obtain ⟨hP1, hK1, hD1⟩ := hB
  replace hP1 := va_P.he ht hP1
  obtain ⟨hP, hD⟩ := va_join (wr := []) (w1 := (wz_46 h0 aw ac n2 h0_limit n3 h0_codeCount ob h0_openCount aw ab ac aw_typeCount wat wap wag aw_functionCount waf aw_hasMemory aw_pagesLeast aw_pagesMost aw_globalCount wgt wft wfv wgc aw_exportCount wek wei wes wez ab ax ab_length ax cax gax)) hP hD [0, 1, 2, 3] [] rfl rfl (by decide) (by decide) hk1 hFc hP1 hD1
  clear hPc hDc hKc hFc hz1 hk1 hP1 hK1 hD1
  rename Heap => H
  have hP : va_P (dC, dI) cls (wz_46 h0 aw ac n2 h0_limit n3 h0_codeCount ob h0_openCount aw ab ac aw_typeCount wat wap wag aw_functionCount waf aw_hasMemory aw_pagesLeast aw_pagesMost aw_globalCount wgt wft wfv wgc aw_exportCount wek wei wes wez ab ax ab_length ax cax gax) H := hP
  have hD : va_D A (wz_46 h0 aw ac n2 h0_limit n3 h0_codeCount ob h0_openCount aw ab ac aw_typeCount wat wap wag aw_functionCount waf aw_hasMemory aw_pagesLeast aw_pagesMost aw_globalCount wgt wft wfv wgc aw_exportCount wek wei wes wez ab ax ab_length ax cax gax) := hD
  refine lv_istore_n (lv' := [(1, .int r1), (0, .ref h0)]) hx hb d_RE_readFlag_4 rfl hl (by decide) rfl (fun ls hl => ?_)
  refine lv_aload_n hx hb d_RE_readFlag_5 rfl (lv_at hl 1 rfl) ?_
  refine lv_aload_n hx hb d_RE_readFlag_6 rfl (lv_at hl 1 rfl) ?_
  refine va_get (D := (dC, dI)) (ci := 7) (v := .int n3) (C := R_RE) (T := F_RE) (N := 8) hx hb hts i_RE hown hK hP 0 rfl rfl 4 (by decide) (hts _ kF_RE_45) (fun _ h9 => h9) rfl d_RE_readFlag_7 ?_
  refine w_cut (pc2 := 23) (σ := Int32) (fun u H locs ls => match u with | j23_s0 => (j23_s0 = 0 ∨ j23_s0 = 1) ∧ ((j23_s0.toInt = 1 ∧ n3.toInt = 1 ∧ r1.toInt ≤ 1) ∨ (j23_s0.toInt = 0 ∧ ¬ (n3.toInt = 1 ∧ r1.toInt ≤ 1))) ∧ va_P (dC, dI) cls (wz_46 h0 aw ac n2 h0_limit n3 h0_codeCount ob h0_openCount aw ab ac aw_typeCount wat wap wag aw_functionCount waf aw_hasMemory aw_pagesLeast aw_pagesMost aw_globalCount wgt wft wfv wgc aw_exportCount wek wei wes wez ab ax ab_length ax cax gax) H ∧ va_D A (wz_46 h0 aw ac n2 h0_limit n3 h0_codeCount ob h0_openCount aw ab ac aw_typeCount wat wap wag aw_functionCount waf aw_hasMemory aw_pagesLeast aw_pagesMost aw_globalCount wgt wft wfv wgc aw_exportCount wek wei wes wez ab ax ab_length ax cax gax) ∧ va_S A s.heap H locs ∧ lv_has ls 2 [(1, .int r1)]) (fun u => match u with | j23_s0 => [.int j23_s0, .ref h0]) ?_ (fun jn23 => ?_)
  · intro u H locs ls hI
    obtain ⟨j23_s0, rfl⟩ : ∃ z, z = u := ⟨_, rfl⟩
    obtain ⟨b_j23_s0, y23, hP, hD, hS, hl⟩ := hI
    have tj23_s0 := b01 b_j23_s0
    refine va_put (D := (dC, dI)) (ci := 7) (v := .int j23_s0) (ty := .boolean) (C := R_RE) (T := F_RE) (N := 8) hx hb hts i_RE t_RE t_RE_ok n_RE hown hK hP hD hS 0 rfl rfl 4 (by decide) (hts _ kF_RE_45) (fun _ h9 => h9) rfl (by decide +kernel) (zn01 (b_j23_s0)) (fz01 (b_j23_s0)) (Nat.le_of_ble_eq_true rfl) d_RE_readFlag_23 (fun H locs hP hD hS => ?_)
    refine lv_iload_n hx hb d_RE_readFlag_26 rfl (lv_at hl 0 rfl) ?_
    have hP9 := hP.sb (wq := (wz_46 h0 aw ac n2 h0_limit j23_s0 h0_codeCount ob h0_openCount aw ab ac aw_typeCount wat wap wag aw_functionCount waf aw_hasMemory aw_pagesLeast aw_pagesMost aw_globalCount wgt wft wfv wgc aw_exportCount wek wei wes wez ab ax ab_length ax cax gax)) [0, 1, 2, 3] rfl
    have hD9 := hD.sb (wq := (wz_46 h0 aw ac n2 h0_limit j23_s0 h0_codeCount ob h0_openCount aw ab ac aw_typeCount wat wap wag aw_functionCount waf aw_hasMemory aw_pagesLeast aw_pagesMost aw_globalCount wgt wft wfv wgc aw_exportCount wek wei wes wez ab ax ab_length ax cax gax)) [0, 1, 2, 3] (by decide) rfl
    exact W.iret (v := r1) hx hb hr (fun t ht hW => ⟨⟨r1, (n2, j23_s0), rfl, ⟨br1, b_j23_s0, ⟨⟨by (try dsimp only) <;> (first | (apply Int.le_antisymm <;> omega) | omega), by (try dsimp only) <;> (first | (apply Int.le_antisymm <;> omega) | omega)⟩, fl_z xr1.2 (by (first | (apply Int.le_antisymm <;> omega) | omega)) (by (first | (apply Int.le_antisymm <;> omega) | omega)) y23⟩⟩, va_P.he ht.symm hP9, va_K.moved hW.alike hK, hD9⟩, hS.F ht⟩) hS.2.2 d_RE_readFlag_27
  · skip
    refine w_cut (pc2 := 22) (σ := Unit) (fun u H locs ls => match u with | _ => (¬ (n3.toInt = 1 ∧ r1.toInt ≤ 1)) ∧ va_P (dC, dI) cls (wz_46 h0 aw ac n2 h0_limit n3 h0_codeCount ob h0_openCount aw ab ac aw_typeCount wat wap wag aw_functionCount waf aw_hasMemory aw_pagesLeast aw_pagesMost aw_globalCount wgt wft wfv wgc aw_exportCount wek wei wes wez ab ax ab_length ax cax gax) H ∧ va_D A (wz_46 h0 aw ac n2 h0_limit n3 h0_codeCount ob h0_openCount aw ab ac aw_typeCount wat wap wag aw_functionCount waf aw_hasMemory aw_pagesLeast aw_pagesMost aw_globalCount wgt wft wfv wgc aw_exportCount wek wei wes wez ab ax ab_length ax cax gax) ∧ va_S A s.heap H locs ∧ lv_has ls 2 [(1, .int r1)]) (fun u => match u with | _ => [.ref h0]) ?_ (fun jn22 => ?_)
    · intro u H locs ls hI
      obtain ⟨y22, hP, hD, hS, hl⟩ := hI
      refine lv_iconst (v := 0) hx hb d_RE_readFlag_22 (by decide) ?_
      exact jn23 0 _ _ _ ⟨Or.inl rfl, by (try dsimp only) <;> (first | (apply Int.le_antisymm <;> omega) | omega), hP, hD, hS, lv_sub hl [0] rfl⟩
    · skip
      refine lv_if_eq (tgt := 22) hx hb d_RE_readFlag_10 (by decide) (fun c10 => ?_) (fun c10 => ?_)
      · have q10 := eqI c10
        exact jn22 () _ _ _ ⟨by (try dsimp only) <;> (first | (apply Int.le_antisymm <;> omega) | omega), hP, hD, hS, lv_sub hl [0] rfl⟩
      · have q10 := neI c10
        refine lv_iload_n hx hb d_RE_readFlag_13 rfl (lv_at hl 0 rfl) ?_
        refine lv_iconst (v := 1) hx hb d_RE_readFlag_14 (by decide) ?_
        refine lv_icmp_gt (tgt := 22) hx hb d_RE_readFlag_15 (by decide) (fun c15 => ?_) (fun c15 => ?_)
        · have q15 := ltI c15
          exact jn22 () _ _ _ ⟨by (try dsimp only) <;> (first | (apply Int.le_antisymm <;> omega) | omega), hP, hD, hS, lv_sub hl [0] rfl⟩
        · have q15 := nltI c15
          refine lv_iconst (v := 1) hx hb d_RE_readFlag_18 (by decide) ?_
          refine lv_goto (tgt := 23) hx hb d_RE_readFlag_19 (by decide) ?_
          exact jn23 1 _ _ _ ⟨Or.inr rfl, by (try dsimp only) <;> (first | (apply Int.le_antisymm <;> omega) | omega), hP, hD, hS, lv_sub hl [0] rfl⟩
abbrev at_RE_expecty (dC : Nat → ClassId) (dI : Nat → Nat → Nat) (h0 aw ac ob ab wat wap wag waf wgt wft wfv wgc wek wei wes wez ax : Nat) (cax : ClassId) (h0_limit : Int32) (h0_codeCount : Int32) (h0_openCount : Int32) (aw_typeCount : Int32) (aw_functionCount : Int32) (aw_hasMemory : Int32) (aw_pagesLeast : Int64) (aw_pagesMost : Int64) (aw_globalCount : Int32) (aw_exportCount : Int32) (ab_length : Int32) (gax : Nat → Int32) (A : Nat → Prop) (u : Int32 × Int32) (t : State) : Prop := match u with | (h0_at, h0_sound) => va_P (dC, dI) cls (wz_46 h0 aw ac h0_at h0_limit h0_sound h0_codeCount ob h0_openCount aw ab ac aw_typeCount wat wap wag aw_functionCount waf aw_hasMemory aw_pagesLeast aw_pagesMost aw_globalCount wgt wft wfv wgc aw_exportCount wek wei wes wez ab ax ab_length ax cax gax) t.heap ∧ va_K (dC, dI) cls [(cax, .byte)] t ∧ va_D A (wz_46 h0 aw ac h0_at h0_limit h0_sound h0_codeCount ob h0_openCount aw ab ac aw_typeCount wat wap wag aw_functionCount waf aw_hasMemory aw_pagesLeast aw_pagesMost aw_globalCount wgt wft wfv wgc aw_exportCount wek wei wes wez ab ax ab_length ax cax gax)
set_option maxHeartbeats 4000000 in
set_option maxRecDepth 100000 in
theorem c_RE_expecty (l : Launch) (dC : Nat → ClassId) (dI : Nat → Nat → Nat) (sz : Nat) (h0 aw ac ob ab wat wap wag waf wgt wft wfv wgc wek wei wes wez ax : Nat) (cax : ClassId) (h0_at : Int32) (h0_limit : Int32) (h0_sound : Int32) (h0_codeCount : Int32) (h0_openCount : Int32) (aw_typeCount : Int32) (aw_functionCount : Int32) (aw_hasMemory : Int32) (aw_pagesLeast : Int64) (aw_pagesMost : Int64) (aw_globalCount : Int32) (aw_exportCount : Int32) (ab_length : Int32) (gax : Nat → Int32)  (b_h0_sound : h0_sound = 0 ∨ h0_sound = 1) (p0 : Int32)  (ha : 0 ≤ h0_at.toInt ∧ h0_at.toInt ≤ h0_limit.toInt ∧ h0_limit.toInt ≤ ab_length.toInt ∧ ab_length.toInt ≤ 8192) (hp : 0 ≤ p0.toInt) : Met l y_RE_expect w_RE_expect ({ frames := 1, cells := 0, slots := 0, locals := 20 }) (va_Pc [.ref h0, .int p0] (fun U => U.heap.size = sz ∧ va_P (dC, dI) cls (wz_46 h0 aw ac h0_at h0_limit h0_sound h0_codeCount ob h0_openCount aw ab ac aw_typeCount wat wap wag aw_functionCount waf aw_hasMemory aw_pagesLeast aw_pagesMost aw_globalCount wgt wft wfv wgc aw_exportCount wek wei wes wez ab ax ab_length ax cax gax) U.heap ∧ va_K (dC, dI) cls [(cax, .byte)] U ∧ va_D (fun _ => True) (wz_46 h0 aw ac h0_at h0_limit h0_sound h0_codeCount ob h0_openCount aw ab ac aw_typeCount wat wap wag aw_functionCount waf aw_hasMemory aw_pagesLeast aw_pagesMost aw_globalCount wgt wft wfv wgc aw_exportCount wek wei wes wez ab ax ab_length ax cax gax))) (va_Qv (fun (u : Int32 × Int32) => match u with | (h0_at2, h0_sound2) => (h0_sound2 = 0 ∨ h0_sound2 = 1) ∧ ((h0_at.toInt ≤ h0_at2.toInt ∧ h0_at2.toInt ≤ h0_limit.toInt) ∧ rp (zE gax h0_limit.toNatClampNeg p0.toInt.toNat h0_at.toNatClampNeg) h0_sound h0_sound2 h0_at2)) (at_RE_expecty dC dI h0 aw ac ob ab wat wap wag waf wgt wft wfv wgc wek wei wes wez ax cax h0_limit h0_codeCount h0_openCount aw_typeCount aw_functionCount aw_hasMemory aw_pagesLeast aw_pagesMost aw_globalCount aw_exportCount ab_length gax (va_A (wz_46 h0 aw ac h0_at h0_limit h0_sound h0_codeCount ob h0_openCount aw ab ac aw_typeCount wat wap wag aw_functionCount waf aw_hasMemory aw_pagesLeast aw_pagesMost aw_globalCount wgt wft wfv wgc aw_exportCount wek wei wes wez ab ax ab_length ax cax gax) sz)) (va_A (wz_46 h0 aw ac h0_at h0_limit h0_sound h0_codeCount ob h0_openCount aw ab ac aw_typeCount wat wap wag aw_functionCount waf aw_hasMemory aw_pagesLeast aw_pagesMost aw_globalCount wgt wft wfv wgc aw_exportCount wek wei wes wez ab ax ab_length ax cax gax) sz)) 0 0 (va_A (wz_46 h0 aw ac h0_at h0_limit h0_sound h0_codeCount ob h0_openCount aw ab ac aw_typeCount wat wap wag aw_functionCount waf aw_hasMemory aw_pagesLeast aw_pagesMost aw_globalCount wgt wft wfv wgc aw_exportCount wek wei wes wez ab ax ab_length ax cax gax) sz) := by
  refine Met.ofW (cc := b_RE_expect) (maxL := 2) (ret := none) (by decide) rfl ?_
  intro p e s m args below meth c s₁ B hml hv
  obtain ⟨rfl, hsz, hP, hK, hD0⟩ := hv
  have hx := B.exec
  have hb := B.bytes
  have hr := B.returns
  have hts0 := atoms_spec (ws := w_RE_expect) B.pre
  have hts : ∀ w ∈ lw_g, w.before _ s = true := fun w h => hts0 w (List.mem_cons_of_mem _ h)
  have hown : s.vm.findClass R_RE = some m.cls := findClass_of_methodNamed B.named
  have hlocks := B.notSynchronized
  clear hts0
  subst hsz
  have hD := hD0.self (sz := s.heap.size)
  generalize hAe : va_A (wz_46 h0 aw ac h0_at h0_limit h0_sound h0_codeCount ob h0_openCount aw ab ac aw_typeCount wat wap wag aw_functionCount waf aw_hasMemory aw_pagesLeast aw_pagesMost aw_globalCount wgt wft wfv wgc aw_exportCount wek wei wes wez ab ax ab_length ax cax gax) s.heap.size = A at hD ⊢
  have hA : ∀ q : Nat, s.heap.size ≤ q → A q := fun q h => by rw [← hAe]; exact Or.inr h
  clear hAe
  have hP : va_P (dC, dI) cls (wz_46 h0 aw ac h0_at h0_limit h0_sound h0_codeCount ob h0_openCount aw ab ac aw_typeCount wat wap wag aw_functionCount waf aw_hasMemory aw_pagesLeast aw_pagesMost aw_globalCount wgt wft wfv wgc aw_exportCount wek wei wes wez ab ax ab_length ax cax gax) s.heap := hP
  have hl := lv_entry ([.ref h0, .int p0]) (n := 2) (Nat.le_of_ble_eq_true rfl)
  rw [lg_entry_eq]
  generalize (lg_sl ([.ref h0, .int p0]) ++ List.replicate (2 - (lg_sl ([.ref h0, .int p0])).length) Slot.unset).toArray = ls at hl ⊢
  have hl : lv_has ls 2 [(0, .ref h0), (1, .int p0)] := hl
  have k0 : (0 : Int32).toInt = 0 := by decide
  refine w_gen (A := A) hP (fun H locs hP hS => ?_)
  have k1 : (1 : Int32).toInt = 1 := by decide
  have lo_p0 := i32_lo p0
  have hi_p0 := i32_hi p0
  have th0_sound := b01 b_h0_sound
  refine lv_aload_n hx hb d_RE_expect_0 rfl (lv_at hl 0 rfl) ?_
  refine lv_aload_n hx hb d_RE_expect_1 rfl (lv_at hl 0 rfl) ?_
  have hPc := hP.sb (wq := (wz_46 h0 aw ac h0_at h0_limit h0_sound h0_codeCount ob h0_openCount aw ab ac aw_typeCount wat wap wag aw_functionCount waf aw_hasMemory aw_pagesLeast aw_pagesMost aw_globalCount wgt wft wfv wgc aw_exportCount wek wei wes wez ab ax ab_length ax cax gax)) [0, 1, 2, 3] rfl
  have hDc := hD.sb (wq := (wz_46 h0 aw ac h0_at h0_limit h0_sound h0_codeCount ob h0_openCount aw ab ac aw_typeCount wat wap wag aw_functionCount waf aw_hasMemory aw_pagesLeast aw_pagesMost aw_globalCount wgt wft wfv wgc aw_exportCount wek wei wes wez ab ax ab_length ax cax gax)) [0, 1, 2, 3] (by decide) rfl
  have hKc := hK.sb (tyq := [(cax, .byte)]) [0] rfl
  have hFc := va_free (wc := (wz_46 h0 aw ac h0_at h0_limit h0_sound h0_codeCount ob h0_openCount aw ab ac aw_typeCount wat wap wag aw_functionCount waf aw_hasMemory aw_pagesLeast aw_pagesMost aw_globalCount wgt wft wfv wgc aw_exportCount wek wei wes wez ab ax ab_length ax cax gax)) hD hS hA [0, 1, 2, 3] rfl
  refine va_calli (va_runV (As := []) (rest := [.ref h0]) ⟨hx, hb, hml, hown, hts⟩ (c_RE_nexty l dC dI H.size h0 aw ac ob ab wat wap wag waf wgt wft wfv wgc wek wei wes wez ax cax h0_at h0_limit h0_sound h0_codeCount h0_openCount aw_typeCount aw_functionCount aw_hasMemory aw_pagesLeast aw_pagesMost aw_globalCount aw_exportCount ab_length gax (b_h0_sound) (by (try dsimp only) <;> (first | (apply Int.le_antisymm <;> omega) | omega))) (cwV 0 hts (gV kM_RE_60 kV_RE_next kS_RE_next kI_RE kC_RE_next) rfl rfl rfl (by decide +kernel) ⟨Nat.le_of_ble_eq_true rfl, Nat.le_of_ble_eq_true rfl⟩) ⟨fun a U g mk z => by obtain ⟨z0, z1, zP, zK, zD⟩ := z; exact ⟨z0, z1, zP, va_K.moved (u := U) (U := U.calling g mk a) (Vm.Alike.refl U.vm) zK, zD⟩, va_recv hKc hPc (ci := 7) (q0 := 0) rfl rfl, fun U hU hW => ⟨rfl, by rw [hU], va_P.he hU.symm hPc, va_K.moved hW.alike hKc, hDc.weaken (fun _ _ _ _ => trivial)⟩⟩ rfl rfl hl.1 rfl (lv_room (Nat.le_of_ble_eq_true rfl)) d_RE_expect_2 ⟨(Nat.zero_le _), (Nat.zero_le _)⟩) hS (fun q _ h => hFc q h) hFc (fun r1 u t H1 locs ht hvm hw hB hz1 hk1 hS => ?_)
  obtain ⟨n2, n3⟩ := u
  try dsimp only at hw
  obtain ⟨br1, bn3, xr1⟩ := hw
  try clear hw
  have tn3 := b01 bn3
  obtain ⟨hP1, hK1, hD1⟩ := hB
  replace hP1 := va_P.he ht hP1
  obtain ⟨hP, hD⟩ := va_join (wr := []) (w1 := (wz_46 h0 aw ac n2 h0_limit n3 h0_codeCount ob h0_openCount aw ab ac aw_typeCount wat wap wag aw_functionCount waf aw_hasMemory aw_pagesLeast aw_pagesMost aw_globalCount wgt wft wfv wgc aw_exportCount wek wei wes wez ab ax ab_length ax cax gax)) hP hD [0, 1, 2, 3] [] rfl rfl (by decide) (by decide) hk1 hFc hP1 hD1
  clear hPc hDc hKc hFc hz1 hk1 hP1 hK1 hD1
  rename Heap => H
  have hP : va_P (dC, dI) cls (wz_46 h0 aw ac n2 h0_limit n3 h0_codeCount ob h0_openCount aw ab ac aw_typeCount wat wap wag aw_functionCount waf aw_hasMemory aw_pagesLeast aw_pagesMost aw_globalCount wgt wft wfv wgc aw_exportCount wek wei wes wez ab ax ab_length ax cax gax) H := hP
  have hD : va_D A (wz_46 h0 aw ac n2 h0_limit n3 h0_codeCount ob h0_openCount aw ab ac aw_typeCount wat wap wag aw_functionCount waf aw_hasMemory aw_pagesLeast aw_pagesMost aw_globalCount wgt wft wfv wgc aw_exportCount wek wei wes wez ab ax ab_length ax cax gax) := hD
  refine lv_iload_n hx hb d_RE_expect_5 rfl (lv_at hl 1 rfl) ?_
  refine w_cut (pc2 := 21) (σ := Int32) (fun u H locs ls => match u with | j21_s0 => (j21_s0 = 0 ∨ j21_s0 = 1) ∧ ((j21_s0.toInt = 1 ∧ n3.toInt = 1 ∧ r1.toInt = p0.toInt) ∨ (j21_s0.toInt = 0 ∧ ¬ (n3.toInt = 1 ∧ r1.toInt = p0.toInt))) ∧ va_P (dC, dI) cls (wz_46 h0 aw ac n2 h0_limit n3 h0_codeCount ob h0_openCount aw ab ac aw_typeCount wat wap wag aw_functionCount waf aw_hasMemory aw_pagesLeast aw_pagesMost aw_globalCount wgt wft wfv wgc aw_exportCount wek wei wes wez ab ax ab_length ax cax gax) H ∧ va_D A (wz_46 h0 aw ac n2 h0_limit n3 h0_codeCount ob h0_openCount aw ab ac aw_typeCount wat wap wag aw_functionCount waf aw_hasMemory aw_pagesLeast aw_pagesMost aw_globalCount wgt wft wfv wgc aw_exportCount wek wei wes wez ab ax ab_length ax cax gax) ∧ va_S A s.heap H locs ∧ lv_has ls 2 []) (fun u => match u with | j21_s0 => [.int j21_s0, .ref h0]) ?_ (fun jn21 => ?_)
  · intro u H locs ls hI
    obtain ⟨j21_s0, rfl⟩ : ∃ z, z = u := ⟨_, rfl⟩
    obtain ⟨b_j21_s0, y21, hP, hD, hS, hl⟩ := hI
    have tj21_s0 := b01 b_j21_s0
    refine va_put (D := (dC, dI)) (ci := 7) (v := .int j21_s0) (ty := .boolean) (C := R_RE) (T := F_RE) (N := 8) hx hb hts i_RE t_RE t_RE_ok n_RE hown hK hP hD hS 0 rfl rfl 4 (by decide) (hts _ kF_RE_45) (fun _ h9 => h9) rfl (by decide +kernel) (zn01 (b_j21_s0)) (fz01 (b_j21_s0)) (Nat.le_of_ble_eq_true rfl) d_RE_expect_21 (fun H locs hP hD hS => ?_)
    have hP9 := hP.sb (wq := (wz_46 h0 aw ac n2 h0_limit j21_s0 h0_codeCount ob h0_openCount aw ab ac aw_typeCount wat wap wag aw_functionCount waf aw_hasMemory aw_pagesLeast aw_pagesMost aw_globalCount wgt wft wfv wgc aw_exportCount wek wei wes wez ab ax ab_length ax cax gax)) [0, 1, 2, 3] rfl
    have hD9 := hD.sb (wq := (wz_46 h0 aw ac n2 h0_limit j21_s0 h0_codeCount ob h0_openCount aw ab ac aw_typeCount wat wap wag aw_functionCount waf aw_hasMemory aw_pagesLeast aw_pagesMost aw_globalCount wgt wft wfv wgc aw_exportCount wek wei wes wez ab ax ab_length ax cax gax)) [0, 1, 2, 3] (by decide) rfl
    exact W.vret hx hb hr (fun t ht hW => ⟨⟨(n2, j21_s0), rfl, ⟨b_j21_s0, ⟨⟨by (try dsimp only) <;> (first | (apply Int.le_antisymm <;> omega) | omega), by (try dsimp only) <;> (first | (apply Int.le_antisymm <;> omega) | omega)⟩, ex_z xr1.2 (by (first | (apply Int.le_antisymm <;> omega) | omega)) (by (first | (apply Int.le_antisymm <;> omega) | omega)) hp y21⟩⟩, va_P.he ht.symm hP9, va_K.moved hW.alike hK, hD9⟩, hS.F ht⟩) hS.2.2 d_RE_expect_24
  · skip
    refine w_cut (pc2 := 20) (σ := Unit) (fun u H locs ls => match u with | _ => (¬ (n3.toInt = 1 ∧ r1.toInt = p0.toInt)) ∧ va_P (dC, dI) cls (wz_46 h0 aw ac n2 h0_limit n3 h0_codeCount ob h0_openCount aw ab ac aw_typeCount wat wap wag aw_functionCount waf aw_hasMemory aw_pagesLeast aw_pagesMost aw_globalCount wgt wft wfv wgc aw_exportCount wek wei wes wez ab ax ab_length ax cax gax) H ∧ va_D A (wz_46 h0 aw ac n2 h0_limit n3 h0_codeCount ob h0_openCount aw ab ac aw_typeCount wat wap wag aw_functionCount waf aw_hasMemory aw_pagesLeast aw_pagesMost aw_globalCount wgt wft wfv wgc aw_exportCount wek wei wes wez ab ax ab_length ax cax gax) ∧ va_S A s.heap H locs ∧ lv_has ls 2 []) (fun u => match u with | _ => [.ref h0]) ?_ (fun jn20 => ?_)
    · intro u H locs ls hI
      obtain ⟨y20, hP, hD, hS, hl⟩ := hI
      refine lv_iconst (v := 0) hx hb d_RE_expect_20 (by decide) ?_
      exact jn21 0 _ _ _ ⟨Or.inl rfl, by (try dsimp only) <;> (first | (apply Int.le_antisymm <;> omega) | omega), hP, hD, hS, lv_sub hl [] rfl⟩
    · skip
      refine lv_icmp_ne (tgt := 20) hx hb d_RE_expect_6 (by decide) (fun c6 => ?_) (fun c6 => ?_)
      · have q6 := neI c6
        exact jn20 () _ _ _ ⟨by (try dsimp only) <;> (first | (apply Int.le_antisymm <;> omega) | omega), hP, hD, hS, lv_sub hl [] rfl⟩
      · have q6 := eqI c6
        refine lv_aload_n hx hb d_RE_expect_9 rfl (lv_at hl 0 rfl) ?_
        refine va_get (D := (dC, dI)) (ci := 7) (v := .int n3) (C := R_RE) (T := F_RE) (N := 8) hx hb hts i_RE hown hK hP 0 rfl rfl 4 (by decide) (hts _ kF_RE_45) (fun _ h9 => h9) rfl d_RE_expect_10 ?_
        refine lv_if_eq (tgt := 20) hx hb d_RE_expect_13 (by decide) (fun c13 => ?_) (fun c13 => ?_)
        · have q13 := eqI c13
          exact jn20 () _ _ _ ⟨by (try dsimp only) <;> (first | (apply Int.le_antisymm <;> omega) | omega), hP, hD, hS, lv_sub hl [] rfl⟩
        · have q13 := neI c13
          refine lv_iconst (v := 1) hx hb d_RE_expect_16 (by decide) ?_
          refine lv_goto (tgt := 21) hx hb d_RE_expect_17 (by decide) ?_
          exact jn21 1 _ _ _ ⟨Or.inr rfl, by (try dsimp only) <;> (first | (apply Int.le_antisymm <;> omega) | omega), hP, hD, hS, lv_sub hl [] rfl⟩
abbrev at_RE_readUnsignedy (dC : Nat → ClassId) (dI : Nat → Nat → Nat) (h0 aw ac ob ab wat wap wag waf wgt wft wfv wgc wek wei wes wez ax : Nat) (cax : ClassId) (h0_limit : Int32) (h0_codeCount : Int32) (h0_openCount : Int32) (aw_typeCount : Int32) (aw_functionCount : Int32) (aw_hasMemory : Int32) (aw_pagesLeast : Int64) (aw_pagesMost : Int64) (aw_globalCount : Int32) (aw_exportCount : Int32) (ab_length : Int32) (gax : Nat → Int32) (A : Nat → Prop) (u : Int32 × Int32) (t : State) : Prop := match u with | (h0_at, h0_sound) => va_P (dC, dI) cls (wz_46 h0 aw ac h0_at h0_limit h0_sound h0_codeCount ob h0_openCount aw ab ac aw_typeCount wat wap wag aw_functionCount waf aw_hasMemory aw_pagesLeast aw_pagesMost aw_globalCount wgt wft wfv wgc aw_exportCount wek wei wes wez ab ax ab_length ax cax gax) t.heap ∧ va_K (dC, dI) cls [(cax, .byte)] t ∧ va_D A (wz_46 h0 aw ac h0_at h0_limit h0_sound h0_codeCount ob h0_openCount aw ab ac aw_typeCount wat wap wag aw_functionCount waf aw_hasMemory aw_pagesLeast aw_pagesMost aw_globalCount wgt wft wfv wgc aw_exportCount wek wei wes wez ab ax ab_length ax cax gax)
set_option maxHeartbeats 4000000 in
set_option maxRecDepth 100000 in
theorem c_RE_readUnsignedy (l : Launch) (dC : Nat → ClassId) (dI : Nat → Nat → Nat) (sz : Nat) (h0 aw ac ob ab wat wap wag waf wgt wft wfv wgc wek wei wes wez ax : Nat) (cax : ClassId) (h0_at : Int32) (h0_limit : Int32) (h0_sound : Int32) (h0_codeCount : Int32) (h0_openCount : Int32) (aw_typeCount : Int32) (aw_functionCount : Int32) (aw_hasMemory : Int32) (aw_pagesLeast : Int64) (aw_pagesMost : Int64) (aw_globalCount : Int32) (aw_exportCount : Int32) (ab_length : Int32) (gax : Nat → Int32)  (b_h0_sound : h0_sound = 0 ∨ h0_sound = 1) (p0 : Int64)  (ha : 0 ≤ h0_at.toInt ∧ h0_at.toInt ≤ h0_limit.toInt ∧ h0_limit.toInt ≤ ab_length.toInt ∧ ab_length.toInt ≤ 8192) (hm : 0 ≤ p0.toInt) : Met l y_RE_readUnsigned w_RE_readUnsigned ({ frames := 1, cells := 0, slots := 0, locals := 20 }) (va_Pc [.ref h0, .long p0] (fun U => U.heap.size = sz ∧ va_P (dC, dI) cls (wz_46 h0 aw ac h0_at h0_limit h0_sound h0_codeCount ob h0_openCount aw ab ac aw_typeCount wat wap wag aw_functionCount waf aw_hasMemory aw_pagesLeast aw_pagesMost aw_globalCount wgt wft wfv wgc aw_exportCount wek wei wes wez ab ax ab_length ax cax gax) U.heap ∧ va_K (dC, dI) cls [(cax, .byte)] U ∧ va_D (fun _ => True) (wz_46 h0 aw ac h0_at h0_limit h0_sound h0_codeCount ob h0_openCount aw ab ac aw_typeCount wat wap wag aw_functionCount waf aw_hasMemory aw_pagesLeast aw_pagesMost aw_globalCount wgt wft wfv wgc aw_exportCount wek wei wes wez ab ax ab_length ax cax gax))) (va_Ql (fun (r : Int64) (u : Int32 × Int32) => match u with | (h0_at2, h0_sound2) => (h0_sound2 = 0 ∨ h0_sound2 = 1) ∧ (((h0_at.toInt ≤ h0_at2.toInt ∧ h0_at2.toInt ≤ h0_limit.toInt) ∧ 0 ≤ r.toInt ∧ r.toInt ≤ p0.toInt) ∧ rz (zM gax h0_limit.toNatClampNeg p0.toInt.toNat h0_at.toNatClampNeg) h0_sound h0_sound2 h0_at2 r.toInt)) (at_RE_readUnsignedy dC dI h0 aw ac ob ab wat wap wag waf wgt wft wfv wgc wek wei wes wez ax cax h0_limit h0_codeCount h0_openCount aw_typeCount aw_functionCount aw_hasMemory aw_pagesLeast aw_pagesMost aw_globalCount aw_exportCount ab_length gax (va_A (wz_46 h0 aw ac h0_at h0_limit h0_sound h0_codeCount ob h0_openCount aw ab ac aw_typeCount wat wap wag aw_functionCount waf aw_hasMemory aw_pagesLeast aw_pagesMost aw_globalCount wgt wft wfv wgc aw_exportCount wek wei wes wez ab ax ab_length ax cax gax) sz)) (va_A (wz_46 h0 aw ac h0_at h0_limit h0_sound h0_codeCount ob h0_openCount aw ab ac aw_typeCount wat wap wag aw_functionCount waf aw_hasMemory aw_pagesLeast aw_pagesMost aw_globalCount wgt wft wfv wgc aw_exportCount wek wei wes wez ab ax ab_length ax cax gax) sz)) 0 0 (va_A (wz_46 h0 aw ac h0_at h0_limit h0_sound h0_codeCount ob h0_openCount aw ab ac aw_typeCount wat wap wag aw_functionCount waf aw_hasMemory aw_pagesLeast aw_pagesMost aw_globalCount wgt wft wfv wgc aw_exportCount wek wei wes wez ab ax ab_length ax cax gax) sz) := by
  refine Met.ofW (cc := b_RE_readUnsigned) (maxL := 7) (ret := (Option.some .long)) (by decide) rfl ?_
  intro p e s m args below meth c s₁ B hml hv
  obtain ⟨rfl, hsz, hP, hK, hD0⟩ := hv
  have hx := B.exec
  have hb := B.bytes
  have hr := B.returns
  have hts0 := atoms_spec (ws := w_RE_readUnsigned) B.pre
  have hts : ∀ w ∈ lw_g, w.before _ s = true := fun w h => hts0 w (List.mem_cons_of_mem _ h)
  have hown : s.vm.findClass R_RE = some m.cls := findClass_of_methodNamed B.named
  have hlocks := B.notSynchronized
  clear hts0
  subst hsz
  have hD := hD0.self (sz := s.heap.size)
  generalize hAe : va_A (wz_46 h0 aw ac h0_at h0_limit h0_sound h0_codeCount ob h0_openCount aw ab ac aw_typeCount wat wap wag aw_functionCount waf aw_hasMemory aw_pagesLeast aw_pagesMost aw_globalCount wgt wft wfv wgc aw_exportCount wek wei wes wez ab ax ab_length ax cax gax) s.heap.size = A at hD ⊢
  have hA : ∀ q : Nat, s.heap.size ≤ q → A q := fun q h => by rw [← hAe]; exact Or.inr h
  clear hAe
  have hP : va_P (dC, dI) cls (wz_46 h0 aw ac h0_at h0_limit h0_sound h0_codeCount ob h0_openCount aw ab ac aw_typeCount wat wap wag aw_functionCount waf aw_hasMemory aw_pagesLeast aw_pagesMost aw_globalCount wgt wft wfv wgc aw_exportCount wek wei wes wez ab ax ab_length ax cax gax) s.heap := hP
  have hl := lv_entry ([.ref h0, .long p0]) (n := 7) (Nat.le_of_ble_eq_true rfl)
  rw [lg_entry_eq]
  generalize (lg_sl ([.ref h0, .long p0]) ++ List.replicate (7 - (lg_sl ([.ref h0, .long p0])).length) Slot.unset).toArray = ls at hl ⊢
  have hl : lv_has ls 7 [(0, .ref h0), (1, .long p0)] := hl
  have k0 : (0 : Int32).toInt = 0 := by decide
  refine w_gen (A := A) hP (fun H locs hP hS => ?_)
  have k1 : (1 : Int32).toInt = 1 := by decide
  have k7 : (7 : Int32).toInt = 7 := by decide
  have k35 : (35 : Int32).toInt = 35 := by decide
  have k127 : (127 : Int32).toInt = 127 := by decide
  have k128 : (128 : Int32).toInt = 128 := by decide
  have th0_sound := b01 b_h0_sound
  refine lv_lconst (v := 0) hx hb d_RE_readUnsigned_0 (by decide) ?_
  have kl0 : (0 : Int64).toInt = 0 := by decide
  refine lv_lstore_n (lv' := [(3, .long 0), (0, .ref h0), (1, .long p0)]) hx hb d_RE_readUnsigned_1 rfl hl (by decide) rfl (fun ls hl => ?_)
  refine lv_iconst (v := 0) hx hb d_RE_readUnsigned_2 (by decide) ?_
  refine lv_istore (lv' := [(5, .int 0), (3, .long 0), (0, .ref h0), (1, .long p0)]) hx hb d_RE_readUnsigned_3 hl (by decide) rfl (fun ls hl => ?_)
  refine w_loop (σ := Int64 × Int32 × Int32 × Int32) (fun u H locs ls => match u with | (j5_l3, j5_l5, j5_h0_at, j5_h0_sound) => (0 ≤ j5_l5.toInt ∧ j5_l5.toInt ≤ 35) ∧ (j5_h0_sound = 0 ∨ j5_h0_sound = 1) ∧ (uz gax h0_sound h0_at h0_limit j5_h0_sound j5_h0_at j5_l5.toInt j5_l3.toInt) ∧ ((h0_at.toInt ≤ j5_h0_at.toInt ∧ j5_h0_at.toInt ≤ h0_limit.toInt)) ∧ (j5_l5.toInt % 7 = 0) ∧ va_P (dC, dI) cls (wz_46 h0 aw ac j5_h0_at h0_limit j5_h0_sound h0_codeCount ob h0_openCount aw ab ac aw_typeCount wat wap wag aw_functionCount waf aw_hasMemory aw_pagesLeast aw_pagesMost aw_globalCount wgt wft wfv wgc aw_exportCount wek wei wes wez ab ax ab_length ax cax gax) H ∧ va_D A (wz_46 h0 aw ac j5_h0_at h0_limit j5_h0_sound h0_codeCount ob h0_openCount aw ab ac aw_typeCount wat wap wag aw_functionCount waf aw_hasMemory aw_pagesLeast aw_pagesMost aw_globalCount wgt wft wfv wgc aw_exportCount wek wei wes wez ab ax ab_length ax cax gax) ∧ va_S A s.heap H locs ∧ lv_has ls 7 [(0, .ref h0), (1, .long p0), (3, .long j5_l3), (5, .int j5_l5)]) (fun u => match u with | (j5_l3, j5_l5, j5_h0_at, j5_h0_sound) => (35 - j5_l5.toInt).toNat) ?_ (0, 0, h0_at, h0_sound) ⟨by (try dsimp only) <;> (first | (apply Int.le_antisymm <;> omega) | omega), b_h0_sound, uz_0 th0_sound (by decide) (by decide), by (try dsimp only) <;> (first | (apply Int.le_antisymm <;> omega) | omega), by (try dsimp only) <;> (first | (apply Int.le_antisymm <;> omega) | omega), hP, hD, hS, lv_sub hl [2, 3, 1, 0] rfl⟩
  intro N5 ih5 u H locs ls hN5 hI
  obtain ⟨j5_l3, j5_l5, j5_h0_at, j5_h0_sound⟩ := u
  obtain ⟨b_j5_l5, b_j5_h0_sound, v1, v2, v3, hP, hD, hS, hl⟩ := hI
  have tj5_h0_sound := b01 b_j5_h0_sound
  have hN5 : (35 - j5_l5.toInt).toNat < N5 + 1 := hN5
  refine lv_iload hx hb d_RE_readUnsigned_5 (lv_at hl 3 rfl) ?_
  refine lv_bipush (v := 35) hx hb d_RE_readUnsigned_7 (by decide) ?_
  refine lv_icmp_ge (tgt := 79) hx hb d_RE_readUnsigned_9 (by decide) (fun c9 => ?_) (fun c9 => ?_)
  · have q9 := leI c9
    refine lv_aload_n hx hb d_RE_readUnsigned_79 rfl (lv_at hl 0 rfl) ?_
    refine lv_iconst (v := 0) hx hb d_RE_readUnsigned_80 (by decide) ?_
    refine va_put (D := (dC, dI)) (ci := 7) (v := .int 0) (ty := .boolean) (C := R_RE) (T := F_RE) (N := 8) hx hb hts i_RE t_RE t_RE_ok n_RE hown hK hP hD hS 0 rfl rfl 4 (by decide) (hts _ kF_RE_45) (fun _ h9 => h9) rfl (by decide +kernel) rfl rfl (Nat.le_of_ble_eq_true rfl) d_RE_readUnsigned_81 (fun H locs hP hD hS => ?_)
    refine lv_lconst (v := 0) hx hb d_RE_readUnsigned_84 (by decide) ?_
    have kl0 : (0 : Int64).toInt = 0 := by decide
    have hP9 := hP.sb (wq := (wz_46 h0 aw ac j5_h0_at h0_limit 0 h0_codeCount ob h0_openCount aw ab ac aw_typeCount wat wap wag aw_functionCount waf aw_hasMemory aw_pagesLeast aw_pagesMost aw_globalCount wgt wft wfv wgc aw_exportCount wek wei wes wez ab ax ab_length ax cax gax)) [0, 1, 2, 3] rfl
    have hD9 := hD.sb (wq := (wz_46 h0 aw ac j5_h0_at h0_limit 0 h0_codeCount ob h0_openCount aw ab ac aw_typeCount wat wap wag aw_functionCount waf aw_hasMemory aw_pagesLeast aw_pagesMost aw_globalCount wgt wft wfv wgc aw_exportCount wek wei wes wez ab ax ab_length ax cax gax)) [0, 1, 2, 3] (by decide) rfl
    exact W.lret (v := 0) hx hb hr (fun t ht hW => ⟨⟨0, (j5_h0_at, 0), rfl, ⟨Or.inl rfl, ⟨⟨⟨by (try dsimp only) <;> (first | (apply Int.le_antisymm <;> omega) | omega), by (try dsimp only) <;> (first | (apply Int.le_antisymm <;> omega) | omega)⟩, by (try dsimp only) <;> (first | (apply Int.le_antisymm <;> omega) | omega), by (try dsimp only) <;> (first | (apply Int.le_antisymm <;> omega) | omega)⟩, um_n (uz_end v1 (by (first | (apply Int.le_antisymm <;> omega) | omega))) (by decide)⟩⟩, va_P.he ht.symm hP9, va_K.moved hW.alike hK, hD9⟩, hS.F ht⟩) hS.2.2 d_RE_readUnsigned_85
  · have q9 := nleI c9
    refine lv_aload_n hx hb d_RE_readUnsigned_12 rfl (lv_at hl 0 rfl) ?_
    have hPc := hP.sb (wq := (wz_46 h0 aw ac j5_h0_at h0_limit j5_h0_sound h0_codeCount ob h0_openCount aw ab ac aw_typeCount wat wap wag aw_functionCount waf aw_hasMemory aw_pagesLeast aw_pagesMost aw_globalCount wgt wft wfv wgc aw_exportCount wek wei wes wez ab ax ab_length ax cax gax)) [0, 1, 2, 3] rfl
    have hDc := hD.sb (wq := (wz_46 h0 aw ac j5_h0_at h0_limit j5_h0_sound h0_codeCount ob h0_openCount aw ab ac aw_typeCount wat wap wag aw_functionCount waf aw_hasMemory aw_pagesLeast aw_pagesMost aw_globalCount wgt wft wfv wgc aw_exportCount wek wei wes wez ab ax ab_length ax cax gax)) [0, 1, 2, 3] (by decide) rfl
    have hKc := hK.sb (tyq := [(cax, .byte)]) [0] rfl
    have hFc := va_free (wc := (wz_46 h0 aw ac j5_h0_at h0_limit j5_h0_sound h0_codeCount ob h0_openCount aw ab ac aw_typeCount wat wap wag aw_functionCount waf aw_hasMemory aw_pagesLeast aw_pagesMost aw_globalCount wgt wft wfv wgc aw_exportCount wek wei wes wez ab ax ab_length ax cax gax)) hD hS hA [0, 1, 2, 3] rfl
    refine va_calli (va_runV (As := []) (rest := []) ⟨hx, hb, hml, hown, hts⟩ (c_RE_nexty l dC dI H.size h0 aw ac ob ab wat wap wag waf wgt wft wfv wgc wek wei wes wez ax cax j5_h0_at h0_limit j5_h0_sound h0_codeCount h0_openCount aw_typeCount aw_functionCount aw_hasMemory aw_pagesLeast aw_pagesMost aw_globalCount aw_exportCount ab_length gax (b_j5_h0_sound) (by (try dsimp only) <;> (first | (apply Int.le_antisymm <;> omega) | omega))) (cwV 0 hts (gV kM_RE_60 kV_RE_next kS_RE_next kI_RE kC_RE_next) rfl rfl rfl (by decide +kernel) ⟨Nat.le_of_ble_eq_true rfl, Nat.le_of_ble_eq_true rfl⟩) ⟨fun a U g mk z => by obtain ⟨z0, z1, zP, zK, zD⟩ := z; exact ⟨z0, z1, zP, va_K.moved (u := U) (U := U.calling g mk a) (Vm.Alike.refl U.vm) zK, zD⟩, va_recv hKc hPc (ci := 7) (q0 := 0) rfl rfl, fun U hU hW => ⟨rfl, by rw [hU], va_P.he hU.symm hPc, va_K.moved hW.alike hKc, hDc.weaken (fun _ _ _ _ => trivial)⟩⟩ rfl rfl hl.1 rfl (lv_room (Nat.le_of_ble_eq_true rfl)) d_RE_readUnsigned_13 ⟨(Nat.zero_le _), (Nat.zero_le _)⟩) hS (fun q _ h => hFc q h) hFc (fun r1 u t H1 locs ht hvm hw hB hz1 hk1 hS => ?_)
    obtain ⟨n2, n3⟩ := u
    try dsimp only at hw
    obtain ⟨br1, bn3, xr1⟩ := hw
    try clear hw
    have tn3 := b01 bn3
    obtain ⟨hP1, hK1, hD1⟩ := hB
    replace hP1 := va_P.he ht hP1
    obtain ⟨hP, hD⟩ := va_join (wr := []) (w1 := (wz_46 h0 aw ac n2 h0_limit n3 h0_codeCount ob h0_openCount aw ab ac aw_typeCount wat wap wag aw_functionCount waf aw_hasMemory aw_pagesLeast aw_pagesMost aw_globalCount wgt wft wfv wgc aw_exportCount wek wei wes wez ab ax ab_length ax cax gax)) hP hD [0, 1, 2, 3] [] rfl rfl (by decide) (by decide) hk1 hFc hP1 hD1
    clear hPc hDc hKc hFc hz1 hk1 hP1 hK1 hD1
    rename Heap => H
    have hP : va_P (dC, dI) cls (wz_46 h0 aw ac n2 h0_limit n3 h0_codeCount ob h0_openCount aw ab ac aw_typeCount wat wap wag aw_functionCount waf aw_hasMemory aw_pagesLeast aw_pagesMost aw_globalCount wgt wft wfv wgc aw_exportCount wek wei wes wez ab ax ab_length ax cax gax) H := hP
    have hD : va_D A (wz_46 h0 aw ac n2 h0_limit n3 h0_codeCount ob h0_openCount aw ab ac aw_typeCount wat wap wag aw_functionCount waf aw_hasMemory aw_pagesLeast aw_pagesMost aw_globalCount wgt wft wfv wgc aw_exportCount wek wei wes wez ab ax ab_length ax cax gax) := hD
    refine lv_istore (lv' := [(6, .int r1), (0, .ref h0), (1, .long p0), (3, .long j5_l3), (5, .int j5_l5)]) hx hb d_RE_readUnsigned_16 hl (by decide) rfl (fun ls hl => ?_)
    refine lv_lload_n hx hb d_RE_readUnsigned_18 rfl (lv_at hl 3 rfl) ?_
    refine lv_iload hx hb d_RE_readUnsigned_19 (lv_at hl 0 rfl) ?_
    refine lv_bipush (v := 127) hx hb d_RE_readUnsigned_21 (by decide) ?_
    refine lv_iand hx hb d_RE_readUnsigned_23 ?_
    refine lv_topi (fun x4 ex4 => ?_)
    refine lv_i2l hx hb d_RE_readUnsigned_24 rfl ?_
    refine lv_topl (fun x5 ex5 => ?_)
    have tx5 := i2l_t ex5
    refine lv_iload hx hb d_RE_readUnsigned_25 (lv_at hl 4 rfl) ?_
    refine lv_lshl hx hb d_RE_readUnsigned_27 rfl ?_
    refine lv_topl (fun x6 ex6 => ?_)
    refine lv_lor hx hb d_RE_readUnsigned_28 ?_
    refine lv_topl (fun x7 ex7 => ?_)
    refine lv_lstore_n (lv' := [(3, .long x7), (6, .int r1), (0, .ref h0), (1, .long p0), (5, .int j5_l5)]) hx hb d_RE_readUnsigned_29 rfl hl (by decide) rfl (fun ls hl => ?_)
    have w30 := uz_n v1 xr1.2 (by (first | (apply Int.le_antisymm <;> omega) | omega)) (by (first | (apply Int.le_antisymm <;> omega) | omega)) (by (first | (apply Int.le_antisymm <;> omega) | omega)) (and127_t ex4 ex5 (by (first | (apply Int.le_antisymm <;> omega) | omega)) (by (first | (apply Int.le_antisymm <;> omega) | omega))) ex6 ex7
    have w31 : r1.toInt < 128 → 0 ≤ x7.toInt := fun z => (w30.2 z).1
    have w30 : bx _ := w30
    refine lv_iload hx hb d_RE_readUnsigned_30 (lv_at hl 1 rfl) ?_
    refine lv_sipush (v := 128) hx hb d_RE_readUnsigned_32 (by decide) ?_
    refine lv_icmp_ge (tgt := 73) hx hb d_RE_readUnsigned_35 (by decide) (fun c35 => ?_) (fun c35 => ?_)
    · have q35 := leI c35
      obtain ⟨x8, ex8⟩ : ∃ z : Int32, z = j5_l5 + 7 := ⟨_, rfl⟩
      have tx8 : x8.toInt = j5_l5.toInt + 7 := by have z := i32_add ex8 (by (first | (apply Int.le_antisymm <;> omega) | omega)) (by (first | (apply Int.le_antisymm <;> omega) | omega)); first | exact z | (first | (apply Int.le_antisymm <;> omega) | omega)
      refine lv_iinc (v := x8) (lv' := [(5, .int x8), (3, .long x7), (6, .int r1), (0, .ref h0), (1, .long p0)]) hx hb d_RE_readUnsigned_73 hl (k := 4) rfl (by rw [ex8]; rfl) (by decide) rfl (fun ls hl => ?_)
      refine lv_goto (tgt := 5) hx hb d_RE_readUnsigned_76 (by decide) ?_
      exact ih5 (x7, x8, n2, n3) _ _ _ (by show (35 - x8.toInt).toNat < N5; (first | (apply Int.le_antisymm <;> omega) | omega)) ⟨by (try dsimp only) <;> (first | (apply Int.le_antisymm <;> omega) | omega), bn3, (by have z9 := w30.out.1 (by (first | (apply Int.le_antisymm <;> omega) | omega)); rw [show x8.toInt = j5_l5.toInt + 7 from by (first | (apply Int.le_antisymm <;> omega) | omega)]; exact z9), by (try dsimp only) <;> (first | (apply Int.le_antisymm <;> omega) | omega), by (try dsimp only) <;> (first | (apply Int.le_antisymm <;> omega) | omega), hP, hD, hS, lv_sub hl [3, 4, 1, 0] rfl⟩
    · have q35 := nleI c35
      refine lv_aload_n hx hb d_RE_readUnsigned_38 rfl (lv_at hl 2 rfl) ?_
      refine lv_aload_n hx hb d_RE_readUnsigned_39 rfl (lv_at hl 2 rfl) ?_
      refine va_get (D := (dC, dI)) (ci := 7) (v := .int n3) (C := R_RE) (T := F_RE) (N := 8) hx hb hts i_RE hown hK hP 0 rfl rfl 4 (by decide) (hts _ kF_RE_45) (fun _ h9 => h9) rfl d_RE_readUnsigned_40 ?_
      refine w_cut (pc2 := 57) (σ := Int32) (fun u H locs ls => match u with | j57_s0 => (j57_s0 = 0 ∨ j57_s0 = 1) ∧ ((j57_s0.toInt = 1 ∧ n3.toInt = 1 ∧ x7.toInt ≤ p0.toInt) ∨ (j57_s0.toInt = 0 ∧ ¬ (n3.toInt = 1 ∧ x7.toInt ≤ p0.toInt))) ∧ va_P (dC, dI) cls (wz_46 h0 aw ac n2 h0_limit n3 h0_codeCount ob h0_openCount aw ab ac aw_typeCount wat wap wag aw_functionCount waf aw_hasMemory aw_pagesLeast aw_pagesMost aw_globalCount wgt wft wfv wgc aw_exportCount wek wei wes wez ab ax ab_length ax cax gax) H ∧ va_D A (wz_46 h0 aw ac n2 h0_limit n3 h0_codeCount ob h0_openCount aw ab ac aw_typeCount wat wap wag aw_functionCount waf aw_hasMemory aw_pagesLeast aw_pagesMost aw_globalCount wgt wft wfv wgc aw_exportCount wek wei wes wez ab ax ab_length ax cax gax) ∧ va_S A s.heap H locs ∧ lv_has ls 7 [(0, .ref h0), (3, .long x7)]) (fun u => match u with | j57_s0 => [.int j57_s0, .ref h0]) ?_ (fun jn57 => ?_)
      · intro u H locs ls hI
        obtain ⟨j57_s0, rfl⟩ : ∃ z, z = u := ⟨_, rfl⟩
        obtain ⟨b_j57_s0, y57, hP, hD, hS, hl⟩ := hI
        have tj57_s0 := b01 b_j57_s0
        refine va_put (D := (dC, dI)) (ci := 7) (v := .int j57_s0) (ty := .boolean) (C := R_RE) (T := F_RE) (N := 8) hx hb hts i_RE t_RE t_RE_ok n_RE hown hK hP hD hS 0 rfl rfl 4 (by decide) (hts _ kF_RE_45) (fun _ h9 => h9) rfl (by decide +kernel) (zn01 (b_j57_s0)) (fz01 (b_j57_s0)) (Nat.le_of_ble_eq_true rfl) d_RE_readUnsigned_57 (fun H locs hP hD hS => ?_)
        refine lv_aload_n hx hb d_RE_readUnsigned_60 rfl (lv_at hl 0 rfl) ?_
        refine va_get (D := (dC, dI)) (ci := 7) (v := .int j57_s0) (C := R_RE) (T := F_RE) (N := 8) hx hb hts i_RE hown hK hP 0 rfl rfl 4 (by decide) (hts _ kF_RE_45) (fun _ h9 => h9) rfl d_RE_readUnsigned_61 ?_
        refine lv_if_eq (tgt := 71) hx hb d_RE_readUnsigned_64 (by decide) (fun c64 => ?_) (fun c64 => ?_)
        · have q64 := eqI c64
          refine lv_lconst (v := 0) hx hb d_RE_readUnsigned_71 (by decide) ?_
          have kl0 : (0 : Int64).toInt = 0 := by decide
          have hP9 := hP.sb (wq := (wz_46 h0 aw ac n2 h0_limit j57_s0 h0_codeCount ob h0_openCount aw ab ac aw_typeCount wat wap wag aw_functionCount waf aw_hasMemory aw_pagesLeast aw_pagesMost aw_globalCount wgt wft wfv wgc aw_exportCount wek wei wes wez ab ax ab_length ax cax gax)) [0, 1, 2, 3] rfl
          have hD9 := hD.sb (wq := (wz_46 h0 aw ac n2 h0_limit j57_s0 h0_codeCount ob h0_openCount aw ab ac aw_typeCount wat wap wag aw_functionCount waf aw_hasMemory aw_pagesLeast aw_pagesMost aw_globalCount wgt wft wfv wgc aw_exportCount wek wei wes wez ab ax ab_length ax cax gax)) [0, 1, 2, 3] (by decide) rfl
          exact W.lret (v := 0) hx hb hr (fun t ht hW => ⟨⟨0, (n2, j57_s0), rfl, ⟨b_j57_s0, ⟨⟨⟨by (try dsimp only) <;> (first | (apply Int.le_antisymm <;> omega) | omega), by (try dsimp only) <;> (first | (apply Int.le_antisymm <;> omega) | omega)⟩, by (try dsimp only) <;> (first | (apply Int.le_antisymm <;> omega) | omega), by (try dsimp only) <;> (first | (apply Int.le_antisymm <;> omega) | omega)⟩, um_0 (w30.out.2 (by (first | (apply Int.le_antisymm <;> omega) | omega))) (by (first | (apply Int.le_antisymm <;> omega) | omega)) (by (first | (apply Int.le_antisymm <;> omega) | omega)) (by (first | (apply Int.le_antisymm <;> omega) | omega))⟩⟩, va_P.he ht.symm hP9, va_K.moved hW.alike hK, hD9⟩, hS.F ht⟩) hS.2.2 d_RE_readUnsigned_72
        · have q64 := neI c64
          refine lv_lload_n hx hb d_RE_readUnsigned_67 rfl (lv_at hl 1 rfl) ?_
          refine lv_goto (tgt := 72) hx hb d_RE_readUnsigned_68 (by decide) ?_
          have hP9 := hP.sb (wq := (wz_46 h0 aw ac n2 h0_limit j57_s0 h0_codeCount ob h0_openCount aw ab ac aw_typeCount wat wap wag aw_functionCount waf aw_hasMemory aw_pagesLeast aw_pagesMost aw_globalCount wgt wft wfv wgc aw_exportCount wek wei wes wez ab ax ab_length ax cax gax)) [0, 1, 2, 3] rfl
          have hD9 := hD.sb (wq := (wz_46 h0 aw ac n2 h0_limit j57_s0 h0_codeCount ob h0_openCount aw ab ac aw_typeCount wat wap wag aw_functionCount waf aw_hasMemory aw_pagesLeast aw_pagesMost aw_globalCount wgt wft wfv wgc aw_exportCount wek wei wes wez ab ax ab_length ax cax gax)) [0, 1, 2, 3] (by decide) rfl
          exact W.lret (v := x7) hx hb hr (fun t ht hW => ⟨⟨x7, (n2, j57_s0), rfl, ⟨b_j57_s0, ⟨⟨⟨by (try dsimp only) <;> (first | (apply Int.le_antisymm <;> omega) | omega), by (try dsimp only) <;> (first | (apply Int.le_antisymm <;> omega) | omega)⟩, by (try dsimp only) <;> (first | (apply Int.le_antisymm <;> omega) | omega), by (try dsimp only) <;> (first | (apply Int.le_antisymm <;> omega) | omega)⟩, um_1 (w30.out.2 (by (first | (apply Int.le_antisymm <;> omega) | omega))) (by (first | (apply Int.le_antisymm <;> omega) | omega)) (by (first | (apply Int.le_antisymm <;> omega) | omega)) (by (first | (apply Int.le_antisymm <;> omega) | omega))⟩⟩, va_P.he ht.symm hP9, va_K.moved hW.alike hK, hD9⟩, hS.F ht⟩) hS.2.2 d_RE_readUnsigned_72
      · skip
        refine w_cut (pc2 := 56) (σ := Unit) (fun u H locs ls => match u with | _ => (¬ (n3.toInt = 1 ∧ x7.toInt ≤ p0.toInt)) ∧ va_P (dC, dI) cls (wz_46 h0 aw ac n2 h0_limit n3 h0_codeCount ob h0_openCount aw ab ac aw_typeCount wat wap wag aw_functionCount waf aw_hasMemory aw_pagesLeast aw_pagesMost aw_globalCount wgt wft wfv wgc aw_exportCount wek wei wes wez ab ax ab_length ax cax gax) H ∧ va_D A (wz_46 h0 aw ac n2 h0_limit n3 h0_codeCount ob h0_openCount aw ab ac aw_typeCount wat wap wag aw_functionCount waf aw_hasMemory aw_pagesLeast aw_pagesMost aw_globalCount wgt wft wfv wgc aw_exportCount wek wei wes wez ab ax ab_length ax cax gax) ∧ va_S A s.heap H locs ∧ lv_has ls 7 [(0, .ref h0), (3, .long x7)]) (fun u => match u with | _ => [.ref h0]) ?_ (fun jn56 => ?_)
        · intro u H locs ls hI
          obtain ⟨y56, hP, hD, hS, hl⟩ := hI
          refine lv_iconst (v := 0) hx hb d_RE_readUnsigned_56 (by decide) ?_
          exact jn57 0 _ _ _ ⟨Or.inl rfl, by (try dsimp only) <;> (first | (apply Int.le_antisymm <;> omega) | omega), hP, hD, hS, lv_sub hl [0, 1] rfl⟩
        · skip
          refine lv_if_eq (tgt := 56) hx hb d_RE_readUnsigned_43 (by decide) (fun c43 => ?_) (fun c43 => ?_)
          · have q43 := eqI c43
            exact jn56 () _ _ _ ⟨by (try dsimp only) <;> (first | (apply Int.le_antisymm <;> omega) | omega), hP, hD, hS, lv_sub hl [2, 0] rfl⟩
          · have q43 := neI c43
            refine lv_lload_n hx hb d_RE_readUnsigned_46 rfl (lv_at hl 0 rfl) ?_
            refine lv_lload_n hx hb d_RE_readUnsigned_47 rfl (lv_at hl 3 rfl) ?_
            refine W.lcmp hx hb d_RE_readUnsigned_48 ?_
            refine lv_topi (fun x9 ex9 => ?_)
            have tx9 := lgc ex9
            refine lv_if_gt (tgt := 56) hx hb d_RE_readUnsigned_49 (by decide) (fun c49 => ?_) (fun c49 => ?_)
            · have q49 := ltI c49
              exact jn56 () _ _ _ ⟨by (try dsimp only) <;> (first | (apply Int.le_antisymm <;> omega) | omega), hP, hD, hS, lv_sub hl [2, 0] rfl⟩
            · have q49 := nltI c49
              refine lv_iconst (v := 1) hx hb d_RE_readUnsigned_52 (by decide) ?_
              refine lv_goto (tgt := 57) hx hb d_RE_readUnsigned_53 (by decide) ?_
              exact jn57 1 _ _ _ ⟨Or.inr rfl, by (try dsimp only) <;> (first | (apply Int.le_antisymm <;> omega) | omega), hP, hD, hS, lv_sub hl [2, 0] rfl⟩
abbrev at_RE_readSignedy (dC : Nat → ClassId) (dI : Nat → Nat → Nat) (h0 aw ac ob ab wat wap wag waf wgt wft wfv wgc wek wei wes wez ax : Nat) (cax : ClassId) (h0_limit : Int32) (h0_codeCount : Int32) (h0_openCount : Int32) (aw_typeCount : Int32) (aw_functionCount : Int32) (aw_hasMemory : Int32) (aw_pagesLeast : Int64) (aw_pagesMost : Int64) (aw_globalCount : Int32) (aw_exportCount : Int32) (ab_length : Int32) (gax : Nat → Int32) (A : Nat → Prop) (u : Int32 × Int32) (t : State) : Prop := match u with | (h0_at, h0_sound) => va_P (dC, dI) cls (wz_46 h0 aw ac h0_at h0_limit h0_sound h0_codeCount ob h0_openCount aw ab ac aw_typeCount wat wap wag aw_functionCount waf aw_hasMemory aw_pagesLeast aw_pagesMost aw_globalCount wgt wft wfv wgc aw_exportCount wek wei wes wez ab ax ab_length ax cax gax) t.heap ∧ va_K (dC, dI) cls [(cax, .byte)] t ∧ va_D A (wz_46 h0 aw ac h0_at h0_limit h0_sound h0_codeCount ob h0_openCount aw ab ac aw_typeCount wat wap wag aw_functionCount waf aw_hasMemory aw_pagesLeast aw_pagesMost aw_globalCount wgt wft wfv wgc aw_exportCount wek wei wes wez ab ax ab_length ax cax gax)
set_option maxHeartbeats 4000000 in
set_option maxRecDepth 100000 in
theorem c_RE_readSignedy (l : Launch) (dC : Nat → ClassId) (dI : Nat → Nat → Nat) (sz : Nat) (h0 aw ac ob ab wat wap wag waf wgt wft wfv wgc wek wei wes wez ax : Nat) (cax : ClassId) (h0_at : Int32) (h0_limit : Int32) (h0_sound : Int32) (h0_codeCount : Int32) (h0_openCount : Int32) (aw_typeCount : Int32) (aw_functionCount : Int32) (aw_hasMemory : Int32) (aw_pagesLeast : Int64) (aw_pagesMost : Int64) (aw_globalCount : Int32) (aw_exportCount : Int32) (ab_length : Int32) (gax : Nat → Int32)  (b_h0_sound : h0_sound = 0 ∨ h0_sound = 1) (p0 : Int32)  (ha : 0 ≤ h0_at.toInt ∧ h0_at.toInt ≤ h0_limit.toInt ∧ h0_limit.toInt ≤ ab_length.toInt ∧ ab_length.toInt ≤ 8192) (hm : p0.toInt = 32 ∨ p0.toInt = 64) : Met l y_RE_readSigned w_RE_readSigned ({ frames := 1, cells := 0, slots := 0, locals := 20 }) (va_Pc [.ref h0, .int p0] (fun U => U.heap.size = sz ∧ va_P (dC, dI) cls (wz_46 h0 aw ac h0_at h0_limit h0_sound h0_codeCount ob h0_openCount aw ab ac aw_typeCount wat wap wag aw_functionCount waf aw_hasMemory aw_pagesLeast aw_pagesMost aw_globalCount wgt wft wfv wgc aw_exportCount wek wei wes wez ab ax ab_length ax cax gax) U.heap ∧ va_K (dC, dI) cls [(cax, .byte)] U ∧ va_D (fun _ => True) (wz_46 h0 aw ac h0_at h0_limit h0_sound h0_codeCount ob h0_openCount aw ab ac aw_typeCount wat wap wag aw_functionCount waf aw_hasMemory aw_pagesLeast aw_pagesMost aw_globalCount wgt wft wfv wgc aw_exportCount wek wei wes wez ab ax ab_length ax cax gax))) (va_Ql (fun (r : Int64) (u : Int32 × Int32) => match u with | (h0_at2, h0_sound2) => (h0_sound2 = 0 ∨ h0_sound2 = 1) ∧ ((h0_at.toInt ≤ h0_at2.toInt ∧ h0_at2.toInt ≤ h0_limit.toInt) ∧ rp (zSg gax h0_limit.toNatClampNeg p0.toInt h0_at.toNatClampNeg) h0_sound h0_sound2 h0_at2)) (at_RE_readSignedy dC dI h0 aw ac ob ab wat wap wag waf wgt wft wfv wgc wek wei wes wez ax cax h0_limit h0_codeCount h0_openCount aw_typeCount aw_functionCount aw_hasMemory aw_pagesLeast aw_pagesMost aw_globalCount aw_exportCount ab_length gax (va_A (wz_46 h0 aw ac h0_at h0_limit h0_sound h0_codeCount ob h0_openCount aw ab ac aw_typeCount wat wap wag aw_functionCount waf aw_hasMemory aw_pagesLeast aw_pagesMost aw_globalCount wgt wft wfv wgc aw_exportCount wek wei wes wez ab ax ab_length ax cax gax) sz)) (va_A (wz_46 h0 aw ac h0_at h0_limit h0_sound h0_codeCount ob h0_openCount aw ab ac aw_typeCount wat wap wag aw_functionCount waf aw_hasMemory aw_pagesLeast aw_pagesMost aw_globalCount wgt wft wfv wgc aw_exportCount wek wei wes wez ab ax ab_length ax cax gax) sz)) 0 0 (va_A (wz_46 h0 aw ac h0_at h0_limit h0_sound h0_codeCount ob h0_openCount aw ab ac aw_typeCount wat wap wag aw_functionCount waf aw_hasMemory aw_pagesLeast aw_pagesMost aw_globalCount wgt wft wfv wgc aw_exportCount wek wei wes wez ab ax ab_length ax cax gax) sz) := by
  refine Met.ofW (cc := b_RE_readSigned) (maxL := 8) (ret := (Option.some .long)) (by decide) rfl ?_
  intro p e s m args below meth c s₁ B hml hv
  obtain ⟨rfl, hsz, hP, hK, hD0⟩ := hv
  have hx := B.exec
  have hb := B.bytes
  have hr := B.returns
  have hts0 := atoms_spec (ws := w_RE_readSigned) B.pre
  have hts : ∀ w ∈ lw_g, w.before _ s = true := fun w h => hts0 w (List.mem_cons_of_mem _ h)
  have hown : s.vm.findClass R_RE = some m.cls := findClass_of_methodNamed B.named
  have hlocks := B.notSynchronized
  clear hts0
  subst hsz
  have hD := hD0.self (sz := s.heap.size)
  generalize hAe : va_A (wz_46 h0 aw ac h0_at h0_limit h0_sound h0_codeCount ob h0_openCount aw ab ac aw_typeCount wat wap wag aw_functionCount waf aw_hasMemory aw_pagesLeast aw_pagesMost aw_globalCount wgt wft wfv wgc aw_exportCount wek wei wes wez ab ax ab_length ax cax gax) s.heap.size = A at hD ⊢
  have hA : ∀ q : Nat, s.heap.size ≤ q → A q := fun q h => by rw [← hAe]; exact Or.inr h
  clear hAe
  have hP : va_P (dC, dI) cls (wz_46 h0 aw ac h0_at h0_limit h0_sound h0_codeCount ob h0_openCount aw ab ac aw_typeCount wat wap wag aw_functionCount waf aw_hasMemory aw_pagesLeast aw_pagesMost aw_globalCount wgt wft wfv wgc aw_exportCount wek wei wes wez ab ax ab_length ax cax gax) s.heap := hP
  have hl := lv_entry ([.ref h0, .int p0]) (n := 8) (Nat.le_of_ble_eq_true rfl)
  rw [lg_entry_eq]
  generalize (lg_sl ([.ref h0, .int p0]) ++ List.replicate (8 - (lg_sl ([.ref h0, .int p0])).length) Slot.unset).toArray = ls at hl ⊢
  have hl : lv_has ls 8 [(0, .ref h0), (1, .int p0)] := hl
  have k0 : (0 : Int32).toInt = 0 := by decide
  refine w_gen (A := A) hP (fun H locs hP hS => ?_)
  have km1 : (-1 : Int32).toInt = -1 := by decide
  have k1 : (1 : Int32).toInt = 1 := by decide
  have k7 : (7 : Int32).toInt = 7 := by decide
  have k25 : (25 : Int32).toInt = 25 := by decide
  have k64 : (64 : Int32).toInt = 64 := by decide
  have k127 : (127 : Int32).toInt = 127 := by decide
  have k128 : (128 : Int32).toInt = 128 := by decide
  have lo_p0 := i32_lo p0
  have hi_p0 := i32_hi p0
  have th0_sound := b01 b_h0_sound
  refine lv_lconst (v := 0) hx hb d_RE_readSigned_0 (by decide) ?_
  have kl0 : (0 : Int64).toInt = 0 := by decide
  refine lv_lstore_n (lv' := [(2, .long 0), (0, .ref h0), (1, .int p0)]) hx hb d_RE_readSigned_1 rfl hl (by decide) rfl (fun ls hl => ?_)
  refine lv_iconst (v := 0) hx hb d_RE_readSigned_2 (by decide) ?_
  refine lv_istore (lv' := [(4, .int 0), (2, .long 0), (0, .ref h0), (1, .int p0)]) hx hb d_RE_readSigned_3 hl (by decide) rfl (fun ls hl => ?_)
  refine w_loop (σ := Int64 × Int32 × Int32 × Int32) (fun u H locs ls => match u with | (j5_l2, j5_l4, j5_h0_at, j5_h0_sound) => (0 ≤ j5_l4.toInt ∧ j5_l4.toInt ≤ 70) ∧ (j5_h0_sound = 0 ∨ j5_h0_sound = 1) ∧ (sgz gax h0_sound h0_at h0_limit j5_h0_sound j5_h0_at p0.toInt j5_l4.toInt) ∧ ((h0_at.toInt ≤ j5_h0_at.toInt ∧ j5_h0_at.toInt ≤ h0_limit.toInt)) ∧ va_P (dC, dI) cls (wz_46 h0 aw ac j5_h0_at h0_limit j5_h0_sound h0_codeCount ob h0_openCount aw ab ac aw_typeCount wat wap wag aw_functionCount waf aw_hasMemory aw_pagesLeast aw_pagesMost aw_globalCount wgt wft wfv wgc aw_exportCount wek wei wes wez ab ax ab_length ax cax gax) H ∧ va_D A (wz_46 h0 aw ac j5_h0_at h0_limit j5_h0_sound h0_codeCount ob h0_openCount aw ab ac aw_typeCount wat wap wag aw_functionCount waf aw_hasMemory aw_pagesLeast aw_pagesMost aw_globalCount wgt wft wfv wgc aw_exportCount wek wei wes wez ab ax ab_length ax cax gax) ∧ va_S A s.heap H locs ∧ lv_has ls 8 [(0, .ref h0), (1, .int p0), (2, .long j5_l2), (4, .int j5_l4)]) (fun u => match u with | (j5_l2, j5_l4, j5_h0_at, j5_h0_sound) => (70 - j5_l4.toInt).toNat) ?_ (0, 0, h0_at, h0_sound) ⟨by (try dsimp only) <;> (first | (apply Int.le_antisymm <;> omega) | omega), b_h0_sound, sgz_0 th0_sound (by decide), by (try dsimp only) <;> (first | (apply Int.le_antisymm <;> omega) | omega), hP, hD, hS, lv_sub hl [2, 3, 1, 0] rfl⟩
  intro N5 ih5 u H locs ls hN5 hI
  obtain ⟨j5_l2, j5_l4, j5_h0_at, j5_h0_sound⟩ := u
  obtain ⟨b_j5_l4, b_j5_h0_sound, v1, v2, hP, hD, hS, hl⟩ := hI
  have tj5_h0_sound := b01 b_j5_h0_sound
  have hN5 : (70 - j5_l4.toInt).toNat < N5 + 1 := hN5
  refine lv_iload hx hb d_RE_readSigned_5 (lv_at hl 3 rfl) ?_
  refine lv_iload_n hx hb d_RE_readSigned_7 rfl (lv_at hl 1 rfl) ?_
  refine lv_icmp_ge (tgt := 135) hx hb d_RE_readSigned_8 (by decide) (fun c8 => ?_) (fun c8 => ?_)
  · have q8 := leI c8
    refine lv_aload_n hx hb d_RE_readSigned_135 rfl (lv_at hl 0 rfl) ?_
    refine lv_iconst (v := 0) hx hb d_RE_readSigned_136 (by decide) ?_
    refine va_put (D := (dC, dI)) (ci := 7) (v := .int 0) (ty := .boolean) (C := R_RE) (T := F_RE) (N := 8) hx hb hts i_RE t_RE t_RE_ok n_RE hown hK hP hD hS 0 rfl rfl 4 (by decide) (hts _ kF_RE_45) (fun _ h9 => h9) rfl (by decide +kernel) rfl rfl (Nat.le_of_ble_eq_true rfl) d_RE_readSigned_137 (fun H locs hP hD hS => ?_)
    refine lv_lconst (v := 0) hx hb d_RE_readSigned_140 (by decide) ?_
    have kl0 : (0 : Int64).toInt = 0 := by decide
    have hP9 := hP.sb (wq := (wz_46 h0 aw ac j5_h0_at h0_limit 0 h0_codeCount ob h0_openCount aw ab ac aw_typeCount wat wap wag aw_functionCount waf aw_hasMemory aw_pagesLeast aw_pagesMost aw_globalCount wgt wft wfv wgc aw_exportCount wek wei wes wez ab ax ab_length ax cax gax)) [0, 1, 2, 3] rfl
    have hD9 := hD.sb (wq := (wz_46 h0 aw ac j5_h0_at h0_limit 0 h0_codeCount ob h0_openCount aw ab ac aw_typeCount wat wap wag aw_functionCount waf aw_hasMemory aw_pagesLeast aw_pagesMost aw_globalCount wgt wft wfv wgc aw_exportCount wek wei wes wez ab ax ab_length ax cax gax)) [0, 1, 2, 3] (by decide) rfl
    exact W.lret (v := 0) hx hb hr (fun t ht hW => ⟨⟨0, (j5_h0_at, 0), rfl, ⟨Or.inl rfl, ⟨⟨by (try dsimp only) <;> (first | (apply Int.le_antisymm <;> omega) | omega), by (try dsimp only) <;> (first | (apply Int.le_antisymm <;> omega) | omega)⟩, Or.inr ⟨by decide, sgz_end v1 (by (first | (apply Int.le_antisymm <;> omega) | omega)) (by (first | (apply Int.le_antisymm <;> omega) | omega))⟩⟩⟩, va_P.he ht.symm hP9, va_K.moved hW.alike hK, hD9⟩, hS.F ht⟩) hS.2.2 d_RE_readSigned_141
  · have q8 := nleI c8
    refine lv_aload_n hx hb d_RE_readSigned_11 rfl (lv_at hl 0 rfl) ?_
    have hPc := hP.sb (wq := (wz_46 h0 aw ac j5_h0_at h0_limit j5_h0_sound h0_codeCount ob h0_openCount aw ab ac aw_typeCount wat wap wag aw_functionCount waf aw_hasMemory aw_pagesLeast aw_pagesMost aw_globalCount wgt wft wfv wgc aw_exportCount wek wei wes wez ab ax ab_length ax cax gax)) [0, 1, 2, 3] rfl
    have hDc := hD.sb (wq := (wz_46 h0 aw ac j5_h0_at h0_limit j5_h0_sound h0_codeCount ob h0_openCount aw ab ac aw_typeCount wat wap wag aw_functionCount waf aw_hasMemory aw_pagesLeast aw_pagesMost aw_globalCount wgt wft wfv wgc aw_exportCount wek wei wes wez ab ax ab_length ax cax gax)) [0, 1, 2, 3] (by decide) rfl
    have hKc := hK.sb (tyq := [(cax, .byte)]) [0] rfl
    have hFc := va_free (wc := (wz_46 h0 aw ac j5_h0_at h0_limit j5_h0_sound h0_codeCount ob h0_openCount aw ab ac aw_typeCount wat wap wag aw_functionCount waf aw_hasMemory aw_pagesLeast aw_pagesMost aw_globalCount wgt wft wfv wgc aw_exportCount wek wei wes wez ab ax ab_length ax cax gax)) hD hS hA [0, 1, 2, 3] rfl
    refine va_calli (va_runV (As := []) (rest := []) ⟨hx, hb, hml, hown, hts⟩ (c_RE_nexty l dC dI H.size h0 aw ac ob ab wat wap wag waf wgt wft wfv wgc wek wei wes wez ax cax j5_h0_at h0_limit j5_h0_sound h0_codeCount h0_openCount aw_typeCount aw_functionCount aw_hasMemory aw_pagesLeast aw_pagesMost aw_globalCount aw_exportCount ab_length gax (b_j5_h0_sound) (by (try dsimp only) <;> (first | (apply Int.le_antisymm <;> omega) | omega))) (cwV 0 hts (gV kM_RE_60 kV_RE_next kS_RE_next kI_RE kC_RE_next) rfl rfl rfl (by decide +kernel) ⟨Nat.le_of_ble_eq_true rfl, Nat.le_of_ble_eq_true rfl⟩) ⟨fun a U g mk z => by obtain ⟨z0, z1, zP, zK, zD⟩ := z; exact ⟨z0, z1, zP, va_K.moved (u := U) (U := U.calling g mk a) (Vm.Alike.refl U.vm) zK, zD⟩, va_recv hKc hPc (ci := 7) (q0 := 0) rfl rfl, fun U hU hW => ⟨rfl, by rw [hU], va_P.he hU.symm hPc, va_K.moved hW.alike hKc, hDc.weaken (fun _ _ _ _ => trivial)⟩⟩ rfl rfl hl.1 rfl (lv_room (Nat.le_of_ble_eq_true rfl)) d_RE_readSigned_12 ⟨(Nat.zero_le _), (Nat.zero_le _)⟩) hS (fun q _ h => hFc q h) hFc (fun r1 u t H1 locs ht hvm hw hB hz1 hk1 hS => ?_)
    obtain ⟨n2, n3⟩ := u
    try dsimp only at hw
    obtain ⟨br1, bn3, xr1⟩ := hw
    try clear hw
    have tn3 := b01 bn3
    obtain ⟨hP1, hK1, hD1⟩ := hB
    replace hP1 := va_P.he ht hP1
    obtain ⟨hP, hD⟩ := va_join (wr := []) (w1 := (wz_46 h0 aw ac n2 h0_limit n3 h0_codeCount ob h0_openCount aw ab ac aw_typeCount wat wap wag aw_functionCount waf aw_hasMemory aw_pagesLeast aw_pagesMost aw_globalCount wgt wft wfv wgc aw_exportCount wek wei wes wez ab ax ab_length ax cax gax)) hP hD [0, 1, 2, 3] [] rfl rfl (by decide) (by decide) hk1 hFc hP1 hD1
    clear hPc hDc hKc hFc hz1 hk1 hP1 hK1 hD1
    rename Heap => H
    have hP : va_P (dC, dI) cls (wz_46 h0 aw ac n2 h0_limit n3 h0_codeCount ob h0_openCount aw ab ac aw_typeCount wat wap wag aw_functionCount waf aw_hasMemory aw_pagesLeast aw_pagesMost aw_globalCount wgt wft wfv wgc aw_exportCount wek wei wes wez ab ax ab_length ax cax gax) H := hP
    have hD : va_D A (wz_46 h0 aw ac n2 h0_limit n3 h0_codeCount ob h0_openCount aw ab ac aw_typeCount wat wap wag aw_functionCount waf aw_hasMemory aw_pagesLeast aw_pagesMost aw_globalCount wgt wft wfv wgc aw_exportCount wek wei wes wez ab ax ab_length ax cax gax) := hD
    refine lv_istore (lv' := [(5, .int r1), (0, .ref h0), (1, .int p0), (2, .long j5_l2), (4, .int j5_l4)]) hx hb d_RE_readSigned_15 hl (by decide) rfl (fun ls hl => ?_)
    refine lv_lload_n hx hb d_RE_readSigned_17 rfl (lv_at hl 3 rfl) ?_
    refine lv_iload hx hb d_RE_readSigned_18 (lv_at hl 0 rfl) ?_
    refine lv_bipush (v := 127) hx hb d_RE_readSigned_20 (by decide) ?_
    refine lv_iand hx hb d_RE_readSigned_22 ?_
    refine lv_topi (fun x4 ex4 => ?_)
    refine lv_i2l hx hb d_RE_readSigned_23 rfl ?_
    refine lv_topl (fun x5 ex5 => ?_)
    have tx5 := i2l_t ex5
    refine lv_iload hx hb d_RE_readSigned_24 (lv_at hl 4 rfl) ?_
    refine lv_lshl hx hb d_RE_readSigned_26 rfl ?_
    refine lv_topl (fun x6 ex6 => ?_)
    refine lv_lor hx hb d_RE_readSigned_27 ?_
    refine lv_topl (fun x7 ex7 => ?_)
    refine lv_lstore_n (lv' := [(2, .long x7), (5, .int r1), (0, .ref h0), (1, .int p0), (4, .int j5_l4)]) hx hb d_RE_readSigned_28 rfl hl (by decide) rfl (fun ls hl => ?_)
    refine lv_iload hx hb d_RE_readSigned_29 (lv_at hl 1 rfl) ?_
    refine lv_sipush (v := 128) hx hb d_RE_readSigned_31 (by decide) ?_
    refine lv_icmp_ge (tgt := 129) hx hb d_RE_readSigned_34 (by decide) (fun c34 => ?_) (fun c34 => ?_)
    · have q34 := leI c34
      obtain ⟨x8, ex8⟩ : ∃ z : Int32, z = j5_l4 + 7 := ⟨_, rfl⟩
      have tx8 : x8.toInt = j5_l4.toInt + 7 := by have z := i32_add ex8 (by (first | (apply Int.le_antisymm <;> omega) | omega)) (by (first | (apply Int.le_antisymm <;> omega) | omega)); first | exact z | (first | (apply Int.le_antisymm <;> omega) | omega)
      refine lv_iinc (v := x8) (lv' := [(4, .int x8), (2, .long x7), (5, .int r1), (0, .ref h0), (1, .int p0)]) hx hb d_RE_readSigned_129 hl (k := 4) rfl (by rw [ex8]; rfl) (by decide) rfl (fun ls hl => ?_)
      refine lv_goto (tgt := 5) hx hb d_RE_readSigned_132 (by decide) ?_
      exact ih5 (x7, x8, n2, n3) _ _ _ (by show (70 - x8.toInt).toNat < N5; (first | (apply Int.le_antisymm <;> omega) | omega)) ⟨by (try dsimp only) <;> (first | (apply Int.le_antisymm <;> omega) | omega), bn3, (by rw [show x8.toInt = j5_l4.toInt + 7 from by (first | (apply Int.le_antisymm <;> omega) | omega)]; exact sgz_go v1 xr1.2 (by (first | (apply Int.le_antisymm <;> omega) | omega)) (by (first | (apply Int.le_antisymm <;> omega) | omega)) (by (first | (apply Int.le_antisymm <;> omega) | omega)) (by (first | (apply Int.le_antisymm <;> omega) | omega)) (by (first | (apply Int.le_antisymm <;> omega) | omega))), by (try dsimp only) <;> (first | (apply Int.le_antisymm <;> omega) | omega), hP, hD, hS, lv_sub hl [3, 4, 1, 0] rfl⟩
    · have q34 := nleI c34
      refine lv_iload hx hb d_RE_readSigned_37 (lv_at hl 1 rfl) ?_
      refine lv_bipush (v := 25) hx hb d_RE_readSigned_39 (by decide) ?_
      refine lv_ishl hx hb d_RE_readSigned_41 ?_
      refine lv_topi (fun x9 ex9 => ?_)
      refine lv_bipush (v := 25) hx hb d_RE_readSigned_42 (by decide) ?_
      refine lv_ishr hx hb d_RE_readSigned_44 ?_
      refine lv_topi (fun x10 ex10 => ?_)
      refine lv_istore (lv' := [(6, .int x10), (2, .long x7), (5, .int r1), (0, .ref h0), (1, .int p0), (4, .int j5_l4)]) hx hb d_RE_readSigned_45 hl (by decide) rfl (fun ls hl => ?_)
      refine lv_iload_n hx hb d_RE_readSigned_47 rfl (lv_at hl 4 rfl) ?_
      refine lv_iload hx hb d_RE_readSigned_48 (lv_at hl 5 rfl) ?_
      refine lv_isub hx hb d_RE_readSigned_50 ?_
      refine lv_topi (fun x11 ex11 => ?_)
      have tx11 : x11.toInt = p0.toInt - j5_l4.toInt := by have z := i32_sub ex11 (by (first | (apply Int.le_antisymm <;> omega) | omega)) (by (first | (apply Int.le_antisymm <;> omega) | omega)); first | exact z | (first | (apply Int.le_antisymm <;> omega) | omega)
      refine lv_bipush (v := 7) hx hb d_RE_readSigned_51 (by decide) ?_
      refine w_cut (pc2 := 69) (σ := Int32) (fun u H locs ls => match u with | j69_s0 => (bx ((j69_s0.toInt = 0 ∨ j69_s0.toInt = -1) ↔ sgk p0.toInt j5_l4.toInt r1.toInt)) ∧ va_P (dC, dI) cls (wz_46 h0 aw ac n2 h0_limit n3 h0_codeCount ob h0_openCount aw ab ac aw_typeCount wat wap wag aw_functionCount waf aw_hasMemory aw_pagesLeast aw_pagesMost aw_globalCount wgt wft wfv wgc aw_exportCount wek wei wes wez ab ax ab_length ax cax gax) H ∧ va_D A (wz_46 h0 aw ac n2 h0_limit n3 h0_codeCount ob h0_openCount aw ab ac aw_typeCount wat wap wag aw_functionCount waf aw_hasMemory aw_pagesLeast aw_pagesMost aw_globalCount wgt wft wfv wgc aw_exportCount wek wei wes wez ab ax ab_length ax cax gax) ∧ va_S A s.heap H locs ∧ lv_has ls 8 [(0, .ref h0), (2, .long x7), (4, .int j5_l4), (6, .int x10)]) (fun u => match u with | j69_s0 => [.int j69_s0]) ?_ (fun jn69 => ?_)
      · intro u H locs ls hI
        obtain ⟨j69_s0, rfl⟩ : ∃ z, z = u := ⟨_, rfl⟩
        obtain ⟨y69, hP, hD, hS, hl⟩ := hI
        refine lv_istore (lv' := [(7, .int j69_s0), (0, .ref h0), (2, .long x7), (4, .int j5_l4), (6, .int x10)]) hx hb d_RE_readSigned_69 hl (by decide) rfl (fun ls hl => ?_)
        refine lv_aload_n hx hb d_RE_readSigned_71 rfl (lv_at hl 1 rfl) ?_
        refine lv_aload_n hx hb d_RE_readSigned_72 rfl (lv_at hl 1 rfl) ?_
        refine va_get (D := (dC, dI)) (ci := 7) (v := .int n3) (C := R_RE) (T := F_RE) (N := 8) hx hb hts i_RE hown hK hP 0 rfl rfl 4 (by decide) (hts _ kF_RE_45) (fun _ h9 => h9) rfl d_RE_readSigned_73 ?_
        refine w_cut (pc2 := 95) (σ := Int32) (fun u H locs ls => match u with | j95_s0 => (j95_s0 = 0 ∨ j95_s0 = 1) ∧ ((j95_s0.toInt = 1 ∧ n3.toInt = 1 ∧ (j69_s0.toInt = 0 ∨ j69_s0.toInt = -1)) ∨ (j95_s0.toInt = 0 ∧ ¬ (n3.toInt = 1 ∧ (j69_s0.toInt = 0 ∨ j69_s0.toInt = -1)))) ∧ va_P (dC, dI) cls (wz_46 h0 aw ac n2 h0_limit n3 h0_codeCount ob h0_openCount aw ab ac aw_typeCount wat wap wag aw_functionCount waf aw_hasMemory aw_pagesLeast aw_pagesMost aw_globalCount wgt wft wfv wgc aw_exportCount wek wei wes wez ab ax ab_length ax cax gax) H ∧ va_D A (wz_46 h0 aw ac n2 h0_limit n3 h0_codeCount ob h0_openCount aw ab ac aw_typeCount wat wap wag aw_functionCount waf aw_hasMemory aw_pagesLeast aw_pagesMost aw_globalCount wgt wft wfv wgc aw_exportCount wek wei wes wez ab ax ab_length ax cax gax) ∧ va_S A s.heap H locs ∧ lv_has ls 8 [(2, .long x7), (4, .int j5_l4), (6, .int x10)]) (fun u => match u with | j95_s0 => [.int j95_s0, .ref h0]) ?_ (fun jn95 => ?_)
        · intro u H locs ls hI
          obtain ⟨j95_s0, rfl⟩ : ∃ z, z = u := ⟨_, rfl⟩
          obtain ⟨b_j95_s0, y95, hP, hD, hS, hl⟩ := hI
          have tj95_s0 := b01 b_j95_s0
          refine va_put (D := (dC, dI)) (ci := 7) (v := .int j95_s0) (ty := .boolean) (C := R_RE) (T := F_RE) (N := 8) hx hb hts i_RE t_RE t_RE_ok n_RE hown hK hP hD hS 0 rfl rfl 4 (by decide) (hts _ kF_RE_45) (fun _ h9 => h9) rfl (by decide +kernel) (zn01 (b_j95_s0)) (fz01 (b_j95_s0)) (Nat.le_of_ble_eq_true rfl) d_RE_readSigned_95 (fun H locs hP hD hS => ?_)
          refine lv_iload hx hb d_RE_readSigned_98 (lv_at hl 1 rfl) ?_
          refine lv_bipush (v := 7) hx hb d_RE_readSigned_100 (by decide) ?_
          refine lv_iadd hx hb d_RE_readSigned_102 ?_
          refine lv_topi (fun x12 ex12 => ?_)
          have tx12 : x12.toInt = j5_l4.toInt + 7 := by have z := i32_add ex12 (by (first | (apply Int.le_antisymm <;> omega) | omega)) (by (first | (apply Int.le_antisymm <;> omega) | omega)); first | exact z | (first | (apply Int.le_antisymm <;> omega) | omega)
          refine lv_bipush (v := 64) hx hb d_RE_readSigned_103 (by decide) ?_
          refine lv_icmp_ge (tgt := 127) hx hb d_RE_readSigned_105 (by decide) (fun c105 => ?_) (fun c105 => ?_)
          · have q105 := leI c105
            refine lv_lload_n hx hb d_RE_readSigned_127 rfl (lv_at hl 0 rfl) ?_
            have hP9 := hP.sb (wq := (wz_46 h0 aw ac n2 h0_limit j95_s0 h0_codeCount ob h0_openCount aw ab ac aw_typeCount wat wap wag aw_functionCount waf aw_hasMemory aw_pagesLeast aw_pagesMost aw_globalCount wgt wft wfv wgc aw_exportCount wek wei wes wez ab ax ab_length ax cax gax)) [0, 1, 2, 3] rfl
            have hD9 := hD.sb (wq := (wz_46 h0 aw ac n2 h0_limit j95_s0 h0_codeCount ob h0_openCount aw ab ac aw_typeCount wat wap wag aw_functionCount waf aw_hasMemory aw_pagesLeast aw_pagesMost aw_globalCount wgt wft wfv wgc aw_exportCount wek wei wes wez ab ax ab_length ax cax gax)) [0, 1, 2, 3] (by decide) rfl
            exact W.lret (v := x7) hx hb hr (fun t ht hW => ⟨⟨x7, (n2, j95_s0), rfl, ⟨b_j95_s0, ⟨⟨by (try dsimp only) <;> (first | (apply Int.le_antisymm <;> omega) | omega), by (try dsimp only) <;> (first | (apply Int.le_antisymm <;> omega) | omega)⟩, sgz_x v1 xr1.2 (by (first | (apply Int.le_antisymm <;> omega) | omega)) (by (first | (apply Int.le_antisymm <;> omega) | omega)) (by (first | (apply Int.le_antisymm <;> omega) | omega)) (by (first | (apply Int.le_antisymm <;> omega) | omega)) (by (first | (apply Int.le_antisymm <;> omega) | omega)) (by rw [← y69.out]; exact y95)⟩⟩, va_P.he ht.symm hP9, va_K.moved hW.alike hK, hD9⟩, hS.F ht⟩) hS.2.2 d_RE_readSigned_128
          · have q105 := nleI c105
            refine lv_iload hx hb d_RE_readSigned_108 (lv_at hl 2 rfl) ?_
            refine lv_if_ge (tgt := 127) hx hb d_RE_readSigned_110 (by decide) (fun c110 => ?_) (fun c110 => ?_)
            · have q110 := leI c110
              refine lv_lload_n hx hb d_RE_readSigned_127 rfl (lv_at hl 0 rfl) ?_
              have hP9 := hP.sb (wq := (wz_46 h0 aw ac n2 h0_limit j95_s0 h0_codeCount ob h0_openCount aw ab ac aw_typeCount wat wap wag aw_functionCount waf aw_hasMemory aw_pagesLeast aw_pagesMost aw_globalCount wgt wft wfv wgc aw_exportCount wek wei wes wez ab ax ab_length ax cax gax)) [0, 1, 2, 3] rfl
              have hD9 := hD.sb (wq := (wz_46 h0 aw ac n2 h0_limit j95_s0 h0_codeCount ob h0_openCount aw ab ac aw_typeCount wat wap wag aw_functionCount waf aw_hasMemory aw_pagesLeast aw_pagesMost aw_globalCount wgt wft wfv wgc aw_exportCount wek wei wes wez ab ax ab_length ax cax gax)) [0, 1, 2, 3] (by decide) rfl
              exact W.lret (v := x7) hx hb hr (fun t ht hW => ⟨⟨x7, (n2, j95_s0), rfl, ⟨b_j95_s0, ⟨⟨by (try dsimp only) <;> (first | (apply Int.le_antisymm <;> omega) | omega), by (try dsimp only) <;> (first | (apply Int.le_antisymm <;> omega) | omega)⟩, sgz_x v1 xr1.2 (by (first | (apply Int.le_antisymm <;> omega) | omega)) (by (first | (apply Int.le_antisymm <;> omega) | omega)) (by (first | (apply Int.le_antisymm <;> omega) | omega)) (by (first | (apply Int.le_antisymm <;> omega) | omega)) (by (first | (apply Int.le_antisymm <;> omega) | omega)) (by rw [← y69.out]; exact y95)⟩⟩, va_P.he ht.symm hP9, va_K.moved hW.alike hK, hD9⟩, hS.F ht⟩) hS.2.2 d_RE_readSigned_128
            · have q110 := nleI c110
              refine lv_lload_n hx hb d_RE_readSigned_113 rfl (lv_at hl 0 rfl) ?_
              refine lv_ldc2 hx hb hown (hts _ kL_RE_127) d_RE_readSigned_114 ?_
              refine lv_topl (fun x13 ex13 => ?_)
              have tx13 : x13.toInt = -1 := by rw [ex13]; decide
              refine lv_iload hx hb d_RE_readSigned_117 (lv_at hl 1 rfl) ?_
              refine lv_bipush (v := 7) hx hb d_RE_readSigned_119 (by decide) ?_
              refine lv_iadd hx hb d_RE_readSigned_121 ?_
              refine lv_topi (fun x14 ex14 => ?_)
              have tx14 : x14.toInt = j5_l4.toInt + 7 := by have z := i32_add ex14 (by (first | (apply Int.le_antisymm <;> omega) | omega)) (by (first | (apply Int.le_antisymm <;> omega) | omega)); first | exact z | (first | (apply Int.le_antisymm <;> omega) | omega)
              refine lv_lshl hx hb d_RE_readSigned_122 rfl ?_
              refine lv_topl (fun x15 ex15 => ?_)
              refine lv_lor hx hb d_RE_readSigned_123 ?_
              refine lv_topl (fun x16 ex16 => ?_)
              refine lv_goto (tgt := 128) hx hb d_RE_readSigned_124 (by decide) ?_
              have hP9 := hP.sb (wq := (wz_46 h0 aw ac n2 h0_limit j95_s0 h0_codeCount ob h0_openCount aw ab ac aw_typeCount wat wap wag aw_functionCount waf aw_hasMemory aw_pagesLeast aw_pagesMost aw_globalCount wgt wft wfv wgc aw_exportCount wek wei wes wez ab ax ab_length ax cax gax)) [0, 1, 2, 3] rfl
              have hD9 := hD.sb (wq := (wz_46 h0 aw ac n2 h0_limit j95_s0 h0_codeCount ob h0_openCount aw ab ac aw_typeCount wat wap wag aw_functionCount waf aw_hasMemory aw_pagesLeast aw_pagesMost aw_globalCount wgt wft wfv wgc aw_exportCount wek wei wes wez ab ax ab_length ax cax gax)) [0, 1, 2, 3] (by decide) rfl
              exact W.lret (v := x16) hx hb hr (fun t ht hW => ⟨⟨x16, (n2, j95_s0), rfl, ⟨b_j95_s0, ⟨⟨by (try dsimp only) <;> (first | (apply Int.le_antisymm <;> omega) | omega), by (try dsimp only) <;> (first | (apply Int.le_antisymm <;> omega) | omega)⟩, sgz_x v1 xr1.2 (by (first | (apply Int.le_antisymm <;> omega) | omega)) (by (first | (apply Int.le_antisymm <;> omega) | omega)) (by (first | (apply Int.le_antisymm <;> omega) | omega)) (by (first | (apply Int.le_antisymm <;> omega) | omega)) (by (first | (apply Int.le_antisymm <;> omega) | omega)) (by rw [← y69.out]; exact y95)⟩⟩, va_P.he ht.symm hP9, va_K.moved hW.alike hK, hD9⟩, hS.F ht⟩) hS.2.2 d_RE_readSigned_128
        · skip
          refine w_cut (pc2 := 94) (σ := Unit) (fun u H locs ls => match u with | _ => (¬ (n3.toInt = 1 ∧ (j69_s0.toInt = 0 ∨ j69_s0.toInt = -1))) ∧ va_P (dC, dI) cls (wz_46 h0 aw ac n2 h0_limit n3 h0_codeCount ob h0_openCount aw ab ac aw_typeCount wat wap wag aw_functionCount waf aw_hasMemory aw_pagesLeast aw_pagesMost aw_globalCount wgt wft wfv wgc aw_exportCount wek wei wes wez ab ax ab_length ax cax gax) H ∧ va_D A (wz_46 h0 aw ac n2 h0_limit n3 h0_codeCount ob h0_openCount aw ab ac aw_typeCount wat wap wag aw_functionCount waf aw_hasMemory aw_pagesLeast aw_pagesMost aw_globalCount wgt wft wfv wgc aw_exportCount wek wei wes wez ab ax ab_length ax cax gax) ∧ va_S A s.heap H locs ∧ lv_has ls 8 [(2, .long x7), (4, .int j5_l4), (6, .int x10)]) (fun u => match u with | _ => [.ref h0]) ?_ (fun jn94 => ?_)
          · intro u H locs ls hI
            obtain ⟨y94, hP, hD, hS, hl⟩ := hI
            refine lv_iconst (v := 0) hx hb d_RE_readSigned_94 (by decide) ?_
            exact jn95 0 _ _ _ ⟨Or.inl rfl, by (try dsimp only) <;> (first | (apply Int.le_antisymm <;> omega) | omega), hP, hD, hS, lv_sub hl [0, 1, 2] rfl⟩
          · skip
            refine lv_if_eq (tgt := 94) hx hb d_RE_readSigned_76 (by decide) (fun c76 => ?_) (fun c76 => ?_)
            · have q76 := eqI c76
              exact jn94 () _ _ _ ⟨by (try dsimp only) <;> (first | (apply Int.le_antisymm <;> omega) | omega), hP, hD, hS, lv_sub hl [2, 3, 4] rfl⟩
            · have q76 := neI c76
              refine lv_iload hx hb d_RE_readSigned_79 (lv_at hl 0 rfl) ?_
              refine w_cut (pc2 := 90) (σ := Unit) (fun u H locs ls => match u with | _ => (n3.toInt = 1 ∧ (j69_s0.toInt = 0 ∨ j69_s0.toInt = -1)) ∧ va_P (dC, dI) cls (wz_46 h0 aw ac n2 h0_limit n3 h0_codeCount ob h0_openCount aw ab ac aw_typeCount wat wap wag aw_functionCount waf aw_hasMemory aw_pagesLeast aw_pagesMost aw_globalCount wgt wft wfv wgc aw_exportCount wek wei wes wez ab ax ab_length ax cax gax) H ∧ va_D A (wz_46 h0 aw ac n2 h0_limit n3 h0_codeCount ob h0_openCount aw ab ac aw_typeCount wat wap wag aw_functionCount waf aw_hasMemory aw_pagesLeast aw_pagesMost aw_globalCount wgt wft wfv wgc aw_exportCount wek wei wes wez ab ax ab_length ax cax gax) ∧ va_S A s.heap H locs ∧ lv_has ls 8 [(2, .long x7), (4, .int j5_l4), (6, .int x10)]) (fun u => match u with | _ => [.ref h0]) ?_ (fun jn90 => ?_)
              · intro u H locs ls hI
                obtain ⟨y90, hP, hD, hS, hl⟩ := hI
                refine lv_iconst (v := 1) hx hb d_RE_readSigned_90 (by decide) ?_
                refine lv_goto (tgt := 95) hx hb d_RE_readSigned_91 (by decide) ?_
                exact jn95 1 _ _ _ ⟨Or.inr rfl, by (try dsimp only) <;> (first | (apply Int.le_antisymm <;> omega) | omega), hP, hD, hS, lv_sub hl [0, 1, 2] rfl⟩
              · skip
                refine lv_if_eq (tgt := 90) hx hb d_RE_readSigned_81 (by decide) (fun c81 => ?_) (fun c81 => ?_)
                · have q81 := eqI c81
                  exact jn90 () _ _ _ ⟨by (try dsimp only) <;> (first | (apply Int.le_antisymm <;> omega) | omega), hP, hD, hS, lv_sub hl [2, 3, 4] rfl⟩
                · have q81 := neI c81
                  refine lv_iload hx hb d_RE_readSigned_84 (lv_at hl 0 rfl) ?_
                  refine lv_iconst (v := (-1)) hx hb d_RE_readSigned_86 (by decide) ?_
                  refine lv_icmp_ne (tgt := 94) hx hb d_RE_readSigned_87 (by decide) (fun c87 => ?_) (fun c87 => ?_)
                  · have q87 := neI c87
                    exact jn94 () _ _ _ ⟨by (try dsimp only) <;> (first | (apply Int.le_antisymm <;> omega) | omega), hP, hD, hS, lv_sub hl [2, 3, 4] rfl⟩
                  · have q87 := eqI c87
                    exact jn90 () _ _ _ ⟨by (try dsimp only) <;> (first | (apply Int.le_antisymm <;> omega) | omega), hP, hD, hS, lv_sub hl [2, 3, 4] rfl⟩
      · skip
        refine lv_icmp_le (tgt := 60) hx hb d_RE_readSigned_53 (by decide) (fun c53 => ?_) (fun c53 => ?_)
        · have q53 := leI c53
          refine lv_iload hx hb d_RE_readSigned_60 (lv_at hl 0 rfl) ?_
          refine lv_iload_n hx hb d_RE_readSigned_62 rfl (lv_at hl 4 rfl) ?_
          refine lv_iload hx hb d_RE_readSigned_63 (lv_at hl 5 rfl) ?_
          refine lv_isub hx hb d_RE_readSigned_65 ?_
          refine lv_topi (fun x17 ex17 => ?_)
          have tx17 : x17.toInt = p0.toInt - j5_l4.toInt := by have z := i32_sub ex17 (by (first | (apply Int.le_antisymm <;> omega) | omega)) (by (first | (apply Int.le_antisymm <;> omega) | omega)); first | exact z | (first | (apply Int.le_antisymm <;> omega) | omega)
          refine lv_iconst (v := 1) hx hb d_RE_readSigned_66 (by decide) ?_
          refine lv_isub hx hb d_RE_readSigned_67 ?_
          refine lv_topi (fun x18 ex18 => ?_)
          have tx18 : x18.toInt = x17.toInt - 1 := by have z := i32_sub ex18 (by (first | (apply Int.le_antisymm <;> omega) | omega)) (by (first | (apply Int.le_antisymm <;> omega) | omega)); first | exact z | (first | (apply Int.le_antisymm <;> omega) | omega)
          refine lv_ishr hx hb d_RE_readSigned_68 ?_
          refine lv_topi (fun x19 ex19 => ?_)
          exact jn69 x19 _ _ _ ⟨(sgk_1 (by (first | (apply Int.le_antisymm <;> omega) | omega)) (sgz_k v1) (by (first | (apply Int.le_antisymm <;> omega) | omega)) (by (first | (apply Int.le_antisymm <;> omega) | omega)) ex9 ex10 (by (first | (apply Int.le_antisymm <;> omega) | omega)) ex19 (by (first | (apply Int.le_antisymm <;> omega) | omega)) (by (first | (apply Int.le_antisymm <;> omega) | omega))), hP, hD, hS, lv_sub hl [3, 1, 5, 0] rfl⟩
        · have q53 := nleI c53
          refine lv_iconst (v := 0) hx hb d_RE_readSigned_56 (by decide) ?_
          refine lv_goto (tgt := 69) hx hb d_RE_readSigned_57 (by decide) ?_
          exact jn69 0 _ _ _ ⟨(sgk_0 (by (first | (apply Int.le_antisymm <;> omega) | omega)) (by decide)), hP, hD, hS, lv_sub hl [3, 1, 5, 0] rfl⟩
