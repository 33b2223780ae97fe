/-! the reference reads code: an instruction of any other kind -/
theorem i32_mk {z : Int} (h1 : -2147483648 ≤ z) (h2 : z ≤ 2147483647) : ∃ x : Int32, x.toInt = z := ⟨Int32.ofInt z, Int32.toInt_ofInt_of_le (by omega) (by omega)⟩
theorem i64_mk {z : Int} (h1 : -2147483648 ≤ z) (h2 : z ≤ 2147483647) : ∃ x : Int64, x.toInt = z := ⟨Int64.ofInt z, Int64.toInt_ofInt_of_le (by omega) (by omega)⟩
theorem nF_ge (g : Nat → Int32) : ∀ (f p : Nat), p ≤ nF g f p ∧ (0 < f → p < nF g f p)
  | 0, p => ⟨Nat.le_refl _, fun h => absurd h (by omega)⟩
  | f + 1, p => by
    by_cases h : (g p &&& 255).toInt < 128
    · rw [nF_end h]; omega
    · rw [nF_go h]
      have := (nF_ge g f (p + 1)).1
      omega
theorem tbl_ge (g : Nat → Int32) (p : Nat) : ∀ k, p + k ≤ tbl g p k
  | 0 => Nat.le_refl _
  | k + 1 => by
    have h1 := tbl_ge g p k
    have h2 := (nF_ge g 5 (tbl g p k)).2 (by omega)
    show p + (k + 1) ≤ nF g 5 (tbl g p k)
    omega
theorem opO_not {b : Nat → Int32} {o : Int} {q : Nat} (h : opO b o q) : ¬ blk3 o ∧ o ≠ 5 ∧ o ≠ 11 := by
  unfold opO opI opM opP at h
  unfold blk3
  rcases h with ⟨h, -⟩ | ⟨h, -⟩ | h | h | h | h | h | h <;> omega
theorem uLs {f : Nat → Int64} {k : Nat} {x : Int64} : vp_updL f k x k = x := if_pos rfl
section CK2
variable {b en el gop gpt gel glb go bk : Nat → Int32} {gva : Nat → Int64} {pos : Nat → Nat} {a : Nat} {n oc lc : Int32} {cu : Int}
theorem ck_imm (h : ckI b en el a n oc lc gop gpt gel glb go gva pos bk cu) {o n2 : Int32} {c2 : Nat} (hn2 : n2.toInt = n.toInt + 1) (hcu : cu < (c2 : Int)) (hc2 : (c2 : Int) ≤ 4999) (hoc : 0 ≤ oc.toInt ∧ oc.toInt ≤ 100)
    (hO : opO b o.toInt (pos n.toNatClampNeg + 1)) (hb1 : (b (pos n.toNatClampNeg) &&& 255).toInt = o.toInt) (hx : c2 = nxo b o.toInt (pos n.toNatClampNeg + 1)) :
    ∃ (lc2 : Int32) (gpt2 gel2 glb2 : Nat → Int32) (gva2 : Nat → Int64), rstep n o oc lc 1 oc lc2 gop gpt gel glb go (upd gop n.toNatClampNeg o) gpt2 gel2 glb2 go gva gva2 ∧ lc.toInt ≤ lc2.toInt ∧ (∀ i : Nat, (i : Int) < lc.toInt → glb2 i = glb i) ∧
      ckI b en el a n2 oc lc2 (upd gop n.toNatClampNeg o) gpt2 gel2 glb2 go gva2 (va_up pos (n.toNatClampNeg + 1) c2) bk (c2 : Int) := by
  obtain ⟨n3, n5, n11⟩ := opO_not hO
  have hh := h
  obtain ⟨h1, ⟨a1, a2, a3, a4, a5⟩, h3, h4⟩ := hh
  have p1 : va_up pos (n.toNatClampNeg + 1) c2 n.toNatClampNeg = pos n.toNatClampNeg := va_up_ne _ _ (by omega)
  have hD0 : ∀ {gpt2 glb2 : Nat → Int32} {gva2 : Nat → Int64}, (opI o.toInt → (gva2 n.toNatClampNeg).toInt = (uF b 5 (pos n.toNatClampNeg + 1) 0 0).toInt) → (o.toInt = 14 → (gpt2 n.toNatClampNeg).toInt = (uF b 5 (pos n.toNatClampNeg + 1) 0 0).toInt ∧ ∀ k : Nat, (k : Int) ≤ (gpt2 n.toNatClampNeg).toInt → (glb2 ((gva2 n.toNatClampNeg).toInt.toNat + k)).toInt = (uF b 5 (tbl b (nF b 5 (pos n.toNatClampNeg + 1)) k) 0 0).toInt) →
      lkD b (va_up pos (n.toNatClampNeg + 1) c2) (upd gop n.toNatClampNeg o) gpt2 glb2 gva2 n.toNatClampNeg := by
    intro gpt2 glb2 gva2 x1 x2
    unfold lkD
    rw [p1, pk_us]
    exact ⟨hb1, x1, fun z => absurd z n3, x2⟩
  have kp : ∀ {v : Int64}, ∀ j, j ≠ n.toNatClampNeg → upd gpt n.toNatClampNeg 0 j = gpt j ∧ upd gel n.toNatClampNeg (-1) j = gel j ∧ vp_updL (vp_updL gva n.toNatClampNeg 0) n.toNatClampNeg v j = gva j := fun j e => ⟨pk_un e, pk_un e, by rw [uL_un e, uL_un e]⟩
  have hO2 := hO
  unfold opO at hO2
  rcases hO2 with ⟨q1, q2, q3⟩ | ⟨q1, q2, q3, q4⟩ | q1 | q1 | q1 | q1 | q1 | q1
  · have st : rstep n o oc lc 1 oc lc gop gpt gel glb go (upd gop n.toNatClampNeg o) (upd gpt n.toNatClampNeg 0) (upd gel n.toNatClampNeg (-1)) glb go gva (vp_updL (vp_updL gva n.toNatClampNeg 0) n.toNatClampNeg (uF b 5 (pos n.toNatClampNeg + 1) 0 0)) :=
      ⟨rfl, Or.inr (Or.inr (Or.inr (Or.inl ⟨by unfold opI at q1; omega, by decide, rfl, rfl, rfl, rfl, rfl, rfl, _, q2, q3, rfl⟩)))⟩
    exact ⟨lc, _, _, glb, _, st, Int.le_refl _, fun _ _ => rfl, ck_plain h hn2 hcu (by omega) hoc st n3 kp (fun _ _ => rfl) ⟨a3, by omega⟩ (hD0 (fun _ => by rw [uLs]) (fun z => by unfold opI at q1; omega)) hx⟩
  · obtain ⟨bb, hbb⟩ := i32_mk (z := (uF b 5 (pos n.toNatClampNeg + 1) 0 0).toInt) (by omega) (by omega)
    have hlen : (c2 : Int) ≥ pos n.toNatClampNeg + 1 + ((uF b 5 (pos n.toNatClampNeg + 1) 0 0).toInt + 1) := by
      rw [hx, nxo_14 q1]
      have t1 := tbl_ge b (nF b 5 (pos n.toNatClampNeg + 1)) ((uF b 5 (pos n.toNatClampNeg + 1) 0 0).toInt.toNat + 1)
      have t2 := (nF_ge b 5 (pos n.toNatClampNeg + 1)).1
      omega
    obtain ⟨lc2, hl2⟩ := i32_mk (z := lc.toInt + bb.toInt + 1) (by omega) (by omega)
    obtain ⟨xx, hxx⟩ := i64_mk (z := lc.toInt) (by omega) (by omega)
    have hlab : ∀ i : Nat, ∃ y : Int32, ((i : Int) < lc.toInt → y = glb i) ∧ (lc.toInt ≤ (i : Int) → (i : Int) ≤ lc.toInt + bb.toInt → y.toInt = (uF b 5 (tbl b (nF b 5 (pos n.toNatClampNeg + 1)) (i - lc.toInt.toNat)) 0 0).toInt) := by
      intro i
      by_cases z : (i : Int) < lc.toInt
      · exact ⟨glb i, fun _ => rfl, fun y => absurd z (by omega)⟩
      · by_cases z2 : (i : Int) ≤ lc.toInt + bb.toInt
        · obtain ⟨r1, r2⟩ := q4 (i - lc.toInt.toNat) (by omega)
          obtain ⟨y, hy⟩ := i32_mk (z := (uF b 5 (tbl b (nF b 5 (pos n.toNatClampNeg + 1)) (i - lc.toInt.toNat)) 0 0).toInt) (by omega) (by omega)
          exact ⟨y, fun w => absurd w z, fun _ _ => hy⟩
        · exact ⟨0, fun w => absurd w z, fun _ w => absurd w z2⟩
    obtain ⟨gl2, hgl⟩ : ∃ g : Nat → Int32, ∀ i : Nat, ((i : Int) < lc.toInt → g i = glb i) ∧ (lc.toInt ≤ (i : Int) → (i : Int) ≤ lc.toInt + bb.toInt → (g i).toInt = (uF b 5 (tbl b (nF b 5 (pos n.toNatClampNeg + 1)) (i - lc.toInt.toNat)) 0 0).toInt) := ⟨fun i => Classical.choose (hlab i), fun i => Classical.choose_spec (hlab i)⟩
    have st : rstep n o oc lc 1 oc lc2 gop gpt gel glb go (upd gop n.toNatClampNeg o) (upd (upd gpt n.toNatClampNeg 0) n.toNatClampNeg bb) (upd gel n.toNatClampNeg (-1)) gl2 go gva (vp_updL (vp_updL gva n.toNatClampNeg 0) n.toNatClampNeg xx) :=
      ⟨rfl, Or.inr (Or.inr (Or.inr (Or.inr (Or.inl ⟨q1, by decide, rfl, rfl, rfl, bb, xx, by omega, by omega, hxx, hl2, rfl, rfl⟩))))⟩
    have hlb : ∀ i : Nat, (i : Int) < lc.toInt → gl2 i = glb i := fun i hi => (hgl i).1 hi
    refine ⟨lc2, _, _, _, _, st, by omega, hlb, ck_plain h hn2 hcu (by omega) hoc st n3 (fun j e => ⟨by rw [pk_un e, pk_un e], pk_un e, by rw [uL_un e, uL_un e]⟩) hlb ⟨by omega, by omega⟩ (hD0 (fun z => by unfold opI at z; omega) (fun _ => ⟨by rw [pk_us]; exact hbb, fun k hk => ?_⟩)) hx⟩
    rw [pk_us] at hk
    rw [uLs, hxx]
    have := (hgl (lc.toInt.toNat + k)).2 (by omega) (by omega)
    rw [show lc.toInt.toNat + k - lc.toInt.toNat = k by omega] at this
    exact this
  · have st : rstep n o oc lc 1 oc lc gop gpt gel glb go (upd gop n.toNatClampNeg o) (upd (upd gpt n.toNatClampNeg 0) n.toNatClampNeg 0) (upd gel n.toNatClampNeg (-1)) glb go gva (vp_updL (vp_updL gva n.toNatClampNeg 0) n.toNatClampNeg 0) :=
      ⟨rfl, Or.inr (Or.inr (Or.inr (Or.inr (Or.inr (Or.inr (Or.inr ⟨by unfold opM at q1; omega, by decide, rfl, rfl, rfl, rfl, rfl, 0, 0, by decide, by decide, by decide, rfl, rfl⟩))))))⟩
    exact ⟨lc, _, _, glb, _, st, Int.le_refl _, fun _ _ => rfl, ck_plain h hn2 hcu (by omega) hoc st n3 (fun j e => ⟨by rw [pk_un e, pk_un e], pk_un e, by rw [uL_un e, uL_un e]⟩) (fun _ _ => rfl) ⟨a3, by omega⟩ (hD0 (fun z => by unfold opI at z; unfold opM at q1; omega) (fun z => by unfold opM at q1; omega)) hx⟩
  all_goals first
    | (have st : rstep n o oc lc 1 oc lc gop gpt gel glb go (upd gop n.toNatClampNeg o) (upd gpt n.toNatClampNeg 0) (upd gel n.toNatClampNeg (-1)) glb go gva (vp_updL gva n.toNatClampNeg 0) :=
        ⟨rfl, Or.inr (Or.inr (Or.inr (Or.inr (Or.inr (Or.inl ⟨by (try unfold opP at q1); omega, by decide, rfl, rfl, rfl, rfl, rfl, rfl, rfl⟩)))))⟩
       exact ⟨lc, _, _, glb, _, st, Int.le_refl _, fun _ _ => rfl, ck_plain h hn2 hcu (by omega) hoc st n3 (fun j e => ⟨pk_un e, pk_un e, uL_un e⟩) (fun _ _ => rfl) ⟨a3, by omega⟩ (hD0 (fun z => by unfold opI at z; (try unfold opP at q1); omega) (fun z => by (try unfold opP at q1); omega)) hx⟩)
    | (have st : rstep n o oc lc 1 oc lc gop gpt gel glb go (upd gop n.toNatClampNeg o) (upd gpt n.toNatClampNeg 0) (upd gel n.toNatClampNeg (-1)) glb go gva (vp_updL (vp_updL gva n.toNatClampNeg 0) n.toNatClampNeg 0) :=
        ⟨rfl, Or.inr (Or.inr (Or.inr (Or.inr (Or.inr (Or.inr (Or.inl ⟨by omega, by decide, rfl, rfl, rfl, rfl, rfl, rfl, 0, rfl⟩))))))⟩
       exact ⟨lc, _, _, glb, _, st, Int.le_refl _, fun _ _ => rfl, ck_plain h hn2 hcu (by omega) hoc st n3 (fun j e => ⟨pk_un e, pk_un e, by rw [uL_un e, uL_un e]⟩) (fun _ _ => rfl) ⟨a3, by omega⟩ (hD0 (fun z => by unfold opI at z; omega) (fun z => by omega)) hx⟩)
end CK2
