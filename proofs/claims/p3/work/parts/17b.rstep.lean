/-! one instruction more: the reader's step keeps the structure -/
theorem rs_stk_len (go : Nat → Int32) : ∀ k : Nat, (rs_stk go k).length = k
  | 0 => rfl
  | k + 1 => by
    show (rs_stk go k).length + 1 = k + 1
    rw [rs_stk_len go k]
theorem uL_un {f : Nat → Int64} {k j : Nat} {x : Int64} (h : j ≠ k) : vp_updL f k x j = f j := if_neg h
theorem rs_step {a n : Nat} {cl o oc lc r oc2 lc2 : Int32} {gop gpt gel glb go gop2 gpt2 gel2 glb2 go2 : Nat → Int32} {gva gva2 : Nat → Int64} {sb : Nat → List Nat} (h : rs_I a n gop gpt gel gva lc.toInt sb) (hn : cl.toInt = n) (hoc : 0 ≤ oc.toInt ∧ oc.toInt ≤ 100) (hlc : 0 ≤ lc.toInt) (hsb : sb n = rs_stk go oc.toNatClampNeg)
    (st : rstep cl o oc lc r oc2 lc2 gop gpt gel glb go gop2 gpt2 gel2 glb2 go2 gva gva2) :
    (r.toInt = 1 → ∃ sb2, rs_I a (n + 1) gop2 gpt2 gel2 gva2 lc2.toInt sb2 ∧ sb2 (n + 1) = rs_stk go2 oc2.toNatClampNeg) ∧ (r.toInt = 0 → rs_I a n gop2 gpt2 gel2 gva2 lc2.toInt sb ∧ sb n = [] ∧ (gop2 n).toInt = 11) := by
  unfold rstep at st
  rw [i32_nat hn] at st
  obtain ⟨e0, st⟩ := st
  have k0 : (0 : Int32).toInt = 0 := by decide
  have km : (-1 : Int32).toInt = -1 := by decide
  have kl : (0 : Int64).toInt = 0 := by decide
  have hocn := i32_clamp (x := oc) hoc.1
  have gn : gop2 n = o := by rw [e0, pk_us]
  have gj : ∀ j, j < n → gop2 j = gop j := fun j hj => by rw [e0, pk_un (show j ≠ n by omega)]
  have lenn : (sb n).length = oc.toNatClampNeg := by rw [hsb, rs_stk_len]
  have plain : ∀ (ept : ∀ j, j < n → gpt2 j = gpt j) (eel : ∀ j, j < n → gel2 j = gel j) (eva : ∀ j, j < n → gva2 j = gva j) (hl : lc.toInt ≤ lc2.toInt) (hv : rs_val gop2 gpt2 gva2 lc2.toInt n) (h5 : o.toInt ≠ 5) (h11 : o.toInt ≠ 11) (he : (gel2 n).toInt < 0) (ho : o.toInt = 2 ∨ o.toInt = 3 ∨ o.toInt = 4 → oc.toInt < 100),
      ∃ sb2, rs_I a (n + 1) gop2 gpt2 gel2 gva2 lc2.toInt sb2 ∧ sb2 (n + 1) = if o.toInt = 2 ∨ o.toInt = 3 ∨ o.toInt = 4 then n :: sb n else sb n := by
    intro ept eel eva hl hv h5 h11 he ho
    have h2 := rs_ext h hl gj ept eel eva
    have r9 := rs_add h2 hv (by rw [gn]; exact h5) (by rw [gn]; exact h11) he (by rw [gn, lenn]; intro z; have := ho z; omega)
    rw [gn] at r9
    exact r9
  rcases st with ⟨c1, c2, c3, c4, c5, c6, c7, c8, c9, v, c10, c11⟩ | ⟨c1, c2, c3, c4, c5, c6, c7, c8, c9, c10, c11, c12⟩ | ⟨c1, c2, c3, c4, c5, c6, c7, c8⟩ | ⟨c1, c2, c3, c4, c5, c6, c7, c8, v, c9, c10, c11⟩ | ⟨c1, c2, c3, c4, c5, b, x, c6, c7, c8, c9, c10, c11⟩ | ⟨c1, c2, c3, c4, c5, c6, c7, c8, c9⟩ | ⟨c1, c2, c3, c4, c5, c6, c7, c8, v, c9⟩ | ⟨c1, c2, c3, c4, c5, c6, c7, b, x, c8, c9, c10, c11, c12⟩
  · refine ⟨fun _ => ?_, fun z => absurd z (by omega)⟩
    have vn : gva2 n = v := by rw [c11, pk_uLs]
    obtain ⟨sb2, q1, q2⟩ := plain (fun j hj => by rw [c8, pk_un (show j ≠ n by omega)]) (fun j hj => by rw [c9, pk_un (show j ≠ n by omega)]) (fun j hj => by rw [c11, uL_un (show j ≠ n by omega), uL_un (show j ≠ n by omega)]) (by rw [c6]; omega) (by unfold rs_val; rw [gn, vn]; exact ⟨fun _ => c10, fun z => absurd z (by omega), fun z => absurd z (by omega), by omega⟩) (by omega) (by omega) (by rw [c9, pk_us]; omega) (fun _ => c3)
    refine ⟨sb2, q1, ?_⟩
    rw [q2, if_pos c1, c5, show oc2.toNatClampNeg = oc.toNatClampNeg + 1 from by rw [i32_natI c4]; omega]
    show _ = (upd go oc.toNatClampNeg cl oc.toNatClampNeg).toNatClampNeg :: rs_stk (upd go oc.toNatClampNeg cl) oc.toNatClampNeg
    rw [pk_us, rs_stk_upd _ _ (Nat.le_refl _), i32_nat hn, hsb]
  · refine ⟨fun _ => ?_, fun z => absurd z (by omega)⟩
    obtain ⟨k, hk⟩ : ∃ k, oc.toNatClampNeg = k + 1 := ⟨oc.toNatClampNeg - 1, by omega⟩
    rw [show oc.toNatClampNeg - 1 = k from by omega] at c10 c11 c12
    have sbn : sb n = (go k).toNatClampNeg :: rs_stk go k := by rw [hsb, hk]; rfl
    have hb := (h.2.2.1 n h.1 (Nat.le_refl _)).1 (go k).toNatClampNeg (by rw [sbn]; exact List.mem_cons_self)
    have h2 := rs_ext (gop2 := gop2) (gpt2 := gpt2) (gel2 := upd gel n (-1)) (gva2 := gva2) (lc2 := lc2.toInt) h (by rw [c5]; omega) gj (fun j hj => by rw [c7, pk_un (show j ≠ n by omega)]) (fun j hj => by rw [pk_un (show j ≠ n by omega)]) (fun j hj => by rw [c8, uL_un (show j ≠ n by omega)])
    obtain ⟨sb2, q1, q2⟩ := rs_else (v := cl) h2 (by unfold rs_val; rw [gn]; exact ⟨fun z => absurd z (by omega), fun z => absurd z (by omega), fun z => absurd z (by omega), by omega⟩) (by rw [gn]; exact c1) (by rw [pk_us]; omega) sbn c10 c11 hn
    rw [← c12] at q1
    exact ⟨sb2, q1, by rw [q2, hsb, c3, c4]⟩
  · have hel0 : ∀ j, j < n → gel2 j = gel j := fun j hj => by rw [c5, pk_un (show j ≠ n by omega)]
    have hva0 : ∀ j, j < n → gva2 j = gva j := fun j hj => by rw [c6, uL_un (show j ≠ n by omega)]
    have hvl : ∀ g : Nat → Int32, rs_val gop2 g gva2 lc2.toInt n := fun g => by unfold rs_val; rw [gn]; exact ⟨fun z => absurd z (by omega), fun z => absurd z (by omega), fun z => absurd z (by omega), by omega⟩
    have hl2 : lc.toInt ≤ lc2.toInt := by rw [c3]; omega
    constructor
    · intro z
      obtain ⟨d1, d2, d3⟩ := c8 z
      obtain ⟨k, hk⟩ : ∃ k, oc.toNatClampNeg = k + 1 := ⟨oc.toNatClampNeg - 1, by omega⟩
      rw [show oc.toNatClampNeg - 1 = k from by omega, ← c5] at d3
      have sbn : sb n = (go k).toNatClampNeg :: rs_stk go k := by rw [hsb, hk]; rfl
      have hb := (h.2.2.1 n h.1 (Nat.le_refl _)).1 (go k).toNatClampNeg (by rw [sbn]; exact List.mem_cons_self)
      have h2 := rs_ext (gop2 := gop2) (gpt2 := upd gpt n 0) (gel2 := gel2) (gva2 := gva2) (lc2 := lc2.toInt) h hl2 gj (fun j hj => by rw [pk_un (show j ≠ n by omega)]) hel0 hva0
      have hgel : (gel2 n).toInt < 0 := by rw [c5, pk_us]; omega
      have fin : ∃ sb2, rs_I a (n + 1) gop2 gpt2 gel2 gva2 lc2.toInt sb2 ∧ sb2 (n + 1) = rs_stk go k := by
        refine rs_end (b := (go k).toNatClampNeg) h2 (hvl _) (by rw [gn]; exact c1) hgel sbn ?_ ?_ ?_
        · rw [d3]
          split
          · by_cases q : (go k).toNatClampNeg = (gel2 (go k).toNatClampNeg).toNatClampNeg
            · rw [← q, pk_us]
              exact hn
            · rw [pk_un q, pk_us]
              exact hn
          · rw [pk_us]
            exact hn
        · intro q
          rw [d3, if_pos q, pk_us]
          exact hn
        · intro j j1 j2
          rw [d3]
          split
          · rename_i q
            rw [pk_un (j2 q), pk_un j1]
          · rw [pk_un j1]
      obtain ⟨sb2, q1, q2⟩ := fin
      exact ⟨sb2, q1, by rw [q2, c2, show oc2.toNatClampNeg = k from by rw [i32_natI d2]; omega]⟩
    · intro z
      obtain ⟨d1, d2, d3⟩ := c7 z
      refine ⟨rs_ext h hl2 gj (fun j hj => by rw [d3, pk_un (show j ≠ n by omega)]) hel0 hva0, ?_, by rw [gn]; exact c1⟩
      rw [hsb, show oc.toNatClampNeg = 0 from by omega]
      rfl
  · refine ⟨fun _ => ?_, fun z => absurd z (by omega)⟩
    have vn : gva2 n = v := by rw [c11, pk_uLs]
    obtain ⟨sb2, q1, q2⟩ := plain (fun j hj => by rw [c7, pk_un (show j ≠ n by omega)]) (fun j hj => by rw [c8, pk_un (show j ≠ n by omega)]) (fun j hj => by rw [c11, uL_un (show j ≠ n by omega), uL_un (show j ≠ n by omega)]) (by rw [c5]; omega) (by unfold rs_val; rw [gn, vn]; exact ⟨fun z => absurd z (by omega), fun _ => ⟨c9, c10⟩, fun z => absurd z (by omega), by omega⟩) (by omega) (by omega) (by rw [c8, pk_us]; omega) (fun z => absurd z (by omega))
    exact ⟨sb2, q1, by rw [q2, if_neg (by omega), hsb, c3, c4]⟩
  · refine ⟨fun _ => ?_, fun z => absurd z (by omega)⟩
    have vn : gva2 n = x := by rw [c10, pk_uLs]
    have pn : gpt2 n = b := by rw [c11, pk_us]
    obtain ⟨sb2, q1, q2⟩ := plain (fun j hj => by rw [c11, pk_un (show j ≠ n by omega), pk_un (show j ≠ n by omega)]) (fun j hj => by rw [c5, pk_un (show j ≠ n by omega)]) (fun j hj => by rw [c10, uL_un (show j ≠ n by omega), uL_un (show j ≠ n by omega)]) (by omega) (by unfold rs_val; rw [gn, vn, pn]; exact ⟨fun z => absurd z (by omega), fun z => absurd z (by omega), fun _ => ⟨by omega, by omega, by omega⟩, by omega⟩) (by omega) (by omega) (by rw [c5, pk_us]; omega) (fun z => absurd z (by omega))
    exact ⟨sb2, q1, by rw [q2, if_neg (by omega), hsb, c3, c4]⟩
  · refine ⟨fun _ => ?_, fun z => absurd z (by omega)⟩
    obtain ⟨sb2, q1, q2⟩ := plain (fun j hj => by rw [c7, pk_un (show j ≠ n by omega)]) (fun j hj => by rw [c8, pk_un (show j ≠ n by omega)]) (fun j hj => by rw [c9, uL_un (show j ≠ n by omega)]) (by rw [c5]; omega) (by unfold rs_val; rw [gn]; exact ⟨fun z => absurd z (by omega), fun z => absurd z (by omega), fun z => absurd z (by omega), by omega⟩) (by omega) (by omega) (by rw [c8, pk_us]; omega) (fun z => absurd z (by omega))
    exact ⟨sb2, q1, by rw [q2, if_neg (by omega), hsb, c3, c4]⟩
  · refine ⟨fun _ => ?_, fun z => absurd z (by omega)⟩
    obtain ⟨sb2, q1, q2⟩ := plain (fun j hj => by rw [c7, pk_un (show j ≠ n by omega)]) (fun j hj => by rw [c8, pk_un (show j ≠ n by omega)]) (fun j hj => by rw [c9, uL_un (show j ≠ n by omega), uL_un (show j ≠ n by omega)]) (by rw [c5]; omega) (by unfold rs_val; rw [gn]; exact ⟨fun z => absurd z (by omega), fun z => absurd z (by omega), fun z => absurd z (by omega), by omega⟩) (by omega) (by omega) (by rw [c8, pk_us]; omega) (fun z => absurd z (by omega))
    exact ⟨sb2, q1, by rw [q2, if_neg (by omega), hsb, c3, c4]⟩
  · refine ⟨fun _ => ?_, fun z => absurd z (by omega)⟩
    obtain ⟨sb2, q1, q2⟩ := plain (fun j hj => by rw [c11, pk_un (show j ≠ n by omega), pk_un (show j ≠ n by omega)]) (fun j hj => by rw [c7, pk_un (show j ≠ n by omega)]) (fun j hj => by rw [c12, uL_un (show j ≠ n by omega), uL_un (show j ≠ n by omega)]) (by rw [c5]; omega) (by unfold rs_val; rw [gn]; exact ⟨fun z => absurd z (by omega), fun z => absurd z (by omega), fun z => absurd z (by omega), by omega⟩) (by omega) (by omega) (by rw [c7, pk_us]; omega) (fun z => absurd z (by omega))
    exact ⟨sb2, q1, by rw [q2, if_neg (by omega), hsb, c3, c4]⟩
