/-! the reference: a call that has a part of the pool; what was compiled is read again -/
section JR
variable {A0 : Nat → Prop} {D : va_G} {cl : List vw_C} {X cx wr rx pr pl pl1 : va_W} {H H1 : Heap}
theorem va_P.dropR (h : va_P D cl (X ++ (pr ++ pl)) H) : va_P D cl (X ++ pl) H := vq_P.mpr (fun q hq => vq_P.mp h q (by
  rcases List.mem_append.mp hq with z | z
  · exact List.mem_append_left _ z
  · exact List.mem_append_right _ (List.mem_append_right _ z)))
theorem va_P.dropL (h : va_P D cl (X ++ (pr ++ pl)) H) : va_P D cl (X ++ pr) H := vq_P.mpr (fun q hq => vq_P.mp h q (by
  rcases List.mem_append.mp hq with z | z
  · exact List.mem_append_left _ z
  · exact List.mem_append_right _ (List.mem_append_left _ z)))
theorem va_D.dropR (h : va_D A0 (X ++ (pr ++ pl))) : va_D A0 (X ++ pl) := by
  obtain ⟨h1, h2⟩ := vq_D.mp h
  have sb : (X ++ pl).Sublist (X ++ (pr ++ pl)) := List.Sublist.append (List.Sublist.refl X) (List.sublist_append_right pr pl)
  exact vq_D.mpr ⟨List.Pairwise.sublist (sb.map _) h1, fun q hq => h2 q (sb.subset hq)⟩
theorem va_D.dropL (h : va_D A0 (X ++ (pr ++ pl))) : va_D A0 (X ++ pr) := by
  obtain ⟨h1, h2⟩ := vq_D.mp h
  have sb : (X ++ pr).Sublist (X ++ (pr ++ pl)) := List.Sublist.append (List.Sublist.refl X) (List.sublist_append_left pr pl)
  exact vq_D.mpr ⟨List.Pairwise.sublist (sb.map _) h1, fun q hq => h2 q (sb.subset hq)⟩
theorem va_P.addR {f : Nat → va_E} (h : va_P D cl (X ++ pr) H) : va_P D cl (X ++ (pr ++ va_pl [] f)) H := by
  rw [show va_pl [] f = [] from rfl, List.append_nil]
  exact h
theorem va_D.addR {f : Nat → va_E} (h : va_D A0 (X ++ pr)) : va_D A0 (X ++ (pr ++ va_pl [] f)) := by
  rw [show va_pl [] f = [] from rfl, List.append_nil]
  exact h
theorem va_freeR {H0 : Heap} {locs : List Loc} (hD : va_D A0 (X ++ (pr ++ pl))) (hS : va_S A0 H0 H locs) (hA : ∀ q, H0.size ≤ q → A0 q) (isC : List Nat) (hC : isC.map (fun i => X[i]?) = cx.map some) : ∀ q, va_A (cx ++ pl) H.size q → A0 q := va_freeP hD.dropR hS hA isC hC
theorem va_joinR (hP : va_P D cl (X ++ (pr ++ pl)) H) (hD : va_D A0 (X ++ (pr ++ pl))) (isC isR : List Nat) (hC : isC.map (fun i => X[i]?) = cx.map some) (hR : isR.map (fun i => X[i]?) = wr.map some) (hn : va_nd isR = true) (hdis : ∀ i ∈ isR, i ∉ isC) (hk : ∀ q : Nat, q < H.size → ¬ va_A (cx ++ pl) H.size q → H1[q]? = H[q]?) (hF : ∀ q, va_A (cx ++ pl) H.size q → A0 q) (hP1 : va_P D cl (rx ++ pl1) H1) (hD1 : va_D (va_A (cx ++ pl) H.size) (rx ++ pl1)) : va_P D cl ((wr ++ rx) ++ (pr ++ pl1)) H1 ∧ va_D A0 ((wr ++ rx) ++ (pr ++ pl1)) := by
  obtain ⟨p1, d1⟩ := va_joinP hP.dropR hD.dropR isC isR hC hR hn hdis hk hF hP1 hD1
  obtain ⟨nd, hA0⟩ := vq_D.mp hD
  rw [List.map_append, List.map_append] at nd
  obtain ⟨-, n2, n3⟩ := List.nodup_append.mp nd
  obtain ⟨m1, -, m3⟩ := List.nodup_append.mp n2
  have mem : ∀ q, q ∈ pr → q ∈ X ++ (pr ++ pl) := fun q hq => List.mem_append_right _ (List.mem_append_left _ hq)
  have apart : ∀ q, q ∈ pr → q.1 < H.size ∧ ¬ va_A (cx ++ pl) H.size q.1 := by
    intro q hq
    have hl := (vq_P.mp hP q (mem q hq)).lt
    refine ⟨hl, fun h => ?_⟩
    rcases h with ⟨k, e, h⟩ | h
    · have h3 := va_part (pl := pl) isC hC k _ h
      rcases List.mem_append.mp (List.mem_of_getElem? h3) with z | z
      · exact n3 _ (List.mem_map.mpr ⟨_, z, rfl⟩) _ (List.mem_append_left _ (List.mem_map.mpr ⟨q, hq, rfl⟩)) rfl
      · exact m3 _ (List.mem_map.mpr ⟨q, hq, rfl⟩) _ (List.mem_map.mpr ⟨_, z, rfl⟩) rfl
    · (first | (apply Int.le_antisymm <;> omega) | omega)
  have pm : (pr ++ ((wr ++ rx) ++ pl1)).Perm ((wr ++ rx) ++ (pr ++ pl1)) := List.perm_append_comm_assoc pr (wr ++ rx) pl1
  refine ⟨vq_Pp pm ?_, vq_Dp pm ?_⟩
  · refine vq_P.mpr (fun q hq => ?_)
    rcases List.mem_append.mp hq with z | z
    · exact (vq_P.mp hP q (mem q z)).kept (hk q.1 (apart q z).1 (apart q z).2)
    · exact vq_P.mp p1 q z
  · obtain ⟨e1, e2⟩ := vq_D.mp d1
    refine vq_D.mpr ⟨?_, fun q hq => ?_⟩
    · rw [List.map_append]
      refine List.nodup_append.mpr ⟨m1, e1, ?_⟩
      intro a ha b hb e
      obtain ⟨q, hq, rfl⟩ := List.mem_map.mp ha
      obtain ⟨r, hr, rfl⟩ := List.mem_map.mp hb
      rcases List.mem_append.mp hr with z | z
      · rcases List.mem_append.mp z with z | z
        · obtain ⟨k, hk2⟩ := List.getElem?_of_mem z
          obtain ⟨i, -, h2⟩ := va_in_of isR hR hk2
          exact n3 _ (List.mem_map.mpr ⟨r, List.mem_of_getElem? h2, rfl⟩) _ (List.mem_append_left _ (List.mem_map.mpr ⟨q, hq, rfl⟩)) e.symm
        · exact (apart q hq).2 (by rw [e]; exact (vq_D.mp hD1).2 r (List.mem_append_left _ z))
      · exact (apart q hq).2 (by rw [e]; exact (vq_D.mp hD1).2 r (List.mem_append_right _ z))
    · rcases List.mem_append.mp hq with z | z
      · exact hA0 q (mem q z)
      · exact e2 q z
end JR
theorem bl_h8 {f g : Nat → Int32} {k n : Nat} {R : List Nat} (h : bl f n = bl g k ++ R) (i : Nat) (hi : i < k) : bn (f i) = bn (g i) := by
  have hl : k ≤ n := by
    have := congrArg List.length h
    rw [List.length_append, bl_len, bl_len] at this
    (first | (apply Int.le_antisymm <;> omega) | omega)
  have e : (bl f n)[i]? = (bl g k ++ R)[i]? := by rw [h]
  rw [List.getElem?_append_left (by rw [bl_len]; exact hi)] at e
  unfold bl at e
  rw [List.getElem?_map, List.getElem?_map, List.getElem?_range (by (first | (apply Int.le_antisymm <;> omega) | omega)), List.getElem?_range hi] at e
  exact Option.some.inj e
theorem ga_r {rs : Nat → Int32} {j : Nat} (h : (rs j).toInt = 0 ∨ t27 (rs j).toInt) : ga0 (r126 (qf9 rs j).toInt) = ga0 (rs j).toInt := by
  by_cases q : (rs j).toInt = 0
  · rw [qf_64 q, q]
    rfl
  · rw [qf_n q]
    have z : t27 (rs j).toInt := h.resolve_left q
    unfold t27 at z
    have e : r126 (rs j).toInt = 126 := if_neg (by (first | (apply Int.le_antisymm <;> omega) | omega))
    rw [e, (ga0_b (rs j).toInt).2.2.1 q]
    rfl
/-- what was compiled, as the reader asks for it -/
def ldq9 (gv tk : Nat → Int) (rs : Nat → Int32) (qn : Nat) (W : List Nat) (A : List Nat) (qct : Nat → List Nat) (qg : Bool) (qTs qtb : List Nat) (qto : Nat → Int32) (qG : List (Nat × Int)) (qX : List (List Nat × Nat × Nat)) (qcb : List Nat) (qI : Nat) : Prop := W = A ++ rs9 qct qg 1 ∧ (qg = true ↔ qG ≠ []) ∧ tyI qto tk (qf9 rs) qn qTs ∧ (qct 1 = qTs.length :: qtb ∧ qTs.length ≤ 20 ∧ tB tk (qf9 rs) qTs qtb ∧ (∀ r ∈ qTs, tk r ≤ 8) ∧ (∀ r ∈ qTs, ty (qf9 rs r).toInt)) ∧ (qct 3 = qn :: tol qto qn ∧ qn ≤ 20 ∧ ∀ f, f < qn → 0 ≤ (qto f).toInt ∧ (qto f).toInt < 128) ∧ qct 5 = [1, 1, 1, 2] ∧ (qct 6 = qG.length :: gbl qG ∧ qG.length ≤ 20 ∧ ∀ x ∈ qG, gok x) ∧ (qct 7 = qX.length :: exb qX ∧ qX.length ≤ 40 ∧ ∀ x ∈ qX, eok x) ∧ (qct 10 = qn :: qcb ∧ qn ≤ 20 ∧ cFq (Qc gv tk (fun f => gg9 (rs f).toInt) (qn : Int) (qG.length : Int)) 0 qn qcb qI ∧ qI ≤ 5000)
theorem em9_ld {gv tk : Nat → Int} {rs : Nat → Int32} {fc gc : Int} {qn : Nat} {W A : List Nat} (h : em9 gv tk rs fc gc qn W A) (hq : (qn : Int) = fc) : ∃ (qct : Nat → List Nat) (qg : Bool) (qTs qtb : List Nat) (qto : Nat → Int32) (qG : List (Nat × Int)) (qX : List (List Nat × Nat × Nat)) (qcb : List Nat) (qI : Nat), ldq9 gv tk rs qn W A qct qg qTs qtb qto qG qX qcb qI := by
  obtain ⟨qct, qg, qTs, qtb, qto, qG, qX, qcb, qI, h1, h2, h3, h4⟩ := h
  subst h3 hq
  exact ⟨qct, qg, qTs, qtb, qto, qG, qX, qcb, qI, h1, h2, h4⟩
theorem ld_bytes {gv tk : Nat → Int} {rs : Nat → Int32} {qn n : Nat} {f g : Nat → Int32} {qct : Nat → List Nat} {qg : Bool} {qTs qtb : List Nat} {qto : Nat → Int32} {qG : List (Nat × Int)} {qX : List (List Nat × Nat × Nat)} {qcb : List Nat} {qI : Nat} (h : ldq9 gv tk rs qn (bl f n) (bl g 8) qct qg qTs qtb qto qG qX qcb qI) (hg : ∀ i : Nat, i < 8 → 0 ≤ (g i).toInt ∧ (g i).toInt ≤ 255) : n = 8 + (rs9 qct qg 1).length ∧ (∀ i : Nat, i < 8 → (bn (f i) : Int) = (g i).toInt) ∧ bq f 8 (rs9 qct qg 1) := by
  have e := h.1
  refine ⟨?_, fun i hi => ?_, ?_⟩
  · have := congrArg List.length e
    rw [List.length_append, bl_len, bl_len] at this
    exact this
  · rw [bl_h8 e i hi, bn_in9 (hg i hi)]
    have := hg i hi
    (first | (apply Int.le_antisymm <;> omega) | omega)
  · have q := (bq_app (bq_bl e)).2
    rw [bl_len, Nat.zero_add] at q
    exact q
