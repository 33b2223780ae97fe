/-! a pool: one of its cells is taken out, and laid back -/
theorem vq_P {D : va_G} {cl : List vw_C} {ws : va_W} {H : Heap} : va_P D cl ws H ↔ ∀ q ∈ ws, va_at D cl q H :=
  ⟨fun h q hq => by obtain ⟨k, hk⟩ := List.getElem?_of_mem hq; exact h k q hk, fun h k q hk => h q (List.mem_of_getElem? hk)⟩
theorem vq_D {A : Nat → Prop} {ws : va_W} : va_D A ws ↔ (ws.map (·.1)).Nodup ∧ ∀ q ∈ ws, A q.1 := by
  constructor
  · intro h
    refine ⟨List.pairwise_iff_getElem.mpr (fun i j hi hj hij e => ?_), fun q hq => by obtain ⟨k, hk⟩ := List.getElem?_of_mem hq; exact h.2 k q hk⟩
    have hi' : i < ws.length := by rw [List.length_map] at hi; exact hi
    have hj' : j < ws.length := by rw [List.length_map] at hj; exact hj
    rw [List.getElem_map, List.getElem_map] at e
    have := h.1 i j _ _ (List.getElem?_eq_getElem hi') (List.getElem?_eq_getElem hj') e
    omega
  · intro h
    refine ⟨fun i j p q hp hq e => ?_, fun k q hk => h.2 q (List.mem_of_getElem? hk)⟩
    have hi : i < (ws.map (·.1)).length := by rw [List.length_map]; exact (List.getElem?_eq_some_iff.mp hp).1
    refine (List.getElem?_inj hi h.1).mp ?_
    rw [List.getElem?_map, List.getElem?_map, hp, hq]
    exact congrArg some e
theorem vq_Pp {D : va_G} {cl : List vw_C} {ws ws' : va_W} {H : Heap} (hp : ws.Perm ws') (h : va_P D cl ws H) : va_P D cl ws' H := vq_P.mpr (fun q hq => vq_P.mp h q (hp.mem_iff.mpr hq))
theorem vq_Dp {A : Nat → Prop} {ws ws' : va_W} (hp : ws.Perm ws') (h : va_D A ws) : va_D A ws' := by
  obtain ⟨h1, h2⟩ := vq_D.mp h
  exact vq_D.mpr ⟨(hp.map _).nodup_iff.mp h1, fun q hq => h2 q (hp.mem_iff.mpr hq)⟩
theorem vq_perm {X : va_W} {L : List Nat} {f : Nat → va_E} {y : Nat} (hy : y ∈ L) : (X ++ va_pl L f).Perm ((X ++ [(y, f y)]) ++ va_pl (L.erase y) f) := by
  rw [List.append_assoc]
  refine List.Perm.append_left X ?_
  exact (List.perm_cons_erase hy).map (fun a => (a, f a))
theorem vq_nd {A : Nat → Prop} {X : va_W} {L : List Nat} {f : Nat → va_E} (h : va_D A (X ++ va_pl L f)) : L.Nodup := by
  have h1 := (vq_D.mp h).1
  rw [List.map_append] at h1
  have h2 := (List.nodup_append.mp h1).2.1
  have e : (va_pl L f).map (·.1) = L := by unfold va_pl; rw [List.map_map]; exact List.map_id'' (fun _ => rfl) L
  rw [e] at h2
  exact h2
/-- a cell y of the pool stands among the cells -/
theorem vq_out {A : Nat → Prop} {D : va_G} {cl : List vw_C} {X : va_W} {L : List Nat} {f : Nat → va_E} {H : Heap} {y : Nat} {e : va_E} (hP : va_P D cl (X ++ va_pl L f) H) (hD : va_D A (X ++ va_pl L f)) (hy : y ∈ L) (he : f y = e) : va_P D cl ((X ++ [(y, e)]) ++ va_pl (L.erase y) f) H ∧ va_D A ((X ++ [(y, e)]) ++ va_pl (L.erase y) f) := by
  subst he
  exact ⟨vq_Pp (vq_perm hy) hP, vq_Dp (vq_perm hy) hD⟩
theorem vq_back {L : List Nat} {f : Nat → va_E} {y : Nat} {e : va_E} (hy : y ∈ L) (hn : L.Nodup) {X : va_W} : ((X ++ [(y, e)]) ++ va_pl (L.erase y) f).Perm (X ++ va_pl L (va_up f y e)) := by
  have h := (vq_perm (X := X) (f := va_up f y e) hy).symm
  rw [va_up_self] at h
  have e1 : va_pl (L.erase y) (va_up f y e) = va_pl (L.erase y) f := by
    unfold va_pl
    refine List.map_congr_left (fun a ha => ?_)
    have : a ≠ y := fun q => by subst q; exact (List.Nodup.mem_erase_iff hn).mp ha |>.1 rfl
    rw [va_up_ne _ _ this]
  rw [e1] at h
  exact h
/-- and goes back, with what it now holds -/
theorem vq_in {A : Nat → Prop} {D : va_G} {cl : List vw_C} {X : va_W} {L : List Nat} {f : Nat → va_E} {H : Heap} {y : Nat} {e : va_E} (hy : y ∈ L) (hn : L.Nodup) (hP : va_P D cl ((X ++ [(y, e)]) ++ va_pl (L.erase y) f) H) (hD : va_D A ((X ++ [(y, e)]) ++ va_pl (L.erase y) f)) : va_P D cl (X ++ va_pl L (va_up f y e)) H ∧ va_D A (X ++ va_pl L (va_up f y e)) :=
  ⟨vq_Pp (vq_back hy hn) hP, vq_Dp (vq_back hy hn) hD⟩
/-- an array of int arrays is read -/
theorem vq_ald {p : Program} {l : Launch} {e : Env} {R : Room} {s : State} {m : MethodId} {args : Array Value} {below : List Frame} {meth : Method} {c : Code} {H : Heap} {locs : List Loc} {cells slots : Nat} {Q : State → Prop} {cc : ByteArray} {pc : Nat} {ls : Array Slot} {rest : List Value} {a : Nat} {D : va_G} {cl : List vw_C} {tys : List (ClassId × FieldType)} {ws : va_W} {ty : FieldType}
    (hexec : p.tables.exec = Jvm.exec) (hb : c.code = cc) (hK : va_K D cl tys s) (hP : va_P D cl ws H) (q0 t0 : Nat) {cA : ClassId} {n : Nat} {f : Nat → Option Nat} (ha : ws[q0]? = some (a, .inl (cA, n, .inr (.inr (.inr (.inr f)))))) (ht : tys[t0]? = some (cA, .array ty)) {i : Int32} (hin : vp_in i n) {y : Nat} (hy : f i.toNatClampNeg = some y) (hdg : decode cc pc = .ok (.aaload, 1))
    (kk : W p l e R s m args below meth c H locs cells slots Q (F0 m (pc + 1) ls (.ref y :: rest))) : W p l e R s m args below meth c H locs cells slots Q (F0 m pc ls (.int i :: .ref a :: rest)) := by
  have hlt : i.toNatClampNeg < n := Nat.not_le.mp fun q => hin (Or.inr q)
  exact W.aald (v := .ref y) (ty := .array ty) hexec hb (hP q0 _ ha) ((hK.2 t0 _ ht).1 n (fun j => va_rf (f j))) rfl (fun q => by cases q) (by show ¬ (i < 0 ∨ (arrV _ _ _).slots.size ≤ _); rw [arrV_size]; exact hin) (by show (arrV _ _ _).slots[_]? = _; rw [arrV_read _ _ hlt, hy]; rfl) rfl rfl hdg kk
theorem vq_in0 {A : Nat → Prop} {D : va_G} {cl : List vw_C} {X : va_W} {L : List Nat} {f : Nat → va_E} {H : Heap} {y : Nat} {e : va_E} (hy : y ∈ L) (hn : L.Nodup) (he : f y = e) (hP : va_P D cl ((X ++ [(y, e)]) ++ va_pl (L.erase y) f) H) (hD : va_D A ((X ++ [(y, e)]) ++ va_pl (L.erase y) f)) : va_P D cl (X ++ va_pl L f) H ∧ va_D A (X ++ va_pl L f) := by
  have h := vq_in hy hn hP hD
  have e1 : va_up f y e = f := by
    funext j
    by_cases q : j = y
    · rw [q, va_up_self, he]
    · rw [va_up_ne _ _ q]
  rw [e1] at h
  exact h
/-- the rows of an array of n int arrays of k places -/
def grd (L : List Nat) (f : Nat → va_E) (cr : ClassId) (g : Nat → Option Nat) (n k : Nat) (M : Nat → Nat → Int32) : Prop := ∀ t, t < n → ∃ y, g t = some y ∧ y ∈ L ∧ f y = .inl (cr, k, .inl (M t))
/-- no two rows of the two arrays are one -/
def grx (g1 g2 : Nat → Option Nat) : Prop := (∀ i j, i < 20 → j < 20 → g1 i = g1 j → i = j) ∧ (∀ i j, i < 30 → j < 30 → g2 i = g2 j → i = j) ∧ ∀ i j, i < 20 → j < 30 → g1 i ≠ g2 j
theorem grd_set {L : List Nat} {f : Nat → va_E} {cr : ClassId} {g : Nat → Option Nat} {n k t y : Nat} {M : Nat → Nat → Int32} {r : Nat → Int32} (h : grd L f cr g n k M) (hi : ∀ i j, i < n → j < n → g i = g j → i = j) (ht : t < n) (hy : g t = some y) : grd L (va_up f y (.inl (cr, k, .inl r))) cr g n k (va_up M t r) := by
  intro i hi2
  obtain ⟨z, h1, h2, h3⟩ := h i hi2
  by_cases e : i = t
  · subst e
    cases h1.symm.trans hy
    exact ⟨_, h1, h2, by rw [va_up_self, va_up_self]⟩
  · have hz : z ≠ y := fun q => e (hi i t hi2 ht (by rw [h1, hy, q]))
    exact ⟨z, h1, h2, by rw [va_up_ne _ _ hz, va_up_ne _ _ e]; exact h3⟩
theorem grd_off {L : List Nat} {f : Nat → va_E} {cr : ClassId} {g : Nat → Option Nat} {n k y : Nat} {M : Nat → Nat → Int32} {e : va_E} (h : grd L f cr g n k M) (hy : ∀ i, i < n → g i ≠ some y) : grd L (va_up f y e) cr g n k M := by
  intro i hi2
  obtain ⟨z, h1, h2, h3⟩ := h i hi2
  have hz : z ≠ y := fun q => hy i hi2 (by rw [h1, q])
  exact ⟨z, h1, h2, by rw [va_up_ne _ _ hz]; exact h3⟩
