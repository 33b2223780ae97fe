/-! what a method makes, told by the heap: a call is charged its most, and what it did not make is given back -/
def hsl (H : Heap) : Nat := (H.toList.map (fun c => c.slots.size)).sum
theorem take_map9 {A B : List Cell} (h : ∀ (a : Nat) (c : Cell), A[a]? = some c → ∃ c', B[a]? = some c' ∧ c'.slots.size = c.slots.size) : (B.take A.length).map (fun c => c.slots.size) = A.map (fun c => c.slots.size) := by
  refine List.ext_getElem? (fun i => ?_)
  rw [List.getElem?_map, List.getElem?_map, List.getElem?_take]
  by_cases hi : i < A.length
  · rw [if_pos hi]
    obtain ⟨c', h1, h2⟩ := h i A[i] (List.getElem?_eq_getElem hi)
    rw [h1, List.getElem?_eq_getElem hi]
    show some c'.slots.size = some _
    rw [h2]
  · rw [if_neg hi, List.getElem?_eq_none (by omega)]
theorem hsl_same {s s' : State} {locs : List Loc} {k n : Nat} (h : s.sameButNew s' locs k n) : hsl s'.heap = hsl s.heap + ((s'.heap.toList.drop s.heap.size).map (fun c => c.slots.size)).sum := by
  obtain ⟨-, -, -, -, -, h5⟩ := h
  have e := take_map9 (A := s.heap.toList) (B := s'.heap.toList) (fun a c hc => by
    obtain ⟨c', g1, -, g2, -⟩ := h5 a c (by simpa using hc)
    exact ⟨c', by simpa using g1, g2⟩)
  unfold hsl
  rw [← e, show s.heap.size = s.heap.toList.length from by simp, ← List.sum_append, ← List.map_append, List.take_append_drop]
section HZ
variable {p : Program} {l : Launch} {e : Env} {R : Room} {s : State} {m : MethodId} {args : Array Value} {below : List Frame} {meth : Method} {c : Code} {H : Heap} {locs : List Loc} {cells slots : Nat} {Q : State → Prop} {g : JFrame} {T : State}
theorem st_known (X : Stand p l e R s m args below meth c T locs cells slots) (hT : T.heap = H) : H.size ≤ s.heap.size + cells ∧ hsl H ≤ hsl s.heap + slots := by
  subst hT
  have q := hsl_same X.same
  obtain ⟨-, -, h2, -, h4, -⟩ := X.same
  have q : hsl T.heap = hsl s.heap + ((T.heap.toList.drop s.heap.size).map (fun c => c.slots.size)).sum := q
  have h2 : T.heap.size ≤ s.heap.size + cells := h2
  have h4 : ((T.heap.toList.drop s.heap.size).map (fun c => c.slots.size)).sum ≤ slots := h4
  exact ⟨h2, by omega⟩
theorem st_refund {c2 n2 : Nat} (X : Stand p l e R s m args below meth c T locs cells slots) (hT : T.heap = H) (h1 : H.size ≤ s.heap.size + c2) (h2 : hsl H ≤ hsl s.heap + n2) : Stand p l e R s m args below meth c T locs c2 n2 := by
  subst hT
  have q := hsl_same X.same
  obtain ⟨g0, g1, g2, g3, g4, g5⟩ := X.same
  have q : hsl T.heap = hsl s.heap + ((T.heap.toList.drop s.heap.size).map (fun c => c.slots.size)).sum := q
  exact ⟨X.admits, X.cas, X.clock, X.frames, X.room, X.hears, X.method, X.code, X.here, X.tail, X.warmed, X.limits, X.bytes, ⟨g0, g1, h1, g3, (by show ((T.heap.toList.drop s.heap.size).map (fun c => c.slots.size)).sum ≤ n2; omega), g5⟩⟩
theorem w_known (k : H.size ≤ s.heap.size + cells → hsl H ≤ hsl s.heap + slots → W p l e R s m args below meth c H locs cells slots Q g) : W p l e R s m args below meth c H locs cells slots Q g :=
  fun T hT X => k (st_known X hT).1 (st_known X hT).2 T hT X
theorem w_refund {c2 n2 : Nat} (h1 : H.size ≤ s.heap.size + c2) (h2 : hsl H ≤ hsl s.heap + n2) (k : W p l e R s m args below meth c H locs c2 n2 Q g) : W p l e R s m args below meth c H locs cells slots Q g :=
  fun T hT X => k T hT (st_refund X hT h1 h2)
theorem x_known {x : Addr} (k : H.size ≤ s.heap.size + cells → hsl H ≤ hsl s.heap + slots → tx_T p l e R s m args below meth c H locs cells slots Q g x) : tx_T p l e R s m args below meth c H locs cells slots Q g x :=
  fun T hT X => k (st_known X hT).1 (st_known X hT).2 T hT X
theorem x_refund {x : Addr} {c2 n2 : Nat} (h1 : H.size ≤ s.heap.size + c2) (h2 : hsl H ≤ hsl s.heap + n2) (k : tx_T p l e R s m args below meth c H locs c2 n2 Q g x) : tx_T p l e R s m args below meth c H locs cells slots Q g x :=
  fun T hT X => k T hT (st_refund X hT h1 h2)
theorem x_widen {x : Addr} {c2 n2 : Nat} (h1 : cells ≤ c2) (h2 : slots ≤ n2) (k : tx_T p l e R s m args below meth c H locs c2 n2 Q g x) : tx_T p l e R s m args below meth c H locs cells slots Q g x :=
  fun T hT X => k T hT (stand_widen X h1 h2)
/-- meeting points and loops whose count of new cells is part of their state -/
theorem w_cutz {pc pc2 : Nat} {stk : List Value} {ls : Array Slot} {σ : Type} (Inv : σ → Heap → List Loc → Array Slot → Prop) (mk : σ → List Value) (cf nf : σ → Nat)
    (k2 : ∀ (u : σ) (H : Heap) (locs : List Loc) (ls : Array Slot), Inv u H locs ls → W p l e R s m args below meth c H locs (cf u) (nf u) Q (F0 m pc2 ls (mk u)))
    (k1 : (∀ (u : σ) (H : Heap) (locs : List Loc) (ls : Array Slot), Inv u H locs ls → W p l e R s m args below meth c H locs (cf u) (nf u) Q (F0 m pc2 ls (mk u))) → W p l e R s m args below meth c H locs cells slots Q (F0 m pc ls stk)) :
    W p l e R s m args below meth c H locs cells slots Q (F0 m pc ls stk) := k1 k2
theorem w_loopz {pc : Nat} {σ : Type} (Inv : σ → Heap → List Loc → Array Slot → Prop) (mk : σ → List Value) (cf nf : σ → Nat) (μ : σ → Nat)
    (body : ∀ N : Nat, (∀ (u : σ) (H : Heap) (locs : List Loc) (ls : Array Slot), μ u < N → Inv u H locs ls → W p l e R s m args below meth c H locs (cf u) (nf u) Q (F0 m pc ls (mk u))) →
      ∀ (u : σ) (H : Heap) (locs : List Loc) (ls : Array Slot), μ u < N + 1 → Inv u H locs ls → W p l e R s m args below meth c H locs (cf u) (nf u) Q (F0 m pc ls (mk u)))
    (u : σ) {H : Heap} {locs : List Loc} {ls : Array Slot} {st : List Value} (hc : cf u = cells) (hn : nf u = slots) (hk : mk u = st) (h : Inv u H locs ls) : W p l e R s m args below meth c H locs cells slots Q (F0 m pc ls st) := by
  have k : ∀ (N : Nat) (u : σ) (H : Heap) (locs : List Loc) (ls : Array Slot), μ u < N → Inv u H locs ls → W p l e R s m args below meth c H locs (cf u) (nf u) Q (F0 m pc ls (mk u)) := by
    intro N
    induction N with
    | zero => intro u H locs ls h; exact absurd h (Nat.not_lt_zero _)
    | succ N ih => exact body N ih
  subst hc
  subst hn
  subst hk
  exact k _ u H locs ls (Nat.lt_succ_self _) h
end HZ
