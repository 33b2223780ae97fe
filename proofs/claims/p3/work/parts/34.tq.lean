/-! a contract's end by its outcome -/
def tq_Q {S : Type} (post : Outcome → S → State → Prop) (B : S → State → Prop) (A : Nat → Prop) : Array Value → State → Outcome → State → Prop := fun _ st o t => (∃ u : S, post o u t ∧ B u t) ∧ va_F A st t
def tq_v {S : Type} (pr : S → Prop) (C : String) (pt : S → Prop) : Outcome → S → State → Prop := fun o u t => match o with | .returned v => v = none ∧ pr u | .threw x => pt u ∧ xo C x t t.heap
def tq_i {S : Type} (pr : Int32 → S → Prop) (C : String) (pt : S → Prop) : Outcome → S → State → Prop := fun o u t => match o with | .returned v => (∃ r : Int32, v = some (.int r) ∧ pr r u) | .threw x => pt u ∧ xo C x t t.heap
def tq_l {S : Type} (pr : Int64 → S → Prop) (C : String) (pt : S → Prop) : Outcome → S → State → Prop := fun o u t => match o with | .returned v => (∃ r : Int64, v = some (.long r) ∧ pr r u) | .threw x => pt u ∧ xo C x t t.heap
theorem vp_ext {D : va_G} {cl : List vw_C} {ws : va_W} {H H1 : Heap} (h : va_P D cl ws H) (hq : ∀ q, q < H.size → H1[q]? = H[q]?) : va_P D cl ws H1 := by
  intro k q hk
  have h1 := h k q hk
  unfold va_at at h1 ⊢
  split at h1
  · rename_i a e
    rw [hq q.1 (Array.getElem?_eq_some_iff.mp h1).1]
    exact h1
  · rename_i o e
    obtain ⟨r, g1, g2⟩ := h1
    refine ⟨r, g1, ?_⟩
    unfold t_OB at g2 ⊢
    obtain ⟨cell, c1, c2⟩ := g2
    exact ⟨cell, by rw [hq q.1 (Array.getElem?_eq_some_iff.mp c1).1]; exact c1, c2⟩
theorem vs_ext {A : Nat → Prop} {s t : State} {H : Heap} {locs : List Loc} (hS : va_S A s.heap H locs) (h1 : H.size ≤ t.heap.size) (hq : ∀ q, q < H.size → t.heap[q]? = H[q]?) : va_F A s t :=
  ⟨Nat.le_trans hS.1 h1, fun q h2 h3 => by rw [hq q (Nat.lt_of_lt_of_le h2 hS.1)]; exact hS.2.1 q h2 h3⟩
section TQ
variable {p : Program} {l : Launch} {e : Env} {R : Room} {s : State} {m : MethodId} {args : Array Value} {below : List Frame} {meth : Method} {c : Code} {H : Heap} {locs : List Loc} {cells slots mr sr mt st : Nat}
variable {A0 A1 : Nat → Prop} {H0 : Heap} {pc : Nat} {ls : Array Slot} {st0 rest : List Value} {a : Array Value} {Q : State → Prop} {free : Addr → Prop} {C : String}
theorem tq_core {S : Type} {post : Outcome → S → State → Prop} {B : S → State → Prop} {k : tz_K} (hr : tz_Run p l e R s m args below meth c H locs cells slots k (F0 m pc ls st0) rest (tq_Q post B A1 a) free) (hS : va_S A0 H0 H locs) (hA : ∀ q, q < H.size → A1 q → A0 q) (hf : ∀ q, free q → A0 q)
    (kr : ∀ (v : Option Value) (u : S) (t : State) (H1 : Heap) (locs1 : List Loc), t.heap = H1 → s.vm.Alike t.vm → post (.returned v) u t → B u t → H.size ≤ H1.size → (∀ q : Nat, q < H.size → ¬ A1 q → H1[q]? = H[q]?) → va_S A0 H0 H1 locs1 → W p l e R s m args below meth c H1 locs1 (cells + (k (.returned v)).1) (slots + (k (.returned v)).2) Q (F0 m (pc + 3) ls (v.toList ++ rest)))
    (kt : ∀ (x : Addr) (u : S) (t : State) (H1 : Heap) (locs1 : List Loc), t.heap = H1 → s.vm.Alike t.vm → post (.threw x) u t → B u t → H.size ≤ H1.size → (∀ q : Nat, q < H.size → ¬ A1 q → H1[q]? = H[q]?) → va_S A0 H0 H1 locs1 → tx_T p l e R s m args below meth c H1 locs1 (cells + (k (.threw x)).1) (slots + (k (.threw x)).2) Q (F0 m pc ls rest) x) :
    W p l e R s m args below meth c H locs cells slots Q (F0 m pc ls st0) := by
  intro T hT X
  obtain ⟨o, st₀, t, T', L, h0, X', hL, e1, e2, ⟨⟨u, hp, hb⟩, hz, hk⟩, st⟩ := hr T hT X
  rw [h0] at hz hk
  have hal : s.vm.Alike t.vm := by rw [← e2]; exact X'.warmed.alike
  have hz' : H.size ≤ T'.heap.size := by rw [e1]; exact hz
  have hk' : ∀ q : Nat, q < H.size → ¬ A1 q → T'.heap[q]? = H[q]? := fun q h1 h2 => by rw [e1]; exact hk q h1 h2
  have hS' : va_S A0 H0 T'.heap (locs ++ L) := ⟨Nat.le_trans hS.1 hz', fun q h1 h2 => by rw [hk' q (Nat.lt_of_lt_of_le h1 hS.1) (fun z => h2 (hA q (Nat.lt_of_lt_of_le h1 hS.1) z))]; exact hS.2.1 q h1 h2, fun q hq => by
      rcases List.mem_append.mp hq with h | h
      · exact hS.2.2 q h
      · exact hf _ (hL q h)⟩
  cases o with
  | returned v =>
    obtain ⟨t2, a1, b1⟩ := kr v u t T'.heap (locs ++ L) e1.symm hal hp hb hz' hk' hS' T' rfl X'
    exact ⟨t2, st t2 a1, b1⟩
  | threw x =>
    obtain ⟨t2, a1, b1⟩ := kt x u t T'.heap (locs ++ L) e1.symm hal hp hb hz' hk' hS' T' rfl X'
    exact ⟨t2, st t2 a1, b1⟩
variable {S : Type} {B : S → State → Prop} {pt : S → Prop}
theorem tq_callv {pr : S → Prop} (hr : tz_Run p l e R s m args below meth c H locs cells slots (tz_k mr sr mt st) (F0 m pc ls st0) rest (tq_Q (tq_v pr C pt) B A1 a) free) (hS : va_S A0 H0 H locs) (hA : ∀ q, q < H.size → A1 q → A0 q) (hf : ∀ q, free q → A0 q)
    (kr : ∀ (u : S) (t : State) (H1 : Heap) (locs1 : List Loc), t.heap = H1 → s.vm.Alike t.vm → pr u → B u t → H.size ≤ H1.size → (∀ q : Nat, q < H.size → ¬ A1 q → H1[q]? = H[q]?) → va_S A0 H0 H1 locs1 → W p l e R s m args below meth c H1 locs1 (cells + mr) (slots + sr) Q (F0 m (pc + 3) ls rest))
    (kt : ∀ (x : Addr) (u : S) (t : State) (H1 : Heap) (locs1 : List Loc), t.heap = H1 → s.vm.Alike t.vm → pt u → xo C x s H1 → B u t → H.size ≤ H1.size → (∀ q : Nat, q < H.size → ¬ A1 q → H1[q]? = H[q]?) → va_S A0 H0 H1 locs1 → tx_T p l e R s m args below meth c H1 locs1 (cells + mt) (slots + st) Q (F0 m pc ls rest) x) :
    W p l e R s m args below meth c H locs cells slots Q (F0 m pc ls st0) :=
  tq_core hr hS hA hf (fun v u t H1 locs1 h1 h2 h3 h4 h5 h6 h7 => by obtain ⟨rfl, h3⟩ := h3; exact kr u t H1 locs1 h1 h2 h3 h4 h5 h6 h7)
    (fun x u t H1 locs1 h1 h2 h3 h4 h5 h6 h7 => kt x u t H1 locs1 h1 h2 h3.1 (by rw [← h1]; exact h3.2.back h2) h4 h5 h6 h7)
theorem tq_calli {pr : Int32 → S → Prop} (hr : tz_Run p l e R s m args below meth c H locs cells slots (tz_k mr sr mt st) (F0 m pc ls st0) rest (tq_Q (tq_i pr C pt) B A1 a) free) (hS : va_S A0 H0 H locs) (hA : ∀ q, q < H.size → A1 q → A0 q) (hf : ∀ q, free q → A0 q)
    (kr : ∀ (r : Int32) (u : S) (t : State) (H1 : Heap) (locs1 : List Loc), t.heap = H1 → s.vm.Alike t.vm → pr r u → B u t → H.size ≤ H1.size → (∀ q : Nat, q < H.size → ¬ A1 q → H1[q]? = H[q]?) → va_S A0 H0 H1 locs1 → W p l e R s m args below meth c H1 locs1 (cells + mr) (slots + sr) Q (F0 m (pc + 3) ls (.int r :: rest)))
    (kt : ∀ (x : Addr) (u : S) (t : State) (H1 : Heap) (locs1 : List Loc), t.heap = H1 → s.vm.Alike t.vm → pt u → xo C x s H1 → B u t → H.size ≤ H1.size → (∀ q : Nat, q < H.size → ¬ A1 q → H1[q]? = H[q]?) → va_S A0 H0 H1 locs1 → tx_T p l e R s m args below meth c H1 locs1 (cells + mt) (slots + st) Q (F0 m pc ls rest) x) :
    W p l e R s m args below meth c H locs cells slots Q (F0 m pc ls st0) :=
  tq_core hr hS hA hf (fun v u t H1 locs1 h1 h2 h3 h4 h5 h6 h7 => by obtain ⟨r, rfl, h3⟩ := h3; exact kr r u t H1 locs1 h1 h2 h3 h4 h5 h6 h7)
    (fun x u t H1 locs1 h1 h2 h3 h4 h5 h6 h7 => kt x u t H1 locs1 h1 h2 h3.1 (by rw [← h1]; exact h3.2.back h2) h4 h5 h6 h7)
end TQ
