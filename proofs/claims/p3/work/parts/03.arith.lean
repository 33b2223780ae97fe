/-! numbers: what a walk needs of Int32, said of toInt, so that omega ends it -/
theorem i32_add {a b x : Int32} (e : x = a + b) (h1 : -2147483648 ≤ a.toInt + b.toInt) (h2 : a.toInt + b.toInt ≤ 2147483647) : x.toInt = a.toInt + b.toInt := by
  rw [e, Int32.toInt_add]
  exact Int.bmod_eq_of_le (by omega) (by omega)
theorem i32_sub {a b x : Int32} (e : x = a - b) (h1 : -2147483648 ≤ a.toInt - b.toInt) (h2 : a.toInt - b.toInt ≤ 2147483647) : x.toInt = a.toInt - b.toInt := by
  rw [e, Int32.toInt_sub]
  exact Int.bmod_eq_of_le (by omega) (by omega)
theorem i32_mul {a b x : Int32} (e : x = a * b) (h1 : -2147483648 ≤ a.toInt * b.toInt) (h2 : a.toInt * b.toInt ≤ 2147483647) : x.toInt = a.toInt * b.toInt := by
  rw [e, Int32.toInt_mul]
  exact Int.bmod_eq_of_le (by omega) (by omega)
theorem i32_len {n : Nat} (h : n < 2147483648) : (Int32.ofNat n).toInt = n := nI_toInt h
theorem ltI {x y : Int32} (h : x < y) : x.toInt < y.toInt := Int32.lt_iff_toInt_lt.mp h
theorem nltI {x y : Int32} (h : ¬ x < y) : y.toInt ≤ x.toInt := Int.not_lt.mp (fun z => h (Int32.lt_iff_toInt_lt.mpr z))
theorem leI {x y : Int32} (h : x ≤ y) : x.toInt ≤ y.toInt := Int32.le_iff_toInt_le.mp h
theorem nleI {x y : Int32} (h : ¬ x ≤ y) : y.toInt < x.toInt := Int.not_le.mp (fun z => h (Int32.le_iff_toInt_le.mpr z))
theorem eqI {x y : Int32} (h : x = y) : x.toInt = y.toInt := by rw [h]
theorem neI {x y : Int32} (h : ¬ x = y) : x.toInt ≠ y.toInt := fun z => h (Int32.toInt_inj.mp z)
theorem i32_lo (x : Int32) : -2147483648 ≤ x.toInt := by have := Int32.le_toInt x; omega
theorem i32_hi (x : Int32) : x.toInt ≤ 2147483647 := by have := Int32.toInt_lt x; omega
theorem i32_clamp {x : Int32} (h : 0 ≤ x.toInt) : (x.toNatClampNeg : Int) = x.toInt := by
  rw [Int32.toNatClampNeg]; omega
theorem i32_and255 (x : Int32) : 0 ≤ (x &&& 255).toInt ∧ (x &&& 255).toInt ≤ 255 := by
  obtain ⟨j, hj, e⟩ := pk_andE x (m := 255) 8 (by decide)
  rw [e, nI_toInt (by omega)]
  omega
/-- at a walk's beginning: the heap gets a name -/
theorem w_gen {p : Program} {l : Launch} {e : Env} {R : Room} {s : State} {m : MethodId} {args : Array Value} {below : List Frame} {meth : Method} {c : Code} {cells slots : Nat} {Q : State → Prop} {g : JFrame} {A : Nat → Prop} {D : va_G} {cl : List vw_C} {ws : va_W}
    (hP : va_P D cl ws s.heap) (k : ∀ (H : Heap) (locs : List Loc), va_P D cl ws H → va_S A s.heap H locs → W p l e R s m args below meth c H locs cells slots Q g) : W p l e R s m args below meth c s.heap [] cells slots Q g := k _ _ hP va_S.rf
/-- a loop: from every state with the invariant, if from all of less measure -/
theorem w_loop {p : Program} {l : Launch} {e : Env} {R : Room} {s : State} {m : MethodId} {args : Array Value} {below : List Frame} {meth : Method} {c : Code} {cells slots : Nat} {Q : State → Prop} {pc : Nat} {stk : List Value} {σ : Type} (Inv : σ → Heap → List Loc → Array Slot → Prop) (μ : σ → Nat)
    (body : ∀ N : Nat, (∀ (u : σ) (H : Heap) (locs : List Loc) (ls : Array Slot), μ u < N → Inv u H locs ls → W p l e R s m args below meth c H locs cells slots Q (F0 m pc ls stk)) →
      ∀ (u : σ) (H : Heap) (locs : List Loc) (ls : Array Slot), μ u < N + 1 → Inv u H locs ls → W p l e R s m args below meth c H locs cells slots Q (F0 m pc ls stk))
    (u : σ) {H : Heap} {locs : List Loc} {ls : Array Slot} (h : Inv u H locs ls) : W p l e R s m args below meth c H locs cells slots Q (F0 m pc ls stk) := by
  have k : ∀ (N : Nat) (u : σ) (H : Heap) (locs : List Loc) (ls : Array Slot), μ u < N → Inv u H locs ls → W p l e R s m args below meth c H locs cells slots Q (F0 m pc ls stk) := by
    intro N
    induction N with
    | zero => intro u H locs ls h; exact absurd h (Nat.not_lt_zero _)
    | succ N ih => exact body N ih
  exact k _ u H locs ls (Nat.lt_succ_self _) h
theorem i64_add {a b x : Int64} (e : x = a + b) (h1 : -9223372036854775808 ≤ a.toInt + b.toInt) (h2 : a.toInt + b.toInt ≤ 9223372036854775807) : x.toInt = a.toInt + b.toInt := by
  rw [e, Int64.toInt_add]
  exact Int.bmod_eq_of_le (by omega) (by omega)
theorem i64_sub {a b x : Int64} (e : x = a - b) (h1 : -9223372036854775808 ≤ a.toInt - b.toInt) (h2 : a.toInt - b.toInt ≤ 9223372036854775807) : x.toInt = a.toInt - b.toInt := by
  rw [e, Int64.toInt_sub]
  exact Int.bmod_eq_of_le (by omega) (by omega)
theorem i2l_t {a : Int32} {x : Int64} (e : x = a.toInt64) : x.toInt = a.toInt := by rw [e]; exact Int32.toInt_toInt64 a
theorem l2i_t {a : Int64} {x : Int32} (e : x = a.toInt32) (h1 : -2147483648 ≤ a.toInt) (h2 : a.toInt ≤ 2147483647) : x.toInt = a.toInt := by
  rw [e, Int64.toInt_toInt32]
  exact Int.bmod_eq_of_le (by omega) (by omega)
theorem lgc {a b : Int64} {x : Int32} (e : x = lg_cmp a b) : (x.toInt < 0 ↔ a.toInt < b.toInt) ∧ (x.toInt = 0 ↔ a.toInt = b.toInt) ∧ (0 < x.toInt ↔ b.toInt < a.toInt) := by
  have h1 := lg_cmp_lt a b
  have h2 := lg_cmp_eq a b
  have h3 := lg_cmp_gt a b
  rw [← e] at h1 h2 h3
  rw [Int32.lt_iff_toInt_lt, Int64.lt_iff_toInt_lt] at h1 h3
  rw [← Int32.toInt_inj, ← Int64.toInt_inj] at h2
  have k0 : (0 : Int32).toInt = 0 := by decide
  rw [k0] at h1 h2 h3
  exact ⟨h1, h2, h3⟩
theorem i64_lo (x : Int64) : -9223372036854775808 ≤ x.toInt := by have := Int64.le_toInt x; omega
theorem i64_hi (x : Int64) : x.toInt ≤ 9223372036854775807 := by have := Int64.toInt_lt x; omega
theorem ls_eq {l : List Value} {k : Nat} {v : Value} (h : k < l.length) : (l.set k v)[k]? = some v := by simp [h]
theorem ls_ne {l : List Value} {k j : Nat} {v w : Value} (h : l[j]? = some w) (hne : k ≠ j) : (l.set k v)[j]? = some w := by rw [List.getElem?_set_ne hne, h]
theorem ls_len {l : List Value} {k N : Nat} {v : Value} (h : l.length = N) : (l.set k v).length = N := by rw [List.length_set, h]
theorem zn01 {x : Int32} (h : x = 0 ∨ x = 1) : narrow .boolean (.int x) = .int x := by rcases h with rfl | rfl <;> rfl
def tab_off (dflt lo hi : Int) (offs : Array Int) (x : Int) : Int := if x < lo ∨ hi < x then dflt else (offs[(x - lo).toNat]?).getD 0
section TAB
variable {p : Program} {l : Launch} {e : Env} {R : Room} {s : State} {m : MethodId} {args : Array Value} {below : List Frame} {meth : Method} {c : Code} {H : Heap} {locs : List Loc} {cells slots : Nat} {Q : State → Prop} {cc : ByteArray} {pc : Nat} {ls : Array Slot} {rest : List Value}
/-- a table of jumps, in range or not -/
theorem lv_tab (hexec : p.tables.exec = Jvm.exec) (hb : c.code = cc) {dflt lo hi : Int} {offs : Array Int} {len : Nat} {x : Int32} {off : Int} {tgt : Nat} (hdg : decode cc pc = .ok (.tableswitch dflt lo hi offs, len)) (hsz : (offs.size : Int) = hi - lo + 1)
    (ho : tab_off dflt lo hi offs x.toInt = off) (ht : (pc : Int) + off = (tgt : Int)) (k : W p l e R s m args below meth c H locs cells slots Q (F0 m tgt ls rest)) : W p l e R s m args below meth c H locs cells slots Q (F0 m pc ls (.int x :: rest)) := by
  unfold tab_off at ho
  split at ho
  · rename_i h
    exact lv_tableOut hexec hb hdg h (by rw [ho]; exact ht) k
  · rename_i h
    have h1 : ¬ x.toInt < lo := fun z => h (Or.inl z)
    have h2 : ¬ hi < x.toInt := fun z => h (Or.inr z)
    have h3 : (x.toInt - lo).toNat < offs.size := by omega
    rw [Array.getElem?_eq_getElem h3] at ho
    exact lv_tableIn hexec hb hdg h1 h2 (by rw [Array.getElem?_eq_getElem h3]; exact congrArg some ho) ht k
end TAB
theorem lk_def : ∀ (r : List (Int × Int)) (d x : Int), (∀ q ∈ r, q.1 ≠ x) → Op.lookupswitch.offset r d x = d
  | [], d, x, _ => by first | rfl | simp [Op.lookupswitch.offset]
  | (a, o) :: r, d, x, h => by
    rw [Op.lookupswitch.offset_cons, if_neg (fun z => h (a, o) List.mem_cons_self z)]
    exact lk_def r d x (fun q hq => h q (List.mem_cons_of_mem _ hq))
/-- where roads meet: what is behind the meeting is shown once -/
theorem w_cut {p : Program} {l : Launch} {e : Env} {R : Room} {s : State} {m : MethodId} {args : Array Value} {below : List Frame} {meth : Method} {c : Code} {cells slots : Nat} {Q : State → Prop} {pc pc2 : Nat} {stk : List Value} {H : Heap} {locs : List Loc} {ls : Array Slot} {σ : Type} (Inv : σ → Heap → List Loc → Array Slot → Prop) (mk : σ → List Value)
    (k2 : ∀ (u : σ) (H : Heap) (locs : List Loc) (ls : Array Slot), Inv u H locs ls → W p l e R s m args below meth c H locs cells slots Q (F0 m pc2 ls (mk u)))
    (k1 : (∀ (u : σ) (H : Heap) (locs : List Loc) (ls : Array Slot), Inv u H locs ls → W p l e R s m args below meth c H locs cells slots Q (F0 m pc2 ls (mk u))) → W p l e R s m args below meth c H locs cells slots Q (F0 m pc ls stk)) :
    W p l e R s m args below meth c H locs cells slots Q (F0 m pc ls stk) := k1 k2
