/-! THE REFERENCE: names of the further classes, what is thrown is the one object Refused -/
def R_MR : String := "WaferForgeModel$Refused"
def F_MR : u_T := fun k => match k with
  | 0 => ("java/lang/Throwable", "backtrace", "Ljava/lang/Object;", false)
  | 1 => ("java/lang/Throwable", "detailMessage", "Ljava/lang/String;", false)
  | 2 => ("java/lang/Throwable", "cause", "Ljava/lang/Throwable;", false)
  | 3 => ("java/lang/Throwable", "stackTrace", "[Ljava/lang/StackTraceElement;", false)
  | 4 => ("java/lang/Throwable", "depth", "I", false)
  | 5 => ("java/lang/Throwable", "suppressedExceptions", "Ljava/util/List;", false)
  | 6 => ("WaferForgeModel$Refused", "reason", "I", false)
  | _ => ("WaferForgeModel$Refused", "place", "I", false)
def t_MR : Nat → FieldType := fun k => match k with
  | 0 => .object "java/lang/Object"
  | 1 => .object "java/lang/String"
  | 2 => .object "java/lang/Throwable"
  | 3 => .array (.object "java/lang/StackTraceElement")
  | 4 => .int
  | 5 => .object "java/util/List"
  | 6 => .int
  | _ => .int
theorem n_MR : ∀ a, a < 8 → ∀ b, b < 8 → a ≠ b → (F_MR a).2.1 ≠ (F_MR b).2.1 := by decide +kernel
theorem t_MR_ok : ∀ k, k < 8 → parseFieldDescriptor (F_MR k).2.2.1 = some (t_MR k) := by decide +kernel
theorem i_MR : ∀ w ∈ u_ws R_MR F_MR 8, w ∈ lw_g := in_gs [1751, 1750, 1747, 1748, 1770, 1749, 1766, 1768] (by decide +kernel) (by decide +kernel)
theorem kI_MR : Cond.initialized R_MR ∈ lw_g := in_g 18 (by decide +kernel) rfl
def F_JS : u_T := fun k => match k with
  | 0 => ("java/lang/String", "value", "[B", true)
  | 1 => ("java/lang/String", "coder", "B", true)
  | 2 => ("java/lang/String", "hash", "I", false)
  | _ => ("java/lang/String", "hashIsZero", "Z", false)
def t_JS : Nat → FieldType := fun k => match k with
  | 0 => .array .byte
  | 1 => .byte
  | 2 => .int
  | _ => .boolean
theorem n_JS : ∀ a, a < 4 → ∀ b, b < 4 → a ≠ b → (F_JS a).2.1 ≠ (F_JS b).2.1 := by decide +kernel
theorem t_JS_ok : ∀ k, k < 4 → parseFieldDescriptor (F_JS k).2.2.1 = some (t_JS k) := by decide +kernel
theorem i_JS : ∀ w ∈ u_ws R_JS F_JS 4, w ∈ lw_g := in_gs [2375, 2377, 2379, 2381] (by decide +kernel) (by decide +kernel)
def R_JB : String := "java/lang/StringBuilder"
def F_JB : u_T := fun k => match k with
  | 0 => ("java/lang/AbstractStringBuilder", "value", "[B", false)
  | 1 => ("java/lang/AbstractStringBuilder", "coder", "B", false)
  | 2 => ("java/lang/AbstractStringBuilder", "maybeLatin1", "Z", false)
  | _ => ("java/lang/AbstractStringBuilder", "count", "I", false)
def t_JB : Nat → FieldType := fun k => match k with
  | 0 => .array .byte
  | 1 => .byte
  | 2 => .boolean
  | _ => .int
theorem n_JB : ∀ a, a < 4 → ∀ b, b < 4 → a ≠ b → (F_JB a).2.1 ≠ (F_JB b).2.1 := by decide +kernel
theorem t_JB_ok : ∀ k, k < 4 → parseFieldDescriptor (F_JB k).2.2.1 = some (t_JB k) := by decide +kernel
theorem i_JB : ∀ w ∈ u_ws R_JB F_JB 4, w ∈ lw_g := in_gs [2157, 2159, 2161, 2163] (by decide +kernel) (by decide +kernel)
theorem kI_JB : Cond.initialized R_JB ∈ lw_g := in_g 31 (by decide +kernel) rfl
abbrev cls2 : List vw_C := [(R_WF, F_WF, 14), (R_BR, F_BR, 2), (R_CO, F_CO, 13), (R_CD, F_CD, 10), (R_MA, F_MA, 18), (R_NA, F_NA, 6), (R_PR, F_PR, 19), (R_RE, F_RE, 8), (R_SC, F_SC, 11), (R_VA, F_VA, 11), (R_WA, F_WA, 21), (R_MD, F_MD, 65), (R_MM, F_MM, 29), (R_MN, F_MN, 9), (R_MF, F_MF, 10), (R_MR, F_MR, 8), (R_JS, F_JS, 4), (R_JB, F_JB, 4)]
theorem sn_f {k : Nat} {a b n d h : String} {i : Nat} {s : State} {args : Array Value} (hs : sw_nest s) (hq : sw_nestF[k]? = some (a, i, b, n, d, h)) : (Cond.fieldLinkNest a i b n d h).before args s = true := va_Nw.use rfl (hs.1 _ (List.mem_of_getElem? hq))
def tr_v {S : Type} (pr : S → Prop) (a : Nat) (C : String) (pt : S → Prop) : Outcome → S → State → Prop := fun o u t => match o with | .returned v => v = none ∧ pr u | .threw x => pt u ∧ x = a ∧ xo C x t t.heap
def tr_i {S : Type} (pr : Int32 → S → Prop) (a : Nat) (C : String) (pt : S → Prop) : Outcome → S → State → Prop := fun o u t => match o with | .returned v => (∃ r : Int32, v = some (.int r) ∧ pr r u) | .threw x => pt u ∧ x = a ∧ xo C x t t.heap
def tr_l {S : Type} (pr : Int64 → S → Prop) (a : Nat) (C : String) (pt : S → Prop) : Outcome → S → State → Prop := fun o u t => match o with | .returned v => (∃ r : Int64, v = some (.long r) ∧ pr r u) | .threw x => pt u ∧ x = a ∧ xo C x t t.heap
section TRQ
variable {p : Program} {l : Launch} {e : Env} {R : Room} {s : State} {m : MethodId} {args : Array Value} {below : List Frame} {meth : Method} {c : Code} {H : Heap} {locs : List Loc} {cells slots mr sr mt st : Nat}
variable {A0 A1 : Nat → Prop} {H0 : Heap} {pc : Nat} {ls : Array Slot} {st0 rest : List Value} {a : Array Value} {Q : State → Prop} {free : Addr → Prop} {C : String} {S : Type} {B : S → State → Prop} {pt : S → Prop} {rx : Nat}
theorem tr_callv {pr : S → Prop} (hr : tz_Run p l e R s m args below meth c H locs cells slots (tz_k mr sr mt st) (F0 m pc ls st0) rest (tq_Q (tr_v pr rx C pt) B A1 a) free) (hS : va_S A0 H0 H locs) (hA : ∀ q, q < H.size → A1 q → A0 q) (hf : ∀ q, free q → A0 q)
    (kr : ∀ (u : S) (t : State) (H1 : Heap) (locs1 : List Loc), t.heap = H1 → s.vm.Alike t.vm → pr u → B u t → H.size ≤ H1.size → (∀ q : Nat, q < H.size → ¬ A1 q → H1[q]? = H[q]?) → va_S A0 H0 H1 locs1 → W p l e R s m args below meth c H1 locs1 (cells + mr) (slots + sr) Q (F0 m (pc + 3) ls rest))
    (kt : ∀ (x : Addr) (u : S) (t : State) (H1 : Heap) (locs1 : List Loc), t.heap = H1 → s.vm.Alike t.vm → pt u → (x = rx ∧ xo C x s H1) → B u t → H.size ≤ H1.size → (∀ q : Nat, q < H.size → ¬ A1 q → H1[q]? = H[q]?) → va_S A0 H0 H1 locs1 → tx_T p l e R s m args below meth c H1 locs1 (cells + mt) (slots + st) Q (F0 m pc ls rest) x) :
    W p l e R s m args below meth c H locs cells slots Q (F0 m pc ls st0) :=
  tq_core hr hS hA hf (fun v u t H1 locs1 h1 h2 h3 h4 h5 h6 h7 => by obtain ⟨rfl, h3⟩ := h3; exact kr u t H1 locs1 h1 h2 h3 h4 h5 h6 h7)
    (fun x u t H1 locs1 h1 h2 h3 h4 h5 h6 h7 => kt x u t H1 locs1 h1 h2 h3.1 ⟨h3.2.1, by rw [← h1]; exact h3.2.2.back h2⟩ h4 h5 h6 h7)
theorem tr_calli {pr : Int32 → S → Prop} (hr : tz_Run p l e R s m args below meth c H locs cells slots (tz_k mr sr mt st) (F0 m pc ls st0) rest (tq_Q (tr_i pr rx C pt) B A1 a) free) (hS : va_S A0 H0 H locs) (hA : ∀ q, q < H.size → A1 q → A0 q) (hf : ∀ q, free q → A0 q)
    (kr : ∀ (r : Int32) (u : S) (t : State) (H1 : Heap) (locs1 : List Loc), t.heap = H1 → s.vm.Alike t.vm → pr r u → B u t → H.size ≤ H1.size → (∀ q : Nat, q < H.size → ¬ A1 q → H1[q]? = H[q]?) → va_S A0 H0 H1 locs1 → W p l e R s m args below meth c H1 locs1 (cells + mr) (slots + sr) Q (F0 m (pc + 3) ls (.int r :: rest)))
    (kt : ∀ (x : Addr) (u : S) (t : State) (H1 : Heap) (locs1 : List Loc), t.heap = H1 → s.vm.Alike t.vm → pt u → (x = rx ∧ xo C x s H1) → B u t → H.size ≤ H1.size → (∀ q : Nat, q < H.size → ¬ A1 q → H1[q]? = H[q]?) → va_S A0 H0 H1 locs1 → tx_T p l e R s m args below meth c H1 locs1 (cells + mt) (slots + st) Q (F0 m pc ls rest) x) :
    W p l e R s m args below meth c H locs cells slots Q (F0 m pc ls st0) :=
  tq_core hr hS hA hf (fun v u t H1 locs1 h1 h2 h3 h4 h5 h6 h7 => by obtain ⟨r, rfl, h3⟩ := h3; exact kr r u t H1 locs1 h1 h2 h3 h4 h5 h6 h7)
    (fun x u t H1 locs1 h1 h2 h3 h4 h5 h6 h7 => kt x u t H1 locs1 h1 h2 h3.1 ⟨h3.2.1, by rw [← h1]; exact h3.2.2.back h2⟩ h4 h5 h6 h7)
theorem tr_calll {pr : Int64 → S → Prop} (hr : tz_Run p l e R s m args below meth c H locs cells slots (tz_k mr sr mt st) (F0 m pc ls st0) rest (tq_Q (tr_l pr rx C pt) B A1 a) free) (hS : va_S A0 H0 H locs) (hA : ∀ q, q < H.size → A1 q → A0 q) (hf : ∀ q, free q → A0 q)
    (kr : ∀ (r : Int64) (u : S) (t : State) (H1 : Heap) (locs1 : List Loc), t.heap = H1 → s.vm.Alike t.vm → pr r u → B u t → H.size ≤ H1.size → (∀ q : Nat, q < H.size → ¬ A1 q → H1[q]? = H[q]?) → va_S A0 H0 H1 locs1 → W p l e R s m args below meth c H1 locs1 (cells + mr) (slots + sr) Q (F0 m (pc + 3) ls (.long r :: rest)))
    (kt : ∀ (x : Addr) (u : S) (t : State) (H1 : Heap) (locs1 : List Loc), t.heap = H1 → s.vm.Alike t.vm → pt u → (x = rx ∧ xo C x s H1) → B u t → H.size ≤ H1.size → (∀ q : Nat, q < H.size → ¬ A1 q → H1[q]? = H[q]?) → va_S A0 H0 H1 locs1 → tx_T p l e R s m args below meth c H1 locs1 (cells + mt) (slots + st) Q (F0 m pc ls rest) x) :
    W p l e R s m args below meth c H locs cells slots Q (F0 m pc ls st0) :=
  tq_core hr hS hA hf (fun v u t H1 locs1 h1 h2 h3 h4 h5 h6 h7 => by obtain ⟨r, rfl, h3⟩ := h3; exact kr r u t H1 locs1 h1 h2 h3 h4 h5 h6 h7)
    (fun x u t H1 locs1 h1 h2 h3 h4 h5 h6 h7 => kt x u t H1 locs1 h1 h2 h3.1 ⟨h3.2.1, by rw [← h1]; exact h3.2.2.back h2⟩ h4 h5 h6 h7)
end TRQ
