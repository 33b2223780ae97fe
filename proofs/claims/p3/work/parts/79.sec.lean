/-! Coder: sections -/
def sec (id : Nat) (b : List Nat) : List Nat := id :: (leb 5 b.length ++ b)
def tyb (ps : List Nat) (g : Nat) : List Nat := 96 :: ps.length :: (ps ++ if g = 64 then [0] else [1, g])
def isT (tk : Nat → Int) (ft : Nat → Int32) (r : Nat) (e : List Nat) : Prop := ∃ ps : List Nat, (ps.length : Int) = tk r ∧ (∀ p ∈ ps, p = 127 ∨ p = 126) ∧ e = tyb ps (ft r).toInt.toNat
def tB (tk : Nat → Int) (ft : Nat → Int32) : List Nat → List Nat → Prop
  | [], bs => bs = []
  | r :: R, bs => ∃ e b : List Nat, bs = e ++ b ∧ isT tk ft r e ∧ tB tk ft R b
theorem tB_snoc {tk : Nat → Int} {ft : Nat → Int32} {r : Nat} {e : List Nat} (he : isT tk ft r e) : ∀ (R : List Nat) {bs : List Nat}, tB tk ft R bs → tB tk ft (R ++ [r]) (bs ++ e) := by
  intro R
  induction R with
  | nil =>
    intro bs h
    rw [show bs = [] from h]
    exact ⟨e, [], by rw [List.append_nil]; rfl, he, rfl⟩
  | cons x R ih =>
    intro bs h
    obtain ⟨e1, b, q1, q2, q3⟩ := h
    exact ⟨e1, b ++ e, by rw [q1, List.append_assoc], q2, ih q3⟩
/-- the types so far: R holds a function for each -/
def tyI (to : Nat → Int32) (tk : Nat → Int) (ft : Nat → Int32) : Nat → List Nat → Prop
  | 0, R => R = []
  | f + 1, R => ∃ R0 : List Nat, tyI to tk ft f R0 ∧ ((R = R0 ++ [f] ∧ (to f).toInt = R0.length) ∨ (R = R0 ∧ ∃ r, 0 ≤ (to f).toInt ∧ R0[(to f).toInt.toNat]? = some r ∧ tk r = tk f ∧ ft r = ft f))
theorem tyI_upd {to : Nat → Int32} {tk : Nat → Int} {ft : Nat → Int32} {k : Nat} {x : Int32} : ∀ (f : Nat) {R : List Nat}, f ≤ k → tyI to tk ft f R → tyI (upd to k x) tk ft f R := by
  intro f
  induction f with
  | zero => exact fun _ h => h
  | succ f ih =>
    intro R hk h
    obtain ⟨R0, h1, h2⟩ := h
    refine ⟨R0, ih (by omega) h1, ?_⟩
    rw [pk_un (show f ≠ k by omega)]
    exact h2
theorem tyI_len {to : Nat → Int32} {tk : Nat → Int} {ft : Nat → Int32} : ∀ (f : Nat) {R : List Nat}, tyI to tk ft f R → R.length ≤ f ∧ ∀ r ∈ R, r < f := by
  intro f
  induction f with
  | zero =>
    intro R h
    rw [show R = [] from h]
    exact ⟨Nat.le_refl _, fun r hr => by cases hr⟩
  | succ f ih =>
    intro R h
    obtain ⟨R0, h1, h2⟩ := h
    have q := ih h1
    rcases h2 with ⟨e, -⟩ | ⟨e, -⟩
    · rw [e, List.length_append, List.length_singleton]
      refine ⟨by omega, fun r hr => ?_⟩
      rcases List.mem_append.mp hr with w | w
      · have := q.2 r w; omega
      · rw [List.mem_singleton.mp w]; omega
    · rw [e]
      exact ⟨by omega, fun r hr => by have := q.2 r hr; omega⟩
theorem tyI_get {to : Nat → Int32} {tk : Nat → Int} {ft : Nat → Int32} : ∀ (f : Nat) {R : List Nat}, tyI to tk ft f R → ∀ g, g < f → 0 ≤ (to g).toInt ∧ ∃ r, R[(to g).toInt.toNat]? = some r ∧ tk r = tk g ∧ ft r = ft g := by
  intro f
  induction f with
  | zero => intro R _ g hg; omega
  | succ f ih =>
    intro R h g hg
    obtain ⟨R0, h1, h2⟩ := h
    rcases h2 with ⟨e, q⟩ | ⟨e, r, q0, q1, q2, q3⟩
    · by_cases z : g = f
      · subst z
        refine ⟨by omega, g, ?_, rfl, rfl⟩
        rw [e, show (to g).toInt.toNat = R0.length by omega, List.getElem?_append_right (Nat.le_refl _), Nat.sub_self]
        rfl
      · obtain ⟨w0, r, w1, w2⟩ := ih h1 g (by omega)
        refine ⟨w0, r, ?_, w2⟩
        have := (List.getElem?_eq_some_iff.mp w1).1
        rw [e, List.getElem?_append_left this]
        exact w1
    · rw [e]
      by_cases z : g = f
      · subst z
        exact ⟨q0, r, q1, q2, q3⟩
      · exact ih h1 g (by omega)
theorem tyI_uniq {to : Nat → Int32} {tk : Nat → Int} {ft : Nat → Int32} : ∀ (f : Nat) {R R2 : List Nat}, tyI to tk ft f R → tyI to tk ft f R2 → R = R2 := by
  intro f
  induction f with
  | zero =>
    intro R R2 h h2
    rw [show R = [] from h, show R2 = [] from h2]
  | succ f ih =>
    intro R R2 h h2
    obtain ⟨A, a1, a2⟩ := h
    obtain ⟨B, b1, b2⟩ := h2
    have e := ih a1 b1
    subst e
    rcases a2 with ⟨x1, x2⟩ | ⟨x1, r, x2, x3, -⟩
    · rcases b2 with ⟨y1, y2⟩ | ⟨y1, r, y2, y3, -⟩
      · rw [x1, y1]
      · have := (List.getElem?_eq_some_iff.mp y3).1
        omega
    · rcases b2 with ⟨y1, y2⟩ | ⟨y1, -⟩
      · have := (List.getElem?_eq_some_iff.mp x3).1
        omega
      · rw [x1, y1]
/-- within the loop over g: the type of f is a new one yet, or that of some g -/
def tyG (to : Nat → Int32) (tk : Nat → Int) (ft : Nat → Int32) (f : Nat) (R : List Nat) : Prop :=
  tyI to tk ft f R ∧ ((to f).toInt = R.length ∨ (0 ≤ (to f).toInt ∧ ∃ r, R[(to f).toInt.toNat]? = some r ∧ tk r = tk f ∧ ft r = ft f))
theorem tyG_0 {to : Nat → Int32} {tk : Nat → Int} {ft : Nat → Int32} {f : Nat} {R : List Nat} {x : Int32} (h : tyI to tk ft f R) (hx : x.toInt = R.length) : tyG (upd to f x) tk ft f R := ⟨tyI_upd f (Nat.le_refl _) h, Or.inl (by rw [pk_us]; exact hx)⟩
theorem tyG_on {to : Nat → Int32} {tk : Nat → Int} {ft : Nat → Int32} {f g : Nat} {R : List Nat} (h : tyG to tk ft f R) (hg : g < f) (h1 : tk f = tk g) (h2 : ft f = ft g) : tyG (upd to f (to g)) tk ft f R := by
  obtain ⟨q0, r, q1, q2, q3⟩ := tyI_get f h.1 g hg
  refine ⟨tyI_upd f (Nat.le_refl _) h.1, Or.inr ?_⟩
  rw [pk_us]
  exact ⟨q0, r, q1, q2.trans h1.symm, q3.trans h2.symm⟩
theorem tyG_new {to : Nat → Int32} {tk : Nat → Int} {ft : Nat → Int32} {f : Nat} {R : List Nat} (h : tyG to tk ft f R) (he : (to f).toInt = R.length) : tyI to tk ft (f + 1) (R ++ [f]) := ⟨R, h.1, Or.inl ⟨rfl, he⟩⟩
theorem tyG_old {to : Nat → Int32} {tk : Nat → Int} {ft : Nat → Int32} {f : Nat} {R : List Nat} (h : tyG to tk ft f R) (he : (to f).toInt ≠ R.length) : tyI to tk ft (f + 1) R := by
  rcases h.2 with w | ⟨w0, r, w1⟩
  · exact absurd w he
  · exact ⟨R, h.1, Or.inr ⟨rfl, r, w0, w1⟩⟩
/-- the types among the first f functions, and f: as the second loop sees them -/
theorem tyI_low {to : Nat → Int32} {tk : Nat → Int} {ft : Nat → Int32} : ∀ (n : Nat) {R : List Nat}, tyI to tk ft n R → ∀ f, f ≤ n → ∃ R0, tyI to tk ft f R0 := by
  intro n
  induction n with
  | zero =>
    intro R h f hf
    rw [show f = 0 by omega]
    exact ⟨R, h⟩
  | succ n ih =>
    intro R h f hf
    by_cases z : f = n + 1
    · rw [z]; exact ⟨R, h⟩
    · obtain ⟨R0, h1, -⟩ := h
      exact ih h1 f (by omega)
theorem tyI_new {to : Nat → Int32} {tk : Nat → Int} {ft : Nat → Int32} {n f : Nat} {R R0 : List Nat} (h : tyI to tk ft n R) (hf : f < n) (h0 : tyI to tk ft f R0) : ((to f).toInt = R0.length → tyI to tk ft (f + 1) (R0 ++ [f])) ∧ ((to f).toInt ≠ R0.length → tyI to tk ft (f + 1) R0) := by
  obtain ⟨R1, h1⟩ := tyI_low n h (f + 1) (by omega)
  obtain ⟨R2, q1, q2⟩ := h1
  have e := tyI_uniq f q1 h0
  subst e
  refine ⟨fun z => ⟨R2, h0, Or.inl ⟨rfl, z⟩⟩, fun z => ?_⟩
  rcases q2 with ⟨-, w⟩ | ⟨-, w⟩
  · exact absurd w z
  · exact ⟨R2, h0, Or.inr ⟨rfl, w⟩⟩
abbrev b_CO_putSection : ByteArray := prog_4_method_29_code
def y_CO_putSection : MethodName := ⟨R_CO, "putSection", "(LWaferForge$ByteRow;I)V"⟩
abbrev w_CO_putSection : List Cond := .code y_CO_putSection b_CO_putSection 3 none :: lw_g
theorem kC_CO_putSection : Cond.code y_CO_putSection b_CO_putSection 3 none ∈ lw_g := in_g 1238 (by decide +kernel) rfl
theorem d_CO_putSection_0 : decode b_CO_putSection 0 = .ok (.aload_n 1, 1) := by decide +kernel
theorem d_CO_putSection_1 : decode b_CO_putSection 1 = .ok (.iload_n 2, 1) := by decide +kernel
theorem d_CO_putSection_2 : decode b_CO_putSection 2 = .ok (.invokevirtual 76, 3) := by decide +kernel
theorem d_CO_putSection_5 : decode b_CO_putSection 5 = .ok (.aload_n 1, 1) := by decide +kernel
theorem d_CO_putSection_6 : decode b_CO_putSection 6 = .ok (.aload_n 0, 1) := by decide +kernel
theorem d_CO_putSection_7 : decode b_CO_putSection 7 = .ok (.getfield 33, 3) := by decide +kernel
theorem d_CO_putSection_10 : decode b_CO_putSection 10 = .ok (.getfield 64, 3) := by decide +kernel
theorem d_CO_putSection_13 : decode b_CO_putSection 13 = .ok (.invokevirtual 218, 3) := by decide +kernel
theorem d_CO_putSection_16 : decode b_CO_putSection 16 = .ok (.aload_n 1, 1) := by decide +kernel
theorem d_CO_putSection_17 : decode b_CO_putSection 17 = .ok (.aload_n 0, 1) := by decide +kernel
theorem d_CO_putSection_18 : decode b_CO_putSection 18 = .ok (.getfield 33, 3) := by decide +kernel
theorem d_CO_putSection_21 : decode b_CO_putSection 21 = .ok (.iconst 0, 1) := by decide +kernel
theorem d_CO_putSection_22 : decode b_CO_putSection 22 = .ok (.aload_n 0, 1) := by decide +kernel
theorem d_CO_putSection_23 : decode b_CO_putSection 23 = .ok (.getfield 33, 3) := by decide +kernel
theorem d_CO_putSection_26 : decode b_CO_putSection 26 = .ok (.getfield 64, 3) := by decide +kernel
theorem d_CO_putSection_29 : decode b_CO_putSection 29 = .ok (.invokevirtual 288, 3) := by decide +kernel
theorem d_CO_putSection_32 : decode b_CO_putSection 32 = .ok (.return_, 1) := by decide +kernel
abbrev at_CO_putSection (dC : Nat → ClassId) (dI : Nat → Nat → Nat) (h0 pr kn lt pe to bo cs se seb ow owb : Nat) (cseb cowb : ClassId) (h0_localCount : Int32) (h0_pendingCount : Int32) (h0_gives : Int32) (h0_depth : Int32) (h0_loopDepth : Int32) (se_length : Int32) (gseb : Nat → Int32) (A : Nat → Prop) (u : (Nat → Int32) × Int32) (t : State) : Prop := match u with | (gowb, ow_length) => va_P (dC, dI) cls [(h0, .inr (2, [.ref pr, .ref kn, .ref lt, .int h0_localCount, .ref pe, .int h0_pendingCount, .int h0_gives, .int h0_depth, .int h0_loopDepth, .ref to, .ref bo, .ref cs, .ref se])), (se, .inr (1, [.ref seb, .int se_length])), (seb, .inl (cseb, 8192, .inl gseb)), (ow, .inr (1, [.ref owb, .int ow_length])), (owb, .inl (cowb, 8192, .inl gowb))] t.heap ∧ va_K (dC, dI) cls [(cseb, .byte), (cowb, .byte)] t ∧ va_D A [(h0, .inr (2, [.ref pr, .ref kn, .ref lt, .int h0_localCount, .ref pe, .int h0_pendingCount, .int h0_gives, .int h0_depth, .int h0_loopDepth, .ref to, .ref bo, .ref cs, .ref se])), (se, .inr (1, [.ref seb, .int se_length])), (seb, .inl (cseb, 8192, .inl gseb)), (ow, .inr (1, [.ref owb, .int ow_length])), (owb, .inl (cowb, 8192, .inl gowb))]
set_option maxHeartbeats 4000000 in
set_option maxRecDepth 100000 in
theorem c_CO_putSection (l : Launch) (dC : Nat → ClassId) (dI : Nat → Nat → Nat) (sz : Nat) (h0 pr kn lt pe to bo cs se seb ow owb : Nat) (cseb cowb : ClassId) (h0_localCount : Int32) (h0_pendingCount : Int32) (h0_gives : Int32) (h0_depth : Int32) (h0_loopDepth : Int32) (se_length : Int32) (gseb : Nat → Int32) (ow_length : Int32) (gowb : Nat → Int32)  (b_se_length : 0 ≤ se_length.toInt ∧ se_length.toInt ≤ 8192) (b_ow_length : 0 ≤ ow_length.toInt ∧ ow_length.toInt ≤ 8192) (p1 : Int32)  (hid : 0 ≤ p1.toInt ∧ p1.toInt < 256) (hro : ow_length.toInt + se_length.toInt + 8 ≤ 8192) : Met l y_CO_putSection w_CO_putSection ({ frames := 2, cells := 0, slots := 0, locals := 45 }) (va_Pc [.ref h0, .ref ow, .int p1] (fun U => U.heap.size = sz ∧ va_P (dC, dI) cls [(h0, .inr (2, [.ref pr, .ref kn, .ref lt, .int h0_localCount, .ref pe, .int h0_pendingCount, .int h0_gives, .int h0_depth, .int h0_loopDepth, .ref to, .ref bo, .ref cs, .ref se])), (se, .inr (1, [.ref seb, .int se_length])), (seb, .inl (cseb, 8192, .inl gseb)), (ow, .inr (1, [.ref owb, .int ow_length])), (owb, .inl (cowb, 8192, .inl gowb))] U.heap ∧ va_K (dC, dI) cls [(cseb, .byte), (cowb, .byte)] U ∧ va_D (fun _ => True) [(h0, .inr (2, [.ref pr, .ref kn, .ref lt, .int h0_localCount, .ref pe, .int h0_pendingCount, .int h0_gives, .int h0_depth, .int h0_loopDepth, .ref to, .ref bo, .ref cs, .ref se])), (se, .inr (1, [.ref seb, .int se_length])), (seb, .inl (cseb, 8192, .inl gseb)), (ow, .inr (1, [.ref owb, .int ow_length])), (owb, .inl (cowb, 8192, .inl gowb))])) (va_Qv (fun (u : (Nat → Int32) × Int32) => match u with | (gowb2, ow_length2) => (0 ≤ ow_length2.toInt ∧ ow_length2.toInt ≤ 8192) ∧ (ow_length2.toInt = ow_length.toInt + ((sec p1.toInt.toNat (bl gseb se_length.toNatClampNeg)).length : Int) ∧ bl gowb2 ow_length2.toNatClampNeg = bl gowb ow_length.toNatClampNeg ++ sec p1.toInt.toNat (bl gseb se_length.toNatClampNeg))) (at_CO_putSection dC dI h0 pr kn lt pe to bo cs se seb ow owb cseb cowb h0_localCount h0_pendingCount h0_gives h0_depth h0_loopDepth se_length gseb (va_A [(h0, .inr (2, [.ref pr, .ref kn, .ref lt, .int h0_localCount, .ref pe, .int h0_pendingCount, .int h0_gives, .int h0_depth, .int h0_loopDepth, .ref to, .ref bo, .ref cs, .ref se])), (se, .inr (1, [.ref seb, .int se_length])), (seb, .inl (cseb, 8192, .inl gseb)), (ow, .inr (1, [.ref owb, .int ow_length])), (owb, .inl (cowb, 8192, .inl gowb))] sz)) (va_A [(h0, .inr (2, [.ref pr, .ref kn, .ref lt, .int h0_localCount, .ref pe, .int h0_pendingCount, .int h0_gives, .int h0_depth, .int h0_loopDepth, .ref to, .ref bo, .ref cs, .ref se])), (se, .inr (1, [.ref seb, .int se_length])), (seb, .inl (cseb, 8192, .inl gseb)), (ow, .inr (1, [.ref owb, .int ow_length])), (owb, .inl (cowb, 8192, .inl gowb))] sz)) 0 0 (va_A [(h0, .inr (2, [.ref pr, .ref kn, .ref lt, .int h0_localCount, .ref pe, .int h0_pendingCount, .int h0_gives, .int h0_depth, .int h0_loopDepth, .ref to, .ref bo, .ref cs, .ref se])), (se, .inr (1, [.ref seb, .int se_length])), (seb, .inl (cseb, 8192, .inl gseb)), (ow, .inr (1, [.ref owb, .int ow_length])), (owb, .inl (cowb, 8192, .inl gowb))] sz) := by
  refine Met.ofW (cc := b_CO_putSection) (maxL := 3) (ret := none) (by decide) rfl ?_
  intro p e s m args below meth c s₁ B hml hv
  obtain ⟨rfl, hsz, hP, hK, hD0⟩ := hv
  have hx := B.exec
  have hb := B.bytes
  have hr := B.returns
  have hts0 := atoms_spec (ws := w_CO_putSection) B.pre
  have hts : ∀ w ∈ lw_g, w.before _ s = true := fun w h => hts0 w (List.mem_cons_of_mem _ h)
  have hown : s.vm.findClass R_CO = some m.cls := findClass_of_methodNamed B.named
  have hlocks := B.notSynchronized
  clear hts0
  subst hsz
  have hD := hD0.self (sz := s.heap.size)
  generalize hAe : va_A [(h0, .inr (2, [.ref pr, .ref kn, .ref lt, .int h0_localCount, .ref pe, .int h0_pendingCount, .int h0_gives, .int h0_depth, .int h0_loopDepth, .ref to, .ref bo, .ref cs, .ref se])), (se, .inr (1, [.ref seb, .int se_length])), (seb, .inl (cseb, 8192, .inl gseb)), (ow, .inr (1, [.ref owb, .int ow_length])), (owb, .inl (cowb, 8192, .inl gowb))] s.heap.size = A at hD ⊢
  have hA : ∀ q : Nat, s.heap.size ≤ q → A q := fun q h => by rw [← hAe]; exact Or.inr h
  clear hAe
  have hP : va_P (dC, dI) cls [(h0, .inr (2, [.ref pr, .ref kn, .ref lt, .int h0_localCount, .ref pe, .int h0_pendingCount, .int h0_gives, .int h0_depth, .int h0_loopDepth, .ref to, .ref bo, .ref cs, .ref se])), (se, .inr (1, [.ref seb, .int se_length])), (seb, .inl (cseb, 8192, .inl gseb)), (ow, .inr (1, [.ref owb, .int ow_length])), (owb, .inl (cowb, 8192, .inl gowb))] s.heap := hP
  have hl := lv_entry ([.ref h0, .ref ow, .int p1]) (n := 3) (Nat.le_of_ble_eq_true rfl)
  rw [lg_entry_eq]
  generalize (lg_sl ([.ref h0, .ref ow, .int p1]) ++ List.replicate (3 - (lg_sl ([.ref h0, .ref ow, .int p1])).length) Slot.unset).toArray = ls at hl ⊢
  have hl : lv_has ls 3 [(0, .ref h0), (1, .ref ow), (2, .int p1)] := hl
  have k0 : (0 : Int32).toInt = 0 := by decide
  refine w_gen (A := A) hP (fun H locs hP hS => ?_)
  have lo_p1 := i32_lo p1
  have hi_p1 := i32_hi p1
  have usz : un se_length = se_length.toNatClampNeg := by rw [un_nat (by omega)]; have := i32_clamp (x := se_length) (by omega); omega
  have zse := i32_clamp (x := se_length) (by omega)
  have ulb := leb_len 5 (un se_length)
  refine lv_aload_n hx hb d_CO_putSection_0 rfl (lv_at hl 1 rfl) ?_
  refine lv_iload_n hx hb d_CO_putSection_1 rfl (lv_at hl 2 rfl) ?_
  have hPc := hP.sub (ws' := [(ow, .inr (1, [.ref owb, .int ow_length])), (owb, .inl (cowb, 8192, .inl gowb))]) [3, 4] rfl
  have hDc := hD.sub (ws' := [(ow, .inr (1, [.ref owb, .int ow_length])), (owb, .inl (cowb, 8192, .inl gowb))]) [3, 4] (by decide) rfl
  have hKc := hK.sub (tys' := [(cowb, .byte)]) [1] rfl
  have hFc := va_free (wc := [(ow, .inr (1, [.ref owb, .int ow_length])), (owb, .inl (cowb, 8192, .inl gowb))]) hD hS hA [3, 4] rfl
  refine va_callv (va_runV (As := [.int p1]) (rest := []) ⟨hx, hb, hml, hown, hts⟩ (c_BR_put l dC dI ow owb H.size cowb 8192 ow_length gowb (by omega) (by omega) (by omega) p1) (cwV 1 hts (gV kM_CO_76 kV_BR_put kS_BR_put kI_BR kC_BR_put) rfl rfl rfl (by decide +kernel) ⟨Nat.le_of_ble_eq_true rfl, Nat.le_of_ble_eq_true rfl⟩) ⟨fun a U g mk z => by obtain ⟨z0, z1, zP, zK, zD⟩ := z; exact ⟨z0, z1, zP, va_K.moved (u := U) (U := U.calling g mk a) (Vm.Alike.refl U.vm) zK, zD⟩, va_recv hKc hPc (ci := 1) (q0 := 0) rfl rfl, fun U hU hW => ⟨rfl, by rw [hU], by rw [hU]; exact hPc, va_K.moved hW.alike hKc, hDc.weaken (fun _ _ _ _ => trivial)⟩⟩ rfl rfl hl.1 rfl (lv_room (Nat.le_of_ble_eq_true rfl)) d_CO_putSection_2 ⟨(Nat.zero_le _), (Nat.zero_le _)⟩) hS (fun q _ h => hFc q h) hFc (fun u t H1 locs ht hvm hw hB hz1 hk1 hS => ?_)
  obtain ⟨n2, f3⟩ := u
  try dsimp only at hw
  have tn2 := br_put_in (by omega) (by omega) (by omega) hw
  have bn2 := br_put_bl (by omega) (by omega) (by omega) hw
  obtain ⟨hP1, hK1, hD1⟩ := hB
  rw [ht] at hP1
  obtain ⟨hP, hD⟩ := va_join (wr := [(h0, .inr (2, [.ref pr, .ref kn, .ref lt, .int h0_localCount, .ref pe, .int h0_pendingCount, .int h0_gives, .int h0_depth, .int h0_loopDepth, .ref to, .ref bo, .ref cs, .ref se])), (se, .inr (1, [.ref seb, .int se_length])), (seb, .inl (cseb, 8192, .inl gseb))]) (w1 := [(ow, .inr (1, [.ref owb, .int n2])), (owb, .inl (cowb, 8192, .inl f3))]) hP hD [3, 4] [0, 1, 2] rfl rfl (by decide) (by decide) hk1 hFc hP1 hD1
  clear hPc hDc hKc hFc hz1 hk1 hP1 hK1 hD1
  generalize H1 = H at hP hS ⊢
  have hP : va_P (dC, dI) cls [(h0, .inr (2, [.ref pr, .ref kn, .ref lt, .int h0_localCount, .ref pe, .int h0_pendingCount, .int h0_gives, .int h0_depth, .int h0_loopDepth, .ref to, .ref bo, .ref cs, .ref se])), (se, .inr (1, [.ref seb, .int se_length])), (seb, .inl (cseb, 8192, .inl gseb)), (ow, .inr (1, [.ref owb, .int n2])), (owb, .inl (cowb, 8192, .inl f3))] H := hP
  have hD : va_D A [(h0, .inr (2, [.ref pr, .ref kn, .ref lt, .int h0_localCount, .ref pe, .int h0_pendingCount, .int h0_gives, .int h0_depth, .int h0_loopDepth, .ref to, .ref bo, .ref cs, .ref se])), (se, .inr (1, [.ref seb, .int se_length])), (seb, .inl (cseb, 8192, .inl gseb)), (ow, .inr (1, [.ref owb, .int n2])), (owb, .inl (cowb, 8192, .inl f3))] := hD
  refine lv_aload_n hx hb d_CO_putSection_5 rfl (lv_at hl 1 rfl) ?_
  refine lv_aload_n hx hb d_CO_putSection_6 rfl (lv_at hl 0 rfl) ?_
  refine va_get (D := (dC, dI)) (ci := 2) (v := .ref se) (C := R_CO) (T := F_CO) (N := 13) hx hb hts i_CO hown hK hP 0 rfl rfl 12 (by decide) (hts _ kF_CO_33) (fun _ h9 => h9) rfl d_CO_putSection_7 ?_
  refine va_get (D := (dC, dI)) (ci := 1) (v := .int se_length) (C := R_BR) (T := F_BR) (N := 2) hx hb hts i_BR hown hK hP 1 rfl rfl 1 (by decide) (hts _ kF_CO_64) (fun _ h9 => h9) rfl d_CO_putSection_10 ?_
  have hPc := hP.sub (ws' := [(ow, .inr (1, [.ref owb, .int n2])), (owb, .inl (cowb, 8192, .inl f3))]) [3, 4] rfl
  have hDc := hD.sub (ws' := [(ow, .inr (1, [.ref owb, .int n2])), (owb, .inl (cowb, 8192, .inl f3))]) [3, 4] (by decide) rfl
  have hKc := hK.sub (tys' := [(cowb, .byte)]) [1] rfl
  have hFc := va_free (wc := [(ow, .inr (1, [.ref owb, .int n2])), (owb, .inl (cowb, 8192, .inl f3))]) hD hS hA [3, 4] rfl
  refine va_callv (va_runV (As := [.int se_length]) (rest := []) ⟨hx, hb, hml, hown, hts⟩ (c_BR_putUnsigned l dC dI ow owb H.size cowb 8192 n2 f3 (by omega) (by omega) (by omega) se_length (by omega)) (cwV 1 hts (gV kM_CO_218 kV_BR_putUnsigned kS_BR_putUnsigned kI_BR kC_BR_putUnsigned) rfl rfl rfl (by decide +kernel) ⟨Nat.le_of_ble_eq_true rfl, Nat.le_of_ble_eq_true rfl⟩) ⟨fun a U g mk z => by obtain ⟨z0, z1, zP, zK, zD⟩ := z; exact ⟨z0, z1, zP, va_K.moved (u := U) (U := U.calling g mk a) (Vm.Alike.refl U.vm) zK, zD⟩, va_recv hKc hPc (ci := 1) (q0 := 0) rfl rfl, fun U hU hW => ⟨rfl, by rw [hU], by rw [hU]; exact hPc, va_K.moved hW.alike hKc, hDc.weaken (fun _ _ _ _ => trivial)⟩⟩ rfl rfl hl.1 rfl (lv_room (Nat.le_of_ble_eq_true rfl)) d_CO_putSection_13 ⟨(Nat.zero_le _), (Nat.zero_le _)⟩) hS (fun q _ h => hFc q h) hFc (fun u t H1 locs ht hvm hw hB hz1 hk1 hS => ?_)
  obtain ⟨n5, f6⟩ := u
  try dsimp only at hw
  obtain ⟨tn5, bn5⟩ := hw
  have ln5 := leb_len 5 (un se_length)
  obtain ⟨hP1, hK1, hD1⟩ := hB
  rw [ht] at hP1
  obtain ⟨hP, hD⟩ := va_join (wr := [(h0, .inr (2, [.ref pr, .ref kn, .ref lt, .int h0_localCount, .ref pe, .int h0_pendingCount, .int h0_gives, .int h0_depth, .int h0_loopDepth, .ref to, .ref bo, .ref cs, .ref se])), (se, .inr (1, [.ref seb, .int se_length])), (seb, .inl (cseb, 8192, .inl gseb))]) (w1 := [(ow, .inr (1, [.ref owb, .int n5])), (owb, .inl (cowb, 8192, .inl f6))]) hP hD [3, 4] [0, 1, 2] rfl rfl (by decide) (by decide) hk1 hFc hP1 hD1
  clear hPc hDc hKc hFc hz1 hk1 hP1 hK1 hD1
  generalize H1 = H at hP hS ⊢
  have hP : va_P (dC, dI) cls [(h0, .inr (2, [.ref pr, .ref kn, .ref lt, .int h0_localCount, .ref pe, .int h0_pendingCount, .int h0_gives, .int h0_depth, .int h0_loopDepth, .ref to, .ref bo, .ref cs, .ref se])), (se, .inr (1, [.ref seb, .int se_length])), (seb, .inl (cseb, 8192, .inl gseb)), (ow, .inr (1, [.ref owb, .int n5])), (owb, .inl (cowb, 8192, .inl f6))] H := hP
  have hD : va_D A [(h0, .inr (2, [.ref pr, .ref kn, .ref lt, .int h0_localCount, .ref pe, .int h0_pendingCount, .int h0_gives, .int h0_depth, .int h0_loopDepth, .ref to, .ref bo, .ref cs, .ref se])), (se, .inr (1, [.ref seb, .int se_length])), (seb, .inl (cseb, 8192, .inl gseb)), (ow, .inr (1, [.ref owb, .int n5])), (owb, .inl (cowb, 8192, .inl f6))] := hD
  refine lv_aload_n hx hb d_CO_putSection_16 rfl (lv_at hl 1 rfl) ?_
  refine lv_aload_n hx hb d_CO_putSection_17 rfl (lv_at hl 0 rfl) ?_
  refine va_get (D := (dC, dI)) (ci := 2) (v := .ref se) (C := R_CO) (T := F_CO) (N := 13) hx hb hts i_CO hown hK hP 0 rfl rfl 12 (by decide) (hts _ kF_CO_33) (fun _ h9 => h9) rfl d_CO_putSection_18 ?_
  refine lv_iconst (v := 0) hx hb d_CO_putSection_21 (by decide) ?_
  refine lv_aload_n hx hb d_CO_putSection_22 rfl (lv_at hl 0 rfl) ?_
  refine va_get (D := (dC, dI)) (ci := 2) (v := .ref se) (C := R_CO) (T := F_CO) (N := 13) hx hb hts i_CO hown hK hP 0 rfl rfl 12 (by decide) (hts _ kF_CO_33) (fun _ h9 => h9) rfl d_CO_putSection_23 ?_
  refine va_get (D := (dC, dI)) (ci := 1) (v := .int se_length) (C := R_BR) (T := F_BR) (N := 2) hx hb hts i_BR hown hK hP 1 rfl rfl 1 (by decide) (hts _ kF_CO_64) (fun _ h9 => h9) rfl d_CO_putSection_26 ?_
  have hPc := hP.sub (ws' := [(ow, .inr (1, [.ref owb, .int n5])), (owb, .inl (cowb, 8192, .inl f6)), (se, .inr (1, [.ref seb, .int se_length])), (seb, .inl (cseb, 8192, .inl gseb))]) [3, 4, 1, 2] rfl
  have hDc := hD.sub (ws' := [(ow, .inr (1, [.ref owb, .int n5])), (owb, .inl (cowb, 8192, .inl f6)), (se, .inr (1, [.ref seb, .int se_length])), (seb, .inl (cseb, 8192, .inl gseb))]) [3, 4, 1, 2] (by decide) rfl
  have hKc := hK.sub (tys' := [(cowb, .byte), (cseb, .byte)]) [1, 0] rfl
  have hFc := va_free (wc := [(ow, .inr (1, [.ref owb, .int n5])), (owb, .inl (cowb, 8192, .inl f6)), (se, .inr (1, [.ref seb, .int se_length])), (seb, .inl (cseb, 8192, .inl gseb))]) hD hS hA [3, 4, 1, 2] rfl
  refine va_callv (va_runV (As := [.ref se, .int 0, .int se_length]) (rest := []) ⟨hx, hb, hml, hown, hts⟩ (c_BR_putPart l dC dI ow owb se seb H.size cowb cseb 8192 8192 n5 se_length f6 gseb (by omega) (by omega) (by omega) (by omega) (by omega) (by omega) 0 se_length (by omega) (by omega) (by omega) (by omega)) (cwV 3 hts (gV kM_CO_288 kV_BR_putPart kS_BR_putPart kI_BR kC_BR_putPart) rfl rfl rfl (by decide +kernel) ⟨Nat.le_of_ble_eq_true rfl, Nat.le_of_ble_eq_true rfl⟩) ⟨fun a U g mk z => by obtain ⟨z0, z1, zP, zK, zD⟩ := z; exact ⟨z0, z1, zP, va_K.moved (u := U) (U := U.calling g mk a) (Vm.Alike.refl U.vm) zK, zD⟩, va_recv hKc hPc (ci := 1) (q0 := 0) rfl rfl, fun U hU hW => ⟨rfl, by rw [hU], by rw [hU]; exact hPc, va_K.moved hW.alike hKc, hDc.weaken (fun _ _ _ _ => trivial)⟩⟩ rfl rfl hl.1 rfl (lv_room (Nat.le_of_ble_eq_true rfl)) d_CO_putSection_29 ⟨(Nat.zero_le _), (Nat.zero_le _)⟩) hS (fun q _ h => hFc q h) hFc (fun u t H1 locs ht hvm hw hB hz1 hk1 hS => ?_)
  obtain ⟨n8, f9⟩ := u
  try dsimp only at hw
  obtain ⟨tn8, bn8⟩ := hw
  obtain ⟨hP1, hK1, hD1⟩ := hB
  rw [ht] at hP1
  obtain ⟨hP, hD⟩ := va_join (wr := [(h0, .inr (2, [.ref pr, .ref kn, .ref lt, .int h0_localCount, .ref pe, .int h0_pendingCount, .int h0_gives, .int h0_depth, .int h0_loopDepth, .ref to, .ref bo, .ref cs, .ref se]))]) (w1 := [(ow, .inr (1, [.ref owb, .int n8])), (owb, .inl (cowb, 8192, .inl f9)), (se, .inr (1, [.ref seb, .int se_length])), (seb, .inl (cseb, 8192, .inl gseb))]) hP hD [3, 4, 1, 2] [0] rfl rfl (by decide) (by decide) hk1 hFc hP1 hD1
  clear hPc hDc hKc hFc hz1 hk1 hP1 hK1 hD1
  generalize H1 = H at hP hS ⊢
  have hP : va_P (dC, dI) cls [(h0, .inr (2, [.ref pr, .ref kn, .ref lt, .int h0_localCount, .ref pe, .int h0_pendingCount, .int h0_gives, .int h0_depth, .int h0_loopDepth, .ref to, .ref bo, .ref cs, .ref se])), (ow, .inr (1, [.ref owb, .int n8])), (owb, .inl (cowb, 8192, .inl f9)), (se, .inr (1, [.ref seb, .int se_length])), (seb, .inl (cseb, 8192, .inl gseb))] H := hP
  have hD : va_D A [(h0, .inr (2, [.ref pr, .ref kn, .ref lt, .int h0_localCount, .ref pe, .int h0_pendingCount, .int h0_gives, .int h0_depth, .int h0_loopDepth, .ref to, .ref bo, .ref cs, .ref se])), (ow, .inr (1, [.ref owb, .int n8])), (owb, .inl (cowb, 8192, .inl f9)), (se, .inr (1, [.ref seb, .int se_length])), (seb, .inl (cseb, 8192, .inl gseb))] := hD
  have hP9 := hP.sub (ws' := [(h0, .inr (2, [.ref pr, .ref kn, .ref lt, .int h0_localCount, .ref pe, .int h0_pendingCount, .int h0_gives, .int h0_depth, .int h0_loopDepth, .ref to, .ref bo, .ref cs, .ref se])), (se, .inr (1, [.ref seb, .int se_length])), (seb, .inl (cseb, 8192, .inl gseb)), (ow, .inr (1, [.ref owb, .int n8])), (owb, .inl (cowb, 8192, .inl f9))]) [0, 3, 4, 1, 2] rfl
  have hD9 := hD.sub (ws' := [(h0, .inr (2, [.ref pr, .ref kn, .ref lt, .int h0_localCount, .ref pe, .int h0_pendingCount, .int h0_gives, .int h0_depth, .int h0_loopDepth, .ref to, .ref bo, .ref cs, .ref se])), (se, .inr (1, [.ref seb, .int se_length])), (seb, .inl (cseb, 8192, .inl gseb)), (ow, .inr (1, [.ref owb, .int n8])), (owb, .inl (cowb, 8192, .inl f9))]) [0, 3, 4, 1, 2] (by decide) rfl
  exact W.vret hx hb hr (fun t ht hW => ⟨⟨(f9, n8), rfl, ⟨by (try dsimp only) <;> omega, ⟨by unfold sec; rw [List.length_cons, List.length_append, bl_len, ← usz]; (try dsimp only) <;> omega, by (try dsimp only); rw [bn8, bn5, bn2 (by omega), show (0 : Int32).toNatClampNeg = 0 from rfl, List.drop_zero, List.take_of_length_le (by rw [bl_len]; exact Nat.le_refl _), bn_s (by omega) (by omega)]; unfold sec; rw [bl_len, ← usz]; simp only [List.append_assoc]; rfl⟩⟩, by rw [ht]; exact hP9, va_K.moved hW.alike hK, hD9⟩, hS.F ht⟩) hS.2.2 d_CO_putSection_32
abbrev b_CO_isSameType : ByteArray := prog_4_method_22_code
def y_CO_isSameType : MethodName := ⟨R_CO, "isSameType", "(II)Z"⟩
abbrev w_CO_isSameType : List Cond := .code y_CO_isSameType b_CO_isSameType 7 (Option.some .boolean) :: lw_g
theorem kC_CO_isSameType : Cond.code y_CO_isSameType b_CO_isSameType 7 (Option.some .boolean) ∈ lw_g := in_g 1230 (by decide +kernel) rfl
theorem d_CO_isSameType_0 : decode b_CO_isSameType 0 = .ok (.aload_n 0, 1) := by decide +kernel
theorem d_CO_isSameType_1 : decode b_CO_isSameType 1 = .ok (.getfield 36, 3) := by decide +kernel
theorem d_CO_isSameType_4 : decode b_CO_isSameType 4 = .ok (.getfield 127, 3) := by decide +kernel
theorem d_CO_isSameType_7 : decode b_CO_isSameType 7 = .ok (.iload_n 1, 1) := by decide +kernel
theorem d_CO_isSameType_8 : decode b_CO_isSameType 8 = .ok (.iaload, 1) := by decide +kernel
theorem d_CO_isSameType_9 : decode b_CO_isSameType 9 = .ok (.istore_n 3, 1) := by decide +kernel
theorem d_CO_isSameType_10 : decode b_CO_isSameType 10 = .ok (.aload_n 0, 1) := by decide +kernel
theorem d_CO_isSameType_11 : decode b_CO_isSameType 11 = .ok (.getfield 36, 3) := by decide +kernel
theorem d_CO_isSameType_14 : decode b_CO_isSameType 14 = .ok (.getfield 127, 3) := by decide +kernel
theorem d_CO_isSameType_17 : decode b_CO_isSameType 17 = .ok (.iload_n 2, 1) := by decide +kernel
theorem d_CO_isSameType_18 : decode b_CO_isSameType 18 = .ok (.iaload, 1) := by decide +kernel
theorem d_CO_isSameType_19 : decode b_CO_isSameType 19 = .ok (.istore 4, 2) := by decide +kernel
theorem d_CO_isSameType_21 : decode b_CO_isSameType 21 = .ok (.aload_n 0, 1) := by decide +kernel
theorem d_CO_isSameType_22 : decode b_CO_isSameType 22 = .ok (.getfield 36, 3) := by decide +kernel
theorem d_CO_isSameType_25 : decode b_CO_isSameType 25 = .ok (.getfield 127, 3) := by decide +kernel
theorem d_CO_isSameType_28 : decode b_CO_isSameType 28 = .ok (.iload_n 1, 1) := by decide +kernel
theorem d_CO_isSameType_29 : decode b_CO_isSameType 29 = .ok (.iconst 1, 1) := by decide +kernel
theorem d_CO_isSameType_30 : decode b_CO_isSameType 30 = .ok (.iadd, 1) := by decide +kernel
theorem d_CO_isSameType_31 : decode b_CO_isSameType 31 = .ok (.iaload, 1) := by decide +kernel
theorem d_CO_isSameType_32 : decode b_CO_isSameType 32 = .ok (.iload_n 3, 1) := by decide +kernel
theorem d_CO_isSameType_33 : decode b_CO_isSameType 33 = .ok (.isub, 1) := by decide +kernel
theorem d_CO_isSameType_34 : decode b_CO_isSameType 34 = .ok (.istore 5, 2) := by decide +kernel
theorem d_CO_isSameType_36 : decode b_CO_isSameType 36 = .ok (.aload_n 0, 1) := by decide +kernel
theorem d_CO_isSameType_37 : decode b_CO_isSameType 37 = .ok (.getfield 36, 3) := by decide +kernel
theorem d_CO_isSameType_40 : decode b_CO_isSameType 40 = .ok (.getfield 61, 3) := by decide +kernel
theorem d_CO_isSameType_43 : decode b_CO_isSameType 43 = .ok (.getfield 121, 3) := by decide +kernel
theorem d_CO_isSameType_46 : decode b_CO_isSameType 46 = .ok (.iload_n 1, 1) := by decide +kernel
theorem d_CO_isSameType_47 : decode b_CO_isSameType 47 = .ok (.iaload, 1) := by decide +kernel
theorem d_CO_isSameType_48 : decode b_CO_isSameType 48 = .ok (.aload_n 0, 1) := by decide +kernel
theorem d_CO_isSameType_49 : decode b_CO_isSameType 49 = .ok (.getfield 36, 3) := by decide +kernel
theorem d_CO_isSameType_52 : decode b_CO_isSameType 52 = .ok (.getfield 61, 3) := by decide +kernel
theorem d_CO_isSameType_55 : decode b_CO_isSameType 55 = .ok (.getfield 121, 3) := by decide +kernel
theorem d_CO_isSameType_58 : decode b_CO_isSameType 58 = .ok (.iload_n 2, 1) := by decide +kernel
theorem d_CO_isSameType_59 : decode b_CO_isSameType 59 = .ok (.iaload, 1) := by decide +kernel
theorem d_CO_isSameType_60 : decode b_CO_isSameType 60 = .ok (.if_icmp .ne 22, 3) := by decide +kernel
theorem d_CO_isSameType_63 : decode b_CO_isSameType 63 = .ok (.iload 5, 2) := by decide +kernel
theorem d_CO_isSameType_65 : decode b_CO_isSameType 65 = .ok (.aload_n 0, 1) := by decide +kernel
theorem d_CO_isSameType_66 : decode b_CO_isSameType 66 = .ok (.getfield 36, 3) := by decide +kernel
theorem d_CO_isSameType_69 : decode b_CO_isSameType 69 = .ok (.getfield 127, 3) := by decide +kernel
theorem d_CO_isSameType_72 : decode b_CO_isSameType 72 = .ok (.iload_n 2, 1) := by decide +kernel
theorem d_CO_isSameType_73 : decode b_CO_isSameType 73 = .ok (.iconst 1, 1) := by decide +kernel
theorem d_CO_isSameType_74 : decode b_CO_isSameType 74 = .ok (.iadd, 1) := by decide +kernel
theorem d_CO_isSameType_75 : decode b_CO_isSameType 75 = .ok (.iaload, 1) := by decide +kernel
theorem d_CO_isSameType_76 : decode b_CO_isSameType 76 = .ok (.iload 4, 2) := by decide +kernel
theorem d_CO_isSameType_78 : decode b_CO_isSameType 78 = .ok (.isub, 1) := by decide +kernel
theorem d_CO_isSameType_79 : decode b_CO_isSameType 79 = .ok (.if_icmp .eq 5, 3) := by decide +kernel
theorem d_CO_isSameType_82 : decode b_CO_isSameType 82 = .ok (.iconst 0, 1) := by decide +kernel
theorem d_CO_isSameType_83 : decode b_CO_isSameType 83 = .ok (.ireturn, 1) := by decide +kernel
theorem d_CO_isSameType_84 : decode b_CO_isSameType 84 = .ok (.iconst 0, 1) := by decide +kernel
theorem d_CO_isSameType_85 : decode b_CO_isSameType 85 = .ok (.istore 6, 2) := by decide +kernel
theorem d_CO_isSameType_87 : decode b_CO_isSameType 87 = .ok (.iload 6, 2) := by decide +kernel
theorem d_CO_isSameType_89 : decode b_CO_isSameType 89 = .ok (.iload 5, 2) := by decide +kernel
theorem d_CO_isSameType_91 : decode b_CO_isSameType 91 = .ok (.if_icmp .ge 45, 3) := by decide +kernel
theorem d_CO_isSameType_94 : decode b_CO_isSameType 94 = .ok (.aload_n 0, 1) := by decide +kernel
theorem d_CO_isSameType_95 : decode b_CO_isSameType 95 = .ok (.getfield 36, 3) := by decide +kernel
theorem d_CO_isSameType_98 : decode b_CO_isSameType 98 = .ok (.getfield 130, 3) := by decide +kernel
theorem d_CO_isSameType_101 : decode b_CO_isSameType 101 = .ok (.getfield 121, 3) := by decide +kernel
theorem d_CO_isSameType_104 : decode b_CO_isSameType 104 = .ok (.iload_n 3, 1) := by decide +kernel
theorem d_CO_isSameType_105 : decode b_CO_isSameType 105 = .ok (.iload 6, 2) := by decide +kernel
theorem d_CO_isSameType_107 : decode b_CO_isSameType 107 = .ok (.iadd, 1) := by decide +kernel
theorem d_CO_isSameType_108 : decode b_CO_isSameType 108 = .ok (.iaload, 1) := by decide +kernel
theorem d_CO_isSameType_109 : decode b_CO_isSameType 109 = .ok (.aload_n 0, 1) := by decide +kernel
theorem d_CO_isSameType_110 : decode b_CO_isSameType 110 = .ok (.getfield 36, 3) := by decide +kernel
theorem d_CO_isSameType_113 : decode b_CO_isSameType 113 = .ok (.getfield 130, 3) := by decide +kernel
theorem d_CO_isSameType_116 : decode b_CO_isSameType 116 = .ok (.getfield 121, 3) := by decide +kernel
theorem d_CO_isSameType_119 : decode b_CO_isSameType 119 = .ok (.iload 4, 2) := by decide +kernel
theorem d_CO_isSameType_121 : decode b_CO_isSameType 121 = .ok (.iload 6, 2) := by decide +kernel
theorem d_CO_isSameType_123 : decode b_CO_isSameType 123 = .ok (.iadd, 1) := by decide +kernel
theorem d_CO_isSameType_124 : decode b_CO_isSameType 124 = .ok (.iaload, 1) := by decide +kernel
theorem d_CO_isSameType_125 : decode b_CO_isSameType 125 = .ok (.if_icmp .eq 5, 3) := by decide +kernel
theorem d_CO_isSameType_128 : decode b_CO_isSameType 128 = .ok (.iconst 0, 1) := by decide +kernel
theorem d_CO_isSameType_129 : decode b_CO_isSameType 129 = .ok (.ireturn, 1) := by decide +kernel
theorem d_CO_isSameType_130 : decode b_CO_isSameType 130 = .ok (.iinc 6 1, 3) := by decide +kernel
theorem d_CO_isSameType_133 : decode b_CO_isSameType 133 = .ok (.goto (-46), 3) := by decide +kernel
theorem d_CO_isSameType_136 : decode b_CO_isSameType 136 = .ok (.iconst 1, 1) := by decide +kernel
theorem d_CO_isSameType_137 : decode b_CO_isSameType 137 = .ok (.ireturn, 1) := by decide +kernel
abbrev at_CO_isSameType (dC : Nat → ClassId) (dI : Nat → Nat → Nat) (h0 pr kn lt pe to bo cs se gl fu pa pf sf pk pg pp pz pv pr_scanner_r pr_waiting_r pr_waitingPlaces_r tr fus fuz fut fuv pas paz pat pav : Nat) (cpf cfut cpat : ClassId) (h0_localCount : Int32) (h0_pendingCount : Int32) (h0_gives : Int32) (h0_depth : Int32) (h0_loopDepth : Int32) (pr_reason : Int32) (pr_place : Int32) (pr_stepCount : Int32) (pr_open : Int32) (pr_twoSides : Int32) (pr_waitingCount : Int32) (gpf : Nat → Int32) (fu_length : Int32) (gfut : Nat → Int32) (pa_length : Int32) (gpat : Nat → Int32) (A : Nat → Prop) (u : Unit) (t : State) : Prop := match u with | _ => va_P (dC, dI) cls [(h0, .inr (2, [.ref pr, .ref kn, .ref lt, .int h0_localCount, .ref pe, .int h0_pendingCount, .int h0_gives, .int h0_depth, .int h0_loopDepth, .ref to, .ref bo, .ref cs, .ref se])), (pr, .inr (6, [.ref gl, .ref fu, .ref pa, .ref pf, .ref sf, .ref pk, .ref pg, .ref pp, .ref pz, .ref pv, .int pr_reason, .int pr_place, .ref pr_scanner_r, .int pr_stepCount, .int pr_open, .int pr_twoSides, .ref pr_waiting_r, .ref pr_waitingPlaces_r, .int pr_waitingCount])), (pf, .inl (cpf, 21, .inl gpf)), (fu, .inr (5, [.ref tr, .ref fus, .ref fuz, .ref fut, .ref fuv, .int fu_length])), (fut, .inl (cfut, 20, .inl gfut)), (pa, .inr (5, [.ref tr, .ref pas, .ref paz, .ref pat, .ref pav, .int pa_length])), (pat, .inl (cpat, 160, .inl gpat))] t.heap ∧ va_K (dC, dI) cls [(cpf, .int), (cfut, .int), (cpat, .int)] t ∧ va_D A [(h0, .inr (2, [.ref pr, .ref kn, .ref lt, .int h0_localCount, .ref pe, .int h0_pendingCount, .int h0_gives, .int h0_depth, .int h0_loopDepth, .ref to, .ref bo, .ref cs, .ref se])), (pr, .inr (6, [.ref gl, .ref fu, .ref pa, .ref pf, .ref sf, .ref pk, .ref pg, .ref pp, .ref pz, .ref pv, .int pr_reason, .int pr_place, .ref pr_scanner_r, .int pr_stepCount, .int pr_open, .int pr_twoSides, .ref pr_waiting_r, .ref pr_waitingPlaces_r, .int pr_waitingCount])), (pf, .inl (cpf, 21, .inl gpf)), (fu, .inr (5, [.ref tr, .ref fus, .ref fuz, .ref fut, .ref fuv, .int fu_length])), (fut, .inl (cfut, 20, .inl gfut)), (pa, .inr (5, [.ref tr, .ref pas, .ref paz, .ref pat, .ref pav, .int pa_length])), (pat, .inl (cpat, 160, .inl gpat))]
set_option maxHeartbeats 4000000 in
set_option maxRecDepth 100000 in
theorem c_CO_isSameType (l : Launch) (dC : Nat → ClassId) (dI : Nat → Nat → Nat) (sz : Nat) (h0 pr kn lt pe to bo cs se gl fu pa pf sf pk pg pp pz pv pr_scanner_r pr_waiting_r pr_waitingPlaces_r tr fus fuz fut fuv pas paz pat pav : Nat) (cpf cfut cpat : ClassId) (h0_localCount : Int32) (h0_pendingCount : Int32) (h0_gives : Int32) (h0_depth : Int32) (h0_loopDepth : Int32) (pr_reason : Int32) (pr_place : Int32) (pr_stepCount : Int32) (pr_open : Int32) (pr_twoSides : Int32) (pr_waitingCount : Int32) (gpf : Nat → Int32) (fu_length : Int32) (gfut : Nat → Int32) (pa_length : Int32) (gpat : Nat → Int32)  (b_fu_length : 0 ≤ fu_length.toInt ∧ fu_length.toInt ≤ 20) (b_pa_length : 0 ≤ pa_length.toInt ∧ pa_length.toInt ≤ 160) (p0 : Int32) (p1 : Int32)  (hfg : 0 ≤ p0.toInt ∧ p0.toInt < fu_length.toInt ∧ 0 ≤ p1.toInt ∧ p1.toInt < fu_length.toInt) (hpf : bx (∀ f : Nat, (f : Int) < fu_length.toInt → 0 ≤ (gpf f).toInt ∧ (gpf f).toInt ≤ (gpf (f + 1)).toInt ∧ (gpf (f + 1)).toInt ≤ pa_length.toInt)) (hpl : pa_length.toInt ≤ 160) : Met l y_CO_isSameType w_CO_isSameType ({ frames := 0, cells := 0, slots := 0, locals := 0 }) (va_Pc [.ref h0, .int p0, .int p1] (fun U => U.heap.size = sz ∧ va_P (dC, dI) cls [(h0, .inr (2, [.ref pr, .ref kn, .ref lt, .int h0_localCount, .ref pe, .int h0_pendingCount, .int h0_gives, .int h0_depth, .int h0_loopDepth, .ref to, .ref bo, .ref cs, .ref se])), (pr, .inr (6, [.ref gl, .ref fu, .ref pa, .ref pf, .ref sf, .ref pk, .ref pg, .ref pp, .ref pz, .ref pv, .int pr_reason, .int pr_place, .ref pr_scanner_r, .int pr_stepCount, .int pr_open, .int pr_twoSides, .ref pr_waiting_r, .ref pr_waitingPlaces_r, .int pr_waitingCount])), (pf, .inl (cpf, 21, .inl gpf)), (fu, .inr (5, [.ref tr, .ref fus, .ref fuz, .ref fut, .ref fuv, .int fu_length])), (fut, .inl (cfut, 20, .inl gfut)), (pa, .inr (5, [.ref tr, .ref pas, .ref paz, .ref pat, .ref pav, .int pa_length])), (pat, .inl (cpat, 160, .inl gpat))] U.heap ∧ va_K (dC, dI) cls [(cpf, .int), (cfut, .int), (cpat, .int)] U ∧ va_D (fun _ => True) [(h0, .inr (2, [.ref pr, .ref kn, .ref lt, .int h0_localCount, .ref pe, .int h0_pendingCount, .int h0_gives, .int h0_depth, .int h0_loopDepth, .ref to, .ref bo, .ref cs, .ref se])), (pr, .inr (6, [.ref gl, .ref fu, .ref pa, .ref pf, .ref sf, .ref pk, .ref pg, .ref pp, .ref pz, .ref pv, .int pr_reason, .int pr_place, .ref pr_scanner_r, .int pr_stepCount, .int pr_open, .int pr_twoSides, .ref pr_waiting_r, .ref pr_waitingPlaces_r, .int pr_waitingCount])), (pf, .inl (cpf, 21, .inl gpf)), (fu, .inr (5, [.ref tr, .ref fus, .ref fuz, .ref fut, .ref fuv, .int fu_length])), (fut, .inl (cfut, 20, .inl gfut)), (pa, .inr (5, [.ref tr, .ref pas, .ref paz, .ref pat, .ref pav, .int pa_length])), (pat, .inl (cpat, 160, .inl gpat))])) (va_Qi (fun (r : Int32) (u : Unit) => match u with | _ => (r = 0 ∨ r = 1) ∧ (r = 1 → tkF gpf p0.toNatClampNeg = tkF gpf p1.toNatClampNeg ∧ gfut p0.toNatClampNeg = gfut p1.toNatClampNeg)) (at_CO_isSameType dC dI h0 pr kn lt pe to bo cs se gl fu pa pf sf pk pg pp pz pv pr_scanner_r pr_waiting_r pr_waitingPlaces_r tr fus fuz fut fuv pas paz pat pav cpf cfut cpat h0_localCount h0_pendingCount h0_gives h0_depth h0_loopDepth pr_reason pr_place pr_stepCount pr_open pr_twoSides pr_waitingCount gpf fu_length gfut pa_length gpat (va_A [(h0, .inr (2, [.ref pr, .ref kn, .ref lt, .int h0_localCount, .ref pe, .int h0_pendingCount, .int h0_gives, .int h0_depth, .int h0_loopDepth, .ref to, .ref bo, .ref cs, .ref se])), (pr, .inr (6, [.ref gl, .ref fu, .ref pa, .ref pf, .ref sf, .ref pk, .ref pg, .ref pp, .ref pz, .ref pv, .int pr_reason, .int pr_place, .ref pr_scanner_r, .int pr_stepCount, .int pr_open, .int pr_twoSides, .ref pr_waiting_r, .ref pr_waitingPlaces_r, .int pr_waitingCount])), (pf, .inl (cpf, 21, .inl gpf)), (fu, .inr (5, [.ref tr, .ref fus, .ref fuz, .ref fut, .ref fuv, .int fu_length])), (fut, .inl (cfut, 20, .inl gfut)), (pa, .inr (5, [.ref tr, .ref pas, .ref paz, .ref pat, .ref pav, .int pa_length])), (pat, .inl (cpat, 160, .inl gpat))] sz)) (va_A [(h0, .inr (2, [.ref pr, .ref kn, .ref lt, .int h0_localCount, .ref pe, .int h0_pendingCount, .int h0_gives, .int h0_depth, .int h0_loopDepth, .ref to, .ref bo, .ref cs, .ref se])), (pr, .inr (6, [.ref gl, .ref fu, .ref pa, .ref pf, .ref sf, .ref pk, .ref pg, .ref pp, .ref pz, .ref pv, .int pr_reason, .int pr_place, .ref pr_scanner_r, .int pr_stepCount, .int pr_open, .int pr_twoSides, .ref pr_waiting_r, .ref pr_waitingPlaces_r, .int pr_waitingCount])), (pf, .inl (cpf, 21, .inl gpf)), (fu, .inr (5, [.ref tr, .ref fus, .ref fuz, .ref fut, .ref fuv, .int fu_length])), (fut, .inl (cfut, 20, .inl gfut)), (pa, .inr (5, [.ref tr, .ref pas, .ref paz, .ref pat, .ref pav, .int pa_length])), (pat, .inl (cpat, 160, .inl gpat))] sz)) 0 0 (va_A [(h0, .inr (2, [.ref pr, .ref kn, .ref lt, .int h0_localCount, .ref pe, .int h0_pendingCount, .int h0_gives, .int h0_depth, .int h0_loopDepth, .ref to, .ref bo, .ref cs, .ref se])), (pr, .inr (6, [.ref gl, .ref fu, .ref pa, .ref pf, .ref sf, .ref pk, .ref pg, .ref pp, .ref pz, .ref pv, .int pr_reason, .int pr_place, .ref pr_scanner_r, .int pr_stepCount, .int pr_open, .int pr_twoSides, .ref pr_waiting_r, .ref pr_waitingPlaces_r, .int pr_waitingCount])), (pf, .inl (cpf, 21, .inl gpf)), (fu, .inr (5, [.ref tr, .ref fus, .ref fuz, .ref fut, .ref fuv, .int fu_length])), (fut, .inl (cfut, 20, .inl gfut)), (pa, .inr (5, [.ref tr, .ref pas, .ref paz, .ref pat, .ref pav, .int pa_length])), (pat, .inl (cpat, 160, .inl gpat))] sz) := by
  refine Met.ofW (cc := b_CO_isSameType) (maxL := 7) (ret := (Option.some .boolean)) (by decide) rfl ?_
  intro p e s m args below meth c s₁ B hml hv
  obtain ⟨rfl, hsz, hP, hK, hD0⟩ := hv
  have hx := B.exec
  have hb := B.bytes
  have hr := B.returns
  have hts0 := atoms_spec (ws := w_CO_isSameType) B.pre
  have hts : ∀ w ∈ lw_g, w.before _ s = true := fun w h => hts0 w (List.mem_cons_of_mem _ h)
  have hown : s.vm.findClass R_CO = some m.cls := findClass_of_methodNamed B.named
  have hlocks := B.notSynchronized
  clear hts0
  subst hsz
  have hD := hD0.self (sz := s.heap.size)
  generalize hAe : va_A [(h0, .inr (2, [.ref pr, .ref kn, .ref lt, .int h0_localCount, .ref pe, .int h0_pendingCount, .int h0_gives, .int h0_depth, .int h0_loopDepth, .ref to, .ref bo, .ref cs, .ref se])), (pr, .inr (6, [.ref gl, .ref fu, .ref pa, .ref pf, .ref sf, .ref pk, .ref pg, .ref pp, .ref pz, .ref pv, .int pr_reason, .int pr_place, .ref pr_scanner_r, .int pr_stepCount, .int pr_open, .int pr_twoSides, .ref pr_waiting_r, .ref pr_waitingPlaces_r, .int pr_waitingCount])), (pf, .inl (cpf, 21, .inl gpf)), (fu, .inr (5, [.ref tr, .ref fus, .ref fuz, .ref fut, .ref fuv, .int fu_length])), (fut, .inl (cfut, 20, .inl gfut)), (pa, .inr (5, [.ref tr, .ref pas, .ref paz, .ref pat, .ref pav, .int pa_length])), (pat, .inl (cpat, 160, .inl gpat))] s.heap.size = A at hD ⊢
  have hA : ∀ q : Nat, s.heap.size ≤ q → A q := fun q h => by rw [← hAe]; exact Or.inr h
  clear hAe
  have hP : va_P (dC, dI) cls [(h0, .inr (2, [.ref pr, .ref kn, .ref lt, .int h0_localCount, .ref pe, .int h0_pendingCount, .int h0_gives, .int h0_depth, .int h0_loopDepth, .ref to, .ref bo, .ref cs, .ref se])), (pr, .inr (6, [.ref gl, .ref fu, .ref pa, .ref pf, .ref sf, .ref pk, .ref pg, .ref pp, .ref pz, .ref pv, .int pr_reason, .int pr_place, .ref pr_scanner_r, .int pr_stepCount, .int pr_open, .int pr_twoSides, .ref pr_waiting_r, .ref pr_waitingPlaces_r, .int pr_waitingCount])), (pf, .inl (cpf, 21, .inl gpf)), (fu, .inr (5, [.ref tr, .ref fus, .ref fuz, .ref fut, .ref fuv, .int fu_length])), (fut, .inl (cfut, 20, .inl gfut)), (pa, .inr (5, [.ref tr, .ref pas, .ref paz, .ref pat, .ref pav, .int pa_length])), (pat, .inl (cpat, 160, .inl gpat))] s.heap := hP
  have hl := lv_entry ([.ref h0, .int p0, .int p1]) (n := 7) (Nat.le_of_ble_eq_true rfl)
  rw [lg_entry_eq]
  generalize (lg_sl ([.ref h0, .int p0, .int p1]) ++ List.replicate (7 - (lg_sl ([.ref h0, .int p0, .int p1])).length) Slot.unset).toArray = ls at hl ⊢
  have hl : lv_has ls 7 [(0, .ref h0), (1, .int p0), (2, .int p1)] := hl
  have k0 : (0 : Int32).toInt = 0 := by decide
  refine w_gen (A := A) hP (fun H locs hP hS => ?_)
  have k1 : (1 : Int32).toInt = 1 := by decide
  have lo_p0 := i32_lo p0
  have hi_p0 := i32_hi p0
  have lo_p1 := i32_lo p1
  have hi_p1 := i32_hi p1
  have cp0 := i32_clamp (x := p0) (by omega)
  have kp0 := hpf.out p0.toNatClampNeg (by omega)
  have cp1 := i32_clamp (x := p1) (by omega)
  have kp1 := hpf.out p1.toNatClampNeg (by omega)
  refine lv_aload_n hx hb d_CO_isSameType_0 rfl (lv_at hl 0 rfl) ?_
  refine va_get (D := (dC, dI)) (ci := 2) (v := .ref pr) (C := R_CO) (T := F_CO) (N := 13) hx hb hts i_CO hown hK hP 0 rfl rfl 0 (by decide) (hts _ kF_CO_36) (fun _ h9 => h9) rfl d_CO_isSameType_1 ?_
  refine va_get (D := (dC, dI)) (ci := 6) (v := .ref pf) (C := R_PR) (T := F_PR) (N := 19) hx hb hts i_PR hown hK hP 1 rfl rfl 3 (by decide) (hts _ kF_CO_127) (fun _ h9 => h9) rfl d_CO_isSameType_4 ?_
  refine lv_iload_n hx hb d_CO_isSameType_7 rfl (lv_at hl 1 rfl) ?_
  have g8 : vp_in p0 21 := vp_in_iff.mpr ⟨by omega, by omega⟩
  refine va_iald hx hb hK hP 2 0 rfl rfl g8 d_CO_isSameType_8 ?_
  refine lv_topi (fun x1 ex1 => ?_)
  have tx1 : x1.toInt = (gpf p0.toNatClampNeg).toInt := by rw [ex1]
  refine lv_istore_n (lv' := [(3, .int x1), (0, .ref h0), (1, .int p0), (2, .int p1)]) hx hb d_CO_isSameType_9 rfl hl (by decide) rfl (fun ls hl => ?_)
  refine lv_aload_n hx hb d_CO_isSameType_10 rfl (lv_at hl 1 rfl) ?_
  refine va_get (D := (dC, dI)) (ci := 2) (v := .ref pr) (C := R_CO) (T := F_CO) (N := 13) hx hb hts i_CO hown hK hP 0 rfl rfl 0 (by decide) (hts _ kF_CO_36) (fun _ h9 => h9) rfl d_CO_isSameType_11 ?_
  refine va_get (D := (dC, dI)) (ci := 6) (v := .ref pf) (C := R_PR) (T := F_PR) (N := 19) hx hb hts i_PR hown hK hP 1 rfl rfl 3 (by decide) (hts _ kF_CO_127) (fun _ h9 => h9) rfl d_CO_isSameType_14 ?_
  refine lv_iload_n hx hb d_CO_isSameType_17 rfl (lv_at hl 3 rfl) ?_
  have g18 : vp_in p1 21 := vp_in_iff.mpr ⟨by omega, by omega⟩
  refine va_iald hx hb hK hP 2 0 rfl rfl g18 d_CO_isSameType_18 ?_
  refine lv_topi (fun x2 ex2 => ?_)
  have tx2 : x2.toInt = (gpf p1.toNatClampNeg).toInt := by rw [ex2]
  refine lv_istore (lv' := [(4, .int x2), (3, .int x1), (0, .ref h0), (1, .int p0), (2, .int p1)]) hx hb d_CO_isSameType_19 hl (by decide) rfl (fun ls hl => ?_)
  refine lv_aload_n hx hb d_CO_isSameType_21 rfl (lv_at hl 2 rfl) ?_
  refine va_get (D := (dC, dI)) (ci := 2) (v := .ref pr) (C := R_CO) (T := F_CO) (N := 13) hx hb hts i_CO hown hK hP 0 rfl rfl 0 (by decide) (hts _ kF_CO_36) (fun _ h9 => h9) rfl d_CO_isSameType_22 ?_
  refine va_get (D := (dC, dI)) (ci := 6) (v := .ref pf) (C := R_PR) (T := F_PR) (N := 19) hx hb hts i_PR hown hK hP 1 rfl rfl 3 (by decide) (hts _ kF_CO_127) (fun _ h9 => h9) rfl d_CO_isSameType_25 ?_
  refine lv_iload_n hx hb d_CO_isSameType_28 rfl (lv_at hl 3 rfl) ?_
  refine lv_iconst (v := 1) hx hb d_CO_isSameType_29 (by decide) ?_
  refine lv_iadd hx hb d_CO_isSameType_30 ?_
  refine lv_topi (fun x3 ex3 => ?_)
  have tx3 : x3.toInt = p0.toInt + 1 := by have z := i32_add ex3 (by omega) (by omega); omega
  have g31 : vp_in x3 21 := vp_in_iff.mpr ⟨by omega, by omega⟩
  refine va_iald hx hb hK hP 2 0 rfl rfl g31 d_CO_isSameType_31 ?_
  refine lv_topi (fun x4 ex4 => ?_)
  have zpc_ : x3.toNatClampNeg = p0.toNatClampNeg + 1 := by have := i32_clamp (x := x3) (by omega); omega
  have tx4 : x4.toInt = (gpf (p0.toNatClampNeg + 1)).toInt := by rw [ex4, zpc_]
  refine lv_iload_n hx hb d_CO_isSameType_32 rfl (lv_at hl 1 rfl) ?_
  refine lv_isub hx hb d_CO_isSameType_33 ?_
  refine lv_topi (fun x5 ex5 => ?_)
  have tx5 : x5.toInt = x4.toInt - x1.toInt := by have z := i32_sub ex5 (by omega) (by omega); omega
  refine lv_istore (lv' := [(5, .int x5), (4, .int x2), (3, .int x1), (0, .ref h0), (1, .int p0), (2, .int p1)]) hx hb d_CO_isSameType_34 hl (by decide) rfl (fun ls hl => ?_)
  refine lv_aload_n hx hb d_CO_isSameType_36 rfl (lv_at hl 3 rfl) ?_
  refine va_get (D := (dC, dI)) (ci := 2) (v := .ref pr) (C := R_CO) (T := F_CO) (N := 13) hx hb hts i_CO hown hK hP 0 rfl rfl 0 (by decide) (hts _ kF_CO_36) (fun _ h9 => h9) rfl d_CO_isSameType_37 ?_
  refine va_get (D := (dC, dI)) (ci := 6) (v := .ref fu) (C := R_PR) (T := F_PR) (N := 19) hx hb hts i_PR hown hK hP 1 rfl rfl 1 (by decide) (hts _ kF_CO_61) (fun _ h9 => h9) rfl d_CO_isSameType_40 ?_
  refine va_get (D := (dC, dI)) (ci := 5) (v := .ref fut) (C := R_NA) (T := F_NA) (N := 6) hx hb hts i_NA hown hK hP 3 rfl rfl 3 (by decide) (hts _ kF_CO_121) (fun _ h9 => h9) rfl d_CO_isSameType_43 ?_
  refine lv_iload_n hx hb d_CO_isSameType_46 rfl (lv_at hl 4 rfl) ?_
  have g47 : vp_in p0 20 := vp_in_iff.mpr ⟨by omega, by omega⟩
  refine va_iald hx hb hK hP 4 1 rfl rfl g47 d_CO_isSameType_47 ?_
  refine lv_topi (fun x6 ex6 => ?_)
  refine lv_aload_n hx hb d_CO_isSameType_48 rfl (lv_at hl 3 rfl) ?_
  refine va_get (D := (dC, dI)) (ci := 2) (v := .ref pr) (C := R_CO) (T := F_CO) (N := 13) hx hb hts i_CO hown hK hP 0 rfl rfl 0 (by decide) (hts _ kF_CO_36) (fun _ h9 => h9) rfl d_CO_isSameType_49 ?_
  refine va_get (D := (dC, dI)) (ci := 6) (v := .ref fu) (C := R_PR) (T := F_PR) (N := 19) hx hb hts i_PR hown hK hP 1 rfl rfl 1 (by decide) (hts _ kF_CO_61) (fun _ h9 => h9) rfl d_CO_isSameType_52 ?_
  refine va_get (D := (dC, dI)) (ci := 5) (v := .ref fut) (C := R_NA) (T := F_NA) (N := 6) hx hb hts i_NA hown hK hP 3 rfl rfl 3 (by decide) (hts _ kF_CO_121) (fun _ h9 => h9) rfl d_CO_isSameType_55 ?_
  refine lv_iload_n hx hb d_CO_isSameType_58 rfl (lv_at hl 5 rfl) ?_
  have g59 : vp_in p1 20 := vp_in_iff.mpr ⟨by omega, by omega⟩
  refine va_iald hx hb hK hP 4 1 rfl rfl g59 d_CO_isSameType_59 ?_
  refine lv_topi (fun x7 ex7 => ?_)
  refine lv_icmp_ne (tgt := 82) hx hb d_CO_isSameType_60 (by decide) (fun c60 => ?_) (fun c60 => ?_)
  · have q60 := neI c60
    refine lv_iconst (v := 0) hx hb d_CO_isSameType_82 (by decide) ?_
    have hP9 := hP.sub (ws' := [(h0, .inr (2, [.ref pr, .ref kn, .ref lt, .int h0_localCount, .ref pe, .int h0_pendingCount, .int h0_gives, .int h0_depth, .int h0_loopDepth, .ref to, .ref bo, .ref cs, .ref se])), (pr, .inr (6, [.ref gl, .ref fu, .ref pa, .ref pf, .ref sf, .ref pk, .ref pg, .ref pp, .ref pz, .ref pv, .int pr_reason, .int pr_place, .ref pr_scanner_r, .int pr_stepCount, .int pr_open, .int pr_twoSides, .ref pr_waiting_r, .ref pr_waitingPlaces_r, .int pr_waitingCount])), (pf, .inl (cpf, 21, .inl gpf)), (fu, .inr (5, [.ref tr, .ref fus, .ref fuz, .ref fut, .ref fuv, .int fu_length])), (fut, .inl (cfut, 20, .inl gfut)), (pa, .inr (5, [.ref tr, .ref pas, .ref paz, .ref pat, .ref pav, .int pa_length])), (pat, .inl (cpat, 160, .inl gpat))]) [0, 1, 2, 3, 4, 5, 6] rfl
    have hD9 := hD.sub (ws' := [(h0, .inr (2, [.ref pr, .ref kn, .ref lt, .int h0_localCount, .ref pe, .int h0_pendingCount, .int h0_gives, .int h0_depth, .int h0_loopDepth, .ref to, .ref bo, .ref cs, .ref se])), (pr, .inr (6, [.ref gl, .ref fu, .ref pa, .ref pf, .ref sf, .ref pk, .ref pg, .ref pp, .ref pz, .ref pv, .int pr_reason, .int pr_place, .ref pr_scanner_r, .int pr_stepCount, .int pr_open, .int pr_twoSides, .ref pr_waiting_r, .ref pr_waitingPlaces_r, .int pr_waitingCount])), (pf, .inl (cpf, 21, .inl gpf)), (fu, .inr (5, [.ref tr, .ref fus, .ref fuz, .ref fut, .ref fuv, .int fu_length])), (fut, .inl (cfut, 20, .inl gfut)), (pa, .inr (5, [.ref tr, .ref pas, .ref paz, .ref pat, .ref pav, .int pa_length])), (pat, .inl (cpat, 160, .inl gpat))]) [0, 1, 2, 3, 4, 5, 6] (by decide) rfl
    exact W.zret (v := 0) hx hb hr (zn01 (Or.inl rfl)) (fun t ht hW => ⟨⟨0, (), rfl, ⟨Or.inl rfl, fun z => absurd z (by decide)⟩, by rw [ht]; exact hP9, va_K.moved hW.alike hK, hD9⟩, hS.F ht⟩) hS.2.2 d_CO_isSameType_83
  · have q60 := eqI c60
    refine lv_iload hx hb d_CO_isSameType_63 (lv_at hl 0 rfl) ?_
    refine lv_aload_n hx hb d_CO_isSameType_65 rfl (lv_at hl 3 rfl) ?_
    refine va_get (D := (dC, dI)) (ci := 2) (v := .ref pr) (C := R_CO) (T := F_CO) (N := 13) hx hb hts i_CO hown hK hP 0 rfl rfl 0 (by decide) (hts _ kF_CO_36) (fun _ h9 => h9) rfl d_CO_isSameType_66 ?_
    refine va_get (D := (dC, dI)) (ci := 6) (v := .ref pf) (C := R_PR) (T := F_PR) (N := 19) hx hb hts i_PR hown hK hP 1 rfl rfl 3 (by decide) (hts _ kF_CO_127) (fun _ h9 => h9) rfl d_CO_isSameType_69 ?_
    refine lv_iload_n hx hb d_CO_isSameType_72 rfl (lv_at hl 5 rfl) ?_
    refine lv_iconst (v := 1) hx hb d_CO_isSameType_73 (by decide) ?_
    refine lv_iadd hx hb d_CO_isSameType_74 ?_
    refine lv_topi (fun x8 ex8 => ?_)
    have tx8 : x8.toInt = p1.toInt + 1 := by have z := i32_add ex8 (by omega) (by omega); omega
    have g75 : vp_in x8 21 := vp_in_iff.mpr ⟨by omega, by omega⟩
    refine va_iald hx hb hK hP 2 0 rfl rfl g75 d_CO_isSameType_75 ?_
    refine lv_topi (fun x9 ex9 => ?_)
    have zpd_ : x8.toNatClampNeg = p1.toNatClampNeg + 1 := by have := i32_clamp (x := x8) (by omega); omega
    have tx9 : x9.toInt = (gpf (p1.toNatClampNeg + 1)).toInt := by rw [ex9, zpd_]
    refine lv_iload hx hb d_CO_isSameType_76 (lv_at hl 1 rfl) ?_
    refine lv_isub hx hb d_CO_isSameType_78 ?_
    refine lv_topi (fun x10 ex10 => ?_)
    have tx10 : x10.toInt = x9.toInt - x2.toInt := by have z := i32_sub ex10 (by omega) (by omega); omega
    refine lv_icmp_eq (tgt := 84) hx hb d_CO_isSameType_79 (by decide) (fun c79 => ?_) (fun c79 => ?_)
    · have q79 := eqI c79
      have k84 : tkF gpf p0.toNatClampNeg = tkF gpf p1.toNatClampNeg := by unfold tkF; omega
      refine lv_iconst (v := 0) hx hb d_CO_isSameType_84 (by decide) ?_
      refine lv_istore (lv' := [(6, .int 0), (5, .int x5), (4, .int x2), (3, .int x1), (0, .ref h0), (1, .int p0), (2, .int p1)]) hx hb d_CO_isSameType_85 hl (by decide) rfl (fun ls hl => ?_)
      refine w_loop (σ := Int32) (fun u H locs ls => match u with | j87_l6 => (0 ≤ j87_l6.toInt ∧ j87_l6.toInt ≤ tkF gpf p0.toNatClampNeg) ∧ va_P (dC, dI) cls [(h0, .inr (2, [.ref pr, .ref kn, .ref lt, .int h0_localCount, .ref pe, .int h0_pendingCount, .int h0_gives, .int h0_depth, .int h0_loopDepth, .ref to, .ref bo, .ref cs, .ref se])), (pr, .inr (6, [.ref gl, .ref fu, .ref pa, .ref pf, .ref sf, .ref pk, .ref pg, .ref pp, .ref pz, .ref pv, .int pr_reason, .int pr_place, .ref pr_scanner_r, .int pr_stepCount, .int pr_open, .int pr_twoSides, .ref pr_waiting_r, .ref pr_waitingPlaces_r, .int pr_waitingCount])), (pf, .inl (cpf, 21, .inl gpf)), (fu, .inr (5, [.ref tr, .ref fus, .ref fuz, .ref fut, .ref fuv, .int fu_length])), (fut, .inl (cfut, 20, .inl gfut)), (pa, .inr (5, [.ref tr, .ref pas, .ref paz, .ref pat, .ref pav, .int pa_length])), (pat, .inl (cpat, 160, .inl gpat))] H ∧ va_D A [(h0, .inr (2, [.ref pr, .ref kn, .ref lt, .int h0_localCount, .ref pe, .int h0_pendingCount, .int h0_gives, .int h0_depth, .int h0_loopDepth, .ref to, .ref bo, .ref cs, .ref se])), (pr, .inr (6, [.ref gl, .ref fu, .ref pa, .ref pf, .ref sf, .ref pk, .ref pg, .ref pp, .ref pz, .ref pv, .int pr_reason, .int pr_place, .ref pr_scanner_r, .int pr_stepCount, .int pr_open, .int pr_twoSides, .ref pr_waiting_r, .ref pr_waitingPlaces_r, .int pr_waitingCount])), (pf, .inl (cpf, 21, .inl gpf)), (fu, .inr (5, [.ref tr, .ref fus, .ref fuz, .ref fut, .ref fuv, .int fu_length])), (fut, .inl (cfut, 20, .inl gfut)), (pa, .inr (5, [.ref tr, .ref pas, .ref paz, .ref pat, .ref pav, .int pa_length])), (pat, .inl (cpat, 160, .inl gpat))] ∧ va_S A s.heap H locs ∧ lv_has ls 7 [(0, .ref h0), (3, .int x1), (4, .int x2), (5, .int x5), (6, .int j87_l6)]) (fun u => match u with | j87_l6 => (8 + tkF gpf p0.toNatClampNeg - j87_l6.toInt).toNat) ?_ 0 ⟨by (try dsimp only); unfold tkF; omega, hP, hD, hS, lv_sub hl [4, 3, 2, 1, 0] rfl⟩
      intro N87 ih87 u H locs ls hN87 hI
      obtain ⟨j87_l6, rfl⟩ : ∃ z, z = u := ⟨_, rfl⟩
      obtain ⟨v1, hP, hD, hS, hl⟩ := hI
      have hN87 : (8 + tkF gpf p0.toNatClampNeg - j87_l6.toInt).toNat < N87 + 1 := hN87
      refine lv_iload hx hb d_CO_isSameType_87 (lv_at hl 4 rfl) ?_
      refine lv_iload hx hb d_CO_isSameType_89 (lv_at hl 3 rfl) ?_
      refine lv_icmp_ge (tgt := 136) hx hb d_CO_isSameType_91 (by decide) (fun c91 => ?_) (fun c91 => ?_)
      · have q91 := leI c91
        refine lv_iconst (v := 1) hx hb d_CO_isSameType_136 (by decide) ?_
        have hP9 := hP.sub (ws' := [(h0, .inr (2, [.ref pr, .ref kn, .ref lt, .int h0_localCount, .ref pe, .int h0_pendingCount, .int h0_gives, .int h0_depth, .int h0_loopDepth, .ref to, .ref bo, .ref cs, .ref se])), (pr, .inr (6, [.ref gl, .ref fu, .ref pa, .ref pf, .ref sf, .ref pk, .ref pg, .ref pp, .ref pz, .ref pv, .int pr_reason, .int pr_place, .ref pr_scanner_r, .int pr_stepCount, .int pr_open, .int pr_twoSides, .ref pr_waiting_r, .ref pr_waitingPlaces_r, .int pr_waitingCount])), (pf, .inl (cpf, 21, .inl gpf)), (fu, .inr (5, [.ref tr, .ref fus, .ref fuz, .ref fut, .ref fuv, .int fu_length])), (fut, .inl (cfut, 20, .inl gfut)), (pa, .inr (5, [.ref tr, .ref pas, .ref paz, .ref pat, .ref pav, .int pa_length])), (pat, .inl (cpat, 160, .inl gpat))]) [0, 1, 2, 3, 4, 5, 6] rfl
        have hD9 := hD.sub (ws' := [(h0, .inr (2, [.ref pr, .ref kn, .ref lt, .int h0_localCount, .ref pe, .int h0_pendingCount, .int h0_gives, .int h0_depth, .int h0_loopDepth, .ref to, .ref bo, .ref cs, .ref se])), (pr, .inr (6, [.ref gl, .ref fu, .ref pa, .ref pf, .ref sf, .ref pk, .ref pg, .ref pp, .ref pz, .ref pv, .int pr_reason, .int pr_place, .ref pr_scanner_r, .int pr_stepCount, .int pr_open, .int pr_twoSides, .ref pr_waiting_r, .ref pr_waitingPlaces_r, .int pr_waitingCount])), (pf, .inl (cpf, 21, .inl gpf)), (fu, .inr (5, [.ref tr, .ref fus, .ref fuz, .ref fut, .ref fuv, .int fu_length])), (fut, .inl (cfut, 20, .inl gfut)), (pa, .inr (5, [.ref tr, .ref pas, .ref paz, .ref pat, .ref pav, .int pa_length])), (pat, .inl (cpat, 160, .inl gpat))]) [0, 1, 2, 3, 4, 5, 6] (by decide) rfl
        exact W.zret (v := 1) hx hb hr (zn01 (Or.inr rfl)) (fun t ht hW => ⟨⟨1, (), rfl, ⟨Or.inr rfl, fun _ => ⟨by unfold tkF; omega, by rw [← ex6, ← ex7]; exact Int32.toInt_inj.mp (by omega)⟩⟩, by rw [ht]; exact hP9, va_K.moved hW.alike hK, hD9⟩, hS.F ht⟩) hS.2.2 d_CO_isSameType_137
      · have q91 := nleI c91
        refine lv_aload_n hx hb d_CO_isSameType_94 rfl (lv_at hl 0 rfl) ?_
        refine va_get (D := (dC, dI)) (ci := 2) (v := .ref pr) (C := R_CO) (T := F_CO) (N := 13) hx hb hts i_CO hown hK hP 0 rfl rfl 0 (by decide) (hts _ kF_CO_36) (fun _ h9 => h9) rfl d_CO_isSameType_95 ?_
        refine va_get (D := (dC, dI)) (ci := 6) (v := .ref pa) (C := R_PR) (T := F_PR) (N := 19) hx hb hts i_PR hown hK hP 1 rfl rfl 2 (by decide) (hts _ kF_CO_130) (fun _ h9 => h9) rfl d_CO_isSameType_98 ?_
        refine va_get (D := (dC, dI)) (ci := 5) (v := .ref pat) (C := R_NA) (T := F_NA) (N := 6) hx hb hts i_NA hown hK hP 5 rfl rfl 3 (by decide) (hts _ kF_CO_121) (fun _ h9 => h9) rfl d_CO_isSameType_101 ?_
        refine lv_iload_n hx hb d_CO_isSameType_104 rfl (lv_at hl 1 rfl) ?_
        refine lv_iload hx hb d_CO_isSameType_105 (lv_at hl 4 rfl) ?_
        refine lv_iadd hx hb d_CO_isSameType_107 ?_
        refine lv_topi (fun x11 ex11 => ?_)
        have tx11 : x11.toInt = x1.toInt + j87_l6.toInt := by have z := i32_add ex11 (by omega) (by omega); omega
        have g108 : vp_in x11 160 := vp_in_iff.mpr ⟨by omega, by omega⟩
        refine va_iald hx hb hK hP 6 2 rfl rfl g108 d_CO_isSameType_108 ?_
        refine lv_topi (fun x12 ex12 => ?_)
        refine lv_aload_n hx hb d_CO_isSameType_109 rfl (lv_at hl 0 rfl) ?_
        refine va_get (D := (dC, dI)) (ci := 2) (v := .ref pr) (C := R_CO) (T := F_CO) (N := 13) hx hb hts i_CO hown hK hP 0 rfl rfl 0 (by decide) (hts _ kF_CO_36) (fun _ h9 => h9) rfl d_CO_isSameType_110 ?_
        refine va_get (D := (dC, dI)) (ci := 6) (v := .ref pa) (C := R_PR) (T := F_PR) (N := 19) hx hb hts i_PR hown hK hP 1 rfl rfl 2 (by decide) (hts _ kF_CO_130) (fun _ h9 => h9) rfl d_CO_isSameType_113 ?_
        refine va_get (D := (dC, dI)) (ci := 5) (v := .ref pat) (C := R_NA) (T := F_NA) (N := 6) hx hb hts i_NA hown hK hP 5 rfl rfl 3 (by decide) (hts _ kF_CO_121) (fun _ h9 => h9) rfl d_CO_isSameType_116 ?_
        refine lv_iload hx hb d_CO_isSameType_119 (lv_at hl 2 rfl) ?_
        refine lv_iload hx hb d_CO_isSameType_121 (lv_at hl 4 rfl) ?_
        refine lv_iadd hx hb d_CO_isSameType_123 ?_
        refine lv_topi (fun x13 ex13 => ?_)
        have tx13 : x13.toInt = x2.toInt + j87_l6.toInt := by have z := i32_add ex13 (by omega) (by omega); omega
        have g124 : vp_in x13 160 := vp_in_iff.mpr ⟨by omega, by omega⟩
        refine va_iald hx hb hK hP 6 2 rfl rfl g124 d_CO_isSameType_124 ?_
        refine lv_topi (fun x14 ex14 => ?_)
        refine lv_icmp_eq (tgt := 130) hx hb d_CO_isSameType_125 (by decide) (fun c125 => ?_) (fun c125 => ?_)
        · have q125 := eqI c125
          obtain ⟨x15, ex15⟩ : ∃ z : Int32, z = j87_l6 + 1 := ⟨_, rfl⟩
          have tx15 : x15.toInt = j87_l6.toInt + 1 := by have z := i32_add ex15 (by omega) (by omega); omega
          refine lv_iinc (v := x15) (lv' := [(6, .int x15), (0, .ref h0), (3, .int x1), (4, .int x2), (5, .int x5)]) hx hb d_CO_isSameType_130 hl (k := 4) rfl (by rw [ex15]; rfl) (by decide) rfl (fun ls hl => ?_)
          refine lv_goto (tgt := 87) hx hb d_CO_isSameType_133 (by decide) ?_
          exact ih87 x15 _ _ _ (by show (8 + tkF gpf p0.toNatClampNeg - x15.toInt).toNat < N87; omega) ⟨by (try dsimp only); unfold tkF at *; omega, hP, hD, hS, lv_sub hl [1, 2, 3, 4, 0] rfl⟩
        · have q125 := neI c125
          refine lv_iconst (v := 0) hx hb d_CO_isSameType_128 (by decide) ?_
          have hP9 := hP.sub (ws' := [(h0, .inr (2, [.ref pr, .ref kn, .ref lt, .int h0_localCount, .ref pe, .int h0_pendingCount, .int h0_gives, .int h0_depth, .int h0_loopDepth, .ref to, .ref bo, .ref cs, .ref se])), (pr, .inr (6, [.ref gl, .ref fu, .ref pa, .ref pf, .ref sf, .ref pk, .ref pg, .ref pp, .ref pz, .ref pv, .int pr_reason, .int pr_place, .ref pr_scanner_r, .int pr_stepCount, .int pr_open, .int pr_twoSides, .ref pr_waiting_r, .ref pr_waitingPlaces_r, .int pr_waitingCount])), (pf, .inl (cpf, 21, .inl gpf)), (fu, .inr (5, [.ref tr, .ref fus, .ref fuz, .ref fut, .ref fuv, .int fu_length])), (fut, .inl (cfut, 20, .inl gfut)), (pa, .inr (5, [.ref tr, .ref pas, .ref paz, .ref pat, .ref pav, .int pa_length])), (pat, .inl (cpat, 160, .inl gpat))]) [0, 1, 2, 3, 4, 5, 6] rfl
          have hD9 := hD.sub (ws' := [(h0, .inr (2, [.ref pr, .ref kn, .ref lt, .int h0_localCount, .ref pe, .int h0_pendingCount, .int h0_gives, .int h0_depth, .int h0_loopDepth, .ref to, .ref bo, .ref cs, .ref se])), (pr, .inr (6, [.ref gl, .ref fu, .ref pa, .ref pf, .ref sf, .ref pk, .ref pg, .ref pp, .ref pz, .ref pv, .int pr_reason, .int pr_place, .ref pr_scanner_r, .int pr_stepCount, .int pr_open, .int pr_twoSides, .ref pr_waiting_r, .ref pr_waitingPlaces_r, .int pr_waitingCount])), (pf, .inl (cpf, 21, .inl gpf)), (fu, .inr (5, [.ref tr, .ref fus, .ref fuz, .ref fut, .ref fuv, .int fu_length])), (fut, .inl (cfut, 20, .inl gfut)), (pa, .inr (5, [.ref tr, .ref pas, .ref paz, .ref pat, .ref pav, .int pa_length])), (pat, .inl (cpat, 160, .inl gpat))]) [0, 1, 2, 3, 4, 5, 6] (by decide) rfl
          exact W.zret (v := 0) hx hb hr (zn01 (Or.inl rfl)) (fun t ht hW => ⟨⟨0, (), rfl, ⟨Or.inl rfl, fun z => absurd z (by decide)⟩, by rw [ht]; exact hP9, va_K.moved hW.alike hK, hD9⟩, hS.F ht⟩) hS.2.2 d_CO_isSameType_129
    · have q79 := neI c79
      refine lv_iconst (v := 0) hx hb d_CO_isSameType_82 (by decide) ?_
      have hP9 := hP.sub (ws' := [(h0, .inr (2, [.ref pr, .ref kn, .ref lt, .int h0_localCount, .ref pe, .int h0_pendingCount, .int h0_gives, .int h0_depth, .int h0_loopDepth, .ref to, .ref bo, .ref cs, .ref se])), (pr, .inr (6, [.ref gl, .ref fu, .ref pa, .ref pf, .ref sf, .ref pk, .ref pg, .ref pp, .ref pz, .ref pv, .int pr_reason, .int pr_place, .ref pr_scanner_r, .int pr_stepCount, .int pr_open, .int pr_twoSides, .ref pr_waiting_r, .ref pr_waitingPlaces_r, .int pr_waitingCount])), (pf, .inl (cpf, 21, .inl gpf)), (fu, .inr (5, [.ref tr, .ref fus, .ref fuz, .ref fut, .ref fuv, .int fu_length])), (fut, .inl (cfut, 20, .inl gfut)), (pa, .inr (5, [.ref tr, .ref pas, .ref paz, .ref pat, .ref pav, .int pa_length])), (pat, .inl (cpat, 160, .inl gpat))]) [0, 1, 2, 3, 4, 5, 6] rfl
      have hD9 := hD.sub (ws' := [(h0, .inr (2, [.ref pr, .ref kn, .ref lt, .int h0_localCount, .ref pe, .int h0_pendingCount, .int h0_gives, .int h0_depth, .int h0_loopDepth, .ref to, .ref bo, .ref cs, .ref se])), (pr, .inr (6, [.ref gl, .ref fu, .ref pa, .ref pf, .ref sf, .ref pk, .ref pg, .ref pp, .ref pz, .ref pv, .int pr_reason, .int pr_place, .ref pr_scanner_r, .int pr_stepCount, .int pr_open, .int pr_twoSides, .ref pr_waiting_r, .ref pr_waitingPlaces_r, .int pr_waitingCount])), (pf, .inl (cpf, 21, .inl gpf)), (fu, .inr (5, [.ref tr, .ref fus, .ref fuz, .ref fut, .ref fuv, .int fu_length])), (fut, .inl (cfut, 20, .inl gfut)), (pa, .inr (5, [.ref tr, .ref pas, .ref paz, .ref pat, .ref pav, .int pa_length])), (pat, .inl (cpat, 160, .inl gpat))]) [0, 1, 2, 3, 4, 5, 6] (by decide) rfl
      exact W.zret (v := 0) hx hb hr (zn01 (Or.inl rfl)) (fun t ht hW => ⟨⟨0, (), rfl, ⟨Or.inl rfl, fun z => absurd z (by decide)⟩, by rw [ht]; exact hP9, va_K.moved hW.alike hK, hD9⟩, hS.F ht⟩) hS.2.2 d_CO_isSameType_83
abbrev b_CO_writeType : ByteArray := prog_4_method_23_code
def y_CO_writeType : MethodName := ⟨R_CO, "writeType", "(I)V"⟩
abbrev w_CO_writeType : List Cond := .code y_CO_writeType b_CO_writeType 5 none :: lw_g
theorem kC_CO_writeType : Cond.code y_CO_writeType b_CO_writeType 5 none ∈ lw_g := in_g 1234 (by decide +kernel) rfl
theorem d_CO_writeType_0 : decode b_CO_writeType 0 = .ok (.aload_n 0, 1) := by decide +kernel
theorem d_CO_writeType_1 : decode b_CO_writeType 1 = .ok (.getfield 36, 3) := by decide +kernel
theorem d_CO_writeType_4 : decode b_CO_writeType 4 = .ok (.getfield 127, 3) := by decide +kernel
theorem d_CO_writeType_7 : decode b_CO_writeType 7 = .ok (.iload_n 1, 1) := by decide +kernel
theorem d_CO_writeType_8 : decode b_CO_writeType 8 = .ok (.iaload, 1) := by decide +kernel
theorem d_CO_writeType_9 : decode b_CO_writeType 9 = .ok (.istore_n 2, 1) := by decide +kernel
theorem d_CO_writeType_10 : decode b_CO_writeType 10 = .ok (.aload_n 0, 1) := by decide +kernel
theorem d_CO_writeType_11 : decode b_CO_writeType 11 = .ok (.getfield 36, 3) := by decide +kernel
theorem d_CO_writeType_14 : decode b_CO_writeType 14 = .ok (.getfield 127, 3) := by decide +kernel
theorem d_CO_writeType_17 : decode b_CO_writeType 17 = .ok (.iload_n 1, 1) := by decide +kernel
theorem d_CO_writeType_18 : decode b_CO_writeType 18 = .ok (.iconst 1, 1) := by decide +kernel
theorem d_CO_writeType_19 : decode b_CO_writeType 19 = .ok (.iadd, 1) := by decide +kernel
theorem d_CO_writeType_20 : decode b_CO_writeType 20 = .ok (.iaload, 1) := by decide +kernel
theorem d_CO_writeType_21 : decode b_CO_writeType 21 = .ok (.iload_n 2, 1) := by decide +kernel
theorem d_CO_writeType_22 : decode b_CO_writeType 22 = .ok (.isub, 1) := by decide +kernel
theorem d_CO_writeType_23 : decode b_CO_writeType 23 = .ok (.istore_n 3, 1) := by decide +kernel
theorem d_CO_writeType_24 : decode b_CO_writeType 24 = .ok (.aload_n 0, 1) := by decide +kernel
theorem d_CO_writeType_25 : decode b_CO_writeType 25 = .ok (.getfield 33, 3) := by decide +kernel
theorem d_CO_writeType_28 : decode b_CO_writeType 28 = .ok (.bipush 96, 2) := by decide +kernel
theorem d_CO_writeType_30 : decode b_CO_writeType 30 = .ok (.invokevirtual 76, 3) := by decide +kernel
theorem d_CO_writeType_33 : decode b_CO_writeType 33 = .ok (.aload_n 0, 1) := by decide +kernel
theorem d_CO_writeType_34 : decode b_CO_writeType 34 = .ok (.getfield 33, 3) := by decide +kernel
theorem d_CO_writeType_37 : decode b_CO_writeType 37 = .ok (.iload_n 3, 1) := by decide +kernel
theorem d_CO_writeType_38 : decode b_CO_writeType 38 = .ok (.invokevirtual 218, 3) := by decide +kernel
theorem d_CO_writeType_41 : decode b_CO_writeType 41 = .ok (.iconst 0, 1) := by decide +kernel
theorem d_CO_writeType_42 : decode b_CO_writeType 42 = .ok (.istore 4, 2) := by decide +kernel
theorem d_CO_writeType_44 : decode b_CO_writeType 44 = .ok (.iload 4, 2) := by decide +kernel
theorem d_CO_writeType_46 : decode b_CO_writeType 46 = .ok (.iload_n 3, 1) := by decide +kernel
theorem d_CO_writeType_47 : decode b_CO_writeType 47 = .ok (.if_icmp .ge 31, 3) := by decide +kernel
theorem d_CO_writeType_50 : decode b_CO_writeType 50 = .ok (.aload_n 0, 1) := by decide +kernel
theorem d_CO_writeType_51 : decode b_CO_writeType 51 = .ok (.getfield 33, 3) := by decide +kernel
theorem d_CO_writeType_54 : decode b_CO_writeType 54 = .ok (.aload_n 0, 1) := by decide +kernel
theorem d_CO_writeType_55 : decode b_CO_writeType 55 = .ok (.getfield 36, 3) := by decide +kernel
theorem d_CO_writeType_58 : decode b_CO_writeType 58 = .ok (.getfield 130, 3) := by decide +kernel
theorem d_CO_writeType_61 : decode b_CO_writeType 61 = .ok (.getfield 121, 3) := by decide +kernel
theorem d_CO_writeType_64 : decode b_CO_writeType 64 = .ok (.iload_n 2, 1) := by decide +kernel
theorem d_CO_writeType_65 : decode b_CO_writeType 65 = .ok (.iload 4, 2) := by decide +kernel
theorem d_CO_writeType_67 : decode b_CO_writeType 67 = .ok (.iadd, 1) := by decide +kernel
theorem d_CO_writeType_68 : decode b_CO_writeType 68 = .ok (.iaload, 1) := by decide +kernel
theorem d_CO_writeType_69 : decode b_CO_writeType 69 = .ok (.invokevirtual 76, 3) := by decide +kernel
theorem d_CO_writeType_72 : decode b_CO_writeType 72 = .ok (.iinc 4 1, 3) := by decide +kernel
theorem d_CO_writeType_75 : decode b_CO_writeType 75 = .ok (.goto (-31), 3) := by decide +kernel
theorem d_CO_writeType_78 : decode b_CO_writeType 78 = .ok (.aload_n 0, 1) := by decide +kernel
theorem d_CO_writeType_79 : decode b_CO_writeType 79 = .ok (.getfield 36, 3) := by decide +kernel
theorem d_CO_writeType_82 : decode b_CO_writeType 82 = .ok (.getfield 61, 3) := by decide +kernel
theorem d_CO_writeType_85 : decode b_CO_writeType 85 = .ok (.getfield 121, 3) := by decide +kernel
theorem d_CO_writeType_88 : decode b_CO_writeType 88 = .ok (.iload_n 1, 1) := by decide +kernel
theorem d_CO_writeType_89 : decode b_CO_writeType 89 = .ok (.iaload, 1) := by decide +kernel
theorem d_CO_writeType_90 : decode b_CO_writeType 90 = .ok (.bipush 64, 2) := by decide +kernel
theorem d_CO_writeType_92 : decode b_CO_writeType 92 = .ok (.if_icmp .eq 7, 3) := by decide +kernel
theorem d_CO_writeType_95 : decode b_CO_writeType 95 = .ok (.iconst 1, 1) := by decide +kernel
theorem d_CO_writeType_96 : decode b_CO_writeType 96 = .ok (.goto 4, 3) := by decide +kernel
theorem d_CO_writeType_99 : decode b_CO_writeType 99 = .ok (.iconst 0, 1) := by decide +kernel
theorem d_CO_writeType_100 : decode b_CO_writeType 100 = .ok (.istore 4, 2) := by decide +kernel
theorem d_CO_writeType_102 : decode b_CO_writeType 102 = .ok (.aload_n 0, 1) := by decide +kernel
theorem d_CO_writeType_103 : decode b_CO_writeType 103 = .ok (.getfield 33, 3) := by decide +kernel
theorem d_CO_writeType_106 : decode b_CO_writeType 106 = .ok (.iload 4, 2) := by decide +kernel
theorem d_CO_writeType_108 : decode b_CO_writeType 108 = .ok (.ifCond .eq 7, 3) := by decide +kernel
theorem d_CO_writeType_111 : decode b_CO_writeType 111 = .ok (.iconst 1, 1) := by decide +kernel
theorem d_CO_writeType_112 : decode b_CO_writeType 112 = .ok (.goto 4, 3) := by decide +kernel
theorem d_CO_writeType_115 : decode b_CO_writeType 115 = .ok (.iconst 0, 1) := by decide +kernel
theorem d_CO_writeType_116 : decode b_CO_writeType 116 = .ok (.invokevirtual 76, 3) := by decide +kernel
theorem d_CO_writeType_119 : decode b_CO_writeType 119 = .ok (.iload 4, 2) := by decide +kernel
theorem d_CO_writeType_121 : decode b_CO_writeType 121 = .ok (.ifCond .eq 22, 3) := by decide +kernel
theorem d_CO_writeType_124 : decode b_CO_writeType 124 = .ok (.aload_n 0, 1) := by decide +kernel
theorem d_CO_writeType_125 : decode b_CO_writeType 125 = .ok (.getfield 33, 3) := by decide +kernel
theorem d_CO_writeType_128 : decode b_CO_writeType 128 = .ok (.aload_n 0, 1) := by decide +kernel
theorem d_CO_writeType_129 : decode b_CO_writeType 129 = .ok (.getfield 36, 3) := by decide +kernel
theorem d_CO_writeType_132 : decode b_CO_writeType 132 = .ok (.getfield 61, 3) := by decide +kernel
theorem d_CO_writeType_135 : decode b_CO_writeType 135 = .ok (.getfield 121, 3) := by decide +kernel
theorem d_CO_writeType_138 : decode b_CO_writeType 138 = .ok (.iload_n 1, 1) := by decide +kernel
theorem d_CO_writeType_139 : decode b_CO_writeType 139 = .ok (.iaload, 1) := by decide +kernel
theorem d_CO_writeType_140 : decode b_CO_writeType 140 = .ok (.invokevirtual 76, 3) := by decide +kernel
theorem d_CO_writeType_143 : decode b_CO_writeType 143 = .ok (.return_, 1) := by decide +kernel
abbrev at_CO_writeType (dC : Nat → ClassId) (dI : Nat → Nat → Nat) (h0 pr kn lt pe to bo cs se gl fu pa pf sf pk pg pp pz pv pr_scanner_r pr_waiting_r pr_waitingPlaces_r seb tr fus fuz fut fuv pas paz pat pav : Nat) (cseb cpf cfut cpat : ClassId) (h0_localCount : Int32) (h0_pendingCount : Int32) (h0_gives : Int32) (h0_depth : Int32) (h0_loopDepth : Int32) (pr_reason : Int32) (pr_place : Int32) (pr_stepCount : Int32) (pr_open : Int32) (pr_twoSides : Int32) (pr_waitingCount : Int32) (gpf : Nat → Int32) (fu_length : Int32) (gfut : Nat → Int32) (pa_length : Int32) (gpat : Nat → Int32) (A : Nat → Prop) (u : (Nat → Int32) × Int32) (t : State) : Prop := match u with | (gseb, se_length) => va_P (dC, dI) cls [(h0, .inr (2, [.ref pr, .ref kn, .ref lt, .int h0_localCount, .ref pe, .int h0_pendingCount, .int h0_gives, .int h0_depth, .int h0_loopDepth, .ref to, .ref bo, .ref cs, .ref se])), (pr, .inr (6, [.ref gl, .ref fu, .ref pa, .ref pf, .ref sf, .ref pk, .ref pg, .ref pp, .ref pz, .ref pv, .int pr_reason, .int pr_place, .ref pr_scanner_r, .int pr_stepCount, .int pr_open, .int pr_twoSides, .ref pr_waiting_r, .ref pr_waitingPlaces_r, .int pr_waitingCount])), (se, .inr (1, [.ref seb, .int se_length])), (seb, .inl (cseb, 8192, .inl gseb)), (pf, .inl (cpf, 21, .inl gpf)), (fu, .inr (5, [.ref tr, .ref fus, .ref fuz, .ref fut, .ref fuv, .int fu_length])), (fut, .inl (cfut, 20, .inl gfut)), (pa, .inr (5, [.ref tr, .ref pas, .ref paz, .ref pat, .ref pav, .int pa_length])), (pat, .inl (cpat, 160, .inl gpat))] t.heap ∧ va_K (dC, dI) cls [(cseb, .byte), (cpf, .int), (cfut, .int), (cpat, .int)] t ∧ va_D A [(h0, .inr (2, [.ref pr, .ref kn, .ref lt, .int h0_localCount, .ref pe, .int h0_pendingCount, .int h0_gives, .int h0_depth, .int h0_loopDepth, .ref to, .ref bo, .ref cs, .ref se])), (pr, .inr (6, [.ref gl, .ref fu, .ref pa, .ref pf, .ref sf, .ref pk, .ref pg, .ref pp, .ref pz, .ref pv, .int pr_reason, .int pr_place, .ref pr_scanner_r, .int pr_stepCount, .int pr_open, .int pr_twoSides, .ref pr_waiting_r, .ref pr_waitingPlaces_r, .int pr_waitingCount])), (se, .inr (1, [.ref seb, .int se_length])), (seb, .inl (cseb, 8192, .inl gseb)), (pf, .inl (cpf, 21, .inl gpf)), (fu, .inr (5, [.ref tr, .ref fus, .ref fuz, .ref fut, .ref fuv, .int fu_length])), (fut, .inl (cfut, 20, .inl gfut)), (pa, .inr (5, [.ref tr, .ref pas, .ref paz, .ref pat, .ref pav, .int pa_length])), (pat, .inl (cpat, 160, .inl gpat))]
set_option maxHeartbeats 4000000 in
set_option maxRecDepth 100000 in
theorem c_CO_writeType (l : Launch) (dC : Nat → ClassId) (dI : Nat → Nat → Nat) (sz : Nat) (h0 pr kn lt pe to bo cs se gl fu pa pf sf pk pg pp pz pv pr_scanner_r pr_waiting_r pr_waitingPlaces_r seb tr fus fuz fut fuv pas paz pat pav : Nat) (cseb cpf cfut cpat : ClassId) (h0_localCount : Int32) (h0_pendingCount : Int32) (h0_gives : Int32) (h0_depth : Int32) (h0_loopDepth : Int32) (pr_reason : Int32) (pr_place : Int32) (pr_stepCount : Int32) (pr_open : Int32) (pr_twoSides : Int32) (pr_waitingCount : Int32) (se_length : Int32) (gseb : Nat → Int32) (gpf : Nat → Int32) (fu_length : Int32) (gfut : Nat → Int32) (pa_length : Int32) (gpat : Nat → Int32)  (b_se_length : 0 ≤ se_length.toInt ∧ se_length.toInt ≤ 8192) (b_fu_length : 0 ≤ fu_length.toInt ∧ fu_length.toInt ≤ 20) (b_pa_length : 0 ≤ pa_length.toInt ∧ pa_length.toInt ≤ 160) (p0 : Int32)  (hf : 0 ≤ p0.toInt ∧ p0.toInt < fu_length.toInt) (hpf : bx (∀ f : Nat, (f : Int) < fu_length.toInt → 0 ≤ (gpf f).toInt ∧ (gpf f).toInt ≤ (gpf (f + 1)).toInt ∧ (gpf (f + 1)).toInt ≤ pa_length.toInt)) (hpq : bx (gq pa_length.toInt gpat)) (hfq : bx (∀ f : Nat, (f : Int) < fu_length.toInt → ty (gfut f).toInt)) (hpl : pa_length.toInt ≤ 160) (h8 : tkF gpf p0.toNatClampNeg ≤ 8) (hro : se_length.toInt + 20 ≤ 8192) : Met l y_CO_writeType w_CO_writeType ({ frames := 2, cells := 0, slots := 0, locals := 44 }) (va_Pc [.ref h0, .int p0] (fun U => U.heap.size = sz ∧ va_P (dC, dI) cls [(h0, .inr (2, [.ref pr, .ref kn, .ref lt, .int h0_localCount, .ref pe, .int h0_pendingCount, .int h0_gives, .int h0_depth, .int h0_loopDepth, .ref to, .ref bo, .ref cs, .ref se])), (pr, .inr (6, [.ref gl, .ref fu, .ref pa, .ref pf, .ref sf, .ref pk, .ref pg, .ref pp, .ref pz, .ref pv, .int pr_reason, .int pr_place, .ref pr_scanner_r, .int pr_stepCount, .int pr_open, .int pr_twoSides, .ref pr_waiting_r, .ref pr_waitingPlaces_r, .int pr_waitingCount])), (se, .inr (1, [.ref seb, .int se_length])), (seb, .inl (cseb, 8192, .inl gseb)), (pf, .inl (cpf, 21, .inl gpf)), (fu, .inr (5, [.ref tr, .ref fus, .ref fuz, .ref fut, .ref fuv, .int fu_length])), (fut, .inl (cfut, 20, .inl gfut)), (pa, .inr (5, [.ref tr, .ref pas, .ref paz, .ref pat, .ref pav, .int pa_length])), (pat, .inl (cpat, 160, .inl gpat))] U.heap ∧ va_K (dC, dI) cls [(cseb, .byte), (cpf, .int), (cfut, .int), (cpat, .int)] U ∧ va_D (fun _ => True) [(h0, .inr (2, [.ref pr, .ref kn, .ref lt, .int h0_localCount, .ref pe, .int h0_pendingCount, .int h0_gives, .int h0_depth, .int h0_loopDepth, .ref to, .ref bo, .ref cs, .ref se])), (pr, .inr (6, [.ref gl, .ref fu, .ref pa, .ref pf, .ref sf, .ref pk, .ref pg, .ref pp, .ref pz, .ref pv, .int pr_reason, .int pr_place, .ref pr_scanner_r, .int pr_stepCount, .int pr_open, .int pr_twoSides, .ref pr_waiting_r, .ref pr_waitingPlaces_r, .int pr_waitingCount])), (se, .inr (1, [.ref seb, .int se_length])), (seb, .inl (cseb, 8192, .inl gseb)), (pf, .inl (cpf, 21, .inl gpf)), (fu, .inr (5, [.ref tr, .ref fus, .ref fuz, .ref fut, .ref fuv, .int fu_length])), (fut, .inl (cfut, 20, .inl gfut)), (pa, .inr (5, [.ref tr, .ref pas, .ref paz, .ref pat, .ref pav, .int pa_length])), (pat, .inl (cpat, 160, .inl gpat))])) (va_Qv (fun (u : (Nat → Int32) × Int32) => match u with | (gseb2, se_length2) => (0 ≤ se_length2.toInt ∧ se_length2.toInt ≤ 8192) ∧ (∃ e : List Nat, isT (tkF gpf) gfut p0.toNatClampNeg e ∧ se_length2.toInt = se_length.toInt + (e.length : Int) ∧ bl gseb2 se_length2.toNatClampNeg = bl gseb se_length.toNatClampNeg ++ e)) (at_CO_writeType dC dI h0 pr kn lt pe to bo cs se gl fu pa pf sf pk pg pp pz pv pr_scanner_r pr_waiting_r pr_waitingPlaces_r seb tr fus fuz fut fuv pas paz pat pav cseb cpf cfut cpat h0_localCount h0_pendingCount h0_gives h0_depth h0_loopDepth pr_reason pr_place pr_stepCount pr_open pr_twoSides pr_waitingCount gpf fu_length gfut pa_length gpat (va_A [(h0, .inr (2, [.ref pr, .ref kn, .ref lt, .int h0_localCount, .ref pe, .int h0_pendingCount, .int h0_gives, .int h0_depth, .int h0_loopDepth, .ref to, .ref bo, .ref cs, .ref se])), (pr, .inr (6, [.ref gl, .ref fu, .ref pa, .ref pf, .ref sf, .ref pk, .ref pg, .ref pp, .ref pz, .ref pv, .int pr_reason, .int pr_place, .ref pr_scanner_r, .int pr_stepCount, .int pr_open, .int pr_twoSides, .ref pr_waiting_r, .ref pr_waitingPlaces_r, .int pr_waitingCount])), (se, .inr (1, [.ref seb, .int se_length])), (seb, .inl (cseb, 8192, .inl gseb)), (pf, .inl (cpf, 21, .inl gpf)), (fu, .inr (5, [.ref tr, .ref fus, .ref fuz, .ref fut, .ref fuv, .int fu_length])), (fut, .inl (cfut, 20, .inl gfut)), (pa, .inr (5, [.ref tr, .ref pas, .ref paz, .ref pat, .ref pav, .int pa_length])), (pat, .inl (cpat, 160, .inl gpat))] sz)) (va_A [(h0, .inr (2, [.ref pr, .ref kn, .ref lt, .int h0_localCount, .ref pe, .int h0_pendingCount, .int h0_gives, .int h0_depth, .int h0_loopDepth, .ref to, .ref bo, .ref cs, .ref se])), (pr, .inr (6, [.ref gl, .ref fu, .ref pa, .ref pf, .ref sf, .ref pk, .ref pg, .ref pp, .ref pz, .ref pv, .int pr_reason, .int pr_place, .ref pr_scanner_r, .int pr_stepCount, .int pr_open, .int pr_twoSides, .ref pr_waiting_r, .ref pr_waitingPlaces_r, .int pr_waitingCount])), (se, .inr (1, [.ref seb, .int se_length])), (seb, .inl (cseb, 8192, .inl gseb)), (pf, .inl (cpf, 21, .inl gpf)), (fu, .inr (5, [.ref tr, .ref fus, .ref fuz, .ref fut, .ref fuv, .int fu_length])), (fut, .inl (cfut, 20, .inl gfut)), (pa, .inr (5, [.ref tr, .ref pas, .ref paz, .ref pat, .ref pav, .int pa_length])), (pat, .inl (cpat, 160, .inl gpat))] sz)) 0 0 (va_A [(h0, .inr (2, [.ref pr, .ref kn, .ref lt, .int h0_localCount, .ref pe, .int h0_pendingCount, .int h0_gives, .int h0_depth, .int h0_loopDepth, .ref to, .ref bo, .ref cs, .ref se])), (pr, .inr (6, [.ref gl, .ref fu, .ref pa, .ref pf, .ref sf, .ref pk, .ref pg, .ref pp, .ref pz, .ref pv, .int pr_reason, .int pr_place, .ref pr_scanner_r, .int pr_stepCount, .int pr_open, .int pr_twoSides, .ref pr_waiting_r, .ref pr_waitingPlaces_r, .int pr_waitingCount])), (se, .inr (1, [.ref seb, .int se_length])), (seb, .inl (cseb, 8192, .inl gseb)), (pf, .inl (cpf, 21, .inl gpf)), (fu, .inr (5, [.ref tr, .ref fus, .ref fuz, .ref fut, .ref fuv, .int fu_length])), (fut, .inl (cfut, 20, .inl gfut)), (pa, .inr (5, [.ref tr, .ref pas, .ref paz, .ref pat, .ref pav, .int pa_length])), (pat, .inl (cpat, 160, .inl gpat))] sz) := by
  refine Met.ofW (cc := b_CO_writeType) (maxL := 5) (ret := none) (by decide) rfl ?_
  intro p e s m args below meth c s₁ B hml hv
  obtain ⟨rfl, hsz, hP, hK, hD0⟩ := hv
  have hx := B.exec
  have hb := B.bytes
  have hr := B.returns
  have hts0 := atoms_spec (ws := w_CO_writeType) B.pre
  have hts : ∀ w ∈ lw_g, w.before _ s = true := fun w h => hts0 w (List.mem_cons_of_mem _ h)
  have hown : s.vm.findClass R_CO = some m.cls := findClass_of_methodNamed B.named
  have hlocks := B.notSynchronized
  clear hts0
  subst hsz
  have hD := hD0.self (sz := s.heap.size)
  generalize hAe : va_A [(h0, .inr (2, [.ref pr, .ref kn, .ref lt, .int h0_localCount, .ref pe, .int h0_pendingCount, .int h0_gives, .int h0_depth, .int h0_loopDepth, .ref to, .ref bo, .ref cs, .ref se])), (pr, .inr (6, [.ref gl, .ref fu, .ref pa, .ref pf, .ref sf, .ref pk, .ref pg, .ref pp, .ref pz, .ref pv, .int pr_reason, .int pr_place, .ref pr_scanner_r, .int pr_stepCount, .int pr_open, .int pr_twoSides, .ref pr_waiting_r, .ref pr_waitingPlaces_r, .int pr_waitingCount])), (se, .inr (1, [.ref seb, .int se_length])), (seb, .inl (cseb, 8192, .inl gseb)), (pf, .inl (cpf, 21, .inl gpf)), (fu, .inr (5, [.ref tr, .ref fus, .ref fuz, .ref fut, .ref fuv, .int fu_length])), (fut, .inl (cfut, 20, .inl gfut)), (pa, .inr (5, [.ref tr, .ref pas, .ref paz, .ref pat, .ref pav, .int pa_length])), (pat, .inl (cpat, 160, .inl gpat))] s.heap.size = A at hD ⊢
  have hA : ∀ q : Nat, s.heap.size ≤ q → A q := fun q h => by rw [← hAe]; exact Or.inr h
  clear hAe
  have hP : va_P (dC, dI) cls [(h0, .inr (2, [.ref pr, .ref kn, .ref lt, .int h0_localCount, .ref pe, .int h0_pendingCount, .int h0_gives, .int h0_depth, .int h0_loopDepth, .ref to, .ref bo, .ref cs, .ref se])), (pr, .inr (6, [.ref gl, .ref fu, .ref pa, .ref pf, .ref sf, .ref pk, .ref pg, .ref pp, .ref pz, .ref pv, .int pr_reason, .int pr_place, .ref pr_scanner_r, .int pr_stepCount, .int pr_open, .int pr_twoSides, .ref pr_waiting_r, .ref pr_waitingPlaces_r, .int pr_waitingCount])), (se, .inr (1, [.ref seb, .int se_length])), (seb, .inl (cseb, 8192, .inl gseb)), (pf, .inl (cpf, 21, .inl gpf)), (fu, .inr (5, [.ref tr, .ref fus, .ref fuz, .ref fut, .ref fuv, .int fu_length])), (fut, .inl (cfut, 20, .inl gfut)), (pa, .inr (5, [.ref tr, .ref pas, .ref paz, .ref pat, .ref pav, .int pa_length])), (pat, .inl (cpat, 160, .inl gpat))] s.heap := hP
  have hl := lv_entry ([.ref h0, .int p0]) (n := 5) (Nat.le_of_ble_eq_true rfl)
  rw [lg_entry_eq]
  generalize (lg_sl ([.ref h0, .int p0]) ++ List.replicate (5 - (lg_sl ([.ref h0, .int p0])).length) Slot.unset).toArray = ls at hl ⊢
  have hl : lv_has ls 5 [(0, .ref h0), (1, .int p0)] := hl
  have k0 : (0 : Int32).toInt = 0 := by decide
  refine w_gen (A := A) hP (fun H locs hP hS => ?_)
  have k1 : (1 : Int32).toInt = 1 := by decide
  have k64 : (64 : Int32).toInt = 64 := by decide
  have k96 : (96 : Int32).toInt = 96 := by decide
  have lo_p0 := i32_lo p0
  have hi_p0 := i32_hi p0
  have cp0 := i32_clamp (x := p0) (by omega)
  have kp0 := hpf.out p0.toNatClampNeg (by omega)
  refine lv_aload_n hx hb d_CO_writeType_0 rfl (lv_at hl 0 rfl) ?_
  refine va_get (D := (dC, dI)) (ci := 2) (v := .ref pr) (C := R_CO) (T := F_CO) (N := 13) hx hb hts i_CO hown hK hP 0 rfl rfl 0 (by decide) (hts _ kF_CO_36) (fun _ h9 => h9) rfl d_CO_writeType_1 ?_
  refine va_get (D := (dC, dI)) (ci := 6) (v := .ref pf) (C := R_PR) (T := F_PR) (N := 19) hx hb hts i_PR hown hK hP 1 rfl rfl 3 (by decide) (hts _ kF_CO_127) (fun _ h9 => h9) rfl d_CO_writeType_4 ?_
  refine lv_iload_n hx hb d_CO_writeType_7 rfl (lv_at hl 1 rfl) ?_
  have g8 : vp_in p0 21 := vp_in_iff.mpr ⟨by omega, by omega⟩
  refine va_iald hx hb hK hP 4 1 rfl rfl g8 d_CO_writeType_8 ?_
  refine lv_topi (fun x1 ex1 => ?_)
  have tx1 : x1.toInt = (gpf p0.toNatClampNeg).toInt := by rw [ex1]
  refine lv_istore_n (lv' := [(2, .int x1), (0, .ref h0), (1, .int p0)]) hx hb d_CO_writeType_9 rfl hl (by decide) rfl (fun ls hl => ?_)
  refine lv_aload_n hx hb d_CO_writeType_10 rfl (lv_at hl 1 rfl) ?_
  refine va_get (D := (dC, dI)) (ci := 2) (v := .ref pr) (C := R_CO) (T := F_CO) (N := 13) hx hb hts i_CO hown hK hP 0 rfl rfl 0 (by decide) (hts _ kF_CO_36) (fun _ h9 => h9) rfl d_CO_writeType_11 ?_
  refine va_get (D := (dC, dI)) (ci := 6) (v := .ref pf) (C := R_PR) (T := F_PR) (N := 19) hx hb hts i_PR hown hK hP 1 rfl rfl 3 (by decide) (hts _ kF_CO_127) (fun _ h9 => h9) rfl d_CO_writeType_14 ?_
  refine lv_iload_n hx hb d_CO_writeType_17 rfl (lv_at hl 2 rfl) ?_
  refine lv_iconst (v := 1) hx hb d_CO_writeType_18 (by decide) ?_
  refine lv_iadd hx hb d_CO_writeType_19 ?_
  refine lv_topi (fun x2 ex2 => ?_)
  have tx2 : x2.toInt = p0.toInt + 1 := by have z := i32_add ex2 (by omega) (by omega); omega
  have g20 : vp_in x2 21 := vp_in_iff.mpr ⟨by omega, by omega⟩
  refine va_iald hx hb hK hP 4 1 rfl rfl g20 d_CO_writeType_20 ?_
  refine lv_topi (fun x3 ex3 => ?_)
  have zpc_ : x2.toNatClampNeg = p0.toNatClampNeg + 1 := by have := i32_clamp (x := x2) (by omega); omega
  have tx3 : x3.toInt = (gpf (p0.toNatClampNeg + 1)).toInt := by rw [ex3, zpc_]
  refine lv_iload_n hx hb d_CO_writeType_21 rfl (lv_at hl 0 rfl) ?_
  refine lv_isub hx hb d_CO_writeType_22 ?_
  refine lv_topi (fun x4 ex4 => ?_)
  have tx4 : x4.toInt = x3.toInt - x1.toInt := by have z := i32_sub ex4 (by omega) (by omega); omega
  have tkd : tkF gpf p0.toNatClampNeg = x4.toInt := by unfold tkF; omega
  refine lv_istore_n (lv' := [(3, .int x4), (2, .int x1), (0, .ref h0), (1, .int p0)]) hx hb d_CO_writeType_23 rfl hl (by decide) rfl (fun ls hl => ?_)
  refine lv_aload_n hx hb d_CO_writeType_24 rfl (lv_at hl 2 rfl) ?_
  refine va_get (D := (dC, dI)) (ci := 2) (v := .ref se) (C := R_CO) (T := F_CO) (N := 13) hx hb hts i_CO hown hK hP 0 rfl rfl 12 (by decide) (hts _ kF_CO_33) (fun _ h9 => h9) rfl d_CO_writeType_25 ?_
  refine lv_bipush (v := 96) hx hb d_CO_writeType_28 (by decide) ?_
  have hPc := hP.sub (ws' := [(se, .inr (1, [.ref seb, .int se_length])), (seb, .inl (cseb, 8192, .inl gseb))]) [2, 3] rfl
  have hDc := hD.sub (ws' := [(se, .inr (1, [.ref seb, .int se_length])), (seb, .inl (cseb, 8192, .inl gseb))]) [2, 3] (by decide) rfl
  have hKc := hK.sub (tys' := [(cseb, .byte)]) [0] rfl
  have hFc := va_free (wc := [(se, .inr (1, [.ref seb, .int se_length])), (seb, .inl (cseb, 8192, .inl gseb))]) hD hS hA [2, 3] rfl
  refine va_callv (va_runV (As := [.int 96]) (rest := []) ⟨hx, hb, hml, hown, hts⟩ (c_BR_put l dC dI se seb H.size cseb 8192 se_length gseb (by omega) (by omega) (by omega) 96) (cwV 1 hts (gV kM_CO_76 kV_BR_put kS_BR_put kI_BR kC_BR_put) rfl rfl rfl (by decide +kernel) ⟨Nat.le_of_ble_eq_true rfl, Nat.le_of_ble_eq_true rfl⟩) ⟨fun a U g mk z => by obtain ⟨z0, z1, zP, zK, zD⟩ := z; exact ⟨z0, z1, zP, va_K.moved (u := U) (U := U.calling g mk a) (Vm.Alike.refl U.vm) zK, zD⟩, va_recv hKc hPc (ci := 1) (q0 := 0) rfl rfl, fun U hU hW => ⟨rfl, by rw [hU], by rw [hU]; exact hPc, va_K.moved hW.alike hKc, hDc.weaken (fun _ _ _ _ => trivial)⟩⟩ rfl rfl hl.1 rfl (lv_room (Nat.le_of_ble_eq_true rfl)) d_CO_writeType_30 ⟨(Nat.zero_le _), (Nat.zero_le _)⟩) hS (fun q _ h => hFc q h) hFc (fun u t H1 locs ht hvm hw hB hz1 hk1 hS => ?_)
  obtain ⟨n6, f7⟩ := u
  try dsimp only at hw
  have tn6 := br_put_in (by omega) (by omega) (by omega) hw
  have bn6 := br_put_bl (by omega) (by omega) (by omega) hw
  obtain ⟨hP1, hK1, hD1⟩ := hB
  rw [ht] at hP1
  obtain ⟨hP, hD⟩ := va_join (wr := [(h0, .inr (2, [.ref pr, .ref kn, .ref lt, .int h0_localCount, .ref pe, .int h0_pendingCount, .int h0_gives, .int h0_depth, .int h0_loopDepth, .ref to, .ref bo, .ref cs, .ref se])), (pr, .inr (6, [.ref gl, .ref fu, .ref pa, .ref pf, .ref sf, .ref pk, .ref pg, .ref pp, .ref pz, .ref pv, .int pr_reason, .int pr_place, .ref pr_scanner_r, .int pr_stepCount, .int pr_open, .int pr_twoSides, .ref pr_waiting_r, .ref pr_waitingPlaces_r, .int pr_waitingCount])), (pf, .inl (cpf, 21, .inl gpf)), (fu, .inr (5, [.ref tr, .ref fus, .ref fuz, .ref fut, .ref fuv, .int fu_length])), (fut, .inl (cfut, 20, .inl gfut)), (pa, .inr (5, [.ref tr, .ref pas, .ref paz, .ref pat, .ref pav, .int pa_length])), (pat, .inl (cpat, 160, .inl gpat))]) (w1 := [(se, .inr (1, [.ref seb, .int n6])), (seb, .inl (cseb, 8192, .inl f7))]) hP hD [2, 3] [0, 1, 4, 5, 6, 7, 8] rfl rfl (by decide) (by decide) hk1 hFc hP1 hD1
  clear hPc hDc hKc hFc hz1 hk1 hP1 hK1 hD1
  generalize H1 = H at hP hS ⊢
  have hP : va_P (dC, dI) cls [(h0, .inr (2, [.ref pr, .ref kn, .ref lt, .int h0_localCount, .ref pe, .int h0_pendingCount, .int h0_gives, .int h0_depth, .int h0_loopDepth, .ref to, .ref bo, .ref cs, .ref se])), (pr, .inr (6, [.ref gl, .ref fu, .ref pa, .ref pf, .ref sf, .ref pk, .ref pg, .ref pp, .ref pz, .ref pv, .int pr_reason, .int pr_place, .ref pr_scanner_r, .int pr_stepCount, .int pr_open, .int pr_twoSides, .ref pr_waiting_r, .ref pr_waitingPlaces_r, .int pr_waitingCount])), (pf, .inl (cpf, 21, .inl gpf)), (fu, .inr (5, [.ref tr, .ref fus, .ref fuz, .ref fut, .ref fuv, .int fu_length])), (fut, .inl (cfut, 20, .inl gfut)), (pa, .inr (5, [.ref tr, .ref pas, .ref paz, .ref pat, .ref pav, .int pa_length])), (pat, .inl (cpat, 160, .inl gpat)), (se, .inr (1, [.ref seb, .int n6])), (seb, .inl (cseb, 8192, .inl f7))] H := hP
  have hD : va_D A [(h0, .inr (2, [.ref pr, .ref kn, .ref lt, .int h0_localCount, .ref pe, .int h0_pendingCount, .int h0_gives, .int h0_depth, .int h0_loopDepth, .ref to, .ref bo, .ref cs, .ref se])), (pr, .inr (6, [.ref gl, .ref fu, .ref pa, .ref pf, .ref sf, .ref pk, .ref pg, .ref pp, .ref pz, .ref pv, .int pr_reason, .int pr_place, .ref pr_scanner_r, .int pr_stepCount, .int pr_open, .int pr_twoSides, .ref pr_waiting_r, .ref pr_waitingPlaces_r, .int pr_waitingCount])), (pf, .inl (cpf, 21, .inl gpf)), (fu, .inr (5, [.ref tr, .ref fus, .ref fuz, .ref fut, .ref fuv, .int fu_length])), (fut, .inl (cfut, 20, .inl gfut)), (pa, .inr (5, [.ref tr, .ref pas, .ref paz, .ref pat, .ref pav, .int pa_length])), (pat, .inl (cpat, 160, .inl gpat)), (se, .inr (1, [.ref seb, .int n6])), (seb, .inl (cseb, 8192, .inl f7))] := hD
  refine lv_aload_n hx hb d_CO_writeType_33 rfl (lv_at hl 2 rfl) ?_
  refine va_get (D := (dC, dI)) (ci := 2) (v := .ref se) (C := R_CO) (T := F_CO) (N := 13) hx hb hts i_CO hown hK hP 0 rfl rfl 12 (by decide) (hts _ kF_CO_33) (fun _ h9 => h9) rfl d_CO_writeType_34 ?_
  refine lv_iload_n hx hb d_CO_writeType_37 rfl (lv_at hl 0 rfl) ?_
  have hPc := hP.sub (ws' := [(se, .inr (1, [.ref seb, .int n6])), (seb, .inl (cseb, 8192, .inl f7))]) [7, 8] rfl
  have hDc := hD.sub (ws' := [(se, .inr (1, [.ref seb, .int n6])), (seb, .inl (cseb, 8192, .inl f7))]) [7, 8] (by decide) rfl
  have hKc := hK.sub (tys' := [(cseb, .byte)]) [0] rfl
  have hFc := va_free (wc := [(se, .inr (1, [.ref seb, .int n6])), (seb, .inl (cseb, 8192, .inl f7))]) hD hS hA [7, 8] rfl
  refine va_callv (va_runV (As := [.int x4]) (rest := []) ⟨hx, hb, hml, hown, hts⟩ (c_BR_putUnsigned l dC dI se seb H.size cseb 8192 n6 f7 (by omega) (by omega) (by omega) x4 (by omega)) (cwV 1 hts (gV kM_CO_218 kV_BR_putUnsigned kS_BR_putUnsigned kI_BR kC_BR_putUnsigned) rfl rfl rfl (by decide +kernel) ⟨Nat.le_of_ble_eq_true rfl, Nat.le_of_ble_eq_true rfl⟩) ⟨fun a U g mk z => by obtain ⟨z0, z1, zP, zK, zD⟩ := z; exact ⟨z0, z1, zP, va_K.moved (u := U) (U := U.calling g mk a) (Vm.Alike.refl U.vm) zK, zD⟩, va_recv hKc hPc (ci := 1) (q0 := 0) rfl rfl, fun U hU hW => ⟨rfl, by rw [hU], by rw [hU]; exact hPc, va_K.moved hW.alike hKc, hDc.weaken (fun _ _ _ _ => trivial)⟩⟩ rfl rfl hl.1 rfl (lv_room (Nat.le_of_ble_eq_true rfl)) d_CO_writeType_38 ⟨(Nat.zero_le _), (Nat.zero_le _)⟩) hS (fun q _ h => hFc q h) hFc (fun u t H1 locs ht hvm hw hB hz1 hk1 hS => ?_)
  obtain ⟨n9, f10⟩ := u
  try dsimp only at hw
  obtain ⟨tn9, bn9⟩ := hw
  have ln9 := leb_len 5 (un x4)
  obtain ⟨hP1, hK1, hD1⟩ := hB
  rw [ht] at hP1
  obtain ⟨hP, hD⟩ := va_join (wr := [(h0, .inr (2, [.ref pr, .ref kn, .ref lt, .int h0_localCount, .ref pe, .int h0_pendingCount, .int h0_gives, .int h0_depth, .int h0_loopDepth, .ref to, .ref bo, .ref cs, .ref se])), (pr, .inr (6, [.ref gl, .ref fu, .ref pa, .ref pf, .ref sf, .ref pk, .ref pg, .ref pp, .ref pz, .ref pv, .int pr_reason, .int pr_place, .ref pr_scanner_r, .int pr_stepCount, .int pr_open, .int pr_twoSides, .ref pr_waiting_r, .ref pr_waitingPlaces_r, .int pr_waitingCount])), (pf, .inl (cpf, 21, .inl gpf)), (fu, .inr (5, [.ref tr, .ref fus, .ref fuz, .ref fut, .ref fuv, .int fu_length])), (fut, .inl (cfut, 20, .inl gfut)), (pa, .inr (5, [.ref tr, .ref pas, .ref paz, .ref pat, .ref pav, .int pa_length])), (pat, .inl (cpat, 160, .inl gpat))]) (w1 := [(se, .inr (1, [.ref seb, .int n9])), (seb, .inl (cseb, 8192, .inl f10))]) hP hD [7, 8] [0, 1, 2, 3, 4, 5, 6] rfl rfl (by decide) (by decide) hk1 hFc hP1 hD1
  clear hPc hDc hKc hFc hz1 hk1 hP1 hK1 hD1
  generalize H1 = H at hP hS ⊢
  have hP : va_P (dC, dI) cls [(h0, .inr (2, [.ref pr, .ref kn, .ref lt, .int h0_localCount, .ref pe, .int h0_pendingCount, .int h0_gives, .int h0_depth, .int h0_loopDepth, .ref to, .ref bo, .ref cs, .ref se])), (pr, .inr (6, [.ref gl, .ref fu, .ref pa, .ref pf, .ref sf, .ref pk, .ref pg, .ref pp, .ref pz, .ref pv, .int pr_reason, .int pr_place, .ref pr_scanner_r, .int pr_stepCount, .int pr_open, .int pr_twoSides, .ref pr_waiting_r, .ref pr_waitingPlaces_r, .int pr_waitingCount])), (pf, .inl (cpf, 21, .inl gpf)), (fu, .inr (5, [.ref tr, .ref fus, .ref fuz, .ref fut, .ref fuv, .int fu_length])), (fut, .inl (cfut, 20, .inl gfut)), (pa, .inr (5, [.ref tr, .ref pas, .ref paz, .ref pat, .ref pav, .int pa_length])), (pat, .inl (cpat, 160, .inl gpat)), (se, .inr (1, [.ref seb, .int n9])), (seb, .inl (cseb, 8192, .inl f10))] H := hP
  have hD : va_D A [(h0, .inr (2, [.ref pr, .ref kn, .ref lt, .int h0_localCount, .ref pe, .int h0_pendingCount, .int h0_gives, .int h0_depth, .int h0_loopDepth, .ref to, .ref bo, .ref cs, .ref se])), (pr, .inr (6, [.ref gl, .ref fu, .ref pa, .ref pf, .ref sf, .ref pk, .ref pg, .ref pp, .ref pz, .ref pv, .int pr_reason, .int pr_place, .ref pr_scanner_r, .int pr_stepCount, .int pr_open, .int pr_twoSides, .ref pr_waiting_r, .ref pr_waitingPlaces_r, .int pr_waitingCount])), (pf, .inl (cpf, 21, .inl gpf)), (fu, .inr (5, [.ref tr, .ref fus, .ref fuz, .ref fut, .ref fuv, .int fu_length])), (fut, .inl (cfut, 20, .inl gfut)), (pa, .inr (5, [.ref tr, .ref pas, .ref paz, .ref pat, .ref pav, .int pa_length])), (pat, .inl (cpat, 160, .inl gpat)), (se, .inr (1, [.ref seb, .int n9])), (seb, .inl (cseb, 8192, .inl f10))] := hD
  have l41 := congrArg List.length (leb_s (x := x4) (by omega) (by omega))
  rw [List.length_singleton] at l41
  refine lv_iconst (v := 0) hx hb d_CO_writeType_41 (by decide) ?_
  refine lv_istore (lv' := [(4, .int 0), (3, .int x4), (2, .int x1), (0, .ref h0), (1, .int p0)]) hx hb d_CO_writeType_42 hl (by decide) rfl (fun ls hl => ?_)
  refine w_loop (σ := Int32 × (Nat → Int32) × Int32) (fun u H locs ls => match u with | (j44_l4, j44_seb, j44_se_length) => (0 ≤ j44_se_length.toInt ∧ j44_se_length.toInt ≤ 8192) ∧ (0 ≤ j44_l4.toInt ∧ j44_l4.toInt ≤ x4.toInt ∧ j44_se_length.toInt = se_length.toInt + 2 + j44_l4.toInt) ∧ (∃ ps : List Nat, (ps.length : Int) = j44_l4.toInt ∧ (∀ p ∈ ps, p = 127 ∨ p = 126) ∧ bl j44_seb j44_se_length.toNatClampNeg = bl gseb se_length.toNatClampNeg ++ (96 :: x4.toInt.toNat :: ps) ∧ j44_se_length.toInt = se_length.toInt + 2 + (ps.length : Int)) ∧ va_P (dC, dI) cls [(h0, .inr (2, [.ref pr, .ref kn, .ref lt, .int h0_localCount, .ref pe, .int h0_pendingCount, .int h0_gives, .int h0_depth, .int h0_loopDepth, .ref to, .ref bo, .ref cs, .ref se])), (pr, .inr (6, [.ref gl, .ref fu, .ref pa, .ref pf, .ref sf, .ref pk, .ref pg, .ref pp, .ref pz, .ref pv, .int pr_reason, .int pr_place, .ref pr_scanner_r, .int pr_stepCount, .int pr_open, .int pr_twoSides, .ref pr_waiting_r, .ref pr_waitingPlaces_r, .int pr_waitingCount])), (pf, .inl (cpf, 21, .inl gpf)), (fu, .inr (5, [.ref tr, .ref fus, .ref fuz, .ref fut, .ref fuv, .int fu_length])), (fut, .inl (cfut, 20, .inl gfut)), (pa, .inr (5, [.ref tr, .ref pas, .ref paz, .ref pat, .ref pav, .int pa_length])), (pat, .inl (cpat, 160, .inl gpat)), (se, .inr (1, [.ref seb, .int j44_se_length])), (seb, .inl (cseb, 8192, .inl j44_seb))] H ∧ va_D A [(h0, .inr (2, [.ref pr, .ref kn, .ref lt, .int h0_localCount, .ref pe, .int h0_pendingCount, .int h0_gives, .int h0_depth, .int h0_loopDepth, .ref to, .ref bo, .ref cs, .ref se])), (pr, .inr (6, [.ref gl, .ref fu, .ref pa, .ref pf, .ref sf, .ref pk, .ref pg, .ref pp, .ref pz, .ref pv, .int pr_reason, .int pr_place, .ref pr_scanner_r, .int pr_stepCount, .int pr_open, .int pr_twoSides, .ref pr_waiting_r, .ref pr_waitingPlaces_r, .int pr_waitingCount])), (pf, .inl (cpf, 21, .inl gpf)), (fu, .inr (5, [.ref tr, .ref fus, .ref fuz, .ref fut, .ref fuv, .int fu_length])), (fut, .inl (cfut, 20, .inl gfut)), (pa, .inr (5, [.ref tr, .ref pas, .ref paz, .ref pat, .ref pav, .int pa_length])), (pat, .inl (cpat, 160, .inl gpat)), (se, .inr (1, [.ref seb, .int j44_se_length])), (seb, .inl (cseb, 8192, .inl j44_seb))] ∧ va_S A s.heap H locs ∧ lv_has ls 5 [(0, .ref h0), (1, .int p0), (2, .int x1), (3, .int x4), (4, .int j44_l4)]) (fun u => match u with | (j44_l4, j44_seb, j44_se_length) => (x4.toInt - j44_l4.toInt).toNat) ?_ (0, f10, n9) ⟨by (try dsimp only) <;> omega, by (try dsimp only) <;> omega, ⟨[], rfl, fun p hp => (by cases hp), by rw [bn9, bn6 (by omega), leb_s (by omega) (by omega), List.append_assoc]; rfl, by (try dsimp only); rw [List.length_nil]; omega⟩, hP, hD, hS, lv_sub hl [3, 4, 2, 1, 0] rfl⟩
  intro N44 ih44 u H locs ls hN44 hI
  obtain ⟨j44_l4, j44_seb, j44_se_length⟩ := u
  obtain ⟨b_j44_se_length, v1, hps, hP, hD, hS, hl⟩ := hI
  have hN44 : (x4.toInt - j44_l4.toInt).toNat < N44 + 1 := hN44
  refine lv_iload hx hb d_CO_writeType_44 (lv_at hl 4 rfl) ?_
  refine lv_iload_n hx hb d_CO_writeType_46 rfl (lv_at hl 3 rfl) ?_
  refine lv_icmp_ge (tgt := 78) hx hb d_CO_writeType_47 (by decide) (fun c47 => ?_) (fun c47 => ?_)
  · have q47 := leI c47
    refine lv_aload_n hx hb d_CO_writeType_78 rfl (lv_at hl 0 rfl) ?_
    refine va_get (D := (dC, dI)) (ci := 2) (v := .ref pr) (C := R_CO) (T := F_CO) (N := 13) hx hb hts i_CO hown hK hP 0 rfl rfl 0 (by decide) (hts _ kF_CO_36) (fun _ h9 => h9) rfl d_CO_writeType_79 ?_
    refine va_get (D := (dC, dI)) (ci := 6) (v := .ref fu) (C := R_PR) (T := F_PR) (N := 19) hx hb hts i_PR hown hK hP 1 rfl rfl 1 (by decide) (hts _ kF_CO_61) (fun _ h9 => h9) rfl d_CO_writeType_82 ?_
    refine va_get (D := (dC, dI)) (ci := 5) (v := .ref fut) (C := R_NA) (T := F_NA) (N := 6) hx hb hts i_NA hown hK hP 3 rfl rfl 3 (by decide) (hts _ kF_CO_121) (fun _ h9 => h9) rfl d_CO_writeType_85 ?_
    refine lv_iload_n hx hb d_CO_writeType_88 rfl (lv_at hl 1 rfl) ?_
    have g89 : vp_in p0 20 := vp_in_iff.mpr ⟨by omega, by omega⟩
    refine va_iald hx hb hK hP 4 2 rfl rfl g89 d_CO_writeType_89 ?_
    refine lv_topi (fun x11 ex11 => ?_)
    have tx11 : x11.toInt = (gfut p0.toNatClampNeg).toInt := by rw [ex11]
    have ty9 := hfq.out p0.toNatClampNeg (by omega)
    unfold ty at ty9
    refine lv_bipush (v := 64) hx hb d_CO_writeType_90 (by decide) ?_
    refine w_cut (pc2 := 100) (σ := Int32) (fun u H locs ls => match u with | j100_s0 => (j100_s0 = 0 ∨ j100_s0 = 1) ∧ ((j100_s0 = 1 ∧ (gfut p0.toNatClampNeg).toInt ≠ 64) ∨ (j100_s0 = 0 ∧ (gfut p0.toNatClampNeg).toInt = 64)) ∧ va_P (dC, dI) cls [(h0, .inr (2, [.ref pr, .ref kn, .ref lt, .int h0_localCount, .ref pe, .int h0_pendingCount, .int h0_gives, .int h0_depth, .int h0_loopDepth, .ref to, .ref bo, .ref cs, .ref se])), (pr, .inr (6, [.ref gl, .ref fu, .ref pa, .ref pf, .ref sf, .ref pk, .ref pg, .ref pp, .ref pz, .ref pv, .int pr_reason, .int pr_place, .ref pr_scanner_r, .int pr_stepCount, .int pr_open, .int pr_twoSides, .ref pr_waiting_r, .ref pr_waitingPlaces_r, .int pr_waitingCount])), (pf, .inl (cpf, 21, .inl gpf)), (fu, .inr (5, [.ref tr, .ref fus, .ref fuz, .ref fut, .ref fuv, .int fu_length])), (fut, .inl (cfut, 20, .inl gfut)), (pa, .inr (5, [.ref tr, .ref pas, .ref paz, .ref pat, .ref pav, .int pa_length])), (pat, .inl (cpat, 160, .inl gpat)), (se, .inr (1, [.ref seb, .int j44_se_length])), (seb, .inl (cseb, 8192, .inl j44_seb))] H ∧ va_D A [(h0, .inr (2, [.ref pr, .ref kn, .ref lt, .int h0_localCount, .ref pe, .int h0_pendingCount, .int h0_gives, .int h0_depth, .int h0_loopDepth, .ref to, .ref bo, .ref cs, .ref se])), (pr, .inr (6, [.ref gl, .ref fu, .ref pa, .ref pf, .ref sf, .ref pk, .ref pg, .ref pp, .ref pz, .ref pv, .int pr_reason, .int pr_place, .ref pr_scanner_r, .int pr_stepCount, .int pr_open, .int pr_twoSides, .ref pr_waiting_r, .ref pr_waitingPlaces_r, .int pr_waitingCount])), (pf, .inl (cpf, 21, .inl gpf)), (fu, .inr (5, [.ref tr, .ref fus, .ref fuz, .ref fut, .ref fuv, .int fu_length])), (fut, .inl (cfut, 20, .inl gfut)), (pa, .inr (5, [.ref tr, .ref pas, .ref paz, .ref pat, .ref pav, .int pa_length])), (pat, .inl (cpat, 160, .inl gpat)), (se, .inr (1, [.ref seb, .int j44_se_length])), (seb, .inl (cseb, 8192, .inl j44_seb))] ∧ va_S A s.heap H locs ∧ lv_has ls 5 [(0, .ref h0), (1, .int p0)]) (fun u => match u with | j100_s0 => [.int j100_s0]) ?_ (fun jn100 => ?_)
    · intro u H locs ls hI
      obtain ⟨j100_s0, rfl⟩ : ∃ z, z = u := ⟨_, rfl⟩
      obtain ⟨b_j100_s0, y100, hP, hD, hS, hl⟩ := hI
      have tj100_s0 := b01 b_j100_s0
      refine lv_istore (lv' := [(4, .int j100_s0), (0, .ref h0), (1, .int p0)]) hx hb d_CO_writeType_100 hl (by decide) rfl (fun ls hl => ?_)
      refine lv_aload_n hx hb d_CO_writeType_102 rfl (lv_at hl 1 rfl) ?_
      refine va_get (D := (dC, dI)) (ci := 2) (v := .ref se) (C := R_CO) (T := F_CO) (N := 13) hx hb hts i_CO hown hK hP 0 rfl rfl 12 (by decide) (hts _ kF_CO_33) (fun _ h9 => h9) rfl d_CO_writeType_103 ?_
      refine lv_iload hx hb d_CO_writeType_106 (lv_at hl 0 rfl) ?_
      refine w_cut (pc2 := 116) (σ := Int32) (fun u H locs ls => match u with | j116_s0 => (j116_s0 = 0 ∨ j116_s0 = 1) ∧ ((0 ≤ j116_s0.toInt ∧ j116_s0.toInt ≤ 1) ∧ (j100_s0 ≠ 0 → bn j116_s0 = 1) ∧ (j100_s0 = 0 → bn j116_s0 = 0)) ∧ va_P (dC, dI) cls [(h0, .inr (2, [.ref pr, .ref kn, .ref lt, .int h0_localCount, .ref pe, .int h0_pendingCount, .int h0_gives, .int h0_depth, .int h0_loopDepth, .ref to, .ref bo, .ref cs, .ref se])), (pr, .inr (6, [.ref gl, .ref fu, .ref pa, .ref pf, .ref sf, .ref pk, .ref pg, .ref pp, .ref pz, .ref pv, .int pr_reason, .int pr_place, .ref pr_scanner_r, .int pr_stepCount, .int pr_open, .int pr_twoSides, .ref pr_waiting_r, .ref pr_waitingPlaces_r, .int pr_waitingCount])), (pf, .inl (cpf, 21, .inl gpf)), (fu, .inr (5, [.ref tr, .ref fus, .ref fuz, .ref fut, .ref fuv, .int fu_length])), (fut, .inl (cfut, 20, .inl gfut)), (pa, .inr (5, [.ref tr, .ref pas, .ref paz, .ref pat, .ref pav, .int pa_length])), (pat, .inl (cpat, 160, .inl gpat)), (se, .inr (1, [.ref seb, .int j44_se_length])), (seb, .inl (cseb, 8192, .inl j44_seb))] H ∧ va_D A [(h0, .inr (2, [.ref pr, .ref kn, .ref lt, .int h0_localCount, .ref pe, .int h0_pendingCount, .int h0_gives, .int h0_depth, .int h0_loopDepth, .ref to, .ref bo, .ref cs, .ref se])), (pr, .inr (6, [.ref gl, .ref fu, .ref pa, .ref pf, .ref sf, .ref pk, .ref pg, .ref pp, .ref pz, .ref pv, .int pr_reason, .int pr_place, .ref pr_scanner_r, .int pr_stepCount, .int pr_open, .int pr_twoSides, .ref pr_waiting_r, .ref pr_waitingPlaces_r, .int pr_waitingCount])), (pf, .inl (cpf, 21, .inl gpf)), (fu, .inr (5, [.ref tr, .ref fus, .ref fuz, .ref fut, .ref fuv, .int fu_length])), (fut, .inl (cfut, 20, .inl gfut)), (pa, .inr (5, [.ref tr, .ref pas, .ref paz, .ref pat, .ref pav, .int pa_length])), (pat, .inl (cpat, 160, .inl gpat)), (se, .inr (1, [.ref seb, .int j44_se_length])), (seb, .inl (cseb, 8192, .inl j44_seb))] ∧ va_S A s.heap H locs ∧ lv_has ls 5 [(0, .ref h0), (1, .int p0), (4, .int j100_s0)]) (fun u => match u with | j116_s0 => [.int j116_s0, .ref se]) ?_ (fun jn116 => ?_)
      · intro u H locs ls hI
        obtain ⟨j116_s0, rfl⟩ : ∃ z, z = u := ⟨_, rfl⟩
        obtain ⟨b_j116_s0, y116, hP, hD, hS, hl⟩ := hI
        have tj116_s0 := b01 b_j116_s0
        have hPc := hP.sub (ws' := [(se, .inr (1, [.ref seb, .int j44_se_length])), (seb, .inl (cseb, 8192, .inl j44_seb))]) [7, 8] rfl
        have hDc := hD.sub (ws' := [(se, .inr (1, [.ref seb, .int j44_se_length])), (seb, .inl (cseb, 8192, .inl j44_seb))]) [7, 8] (by decide) rfl
        have hKc := hK.sub (tys' := [(cseb, .byte)]) [0] rfl
        have hFc := va_free (wc := [(se, .inr (1, [.ref seb, .int j44_se_length])), (seb, .inl (cseb, 8192, .inl j44_seb))]) hD hS hA [7, 8] rfl
        refine va_callv (va_runV (As := [.int j116_s0]) (rest := []) ⟨hx, hb, hml, hown, hts⟩ (c_BR_put l dC dI se seb H.size cseb 8192 j44_se_length j44_seb (by omega) (by omega) (by omega) j116_s0) (cwV 1 hts (gV kM_CO_76 kV_BR_put kS_BR_put kI_BR kC_BR_put) rfl rfl rfl (by decide +kernel) ⟨Nat.le_of_ble_eq_true rfl, Nat.le_of_ble_eq_true rfl⟩) ⟨fun a U g mk z => by obtain ⟨z0, z1, zP, zK, zD⟩ := z; exact ⟨z0, z1, zP, va_K.moved (u := U) (U := U.calling g mk a) (Vm.Alike.refl U.vm) zK, zD⟩, va_recv hKc hPc (ci := 1) (q0 := 0) rfl rfl, fun U hU hW => ⟨rfl, by rw [hU], by rw [hU]; exact hPc, va_K.moved hW.alike hKc, hDc.weaken (fun _ _ _ _ => trivial)⟩⟩ rfl rfl hl.1 rfl (lv_room (Nat.le_of_ble_eq_true rfl)) d_CO_writeType_116 ⟨(Nat.zero_le _), (Nat.zero_le _)⟩) hS (fun q _ h => hFc q h) hFc (fun u t H1 locs ht hvm hw hB hz1 hk1 hS => ?_)
        obtain ⟨n13, f14⟩ := u
        try dsimp only at hw
        have tn13 := br_put_in (by omega) (by omega) (by omega) hw
        have bn13 := br_put_bl (by omega) (by omega) (by omega) hw
        obtain ⟨hP1, hK1, hD1⟩ := hB
        rw [ht] at hP1
        obtain ⟨hP, hD⟩ := va_join (wr := [(h0, .inr (2, [.ref pr, .ref kn, .ref lt, .int h0_localCount, .ref pe, .int h0_pendingCount, .int h0_gives, .int h0_depth, .int h0_loopDepth, .ref to, .ref bo, .ref cs, .ref se])), (pr, .inr (6, [.ref gl, .ref fu, .ref pa, .ref pf, .ref sf, .ref pk, .ref pg, .ref pp, .ref pz, .ref pv, .int pr_reason, .int pr_place, .ref pr_scanner_r, .int pr_stepCount, .int pr_open, .int pr_twoSides, .ref pr_waiting_r, .ref pr_waitingPlaces_r, .int pr_waitingCount])), (pf, .inl (cpf, 21, .inl gpf)), (fu, .inr (5, [.ref tr, .ref fus, .ref fuz, .ref fut, .ref fuv, .int fu_length])), (fut, .inl (cfut, 20, .inl gfut)), (pa, .inr (5, [.ref tr, .ref pas, .ref paz, .ref pat, .ref pav, .int pa_length])), (pat, .inl (cpat, 160, .inl gpat))]) (w1 := [(se, .inr (1, [.ref seb, .int n13])), (seb, .inl (cseb, 8192, .inl f14))]) hP hD [7, 8] [0, 1, 2, 3, 4, 5, 6] rfl rfl (by decide) (by decide) hk1 hFc hP1 hD1
        clear hPc hDc hKc hFc hz1 hk1 hP1 hK1 hD1
        generalize H1 = H at hP hS ⊢
        have hP : va_P (dC, dI) cls [(h0, .inr (2, [.ref pr, .ref kn, .ref lt, .int h0_localCount, .ref pe, .int h0_pendingCount, .int h0_gives, .int h0_depth, .int h0_loopDepth, .ref to, .ref bo, .ref cs, .ref se])), (pr, .inr (6, [.ref gl, .ref fu, .ref pa, .ref pf, .ref sf, .ref pk, .ref pg, .ref pp, .ref pz, .ref pv, .int pr_reason, .int pr_place, .ref pr_scanner_r, .int pr_stepCount, .int pr_open, .int pr_twoSides, .ref pr_waiting_r, .ref pr_waitingPlaces_r, .int pr_waitingCount])), (pf, .inl (cpf, 21, .inl gpf)), (fu, .inr (5, [.ref tr, .ref fus, .ref fuz, .ref fut, .ref fuv, .int fu_length])), (fut, .inl (cfut, 20, .inl gfut)), (pa, .inr (5, [.ref tr, .ref pas, .ref paz, .ref pat, .ref pav, .int pa_length])), (pat, .inl (cpat, 160, .inl gpat)), (se, .inr (1, [.ref seb, .int n13])), (seb, .inl (cseb, 8192, .inl f14))] H := hP
        have hD : va_D A [(h0, .inr (2, [.ref pr, .ref kn, .ref lt, .int h0_localCount, .ref pe, .int h0_pendingCount, .int h0_gives, .int h0_depth, .int h0_loopDepth, .ref to, .ref bo, .ref cs, .ref se])), (pr, .inr (6, [.ref gl, .ref fu, .ref pa, .ref pf, .ref sf, .ref pk, .ref pg, .ref pp, .ref pz, .ref pv, .int pr_reason, .int pr_place, .ref pr_scanner_r, .int pr_stepCount, .int pr_open, .int pr_twoSides, .ref pr_waiting_r, .ref pr_waitingPlaces_r, .int pr_waitingCount])), (pf, .inl (cpf, 21, .inl gpf)), (fu, .inr (5, [.ref tr, .ref fus, .ref fuz, .ref fut, .ref fuv, .int fu_length])), (fut, .inl (cfut, 20, .inl gfut)), (pa, .inr (5, [.ref tr, .ref pas, .ref paz, .ref pat, .ref pav, .int pa_length])), (pat, .inl (cpat, 160, .inl gpat)), (se, .inr (1, [.ref seb, .int n13])), (seb, .inl (cseb, 8192, .inl f14))] := hD
        refine lv_iload hx hb d_CO_writeType_119 (lv_at hl 2 rfl) ?_
        refine lv_if_eq (tgt := 143) hx hb d_CO_writeType_121 (by decide) (fun c121 => ?_) (fun c121 => ?_)
        · have q121 := eqI c121
          have k143 : (gfut p0.toNatClampNeg).toInt = 64 := by rcases y100 with z | z; (exfalso; rw [z.1] at c121; exact absurd c121 (by decide)); exact z.2
          have hP9 := hP.sub (ws' := [(h0, .inr (2, [.ref pr, .ref kn, .ref lt, .int h0_localCount, .ref pe, .int h0_pendingCount, .int h0_gives, .int h0_depth, .int h0_loopDepth, .ref to, .ref bo, .ref cs, .ref se])), (pr, .inr (6, [.ref gl, .ref fu, .ref pa, .ref pf, .ref sf, .ref pk, .ref pg, .ref pp, .ref pz, .ref pv, .int pr_reason, .int pr_place, .ref pr_scanner_r, .int pr_stepCount, .int pr_open, .int pr_twoSides, .ref pr_waiting_r, .ref pr_waitingPlaces_r, .int pr_waitingCount])), (se, .inr (1, [.ref seb, .int n13])), (seb, .inl (cseb, 8192, .inl f14)), (pf, .inl (cpf, 21, .inl gpf)), (fu, .inr (5, [.ref tr, .ref fus, .ref fuz, .ref fut, .ref fuv, .int fu_length])), (fut, .inl (cfut, 20, .inl gfut)), (pa, .inr (5, [.ref tr, .ref pas, .ref paz, .ref pat, .ref pav, .int pa_length])), (pat, .inl (cpat, 160, .inl gpat))]) [0, 1, 7, 8, 2, 3, 4, 5, 6] rfl
          have hD9 := hD.sub (ws' := [(h0, .inr (2, [.ref pr, .ref kn, .ref lt, .int h0_localCount, .ref pe, .int h0_pendingCount, .int h0_gives, .int h0_depth, .int h0_loopDepth, .ref to, .ref bo, .ref cs, .ref se])), (pr, .inr (6, [.ref gl, .ref fu, .ref pa, .ref pf, .ref sf, .ref pk, .ref pg, .ref pp, .ref pz, .ref pv, .int pr_reason, .int pr_place, .ref pr_scanner_r, .int pr_stepCount, .int pr_open, .int pr_twoSides, .ref pr_waiting_r, .ref pr_waitingPlaces_r, .int pr_waitingCount])), (se, .inr (1, [.ref seb, .int n13])), (seb, .inl (cseb, 8192, .inl f14)), (pf, .inl (cpf, 21, .inl gpf)), (fu, .inr (5, [.ref tr, .ref fus, .ref fuz, .ref fut, .ref fuv, .int fu_length])), (fut, .inl (cfut, 20, .inl gfut)), (pa, .inr (5, [.ref tr, .ref pas, .ref paz, .ref pat, .ref pav, .int pa_length])), (pat, .inl (cpat, 160, .inl gpat))]) [0, 1, 7, 8, 2, 3, 4, 5, 6] (by decide) rfl
          exact W.vret hx hb hr (fun t ht hW => ⟨⟨(f14, n13), rfl, ⟨by (try dsimp only) <;> omega, (by obtain ⟨ps, y1, y2, y3, y4⟩ := hps; refine ⟨tyb ps (gfut p0.toNatClampNeg).toInt.toNat, ⟨ps, by rw [tkd]; omega, y2, rfl⟩, ?_, ?_⟩; (unfold tyb; rw [if_pos (by omega)]; simp only [List.length_cons, List.length_append, List.length_nil]; (try dsimp only) <;> omega); ((try dsimp only); rw [bn13 (by omega), y3, y116.2.2 c121]; unfold tyb; rw [if_pos (by omega), show x4.toInt.toNat = ps.length from by omega]; simp only [List.append_assoc, List.cons_append]; (try rfl)))⟩, by rw [ht]; exact hP9, va_K.moved hW.alike hK, hD9⟩, hS.F ht⟩) hS.2.2 d_CO_writeType_143
        · have q121 := neI c121
          have k124 : (gfut p0.toNatClampNeg).toInt ≠ 64 := by rcases y100 with z | z; exact z.2; (exfalso; rw [z.1] at q121; exact q121 rfl)
          refine lv_aload_n hx hb d_CO_writeType_124 rfl (lv_at hl 0 rfl) ?_
          refine va_get (D := (dC, dI)) (ci := 2) (v := .ref se) (C := R_CO) (T := F_CO) (N := 13) hx hb hts i_CO hown hK hP 0 rfl rfl 12 (by decide) (hts _ kF_CO_33) (fun _ h9 => h9) rfl d_CO_writeType_125 ?_
          refine lv_aload_n hx hb d_CO_writeType_128 rfl (lv_at hl 0 rfl) ?_
          refine va_get (D := (dC, dI)) (ci := 2) (v := .ref pr) (C := R_CO) (T := F_CO) (N := 13) hx hb hts i_CO hown hK hP 0 rfl rfl 0 (by decide) (hts _ kF_CO_36) (fun _ h9 => h9) rfl d_CO_writeType_129 ?_
          refine va_get (D := (dC, dI)) (ci := 6) (v := .ref fu) (C := R_PR) (T := F_PR) (N := 19) hx hb hts i_PR hown hK hP 1 rfl rfl 1 (by decide) (hts _ kF_CO_61) (fun _ h9 => h9) rfl d_CO_writeType_132 ?_
          refine va_get (D := (dC, dI)) (ci := 5) (v := .ref fut) (C := R_NA) (T := F_NA) (N := 6) hx hb hts i_NA hown hK hP 3 rfl rfl 3 (by decide) (hts _ kF_CO_121) (fun _ h9 => h9) rfl d_CO_writeType_135 ?_
          refine lv_iload_n hx hb d_CO_writeType_138 rfl (lv_at hl 1 rfl) ?_
          have g139 : vp_in p0 20 := vp_in_iff.mpr ⟨by omega, by omega⟩
          refine va_iald hx hb hK hP 4 2 rfl rfl g139 d_CO_writeType_139 ?_
          refine lv_topi (fun x15 ex15 => ?_)
          have tx15 : x15.toInt = (gfut p0.toNatClampNeg).toInt := by rw [ex15]
          have hPc := hP.sub (ws' := [(se, .inr (1, [.ref seb, .int n13])), (seb, .inl (cseb, 8192, .inl f14))]) [7, 8] rfl
          have hDc := hD.sub (ws' := [(se, .inr (1, [.ref seb, .int n13])), (seb, .inl (cseb, 8192, .inl f14))]) [7, 8] (by decide) rfl
          have hKc := hK.sub (tys' := [(cseb, .byte)]) [0] rfl
          have hFc := va_free (wc := [(se, .inr (1, [.ref seb, .int n13])), (seb, .inl (cseb, 8192, .inl f14))]) hD hS hA [7, 8] rfl
          refine va_callv (va_runV (As := [.int x15]) (rest := []) ⟨hx, hb, hml, hown, hts⟩ (c_BR_put l dC dI se seb H.size cseb 8192 n13 f14 (by omega) (by omega) (by omega) x15) (cwV 1 hts (gV kM_CO_76 kV_BR_put kS_BR_put kI_BR kC_BR_put) rfl rfl rfl (by decide +kernel) ⟨Nat.le_of_ble_eq_true rfl, Nat.le_of_ble_eq_true rfl⟩) ⟨fun a U g mk z => by obtain ⟨z0, z1, zP, zK, zD⟩ := z; exact ⟨z0, z1, zP, va_K.moved (u := U) (U := U.calling g mk a) (Vm.Alike.refl U.vm) zK, zD⟩, va_recv hKc hPc (ci := 1) (q0 := 0) rfl rfl, fun U hU hW => ⟨rfl, by rw [hU], by rw [hU]; exact hPc, va_K.moved hW.alike hKc, hDc.weaken (fun _ _ _ _ => trivial)⟩⟩ rfl rfl hl.1 rfl (lv_room (Nat.le_of_ble_eq_true rfl)) d_CO_writeType_140 ⟨(Nat.zero_le _), (Nat.zero_le _)⟩) hS (fun q _ h => hFc q h) hFc (fun u t H1 locs ht hvm hw hB hz1 hk1 hS => ?_)
          obtain ⟨n17, f18⟩ := u
          try dsimp only at hw
          have tn17 := br_put_in (by omega) (by omega) (by omega) hw
          have bn17 := br_put_bl (by omega) (by omega) (by omega) hw
          obtain ⟨hP1, hK1, hD1⟩ := hB
          rw [ht] at hP1
          obtain ⟨hP, hD⟩ := va_join (wr := [(h0, .inr (2, [.ref pr, .ref kn, .ref lt, .int h0_localCount, .ref pe, .int h0_pendingCount, .int h0_gives, .int h0_depth, .int h0_loopDepth, .ref to, .ref bo, .ref cs, .ref se])), (pr, .inr (6, [.ref gl, .ref fu, .ref pa, .ref pf, .ref sf, .ref pk, .ref pg, .ref pp, .ref pz, .ref pv, .int pr_reason, .int pr_place, .ref pr_scanner_r, .int pr_stepCount, .int pr_open, .int pr_twoSides, .ref pr_waiting_r, .ref pr_waitingPlaces_r, .int pr_waitingCount])), (pf, .inl (cpf, 21, .inl gpf)), (fu, .inr (5, [.ref tr, .ref fus, .ref fuz, .ref fut, .ref fuv, .int fu_length])), (fut, .inl (cfut, 20, .inl gfut)), (pa, .inr (5, [.ref tr, .ref pas, .ref paz, .ref pat, .ref pav, .int pa_length])), (pat, .inl (cpat, 160, .inl gpat))]) (w1 := [(se, .inr (1, [.ref seb, .int n17])), (seb, .inl (cseb, 8192, .inl f18))]) hP hD [7, 8] [0, 1, 2, 3, 4, 5, 6] rfl rfl (by decide) (by decide) hk1 hFc hP1 hD1
          clear hPc hDc hKc hFc hz1 hk1 hP1 hK1 hD1
          generalize H1 = H at hP hS ⊢
          have hP : va_P (dC, dI) cls [(h0, .inr (2, [.ref pr, .ref kn, .ref lt, .int h0_localCount, .ref pe, .int h0_pendingCount, .int h0_gives, .int h0_depth, .int h0_loopDepth, .ref to, .ref bo, .ref cs, .ref se])), (pr, .inr (6, [.ref gl, .ref fu, .ref pa, .ref pf, .ref sf, .ref pk, .ref pg, .ref pp, .ref pz, .ref pv, .int pr_reason, .int pr_place, .ref pr_scanner_r, .int pr_stepCount, .int pr_open, .int pr_twoSides, .ref pr_waiting_r, .ref pr_waitingPlaces_r, .int pr_waitingCount])), (pf, .inl (cpf, 21, .inl gpf)), (fu, .inr (5, [.ref tr, .ref fus, .ref fuz, .ref fut, .ref fuv, .int fu_length])), (fut, .inl (cfut, 20, .inl gfut)), (pa, .inr (5, [.ref tr, .ref pas, .ref paz, .ref pat, .ref pav, .int pa_length])), (pat, .inl (cpat, 160, .inl gpat)), (se, .inr (1, [.ref seb, .int n17])), (seb, .inl (cseb, 8192, .inl f18))] H := hP
          have hD : va_D A [(h0, .inr (2, [.ref pr, .ref kn, .ref lt, .int h0_localCount, .ref pe, .int h0_pendingCount, .int h0_gives, .int h0_depth, .int h0_loopDepth, .ref to, .ref bo, .ref cs, .ref se])), (pr, .inr (6, [.ref gl, .ref fu, .ref pa, .ref pf, .ref sf, .ref pk, .ref pg, .ref pp, .ref pz, .ref pv, .int pr_reason, .int pr_place, .ref pr_scanner_r, .int pr_stepCount, .int pr_open, .int pr_twoSides, .ref pr_waiting_r, .ref pr_waitingPlaces_r, .int pr_waitingCount])), (pf, .inl (cpf, 21, .inl gpf)), (fu, .inr (5, [.ref tr, .ref fus, .ref fuz, .ref fut, .ref fuv, .int fu_length])), (fut, .inl (cfut, 20, .inl gfut)), (pa, .inr (5, [.ref tr, .ref pas, .ref paz, .ref pat, .ref pav, .int pa_length])), (pat, .inl (cpat, 160, .inl gpat)), (se, .inr (1, [.ref seb, .int n17])), (seb, .inl (cseb, 8192, .inl f18))] := hD
          have hP9 := hP.sub (ws' := [(h0, .inr (2, [.ref pr, .ref kn, .ref lt, .int h0_localCount, .ref pe, .int h0_pendingCount, .int h0_gives, .int h0_depth, .int h0_loopDepth, .ref to, .ref bo, .ref cs, .ref se])), (pr, .inr (6, [.ref gl, .ref fu, .ref pa, .ref pf, .ref sf, .ref pk, .ref pg, .ref pp, .ref pz, .ref pv, .int pr_reason, .int pr_place, .ref pr_scanner_r, .int pr_stepCount, .int pr_open, .int pr_twoSides, .ref pr_waiting_r, .ref pr_waitingPlaces_r, .int pr_waitingCount])), (se, .inr (1, [.ref seb, .int n17])), (seb, .inl (cseb, 8192, .inl f18)), (pf, .inl (cpf, 21, .inl gpf)), (fu, .inr (5, [.ref tr, .ref fus, .ref fuz, .ref fut, .ref fuv, .int fu_length])), (fut, .inl (cfut, 20, .inl gfut)), (pa, .inr (5, [.ref tr, .ref pas, .ref paz, .ref pat, .ref pav, .int pa_length])), (pat, .inl (cpat, 160, .inl gpat))]) [0, 1, 7, 8, 2, 3, 4, 5, 6] rfl
          have hD9 := hD.sub (ws' := [(h0, .inr (2, [.ref pr, .ref kn, .ref lt, .int h0_localCount, .ref pe, .int h0_pendingCount, .int h0_gives, .int h0_depth, .int h0_loopDepth, .ref to, .ref bo, .ref cs, .ref se])), (pr, .inr (6, [.ref gl, .ref fu, .ref pa, .ref pf, .ref sf, .ref pk, .ref pg, .ref pp, .ref pz, .ref pv, .int pr_reason, .int pr_place, .ref pr_scanner_r, .int pr_stepCount, .int pr_open, .int pr_twoSides, .ref pr_waiting_r, .ref pr_waitingPlaces_r, .int pr_waitingCount])), (se, .inr (1, [.ref seb, .int n17])), (seb, .inl (cseb, 8192, .inl f18)), (pf, .inl (cpf, 21, .inl gpf)), (fu, .inr (5, [.ref tr, .ref fus, .ref fuz, .ref fut, .ref fuv, .int fu_length])), (fut, .inl (cfut, 20, .inl gfut)), (pa, .inr (5, [.ref tr, .ref pas, .ref paz, .ref pat, .ref pav, .int pa_length])), (pat, .inl (cpat, 160, .inl gpat))]) [0, 1, 7, 8, 2, 3, 4, 5, 6] (by decide) rfl
          exact W.vret hx hb hr (fun t ht hW => ⟨⟨(f18, n17), rfl, ⟨by (try dsimp only) <;> omega, (by obtain ⟨ps, y1, y2, y3, y4⟩ := hps; refine ⟨tyb ps (gfut p0.toNatClampNeg).toInt.toNat, ⟨ps, by rw [tkd]; omega, y2, rfl⟩, ?_, ?_⟩; (unfold tyb; rw [if_neg (by omega)]; simp only [List.length_cons, List.length_append, List.length_nil]; (try dsimp only) <;> omega); ((try dsimp only); rw [bn17 (by omega), bn13 (by omega), y3, y116.2.1 (fun z => q121 (by rw [z])), bn_s (x := x15) (by omega) (by omega)]; unfold tyb; rw [if_neg (by omega), show x4.toInt.toNat = ps.length from by omega, show x15.toInt = (gfut p0.toNatClampNeg).toInt from by rw [ex15]]; simp only [List.append_assoc, List.cons_append]; (try rfl)))⟩, by rw [ht]; exact hP9, va_K.moved hW.alike hK, hD9⟩, hS.F ht⟩) hS.2.2 d_CO_writeType_143
      · skip
        refine lv_if_eq (tgt := 115) hx hb d_CO_writeType_108 (by decide) (fun c108 => ?_) (fun c108 => ?_)
        · have q108 := eqI c108
          refine lv_iconst (v := 0) hx hb d_CO_writeType_115 (by decide) ?_
          exact jn116 0 _ _ _ ⟨Or.inl rfl, ⟨by decide, fun z => absurd c108 z, fun _ => rfl⟩, hP, hD, hS, lv_sub hl [1, 2, 0] rfl⟩
        · have q108 := neI c108
          refine lv_iconst (v := 1) hx hb d_CO_writeType_111 (by decide) ?_
          refine lv_goto (tgt := 116) hx hb d_CO_writeType_112 (by decide) ?_
          exact jn116 1 _ _ _ ⟨Or.inr rfl, ⟨by decide, fun _ => rfl, fun z => absurd (congrArg Int32.toInt z) q108⟩, hP, hD, hS, lv_sub hl [1, 2, 0] rfl⟩
    · skip
      refine lv_icmp_eq (tgt := 99) hx hb d_CO_writeType_92 (by decide) (fun c92 => ?_) (fun c92 => ?_)
      · have q92 := eqI c92
        refine lv_iconst (v := 0) hx hb d_CO_writeType_99 (by decide) ?_
        exact jn100 0 _ _ _ ⟨Or.inl rfl, Or.inr ⟨rfl, by omega⟩, hP, hD, hS, lv_sub hl [0, 1] rfl⟩
      · have q92 := neI c92
        refine lv_iconst (v := 1) hx hb d_CO_writeType_95 (by decide) ?_
        refine lv_goto (tgt := 100) hx hb d_CO_writeType_96 (by decide) ?_
        exact jn100 1 _ _ _ ⟨Or.inr rfl, Or.inl ⟨rfl, by omega⟩, hP, hD, hS, lv_sub hl [0, 1] rfl⟩
  · have q47 := nleI c47
    refine lv_aload_n hx hb d_CO_writeType_50 rfl (lv_at hl 0 rfl) ?_
    refine va_get (D := (dC, dI)) (ci := 2) (v := .ref se) (C := R_CO) (T := F_CO) (N := 13) hx hb hts i_CO hown hK hP 0 rfl rfl 12 (by decide) (hts _ kF_CO_33) (fun _ h9 => h9) rfl d_CO_writeType_51 ?_
    refine lv_aload_n hx hb d_CO_writeType_54 rfl (lv_at hl 0 rfl) ?_
    refine va_get (D := (dC, dI)) (ci := 2) (v := .ref pr) (C := R_CO) (T := F_CO) (N := 13) hx hb hts i_CO hown hK hP 0 rfl rfl 0 (by decide) (hts _ kF_CO_36) (fun _ h9 => h9) rfl d_CO_writeType_55 ?_
    refine va_get (D := (dC, dI)) (ci := 6) (v := .ref pa) (C := R_PR) (T := F_PR) (N := 19) hx hb hts i_PR hown hK hP 1 rfl rfl 2 (by decide) (hts _ kF_CO_130) (fun _ h9 => h9) rfl d_CO_writeType_58 ?_
    refine va_get (D := (dC, dI)) (ci := 5) (v := .ref pat) (C := R_NA) (T := F_NA) (N := 6) hx hb hts i_NA hown hK hP 5 rfl rfl 3 (by decide) (hts _ kF_CO_121) (fun _ h9 => h9) rfl d_CO_writeType_61 ?_
    refine lv_iload_n hx hb d_CO_writeType_64 rfl (lv_at hl 2 rfl) ?_
    refine lv_iload hx hb d_CO_writeType_65 (lv_at hl 4 rfl) ?_
    refine lv_iadd hx hb d_CO_writeType_67 ?_
    refine lv_topi (fun x19 ex19 => ?_)
    have tx19 : x19.toInt = x1.toInt + j44_l4.toInt := by have z := i32_add ex19 (by omega) (by omega); omega
    have g68 : vp_in x19 160 := vp_in_iff.mpr ⟨by omega, by omega⟩
    refine va_iald hx hb hK hP 6 3 rfl rfl g68 d_CO_writeType_68 ?_
    refine lv_topi (fun x20 ex20 => ?_)
    have tx20 := hpq.out x19.toNatClampNeg (by have := i32_clamp (x := x19) (by omega); omega)
    rw [← ex20] at tx20
    have hPc := hP.sub (ws' := [(se, .inr (1, [.ref seb, .int j44_se_length])), (seb, .inl (cseb, 8192, .inl j44_seb))]) [7, 8] rfl
    have hDc := hD.sub (ws' := [(se, .inr (1, [.ref seb, .int j44_se_length])), (seb, .inl (cseb, 8192, .inl j44_seb))]) [7, 8] (by decide) rfl
    have hKc := hK.sub (tys' := [(cseb, .byte)]) [0] rfl
    have hFc := va_free (wc := [(se, .inr (1, [.ref seb, .int j44_se_length])), (seb, .inl (cseb, 8192, .inl j44_seb))]) hD hS hA [7, 8] rfl
    refine va_callv (va_runV (As := [.int x20]) (rest := []) ⟨hx, hb, hml, hown, hts⟩ (c_BR_put l dC dI se seb H.size cseb 8192 j44_se_length j44_seb (by omega) (by omega) (by omega) x20) (cwV 1 hts (gV kM_CO_76 kV_BR_put kS_BR_put kI_BR kC_BR_put) rfl rfl rfl (by decide +kernel) ⟨Nat.le_of_ble_eq_true rfl, Nat.le_of_ble_eq_true rfl⟩) ⟨fun a U g mk z => by obtain ⟨z0, z1, zP, zK, zD⟩ := z; exact ⟨z0, z1, zP, va_K.moved (u := U) (U := U.calling g mk a) (Vm.Alike.refl U.vm) zK, zD⟩, va_recv hKc hPc (ci := 1) (q0 := 0) rfl rfl, fun U hU hW => ⟨rfl, by rw [hU], by rw [hU]; exact hPc, va_K.moved hW.alike hKc, hDc.weaken (fun _ _ _ _ => trivial)⟩⟩ rfl rfl hl.1 rfl (lv_room (Nat.le_of_ble_eq_true rfl)) d_CO_writeType_69 ⟨(Nat.zero_le _), (Nat.zero_le _)⟩) hS (fun q _ h => hFc q h) hFc (fun u t H1 locs ht hvm hw hB hz1 hk1 hS => ?_)
    obtain ⟨n22, f23⟩ := u
    try dsimp only at hw
    have tn22 := br_put_in (by omega) (by omega) (by omega) hw
    have bn22 := br_put_bl (by omega) (by omega) (by omega) hw
    obtain ⟨hP1, hK1, hD1⟩ := hB
    rw [ht] at hP1
    obtain ⟨hP, hD⟩ := va_join (wr := [(h0, .inr (2, [.ref pr, .ref kn, .ref lt, .int h0_localCount, .ref pe, .int h0_pendingCount, .int h0_gives, .int h0_depth, .int h0_loopDepth, .ref to, .ref bo, .ref cs, .ref se])), (pr, .inr (6, [.ref gl, .ref fu, .ref pa, .ref pf, .ref sf, .ref pk, .ref pg, .ref pp, .ref pz, .ref pv, .int pr_reason, .int pr_place, .ref pr_scanner_r, .int pr_stepCount, .int pr_open, .int pr_twoSides, .ref pr_waiting_r, .ref pr_waitingPlaces_r, .int pr_waitingCount])), (pf, .inl (cpf, 21, .inl gpf)), (fu, .inr (5, [.ref tr, .ref fus, .ref fuz, .ref fut, .ref fuv, .int fu_length])), (fut, .inl (cfut, 20, .inl gfut)), (pa, .inr (5, [.ref tr, .ref pas, .ref paz, .ref pat, .ref pav, .int pa_length])), (pat, .inl (cpat, 160, .inl gpat))]) (w1 := [(se, .inr (1, [.ref seb, .int n22])), (seb, .inl (cseb, 8192, .inl f23))]) hP hD [7, 8] [0, 1, 2, 3, 4, 5, 6] rfl rfl (by decide) (by decide) hk1 hFc hP1 hD1
    clear hPc hDc hKc hFc hz1 hk1 hP1 hK1 hD1
    generalize H1 = H at hP hS ⊢
    have hP : va_P (dC, dI) cls [(h0, .inr (2, [.ref pr, .ref kn, .ref lt, .int h0_localCount, .ref pe, .int h0_pendingCount, .int h0_gives, .int h0_depth, .int h0_loopDepth, .ref to, .ref bo, .ref cs, .ref se])), (pr, .inr (6, [.ref gl, .ref fu, .ref pa, .ref pf, .ref sf, .ref pk, .ref pg, .ref pp, .ref pz, .ref pv, .int pr_reason, .int pr_place, .ref pr_scanner_r, .int pr_stepCount, .int pr_open, .int pr_twoSides, .ref pr_waiting_r, .ref pr_waitingPlaces_r, .int pr_waitingCount])), (pf, .inl (cpf, 21, .inl gpf)), (fu, .inr (5, [.ref tr, .ref fus, .ref fuz, .ref fut, .ref fuv, .int fu_length])), (fut, .inl (cfut, 20, .inl gfut)), (pa, .inr (5, [.ref tr, .ref pas, .ref paz, .ref pat, .ref pav, .int pa_length])), (pat, .inl (cpat, 160, .inl gpat)), (se, .inr (1, [.ref seb, .int n22])), (seb, .inl (cseb, 8192, .inl f23))] H := hP
    have hD : va_D A [(h0, .inr (2, [.ref pr, .ref kn, .ref lt, .int h0_localCount, .ref pe, .int h0_pendingCount, .int h0_gives, .int h0_depth, .int h0_loopDepth, .ref to, .ref bo, .ref cs, .ref se])), (pr, .inr (6, [.ref gl, .ref fu, .ref pa, .ref pf, .ref sf, .ref pk, .ref pg, .ref pp, .ref pz, .ref pv, .int pr_reason, .int pr_place, .ref pr_scanner_r, .int pr_stepCount, .int pr_open, .int pr_twoSides, .ref pr_waiting_r, .ref pr_waitingPlaces_r, .int pr_waitingCount])), (pf, .inl (cpf, 21, .inl gpf)), (fu, .inr (5, [.ref tr, .ref fus, .ref fuz, .ref fut, .ref fuv, .int fu_length])), (fut, .inl (cfut, 20, .inl gfut)), (pa, .inr (5, [.ref tr, .ref pas, .ref paz, .ref pat, .ref pav, .int pa_length])), (pat, .inl (cpat, 160, .inl gpat)), (se, .inr (1, [.ref seb, .int n22])), (seb, .inl (cseb, 8192, .inl f23))] := hD
    obtain ⟨x24, ex24⟩ : ∃ z : Int32, z = j44_l4 + 1 := ⟨_, rfl⟩
    have tx24 : x24.toInt = j44_l4.toInt + 1 := by have z := i32_add ex24 (by omega) (by omega); omega
    refine lv_iinc (v := x24) (lv' := [(4, .int x24), (0, .ref h0), (1, .int p0), (2, .int x1), (3, .int x4)]) hx hb d_CO_writeType_72 hl (k := 4) rfl (by rw [ex24]; rfl) (by decide) rfl (fun ls hl => ?_)
    refine lv_goto (tgt := 44) hx hb d_CO_writeType_75 (by decide) ?_
    exact ih44 (x24, f23, n22) _ _ _ (by show (x4.toInt - x24.toInt).toNat < N44; omega) ⟨by (try dsimp only) <;> omega, by (try dsimp only) <;> omega, (by obtain ⟨ps, y1, y2, y3, y4⟩ := hps; exact ⟨ps ++ [x20.toInt.toNat], by rw [List.length_append, List.length_singleton]; omega, fun p hp => by rcases List.mem_append.mp hp with z | z; exact y2 p z; (rw [List.mem_singleton.mp z]; omega), by rw [bn22 (by omega), y3, bn_s (by omega) (by omega)]; simp only [List.append_assoc, List.cons_append], by rw [List.length_append, List.length_singleton]; omega⟩), hP, hD, hS, lv_sub hl [1, 2, 3, 4, 0] rfl⟩
