section q_79
/-! Coder: sections -/
def sec (id : Nat) (b : List Nat) : List Nat := id :: (leb 5 b.length ++ b)
def tyb (ps : List Nat) (g : Nat) : List Nat := 96 :: ps.length :: (ps ++ if g = 64 then [0] else [1, g])
def isT (tk : Nat → Int) (ft : Nat → Int32) (r : Nat) (e : List Nat) : Prop := ∃ ps : List Nat, (ps.length : Int) = tk r ∧ (∀ p ∈ ps, p = 127 ∨ p = 126) ∧ e = tyb ps (ft r).toInt.toNat
def tB (tk : Nat → Int) (ft : Nat → Int32) : List Nat → List Nat → Prop
  | [], bs => bs = []
  | r :: R, bs => ∃ e b : List Nat, bs = e ++ b ∧ isT tk ft r e ∧ tB tk ft R b
theorem tB_snoc {tk : Nat → Int} {ft : Nat → Int32} {r : Nat} {e : List Nat} (he : isT tk ft r e) : ∀ (R : List Nat) {bs : List Nat}, tB tk ft R bs → tB tk ft (R ++ [r]) (bs ++ e) := by
  intro R
  induction R with
  | nil =>
    intro bs h
    rw [show bs = [] from h]
    exact ⟨e, [], by rw [List.append_nil]; rfl, he, rfl⟩
  | cons x R ih =>
    intro bs h
    obtain ⟨e1, b, q1, q2, q3⟩ := h
    exact ⟨e1, b ++ e, by rw [q1, List.append_assoc], q2, ih q3⟩
/-- the types so far: R holds a function for each -/
def tyI (to : Nat → Int32) (tk : Nat → Int) (ft : Nat → Int32) : Nat → List Nat → Prop
  | 0, R => R = []
  | f + 1, R => ∃ R0 : List Nat, tyI to tk ft f R0 ∧ ((R = R0 ++ [f] ∧ (to f).toInt = R0.length) ∨ (R = R0 ∧ ∃ r, 0 ≤ (to f).toInt ∧ R0[(to f).toInt.toNat]? = some r ∧ tk r = tk f ∧ ft r = ft f))
theorem tyI_upd {to : Nat → Int32} {tk : Nat → Int} {ft : Nat → Int32} {k : Nat} {x : Int32} : ∀ (f : Nat) {R : List Nat}, f ≤ k → tyI to tk ft f R → tyI (upd to k x) tk ft f R := by
  intro f
  induction f with
  | zero => exact fun _ h => h
  | succ f ih =>
    intro R hk h
    obtain ⟨R0, h1, h2⟩ := h
    refine ⟨R0, ih (by (first | (apply Int.le_antisymm <;> omega) | omega)) h1, ?_⟩
    rw [pk_un (show f ≠ k by (first | (apply Int.le_antisymm <;> omega) | omega))]
    exact h2
theorem tyI_len {to : Nat → Int32} {tk : Nat → Int} {ft : Nat → Int32} : ∀ (f : Nat) {R : List Nat}, tyI to tk ft f R → R.length ≤ f ∧ ∀ r ∈ R, r < f := by
  intro f
  induction f with
  | zero =>
    intro R h
    rw [show R = [] from h]
    exact ⟨Nat.le_refl _, fun r hr => by cases hr⟩
  | succ f ih =>
    intro R h
    obtain ⟨R0, h1, h2⟩ := h
    have q := ih h1
    rcases h2 with ⟨e, -⟩ | ⟨e, -⟩
    · rw [e, List.length_append, List.length_singleton]
      refine ⟨by (first | (apply Int.le_antisymm <;> omega) | omega), fun r hr => ?_⟩
      rcases List.mem_append.mp hr with w | w
      · have := q.2 r w; (first | (apply Int.le_antisymm <;> omega) | omega)
      · rw [List.mem_singleton.mp w]; (first | (apply Int.le_antisymm <;> omega) | omega)
    · rw [e]
      exact ⟨by (first | (apply Int.le_antisymm <;> omega) | omega), fun r hr => by have := q.2 r hr; (first | (apply Int.le_antisymm <;> omega) | omega)⟩
theorem tyI_get {to : Nat → Int32} {tk : Nat → Int} {ft : Nat → Int32} : ∀ (f : Nat) {R : List Nat}, tyI to tk ft f R → ∀ g, g < f → 0 ≤ (to g).toInt ∧ ∃ r, R[(to g).toInt.toNat]? = some r ∧ tk r = tk g ∧ ft r = ft g := by
  intro f
  induction f with
  | zero => intro R _ g hg; (first | (apply Int.le_antisymm <;> omega) | omega)
  | succ f ih =>
    intro R h g hg
    obtain ⟨R0, h1, h2⟩ := h
    rcases h2 with ⟨e, q⟩ | ⟨e, r, q0, q1, q2, q3⟩
    · by_cases z : g = f
      · subst z
        refine ⟨by (first | (apply Int.le_antisymm <;> omega) | omega), g, ?_, rfl, rfl⟩
        rw [e, show (to g).toInt.toNat = R0.length by (first | (apply Int.le_antisymm <;> omega) | omega), List.getElem?_append_right (Nat.le_refl _), Nat.sub_self]
        rfl
      · obtain ⟨w0, r, w1, w2⟩ := ih h1 g (by (first | (apply Int.le_antisymm <;> omega) | omega))
        refine ⟨w0, r, ?_, w2⟩
        have := (List.getElem?_eq_some_iff.mp w1).1
        rw [e, List.getElem?_append_left this]
        exact w1
    · rw [e]
      by_cases z : g = f
      · subst z
        exact ⟨q0, r, q1, q2, q3⟩
      · exact ih h1 g (by (first | (apply Int.le_antisymm <;> omega) | omega))
theorem tyI_uniq {to : Nat → Int32} {tk : Nat → Int} {ft : Nat → Int32} : ∀ (f : Nat) {R R2 : List Nat}, tyI to tk ft f R → tyI to tk ft f R2 → R = R2 := by
  intro f
  induction f with
  | zero =>
    intro R R2 h h2
    rw [show R = [] from h, show R2 = [] from h2]
  | succ f ih =>
    intro R R2 h h2
    obtain ⟨A, a1, a2⟩ := h
    obtain ⟨B, b1, b2⟩ := h2
    have e := ih a1 b1
    subst e
    rcases a2 with ⟨x1, x2⟩ | ⟨x1, r, x2, x3, -⟩
    · rcases b2 with ⟨y1, y2⟩ | ⟨y1, r, y2, y3, -⟩
      · rw [x1, y1]
      · have := (List.getElem?_eq_some_iff.mp y3).1
        (first | (apply Int.le_antisymm <;> omega) | omega)
    · rcases b2 with ⟨y1, y2⟩ | ⟨y1, -⟩
      · have := (List.getElem?_eq_some_iff.mp x3).1
        (first | (apply Int.le_antisymm <;> omega) | omega)
      · rw [x1, y1]
/-- within the loop over g: the type of f is a new one yet, or that of some g -/
def tyG (to : Nat → Int32) (tk : Nat → Int) (ft : Nat → Int32) (f : Nat) (R : List Nat) : Prop :=
  tyI to tk ft f R ∧ ((to f).toInt = R.length ∨ (0 ≤ (to f).toInt ∧ ∃ r, R[(to f).toInt.toNat]? = some r ∧ tk r = tk f ∧ ft r = ft f))
theorem tyG_0 {to : Nat → Int32} {tk : Nat → Int} {ft : Nat → Int32} {f : Nat} {R : List Nat} {x : Int32} (h : tyI to tk ft f R) (hx : x.toInt = R.length) : tyG (upd to f x) tk ft f R := ⟨tyI_upd f (Nat.le_refl _) h, Or.inl (by rw [pk_us]; exact hx)⟩
theorem tyG_on {to : Nat → Int32} {tk : Nat → Int} {ft : Nat → Int32} {f g : Nat} {R : List Nat} (h : tyG to tk ft f R) (hg : g < f) (h1 : tk f = tk g) (h2 : ft f = ft g) : tyG (upd to f (to g)) tk ft f R := by
  obtain ⟨q0, r, q1, q2, q3⟩ := tyI_get f h.1 g hg
  refine ⟨tyI_upd f (Nat.le_refl _) h.1, Or.inr ?_⟩
  rw [pk_us]
  exact ⟨q0, r, q1, q2.trans h1.symm, q3.trans h2.symm⟩
theorem tyG_new {to : Nat → Int32} {tk : Nat → Int} {ft : Nat → Int32} {f : Nat} {R : List Nat} (h : tyG to tk ft f R) (he : (to f).toInt = R.length) : tyI to tk ft (f + 1) (R ++ [f]) := ⟨R, h.1, Or.inl ⟨rfl, he⟩⟩
theorem tyG_old {to : Nat → Int32} {tk : Nat → Int} {ft : Nat → Int32} {f : Nat} {R : List Nat} (h : tyG to tk ft f R) (he : (to f).toInt ≠ R.length) : tyI to tk ft (f + 1) R := by
  rcases h.2 with w | ⟨w0, r, w1⟩
  · exact absurd w he
  · exact ⟨R, h.1, Or.inr ⟨rfl, r, w0, w1⟩⟩
/-- the types among the first f functions, and f: as the second loop sees them -/
theorem tyI_low {to : Nat → Int32} {tk : Nat → Int} {ft : Nat → Int32} : ∀ (n : Nat) {R : List Nat}, tyI to tk ft n R → ∀ f, f ≤ n → ∃ R0, tyI to tk ft f R0 := by
  intro n
  induction n with
  | zero =>
    intro R h f hf
    rw [show f = 0 by (first | (apply Int.le_antisymm <;> omega) | omega)]
    exact ⟨R, h⟩
  | succ n ih =>
    intro R h f hf
    by_cases z : f = n + 1
    · rw [z]; exact ⟨R, h⟩
    · obtain ⟨R0, h1, -⟩ := h
      exact ih h1 f (by (first | (apply Int.le_antisymm <;> omega) | omega))
theorem tyI_new {to : Nat → Int32} {tk : Nat → Int} {ft : Nat → Int32} {n f : Nat} {R R0 : List Nat} (h : tyI to tk ft n R) (hf : f < n) (h0 : tyI to tk ft f R0) : ((to f).toInt = R0.length → tyI to tk ft (f + 1) (R0 ++ [f])) ∧ ((to f).toInt ≠ R0.length → tyI to tk ft (f + 1) R0) := by
  obtain ⟨R1, h1⟩ := tyI_low n h (f + 1) (by (first | (apply Int.le_antisymm <;> omega) | omega))
  obtain ⟨R2, q1, q2⟩ := h1
  have e := tyI_uniq f q1 h0
  subst e
  refine ⟨fun z => ⟨R2, h0, Or.inl ⟨rfl, z⟩⟩, fun z => ?_⟩
  rcases q2 with ⟨-, w⟩ | ⟨-, w⟩
  · exact absurd w z
  · exact ⟨R2, h0, Or.inr ⟨rfl, w⟩⟩
abbrev b_CO_putSection : ByteArray := prog_4_method_29_code
def y_CO_putSection : MethodName := ⟨R_CO, "putSection", "(LWaferForge$ByteRow;I)V"⟩
abbrev w_CO_putSection : List Cond := .code y_CO_putSection b_CO_putSection 3 none :: lw_g
theorem kC_CO_putSection : Cond.code y_CO_putSection b_CO_putSection 3 none ∈ lw_g := in_c6 38 rfl rfl
theorem d_CO_putSection_0 : decode b_CO_putSection 0 = .ok (.aload_n 1, 1) := bz_c43 (by decide +kernel)
theorem d_CO_putSection_1 : decode b_CO_putSection 1 = .ok (.iload_n 2, 1) := bz_c28 (by decide +kernel)
theorem d_CO_putSection_2 : decode b_CO_putSection 2 = .ok (.invokevirtual 76, 3) := bz_c182 (by decide +kernel)
theorem d_CO_putSection_5 : decode b_CO_putSection 5 = .ok (.aload_n 1, 1) := bz_c43 (by decide +kernel)
theorem d_CO_putSection_6 : decode b_CO_putSection 6 = .ok (.aload_n 0, 1) := bz_c42 (by decide +kernel)
theorem d_CO_putSection_7 : decode b_CO_putSection 7 = .ok (.getfield 33, 3) := bz_c180 (by decide +kernel)
theorem d_CO_putSection_10 : decode b_CO_putSection 10 = .ok (.getfield 64, 3) := bz_c180 (by decide +kernel)
theorem d_CO_putSection_13 : decode b_CO_putSection 13 = .ok (.invokevirtual 218, 3) := bz_c182 (by decide +kernel)
theorem d_CO_putSection_16 : decode b_CO_putSection 16 = .ok (.aload_n 1, 1) := bz_c43 (by decide +kernel)
theorem d_CO_putSection_17 : decode b_CO_putSection 17 = .ok (.aload_n 0, 1) := bz_c42 (by decide +kernel)
theorem d_CO_putSection_18 : decode b_CO_putSection 18 = .ok (.getfield 33, 3) := bz_c180 (by decide +kernel)
theorem d_CO_putSection_21 : decode b_CO_putSection 21 = .ok (.iconst 0, 1) := bz_c3 (by decide +kernel)
theorem d_CO_putSection_22 : decode b_CO_putSection 22 = .ok (.aload_n 0, 1) := bz_c42 (by decide +kernel)
theorem d_CO_putSection_23 : decode b_CO_putSection 23 = .ok (.getfield 33, 3) := bz_c180 (by decide +kernel)
theorem d_CO_putSection_26 : decode b_CO_putSection 26 = .ok (.getfield 64, 3) := bz_c180 (by decide +kernel)
theorem d_CO_putSection_29 : decode b_CO_putSection 29 = .ok (.invokevirtual 288, 3) := bz_c182 (by decide +kernel)
theorem d_CO_putSection_32 : decode b_CO_putSection 32 = .ok (.return_, 1) := bz_c177 (by decide +kernel)
abbrev at_CO_putSection (dC : Nat → ClassId) (dI : Nat → Nat → Nat) (h0 pr kn lt pe to bo cs se seb ow owb : Nat) (cseb cowb : ClassId) (h0_localCount : Int32) (h0_pendingCount : Int32) (h0_gives : Int32) (h0_depth : Int32) (h0_loopDepth : Int32) (se_length : Int32) (gseb : Nat → Int32) (A : Nat → Prop) (u : (Nat → Int32) × Int32) (t : State) : Prop := match u with | (gowb, ow_length) => va_P (dC, dI) cls (wz_215 h0 pr kn lt h0_localCount pe h0_pendingCount h0_gives h0_depth h0_loopDepth to bo cs se se seb se_length seb cseb gseb ow owb ow_length owb cowb gowb) t.heap ∧ va_K (dC, dI) cls [(cseb, .byte), (cowb, .byte)] t ∧ va_D A (wz_215 h0 pr kn lt h0_localCount pe h0_pendingCount h0_gives h0_depth h0_loopDepth to bo cs se se seb se_length seb cseb gseb ow owb ow_length owb cowb gowb)
set_option maxHeartbeats 4000000 in
set_option maxRecDepth 100000 in
theorem c_CO_putSection (l : Launch) (dC : Nat → ClassId) (dI : Nat → Nat → Nat) (sz : Nat) (h0 pr kn lt pe to bo cs se seb ow owb : Nat) (cseb cowb : ClassId) (h0_localCount : Int32) (h0_pendingCount : Int32) (h0_gives : Int32) (h0_depth : Int32) (h0_loopDepth : Int32) (se_length : Int32) (gseb : Nat → Int32) (ow_length : Int32) (gowb : Nat → Int32)  (b_se_length : 0 ≤ se_length.toInt ∧ se_length.toInt ≤ 8192) (b_ow_length : 0 ≤ ow_length.toInt ∧ ow_length.toInt ≤ 8192) (p1 : Int32)  (hid : 0 ≤ p1.toInt ∧ p1.toInt < 256) (hro : ow_length.toInt + se_length.toInt + 8 ≤ 8192) : Met l y_CO_putSection w_CO_putSection ({ frames := 2, cells := 0, slots := 0, locals := 45 }) (va_Pc [.ref h0, .ref ow, .int p1] (fun U => U.heap.size = sz ∧ va_P (dC, dI) cls (wz_215 h0 pr kn lt h0_localCount pe h0_pendingCount h0_gives h0_depth h0_loopDepth to bo cs se se seb se_length seb cseb gseb ow owb ow_length owb cowb gowb) U.heap ∧ va_K (dC, dI) cls [(cseb, .byte), (cowb, .byte)] U ∧ va_D (fun _ => True) (wz_215 h0 pr kn lt h0_localCount pe h0_pendingCount h0_gives h0_depth h0_loopDepth to bo cs se se seb se_length seb cseb gseb ow owb ow_length owb cowb gowb))) (va_Qv (fun (u : (Nat → Int32) × Int32) => match u with | (gowb2, ow_length2) => (0 ≤ ow_length2.toInt ∧ ow_length2.toInt ≤ 8192) ∧ (ow_length2.toInt = ow_length.toInt + ((sec p1.toInt.toNat (bl gseb se_length.toNatClampNeg)).length : Int) ∧ bl gowb2 ow_length2.toNatClampNeg = bl gowb ow_length.toNatClampNeg ++ sec p1.toInt.toNat (bl gseb se_length.toNatClampNeg))) (at_CO_putSection dC dI h0 pr kn lt pe to bo cs se seb ow owb cseb cowb h0_localCount h0_pendingCount h0_gives h0_depth h0_loopDepth se_length gseb (va_A (wz_215 h0 pr kn lt h0_localCount pe h0_pendingCount h0_gives h0_depth h0_loopDepth to bo cs se se seb se_length seb cseb gseb ow owb ow_length owb cowb gowb) sz)) (va_A (wz_215 h0 pr kn lt h0_localCount pe h0_pendingCount h0_gives h0_depth h0_loopDepth to bo cs se se seb se_length seb cseb gseb ow owb ow_length owb cowb gowb) sz)) 0 0 (va_A (wz_215 h0 pr kn lt h0_localCount pe h0_pendingCount h0_gives h0_depth h0_loopDepth to bo cs se se seb se_length seb cseb gseb ow owb ow_length owb cowb gowb) sz) := by
  refine Met.ofW (cc := b_CO_putSection) (maxL := 3) (ret := none) (by decide) rfl ?_
  intro p e s m args below meth c s₁ B hml hv
  obtain ⟨rfl, hsz, hP, hK, hD0⟩ := hv
  have hx := B.exec
  have hb := B.bytes
  have hr := B.returns
  have hts0 := atoms_spec (ws := w_CO_putSection) B.pre
  have hts : ∀ w ∈ lw_g, w.before _ s = true := fun w h => hts0 w (List.mem_cons_of_mem _ h)
  have hown : s.vm.findClass R_CO = some m.cls := findClass_of_methodNamed B.named
  have hlocks := B.notSynchronized
  clear hts0
  subst hsz
  have hD := hD0.self (sz := s.heap.size)
  generalize hAe : va_A (wz_215 h0 pr kn lt h0_localCount pe h0_pendingCount h0_gives h0_depth h0_loopDepth to bo cs se se seb se_length seb cseb gseb ow owb ow_length owb cowb gowb) s.heap.size = A at hD ⊢
  have hA : ∀ q : Nat, s.heap.size ≤ q → A q := fun q h => by rw [← hAe]; exact Or.inr h
  clear hAe
  have hP : va_P (dC, dI) cls (wz_215 h0 pr kn lt h0_localCount pe h0_pendingCount h0_gives h0_depth h0_loopDepth to bo cs se se seb se_length seb cseb gseb ow owb ow_length owb cowb gowb) s.heap := hP
  have hl := lv_entry ([.ref h0, .ref ow, .int p1]) (n := 3) (Nat.le_of_ble_eq_true rfl)
  rw [lg_entry_eq]
  generalize (lg_sl ([.ref h0, .ref ow, .int p1]) ++ List.replicate (3 - (lg_sl ([.ref h0, .ref ow, .int p1])).length) Slot.unset).toArray = ls at hl ⊢
  have hl : lv_has ls 3 [(0, .ref h0), (1, .ref ow), (2, .int p1)] := hl
  have k0 : (0 : Int32).toInt = 0 := by decide
  refine w_gen (A := A) hP (fun H locs hP hS => ?_)
  have lo_p1 := i32_lo p1
  have hi_p1 := i32_hi p1
  have usz : un se_length = se_length.toNatClampNeg := by rw [un_nat (by (first | (apply Int.le_antisymm <;> omega) | omega))]; have := i32_clamp (x := se_length) (by (first | (apply Int.le_antisymm <;> omega) | omega)); (first | (apply Int.le_antisymm <;> omega) | omega)
  have zse := i32_clamp (x := se_length) (by (first | (apply Int.le_antisymm <;> omega) | omega))
  have ulb := leb_len 5 (un se_length)
  refine lv_aload_n hx hb d_CO_putSection_0 rfl (lv_at hl 1 rfl) ?_
  refine lv_iload_n hx hb d_CO_putSection_1 rfl (lv_at hl 2 rfl) ?_
  have hPc := hP.sb (wq := (wz_94 ow owb ow_length owb cowb gowb)) [3, 4] rfl
  have hDc := hD.sb (wq := (wz_94 ow owb ow_length owb cowb gowb)) [3, 4] (by decide) rfl
  have hKc := hK.sb (tyq := [(cowb, .byte)]) [1] rfl
  have hFc := va_free (wc := (wz_94 ow owb ow_length owb cowb gowb)) hD hS hA [3, 4] rfl
  refine va_callv (va_runV (As := [.int p1]) (rest := []) ⟨hx, hb, hml, hown, hts⟩ (c_BR_put l dC dI ow owb H.size cowb 8192 ow_length gowb (by (first | (apply Int.le_antisymm <;> omega) | omega)) (by (first | (apply Int.le_antisymm <;> omega) | omega)) (by (first | (apply Int.le_antisymm <;> omega) | omega)) p1) (cwV 1 hts (gV kM_CO_76 kV_BR_put kS_BR_put kI_BR kC_BR_put) rfl rfl rfl (by decide +kernel) ⟨Nat.le_of_ble_eq_true rfl, Nat.le_of_ble_eq_true rfl⟩) ⟨fun a U g mk z => by obtain ⟨z0, z1, zP, zK, zD⟩ := z; exact ⟨z0, z1, zP, va_K.moved (u := U) (U := U.calling g mk a) (Vm.Alike.refl U.vm) zK, zD⟩, va_recv hKc hPc (ci := 1) (q0 := 0) rfl rfl, fun U hU hW => ⟨rfl, by rw [hU], va_P.he hU.symm hPc, va_K.moved hW.alike hKc, hDc.weaken (fun _ _ _ _ => trivial)⟩⟩ rfl rfl hl.1 rfl (lv_room (Nat.le_of_ble_eq_true rfl)) d_CO_putSection_2 ⟨(Nat.zero_le _), (Nat.zero_le _)⟩) hS (fun q _ h => hFc q h) hFc (fun u t H1 locs ht hvm hw hB hz1 hk1 hS => ?_)
  obtain ⟨n2, f3⟩ := u
  try dsimp only at hw
  have tn2 := br_put_in (by (first | (apply Int.le_antisymm <;> omega) | omega)) (by (first | (apply Int.le_antisymm <;> omega) | omega)) (by (first | (apply Int.le_antisymm <;> omega) | omega)) hw
  have bn2 := br_put_bl (by (first | (apply Int.le_antisymm <;> omega) | omega)) (by (first | (apply Int.le_antisymm <;> omega) | omega)) (by (first | (apply Int.le_antisymm <;> omega) | omega)) hw
  obtain ⟨hP1, hK1, hD1⟩ := hB
  replace hP1 := va_P.he ht hP1
  obtain ⟨hP, hD⟩ := va_join (wr := (wz_158 h0 pr kn lt h0_localCount pe h0_pendingCount h0_gives h0_depth h0_loopDepth to bo cs se se seb se_length seb cseb gseb)) (w1 := (wz_94 ow owb n2 owb cowb f3)) hP hD [3, 4] [0, 1, 2] rfl rfl (by decide) (by decide) hk1 hFc hP1 hD1
  clear hPc hDc hKc hFc hz1 hk1 hP1 hK1 hD1
  rename Heap => H
  have hP : va_P (dC, dI) cls (wz_215 h0 pr kn lt h0_localCount pe h0_pendingCount h0_gives h0_depth h0_loopDepth to bo cs se se seb se_length seb cseb gseb ow owb n2 owb cowb f3) H := hP
  have hD : va_D A (wz_215 h0 pr kn lt h0_localCount pe h0_pendingCount h0_gives h0_depth h0_loopDepth to bo cs se se seb se_length seb cseb gseb ow owb n2 owb cowb f3) := hD
  refine lv_aload_n hx hb d_CO_putSection_5 rfl (lv_at hl 1 rfl) ?_
  refine lv_aload_n hx hb d_CO_putSection_6 rfl (lv_at hl 0 rfl) ?_
  refine va_get (D := (dC, dI)) (ci := 2) (v := .ref se) (C := R_CO) (T := F_CO) (N := 13) hx hb hts i_CO hown hK hP 0 rfl rfl 12 (by decide) (hts _ kF_CO_33) (fun _ h9 => h9) rfl d_CO_putSection_7 ?_
  refine va_get (D := (dC, dI)) (ci := 1) (v := .int se_length) (C := R_BR) (T := F_BR) (N := 2) hx hb hts i_BR hown hK hP 1 rfl rfl 1 (by decide) (hts _ kF_CO_64) (fun _ h9 => h9) rfl d_CO_putSection_10 ?_
  have hPc := hP.sb (wq := (wz_94 ow owb n2 owb cowb f3)) [3, 4] rfl
  have hDc := hD.sb (wq := (wz_94 ow owb n2 owb cowb f3)) [3, 4] (by decide) rfl
  have hKc := hK.sb (tyq := [(cowb, .byte)]) [1] rfl
  have hFc := va_free (wc := (wz_94 ow owb n2 owb cowb f3)) hD hS hA [3, 4] rfl
  refine va_callv (va_runV (As := [.int se_length]) (rest := []) ⟨hx, hb, hml, hown, hts⟩ (c_BR_putUnsigned l dC dI ow owb H.size cowb 8192 n2 f3 (by (first | (apply Int.le_antisymm <;> omega) | omega)) (by (first | (apply Int.le_antisymm <;> omega) | omega)) (by (first | (apply Int.le_antisymm <;> omega) | omega)) se_length (by (first | (apply Int.le_antisymm <;> omega) | omega))) (cwV 1 hts (gV kM_CO_218 kV_BR_putUnsigned kS_BR_putUnsigned kI_BR kC_BR_putUnsigned) rfl rfl rfl (by decide +kernel) ⟨Nat.le_of_ble_eq_true rfl, Nat.le_of_ble_eq_true rfl⟩) ⟨fun a U g mk z => by obtain ⟨z0, z1, zP, zK, zD⟩ := z; exact ⟨z0, z1, zP, va_K.moved (u := U) (U := U.calling g mk a) (Vm.Alike.refl U.vm) zK, zD⟩, va_recv hKc hPc (ci := 1) (q0 := 0) rfl rfl, fun U hU hW => ⟨rfl, by rw [hU], va_P.he hU.symm hPc, va_K.moved hW.alike hKc, hDc.weaken (fun _ _ _ _ => trivial)⟩⟩ rfl rfl hl.1 rfl (lv_room (Nat.le_of_ble_eq_true rfl)) d_CO_putSection_13 ⟨(Nat.zero_le _), (Nat.zero_le _)⟩) hS (fun q _ h => hFc q h) hFc (fun u t H1 locs ht hvm hw hB hz1 hk1 hS => ?_)
  obtain ⟨n5, f6⟩ := u
  try dsimp only at hw
  obtain ⟨tn5, bn5⟩ := hw
  have ln5 := leb_len 5 (un se_length)
  obtain ⟨hP1, hK1, hD1⟩ := hB
  replace hP1 := va_P.he ht hP1
  obtain ⟨hP, hD⟩ := va_join (wr := (wz_158 h0 pr kn lt h0_localCount pe h0_pendingCount h0_gives h0_depth h0_loopDepth to bo cs se se seb se_length seb cseb gseb)) (w1 := (wz_94 ow owb n5 owb cowb f6)) hP hD [3, 4] [0, 1, 2] rfl rfl (by decide) (by decide) hk1 hFc hP1 hD1
  clear hPc hDc hKc hFc hz1 hk1 hP1 hK1 hD1
  rename Heap => H
  have hP : va_P (dC, dI) cls (wz_215 h0 pr kn lt h0_localCount pe h0_pendingCount h0_gives h0_depth h0_loopDepth to bo cs se se seb se_length seb cseb gseb ow owb n5 owb cowb f6) H := hP
  have hD : va_D A (wz_215 h0 pr kn lt h0_localCount pe h0_pendingCount h0_gives h0_depth h0_loopDepth to bo cs se se seb se_length seb cseb gseb ow owb n5 owb cowb f6) := hD
  refine lv_aload_n hx hb d_CO_putSection_16 rfl (lv_at hl 1 rfl) ?_
  refine lv_aload_n hx hb d_CO_putSection_17 rfl (lv_at hl 0 rfl) ?_
  refine va_get (D := (dC, dI)) (ci := 2) (v := .ref se) (C := R_CO) (T := F_CO) (N := 13) hx hb hts i_CO hown hK hP 0 rfl rfl 12 (by decide) (hts _ kF_CO_33) (fun _ h9 => h9) rfl d_CO_putSection_18 ?_
  refine lv_iconst (v := 0) hx hb d_CO_putSection_21 (by decide) ?_
  refine lv_aload_n hx hb d_CO_putSection_22 rfl (lv_at hl 0 rfl) ?_
  refine va_get (D := (dC, dI)) (ci := 2) (v := .ref se) (C := R_CO) (T := F_CO) (N := 13) hx hb hts i_CO hown hK hP 0 rfl rfl 12 (by decide) (hts _ kF_CO_33) (fun _ h9 => h9) rfl d_CO_putSection_23 ?_
  refine va_get (D := (dC, dI)) (ci := 1) (v := .int se_length) (C := R_BR) (T := F_BR) (N := 2) hx hb hts i_BR hown hK hP 1 rfl rfl 1 (by decide) (hts _ kF_CO_64) (fun _ h9 => h9) rfl d_CO_putSection_26 ?_
  have hPc := hP.sb (wq := (wz_214 ow owb n5 owb cowb f6 se seb se_length seb cseb gseb)) [3, 4, 1, 2] rfl
  have hDc := hD.sb (wq := (wz_214 ow owb n5 owb cowb f6 se seb se_length seb cseb gseb)) [3, 4, 1, 2] (by decide) rfl
  have hKc := hK.sb (tyq := [(cowb, .byte), (cseb, .byte)]) [1, 0] rfl
  have hFc := va_free (wc := (wz_214 ow owb n5 owb cowb f6 se seb se_length seb cseb gseb)) hD hS hA [3, 4, 1, 2] rfl
  refine va_callv (va_runV (As := [.ref se, .int 0, .int se_length]) (rest := []) ⟨hx, hb, hml, hown, hts⟩ (c_BR_putPart l dC dI ow owb se seb H.size cowb cseb 8192 8192 n5 se_length f6 gseb (by (first | (apply Int.le_antisymm <;> omega) | omega)) (by (first | (apply Int.le_antisymm <;> omega) | omega)) (by (first | (apply Int.le_antisymm <;> omega) | omega)) (by (first | (apply Int.le_antisymm <;> omega) | omega)) (by (first | (apply Int.le_antisymm <;> omega) | omega)) (by (first | (apply Int.le_antisymm <;> omega) | omega)) 0 se_length (by (first | (apply Int.le_antisymm <;> omega) | omega)) (by (first | (apply Int.le_antisymm <;> omega) | omega)) (by (first | (apply Int.le_antisymm <;> omega) | omega)) (by (first | (apply Int.le_antisymm <;> omega) | omega))) (cwV 3 hts (gV kM_CO_288 kV_BR_putPart kS_BR_putPart kI_BR kC_BR_putPart) rfl rfl rfl (by decide +kernel) ⟨Nat.le_of_ble_eq_true rfl, Nat.le_of_ble_eq_true rfl⟩) ⟨fun a U g mk z => by obtain ⟨z0, z1, zP, zK, zD⟩ := z; exact ⟨z0, z1, zP, va_K.moved (u := U) (U := U.calling g mk a) (Vm.Alike.refl U.vm) zK, zD⟩, va_recv hKc hPc (ci := 1) (q0 := 0) rfl rfl, fun U hU hW => ⟨rfl, by rw [hU], va_P.he hU.symm hPc, va_K.moved hW.alike hKc, hDc.weaken (fun _ _ _ _ => trivial)⟩⟩ rfl rfl hl.1 rfl (lv_room (Nat.le_of_ble_eq_true rfl)) d_CO_putSection_29 ⟨(Nat.zero_le _), (Nat.zero_le _)⟩) hS (fun q _ h => hFc q h) hFc (fun u t H1 locs ht hvm hw hB hz1 hk1 hS => ?_)
  obtain ⟨n8, f9⟩ := u
  try dsimp only at hw
  obtain ⟨tn8, bn8⟩ := hw
  obtain ⟨hP1, hK1, hD1⟩ := hB
  replace hP1 := va_P.he ht hP1
  obtain ⟨hP, hD⟩ := va_join (wr := (wz_159 h0 pr kn lt h0_localCount pe h0_pendingCount h0_gives h0_depth h0_loopDepth to bo cs se)) (w1 := (wz_214 ow owb n8 owb cowb f9 se seb se_length seb cseb gseb)) hP hD [3, 4, 1, 2] [0] rfl rfl (by decide) (by decide) hk1 hFc hP1 hD1
  clear hPc hDc hKc hFc hz1 hk1 hP1 hK1 hD1
  rename Heap => H
  have hP : va_P (dC, dI) cls (wz_215 h0 pr kn lt h0_localCount pe h0_pendingCount h0_gives h0_depth h0_loopDepth to bo cs se ow owb n8 owb cowb f9 se seb se_length seb cseb gseb) H := hP
  have hD : va_D A (wz_215 h0 pr kn lt h0_localCount pe h0_pendingCount h0_gives h0_depth h0_loopDepth to bo cs se ow owb n8 owb cowb f9 se seb se_length seb cseb gseb) := hD
  have hP9 := hP.sb (wq := (wz_215 h0 pr kn lt h0_localCount pe h0_pendingCount h0_gives h0_depth h0_loopDepth to bo cs se se seb se_length seb cseb gseb ow owb n8 owb cowb f9)) [0, 3, 4, 1, 2] rfl
  have hD9 := hD.sb (wq := (wz_215 h0 pr kn lt h0_localCount pe h0_pendingCount h0_gives h0_depth h0_loopDepth to bo cs se se seb se_length seb cseb gseb ow owb n8 owb cowb f9)) [0, 3, 4, 1, 2] (by decide) rfl
  exact W.vret hx hb hr (fun t ht hW => ⟨⟨(f9, n8), rfl, ⟨by (try dsimp only) <;> (first | (apply Int.le_antisymm <;> omega) | omega), ⟨by unfold sec; rw [List.length_cons, List.length_append, bl_len, ← usz]; (try dsimp only) <;> (first | (apply Int.le_antisymm <;> omega) | omega), by (try dsimp only); rw [bn8, bn5, bn2 (by (first | (apply Int.le_antisymm <;> omega) | omega)), show (0 : Int32).toNatClampNeg = 0 from rfl, List.drop_zero, List.take_of_length_le (by rw [bl_len]; exact Nat.le_refl _), bn_s (by (first | (apply Int.le_antisymm <;> omega) | omega)) (by (first | (apply Int.le_antisymm <;> omega) | omega))]; unfold sec; rw [bl_len, ← usz]; simp only [List.append_assoc]; rfl⟩⟩, va_P.he ht.symm hP9, va_K.moved hW.alike hK, hD9⟩, hS.F ht⟩) hS.2.2 d_CO_putSection_32
abbrev b_CO_isSameType : ByteArray := prog_4_method_22_code
def y_CO_isSameType : MethodName := ⟨R_CO, "isSameType", "(II)Z"⟩
abbrev w_CO_isSameType : List Cond := .code y_CO_isSameType b_CO_isSameType 7 (Option.some .boolean) :: lw_g
theorem kC_CO_isSameType : Cond.code y_CO_isSameType b_CO_isSameType 7 (Option.some .boolean) ∈ lw_g := in_c6 30 rfl rfl
theorem d_CO_isSameType_0 : decode b_CO_isSameType 0 = .ok (.aload_n 0, 1) := bz_c42 (by decide +kernel)
theorem d_CO_isSameType_1 : decode b_CO_isSameType 1 = .ok (.getfield 36, 3) := bz_c180 (by decide +kernel)
theorem d_CO_isSameType_4 : decode b_CO_isSameType 4 = .ok (.getfield 127, 3) := bz_c180 (by decide +kernel)
theorem d_CO_isSameType_7 : decode b_CO_isSameType 7 = .ok (.iload_n 1, 1) := bz_c27 (by decide +kernel)
theorem d_CO_isSameType_8 : decode b_CO_isSameType 8 = .ok (.iaload, 1) := bz_c46 (by decide +kernel)
theorem d_CO_isSameType_9 : decode b_CO_isSameType 9 = .ok (.istore_n 3, 1) := bz_c62 (by decide +kernel)
theorem d_CO_isSameType_10 : decode b_CO_isSameType 10 = .ok (.aload_n 0, 1) := bz_c42 (by decide +kernel)
theorem d_CO_isSameType_11 : decode b_CO_isSameType 11 = .ok (.getfield 36, 3) := bz_c180 (by decide +kernel)
theorem d_CO_isSameType_14 : decode b_CO_isSameType 14 = .ok (.getfield 127, 3) := bz_c180 (by decide +kernel)
theorem d_CO_isSameType_17 : decode b_CO_isSameType 17 = .ok (.iload_n 2, 1) := bz_c28 (by decide +kernel)
theorem d_CO_isSameType_18 : decode b_CO_isSameType 18 = .ok (.iaload, 1) := bz_c46 (by decide +kernel)
theorem d_CO_isSameType_19 : decode b_CO_isSameType 19 = .ok (.istore 4, 2) := bz_c54 (by decide +kernel)
theorem d_CO_isSameType_21 : decode b_CO_isSameType 21 = .ok (.aload_n 0, 1) := bz_c42 (by decide +kernel)
theorem d_CO_isSameType_22 : decode b_CO_isSameType 22 = .ok (.getfield 36, 3) := bz_c180 (by decide +kernel)
theorem d_CO_isSameType_25 : decode b_CO_isSameType 25 = .ok (.getfield 127, 3) := bz_c180 (by decide +kernel)
theorem d_CO_isSameType_28 : decode b_CO_isSameType 28 = .ok (.iload_n 1, 1) := bz_c27 (by decide +kernel)
theorem d_CO_isSameType_29 : decode b_CO_isSameType 29 = .ok (.iconst 1, 1) := bz_c4 (by decide +kernel)
theorem d_CO_isSameType_30 : decode b_CO_isSameType 30 = .ok (.iadd, 1) := bz_c96 (by decide +kernel)
theorem d_CO_isSameType_31 : decode b_CO_isSameType 31 = .ok (.iaload, 1) := bz_c46 (by decide +kernel)
theorem d_CO_isSameType_32 : decode b_CO_isSameType 32 = .ok (.iload_n 3, 1) := bz_c29 (by decide +kernel)
theorem d_CO_isSameType_33 : decode b_CO_isSameType 33 = .ok (.isub, 1) := bz_c100 (by decide +kernel)
theorem d_CO_isSameType_34 : decode b_CO_isSameType 34 = .ok (.istore 5, 2) := bz_c54 (by decide +kernel)
theorem d_CO_isSameType_36 : decode b_CO_isSameType 36 = .ok (.aload_n 0, 1) := bz_c42 (by decide +kernel)
theorem d_CO_isSameType_37 : decode b_CO_isSameType 37 = .ok (.getfield 36, 3) := bz_c180 (by decide +kernel)
theorem d_CO_isSameType_40 : decode b_CO_isSameType 40 = .ok (.getfield 61, 3) := bz_c180 (by decide +kernel)
theorem d_CO_isSameType_43 : decode b_CO_isSameType 43 = .ok (.getfield 121, 3) := bz_c180 (by decide +kernel)
theorem d_CO_isSameType_46 : decode b_CO_isSameType 46 = .ok (.iload_n 1, 1) := bz_c27 (by decide +kernel)
theorem d_CO_isSameType_47 : decode b_CO_isSameType 47 = .ok (.iaload, 1) := bz_c46 (by decide +kernel)
theorem d_CO_isSameType_48 : decode b_CO_isSameType 48 = .ok (.aload_n 0, 1) := bz_c42 (by decide +kernel)
theorem d_CO_isSameType_49 : decode b_CO_isSameType 49 = .ok (.getfield 36, 3) := bz_c180 (by decide +kernel)
theorem d_CO_isSameType_52 : decode b_CO_isSameType 52 = .ok (.getfield 61, 3) := bz_c180 (by decide +kernel)
theorem d_CO_isSameType_55 : decode b_CO_isSameType 55 = .ok (.getfield 121, 3) := bz_c180 (by decide +kernel)
theorem d_CO_isSameType_58 : decode b_CO_isSameType 58 = .ok (.iload_n 2, 1) := bz_c28 (by decide +kernel)
theorem d_CO_isSameType_59 : decode b_CO_isSameType 59 = .ok (.iaload, 1) := bz_c46 (by decide +kernel)
theorem d_CO_isSameType_60 : decode b_CO_isSameType 60 = .ok (.if_icmp .ne 22, 3) := bz_c160 (by decide +kernel)
theorem d_CO_isSameType_63 : decode b_CO_isSameType 63 = .ok (.iload 5, 2) := bz_c21 (by decide +kernel)
theorem d_CO_isSameType_65 : decode b_CO_isSameType 65 = .ok (.aload_n 0, 1) := bz_c42 (by decide +kernel)
theorem d_CO_isSameType_66 : decode b_CO_isSameType 66 = .ok (.getfield 36, 3) := bz_c180 (by decide +kernel)
theorem d_CO_isSameType_69 : decode b_CO_isSameType 69 = .ok (.getfield 127, 3) := bz_c180 (by decide +kernel)
theorem d_CO_isSameType_72 : decode b_CO_isSameType 72 = .ok (.iload_n 2, 1) := bz_c28 (by decide +kernel)
theorem d_CO_isSameType_73 : decode b_CO_isSameType 73 = .ok (.iconst 1, 1) := bz_c4 (by decide +kernel)
theorem d_CO_isSameType_74 : decode b_CO_isSameType 74 = .ok (.iadd, 1) := bz_c96 (by decide +kernel)
theorem d_CO_isSameType_75 : decode b_CO_isSameType 75 = .ok (.iaload, 1) := bz_c46 (by decide +kernel)
theorem d_CO_isSameType_76 : decode b_CO_isSameType 76 = .ok (.iload 4, 2) := bz_c21 (by decide +kernel)
theorem d_CO_isSameType_78 : decode b_CO_isSameType 78 = .ok (.isub, 1) := bz_c100 (by decide +kernel)
theorem d_CO_isSameType_79 : decode b_CO_isSameType 79 = .ok (.if_icmp .eq 5, 3) := bz_c159 (by decide +kernel)
theorem d_CO_isSameType_82 : decode b_CO_isSameType 82 = .ok (.iconst 0, 1) := bz_c3 (by decide +kernel)
theorem d_CO_isSameType_83 : decode b_CO_isSameType 83 = .ok (.ireturn, 1) := bz_c172 (by decide +kernel)
theorem d_CO_isSameType_84 : decode b_CO_isSameType 84 = .ok (.iconst 0, 1) := bz_c3 (by decide +kernel)
theorem d_CO_isSameType_85 : decode b_CO_isSameType 85 = .ok (.istore 6, 2) := bz_c54 (by decide +kernel)
theorem d_CO_isSameType_87 : decode b_CO_isSameType 87 = .ok (.iload 6, 2) := bz_c21 (by decide +kernel)
theorem d_CO_isSameType_89 : decode b_CO_isSameType 89 = .ok (.iload 5, 2) := bz_c21 (by decide +kernel)
theorem d_CO_isSameType_91 : decode b_CO_isSameType 91 = .ok (.if_icmp .ge 45, 3) := bz_c162 (by decide +kernel)
theorem d_CO_isSameType_94 : decode b_CO_isSameType 94 = .ok (.aload_n 0, 1) := bz_c42 (by decide +kernel)
theorem d_CO_isSameType_95 : decode b_CO_isSameType 95 = .ok (.getfield 36, 3) := bz_c180 (by decide +kernel)
theorem d_CO_isSameType_98 : decode b_CO_isSameType 98 = .ok (.getfield 130, 3) := bz_c180 (by decide +kernel)
theorem d_CO_isSameType_101 : decode b_CO_isSameType 101 = .ok (.getfield 121, 3) := bz_c180 (by decide +kernel)
theorem d_CO_isSameType_104 : decode b_CO_isSameType 104 = .ok (.iload_n 3, 1) := bz_c29 (by decide +kernel)
theorem d_CO_isSameType_105 : decode b_CO_isSameType 105 = .ok (.iload 6, 2) := bz_c21 (by decide +kernel)
theorem d_CO_isSameType_107 : decode b_CO_isSameType 107 = .ok (.iadd, 1) := bz_c96 (by decide +kernel)
theorem d_CO_isSameType_108 : decode b_CO_isSameType 108 = .ok (.iaload, 1) := bz_c46 (by decide +kernel)
theorem d_CO_isSameType_109 : decode b_CO_isSameType 109 = .ok (.aload_n 0, 1) := bz_c42 (by decide +kernel)
theorem d_CO_isSameType_110 : decode b_CO_isSameType 110 = .ok (.getfield 36, 3) := bz_c180 (by decide +kernel)
theorem d_CO_isSameType_113 : decode b_CO_isSameType 113 = .ok (.getfield 130, 3) := bz_c180 (by decide +kernel)
theorem d_CO_isSameType_116 : decode b_CO_isSameType 116 = .ok (.getfield 121, 3) := bz_c180 (by decide +kernel)
theorem d_CO_isSameType_119 : decode b_CO_isSameType 119 = .ok (.iload 4, 2) := bz_c21 (by decide +kernel)
theorem d_CO_isSameType_121 : decode b_CO_isSameType 121 = .ok (.iload 6, 2) := bz_c21 (by decide +kernel)
theorem d_CO_isSameType_123 : decode b_CO_isSameType 123 = .ok (.iadd, 1) := bz_c96 (by decide +kernel)
theorem d_CO_isSameType_124 : decode b_CO_isSameType 124 = .ok (.iaload, 1) := bz_c46 (by decide +kernel)
theorem d_CO_isSameType_125 : decode b_CO_isSameType 125 = .ok (.if_icmp .eq 5, 3) := bz_c159 (by decide +kernel)
theorem d_CO_isSameType_128 : decode b_CO_isSameType 128 = .ok (.iconst 0, 1) := bz_c3 (by decide +kernel)
theorem d_CO_isSameType_129 : decode b_CO_isSameType 129 = .ok (.ireturn, 1) := bz_c172 (by decide +kernel)
theorem d_CO_isSameType_130 : decode b_CO_isSameType 130 = .ok (.iinc 6 1, 3) := by decide +kernel
theorem d_CO_isSameType_133 : decode b_CO_isSameType 133 = .ok (.goto (-46), 3) := bz_c167 (by decide +kernel)
theorem d_CO_isSameType_136 : decode b_CO_isSameType 136 = .ok (.iconst 1, 1) := bz_c4 (by decide +kernel)
theorem d_CO_isSameType_137 : decode b_CO_isSameType 137 = .ok (.ireturn, 1) := bz_c172 (by decide +kernel)
abbrev at_CO_isSameType (dC : Nat → ClassId) (dI : Nat → Nat → Nat) (h0 pr kn lt pe to bo cs se gl fu pa pf sf pk pg pp pz pv pr_scanner_r pr_waiting_r pr_waitingPlaces_r tr fus fuz fut fuv pas paz pat pav : Nat) (cpf cfut cpat : ClassId) (h0_localCount : Int32) (h0_pendingCount : Int32) (h0_gives : Int32) (h0_depth : Int32) (h0_loopDepth : Int32) (pr_reason : Int32) (pr_place : Int32) (pr_stepCount : Int32) (pr_open : Int32) (pr_twoSides : Int32) (pr_waitingCount : Int32) (gpf : Nat → Int32) (fu_length : Int32) (gfut : Nat → Int32) (pa_length : Int32) (gpat : Nat → Int32) (A : Nat → Prop) (u : Unit) (t : State) : Prop := match u with | _ => va_P (dC, dI) cls (wz_216 h0 pr kn lt h0_localCount pe h0_pendingCount h0_gives h0_depth h0_loopDepth to bo cs se pr gl fu pa pf sf pk pg pp pz pv pr_reason pr_place pr_scanner_r pr_stepCount pr_open pr_twoSides pr_waiting_r pr_waitingPlaces_r pr_waitingCount pf cpf gpf fu tr fus fuz fut fuv fu_length fut cfut gfut pa tr pas paz pat pav pa_length pat cpat gpat) t.heap ∧ va_K (dC, dI) cls [(cpf, .int), (cfut, .int), (cpat, .int)] t ∧ va_D A (wz_216 h0 pr kn lt h0_localCount pe h0_pendingCount h0_gives h0_depth h0_loopDepth to bo cs se pr gl fu pa pf sf pk pg pp pz pv pr_reason pr_place pr_scanner_r pr_stepCount pr_open pr_twoSides pr_waiting_r pr_waitingPlaces_r pr_waitingCount pf cpf gpf fu tr fus fuz fut fuv fu_length fut cfut gfut pa tr pas paz pat pav pa_length pat cpat gpat)
set_option maxHeartbeats 4000000 in
set_option maxRecDepth 100000 in
theorem c_CO_isSameType (l : Launch) (dC : Nat → ClassId) (dI : Nat → Nat → Nat) (sz : Nat) (h0 pr kn lt pe to bo cs se gl fu pa pf sf pk pg pp pz pv pr_scanner_r pr_waiting_r pr_waitingPlaces_r tr fus fuz fut fuv pas paz pat pav : Nat) (cpf cfut cpat : ClassId) (h0_localCount : Int32) (h0_pendingCount : Int32) (h0_gives : Int32) (h0_depth : Int32) (h0_loopDepth : Int32) (pr_reason : Int32) (pr_place : Int32) (pr_stepCount : Int32) (pr_open : Int32) (pr_twoSides : Int32) (pr_waitingCount : Int32) (gpf : Nat → Int32) (fu_length : Int32) (gfut : Nat → Int32) (pa_length : Int32) (gpat : Nat → Int32)  (b_fu_length : 0 ≤ fu_length.toInt ∧ fu_length.toInt ≤ 20) (b_pa_length : 0 ≤ pa_length.toInt ∧ pa_length.toInt ≤ 160) (p0 : Int32) (p1 : Int32)  (hfg : 0 ≤ p0.toInt ∧ p0.toInt < fu_length.toInt ∧ 0 ≤ p1.toInt ∧ p1.toInt < fu_length.toInt) (hpf : bx (∀ f : Nat, (f : Int) < fu_length.toInt → 0 ≤ (gpf f).toInt ∧ (gpf f).toInt ≤ (gpf (f + 1)).toInt ∧ (gpf (f + 1)).toInt ≤ pa_length.toInt)) (hpl : pa_length.toInt ≤ 160) : Met l y_CO_isSameType w_CO_isSameType ({ frames := 0, cells := 0, slots := 0, locals := 0 }) (va_Pc [.ref h0, .int p0, .int p1] (fun U => U.heap.size = sz ∧ va_P (dC, dI) cls (wz_216 h0 pr kn lt h0_localCount pe h0_pendingCount h0_gives h0_depth h0_loopDepth to bo cs se pr gl fu pa pf sf pk pg pp pz pv pr_reason pr_place pr_scanner_r pr_stepCount pr_open pr_twoSides pr_waiting_r pr_waitingPlaces_r pr_waitingCount pf cpf gpf fu tr fus fuz fut fuv fu_length fut cfut gfut pa tr pas paz pat pav pa_length pat cpat gpat) U.heap ∧ va_K (dC, dI) cls [(cpf, .int), (cfut, .int), (cpat, .int)] U ∧ va_D (fun _ => True) (wz_216 h0 pr kn lt h0_localCount pe h0_pendingCount h0_gives h0_depth h0_loopDepth to bo cs se pr gl fu pa pf sf pk pg pp pz pv pr_reason pr_place pr_scanner_r pr_stepCount pr_open pr_twoSides pr_waiting_r pr_waitingPlaces_r pr_waitingCount pf cpf gpf fu tr fus fuz fut fuv fu_length fut cfut gfut pa tr pas paz pat pav pa_length pat cpat gpat))) (va_Qi (fun (r : Int32) (u : Unit) => match u with | _ => (r = 0 ∨ r = 1) ∧ (r = 1 → tkF gpf p0.toNatClampNeg = tkF gpf p1.toNatClampNeg ∧ gfut p0.toNatClampNeg = gfut p1.toNatClampNeg)) (at_CO_isSameType dC dI h0 pr kn lt pe to bo cs se gl fu pa pf sf pk pg pp pz pv pr_scanner_r pr_waiting_r pr_waitingPlaces_r tr fus fuz fut fuv pas paz pat pav cpf cfut cpat h0_localCount h0_pendingCount h0_gives h0_depth h0_loopDepth pr_reason pr_place pr_stepCount pr_open pr_twoSides pr_waitingCount gpf fu_length gfut pa_length gpat (va_A (wz_216 h0 pr kn lt h0_localCount pe h0_pendingCount h0_gives h0_depth h0_loopDepth to bo cs se pr gl fu pa pf sf pk pg pp pz pv pr_reason pr_place pr_scanner_r pr_stepCount pr_open pr_twoSides pr_waiting_r pr_waitingPlaces_r pr_waitingCount pf cpf gpf fu tr fus fuz fut fuv fu_length fut cfut gfut pa tr pas paz pat pav pa_length pat cpat gpat) sz)) (va_A (wz_216 h0 pr kn lt h0_localCount pe h0_pendingCount h0_gives h0_depth h0_loopDepth to bo cs se pr gl fu pa pf sf pk pg pp pz pv pr_reason pr_place pr_scanner_r pr_stepCount pr_open pr_twoSides pr_waiting_r pr_waitingPlaces_r pr_waitingCount pf cpf gpf fu tr fus fuz fut fuv fu_length fut cfut gfut pa tr pas paz pat pav pa_length pat cpat gpat) sz)) 0 0 (va_A (wz_216 h0 pr kn lt h0_localCount pe h0_pendingCount h0_gives h0_depth h0_loopDepth to bo cs se pr gl fu pa pf sf pk pg pp pz pv pr_reason pr_place pr_scanner_r pr_stepCount pr_open pr_twoSides pr_waiting_r pr_waitingPlaces_r pr_waitingCount pf cpf gpf fu tr fus fuz fut fuv fu_length fut cfut gfut pa tr pas paz pat pav pa_length pat cpat gpat) sz) := by
  refine Met.ofW (cc := b_CO_isSameType) (maxL := 7) (ret := (Option.some .boolean)) (by decide) rfl ?_
  intro p e s m args below meth c s₁ B hml hv
  obtain ⟨rfl, hsz, hP, hK, hD0⟩ := hv
  have hx := B.exec
  have hb := B.bytes
  have hr := B.returns
  have hts0 := atoms_spec (ws := w_CO_isSameType) B.pre
  have hts : ∀ w ∈ lw_g, w.before _ s = true := fun w h => hts0 w (List.mem_cons_of_mem _ h)
  have hown : s.vm.findClass R_CO = some m.cls := findClass_of_methodNamed B.named
  have hlocks := B.notSynchronized
  clear hts0
  subst hsz
  have hD := hD0.self (sz := s.heap.size)
  generalize hAe : va_A (wz_216 h0 pr kn lt h0_localCount pe h0_pendingCount h0_gives h0_depth h0_loopDepth to bo cs se pr gl fu pa pf sf pk pg pp pz pv pr_reason pr_place pr_scanner_r pr_stepCount pr_open pr_twoSides pr_waiting_r pr_waitingPlaces_r pr_waitingCount pf cpf gpf fu tr fus fuz fut fuv fu_length fut cfut gfut pa tr pas paz pat pav pa_length pat cpat gpat) s.heap.size = A at hD ⊢
  have hA : ∀ q : Nat, s.heap.size ≤ q → A q := fun q h => by rw [← hAe]; exact Or.inr h
  clear hAe
  have hP : va_P (dC, dI) cls (wz_216 h0 pr kn lt h0_localCount pe h0_pendingCount h0_gives h0_depth h0_loopDepth to bo cs se pr gl fu pa pf sf pk pg pp pz pv pr_reason pr_place pr_scanner_r pr_stepCount pr_open pr_twoSides pr_waiting_r pr_waitingPlaces_r pr_waitingCount pf cpf gpf fu tr fus fuz fut fuv fu_length fut cfut gfut pa tr pas paz pat pav pa_length pat cpat gpat) s.heap := hP
  have hl := lv_entry ([.ref h0, .int p0, .int p1]) (n := 7) (Nat.le_of_ble_eq_true rfl)
  rw [lg_entry_eq]
  generalize (lg_sl ([.ref h0, .int p0, .int p1]) ++ List.replicate (7 - (lg_sl ([.ref h0, .int p0, .int p1])).length) Slot.unset).toArray = ls at hl ⊢
  have hl : lv_has ls 7 [(0, .ref h0), (1, .int p0), (2, .int p1)] := hl
  have k0 : (0 : Int32).toInt = 0 := by decide
  refine w_gen (A := A) hP (fun H locs hP hS => ?_)
  have k1 : (1 : Int32).toInt = 1 := by decide
  have lo_p0 := i32_lo p0
  have hi_p0 := i32_hi p0
  have lo_p1 := i32_lo p1
  have hi_p1 := i32_hi p1
  have cp0 := i32_clamp (x := p0) (by (first | (apply Int.le_antisymm <;> omega) | omega))
  have kp0 := hpf.out p0.toNatClampNeg (by (first | (apply Int.le_antisymm <;> omega) | omega))
  have cp1 := i32_clamp (x := p1) (by (first | (apply Int.le_antisymm <;> omega) | omega))
  have kp1 := hpf.out p1.toNatClampNeg (by (first | (apply Int.le_antisymm <;> omega) | omega))
  refine lv_aload_n hx hb d_CO_isSameType_0 rfl (lv_at hl 0 rfl) ?_
  refine va_get (D := (dC, dI)) (ci := 2) (v := .ref pr) (C := R_CO) (T := F_CO) (N := 13) hx hb hts i_CO hown hK hP 0 rfl rfl 0 (by decide) (hts _ kF_CO_36) (fun _ h9 => h9) rfl d_CO_isSameType_1 ?_
  refine va_get (D := (dC, dI)) (ci := 6) (v := .ref pf) (C := R_PR) (T := F_PR) (N := 19) hx hb hts i_PR hown hK hP 1 rfl rfl 3 (by decide) (hts _ kF_CO_127) (fun _ h9 => h9) rfl d_CO_isSameType_4 ?_
  refine lv_iload_n hx hb d_CO_isSameType_7 rfl (lv_at hl 1 rfl) ?_
  have g8 : vp_in p0 21 := vp_in_iff.mpr ⟨by (first | (apply Int.le_antisymm <;> omega) | omega), by (first | (apply Int.le_antisymm <;> omega) | omega)⟩
  refine va_iald hx hb hK hP 2 0 rfl rfl g8 d_CO_isSameType_8 ?_
  refine lv_topi (fun x1 ex1 => ?_)
  have tx1 : x1.toInt = (gpf p0.toNatClampNeg).toInt := by rw [ex1]
  refine lv_istore_n (lv' := [(3, .int x1), (0, .ref h0), (1, .int p0), (2, .int p1)]) hx hb d_CO_isSameType_9 rfl hl (by decide) rfl (fun ls hl => ?_)
  refine lv_aload_n hx hb d_CO_isSameType_10 rfl (lv_at hl 1 rfl) ?_
  refine va_get (D := (dC, dI)) (ci := 2) (v := .ref pr) (C := R_CO) (T := F_CO) (N := 13) hx hb hts i_CO hown hK hP 0 rfl rfl 0 (by decide) (hts _ kF_CO_36) (fun _ h9 => h9) rfl d_CO_isSameType_11 ?_
  refine va_get (D := (dC, dI)) (ci := 6) (v := .ref pf) (C := R_PR) (T := F_PR) (N := 19) hx hb hts i_PR hown hK hP 1 rfl rfl 3 (by decide) (hts _ kF_CO_127) (fun _ h9 => h9) rfl d_CO_isSameType_14 ?_
  refine lv_iload_n hx hb d_CO_isSameType_17 rfl (lv_at hl 3 rfl) ?_
  have g18 : vp_in p1 21 := vp_in_iff.mpr ⟨by (first | (apply Int.le_antisymm <;> omega) | omega), by (first | (apply Int.le_antisymm <;> omega) | omega)⟩
  refine va_iald hx hb hK hP 2 0 rfl rfl g18 d_CO_isSameType_18 ?_
  refine lv_topi (fun x2 ex2 => ?_)
  have tx2 : x2.toInt = (gpf p1.toNatClampNeg).toInt := by rw [ex2]
  refine lv_istore (lv' := [(4, .int x2), (3, .int x1), (0, .ref h0), (1, .int p0), (2, .int p1)]) hx hb d_CO_isSameType_19 hl (by decide) rfl (fun ls hl => ?_)
  refine lv_aload_n hx hb d_CO_isSameType_21 rfl (lv_at hl 2 rfl) ?_
  refine va_get (D := (dC, dI)) (ci := 2) (v := .ref pr) (C := R_CO) (T := F_CO) (N := 13) hx hb hts i_CO hown hK hP 0 rfl rfl 0 (by decide) (hts _ kF_CO_36) (fun _ h9 => h9) rfl d_CO_isSameType_22 ?_
  refine va_get (D := (dC, dI)) (ci := 6) (v := .ref pf) (C := R_PR) (T := F_PR) (N := 19) hx hb hts i_PR hown hK hP 1 rfl rfl 3 (by decide) (hts _ kF_CO_127) (fun _ h9 => h9) rfl d_CO_isSameType_25 ?_
  refine lv_iload_n hx hb d_CO_isSameType_28 rfl (lv_at hl 3 rfl) ?_
  refine lv_iconst (v := 1) hx hb d_CO_isSameType_29 (by decide) ?_
  refine lv_iadd hx hb d_CO_isSameType_30 ?_
  refine lv_topi (fun x3 ex3 => ?_)
  have tx3 : x3.toInt = p0.toInt + 1 := by have z := i32_add ex3 (by (first | (apply Int.le_antisymm <;> omega) | omega)) (by (first | (apply Int.le_antisymm <;> omega) | omega)); first | exact z | (first | (apply Int.le_antisymm <;> omega) | omega)
  have g31 : vp_in x3 21 := vp_in_iff.mpr ⟨by (first | (apply Int.le_antisymm <;> omega) | omega), by (first | (apply Int.le_antisymm <;> omega) | omega)⟩
  refine va_iald hx hb hK hP 2 0 rfl rfl g31 d_CO_isSameType_31 ?_
  refine lv_topi (fun x4 ex4 => ?_)
  have zpc_ : x3.toNatClampNeg = p0.toNatClampNeg + 1 := by have := i32_clamp (x := x3) (by (first | (apply Int.le_antisymm <;> omega) | omega)); (first | (apply Int.le_antisymm <;> omega) | omega)
  have tx4 : x4.toInt = (gpf (p0.toNatClampNeg + 1)).toInt := by rw [ex4, zpc_]
  refine lv_iload_n hx hb d_CO_isSameType_32 rfl (lv_at hl 1 rfl) ?_
  refine lv_isub hx hb d_CO_isSameType_33 ?_
  refine lv_topi (fun x5 ex5 => ?_)
  have tx5 : x5.toInt = x4.toInt - x1.toInt := by have z := i32_sub ex5 (by (first | (apply Int.le_antisymm <;> omega) | omega)) (by (first | (apply Int.le_antisymm <;> omega) | omega)); first | exact z | (first | (apply Int.le_antisymm <;> omega) | omega)
  refine lv_istore (lv' := [(5, .int x5), (4, .int x2), (3, .int x1), (0, .ref h0), (1, .int p0), (2, .int p1)]) hx hb d_CO_isSameType_34 hl (by decide) rfl (fun ls hl => ?_)
  refine lv_aload_n hx hb d_CO_isSameType_36 rfl (lv_at hl 3 rfl) ?_
  refine va_get (D := (dC, dI)) (ci := 2) (v := .ref pr) (C := R_CO) (T := F_CO) (N := 13) hx hb hts i_CO hown hK hP 0 rfl rfl 0 (by decide) (hts _ kF_CO_36) (fun _ h9 => h9) rfl d_CO_isSameType_37 ?_
  refine va_get (D := (dC, dI)) (ci := 6) (v := .ref fu) (C := R_PR) (T := F_PR) (N := 19) hx hb hts i_PR hown hK hP 1 rfl rfl 1 (by decide) (hts _ kF_CO_61) (fun _ h9 => h9) rfl d_CO_isSameType_40 ?_
  refine va_get (D := (dC, dI)) (ci := 5) (v := .ref fut) (C := R_NA) (T := F_NA) (N := 6) hx hb hts i_NA hown hK hP 3 rfl rfl 3 (by decide) (hts _ kF_CO_121) (fun _ h9 => h9) rfl d_CO_isSameType_43 ?_
  refine lv_iload_n hx hb d_CO_isSameType_46 rfl (lv_at hl 4 rfl) ?_
  have g47 : vp_in p0 20 := vp_in_iff.mpr ⟨by (first | (apply Int.le_antisymm <;> omega) | omega), by (first | (apply Int.le_antisymm <;> omega) | omega)⟩
  refine va_iald hx hb hK hP 4 1 rfl rfl g47 d_CO_isSameType_47 ?_
  refine lv_topi (fun x6 ex6 => ?_)
  refine lv_aload_n hx hb d_CO_isSameType_48 rfl (lv_at hl 3 rfl) ?_
  refine va_get (D := (dC, dI)) (ci := 2) (v := .ref pr) (C := R_CO) (T := F_CO) (N := 13) hx hb hts i_CO hown hK hP 0 rfl rfl 0 (by decide) (hts _ kF_CO_36) (fun _ h9 => h9) rfl d_CO_isSameType_49 ?_
  refine va_get (D := (dC, dI)) (ci := 6) (v := .ref fu) (C := R_PR) (T := F_PR) (N := 19) hx hb hts i_PR hown hK hP 1 rfl rfl 1 (by decide) (hts _ kF_CO_61) (fun _ h9 => h9) rfl d_CO_isSameType_52 ?_
  refine va_get (D := (dC, dI)) (ci := 5) (v := .ref fut) (C := R_NA) (T := F_NA) (N := 6) hx hb hts i_NA hown hK hP 3 rfl rfl 3 (by decide) (hts _ kF_CO_121) (fun _ h9 => h9) rfl d_CO_isSameType_55 ?_
  refine lv_iload_n hx hb d_CO_isSameType_58 rfl (lv_at hl 5 rfl) ?_
  have g59 : vp_in p1 20 := vp_in_iff.mpr ⟨by (first | (apply Int.le_antisymm <;> omega) | omega), by (first | (apply Int.le_antisymm <;> omega) | omega)⟩
  refine va_iald hx hb hK hP 4 1 rfl rfl g59 d_CO_isSameType_59 ?_
  refine lv_topi (fun x7 ex7 => ?_)
  refine lv_icmp_ne (tgt := 82) hx hb d_CO_isSameType_60 (by decide) (fun c60 => ?_) (fun c60 => ?_)
  · have q60 := neI c60
    refine lv_iconst (v := 0) hx hb d_CO_isSameType_82 (by decide) ?_
    have hP9 := hP.sb (wq := (wz_216 h0 pr kn lt h0_localCount pe h0_pendingCount h0_gives h0_depth h0_loopDepth to bo cs se pr gl fu pa pf sf pk pg pp pz pv pr_reason pr_place pr_scanner_r pr_stepCount pr_open pr_twoSides pr_waiting_r pr_waitingPlaces_r pr_waitingCount pf cpf gpf fu tr fus fuz fut fuv fu_length fut cfut gfut pa tr pas paz pat pav pa_length pat cpat gpat)) [0, 1, 2, 3, 4, 5, 6] rfl
    have hD9 := hD.sb (wq := (wz_216 h0 pr kn lt h0_localCount pe h0_pendingCount h0_gives h0_depth h0_loopDepth to bo cs se pr gl fu pa pf sf pk pg pp pz pv pr_reason pr_place pr_scanner_r pr_stepCount pr_open pr_twoSides pr_waiting_r pr_waitingPlaces_r pr_waitingCount pf cpf gpf fu tr fus fuz fut fuv fu_length fut cfut gfut pa tr pas paz pat pav pa_length pat cpat gpat)) [0, 1, 2, 3, 4, 5, 6] (by decide) rfl
    exact W.zret (v := 0) hx hb hr (zn01 (Or.inl rfl)) (fun t ht hW => ⟨⟨0, (), rfl, ⟨Or.inl rfl, fun z => absurd z (by decide)⟩, va_P.he ht.symm hP9, va_K.moved hW.alike hK, hD9⟩, hS.F ht⟩) hS.2.2 d_CO_isSameType_83
  · have q60 := eqI c60
    refine lv_iload hx hb d_CO_isSameType_63 (lv_at hl 0 rfl) ?_
    refine lv_aload_n hx hb d_CO_isSameType_65 rfl (lv_at hl 3 rfl) ?_
    refine va_get (D := (dC, dI)) (ci := 2) (v := .ref pr) (C := R_CO) (T := F_CO) (N := 13) hx hb hts i_CO hown hK hP 0 rfl rfl 0 (by decide) (hts _ kF_CO_36) (fun _ h9 => h9) rfl d_CO_isSameType_66 ?_
    refine va_get (D := (dC, dI)) (ci := 6) (v := .ref pf) (C := R_PR) (T := F_PR) (N := 19) hx hb hts i_PR hown hK hP 1 rfl rfl 3 (by decide) (hts _ kF_CO_127) (fun _ h9 => h9) rfl d_CO_isSameType_69 ?_
    refine lv_iload_n hx hb d_CO_isSameType_72 rfl (lv_at hl 5 rfl) ?_
    refine lv_iconst (v := 1) hx hb d_CO_isSameType_73 (by decide) ?_
    refine lv_iadd hx hb d_CO_isSameType_74 ?_
    refine lv_topi (fun x8 ex8 => ?_)
    have tx8 : x8.toInt = p1.toInt + 1 := by have z := i32_add ex8 (by (first | (apply Int.le_antisymm <;> omega) | omega)) (by (first | (apply Int.le_antisymm <;> omega) | omega)); first | exact z | (first | (apply Int.le_antisymm <;> omega) | omega)
    have g75 : vp_in x8 21 := vp_in_iff.mpr ⟨by (first | (apply Int.le_antisymm <;> omega) | omega), by (first | (apply Int.le_antisymm <;> omega) | omega)⟩
    refine va_iald hx hb hK hP 2 0 rfl rfl g75 d_CO_isSameType_75 ?_
    refine lv_topi (fun x9 ex9 => ?_)
    have zpd_ : x8.toNatClampNeg = p1.toNatClampNeg + 1 := by have := i32_clamp (x := x8) (by (first | (apply Int.le_antisymm <;> omega) | omega)); (first | (apply Int.le_antisymm <;> omega) | omega)
    have tx9 : x9.toInt = (gpf (p1.toNatClampNeg + 1)).toInt := by rw [ex9, zpd_]
    refine lv_iload hx hb d_CO_isSameType_76 (lv_at hl 1 rfl) ?_
    refine lv_isub hx hb d_CO_isSameType_78 ?_
    refine lv_topi (fun x10 ex10 => ?_)
    have tx10 : x10.toInt = x9.toInt - x2.toInt := by have z := i32_sub ex10 (by (first | (apply Int.le_antisymm <;> omega) | omega)) (by (first | (apply Int.le_antisymm <;> omega) | omega)); first | exact z | (first | (apply Int.le_antisymm <;> omega) | omega)
    refine lv_icmp_eq (tgt := 84) hx hb d_CO_isSameType_79 (by decide) (fun c79 => ?_) (fun c79 => ?_)
    · have q79 := eqI c79
      have k84 : tkF gpf p0.toNatClampNeg = tkF gpf p1.toNatClampNeg := by unfold tkF; (first | (apply Int.le_antisymm <;> omega) | omega)
      refine lv_iconst (v := 0) hx hb d_CO_isSameType_84 (by decide) ?_
      refine lv_istore (lv' := [(6, .int 0), (5, .int x5), (4, .int x2), (3, .int x1), (0, .ref h0), (1, .int p0), (2, .int p1)]) hx hb d_CO_isSameType_85 hl (by decide) rfl (fun ls hl => ?_)
      refine w_loop (σ := Int32) (fun u H locs ls => match u with | j87_l6 => (0 ≤ j87_l6.toInt ∧ j87_l6.toInt ≤ tkF gpf p0.toNatClampNeg) ∧ va_P (dC, dI) cls (wz_216 h0 pr kn lt h0_localCount pe h0_pendingCount h0_gives h0_depth h0_loopDepth to bo cs se pr gl fu pa pf sf pk pg pp pz pv pr_reason pr_place pr_scanner_r pr_stepCount pr_open pr_twoSides pr_waiting_r pr_waitingPlaces_r pr_waitingCount pf cpf gpf fu tr fus fuz fut fuv fu_length fut cfut gfut pa tr pas paz pat pav pa_length pat cpat gpat) H ∧ va_D A (wz_216 h0 pr kn lt h0_localCount pe h0_pendingCount h0_gives h0_depth h0_loopDepth to bo cs se pr gl fu pa pf sf pk pg pp pz pv pr_reason pr_place pr_scanner_r pr_stepCount pr_open pr_twoSides pr_waiting_r pr_waitingPlaces_r pr_waitingCount pf cpf gpf fu tr fus fuz fut fuv fu_length fut cfut gfut pa tr pas paz pat pav pa_length pat cpat gpat) ∧ va_S A s.heap H locs ∧ lv_has ls 7 [(0, .ref h0), (3, .int x1), (4, .int x2), (5, .int x5), (6, .int j87_l6)]) (fun u => match u with | j87_l6 => (8 + tkF gpf p0.toNatClampNeg - j87_l6.toInt).toNat) ?_ 0 ⟨by (try dsimp only); unfold tkF; (first | (apply Int.le_antisymm <;> omega) | omega), hP, hD, hS, lv_sub hl [4, 3, 2, 1, 0] rfl⟩
      intro N87 ih87 u H locs ls hN87 hI
      obtain ⟨j87_l6, rfl⟩ : ∃ z, z = u := ⟨_, rfl⟩
      obtain ⟨v1, hP, hD, hS, hl⟩ := hI
      have hN87 : (8 + tkF gpf p0.toNatClampNeg - j87_l6.toInt).toNat < N87 + 1 := hN87
      refine lv_iload hx hb d_CO_isSameType_87 (lv_at hl 4 rfl) ?_
      refine lv_iload hx hb d_CO_isSameType_89 (lv_at hl 3 rfl) ?_
      refine lv_icmp_ge (tgt := 136) hx hb d_CO_isSameType_91 (by decide) (fun c91 => ?_) (fun c91 => ?_)
      · have q91 := leI c91
        refine lv_iconst (v := 1) hx hb d_CO_isSameType_136 (by decide) ?_
        have hP9 := hP.sb (wq := (wz_216 h0 pr kn lt h0_localCount pe h0_pendingCount h0_gives h0_depth h0_loopDepth to bo cs se pr gl fu pa pf sf pk pg pp pz pv pr_reason pr_place pr_scanner_r pr_stepCount pr_open pr_twoSides pr_waiting_r pr_waitingPlaces_r pr_waitingCount pf cpf gpf fu tr fus fuz fut fuv fu_length fut cfut gfut pa tr pas paz pat pav pa_length pat cpat gpat)) [0, 1, 2, 3, 4, 5, 6] rfl
        have hD9 := hD.sb (wq := (wz_216 h0 pr kn lt h0_localCount pe h0_pendingCount h0_gives h0_depth h0_loopDepth to bo cs se pr gl fu pa pf sf pk pg pp pz pv pr_reason pr_place pr_scanner_r pr_stepCount pr_open pr_twoSides pr_waiting_r pr_waitingPlaces_r pr_waitingCount pf cpf gpf fu tr fus fuz fut fuv fu_length fut cfut gfut pa tr pas paz pat pav pa_length pat cpat gpat)) [0, 1, 2, 3, 4, 5, 6] (by decide) rfl
        exact W.zret (v := 1) hx hb hr (zn01 (Or.inr rfl)) (fun t ht hW => ⟨⟨1, (), rfl, ⟨Or.inr rfl, fun _ => ⟨by unfold tkF; (first | (apply Int.le_antisymm <;> omega) | omega), by rw [← ex6, ← ex7]; exact Int32.toInt_inj.mp (by (first | (apply Int.le_antisymm <;> omega) | omega))⟩⟩, va_P.he ht.symm hP9, va_K.moved hW.alike hK, hD9⟩, hS.F ht⟩) hS.2.2 d_CO_isSameType_137
      · have q91 := nleI c91
        refine lv_aload_n hx hb d_CO_isSameType_94 rfl (lv_at hl 0 rfl) ?_
        refine va_get (D := (dC, dI)) (ci := 2) (v := .ref pr) (C := R_CO) (T := F_CO) (N := 13) hx hb hts i_CO hown hK hP 0 rfl rfl 0 (by decide) (hts _ kF_CO_36) (fun _ h9 => h9) rfl d_CO_isSameType_95 ?_
        refine va_get (D := (dC, dI)) (ci := 6) (v := .ref pa) (C := R_PR) (T := F_PR) (N := 19) hx hb hts i_PR hown hK hP 1 rfl rfl 2 (by decide) (hts _ kF_CO_130) (fun _ h9 => h9) rfl d_CO_isSameType_98 ?_
        refine va_get (D := (dC, dI)) (ci := 5) (v := .ref pat) (C := R_NA) (T := F_NA) (N := 6) hx hb hts i_NA hown hK hP 5 rfl rfl 3 (by decide) (hts _ kF_CO_121) (fun _ h9 => h9) rfl d_CO_isSameType_101 ?_
        refine lv_iload_n hx hb d_CO_isSameType_104 rfl (lv_at hl 1 rfl) ?_
        refine lv_iload hx hb d_CO_isSameType_105 (lv_at hl 4 rfl) ?_
        refine lv_iadd hx hb d_CO_isSameType_107 ?_
        refine lv_topi (fun x11 ex11 => ?_)
        have tx11 : x11.toInt = x1.toInt + j87_l6.toInt := by have z := i32_add ex11 (by (first | (apply Int.le_antisymm <;> omega) | omega)) (by (first | (apply Int.le_antisymm <;> omega) | omega)); first | exact z | (first | (apply Int.le_antisymm <;> omega) | omega)
        have g108 : vp_in x11 160 := vp_in_iff.mpr ⟨by (first | (apply Int.le_antisymm <;> omega) | omega), by (first | (apply Int.le_antisymm <;> omega) | omega)⟩
        refine va_iald hx hb hK hP 6 2 rfl rfl g108 d_CO_isSameType_108 ?_
        refine lv_topi (fun x12 ex12 => ?_)
        refine lv_aload_n hx hb d_CO_isSameType_109 rfl (lv_at hl 0 rfl) ?_
        refine va_get (D := (dC, dI)) (ci := 2) (v := .ref pr) (C := R_CO) (T := F_CO) (N := 13) hx hb hts i_CO hown hK hP 0 rfl rfl 0 (by decide) (hts _ kF_CO_36) (fun _ h9 => h9) rfl d_CO_isSameType_110 ?_
        refine va_get (D := (dC, dI)) (ci := 6) (v := .ref pa) (C := R_PR) (T := F_PR) (N := 19) hx hb hts i_PR hown hK hP 1 rfl rfl 2 (by decide) (hts _ kF_CO_130) (fun _ h9 => h9) rfl d_CO_isSameType_113 ?_
        refine va_get (D := (dC, dI)) (ci := 5) (v := .ref pat) (C := R_NA) (T := F_NA) (N := 6) hx hb hts i_NA hown hK hP 5 rfl rfl 3 (by decide) (hts _ kF_CO_121) (fun _ h9 => h9) rfl d_CO_isSameType_116 ?_
        refine lv_iload hx hb d_CO_isSameType_119 (lv_at hl 2 rfl) ?_
        refine lv_iload hx hb d_CO_isSameType_121 (lv_at hl 4 rfl) ?_
        refine lv_iadd hx hb d_CO_isSameType_123 ?_
        refine lv_topi (fun x13 ex13 => ?_)
        have tx13 : x13.toInt = x2.toInt + j87_l6.toInt := by have z := i32_add ex13 (by (first | (apply Int.le_antisymm <;> omega) | omega)) (by (first | (apply Int.le_antisymm <;> omega) | omega)); first | exact z | (first | (apply Int.le_antisymm <;> omega) | omega)
        have g124 : vp_in x13 160 := vp_in_iff.mpr ⟨by (first | (apply Int.le_antisymm <;> omega) | omega), by (first | (apply Int.le_antisymm <;> omega) | omega)⟩
        refine va_iald hx hb hK hP 6 2 rfl rfl g124 d_CO_isSameType_124 ?_
        refine lv_topi (fun x14 ex14 => ?_)
        refine lv_icmp_eq (tgt := 130) hx hb d_CO_isSameType_125 (by decide) (fun c125 => ?_) (fun c125 => ?_)
        · have q125 := eqI c125
          obtain ⟨x15, ex15⟩ : ∃ z : Int32, z = j87_l6 + 1 := ⟨_, rfl⟩
          have tx15 : x15.toInt = j87_l6.toInt + 1 := by have z := i32_add ex15 (by (first | (apply Int.le_antisymm <;> omega) | omega)) (by (first | (apply Int.le_antisymm <;> omega) | omega)); first | exact z | (first | (apply Int.le_antisymm <;> omega) | omega)
          refine lv_iinc (v := x15) (lv' := [(6, .int x15), (0, .ref h0), (3, .int x1), (4, .int x2), (5, .int x5)]) hx hb d_CO_isSameType_130 hl (k := 4) rfl (by rw [ex15]; rfl) (by decide) rfl (fun ls hl => ?_)
          refine lv_goto (tgt := 87) hx hb d_CO_isSameType_133 (by decide) ?_
          exact ih87 x15 _ _ _ (by show (8 + tkF gpf p0.toNatClampNeg - x15.toInt).toNat < N87; (first | (apply Int.le_antisymm <;> omega) | omega)) ⟨by (try dsimp only); unfold tkF at *; (first | (apply Int.le_antisymm <;> omega) | omega), hP, hD, hS, lv_sub hl [1, 2, 3, 4, 0] rfl⟩
        · have q125 := neI c125
          refine lv_iconst (v := 0) hx hb d_CO_isSameType_128 (by decide) ?_
          have hP9 := hP.sb (wq := (wz_216 h0 pr kn lt h0_localCount pe h0_pendingCount h0_gives h0_depth h0_loopDepth to bo cs se pr gl fu pa pf sf pk pg pp pz pv pr_reason pr_place pr_scanner_r pr_stepCount pr_open pr_twoSides pr_waiting_r pr_waitingPlaces_r pr_waitingCount pf cpf gpf fu tr fus fuz fut fuv fu_length fut cfut gfut pa tr pas paz pat pav pa_length pat cpat gpat)) [0, 1, 2, 3, 4, 5, 6] rfl
          have hD9 := hD.sb (wq := (wz_216 h0 pr kn lt h0_localCount pe h0_pendingCount h0_gives h0_depth h0_loopDepth to bo cs se pr gl fu pa pf sf pk pg pp pz pv pr_reason pr_place pr_scanner_r pr_stepCount pr_open pr_twoSides pr_waiting_r pr_waitingPlaces_r pr_waitingCount pf cpf gpf fu tr fus fuz fut fuv fu_length fut cfut gfut pa tr pas paz pat pav pa_length pat cpat gpat)) [0, 1, 2, 3, 4, 5, 6] (by decide) rfl
          exact W.zret (v := 0) hx hb hr (zn01 (Or.inl rfl)) (fun t ht hW => ⟨⟨0, (), rfl, ⟨Or.inl rfl, fun z => absurd z (by decide)⟩, va_P.he ht.symm hP9, va_K.moved hW.alike hK, hD9⟩, hS.F ht⟩) hS.2.2 d_CO_isSameType_129
    · have q79 := neI c79
      refine lv_iconst (v := 0) hx hb d_CO_isSameType_82 (by decide) ?_
      have hP9 := hP.sb (wq := (wz_216 h0 pr kn lt h0_localCount pe h0_pendingCount h0_gives h0_depth h0_loopDepth to bo cs se pr gl fu pa pf sf pk pg pp pz pv pr_reason pr_place pr_scanner_r pr_stepCount pr_open pr_twoSides pr_waiting_r pr_waitingPlaces_r pr_waitingCount pf cpf gpf fu tr fus fuz fut fuv fu_length fut cfut gfut pa tr pas paz pat pav pa_length pat cpat gpat)) [0, 1, 2, 3, 4, 5, 6] rfl
      have hD9 := hD.sb (wq := (wz_216 h0 pr kn lt h0_localCount pe h0_pendingCount h0_gives h0_depth h0_loopDepth to bo cs se pr gl fu pa pf sf pk pg pp pz pv pr_reason pr_place pr_scanner_r pr_stepCount pr_open pr_twoSides pr_waiting_r pr_waitingPlaces_r pr_waitingCount pf cpf gpf fu tr fus fuz fut fuv fu_length fut cfut gfut pa tr pas paz pat pav pa_length pat cpat gpat)) [0, 1, 2, 3, 4, 5, 6] (by decide) rfl
      exact W.zret (v := 0) hx hb hr (zn01 (Or.inl rfl)) (fun t ht hW => ⟨⟨0, (), rfl, ⟨Or.inl rfl, fun z => absurd z (by decide)⟩, va_P.he ht.symm hP9, va_K.moved hW.alike hK, hD9⟩, hS.F ht⟩) hS.2.2 d_CO_isSameType_83
abbrev b_CO_writeType : ByteArray := prog_4_method_23_code
def y_CO_writeType : MethodName := ⟨R_CO, "writeType", "(I)V"⟩
abbrev w_CO_writeType : List Cond := .code y_CO_writeType b_CO_writeType 5 none :: lw_g
theorem kC_CO_writeType : Cond.code y_CO_writeType b_CO_writeType 5 none ∈ lw_g := in_c6 34 rfl rfl
theorem d_CO_writeType_0 : decode b_CO_writeType 0 = .ok (.aload_n 0, 1) := bz_c42 (by decide +kernel)
theorem d_CO_writeType_1 : decode b_CO_writeType 1 = .ok (.getfield 36, 3) := bz_c180 (by decide +kernel)
theorem d_CO_writeType_4 : decode b_CO_writeType 4 = .ok (.getfield 127, 3) := bz_c180 (by decide +kernel)
theorem d_CO_writeType_7 : decode b_CO_writeType 7 = .ok (.iload_n 1, 1) := bz_c27 (by decide +kernel)
theorem d_CO_writeType_8 : decode b_CO_writeType 8 = .ok (.iaload, 1) := bz_c46 (by decide +kernel)
theorem d_CO_writeType_9 : decode b_CO_writeType 9 = .ok (.istore_n 2, 1) := bz_c61 (by decide +kernel)
theorem d_CO_writeType_10 : decode b_CO_writeType 10 = .ok (.aload_n 0, 1) := bz_c42 (by decide +kernel)
theorem d_CO_writeType_11 : decode b_CO_writeType 11 = .ok (.getfield 36, 3) := bz_c180 (by decide +kernel)
theorem d_CO_writeType_14 : decode b_CO_writeType 14 = .ok (.getfield 127, 3) := bz_c180 (by decide +kernel)
theorem d_CO_writeType_17 : decode b_CO_writeType 17 = .ok (.iload_n 1, 1) := bz_c27 (by decide +kernel)
theorem d_CO_writeType_18 : decode b_CO_writeType 18 = .ok (.iconst 1, 1) := bz_c4 (by decide +kernel)
theorem d_CO_writeType_19 : decode b_CO_writeType 19 = .ok (.iadd, 1) := bz_c96 (by decide +kernel)
theorem d_CO_writeType_20 : decode b_CO_writeType 20 = .ok (.iaload, 1) := bz_c46 (by decide +kernel)
theorem d_CO_writeType_21 : decode b_CO_writeType 21 = .ok (.iload_n 2, 1) := bz_c28 (by decide +kernel)
theorem d_CO_writeType_22 : decode b_CO_writeType 22 = .ok (.isub, 1) := bz_c100 (by decide +kernel)
theorem d_CO_writeType_23 : decode b_CO_writeType 23 = .ok (.istore_n 3, 1) := bz_c62 (by decide +kernel)
theorem d_CO_writeType_24 : decode b_CO_writeType 24 = .ok (.aload_n 0, 1) := bz_c42 (by decide +kernel)
theorem d_CO_writeType_25 : decode b_CO_writeType 25 = .ok (.getfield 33, 3) := bz_c180 (by decide +kernel)
theorem d_CO_writeType_28 : decode b_CO_writeType 28 = .ok (.bipush 96, 2) := bz_c16 (by decide +kernel)
theorem d_CO_writeType_30 : decode b_CO_writeType 30 = .ok (.invokevirtual 76, 3) := bz_c182 (by decide +kernel)
theorem d_CO_writeType_33 : decode b_CO_writeType 33 = .ok (.aload_n 0, 1) := bz_c42 (by decide +kernel)
theorem d_CO_writeType_34 : decode b_CO_writeType 34 = .ok (.getfield 33, 3) := bz_c180 (by decide +kernel)
theorem d_CO_writeType_37 : decode b_CO_writeType 37 = .ok (.iload_n 3, 1) := bz_c29 (by decide +kernel)
theorem d_CO_writeType_38 : decode b_CO_writeType 38 = .ok (.invokevirtual 218, 3) := bz_c182 (by decide +kernel)
theorem d_CO_writeType_41 : decode b_CO_writeType 41 = .ok (.iconst 0, 1) := bz_c3 (by decide +kernel)
theorem d_CO_writeType_42 : decode b_CO_writeType 42 = .ok (.istore 4, 2) := bz_c54 (by decide +kernel)
theorem d_CO_writeType_44 : decode b_CO_writeType 44 = .ok (.iload 4, 2) := bz_c21 (by decide +kernel)
theorem d_CO_writeType_46 : decode b_CO_writeType 46 = .ok (.iload_n 3, 1) := bz_c29 (by decide +kernel)
theorem d_CO_writeType_47 : decode b_CO_writeType 47 = .ok (.if_icmp .ge 31, 3) := bz_c162 (by decide +kernel)
theorem d_CO_writeType_50 : decode b_CO_writeType 50 = .ok (.aload_n 0, 1) := bz_c42 (by decide +kernel)
theorem d_CO_writeType_51 : decode b_CO_writeType 51 = .ok (.getfield 33, 3) := bz_c180 (by decide +kernel)
theorem d_CO_writeType_54 : decode b_CO_writeType 54 = .ok (.aload_n 0, 1) := bz_c42 (by decide +kernel)
theorem d_CO_writeType_55 : decode b_CO_writeType 55 = .ok (.getfield 36, 3) := bz_c180 (by decide +kernel)
theorem d_CO_writeType_58 : decode b_CO_writeType 58 = .ok (.getfield 130, 3) := bz_c180 (by decide +kernel)
theorem d_CO_writeType_61 : decode b_CO_writeType 61 = .ok (.getfield 121, 3) := bz_c180 (by decide +kernel)
theorem d_CO_writeType_64 : decode b_CO_writeType 64 = .ok (.iload_n 2, 1) := bz_c28 (by decide +kernel)
theorem d_CO_writeType_65 : decode b_CO_writeType 65 = .ok (.iload 4, 2) := bz_c21 (by decide +kernel)
theorem d_CO_writeType_67 : decode b_CO_writeType 67 = .ok (.iadd, 1) := bz_c96 (by decide +kernel)
theorem d_CO_writeType_68 : decode b_CO_writeType 68 = .ok (.iaload, 1) := bz_c46 (by decide +kernel)
theorem d_CO_writeType_69 : decode b_CO_writeType 69 = .ok (.invokevirtual 76, 3) := bz_c182 (by decide +kernel)
theorem d_CO_writeType_72 : decode b_CO_writeType 72 = .ok (.iinc 4 1, 3) := by decide +kernel
theorem d_CO_writeType_75 : decode b_CO_writeType 75 = .ok (.goto (-31), 3) := bz_c167 (by decide +kernel)
theorem d_CO_writeType_78 : decode b_CO_writeType 78 = .ok (.aload_n 0, 1) := bz_c42 (by decide +kernel)
theorem d_CO_writeType_79 : decode b_CO_writeType 79 = .ok (.getfield 36, 3) := bz_c180 (by decide +kernel)
theorem d_CO_writeType_82 : decode b_CO_writeType 82 = .ok (.getfield 61, 3) := bz_c180 (by decide +kernel)
theorem d_CO_writeType_85 : decode b_CO_writeType 85 = .ok (.getfield 121, 3) := bz_c180 (by decide +kernel)
theorem d_CO_writeType_88 : decode b_CO_writeType 88 = .ok (.iload_n 1, 1) := bz_c27 (by decide +kernel)
theorem d_CO_writeType_89 : decode b_CO_writeType 89 = .ok (.iaload, 1) := bz_c46 (by decide +kernel)
theorem d_CO_writeType_90 : decode b_CO_writeType 90 = .ok (.bipush 64, 2) := bz_c16 (by decide +kernel)
theorem d_CO_writeType_92 : decode b_CO_writeType 92 = .ok (.if_icmp .eq 7, 3) := bz_c159 (by decide +kernel)
theorem d_CO_writeType_95 : decode b_CO_writeType 95 = .ok (.iconst 1, 1) := bz_c4 (by decide +kernel)
theorem d_CO_writeType_96 : decode b_CO_writeType 96 = .ok (.goto 4, 3) := bz_c167 (by decide +kernel)
theorem d_CO_writeType_99 : decode b_CO_writeType 99 = .ok (.iconst 0, 1) := bz_c3 (by decide +kernel)
theorem d_CO_writeType_100 : decode b_CO_writeType 100 = .ok (.istore 4, 2) := bz_c54 (by decide +kernel)
theorem d_CO_writeType_102 : decode b_CO_writeType 102 = .ok (.aload_n 0, 1) := bz_c42 (by decide +kernel)
theorem d_CO_writeType_103 : decode b_CO_writeType 103 = .ok (.getfield 33, 3) := bz_c180 (by decide +kernel)
theorem d_CO_writeType_106 : decode b_CO_writeType 106 = .ok (.iload 4, 2) := bz_c21 (by decide +kernel)
theorem d_CO_writeType_108 : decode b_CO_writeType 108 = .ok (.ifCond .eq 7, 3) := bz_c153 (by decide +kernel)
theorem d_CO_writeType_111 : decode b_CO_writeType 111 = .ok (.iconst 1, 1) := bz_c4 (by decide +kernel)
theorem d_CO_writeType_112 : decode b_CO_writeType 112 = .ok (.goto 4, 3) := bz_c167 (by decide +kernel)
theorem d_CO_writeType_115 : decode b_CO_writeType 115 = .ok (.iconst 0, 1) := bz_c3 (by decide +kernel)
theorem d_CO_writeType_116 : decode b_CO_writeType 116 = .ok (.invokevirtual 76, 3) := bz_c182 (by decide +kernel)
theorem d_CO_writeType_119 : decode b_CO_writeType 119 = .ok (.iload 4, 2) := bz_c21 (by decide +kernel)
theorem d_CO_writeType_121 : decode b_CO_writeType 121 = .ok (.ifCond .eq 22, 3) := bz_c153 (by decide +kernel)
theorem d_CO_writeType_124 : decode b_CO_writeType 124 = .ok (.aload_n 0, 1) := bz_c42 (by decide +kernel)
theorem d_CO_writeType_125 : decode b_CO_writeType 125 = .ok (.getfield 33, 3) := bz_c180 (by decide +kernel)
theorem d_CO_writeType_128 : decode b_CO_writeType 128 = .ok (.aload_n 0, 1) := bz_c42 (by decide +kernel)
theorem d_CO_writeType_129 : decode b_CO_writeType 129 = .ok (.getfield 36, 3) := bz_c180 (by decide +kernel)
theorem d_CO_writeType_132 : decode b_CO_writeType 132 = .ok (.getfield 61, 3) := bz_c180 (by decide +kernel)
theorem d_CO_writeType_135 : decode b_CO_writeType 135 = .ok (.getfield 121, 3) := bz_c180 (by decide +kernel)
theorem d_CO_writeType_138 : decode b_CO_writeType 138 = .ok (.iload_n 1, 1) := bz_c27 (by decide +kernel)
theorem d_CO_writeType_139 : decode b_CO_writeType 139 = .ok (.iaload, 1) := bz_c46 (by decide +kernel)
theorem d_CO_writeType_140 : decode b_CO_writeType 140 = .ok (.invokevirtual 76, 3) := bz_c182 (by decide +kernel)
theorem d_CO_writeType_143 : decode b_CO_writeType 143 = .ok (.return_, 1) := bz_c177 (by decide +kernel)
abbrev at_CO_writeType (dC : Nat → ClassId) (dI : Nat → Nat → Nat) (h0 pr kn lt pe to bo cs se gl fu pa pf sf pk pg pp pz pv pr_scanner_r pr_waiting_r pr_waitingPlaces_r seb tr fus fuz fut fuv pas paz pat pav : Nat) (cseb cpf cfut cpat : ClassId) (h0_localCount : Int32) (h0_pendingCount : Int32) (h0_gives : Int32) (h0_depth : Int32) (h0_loopDepth : Int32) (pr_reason : Int32) (pr_place : Int32) (pr_stepCount : Int32) (pr_open : Int32) (pr_twoSides : Int32) (pr_waitingCount : Int32) (gpf : Nat → Int32) (fu_length : Int32) (gfut : Nat → Int32) (pa_length : Int32) (gpat : Nat → Int32) (A : Nat → Prop) (u : (Nat → Int32) × Int32) (t : State) : Prop := match u with | (gseb, se_length) => va_P (dC, dI) cls (wz_217 h0 pr kn lt h0_localCount pe h0_pendingCount h0_gives h0_depth h0_loopDepth to bo cs se pr gl fu pa pf sf pk pg pp pz pv pr_reason pr_place pr_scanner_r pr_stepCount pr_open pr_twoSides pr_waiting_r pr_waitingPlaces_r pr_waitingCount se seb se_length seb cseb gseb pf cpf gpf fu tr fus fuz fut fuv fu_length fut cfut gfut pa tr pas paz pat pav pa_length pat cpat gpat) t.heap ∧ va_K (dC, dI) cls [(cseb, .byte), (cpf, .int), (cfut, .int), (cpat, .int)] t ∧ va_D A (wz_217 h0 pr kn lt h0_localCount pe h0_pendingCount h0_gives h0_depth h0_loopDepth to bo cs se pr gl fu pa pf sf pk pg pp pz pv pr_reason pr_place pr_scanner_r pr_stepCount pr_open pr_twoSides pr_waiting_r pr_waitingPlaces_r pr_waitingCount se seb se_length seb cseb gseb pf cpf gpf fu tr fus fuz fut fuv fu_length fut cfut gfut pa tr pas paz pat pav pa_length pat cpat gpat)
set_option maxHeartbeats 4000000 in
set_option maxRecDepth 100000 in
theorem c_CO_writeType (l : Launch) (dC : Nat → ClassId) (dI : Nat → Nat → Nat) (sz : Nat) (h0 pr kn lt pe to bo cs se gl fu pa pf sf pk pg pp pz pv pr_scanner_r pr_waiting_r pr_waitingPlaces_r seb tr fus fuz fut fuv pas paz pat pav : Nat) (cseb cpf cfut cpat : ClassId) (h0_localCount : Int32) (h0_pendingCount : Int32) (h0_gives : Int32) (h0_depth : Int32) (h0_loopDepth : Int32) (pr_reason : Int32) (pr_place : Int32) (pr_stepCount : Int32) (pr_open : Int32) (pr_twoSides : Int32) (pr_waitingCount : Int32) (se_length : Int32) (gseb : Nat → Int32) (gpf : Nat → Int32) (fu_length : Int32) (gfut : Nat → Int32) (pa_length : Int32) (gpat : Nat → Int32)  (b_se_length : 0 ≤ se_length.toInt ∧ se_length.toInt ≤ 8192) (b_fu_length : 0 ≤ fu_length.toInt ∧ fu_length.toInt ≤ 20) (b_pa_length : 0 ≤ pa_length.toInt ∧ pa_length.toInt ≤ 160) (p0 : Int32)  (hf : 0 ≤ p0.toInt ∧ p0.toInt < fu_length.toInt) (hpf : bx (∀ f : Nat, (f : Int) < fu_length.toInt → 0 ≤ (gpf f).toInt ∧ (gpf f).toInt ≤ (gpf (f + 1)).toInt ∧ (gpf (f + 1)).toInt ≤ pa_length.toInt)) (hpq : bx (gq pa_length.toInt gpat)) (hfq : bx (∀ f : Nat, (f : Int) < fu_length.toInt → ty (gfut f).toInt)) (hpl : pa_length.toInt ≤ 160) (h8 : tkF gpf p0.toNatClampNeg ≤ 8) (hro : se_length.toInt + 20 ≤ 8192) : Met l y_CO_writeType w_CO_writeType ({ frames := 2, cells := 0, slots := 0, locals := 44 }) (va_Pc [.ref h0, .int p0] (fun U => U.heap.size = sz ∧ va_P (dC, dI) cls (wz_217 h0 pr kn lt h0_localCount pe h0_pendingCount h0_gives h0_depth h0_loopDepth to bo cs se pr gl fu pa pf sf pk pg pp pz pv pr_reason pr_place pr_scanner_r pr_stepCount pr_open pr_twoSides pr_waiting_r pr_waitingPlaces_r pr_waitingCount se seb se_length seb cseb gseb pf cpf gpf fu tr fus fuz fut fuv fu_length fut cfut gfut pa tr pas paz pat pav pa_length pat cpat gpat) U.heap ∧ va_K (dC, dI) cls [(cseb, .byte), (cpf, .int), (cfut, .int), (cpat, .int)] U ∧ va_D (fun _ => True) (wz_217 h0 pr kn lt h0_localCount pe h0_pendingCount h0_gives h0_depth h0_loopDepth to bo cs se pr gl fu pa pf sf pk pg pp pz pv pr_reason pr_place pr_scanner_r pr_stepCount pr_open pr_twoSides pr_waiting_r pr_waitingPlaces_r pr_waitingCount se seb se_length seb cseb gseb pf cpf gpf fu tr fus fuz fut fuv fu_length fut cfut gfut pa tr pas paz pat pav pa_length pat cpat gpat))) (va_Qv (fun (u : (Nat → Int32) × Int32) => match u with | (gseb2, se_length2) => (0 ≤ se_length2.toInt ∧ se_length2.toInt ≤ 8192) ∧ (∃ e : List Nat, isT (tkF gpf) gfut p0.toNatClampNeg e ∧ se_length2.toInt = se_length.toInt + (e.length : Int) ∧ bl gseb2 se_length2.toNatClampNeg = bl gseb se_length.toNatClampNeg ++ e)) (at_CO_writeType dC dI h0 pr kn lt pe to bo cs se gl fu pa pf sf pk pg pp pz pv pr_scanner_r pr_waiting_r pr_waitingPlaces_r seb tr fus fuz fut fuv pas paz pat pav cseb cpf cfut cpat h0_localCount h0_pendingCount h0_gives h0_depth h0_loopDepth pr_reason pr_place pr_stepCount pr_open pr_twoSides pr_waitingCount gpf fu_length gfut pa_length gpat (va_A (wz_217 h0 pr kn lt h0_localCount pe h0_pendingCount h0_gives h0_depth h0_loopDepth to bo cs se pr gl fu pa pf sf pk pg pp pz pv pr_reason pr_place pr_scanner_r pr_stepCount pr_open pr_twoSides pr_waiting_r pr_waitingPlaces_r pr_waitingCount se seb se_length seb cseb gseb pf cpf gpf fu tr fus fuz fut fuv fu_length fut cfut gfut pa tr pas paz pat pav pa_length pat cpat gpat) sz)) (va_A (wz_217 h0 pr kn lt h0_localCount pe h0_pendingCount h0_gives h0_depth h0_loopDepth to bo cs se pr gl fu pa pf sf pk pg pp pz pv pr_reason pr_place pr_scanner_r pr_stepCount pr_open pr_twoSides pr_waiting_r pr_waitingPlaces_r pr_waitingCount se seb se_length seb cseb gseb pf cpf gpf fu tr fus fuz fut fuv fu_length fut cfut gfut pa tr pas paz pat pav pa_length pat cpat gpat) sz)) 0 0 (va_A (wz_217 h0 pr kn lt h0_localCount pe h0_pendingCount h0_gives h0_depth h0_loopDepth to bo cs se pr gl fu pa pf sf pk pg pp pz pv pr_reason pr_place pr_scanner_r pr_stepCount pr_open pr_twoSides pr_waiting_r pr_waitingPlaces_r pr_waitingCount se seb se_length seb cseb gseb pf cpf gpf fu tr fus fuz fut fuv fu_length fut cfut gfut pa tr pas paz pat pav pa_length pat cpat gpat) sz) := by
  refine Met.ofW (cc := b_CO_writeType) (maxL := 5) (ret := none) (by decide) rfl ?_
  intro p e s m args below meth c s₁ B hml hv
  obtain ⟨rfl, hsz, hP, hK, hD0⟩ := hv
  have hx := B.exec
  have hb := B.bytes
  have hr := B.returns
  have hts0 := atoms_spec (ws := w_CO_writeType) B.pre
  have hts : ∀ w ∈ lw_g, w.before _ s = true := fun w h => hts0 w (List.mem_cons_of_mem _ h)
  have hown : s.vm.findClass R_CO = some m.cls := findClass_of_methodNamed B.named
  have hlocks := B.notSynchronized
  clear hts0
  subst hsz
  have hD := hD0.self (sz := s.heap.size)
  generalize hAe : va_A (wz_217 h0 pr kn lt h0_localCount pe h0_pendingCount h0_gives h0_depth h0_loopDepth to bo cs se pr gl fu pa pf sf pk pg pp pz pv pr_reason pr_place pr_scanner_r pr_stepCount pr_open pr_twoSides pr_waiting_r pr_waitingPlaces_r pr_waitingCount se seb se_length seb cseb gseb pf cpf gpf fu tr fus fuz fut fuv fu_length fut cfut gfut pa tr pas paz pat pav pa_length pat cpat gpat) s.heap.size = A at hD ⊢
  have hA : ∀ q : Nat, s.heap.size ≤ q → A q := fun q h => by rw [← hAe]; exact Or.inr h
  clear hAe
  have hP : va_P (dC, dI) cls (wz_217 h0 pr kn lt h0_localCount pe h0_pendingCount h0_gives h0_depth h0_loopDepth to bo cs se pr gl fu pa pf sf pk pg pp pz pv pr_reason pr_place pr_scanner_r pr_stepCount pr_open pr_twoSides pr_waiting_r pr_waitingPlaces_r pr_waitingCount se seb se_length seb cseb gseb pf cpf gpf fu tr fus fuz fut fuv fu_length fut cfut gfut pa tr pas paz pat pav pa_length pat cpat gpat) s.heap := hP
  have hl := lv_entry ([.ref h0, .int p0]) (n := 5) (Nat.le_of_ble_eq_true rfl)
  rw [lg_entry_eq]
  generalize (lg_sl ([.ref h0, .int p0]) ++ List.replicate (5 - (lg_sl ([.ref h0, .int p0])).length) Slot.unset).toArray = ls at hl ⊢
  have hl : lv_has ls 5 [(0, .ref h0), (1, .int p0)] := hl
  have k0 : (0 : Int32).toInt = 0 := by decide
  refine w_gen (A := A) hP (fun H locs hP hS => ?_)
  have k1 : (1 : Int32).toInt = 1 := by decide
  have k64 : (64 : Int32).toInt = 64 := by decide
  have k96 : (96 : Int32).toInt = 96 := by decide
  have lo_p0 := i32_lo p0
  have hi_p0 := i32_hi p0
  have cp0 := i32_clamp (x := p0) (by (first | (apply Int.le_antisymm <;> omega) | omega))
  have kp0 := hpf.out p0.toNatClampNeg (by (first | (apply Int.le_antisymm <;> omega) | omega))
  refine lv_aload_n hx hb d_CO_writeType_0 rfl (lv_at hl 0 rfl) ?_
  refine va_get (D := (dC, dI)) (ci := 2) (v := .ref pr) (C := R_CO) (T := F_CO) (N := 13) hx hb hts i_CO hown hK hP 0 rfl rfl 0 (by decide) (hts _ kF_CO_36) (fun _ h9 => h9) rfl d_CO_writeType_1 ?_
  refine va_get (D := (dC, dI)) (ci := 6) (v := .ref pf) (C := R_PR) (T := F_PR) (N := 19) hx hb hts i_PR hown hK hP 1 rfl rfl 3 (by decide) (hts _ kF_CO_127) (fun _ h9 => h9) rfl d_CO_writeType_4 ?_
  refine lv_iload_n hx hb d_CO_writeType_7 rfl (lv_at hl 1 rfl) ?_
  have g8 : vp_in p0 21 := vp_in_iff.mpr ⟨by (first | (apply Int.le_antisymm <;> omega) | omega), by (first | (apply Int.le_antisymm <;> omega) | omega)⟩
  refine va_iald hx hb hK hP 4 1 rfl rfl g8 d_CO_writeType_8 ?_
  refine lv_topi (fun x1 ex1 => ?_)
  have tx1 : x1.toInt = (gpf p0.toNatClampNeg).toInt := by rw [ex1]
  refine lv_istore_n (lv' := [(2, .int x1), (0, .ref h0), (1, .int p0)]) hx hb d_CO_writeType_9 rfl hl (by decide) rfl (fun ls hl => ?_)
  refine lv_aload_n hx hb d_CO_writeType_10 rfl (lv_at hl 1 rfl) ?_
  refine va_get (D := (dC, dI)) (ci := 2) (v := .ref pr) (C := R_CO) (T := F_CO) (N := 13) hx hb hts i_CO hown hK hP 0 rfl rfl 0 (by decide) (hts _ kF_CO_36) (fun _ h9 => h9) rfl d_CO_writeType_11 ?_
  refine va_get (D := (dC, dI)) (ci := 6) (v := .ref pf) (C := R_PR) (T := F_PR) (N := 19) hx hb hts i_PR hown hK hP 1 rfl rfl 3 (by decide) (hts _ kF_CO_127) (fun _ h9 => h9) rfl d_CO_writeType_14 ?_
  refine lv_iload_n hx hb d_CO_writeType_17 rfl (lv_at hl 2 rfl) ?_
  refine lv_iconst (v := 1) hx hb d_CO_writeType_18 (by decide) ?_
  refine lv_iadd hx hb d_CO_writeType_19 ?_
  refine lv_topi (fun x2 ex2 => ?_)
  have tx2 : x2.toInt = p0.toInt + 1 := by have z := i32_add ex2 (by (first | (apply Int.le_antisymm <;> omega) | omega)) (by (first | (apply Int.le_antisymm <;> omega) | omega)); first | exact z | (first | (apply Int.le_antisymm <;> omega) | omega)
  have g20 : vp_in x2 21 := vp_in_iff.mpr ⟨by (first | (apply Int.le_antisymm <;> omega) | omega), by (first | (apply Int.le_antisymm <;> omega) | omega)⟩
  refine va_iald hx hb hK hP 4 1 rfl rfl g20 d_CO_writeType_20 ?_
  refine lv_topi (fun x3 ex3 => ?_)
  have zpc_ : x2.toNatClampNeg = p0.toNatClampNeg + 1 := by have := i32_clamp (x := x2) (by (first | (apply Int.le_antisymm <;> omega) | omega)); (first | (apply Int.le_antisymm <;> omega) | omega)
  have tx3 : x3.toInt = (gpf (p0.toNatClampNeg + 1)).toInt := by rw [ex3, zpc_]
  refine lv_iload_n hx hb d_CO_writeType_21 rfl (lv_at hl 0 rfl) ?_
  refine lv_isub hx hb d_CO_writeType_22 ?_
  refine lv_topi (fun x4 ex4 => ?_)
  have tx4 : x4.toInt = x3.toInt - x1.toInt := by have z := i32_sub ex4 (by (first | (apply Int.le_antisymm <;> omega) | omega)) (by (first | (apply Int.le_antisymm <;> omega) | omega)); first | exact z | (first | (apply Int.le_antisymm <;> omega) | omega)
  have tkd : tkF gpf p0.toNatClampNeg = x4.toInt := by unfold tkF; (first | (apply Int.le_antisymm <;> omega) | omega)
  refine lv_istore_n (lv' := [(3, .int x4), (2, .int x1), (0, .ref h0), (1, .int p0)]) hx hb d_CO_writeType_23 rfl hl (by decide) rfl (fun ls hl => ?_)
  refine lv_aload_n hx hb d_CO_writeType_24 rfl (lv_at hl 2 rfl) ?_
  refine va_get (D := (dC, dI)) (ci := 2) (v := .ref se) (C := R_CO) (T := F_CO) (N := 13) hx hb hts i_CO hown hK hP 0 rfl rfl 12 (by decide) (hts _ kF_CO_33) (fun _ h9 => h9) rfl d_CO_writeType_25 ?_
  refine lv_bipush (v := 96) hx hb d_CO_writeType_28 (by decide) ?_
  have hPc := hP.sb (wq := (wz_94 se seb se_length seb cseb gseb)) [2, 3] rfl
  have hDc := hD.sb (wq := (wz_94 se seb se_length seb cseb gseb)) [2, 3] (by decide) rfl
  have hKc := hK.sb (tyq := [(cseb, .byte)]) [0] rfl
  have hFc := va_free (wc := (wz_94 se seb se_length seb cseb gseb)) hD hS hA [2, 3] rfl
  refine va_callv (va_runV (As := [.int 96]) (rest := []) ⟨hx, hb, hml, hown, hts⟩ (c_BR_put l dC dI se seb H.size cseb 8192 se_length gseb (by (first | (apply Int.le_antisymm <;> omega) | omega)) (by (first | (apply Int.le_antisymm <;> omega) | omega)) (by (first | (apply Int.le_antisymm <;> omega) | omega)) 96) (cwV 1 hts (gV kM_CO_76 kV_BR_put kS_BR_put kI_BR kC_BR_put) rfl rfl rfl (by decide +kernel) ⟨Nat.le_of_ble_eq_true rfl, Nat.le_of_ble_eq_true rfl⟩) ⟨fun a U g mk z => by obtain ⟨z0, z1, zP, zK, zD⟩ := z; exact ⟨z0, z1, zP, va_K.moved (u := U) (U := U.calling g mk a) (Vm.Alike.refl U.vm) zK, zD⟩, va_recv hKc hPc (ci := 1) (q0 := 0) rfl rfl, fun U hU hW => ⟨rfl, by rw [hU], va_P.he hU.symm hPc, va_K.moved hW.alike hKc, hDc.weaken (fun _ _ _ _ => trivial)⟩⟩ rfl rfl hl.1 rfl (lv_room (Nat.le_of_ble_eq_true rfl)) d_CO_writeType_30 ⟨(Nat.zero_le _), (Nat.zero_le _)⟩) hS (fun q _ h => hFc q h) hFc (fun u t H1 locs ht hvm hw hB hz1 hk1 hS => ?_)
  obtain ⟨n6, f7⟩ := u
  try dsimp only at hw
  have tn6 := br_put_in (by (first | (apply Int.le_antisymm <;> omega) | omega)) (by (first | (apply Int.le_antisymm <;> omega) | omega)) (by (first | (apply Int.le_antisymm <;> omega) | omega)) hw
  have bn6 := br_put_bl (by (first | (apply Int.le_antisymm <;> omega) | omega)) (by (first | (apply Int.le_antisymm <;> omega) | omega)) (by (first | (apply Int.le_antisymm <;> omega) | omega)) hw
  obtain ⟨hP1, hK1, hD1⟩ := hB
  replace hP1 := va_P.he ht hP1
  obtain ⟨hP, hD⟩ := va_join (wr := (wz_216 h0 pr kn lt h0_localCount pe h0_pendingCount h0_gives h0_depth h0_loopDepth to bo cs se pr gl fu pa pf sf pk pg pp pz pv pr_reason pr_place pr_scanner_r pr_stepCount pr_open pr_twoSides pr_waiting_r pr_waitingPlaces_r pr_waitingCount pf cpf gpf fu tr fus fuz fut fuv fu_length fut cfut gfut pa tr pas paz pat pav pa_length pat cpat gpat)) (w1 := (wz_94 se seb n6 seb cseb f7)) hP hD [2, 3] [0, 1, 4, 5, 6, 7, 8] rfl rfl (by decide) (by decide) hk1 hFc hP1 hD1
  clear hPc hDc hKc hFc hz1 hk1 hP1 hK1 hD1
  rename Heap => H
  have hP : va_P (dC, dI) cls (wz_218 h0 pr kn lt h0_localCount pe h0_pendingCount h0_gives h0_depth h0_loopDepth to bo cs se pr gl fu pa pf sf pk pg pp pz pv pr_reason pr_place pr_scanner_r pr_stepCount pr_open pr_twoSides pr_waiting_r pr_waitingPlaces_r pr_waitingCount pf cpf gpf fu tr fus fuz fut fuv fu_length fut cfut gfut pa tr pas paz pat pav pa_length pat cpat gpat se seb n6 seb cseb f7) H := hP
  have hD : va_D A (wz_218 h0 pr kn lt h0_localCount pe h0_pendingCount h0_gives h0_depth h0_loopDepth to bo cs se pr gl fu pa pf sf pk pg pp pz pv pr_reason pr_place pr_scanner_r pr_stepCount pr_open pr_twoSides pr_waiting_r pr_waitingPlaces_r pr_waitingCount pf cpf gpf fu tr fus fuz fut fuv fu_length fut cfut gfut pa tr pas paz pat pav pa_length pat cpat gpat se seb n6 seb cseb f7) := hD
  refine lv_aload_n hx hb d_CO_writeType_33 rfl (lv_at hl 2 rfl) ?_
  refine va_get (D := (dC, dI)) (ci := 2) (v := .ref se) (C := R_CO) (T := F_CO) (N := 13) hx hb hts i_CO hown hK hP 0 rfl rfl 12 (by decide) (hts _ kF_CO_33) (fun _ h9 => h9) rfl d_CO_writeType_34 ?_
  refine lv_iload_n hx hb d_CO_writeType_37 rfl (lv_at hl 0 rfl) ?_
  have hPc := hP.sb (wq := (wz_94 se seb n6 seb cseb f7)) [7, 8] rfl
  have hDc := hD.sb (wq := (wz_94 se seb n6 seb cseb f7)) [7, 8] (by decide) rfl
  have hKc := hK.sb (tyq := [(cseb, .byte)]) [0] rfl
  have hFc := va_free (wc := (wz_94 se seb n6 seb cseb f7)) hD hS hA [7, 8] rfl
  refine va_callv (va_runV (As := [.int x4]) (rest := []) ⟨hx, hb, hml, hown, hts⟩ (c_BR_putUnsigned l dC dI se seb H.size cseb 8192 n6 f7 (by (first | (apply Int.le_antisymm <;> omega) | omega)) (by (first | (apply Int.le_antisymm <;> omega) | omega)) (by (first | (apply Int.le_antisymm <;> omega) | omega)) x4 (by (first | (apply Int.le_antisymm <;> omega) | omega))) (cwV 1 hts (gV kM_CO_218 kV_BR_putUnsigned kS_BR_putUnsigned kI_BR kC_BR_putUnsigned) rfl rfl rfl (by decide +kernel) ⟨Nat.le_of_ble_eq_true rfl, Nat.le_of_ble_eq_true rfl⟩) ⟨fun a U g mk z => by obtain ⟨z0, z1, zP, zK, zD⟩ := z; exact ⟨z0, z1, zP, va_K.moved (u := U) (U := U.calling g mk a) (Vm.Alike.refl U.vm) zK, zD⟩, va_recv hKc hPc (ci := 1) (q0 := 0) rfl rfl, fun U hU hW => ⟨rfl, by rw [hU], va_P.he hU.symm hPc, va_K.moved hW.alike hKc, hDc.weaken (fun _ _ _ _ => trivial)⟩⟩ rfl rfl hl.1 rfl (lv_room (Nat.le_of_ble_eq_true rfl)) d_CO_writeType_38 ⟨(Nat.zero_le _), (Nat.zero_le _)⟩) hS (fun q _ h => hFc q h) hFc (fun u t H1 locs ht hvm hw hB hz1 hk1 hS => ?_)
  obtain ⟨n9, f10⟩ := u
  try dsimp only at hw
  obtain ⟨tn9, bn9⟩ := hw
  have ln9 := leb_len 5 (un x4)
  obtain ⟨hP1, hK1, hD1⟩ := hB
  replace hP1 := va_P.he ht hP1
  obtain ⟨hP, hD⟩ := va_join (wr := (wz_216 h0 pr kn lt h0_localCount pe h0_pendingCount h0_gives h0_depth h0_loopDepth to bo cs se pr gl fu pa pf sf pk pg pp pz pv pr_reason pr_place pr_scanner_r pr_stepCount pr_open pr_twoSides pr_waiting_r pr_waitingPlaces_r pr_waitingCount pf cpf gpf fu tr fus fuz fut fuv fu_length fut cfut gfut pa tr pas paz pat pav pa_length pat cpat gpat)) (w1 := (wz_94 se seb n9 seb cseb f10)) hP hD [7, 8] [0, 1, 2, 3, 4, 5, 6] rfl rfl (by decide) (by decide) hk1 hFc hP1 hD1
  clear hPc hDc hKc hFc hz1 hk1 hP1 hK1 hD1
  rename Heap => H
  have hP : va_P (dC, dI) cls (wz_218 h0 pr kn lt h0_localCount pe h0_pendingCount h0_gives h0_depth h0_loopDepth to bo cs se pr gl fu pa pf sf pk pg pp pz pv pr_reason pr_place pr_scanner_r pr_stepCount pr_open pr_twoSides pr_waiting_r pr_waitingPlaces_r pr_waitingCount pf cpf gpf fu tr fus fuz fut fuv fu_length fut cfut gfut pa tr pas paz pat pav pa_length pat cpat gpat se seb n9 seb cseb f10) H := hP
  have hD : va_D A (wz_218 h0 pr kn lt h0_localCount pe h0_pendingCount h0_gives h0_depth h0_loopDepth to bo cs se pr gl fu pa pf sf pk pg pp pz pv pr_reason pr_place pr_scanner_r pr_stepCount pr_open pr_twoSides pr_waiting_r pr_waitingPlaces_r pr_waitingCount pf cpf gpf fu tr fus fuz fut fuv fu_length fut cfut gfut pa tr pas paz pat pav pa_length pat cpat gpat se seb n9 seb cseb f10) := hD
  have l41 := congrArg List.length (leb_s (x := x4) (by (first | (apply Int.le_antisymm <;> omega) | omega)) (by (first | (apply Int.le_antisymm <;> omega) | omega)))
  rw [List.length_singleton] at l41
  refine lv_iconst (v := 0) hx hb d_CO_writeType_41 (by decide) ?_
  refine lv_istore (lv' := [(4, .int 0), (3, .int x4), (2, .int x1), (0, .ref h0), (1, .int p0)]) hx hb d_CO_writeType_42 hl (by decide) rfl (fun ls hl => ?_)
  refine w_loop (σ := Int32 × (Nat → Int32) × Int32) (fun u H locs ls => match u with | (j44_l4, j44_seb, j44_se_length) => (0 ≤ j44_se_length.toInt ∧ j44_se_length.toInt ≤ 8192) ∧ (0 ≤ j44_l4.toInt ∧ j44_l4.toInt ≤ x4.toInt ∧ j44_se_length.toInt = se_length.toInt + 2 + j44_l4.toInt) ∧ (∃ ps : List Nat, (ps.length : Int) = j44_l4.toInt ∧ (∀ p ∈ ps, p = 127 ∨ p = 126) ∧ bl j44_seb j44_se_length.toNatClampNeg = bl gseb se_length.toNatClampNeg ++ (96 :: x4.toInt.toNat :: ps) ∧ j44_se_length.toInt = se_length.toInt + 2 + (ps.length : Int)) ∧ va_P (dC, dI) cls (wz_218 h0 pr kn lt h0_localCount pe h0_pendingCount h0_gives h0_depth h0_loopDepth to bo cs se pr gl fu pa pf sf pk pg pp pz pv pr_reason pr_place pr_scanner_r pr_stepCount pr_open pr_twoSides pr_waiting_r pr_waitingPlaces_r pr_waitingCount pf cpf gpf fu tr fus fuz fut fuv fu_length fut cfut gfut pa tr pas paz pat pav pa_length pat cpat gpat se seb j44_se_length seb cseb j44_seb) H ∧ va_D A (wz_218 h0 pr kn lt h0_localCount pe h0_pendingCount h0_gives h0_depth h0_loopDepth to bo cs se pr gl fu pa pf sf pk pg pp pz pv pr_reason pr_place pr_scanner_r pr_stepCount pr_open pr_twoSides pr_waiting_r pr_waitingPlaces_r pr_waitingCount pf cpf gpf fu tr fus fuz fut fuv fu_length fut cfut gfut pa tr pas paz pat pav pa_length pat cpat gpat se seb j44_se_length seb cseb j44_seb) ∧ va_S A s.heap H locs ∧ lv_has ls 5 [(0, .ref h0), (1, .int p0), (2, .int x1), (3, .int x4), (4, .int j44_l4)]) (fun u => match u with | (j44_l4, j44_seb, j44_se_length) => (x4.toInt - j44_l4.toInt).toNat) ?_ (0, f10, n9) ⟨by (try dsimp only) <;> (first | (apply Int.le_antisymm <;> omega) | omega), by (try dsimp only) <;> (first | (apply Int.le_antisymm <;> omega) | omega), ⟨[], rfl, fun p hp => (by cases hp), by rw [bn9, bn6 (by (first | (apply Int.le_antisymm <;> omega) | omega)), leb_s (by (first | (apply Int.le_antisymm <;> omega) | omega)) (by (first | (apply Int.le_antisymm <;> omega) | omega)), List.append_assoc]; rfl, by (try dsimp only); rw [List.length_nil]; (first | (apply Int.le_antisymm <;> omega) | omega)⟩, hP, hD, hS, lv_sub hl [3, 4, 2, 1, 0] rfl⟩
  intro N44 ih44 u H locs ls hN44 hI
  obtain ⟨j44_l4, j44_seb, j44_se_length⟩ := u
  obtain ⟨b_j44_se_length, v1, hps, hP, hD, hS, hl⟩ := hI
  have hN44 : (x4.toInt - j44_l4.toInt).toNat < N44 + 1 := hN44
  refine lv_iload hx hb d_CO_writeType_44 (lv_at hl 4 rfl) ?_
  refine lv_iload_n hx hb d_CO_writeType_46 rfl (lv_at hl 3 rfl) ?_
  refine lv_icmp_ge (tgt := 78) hx hb d_CO_writeType_47 (by decide) (fun c47 => ?_) (fun c47 => ?_)
  · have q47 := leI c47
    refine lv_aload_n hx hb d_CO_writeType_78 rfl (lv_at hl 0 rfl) ?_
    refine va_get (D := (dC, dI)) (ci := 2) (v := .ref pr) (C := R_CO) (T := F_CO) (N := 13) hx hb hts i_CO hown hK hP 0 rfl rfl 0 (by decide) (hts _ kF_CO_36) (fun _ h9 => h9) rfl d_CO_writeType_79 ?_
    refine va_get (D := (dC, dI)) (ci := 6) (v := .ref fu) (C := R_PR) (T := F_PR) (N := 19) hx hb hts i_PR hown hK hP 1 rfl rfl 1 (by decide) (hts _ kF_CO_61) (fun _ h9 => h9) rfl d_CO_writeType_82 ?_
    refine va_get (D := (dC, dI)) (ci := 5) (v := .ref fut) (C := R_NA) (T := F_NA) (N := 6) hx hb hts i_NA hown hK hP 3 rfl rfl 3 (by decide) (hts _ kF_CO_121) (fun _ h9 => h9) rfl d_CO_writeType_85 ?_
    refine lv_iload_n hx hb d_CO_writeType_88 rfl (lv_at hl 1 rfl) ?_
    have g89 : vp_in p0 20 := vp_in_iff.mpr ⟨by (first | (apply Int.le_antisymm <;> omega) | omega), by (first | (apply Int.le_antisymm <;> omega) | omega)⟩
    refine va_iald hx hb hK hP 4 2 rfl rfl g89 d_CO_writeType_89 ?_
    refine lv_topi (fun x11 ex11 => ?_)
    have tx11 : x11.toInt = (gfut p0.toNatClampNeg).toInt := by rw [ex11]
    have ty9 := hfq.out p0.toNatClampNeg (by (first | (apply Int.le_antisymm <;> omega) | omega))
    unfold ty at ty9
    refine lv_bipush (v := 64) hx hb d_CO_writeType_90 (by decide) ?_
    refine w_cut (pc2 := 100) (σ := Int32) (fun u H locs ls => match u with | j100_s0 => (j100_s0 = 0 ∨ j100_s0 = 1) ∧ ((j100_s0 = 1 ∧ (gfut p0.toNatClampNeg).toInt ≠ 64) ∨ (j100_s0 = 0 ∧ (gfut p0.toNatClampNeg).toInt = 64)) ∧ va_P (dC, dI) cls (wz_218 h0 pr kn lt h0_localCount pe h0_pendingCount h0_gives h0_depth h0_loopDepth to bo cs se pr gl fu pa pf sf pk pg pp pz pv pr_reason pr_place pr_scanner_r pr_stepCount pr_open pr_twoSides pr_waiting_r pr_waitingPlaces_r pr_waitingCount pf cpf gpf fu tr fus fuz fut fuv fu_length fut cfut gfut pa tr pas paz pat pav pa_length pat cpat gpat se seb j44_se_length seb cseb j44_seb) H ∧ va_D A (wz_218 h0 pr kn lt h0_localCount pe h0_pendingCount h0_gives h0_depth h0_loopDepth to bo cs se pr gl fu pa pf sf pk pg pp pz pv pr_reason pr_place pr_scanner_r pr_stepCount pr_open pr_twoSides pr_waiting_r pr_waitingPlaces_r pr_waitingCount pf cpf gpf fu tr fus fuz fut fuv fu_length fut cfut gfut pa tr pas paz pat pav pa_length pat cpat gpat se seb j44_se_length seb cseb j44_seb) ∧ va_S A s.heap H locs ∧ lv_has ls 5 [(0, .ref h0), (1, .int p0)]) (fun u => match u with | j100_s0 => [.int j100_s0]) ?_ (fun jn100 => ?_)
    · intro u H locs ls hI
      obtain ⟨j100_s0, rfl⟩ : ∃ z, z = u := ⟨_, rfl⟩
      obtain ⟨b_j100_s0, y100, hP, hD, hS, hl⟩ := hI
      have tj100_s0 := b01 b_j100_s0
      refine lv_istore (lv' := [(4, .int j100_s0), (0, .ref h0), (1, .int p0)]) hx hb d_CO_writeType_100 hl (by decide) rfl (fun ls hl => ?_)
      refine lv_aload_n hx hb d_CO_writeType_102 rfl (lv_at hl 1 rfl) ?_
      refine va_get (D := (dC, dI)) (ci := 2) (v := .ref se) (C := R_CO) (T := F_CO) (N := 13) hx hb hts i_CO hown hK hP 0 rfl rfl 12 (by decide) (hts _ kF_CO_33) (fun _ h9 => h9) rfl d_CO_writeType_103 ?_
      refine lv_iload hx hb d_CO_writeType_106 (lv_at hl 0 rfl) ?_
      refine w_cut (pc2 := 116) (σ := Int32) (fun u H locs ls => match u with | j116_s0 => (j116_s0 = 0 ∨ j116_s0 = 1) ∧ ((0 ≤ j116_s0.toInt ∧ j116_s0.toInt ≤ 1) ∧ (j100_s0 ≠ 0 → bn j116_s0 = 1) ∧ (j100_s0 = 0 → bn j116_s0 = 0)) ∧ va_P (dC, dI) cls (wz_218 h0 pr kn lt h0_localCount pe h0_pendingCount h0_gives h0_depth h0_loopDepth to bo cs se pr gl fu pa pf sf pk pg pp pz pv pr_reason pr_place pr_scanner_r pr_stepCount pr_open pr_twoSides pr_waiting_r pr_waitingPlaces_r pr_waitingCount pf cpf gpf fu tr fus fuz fut fuv fu_length fut cfut gfut pa tr pas paz pat pav pa_length pat cpat gpat se seb j44_se_length seb cseb j44_seb) H ∧ va_D A (wz_218 h0 pr kn lt h0_localCount pe h0_pendingCount h0_gives h0_depth h0_loopDepth to bo cs se pr gl fu pa pf sf pk pg pp pz pv pr_reason pr_place pr_scanner_r pr_stepCount pr_open pr_twoSides pr_waiting_r pr_waitingPlaces_r pr_waitingCount pf cpf gpf fu tr fus fuz fut fuv fu_length fut cfut gfut pa tr pas paz pat pav pa_length pat cpat gpat se seb j44_se_length seb cseb j44_seb) ∧ va_S A s.heap H locs ∧ lv_has ls 5 [(0, .ref h0), (1, .int p0), (4, .int j100_s0)]) (fun u => match u with | j116_s0 => [.int j116_s0, .ref se]) ?_ (fun jn116 => ?_)
      · intro u H locs ls hI
        obtain ⟨j116_s0, rfl⟩ : ∃ z, z = u := ⟨_, rfl⟩
        obtain ⟨b_j116_s0, y116, hP, hD, hS, hl⟩ := hI
        have tj116_s0 := b01 b_j116_s0
        have hPc := hP.sb (wq := (wz_94 se seb j44_se_length seb cseb j44_seb)) [7, 8] rfl
        have hDc := hD.sb (wq := (wz_94 se seb j44_se_length seb cseb j44_seb)) [7, 8] (by decide) rfl
        have hKc := hK.sb (tyq := [(cseb, .byte)]) [0] rfl
        have hFc := va_free (wc := (wz_94 se seb j44_se_length seb cseb j44_seb)) hD hS hA [7, 8] rfl
        refine va_callv (va_runV (As := [.int j116_s0]) (rest := []) ⟨hx, hb, hml, hown, hts⟩ (c_BR_put l dC dI se seb H.size cseb 8192 j44_se_length j44_seb (by (first | (apply Int.le_antisymm <;> omega) | omega)) (by (first | (apply Int.le_antisymm <;> omega) | omega)) (by (first | (apply Int.le_antisymm <;> omega) | omega)) j116_s0) (cwV 1 hts (gV kM_CO_76 kV_BR_put kS_BR_put kI_BR kC_BR_put) rfl rfl rfl (by decide +kernel) ⟨Nat.le_of_ble_eq_true rfl, Nat.le_of_ble_eq_true rfl⟩) ⟨fun a U g mk z => by obtain ⟨z0, z1, zP, zK, zD⟩ := z; exact ⟨z0, z1, zP, va_K.moved (u := U) (U := U.calling g mk a) (Vm.Alike.refl U.vm) zK, zD⟩, va_recv hKc hPc (ci := 1) (q0 := 0) rfl rfl, fun U hU hW => ⟨rfl, by rw [hU], va_P.he hU.symm hPc, va_K.moved hW.alike hKc, hDc.weaken (fun _ _ _ _ => trivial)⟩⟩ rfl rfl hl.1 rfl (lv_room (Nat.le_of_ble_eq_true rfl)) d_CO_writeType_116 ⟨(Nat.zero_le _), (Nat.zero_le _)⟩) hS (fun q _ h => hFc q h) hFc (fun u t H1 locs ht hvm hw hB hz1 hk1 hS => ?_)
        obtain ⟨n13, f14⟩ := u
        try dsimp only at hw
        have tn13 := br_put_in (by (first | (apply Int.le_antisymm <;> omega) | omega)) (by (first | (apply Int.le_antisymm <;> omega) | omega)) (by (first | (apply Int.le_antisymm <;> omega) | omega)) hw
        have bn13 := br_put_bl (by (first | (apply Int.le_antisymm <;> omega) | omega)) (by (first | (apply Int.le_antisymm <;> omega) | omega)) (by (first | (apply Int.le_antisymm <;> omega) | omega)) hw
        obtain ⟨hP1, hK1, hD1⟩ := hB
        replace hP1 := va_P.he ht hP1
        obtain ⟨hP, hD⟩ := va_join (wr := (wz_216 h0 pr kn lt h0_localCount pe h0_pendingCount h0_gives h0_depth h0_loopDepth to bo cs se pr gl fu pa pf sf pk pg pp pz pv pr_reason pr_place pr_scanner_r pr_stepCount pr_open pr_twoSides pr_waiting_r pr_waitingPlaces_r pr_waitingCount pf cpf gpf fu tr fus fuz fut fuv fu_length fut cfut gfut pa tr pas paz pat pav pa_length pat cpat gpat)) (w1 := (wz_94 se seb n13 seb cseb f14)) hP hD [7, 8] [0, 1, 2, 3, 4, 5, 6] rfl rfl (by decide) (by decide) hk1 hFc hP1 hD1
        clear hPc hDc hKc hFc hz1 hk1 hP1 hK1 hD1
        rename Heap => H
        have hP : va_P (dC, dI) cls (wz_218 h0 pr kn lt h0_localCount pe h0_pendingCount h0_gives h0_depth h0_loopDepth to bo cs se pr gl fu pa pf sf pk pg pp pz pv pr_reason pr_place pr_scanner_r pr_stepCount pr_open pr_twoSides pr_waiting_r pr_waitingPlaces_r pr_waitingCount pf cpf gpf fu tr fus fuz fut fuv fu_length fut cfut gfut pa tr pas paz pat pav pa_length pat cpat gpat se seb n13 seb cseb f14) H := hP
        have hD : va_D A (wz_218 h0 pr kn lt h0_localCount pe h0_pendingCount h0_gives h0_depth h0_loopDepth to bo cs se pr gl fu pa pf sf pk pg pp pz pv pr_reason pr_place pr_scanner_r pr_stepCount pr_open pr_twoSides pr_waiting_r pr_waitingPlaces_r pr_waitingCount pf cpf gpf fu tr fus fuz fut fuv fu_length fut cfut gfut pa tr pas paz pat pav pa_length pat cpat gpat se seb n13 seb cseb f14) := hD
        refine lv_iload hx hb d_CO_writeType_119 (lv_at hl 2 rfl) ?_
        refine lv_if_eq (tgt := 143) hx hb d_CO_writeType_121 (by decide) (fun c121 => ?_) (fun c121 => ?_)
        · have q121 := eqI c121
          have k143 : (gfut p0.toNatClampNeg).toInt = 64 := by rcases y100 with z | z; (exfalso; rw [z.1] at c121; exact absurd c121 (by decide)); exact z.2
          have hP9 := hP.sb (wq := (wz_217 h0 pr kn lt h0_localCount pe h0_pendingCount h0_gives h0_depth h0_loopDepth to bo cs se pr gl fu pa pf sf pk pg pp pz pv pr_reason pr_place pr_scanner_r pr_stepCount pr_open pr_twoSides pr_waiting_r pr_waitingPlaces_r pr_waitingCount se seb n13 seb cseb f14 pf cpf gpf fu tr fus fuz fut fuv fu_length fut cfut gfut pa tr pas paz pat pav pa_length pat cpat gpat)) [0, 1, 7, 8, 2, 3, 4, 5, 6] rfl
          have hD9 := hD.sb (wq := (wz_217 h0 pr kn lt h0_localCount pe h0_pendingCount h0_gives h0_depth h0_loopDepth to bo cs se pr gl fu pa pf sf pk pg pp pz pv pr_reason pr_place pr_scanner_r pr_stepCount pr_open pr_twoSides pr_waiting_r pr_waitingPlaces_r pr_waitingCount se seb n13 seb cseb f14 pf cpf gpf fu tr fus fuz fut fuv fu_length fut cfut gfut pa tr pas paz pat pav pa_length pat cpat gpat)) [0, 1, 7, 8, 2, 3, 4, 5, 6] (by decide) rfl
          exact W.vret hx hb hr (fun t ht hW => ⟨⟨(f14, n13), rfl, ⟨by (try dsimp only) <;> (first | (apply Int.le_antisymm <;> omega) | omega), (by obtain ⟨ps, y1, y2, y3, y4⟩ := hps; refine ⟨tyb ps (gfut p0.toNatClampNeg).toInt.toNat, ⟨ps, by rw [tkd]; (first | (apply Int.le_antisymm <;> omega) | omega), y2, rfl⟩, ?_, ?_⟩; (unfold tyb; rw [if_pos (by (first | (apply Int.le_antisymm <;> omega) | omega))]; simp only [List.length_cons, List.length_append, List.length_nil]; (try dsimp only) <;> (first | (apply Int.le_antisymm <;> omega) | omega)); ((try dsimp only); rw [bn13 (by (first | (apply Int.le_antisymm <;> omega) | omega)), y3, y116.2.2 c121]; unfold tyb; rw [if_pos (by (first | (apply Int.le_antisymm <;> omega) | omega)), show x4.toInt.toNat = ps.length from by (first | (apply Int.le_antisymm <;> omega) | omega)]; simp only [List.append_assoc, List.cons_append]; (try rfl)))⟩, va_P.he ht.symm hP9, va_K.moved hW.alike hK, hD9⟩, hS.F ht⟩) hS.2.2 d_CO_writeType_143
        · have q121 := neI c121
          have k124 : (gfut p0.toNatClampNeg).toInt ≠ 64 := by rcases y100 with z | z; exact z.2; (exfalso; rw [z.1] at q121; exact q121 rfl)
          refine lv_aload_n hx hb d_CO_writeType_124 rfl (lv_at hl 0 rfl) ?_
          refine va_get (D := (dC, dI)) (ci := 2) (v := .ref se) (C := R_CO) (T := F_CO) (N := 13) hx hb hts i_CO hown hK hP 0 rfl rfl 12 (by decide) (hts _ kF_CO_33) (fun _ h9 => h9) rfl d_CO_writeType_125 ?_
          refine lv_aload_n hx hb d_CO_writeType_128 rfl (lv_at hl 0 rfl) ?_
          refine va_get (D := (dC, dI)) (ci := 2) (v := .ref pr) (C := R_CO) (T := F_CO) (N := 13) hx hb hts i_CO hown hK hP 0 rfl rfl 0 (by decide) (hts _ kF_CO_36) (fun _ h9 => h9) rfl d_CO_writeType_129 ?_
          refine va_get (D := (dC, dI)) (ci := 6) (v := .ref fu) (C := R_PR) (T := F_PR) (N := 19) hx hb hts i_PR hown hK hP 1 rfl rfl 1 (by decide) (hts _ kF_CO_61) (fun _ h9 => h9) rfl d_CO_writeType_132 ?_
          refine va_get (D := (dC, dI)) (ci := 5) (v := .ref fut) (C := R_NA) (T := F_NA) (N := 6) hx hb hts i_NA hown hK hP 3 rfl rfl 3 (by decide) (hts _ kF_CO_121) (fun _ h9 => h9) rfl d_CO_writeType_135 ?_
          refine lv_iload_n hx hb d_CO_writeType_138 rfl (lv_at hl 1 rfl) ?_
          have g139 : vp_in p0 20 := vp_in_iff.mpr ⟨by (first | (apply Int.le_antisymm <;> omega) | omega), by (first | (apply Int.le_antisymm <;> omega) | omega)⟩
          refine va_iald hx hb hK hP 4 2 rfl rfl g139 d_CO_writeType_139 ?_
          refine lv_topi (fun x15 ex15 => ?_)
          have tx15 : x15.toInt = (gfut p0.toNatClampNeg).toInt := by rw [ex15]
          have hPc := hP.sb (wq := (wz_94 se seb n13 seb cseb f14)) [7, 8] rfl
          have hDc := hD.sb (wq := (wz_94 se seb n13 seb cseb f14)) [7, 8] (by decide) rfl
          have hKc := hK.sb (tyq := [(cseb, .byte)]) [0] rfl
          have hFc := va_free (wc := (wz_94 se seb n13 seb cseb f14)) hD hS hA [7, 8] rfl
          refine va_callv (va_runV (As := [.int x15]) (rest := []) ⟨hx, hb, hml, hown, hts⟩ (c_BR_put l dC dI se seb H.size cseb 8192 n13 f14 (by (first | (apply Int.le_antisymm <;> omega) | omega)) (by (first | (apply Int.le_antisymm <;> omega) | omega)) (by (first | (apply Int.le_antisymm <;> omega) | omega)) x15) (cwV 1 hts (gV kM_CO_76 kV_BR_put kS_BR_put kI_BR kC_BR_put) rfl rfl rfl (by decide +kernel) ⟨Nat.le_of_ble_eq_true rfl, Nat.le_of_ble_eq_true rfl⟩) ⟨fun a U g mk z => by obtain ⟨z0, z1, zP, zK, zD⟩ := z; exact ⟨z0, z1, zP, va_K.moved (u := U) (U := U.calling g mk a) (Vm.Alike.refl U.vm) zK, zD⟩, va_recv hKc hPc (ci := 1) (q0 := 0) rfl rfl, fun U hU hW => ⟨rfl, by rw [hU], va_P.he hU.symm hPc, va_K.moved hW.alike hKc, hDc.weaken (fun _ _ _ _ => trivial)⟩⟩ rfl rfl hl.1 rfl (lv_room (Nat.le_of_ble_eq_true rfl)) d_CO_writeType_140 ⟨(Nat.zero_le _), (Nat.zero_le _)⟩) hS (fun q _ h => hFc q h) hFc (fun u t H1 locs ht hvm hw hB hz1 hk1 hS => ?_)
          obtain ⟨n17, f18⟩ := u
          try dsimp only at hw
          have tn17 := br_put_in (by (first | (apply Int.le_antisymm <;> omega) | omega)) (by (first | (apply Int.le_antisymm <;> omega) | omega)) (by (first | (apply Int.le_antisymm <;> omega) | omega)) hw
          have bn17 := br_put_bl (by (first | (apply Int.le_antisymm <;> omega) | omega)) (by (first | (apply Int.le_antisymm <;> omega) | omega)) (by (first | (apply Int.le_antisymm <;> omega) | omega)) hw
          obtain ⟨hP1, hK1, hD1⟩ := hB
          replace hP1 := va_P.he ht hP1
          obtain ⟨hP, hD⟩ := va_join (wr := (wz_216 h0 pr kn lt h0_localCount pe h0_pendingCount h0_gives h0_depth h0_loopDepth to bo cs se pr gl fu pa pf sf pk pg pp pz pv pr_reason pr_place pr_scanner_r pr_stepCount pr_open pr_twoSides pr_waiting_r pr_waitingPlaces_r pr_waitingCount pf cpf gpf fu tr fus fuz fut fuv fu_length fut cfut gfut pa tr pas paz pat pav pa_length pat cpat gpat)) (w1 := (wz_94 se seb n17 seb cseb f18)) hP hD [7, 8] [0, 1, 2, 3, 4, 5, 6] rfl rfl (by decide) (by decide) hk1 hFc hP1 hD1
          clear hPc hDc hKc hFc hz1 hk1 hP1 hK1 hD1
          rename Heap => H
          have hP : va_P (dC, dI) cls (wz_218 h0 pr kn lt h0_localCount pe h0_pendingCount h0_gives h0_depth h0_loopDepth to bo cs se pr gl fu pa pf sf pk pg pp pz pv pr_reason pr_place pr_scanner_r pr_stepCount pr_open pr_twoSides pr_waiting_r pr_waitingPlaces_r pr_waitingCount pf cpf gpf fu tr fus fuz fut fuv fu_length fut cfut gfut pa tr pas paz pat pav pa_length pat cpat gpat se seb n17 seb cseb f18) H := hP
          have hD : va_D A (wz_218 h0 pr kn lt h0_localCount pe h0_pendingCount h0_gives h0_depth h0_loopDepth to bo cs se pr gl fu pa pf sf pk pg pp pz pv pr_reason pr_place pr_scanner_r pr_stepCount pr_open pr_twoSides pr_waiting_r pr_waitingPlaces_r pr_waitingCount pf cpf gpf fu tr fus fuz fut fuv fu_length fut cfut gfut pa tr pas paz pat pav pa_length pat cpat gpat se seb n17 seb cseb f18) := hD
          have hP9 := hP.sb (wq := (wz_217 h0 pr kn lt h0_localCount pe h0_pendingCount h0_gives h0_depth h0_loopDepth to bo cs se pr gl fu pa pf sf pk pg pp pz pv pr_reason pr_place pr_scanner_r pr_stepCount pr_open pr_twoSides pr_waiting_r pr_waitingPlaces_r pr_waitingCount se seb n17 seb cseb f18 pf cpf gpf fu tr fus fuz fut fuv fu_length fut cfut gfut pa tr pas paz pat pav pa_length pat cpat gpat)) [0, 1, 7, 8, 2, 3, 4, 5, 6] rfl
          have hD9 := hD.sb (wq := (wz_217 h0 pr kn lt h0_localCount pe h0_pendingCount h0_gives h0_depth h0_loopDepth to bo cs se pr gl fu pa pf sf pk pg pp pz pv pr_reason pr_place pr_scanner_r pr_stepCount pr_open pr_twoSides pr_waiting_r pr_waitingPlaces_r pr_waitingCount se seb n17 seb cseb f18 pf cpf gpf fu tr fus fuz fut fuv fu_length fut cfut gfut pa tr pas paz pat pav pa_length pat cpat gpat)) [0, 1, 7, 8, 2, 3, 4, 5, 6] (by decide) rfl
          exact W.vret hx hb hr (fun t ht hW => ⟨⟨(f18, n17), rfl, ⟨by (try dsimp only) <;> (first | (apply Int.le_antisymm <;> omega) | omega), (by obtain ⟨ps, y1, y2, y3, y4⟩ := hps; refine ⟨tyb ps (gfut p0.toNatClampNeg).toInt.toNat, ⟨ps, by rw [tkd]; (first | (apply Int.le_antisymm <;> omega) | omega), y2, rfl⟩, ?_, ?_⟩; (unfold tyb; rw [if_neg (by (first | (apply Int.le_antisymm <;> omega) | omega))]; simp only [List.length_cons, List.length_append, List.length_nil]; (try dsimp only) <;> (first | (apply Int.le_antisymm <;> omega) | omega)); ((try dsimp only); rw [bn17 (by (first | (apply Int.le_antisymm <;> omega) | omega)), bn13 (by (first | (apply Int.le_antisymm <;> omega) | omega)), y3, y116.2.1 (fun z => q121 (by rw [z])), bn_s (x := x15) (by (first | (apply Int.le_antisymm <;> omega) | omega)) (by (first | (apply Int.le_antisymm <;> omega) | omega))]; unfold tyb; rw [if_neg (by (first | (apply Int.le_antisymm <;> omega) | omega)), show x4.toInt.toNat = ps.length from by (first | (apply Int.le_antisymm <;> omega) | omega), show x15.toInt = (gfut p0.toNatClampNeg).toInt from by rw [ex15]]; simp only [List.append_assoc, List.cons_append]; (try rfl)))⟩, va_P.he ht.symm hP9, va_K.moved hW.alike hK, hD9⟩, hS.F ht⟩) hS.2.2 d_CO_writeType_143
      · skip
        refine lv_if_eq (tgt := 115) hx hb d_CO_writeType_108 (by decide) (fun c108 => ?_) (fun c108 => ?_)
        · have q108 := eqI c108
          refine lv_iconst (v := 0) hx hb d_CO_writeType_115 (by decide) ?_
          exact jn116 0 _ _ _ ⟨Or.inl rfl, ⟨by decide, fun z => absurd c108 z, fun _ => rfl⟩, hP, hD, hS, lv_sub hl [1, 2, 0] rfl⟩
        · have q108 := neI c108
          refine lv_iconst (v := 1) hx hb d_CO_writeType_111 (by decide) ?_
          refine lv_goto (tgt := 116) hx hb d_CO_writeType_112 (by decide) ?_
          exact jn116 1 _ _ _ ⟨Or.inr rfl, ⟨by decide, fun _ => rfl, fun z => absurd (congrArg Int32.toInt z) q108⟩, hP, hD, hS, lv_sub hl [1, 2, 0] rfl⟩
    · skip
      refine lv_icmp_eq (tgt := 99) hx hb d_CO_writeType_92 (by decide) (fun c92 => ?_) (fun c92 => ?_)
      · have q92 := eqI c92
        refine lv_iconst (v := 0) hx hb d_CO_writeType_99 (by decide) ?_
        exact jn100 0 _ _ _ ⟨Or.inl rfl, Or.inr ⟨rfl, by (first | (apply Int.le_antisymm <;> omega) | omega)⟩, hP, hD, hS, lv_sub hl [0, 1] rfl⟩
      · have q92 := neI c92
        refine lv_iconst (v := 1) hx hb d_CO_writeType_95 (by decide) ?_
        refine lv_goto (tgt := 100) hx hb d_CO_writeType_96 (by decide) ?_
        exact jn100 1 _ _ _ ⟨Or.inr rfl, Or.inl ⟨rfl, by (first | (apply Int.le_antisymm <;> omega) | omega)⟩, hP, hD, hS, lv_sub hl [0, 1] rfl⟩
  · have q47 := nleI c47
    refine lv_aload_n hx hb d_CO_writeType_50 rfl (lv_at hl 0 rfl) ?_
    refine va_get (D := (dC, dI)) (ci := 2) (v := .ref se) (C := R_CO) (T := F_CO) (N := 13) hx hb hts i_CO hown hK hP 0 rfl rfl 12 (by decide) (hts _ kF_CO_33) (fun _ h9 => h9) rfl d_CO_writeType_51 ?_
    refine lv_aload_n hx hb d_CO_writeType_54 rfl (lv_at hl 0 rfl) ?_
    refine va_get (D := (dC, dI)) (ci := 2) (v := .ref pr) (C := R_CO) (T := F_CO) (N := 13) hx hb hts i_CO hown hK hP 0 rfl rfl 0 (by decide) (hts _ kF_CO_36) (fun _ h9 => h9) rfl d_CO_writeType_55 ?_
    refine va_get (D := (dC, dI)) (ci := 6) (v := .ref pa) (C := R_PR) (T := F_PR) (N := 19) hx hb hts i_PR hown hK hP 1 rfl rfl 2 (by decide) (hts _ kF_CO_130) (fun _ h9 => h9) rfl d_CO_writeType_58 ?_
    refine va_get (D := (dC, dI)) (ci := 5) (v := .ref pat) (C := R_NA) (T := F_NA) (N := 6) hx hb hts i_NA hown hK hP 5 rfl rfl 3 (by decide) (hts _ kF_CO_121) (fun _ h9 => h9) rfl d_CO_writeType_61 ?_
    refine lv_iload_n hx hb d_CO_writeType_64 rfl (lv_at hl 2 rfl) ?_
    refine lv_iload hx hb d_CO_writeType_65 (lv_at hl 4 rfl) ?_
    refine lv_iadd hx hb d_CO_writeType_67 ?_
    refine lv_topi (fun x19 ex19 => ?_)
    have tx19 : x19.toInt = x1.toInt + j44_l4.toInt := by have z := i32_add ex19 (by (first | (apply Int.le_antisymm <;> omega) | omega)) (by (first | (apply Int.le_antisymm <;> omega) | omega)); first | exact z | (first | (apply Int.le_antisymm <;> omega) | omega)
    have g68 : vp_in x19 160 := vp_in_iff.mpr ⟨by (first | (apply Int.le_antisymm <;> omega) | omega), by (first | (apply Int.le_antisymm <;> omega) | omega)⟩
    refine va_iald hx hb hK hP 6 3 rfl rfl g68 d_CO_writeType_68 ?_
    refine lv_topi (fun x20 ex20 => ?_)
    have tx20 := hpq.out x19.toNatClampNeg (by have := i32_clamp (x := x19) (by (first | (apply Int.le_antisymm <;> omega) | omega)); (first | (apply Int.le_antisymm <;> omega) | omega))
    rw [← ex20] at tx20
    have hPc := hP.sb (wq := (wz_94 se seb j44_se_length seb cseb j44_seb)) [7, 8] rfl
    have hDc := hD.sb (wq := (wz_94 se seb j44_se_length seb cseb j44_seb)) [7, 8] (by decide) rfl
    have hKc := hK.sb (tyq := [(cseb, .byte)]) [0] rfl
    have hFc := va_free (wc := (wz_94 se seb j44_se_length seb cseb j44_seb)) hD hS hA [7, 8] rfl
    refine va_callv (va_runV (As := [.int x20]) (rest := []) ⟨hx, hb, hml, hown, hts⟩ (c_BR_put l dC dI se seb H.size cseb 8192 j44_se_length j44_seb (by (first | (apply Int.le_antisymm <;> omega) | omega)) (by (first | (apply Int.le_antisymm <;> omega) | omega)) (by (first | (apply Int.le_antisymm <;> omega) | omega)) x20) (cwV 1 hts (gV kM_CO_76 kV_BR_put kS_BR_put kI_BR kC_BR_put) rfl rfl rfl (by decide +kernel) ⟨Nat.le_of_ble_eq_true rfl, Nat.le_of_ble_eq_true rfl⟩) ⟨fun a U g mk z => by obtain ⟨z0, z1, zP, zK, zD⟩ := z; exact ⟨z0, z1, zP, va_K.moved (u := U) (U := U.calling g mk a) (Vm.Alike.refl U.vm) zK, zD⟩, va_recv hKc hPc (ci := 1) (q0 := 0) rfl rfl, fun U hU hW => ⟨rfl, by rw [hU], va_P.he hU.symm hPc, va_K.moved hW.alike hKc, hDc.weaken (fun _ _ _ _ => trivial)⟩⟩ rfl rfl hl.1 rfl (lv_room (Nat.le_of_ble_eq_true rfl)) d_CO_writeType_69 ⟨(Nat.zero_le _), (Nat.zero_le _)⟩) hS (fun q _ h => hFc q h) hFc (fun u t H1 locs ht hvm hw hB hz1 hk1 hS => ?_)
    obtain ⟨n22, f23⟩ := u
    try dsimp only at hw
    have tn22 := br_put_in (by (first | (apply Int.le_antisymm <;> omega) | omega)) (by (first | (apply Int.le_antisymm <;> omega) | omega)) (by (first | (apply Int.le_antisymm <;> omega) | omega)) hw
    have bn22 := br_put_bl (by (first | (apply Int.le_antisymm <;> omega) | omega)) (by (first | (apply Int.le_antisymm <;> omega) | omega)) (by (first | (apply Int.le_antisymm <;> omega) | omega)) hw
    obtain ⟨hP1, hK1, hD1⟩ := hB
    replace hP1 := va_P.he ht hP1
    obtain ⟨hP, hD⟩ := va_join (wr := (wz_216 h0 pr kn lt h0_localCount pe h0_pendingCount h0_gives h0_depth h0_loopDepth to bo cs se pr gl fu pa pf sf pk pg pp pz pv pr_reason pr_place pr_scanner_r pr_stepCount pr_open pr_twoSides pr_waiting_r pr_waitingPlaces_r pr_waitingCount pf cpf gpf fu tr fus fuz fut fuv fu_length fut cfut gfut pa tr pas paz pat pav pa_length pat cpat gpat)) (w1 := (wz_94 se seb n22 seb cseb f23)) hP hD [7, 8] [0, 1, 2, 3, 4, 5, 6] rfl rfl (by decide) (by decide) hk1 hFc hP1 hD1
    clear hPc hDc hKc hFc hz1 hk1 hP1 hK1 hD1
    rename Heap => H
    have hP : va_P (dC, dI) cls (wz_218 h0 pr kn lt h0_localCount pe h0_pendingCount h0_gives h0_depth h0_loopDepth to bo cs se pr gl fu pa pf sf pk pg pp pz pv pr_reason pr_place pr_scanner_r pr_stepCount pr_open pr_twoSides pr_waiting_r pr_waitingPlaces_r pr_waitingCount pf cpf gpf fu tr fus fuz fut fuv fu_length fut cfut gfut pa tr pas paz pat pav pa_length pat cpat gpat se seb n22 seb cseb f23) H := hP
    have hD : va_D A (wz_218 h0 pr kn lt h0_localCount pe h0_pendingCount h0_gives h0_depth h0_loopDepth to bo cs se pr gl fu pa pf sf pk pg pp pz pv pr_reason pr_place pr_scanner_r pr_stepCount pr_open pr_twoSides pr_waiting_r pr_waitingPlaces_r pr_waitingCount pf cpf gpf fu tr fus fuz fut fuv fu_length fut cfut gfut pa tr pas paz pat pav pa_length pat cpat gpat se seb n22 seb cseb f23) := hD
    obtain ⟨x24, ex24⟩ : ∃ z : Int32, z = j44_l4 + 1 := ⟨_, rfl⟩
    have tx24 : x24.toInt = j44_l4.toInt + 1 := by have z := i32_add ex24 (by (first | (apply Int.le_antisymm <;> omega) | omega)) (by (first | (apply Int.le_antisymm <;> omega) | omega)); first | exact z | (first | (apply Int.le_antisymm <;> omega) | omega)
    refine lv_iinc (v := x24) (lv' := [(4, .int x24), (0, .ref h0), (1, .int p0), (2, .int x1), (3, .int x4)]) hx hb d_CO_writeType_72 hl (k := 4) rfl (by rw [ex24]; rfl) (by decide) rfl (fun ls hl => ?_)
    refine lv_goto (tgt := 44) hx hb d_CO_writeType_75 (by decide) ?_
    exact ih44 (x24, f23, n22) _ _ _ (by show (x4.toInt - x24.toInt).toNat < N44; (first | (apply Int.le_antisymm <;> omega) | omega)) ⟨by (try dsimp only) <;> (first | (apply Int.le_antisymm <;> omega) | omega), by (try dsimp only) <;> (first | (apply Int.le_antisymm <;> omega) | omega), (by obtain ⟨ps, y1, y2, y3, y4⟩ := hps; exact ⟨ps ++ [x20.toInt.toNat], by rw [List.length_append, List.length_singleton]; (first | (apply Int.le_antisymm <;> omega) | omega), fun p hp => by rcases List.mem_append.mp hp with z | z; exact y2 p z; (rw [List.mem_singleton.mp z]; (first | (apply Int.le_antisymm <;> omega) | omega)), by rw [bn22 (by (first | (apply Int.le_antisymm <;> omega) | omega)), y3, bn_s (by (first | (apply Int.le_antisymm <;> omega) | omega)) (by (first | (apply Int.le_antisymm <;> omega) | omega))]; simp only [List.append_assoc, List.cons_append], by rw [List.length_append, List.length_singleton]; (first | (apply Int.le_antisymm <;> omega) | omega)⟩), hP, hD, hS, lv_sub hl [1, 2, 3, 4, 0] rfl⟩
end q_79
section q_80
/-! Coder: the types -/
theorem isT_len {tk : Nat → Int} {ft : Nat → Int32} {r : Nat} {e : List Nat} (h : isT tk ft r e) : (e.length : Int) ≤ 4 + tk r := by
  obtain ⟨ps, h1, -, h3⟩ := h
  rw [h3]
  unfold tyb
  rw [List.length_cons, List.length_cons, List.length_append]
  split
  · rw [List.length_singleton]; (first | (apply Int.le_antisymm <;> omega) | omega)
  · rw [List.length_cons, List.length_singleton]; (first | (apply Int.le_antisymm <;> omega) | omega)
abbrev b_CO_writeTypes : ByteArray := prog_4_method_21_code
def y_CO_writeTypes : MethodName := ⟨R_CO, "writeTypes", "(LWaferForge$ByteRow;)V"⟩
abbrev w_CO_writeTypes : List Cond := .code y_CO_writeTypes b_CO_writeTypes 5 none :: lw_g
theorem kC_CO_writeTypes : Cond.code y_CO_writeTypes b_CO_writeTypes 5 none ∈ lw_g := in_c6 26 rfl rfl
theorem d_CO_writeTypes_0 : decode b_CO_writeTypes 0 = .ok (.iconst 0, 1) := bz_c3 (by decide +kernel)
theorem d_CO_writeTypes_1 : decode b_CO_writeTypes 1 = .ok (.istore_n 2, 1) := bz_c61 (by decide +kernel)
theorem d_CO_writeTypes_2 : decode b_CO_writeTypes 2 = .ok (.iconst 0, 1) := bz_c3 (by decide +kernel)
theorem d_CO_writeTypes_3 : decode b_CO_writeTypes 3 = .ok (.istore_n 3, 1) := bz_c62 (by decide +kernel)
theorem d_CO_writeTypes_4 : decode b_CO_writeTypes 4 = .ok (.iload_n 3, 1) := bz_c29 (by decide +kernel)
theorem d_CO_writeTypes_5 : decode b_CO_writeTypes 5 = .ok (.aload_n 0, 1) := bz_c42 (by decide +kernel)
theorem d_CO_writeTypes_6 : decode b_CO_writeTypes 6 = .ok (.getfield 36, 3) := bz_c180 (by decide +kernel)
theorem d_CO_writeTypes_9 : decode b_CO_writeTypes 9 = .ok (.getfield 61, 3) := bz_c180 (by decide +kernel)
theorem d_CO_writeTypes_12 : decode b_CO_writeTypes 12 = .ok (.getfield 68, 3) := bz_c180 (by decide +kernel)
theorem d_CO_writeTypes_15 : decode b_CO_writeTypes 15 = .ok (.if_icmp .ge 68, 3) := bz_c162 (by decide +kernel)
theorem d_CO_writeTypes_18 : decode b_CO_writeTypes 18 = .ok (.aload_n 0, 1) := bz_c42 (by decide +kernel)
theorem d_CO_writeTypes_19 : decode b_CO_writeTypes 19 = .ok (.getfield 18, 3) := bz_c180 (by decide +kernel)
theorem d_CO_writeTypes_22 : decode b_CO_writeTypes 22 = .ok (.iload_n 3, 1) := bz_c29 (by decide +kernel)
theorem d_CO_writeTypes_23 : decode b_CO_writeTypes 23 = .ok (.iload_n 2, 1) := bz_c28 (by decide +kernel)
theorem d_CO_writeTypes_24 : decode b_CO_writeTypes 24 = .ok (.iastore, 1) := bz_c79 (by decide +kernel)
theorem d_CO_writeTypes_25 : decode b_CO_writeTypes 25 = .ok (.iload_n 3, 1) := bz_c29 (by decide +kernel)
theorem d_CO_writeTypes_26 : decode b_CO_writeTypes 26 = .ok (.iconst 1, 1) := bz_c4 (by decide +kernel)
theorem d_CO_writeTypes_27 : decode b_CO_writeTypes 27 = .ok (.isub, 1) := bz_c100 (by decide +kernel)
theorem d_CO_writeTypes_28 : decode b_CO_writeTypes 28 = .ok (.istore 4, 2) := bz_c54 (by decide +kernel)
theorem d_CO_writeTypes_30 : decode b_CO_writeTypes 30 = .ok (.iload 4, 2) := bz_c21 (by decide +kernel)
theorem d_CO_writeTypes_32 : decode b_CO_writeTypes 32 = .ok (.ifCond .lt 32, 3) := bz_c155 (by decide +kernel)
theorem d_CO_writeTypes_35 : decode b_CO_writeTypes 35 = .ok (.aload_n 0, 1) := bz_c42 (by decide +kernel)
theorem d_CO_writeTypes_36 : decode b_CO_writeTypes 36 = .ok (.iload_n 3, 1) := bz_c29 (by decide +kernel)
theorem d_CO_writeTypes_37 : decode b_CO_writeTypes 37 = .ok (.iload 4, 2) := bz_c21 (by decide +kernel)
theorem d_CO_writeTypes_39 : decode b_CO_writeTypes 39 = .ok (.invokevirtual 292, 3) := bz_c182 (by decide +kernel)
theorem d_CO_writeTypes_42 : decode b_CO_writeTypes 42 = .ok (.ifCond .eq 16, 3) := bz_c153 (by decide +kernel)
theorem d_CO_writeTypes_45 : decode b_CO_writeTypes 45 = .ok (.aload_n 0, 1) := bz_c42 (by decide +kernel)
theorem d_CO_writeTypes_46 : decode b_CO_writeTypes 46 = .ok (.getfield 18, 3) := bz_c180 (by decide +kernel)
theorem d_CO_writeTypes_49 : decode b_CO_writeTypes 49 = .ok (.iload_n 3, 1) := bz_c29 (by decide +kernel)
theorem d_CO_writeTypes_50 : decode b_CO_writeTypes 50 = .ok (.aload_n 0, 1) := bz_c42 (by decide +kernel)
theorem d_CO_writeTypes_51 : decode b_CO_writeTypes 51 = .ok (.getfield 18, 3) := bz_c180 (by decide +kernel)
theorem d_CO_writeTypes_54 : decode b_CO_writeTypes 54 = .ok (.iload 4, 2) := bz_c21 (by decide +kernel)
theorem d_CO_writeTypes_56 : decode b_CO_writeTypes 56 = .ok (.iaload, 1) := bz_c46 (by decide +kernel)
theorem d_CO_writeTypes_57 : decode b_CO_writeTypes 57 = .ok (.iastore, 1) := bz_c79 (by decide +kernel)
theorem d_CO_writeTypes_58 : decode b_CO_writeTypes 58 = .ok (.iinc 4 (-1), 3) := by decide +kernel
theorem d_CO_writeTypes_61 : decode b_CO_writeTypes 61 = .ok (.goto (-31), 3) := bz_c167 (by decide +kernel)
theorem d_CO_writeTypes_64 : decode b_CO_writeTypes 64 = .ok (.aload_n 0, 1) := bz_c42 (by decide +kernel)
theorem d_CO_writeTypes_65 : decode b_CO_writeTypes 65 = .ok (.getfield 18, 3) := bz_c180 (by decide +kernel)
theorem d_CO_writeTypes_68 : decode b_CO_writeTypes 68 = .ok (.iload_n 3, 1) := bz_c29 (by decide +kernel)
theorem d_CO_writeTypes_69 : decode b_CO_writeTypes 69 = .ok (.iaload, 1) := bz_c46 (by decide +kernel)
theorem d_CO_writeTypes_70 : decode b_CO_writeTypes 70 = .ok (.iload_n 2, 1) := bz_c28 (by decide +kernel)
theorem d_CO_writeTypes_71 : decode b_CO_writeTypes 71 = .ok (.if_icmp .ne 6, 3) := bz_c160 (by decide +kernel)
theorem d_CO_writeTypes_74 : decode b_CO_writeTypes 74 = .ok (.iinc 2 1, 3) := by decide +kernel
theorem d_CO_writeTypes_77 : decode b_CO_writeTypes 77 = .ok (.iinc 3 1, 3) := by decide +kernel
theorem d_CO_writeTypes_80 : decode b_CO_writeTypes 80 = .ok (.goto (-76), 3) := bz_c167 (by decide +kernel)
theorem d_CO_writeTypes_83 : decode b_CO_writeTypes 83 = .ok (.aload_n 0, 1) := bz_c42 (by decide +kernel)
theorem d_CO_writeTypes_84 : decode b_CO_writeTypes 84 = .ok (.getfield 33, 3) := bz_c180 (by decide +kernel)
theorem d_CO_writeTypes_87 : decode b_CO_writeTypes 87 = .ok (.iconst 0, 1) := bz_c3 (by decide +kernel)
theorem d_CO_writeTypes_88 : decode b_CO_writeTypes 88 = .ok (.putfield 64, 3) := bz_c181 (by decide +kernel)
theorem d_CO_writeTypes_91 : decode b_CO_writeTypes 91 = .ok (.aload_n 0, 1) := bz_c42 (by decide +kernel)
theorem d_CO_writeTypes_92 : decode b_CO_writeTypes 92 = .ok (.getfield 33, 3) := bz_c180 (by decide +kernel)
theorem d_CO_writeTypes_95 : decode b_CO_writeTypes 95 = .ok (.iload_n 2, 1) := bz_c28 (by decide +kernel)
theorem d_CO_writeTypes_96 : decode b_CO_writeTypes 96 = .ok (.invokevirtual 218, 3) := bz_c182 (by decide +kernel)
theorem d_CO_writeTypes_99 : decode b_CO_writeTypes 99 = .ok (.iconst 0, 1) := bz_c3 (by decide +kernel)
theorem d_CO_writeTypes_100 : decode b_CO_writeTypes 100 = .ok (.istore_n 3, 1) := bz_c62 (by decide +kernel)
theorem d_CO_writeTypes_101 : decode b_CO_writeTypes 101 = .ok (.iconst 0, 1) := bz_c3 (by decide +kernel)
theorem d_CO_writeTypes_102 : decode b_CO_writeTypes 102 = .ok (.istore 4, 2) := bz_c54 (by decide +kernel)
theorem d_CO_writeTypes_104 : decode b_CO_writeTypes 104 = .ok (.iload 4, 2) := bz_c21 (by decide +kernel)
theorem d_CO_writeTypes_106 : decode b_CO_writeTypes 106 = .ok (.aload_n 0, 1) := bz_c42 (by decide +kernel)
theorem d_CO_writeTypes_107 : decode b_CO_writeTypes 107 = .ok (.getfield 36, 3) := bz_c180 (by decide +kernel)
theorem d_CO_writeTypes_110 : decode b_CO_writeTypes 110 = .ok (.getfield 61, 3) := bz_c180 (by decide +kernel)
theorem d_CO_writeTypes_113 : decode b_CO_writeTypes 113 = .ok (.getfield 68, 3) := bz_c180 (by decide +kernel)
theorem d_CO_writeTypes_116 : decode b_CO_writeTypes 116 = .ok (.if_icmp .ge 29, 3) := bz_c162 (by decide +kernel)
theorem d_CO_writeTypes_119 : decode b_CO_writeTypes 119 = .ok (.aload_n 0, 1) := bz_c42 (by decide +kernel)
theorem d_CO_writeTypes_120 : decode b_CO_writeTypes 120 = .ok (.getfield 18, 3) := bz_c180 (by decide +kernel)
theorem d_CO_writeTypes_123 : decode b_CO_writeTypes 123 = .ok (.iload 4, 2) := bz_c21 (by decide +kernel)
theorem d_CO_writeTypes_125 : decode b_CO_writeTypes 125 = .ok (.iaload, 1) := bz_c46 (by decide +kernel)
theorem d_CO_writeTypes_126 : decode b_CO_writeTypes 126 = .ok (.iload_n 3, 1) := bz_c29 (by decide +kernel)
theorem d_CO_writeTypes_127 : decode b_CO_writeTypes 127 = .ok (.if_icmp .ne 12, 3) := bz_c160 (by decide +kernel)
theorem d_CO_writeTypes_130 : decode b_CO_writeTypes 130 = .ok (.aload_n 0, 1) := bz_c42 (by decide +kernel)
theorem d_CO_writeTypes_131 : decode b_CO_writeTypes 131 = .ok (.iload 4, 2) := bz_c21 (by decide +kernel)
theorem d_CO_writeTypes_133 : decode b_CO_writeTypes 133 = .ok (.invokevirtual 296, 3) := bz_c182 (by decide +kernel)
theorem d_CO_writeTypes_136 : decode b_CO_writeTypes 136 = .ok (.iinc 3 1, 3) := by decide +kernel
theorem d_CO_writeTypes_139 : decode b_CO_writeTypes 139 = .ok (.iinc 4 1, 3) := by decide +kernel
theorem d_CO_writeTypes_142 : decode b_CO_writeTypes 142 = .ok (.goto (-38), 3) := bz_c167 (by decide +kernel)
theorem d_CO_writeTypes_145 : decode b_CO_writeTypes 145 = .ok (.aload_n 0, 1) := bz_c42 (by decide +kernel)
theorem d_CO_writeTypes_146 : decode b_CO_writeTypes 146 = .ok (.aload_n 1, 1) := bz_c43 (by decide +kernel)
theorem d_CO_writeTypes_147 : decode b_CO_writeTypes 147 = .ok (.iconst 1, 1) := bz_c4 (by decide +kernel)
theorem d_CO_writeTypes_148 : decode b_CO_writeTypes 148 = .ok (.invokevirtual 299, 3) := bz_c182 (by decide +kernel)
theorem d_CO_writeTypes_151 : decode b_CO_writeTypes 151 = .ok (.return_, 1) := bz_c177 (by decide +kernel)
theorem kM_CO_292 : Cond.methodLink R_CO 292 y_CO_isSameType ∈ lw_g := in_c6 27 rfl rfl
theorem kV_CO_isSameType : Cond.instanceMethod y_CO_isSameType ∈ lw_g := in_c6 29 rfl rfl
theorem kS_CO_isSameType : Cond.selects R_CO y_CO_isSameType y_CO_isSameType ∈ lw_g := in_s 53 (by decide +kernel) rfl
theorem kM_CO_296 : Cond.methodLink R_CO 296 y_CO_writeType ∈ lw_g := in_c6 31 rfl rfl
theorem kV_CO_writeType : Cond.instanceMethod y_CO_writeType ∈ lw_g := in_c6 33 rfl rfl
theorem kS_CO_writeType : Cond.selects R_CO y_CO_writeType y_CO_writeType ∈ lw_g := in_s 54 (by decide +kernel) rfl
theorem kM_CO_299 : Cond.methodLink R_CO 299 y_CO_putSection ∈ lw_g := in_c6 35 rfl rfl
theorem kV_CO_putSection : Cond.instanceMethod y_CO_putSection ∈ lw_g := in_c6 37 rfl rfl
theorem kS_CO_putSection : Cond.selects R_CO y_CO_putSection y_CO_putSection ∈ lw_g := in_s 55 (by decide +kernel) rfl
theorem kF_CO_18 : Cond.fieldLink R_CO 18 "WaferForge$Coder" "typeOf" "[I" ∈ lw_g := in_c2 189 rfl rfl
abbrev at_CO_writeTypes (dC : Nat → ClassId) (dI : Nat → Nat → Nat) (h0 pr kn lt pe to bo cs se gl fu pa pf sf pk pg pp pz pv pr_scanner_r pr_waiting_r pr_waitingPlaces_r seb tr fus fuz fut fuv pas paz pat pav ow owb : Nat) (cto cseb cpf cfut cpat cowb : ClassId) (h0_localCount : Int32) (h0_pendingCount : Int32) (h0_gives : Int32) (h0_depth : Int32) (h0_loopDepth : Int32) (pr_reason : Int32) (pr_place : Int32) (pr_stepCount : Int32) (pr_open : Int32) (pr_twoSides : Int32) (pr_waitingCount : Int32) (gpf : Nat → Int32) (fu_length : Int32) (gfut : Nat → Int32) (pa_length : Int32) (gpat : Nat → Int32) (A : Nat → Prop) (u : (Nat → Int32) × (Nat → Int32) × (Nat → Int32) × Int32 × Int32) (t : State) : Prop := match u with | (gowb, gseb, gto, ow_length, se_length) => va_P (dC, dI) cls (wz_219 h0 pr kn lt h0_localCount pe h0_pendingCount h0_gives h0_depth h0_loopDepth to bo cs se pr gl fu pa pf sf pk pg pp pz pv pr_reason pr_place pr_scanner_r pr_stepCount pr_open pr_twoSides pr_waiting_r pr_waitingPlaces_r pr_waitingCount to cto gto se seb se_length seb cseb gseb pf cpf gpf fu tr fus fuz fut fuv fu_length fut cfut gfut pa tr pas paz pat pav pa_length pat cpat gpat ow owb ow_length owb cowb gowb) t.heap ∧ va_K (dC, dI) cls [(cto, .int), (cseb, .byte), (cpf, .int), (cfut, .int), (cpat, .int), (cowb, .byte)] t ∧ va_D A (wz_219 h0 pr kn lt h0_localCount pe h0_pendingCount h0_gives h0_depth h0_loopDepth to bo cs se pr gl fu pa pf sf pk pg pp pz pv pr_reason pr_place pr_scanner_r pr_stepCount pr_open pr_twoSides pr_waiting_r pr_waitingPlaces_r pr_waitingCount to cto gto se seb se_length seb cseb gseb pf cpf gpf fu tr fus fuz fut fuv fu_length fut cfut gfut pa tr pas paz pat pav pa_length pat cpat gpat ow owb ow_length owb cowb gowb)
set_option maxHeartbeats 4000000 in
set_option maxRecDepth 100000 in
theorem c_CO_writeTypes (l : Launch) (dC : Nat → ClassId) (dI : Nat → Nat → Nat) (sz : Nat) (h0 pr kn lt pe to bo cs se gl fu pa pf sf pk pg pp pz pv pr_scanner_r pr_waiting_r pr_waitingPlaces_r seb tr fus fuz fut fuv pas paz pat pav ow owb : Nat) (cto cseb cpf cfut cpat cowb : ClassId) (h0_localCount : Int32) (h0_pendingCount : Int32) (h0_gives : Int32) (h0_depth : Int32) (h0_loopDepth : Int32) (pr_reason : Int32) (pr_place : Int32) (pr_stepCount : Int32) (pr_open : Int32) (pr_twoSides : Int32) (pr_waitingCount : Int32) (gto : Nat → Int32) (se_length : Int32) (gseb : Nat → Int32) (gpf : Nat → Int32) (fu_length : Int32) (gfut : Nat → Int32) (pa_length : Int32) (gpat : Nat → Int32) (ow_length : Int32) (gowb : Nat → Int32)  (b_se_length : 0 ≤ se_length.toInt ∧ se_length.toInt ≤ 8192) (b_fu_length : 0 ≤ fu_length.toInt ∧ fu_length.toInt ≤ 20) (b_pa_length : 0 ≤ pa_length.toInt ∧ pa_length.toInt ≤ 160) (b_ow_length : 0 ≤ ow_length.toInt ∧ ow_length.toInt ≤ 8192)   (hpf : bx (∀ f : Nat, (f : Int) < fu_length.toInt → 0 ≤ (gpf f).toInt ∧ (gpf f).toInt ≤ (gpf (f + 1)).toInt ∧ (gpf (f + 1)).toInt ≤ pa_length.toInt)) (hpq : bx (gq pa_length.toInt gpat)) (hfq : bx (∀ f : Nat, (f : Int) < fu_length.toInt → ty (gfut f).toInt)) (hpl : pa_length.toInt ≤ 160) (hp8 : bx (∀ f : Nat, (f : Int) < fu_length.toInt → tkF gpf f ≤ 8)) (hro : ow_length.toInt + 280 ≤ 8192) : Met l y_CO_writeTypes w_CO_writeTypes ({ frames := 3, cells := 0, slots := 0, locals := 68 }) (va_Pc [.ref h0, .ref ow] (fun U => U.heap.size = sz ∧ va_P (dC, dI) cls (wz_219 h0 pr kn lt h0_localCount pe h0_pendingCount h0_gives h0_depth h0_loopDepth to bo cs se pr gl fu pa pf sf pk pg pp pz pv pr_reason pr_place pr_scanner_r pr_stepCount pr_open pr_twoSides pr_waiting_r pr_waitingPlaces_r pr_waitingCount to cto gto se seb se_length seb cseb gseb pf cpf gpf fu tr fus fuz fut fuv fu_length fut cfut gfut pa tr pas paz pat pav pa_length pat cpat gpat ow owb ow_length owb cowb gowb) U.heap ∧ va_K (dC, dI) cls [(cto, .int), (cseb, .byte), (cpf, .int), (cfut, .int), (cpat, .int), (cowb, .byte)] U ∧ va_D (fun _ => True) (wz_219 h0 pr kn lt h0_localCount pe h0_pendingCount h0_gives h0_depth h0_loopDepth to bo cs se pr gl fu pa pf sf pk pg pp pz pv pr_reason pr_place pr_scanner_r pr_stepCount pr_open pr_twoSides pr_waiting_r pr_waitingPlaces_r pr_waitingCount to cto gto se seb se_length seb cseb gseb pf cpf gpf fu tr fus fuz fut fuv fu_length fut cfut gfut pa tr pas paz pat pav pa_length pat cpat gpat ow owb ow_length owb cowb gowb))) (va_Qv (fun (u : (Nat → Int32) × (Nat → Int32) × (Nat → Int32) × Int32 × Int32) => match u with | (gowb2, gseb2, gto2, ow_length2, se_length2) => (0 ≤ ow_length2.toInt ∧ ow_length2.toInt ≤ 8192) ∧ (0 ≤ se_length2.toInt ∧ se_length2.toInt ≤ 8192) ∧ (∃ (R bs : List Nat), tyI gto2 (tkF gpf) gfut fu_length.toNatClampNeg R ∧ tB (tkF gpf) gfut R bs ∧ (bs.length : Int) ≤ 4 * fu_length.toInt + (gpf fu_length.toNatClampNeg).toInt - (gpf 0).toInt ∧ ow_length2.toInt = ow_length.toInt + ((sec 1 (R.length :: bs)).length : Int) ∧ bl gowb2 ow_length2.toNatClampNeg = bl gowb ow_length.toNatClampNeg ++ sec 1 (R.length :: bs))) (at_CO_writeTypes dC dI h0 pr kn lt pe to bo cs se gl fu pa pf sf pk pg pp pz pv pr_scanner_r pr_waiting_r pr_waitingPlaces_r seb tr fus fuz fut fuv pas paz pat pav ow owb cto cseb cpf cfut cpat cowb h0_localCount h0_pendingCount h0_gives h0_depth h0_loopDepth pr_reason pr_place pr_stepCount pr_open pr_twoSides pr_waitingCount gpf fu_length gfut pa_length gpat (va_A (wz_219 h0 pr kn lt h0_localCount pe h0_pendingCount h0_gives h0_depth h0_loopDepth to bo cs se pr gl fu pa pf sf pk pg pp pz pv pr_reason pr_place pr_scanner_r pr_stepCount pr_open pr_twoSides pr_waiting_r pr_waitingPlaces_r pr_waitingCount to cto gto se seb se_length seb cseb gseb pf cpf gpf fu tr fus fuz fut fuv fu_length fut cfut gfut pa tr pas paz pat pav pa_length pat cpat gpat ow owb ow_length owb cowb gowb) sz)) (va_A (wz_219 h0 pr kn lt h0_localCount pe h0_pendingCount h0_gives h0_depth h0_loopDepth to bo cs se pr gl fu pa pf sf pk pg pp pz pv pr_reason pr_place pr_scanner_r pr_stepCount pr_open pr_twoSides pr_waiting_r pr_waitingPlaces_r pr_waitingCount to cto gto se seb se_length seb cseb gseb pf cpf gpf fu tr fus fuz fut fuv fu_length fut cfut gfut pa tr pas paz pat pav pa_length pat cpat gpat ow owb ow_length owb cowb gowb) sz)) 0 0 (va_A (wz_219 h0 pr kn lt h0_localCount pe h0_pendingCount h0_gives h0_depth h0_loopDepth to bo cs se pr gl fu pa pf sf pk pg pp pz pv pr_reason pr_place pr_scanner_r pr_stepCount pr_open pr_twoSides pr_waiting_r pr_waitingPlaces_r pr_waitingCount to cto gto se seb se_length seb cseb gseb pf cpf gpf fu tr fus fuz fut fuv fu_length fut cfut gfut pa tr pas paz pat pav pa_length pat cpat gpat ow owb ow_length owb cowb gowb) sz) := by
  refine Met.ofW (cc := b_CO_writeTypes) (maxL := 5) (ret := none) (by decide) rfl ?_
  intro p e s m args below meth c s₁ B hml hv
  obtain ⟨rfl, hsz, hP, hK, hD0⟩ := hv
  have hx := B.exec
  have hb := B.bytes
  have hr := B.returns
  have hts0 := atoms_spec (ws := w_CO_writeTypes) B.pre
  have hts : ∀ w ∈ lw_g, w.before _ s = true := fun w h => hts0 w (List.mem_cons_of_mem _ h)
  have hown : s.vm.findClass R_CO = some m.cls := findClass_of_methodNamed B.named
  have hlocks := B.notSynchronized
  clear hts0
  subst hsz
  have hD := hD0.self (sz := s.heap.size)
  generalize hAe : va_A (wz_219 h0 pr kn lt h0_localCount pe h0_pendingCount h0_gives h0_depth h0_loopDepth to bo cs se pr gl fu pa pf sf pk pg pp pz pv pr_reason pr_place pr_scanner_r pr_stepCount pr_open pr_twoSides pr_waiting_r pr_waitingPlaces_r pr_waitingCount to cto gto se seb se_length seb cseb gseb pf cpf gpf fu tr fus fuz fut fuv fu_length fut cfut gfut pa tr pas paz pat pav pa_length pat cpat gpat ow owb ow_length owb cowb gowb) s.heap.size = A at hD ⊢
  have hA : ∀ q : Nat, s.heap.size ≤ q → A q := fun q h => by rw [← hAe]; exact Or.inr h
  clear hAe
  have hP : va_P (dC, dI) cls (wz_219 h0 pr kn lt h0_localCount pe h0_pendingCount h0_gives h0_depth h0_loopDepth to bo cs se pr gl fu pa pf sf pk pg pp pz pv pr_reason pr_place pr_scanner_r pr_stepCount pr_open pr_twoSides pr_waiting_r pr_waitingPlaces_r pr_waitingCount to cto gto se seb se_length seb cseb gseb pf cpf gpf fu tr fus fuz fut fuv fu_length fut cfut gfut pa tr pas paz pat pav pa_length pat cpat gpat ow owb ow_length owb cowb gowb) s.heap := hP
  have hl := lv_entry ([.ref h0, .ref ow]) (n := 5) (Nat.le_of_ble_eq_true rfl)
  rw [lg_entry_eq]
  generalize (lg_sl ([.ref h0, .ref ow]) ++ List.replicate (5 - (lg_sl ([.ref h0, .ref ow])).length) Slot.unset).toArray = ls at hl ⊢
  have hl : lv_has ls 5 [(0, .ref h0), (1, .ref ow)] := hl
  have k0 : (0 : Int32).toInt = 0 := by decide
  refine w_gen (A := A) hP (fun H locs hP hS => ?_)
  have km1 : (-1 : Int32).toInt = -1 := by decide
  have k1 : (1 : Int32).toInt = 1 := by decide
  refine lv_iconst (v := 0) hx hb d_CO_writeTypes_0 (by decide) ?_
  refine lv_istore_n (lv' := [(2, .int 0), (0, .ref h0), (1, .ref ow)]) hx hb d_CO_writeTypes_1 rfl hl (by decide) rfl (fun ls hl => ?_)
  refine lv_iconst (v := 0) hx hb d_CO_writeTypes_2 (by decide) ?_
  refine lv_istore_n (lv' := [(3, .int 0), (2, .int 0), (0, .ref h0), (1, .ref ow)]) hx hb d_CO_writeTypes_3 rfl hl (by decide) rfl (fun ls hl => ?_)
  refine w_loop (σ := Int32 × Int32 × (Nat → Int32)) (fun u H locs ls => match u with | (j4_l2, j4_l3, j4_to) => (0 ≤ j4_l3.toInt ∧ j4_l3.toInt ≤ fu_length.toInt ∧ 0 ≤ j4_l2.toInt ∧ j4_l2.toInt ≤ j4_l3.toInt) ∧ (bx (∃ R : List Nat, tyI j4_to (tkF gpf) gfut j4_l3.toNatClampNeg R ∧ (R.length : Int) = j4_l2.toInt)) ∧ va_P (dC, dI) cls (wz_219 h0 pr kn lt h0_localCount pe h0_pendingCount h0_gives h0_depth h0_loopDepth to bo cs se pr gl fu pa pf sf pk pg pp pz pv pr_reason pr_place pr_scanner_r pr_stepCount pr_open pr_twoSides pr_waiting_r pr_waitingPlaces_r pr_waitingCount to cto j4_to se seb se_length seb cseb gseb pf cpf gpf fu tr fus fuz fut fuv fu_length fut cfut gfut pa tr pas paz pat pav pa_length pat cpat gpat ow owb ow_length owb cowb gowb) H ∧ va_D A (wz_219 h0 pr kn lt h0_localCount pe h0_pendingCount h0_gives h0_depth h0_loopDepth to bo cs se pr gl fu pa pf sf pk pg pp pz pv pr_reason pr_place pr_scanner_r pr_stepCount pr_open pr_twoSides pr_waiting_r pr_waitingPlaces_r pr_waitingCount to cto j4_to se seb se_length seb cseb gseb pf cpf gpf fu tr fus fuz fut fuv fu_length fut cfut gfut pa tr pas paz pat pav pa_length pat cpat gpat ow owb ow_length owb cowb gowb) ∧ va_S A s.heap H locs ∧ lv_has ls 5 [(0, .ref h0), (1, .ref ow), (2, .int j4_l2), (3, .int j4_l3)]) (fun u => match u with | (j4_l2, j4_l3, j4_to) => (fu_length.toInt - j4_l3.toInt).toNat) ?_ (0, 0, gto) ⟨by (try dsimp only) <;> (first | (apply Int.le_antisymm <;> omega) | omega), ⟨[], rfl, rfl⟩, hP, hD, hS, lv_sub hl [2, 3, 1, 0] rfl⟩
  intro N4 ih4 u H locs ls hN4 hI
  obtain ⟨j4_l2, j4_l3, j4_to⟩ := u
  obtain ⟨v1, hT, hP, hD, hS, hl⟩ := hI
  have hN4 : (fu_length.toInt - j4_l3.toInt).toNat < N4 + 1 := hN4
  refine lv_iload_n hx hb d_CO_writeTypes_4 rfl (lv_at hl 3 rfl) ?_
  refine lv_aload_n hx hb d_CO_writeTypes_5 rfl (lv_at hl 0 rfl) ?_
  refine va_get (D := (dC, dI)) (ci := 2) (v := .ref pr) (C := R_CO) (T := F_CO) (N := 13) hx hb hts i_CO hown hK hP 0 rfl rfl 0 (by decide) (hts _ kF_CO_36) (fun _ h9 => h9) rfl d_CO_writeTypes_6 ?_
  refine va_get (D := (dC, dI)) (ci := 6) (v := .ref fu) (C := R_PR) (T := F_PR) (N := 19) hx hb hts i_PR hown hK hP 1 rfl rfl 1 (by decide) (hts _ kF_CO_61) (fun _ h9 => h9) rfl d_CO_writeTypes_9 ?_
  refine va_get (D := (dC, dI)) (ci := 5) (v := .int fu_length) (C := R_NA) (T := F_NA) (N := 6) hx hb hts i_NA hown hK hP 6 rfl rfl 5 (by decide) (hts _ kF_CO_68) (fun _ h9 => h9) rfl d_CO_writeTypes_12 ?_
  refine lv_icmp_ge (tgt := 83) hx hb d_CO_writeTypes_15 (by decide) (fun c15 => ?_) (fun c15 => ?_)
  · have q15 := leI c15
    refine lv_aload_n hx hb d_CO_writeTypes_83 rfl (lv_at hl 0 rfl) ?_
    refine va_get (D := (dC, dI)) (ci := 2) (v := .ref se) (C := R_CO) (T := F_CO) (N := 13) hx hb hts i_CO hown hK hP 0 rfl rfl 12 (by decide) (hts _ kF_CO_33) (fun _ h9 => h9) rfl d_CO_writeTypes_84 ?_
    refine lv_iconst (v := 0) hx hb d_CO_writeTypes_87 (by decide) ?_
    refine va_put (D := (dC, dI)) (ci := 1) (v := .int 0) (ty := .int) (C := R_BR) (T := F_BR) (N := 2) hx hb hts i_BR t_BR t_BR_ok n_BR hown hK hP hD hS 3 rfl rfl 1 (by decide) (hts _ kF_CO_64) (fun _ h9 => h9) rfl (by decide +kernel) rfl rfl (Nat.le_of_ble_eq_true rfl) d_CO_writeTypes_88 (fun H locs hP hD hS => ?_)
    refine lv_aload_n hx hb d_CO_writeTypes_91 rfl (lv_at hl 0 rfl) ?_
    refine va_get (D := (dC, dI)) (ci := 2) (v := .ref se) (C := R_CO) (T := F_CO) (N := 13) hx hb hts i_CO hown hK hP 0 rfl rfl 12 (by decide) (hts _ kF_CO_33) (fun _ h9 => h9) rfl d_CO_writeTypes_92 ?_
    refine lv_iload_n hx hb d_CO_writeTypes_95 rfl (lv_at hl 2 rfl) ?_
    have hPc := hP.sb (wq := (wz_94 se seb 0 seb cseb gseb)) [3, 4] rfl
    have hDc := hD.sb (wq := (wz_94 se seb 0 seb cseb gseb)) [3, 4] (by decide) rfl
    have hKc := hK.sb (tyq := [(cseb, .byte)]) [1] rfl
    have hFc := va_free (wc := (wz_94 se seb 0 seb cseb gseb)) hD hS hA [3, 4] rfl
    refine va_callv (va_runV (As := [.int j4_l2]) (rest := []) ⟨hx, hb, hml, hown, hts⟩ (c_BR_putUnsigned l dC dI se seb H.size cseb 8192 0 gseb (by (first | (apply Int.le_antisymm <;> omega) | omega)) (by (first | (apply Int.le_antisymm <;> omega) | omega)) (by (first | (apply Int.le_antisymm <;> omega) | omega)) j4_l2 (by (first | (apply Int.le_antisymm <;> omega) | omega))) (cwV 1 hts (gV kM_CO_218 kV_BR_putUnsigned kS_BR_putUnsigned kI_BR kC_BR_putUnsigned) rfl rfl rfl (by decide +kernel) ⟨Nat.le_of_ble_eq_true rfl, Nat.le_of_ble_eq_true rfl⟩) ⟨fun a U g mk z => by obtain ⟨z0, z1, zP, zK, zD⟩ := z; exact ⟨z0, z1, zP, va_K.moved (u := U) (U := U.calling g mk a) (Vm.Alike.refl U.vm) zK, zD⟩, va_recv hKc hPc (ci := 1) (q0 := 0) rfl rfl, fun U hU hW => ⟨rfl, by rw [hU], va_P.he hU.symm hPc, va_K.moved hW.alike hKc, hDc.weaken (fun _ _ _ _ => trivial)⟩⟩ rfl rfl hl.1 rfl (lv_room (Nat.le_of_ble_eq_true rfl)) d_CO_writeTypes_96 ⟨(Nat.zero_le _), (Nat.zero_le _)⟩) hS (fun q _ h => hFc q h) hFc (fun u t H1 locs ht hvm hw hB hz1 hk1 hS => ?_)
    obtain ⟨n2, f3⟩ := u
    try dsimp only at hw
    obtain ⟨tn2, bn2⟩ := hw
    have ln2 := leb_len 5 (un j4_l2)
    obtain ⟨hP1, hK1, hD1⟩ := hB
    replace hP1 := va_P.he ht hP1
    obtain ⟨hP, hD⟩ := va_join (wr := [(h0, .inr (2, [.ref pr, .ref kn, .ref lt, .int h0_localCount, .ref pe, .int h0_pendingCount, .int h0_gives, .int h0_depth, .int h0_loopDepth, .ref to, .ref bo, .ref cs, .ref se])), (pr, .inr (6, [.ref gl, .ref fu, .ref pa, .ref pf, .ref sf, .ref pk, .ref pg, .ref pp, .ref pz, .ref pv, .int pr_reason, .int pr_place, .ref pr_scanner_r, .int pr_stepCount, .int pr_open, .int pr_twoSides, .ref pr_waiting_r, .ref pr_waitingPlaces_r, .int pr_waitingCount])), (to, .inl (cto, 20, .inl j4_to)), (pf, .inl (cpf, 21, .inl gpf)), (fu, .inr (5, [.ref tr, .ref fus, .ref fuz, .ref fut, .ref fuv, .int fu_length])), (fut, .inl (cfut, 20, .inl gfut)), (pa, .inr (5, [.ref tr, .ref pas, .ref paz, .ref pat, .ref pav, .int pa_length])), (pat, .inl (cpat, 160, .inl gpat)), (ow, .inr (1, [.ref owb, .int ow_length])), (owb, .inl (cowb, 8192, .inl gowb))]) (w1 := (wz_94 se seb n2 seb cseb f3)) hP hD [3, 4] [0, 1, 2, 5, 6, 7, 8, 9, 10, 11] rfl rfl (by decide) (by decide) hk1 hFc hP1 hD1
    clear hPc hDc hKc hFc hz1 hk1 hP1 hK1 hD1
    rename Heap => H
    have hP : va_P (dC, dI) cls (wz_220 h0 pr kn lt h0_localCount pe h0_pendingCount h0_gives h0_depth h0_loopDepth to bo cs se pr gl fu pa pf sf pk pg pp pz pv pr_reason pr_place pr_scanner_r pr_stepCount pr_open pr_twoSides pr_waiting_r pr_waitingPlaces_r pr_waitingCount to cto j4_to pf cpf gpf fu tr fus fuz fut fuv fu_length fut cfut gfut pa tr pas paz pat pav pa_length pat cpat gpat ow owb ow_length owb cowb gowb se seb n2 seb cseb f3) H := hP
    have hD : va_D A (wz_220 h0 pr kn lt h0_localCount pe h0_pendingCount h0_gives h0_depth h0_loopDepth to bo cs se pr gl fu pa pf sf pk pg pp pz pv pr_reason pr_place pr_scanner_r pr_stepCount pr_open pr_twoSides pr_waiting_r pr_waitingPlaces_r pr_waitingCount to cto j4_to pf cpf gpf fu tr fus fuz fut fuv fu_length fut cfut gfut pa tr pas paz pat pav pa_length pat cpat gpat ow owb ow_length owb cowb gowb se seb n2 seb cseb f3) := hD
    have l96 := congrArg List.length (leb_s (x := j4_l2) (by (first | (apply Int.le_antisymm <;> omega) | omega)) (by (first | (apply Int.le_antisymm <;> omega) | omega)))
    rw [List.length_singleton] at l96
    refine lv_iconst (v := 0) hx hb d_CO_writeTypes_99 (by decide) ?_
    refine lv_istore_n (lv' := [(3, .int 0), (0, .ref h0), (1, .ref ow), (2, .int j4_l2)]) hx hb d_CO_writeTypes_100 rfl hl (by decide) rfl (fun ls hl => ?_)
    refine lv_iconst (v := 0) hx hb d_CO_writeTypes_101 (by decide) ?_
    refine lv_istore (lv' := [(4, .int 0), (3, .int 0), (0, .ref h0), (1, .ref ow), (2, .int j4_l2)]) hx hb d_CO_writeTypes_102 hl (by decide) rfl (fun ls hl => ?_)
    refine w_loop (σ := Int32 × Int32 × (Nat → Int32) × Int32) (fun u H locs ls => match u with | (j104_l3, j104_l4, j104_seb, j104_se_length) => (0 ≤ j104_se_length.toInt ∧ j104_se_length.toInt ≤ 8192) ∧ (0 ≤ j104_l4.toInt ∧ j104_l4.toInt ≤ fu_length.toInt ∧ 0 ≤ j104_l3.toInt ∧ j104_l3.toInt ≤ j104_l4.toInt ∧ 1 ≤ j104_se_length.toInt ∧ j104_se_length.toInt ≤ 1 + 12 * j104_l4.toInt) ∧ (bx (∃ (R bs : List Nat), tyI j4_to (tkF gpf) gfut j104_l4.toNatClampNeg R ∧ (R.length : Int) = j104_l3.toInt ∧ tB (tkF gpf) gfut R bs ∧ bl j104_seb j104_se_length.toNatClampNeg = [j4_l2.toInt.toNat] ++ bs ∧ j104_se_length.toInt = 1 + (bs.length : Int) ∧ (bs.length : Int) ≤ 4 * ((j104_l4.toNatClampNeg : Nat) : Int) + (gpf (j104_l4.toNatClampNeg)).toInt - (gpf 0).toInt)) ∧ va_P (dC, dI) cls (wz_220 h0 pr kn lt h0_localCount pe h0_pendingCount h0_gives h0_depth h0_loopDepth to bo cs se pr gl fu pa pf sf pk pg pp pz pv pr_reason pr_place pr_scanner_r pr_stepCount pr_open pr_twoSides pr_waiting_r pr_waitingPlaces_r pr_waitingCount to cto j4_to pf cpf gpf fu tr fus fuz fut fuv fu_length fut cfut gfut pa tr pas paz pat pav pa_length pat cpat gpat ow owb ow_length owb cowb gowb se seb j104_se_length seb cseb j104_seb) H ∧ va_D A (wz_220 h0 pr kn lt h0_localCount pe h0_pendingCount h0_gives h0_depth h0_loopDepth to bo cs se pr gl fu pa pf sf pk pg pp pz pv pr_reason pr_place pr_scanner_r pr_stepCount pr_open pr_twoSides pr_waiting_r pr_waitingPlaces_r pr_waitingCount to cto j4_to pf cpf gpf fu tr fus fuz fut fuv fu_length fut cfut gfut pa tr pas paz pat pav pa_length pat cpat gpat ow owb ow_length owb cowb gowb se seb j104_se_length seb cseb j104_seb) ∧ va_S A s.heap H locs ∧ lv_has ls 5 [(0, .ref h0), (1, .ref ow), (3, .int j104_l3), (4, .int j104_l4)]) (fun u => match u with | (j104_l3, j104_l4, j104_seb, j104_se_length) => (fu_length.toInt - j104_l4.toInt).toNat) ?_ (0, 0, f3, n2) ⟨by (try dsimp only) <;> (first | (apply Int.le_antisymm <;> omega) | omega), by (try dsimp only) <;> (first | (apply Int.le_antisymm <;> omega) | omega), ⟨[], [], rfl, rfl, rfl, by rw [bn2, leb_s (by (first | (apply Int.le_antisymm <;> omega) | omega)) (by (first | (apply Int.le_antisymm <;> omega) | omega))]; rfl, by (try dsimp only); rw [List.length_nil]; (first | (apply Int.le_antisymm <;> omega) | omega), by rw [List.length_nil, show (0 : Int32).toNatClampNeg = 0 from rfl]; (first | (apply Int.le_antisymm <;> omega) | omega)⟩, hP, hD, hS, lv_sub hl [2, 3, 1, 0] rfl⟩
    intro N104 ih104 u H locs ls hN104 hI
    obtain ⟨j104_l3, j104_l4, j104_seb, j104_se_length⟩ := u
    obtain ⟨b_j104_se_length, w1, hB, hP, hD, hS, hl⟩ := hI
    have hN104 : (fu_length.toInt - j104_l4.toInt).toNat < N104 + 1 := hN104
    refine lv_iload hx hb d_CO_writeTypes_104 (lv_at hl 3 rfl) ?_
    refine lv_aload_n hx hb d_CO_writeTypes_106 rfl (lv_at hl 0 rfl) ?_
    refine va_get (D := (dC, dI)) (ci := 2) (v := .ref pr) (C := R_CO) (T := F_CO) (N := 13) hx hb hts i_CO hown hK hP 0 rfl rfl 0 (by decide) (hts _ kF_CO_36) (fun _ h9 => h9) rfl d_CO_writeTypes_107 ?_
    refine va_get (D := (dC, dI)) (ci := 6) (v := .ref fu) (C := R_PR) (T := F_PR) (N := 19) hx hb hts i_PR hown hK hP 1 rfl rfl 1 (by decide) (hts _ kF_CO_61) (fun _ h9 => h9) rfl d_CO_writeTypes_110 ?_
    refine va_get (D := (dC, dI)) (ci := 5) (v := .int fu_length) (C := R_NA) (T := F_NA) (N := 6) hx hb hts i_NA hown hK hP 4 rfl rfl 5 (by decide) (hts _ kF_CO_68) (fun _ h9 => h9) rfl d_CO_writeTypes_113 ?_
    refine lv_icmp_ge (tgt := 145) hx hb d_CO_writeTypes_116 (by decide) (fun c116 => ?_) (fun c116 => ?_)
    · have q116 := leI c116
      refine lv_aload_n hx hb d_CO_writeTypes_145 rfl (lv_at hl 0 rfl) ?_
      refine lv_aload_n hx hb d_CO_writeTypes_146 rfl (lv_at hl 1 rfl) ?_
      refine lv_iconst (v := 1) hx hb d_CO_writeTypes_147 (by decide) ?_
      have hPc := hP.sb (wq := (wz_215 h0 pr kn lt h0_localCount pe h0_pendingCount h0_gives h0_depth h0_loopDepth to bo cs se se seb j104_se_length seb cseb j104_seb ow owb ow_length owb cowb gowb)) [0, 10, 11, 8, 9] rfl
      have hDc := hD.sb (wq := (wz_215 h0 pr kn lt h0_localCount pe h0_pendingCount h0_gives h0_depth h0_loopDepth to bo cs se se seb j104_se_length seb cseb j104_seb ow owb ow_length owb cowb gowb)) [0, 10, 11, 8, 9] (by decide) rfl
      have hKc := hK.sb (tyq := [(cseb, .byte), (cowb, .byte)]) [1, 5] rfl
      have hFc := va_free (wc := (wz_215 h0 pr kn lt h0_localCount pe h0_pendingCount h0_gives h0_depth h0_loopDepth to bo cs se se seb j104_se_length seb cseb j104_seb ow owb ow_length owb cowb gowb)) hD hS hA [0, 10, 11, 8, 9] rfl
      refine va_callv (va_runV (As := [.ref ow, .int 1]) (rest := []) ⟨hx, hb, hml, hown, hts⟩ (c_CO_putSection l dC dI H.size h0 pr kn lt pe to bo cs se seb ow owb cseb cowb h0_localCount h0_pendingCount h0_gives h0_depth h0_loopDepth j104_se_length j104_seb ow_length gowb (b_j104_se_length) (b_ow_length) 1 (by decide) (by (first | (apply Int.le_antisymm <;> omega) | omega))) (cwV 2 hts (gV kM_CO_299 kV_CO_putSection kS_CO_putSection kI_CO kC_CO_putSection) rfl rfl rfl (by decide +kernel) ⟨Nat.le_of_ble_eq_true rfl, Nat.le_of_ble_eq_true rfl⟩) ⟨fun a U g mk z => by obtain ⟨z0, z1, zP, zK, zD⟩ := z; exact ⟨z0, z1, zP, va_K.moved (u := U) (U := U.calling g mk a) (Vm.Alike.refl U.vm) zK, zD⟩, va_recv hKc hPc (ci := 2) (q0 := 0) rfl rfl, fun U hU hW => ⟨rfl, by rw [hU], va_P.he hU.symm hPc, va_K.moved hW.alike hKc, hDc.weaken (fun _ _ _ _ => trivial)⟩⟩ rfl rfl hl.1 rfl (lv_room (Nat.le_of_ble_eq_true rfl)) d_CO_writeTypes_148 ⟨(Nat.zero_le _), (Nat.zero_le _)⟩) hS (fun q _ h => hFc q h) hFc (fun u t H1 locs ht hvm hw hB hz1 hk1 hS => ?_)
      obtain ⟨n5, n6⟩ := u
      try dsimp only at hw
      obtain ⟨bn6, xr4⟩ := hw
      try clear hw
      obtain ⟨hP1, hK1, hD1⟩ := hB
      replace hP1 := va_P.he ht hP1
      obtain ⟨hP, hD⟩ := va_join (wr := [(pr, .inr (6, [.ref gl, .ref fu, .ref pa, .ref pf, .ref sf, .ref pk, .ref pg, .ref pp, .ref pz, .ref pv, .int pr_reason, .int pr_place, .ref pr_scanner_r, .int pr_stepCount, .int pr_open, .int pr_twoSides, .ref pr_waiting_r, .ref pr_waitingPlaces_r, .int pr_waitingCount])), (to, .inl (cto, 20, .inl j4_to)), (pf, .inl (cpf, 21, .inl gpf)), (fu, .inr (5, [.ref tr, .ref fus, .ref fuz, .ref fut, .ref fuv, .int fu_length])), (fut, .inl (cfut, 20, .inl gfut)), (pa, .inr (5, [.ref tr, .ref pas, .ref paz, .ref pat, .ref pav, .int pa_length])), (pat, .inl (cpat, 160, .inl gpat))]) (w1 := (wz_215 h0 pr kn lt h0_localCount pe h0_pendingCount h0_gives h0_depth h0_loopDepth to bo cs se se seb j104_se_length seb cseb j104_seb ow owb n6 owb cowb n5)) hP hD [0, 10, 11, 8, 9] [1, 2, 3, 4, 5, 6, 7] rfl rfl (by decide) (by decide) hk1 hFc hP1 hD1
      clear hPc hDc hKc hFc hz1 hk1 hP1 hK1 hD1
      rename Heap => H
      have hP : va_P (dC, dI) cls [(pr, .inr (6, [.ref gl, .ref fu, .ref pa, .ref pf, .ref sf, .ref pk, .ref pg, .ref pp, .ref pz, .ref pv, .int pr_reason, .int pr_place, .ref pr_scanner_r, .int pr_stepCount, .int pr_open, .int pr_twoSides, .ref pr_waiting_r, .ref pr_waitingPlaces_r, .int pr_waitingCount])), (to, .inl (cto, 20, .inl j4_to)), (pf, .inl (cpf, 21, .inl gpf)), (fu, .inr (5, [.ref tr, .ref fus, .ref fuz, .ref fut, .ref fuv, .int fu_length])), (fut, .inl (cfut, 20, .inl gfut)), (pa, .inr (5, [.ref tr, .ref pas, .ref paz, .ref pat, .ref pav, .int pa_length])), (pat, .inl (cpat, 160, .inl gpat)), (h0, .inr (2, [.ref pr, .ref kn, .ref lt, .int h0_localCount, .ref pe, .int h0_pendingCount, .int h0_gives, .int h0_depth, .int h0_loopDepth, .ref to, .ref bo, .ref cs, .ref se])), (se, .inr (1, [.ref seb, .int j104_se_length])), (seb, .inl (cseb, 8192, .inl j104_seb)), (ow, .inr (1, [.ref owb, .int n6])), (owb, .inl (cowb, 8192, .inl n5))] H := hP
      have hD : va_D A [(pr, .inr (6, [.ref gl, .ref fu, .ref pa, .ref pf, .ref sf, .ref pk, .ref pg, .ref pp, .ref pz, .ref pv, .int pr_reason, .int pr_place, .ref pr_scanner_r, .int pr_stepCount, .int pr_open, .int pr_twoSides, .ref pr_waiting_r, .ref pr_waitingPlaces_r, .int pr_waitingCount])), (to, .inl (cto, 20, .inl j4_to)), (pf, .inl (cpf, 21, .inl gpf)), (fu, .inr (5, [.ref tr, .ref fus, .ref fuz, .ref fut, .ref fuv, .int fu_length])), (fut, .inl (cfut, 20, .inl gfut)), (pa, .inr (5, [.ref tr, .ref pas, .ref paz, .ref pat, .ref pav, .int pa_length])), (pat, .inl (cpat, 160, .inl gpat)), (h0, .inr (2, [.ref pr, .ref kn, .ref lt, .int h0_localCount, .ref pe, .int h0_pendingCount, .int h0_gives, .int h0_depth, .int h0_loopDepth, .ref to, .ref bo, .ref cs, .ref se])), (se, .inr (1, [.ref seb, .int j104_se_length])), (seb, .inl (cseb, 8192, .inl j104_seb)), (ow, .inr (1, [.ref owb, .int n6])), (owb, .inl (cowb, 8192, .inl n5))] := hD
      have hP9 := hP.sb (wq := (wz_219 h0 pr kn lt h0_localCount pe h0_pendingCount h0_gives h0_depth h0_loopDepth to bo cs se pr gl fu pa pf sf pk pg pp pz pv pr_reason pr_place pr_scanner_r pr_stepCount pr_open pr_twoSides pr_waiting_r pr_waitingPlaces_r pr_waitingCount to cto j4_to se seb j104_se_length seb cseb j104_seb pf cpf gpf fu tr fus fuz fut fuv fu_length fut cfut gfut pa tr pas paz pat pav pa_length pat cpat gpat ow owb n6 owb cowb n5)) [7, 0, 1, 8, 9, 2, 3, 4, 5, 6, 10, 11] rfl
      have hD9 := hD.sb (wq := (wz_219 h0 pr kn lt h0_localCount pe h0_pendingCount h0_gives h0_depth h0_loopDepth to bo cs se pr gl fu pa pf sf pk pg pp pz pv pr_reason pr_place pr_scanner_r pr_stepCount pr_open pr_twoSides pr_waiting_r pr_waitingPlaces_r pr_waitingCount to cto j4_to se seb j104_se_length seb cseb j104_seb pf cpf gpf fu tr fus fuz fut fuv fu_length fut cfut gfut pa tr pas paz pat pav pa_length pat cpat gpat ow owb n6 owb cowb n5)) [7, 0, 1, 8, 9, 2, 3, 4, 5, 6, 10, 11] (by decide) rfl
      exact W.vret hx hb hr (fun t ht hW => ⟨⟨(n5, j104_seb, j4_to, n6, j104_se_length), rfl, ⟨bn6, b_j104_se_length, (by obtain ⟨R, bs, y1, y2, y3, y4, y5, y6⟩ := hB.out; obtain ⟨R1, z1, z2⟩ := hT.out; rw [show j104_l4.toNatClampNeg = j4_l3.toNatClampNeg from by have := i32_clamp (x := j104_l4) (by (first | (apply Int.le_antisymm <;> omega) | omega)); have := i32_clamp (x := j4_l3) (by (first | (apply Int.le_antisymm <;> omega) | omega)); (first | (apply Int.le_antisymm <;> omega) | omega)] at y1 y6; have e9 := tyI_uniq _ z1 y1; subst e9; have h9 := xr4; rw [y4, show [j4_l2.toInt.toNat] ++ bs = R1.length :: bs from by rw [show j4_l2.toInt.toNat = R1.length from by (first | (apply Int.le_antisymm <;> omega) | omega)]; rfl] at h9; rw [show fu_length.toNatClampNeg = j4_l3.toNatClampNeg from by have := i32_clamp (x := fu_length) (by (first | (apply Int.le_antisymm <;> omega) | omega)); have := i32_clamp (x := j4_l3) (by (first | (apply Int.le_antisymm <;> omega) | omega)); (first | (apply Int.le_antisymm <;> omega) | omega)]; exact ⟨R1, bs, z1, y3, by have := i32_clamp (x := j4_l3) (by (first | (apply Int.le_antisymm <;> omega) | omega)); (first | (apply Int.le_antisymm <;> omega) | omega), h9⟩)⟩, va_P.he ht.symm hP9, va_K.moved hW.alike hK, hD9⟩, hS.F ht⟩) hS.2.2 d_CO_writeTypes_151
    · have q116 := nleI c116
      have z119 := i32_clamp (x := j104_l4) (by (first | (apply Int.le_antisymm <;> omega) | omega))
      have p119 := hpf.out j104_l4.toNatClampNeg (by (first | (apply Int.le_antisymm <;> omega) | omega))
      have p8 := hp8.out j104_l4.toNatClampNeg (by (first | (apply Int.le_antisymm <;> omega) | omega))
      refine lv_aload_n hx hb d_CO_writeTypes_119 rfl (lv_at hl 0 rfl) ?_
      refine va_get (D := (dC, dI)) (ci := 2) (v := .ref to) (C := R_CO) (T := F_CO) (N := 13) hx hb hts i_CO hown hK hP 0 rfl rfl 9 (by decide) (hts _ kF_CO_18) (fun _ h9 => h9) rfl d_CO_writeTypes_120 ?_
      refine lv_iload hx hb d_CO_writeTypes_123 (lv_at hl 3 rfl) ?_
      have g125 : vp_in j104_l4 20 := vp_in_iff.mpr ⟨by (first | (apply Int.le_antisymm <;> omega) | omega), by (first | (apply Int.le_antisymm <;> omega) | omega)⟩
      refine va_iald hx hb hK hP 2 0 rfl rfl g125 d_CO_writeTypes_125 ?_
      refine lv_topi (fun x7 ex7 => ?_)
      refine lv_iload_n hx hb d_CO_writeTypes_126 rfl (lv_at hl 2 rfl) ?_
      refine w_cut (pc2 := 139) (σ := Int32 × (Nat → Int32) × Int32) (fun u H locs ls => match u with | (j139_l3, j139_seb, j139_se_length) => (0 ≤ j139_se_length.toInt ∧ j139_se_length.toInt ≤ 8192) ∧ (1 ≤ j139_se_length.toInt ∧ j139_se_length.toInt ≤ 1 + 12 * (j104_l4.toInt + 1)) ∧ (0 ≤ j139_l3.toInt ∧ j139_l3.toInt ≤ j104_l4.toInt + 1) ∧ (bx (∃ (R bs : List Nat), tyI j4_to (tkF gpf) gfut (j104_l4.toNatClampNeg + 1) R ∧ (R.length : Int) = j139_l3.toInt ∧ tB (tkF gpf) gfut R bs ∧ bl j139_seb j139_se_length.toNatClampNeg = [j4_l2.toInt.toNat] ++ bs ∧ j139_se_length.toInt = 1 + (bs.length : Int) ∧ (bs.length : Int) ≤ 4 * (((j104_l4.toNatClampNeg + 1) : Nat) : Int) + (gpf ((j104_l4.toNatClampNeg + 1))).toInt - (gpf 0).toInt)) ∧ va_P (dC, dI) cls (wz_220 h0 pr kn lt h0_localCount pe h0_pendingCount h0_gives h0_depth h0_loopDepth to bo cs se pr gl fu pa pf sf pk pg pp pz pv pr_reason pr_place pr_scanner_r pr_stepCount pr_open pr_twoSides pr_waiting_r pr_waitingPlaces_r pr_waitingCount to cto j4_to pf cpf gpf fu tr fus fuz fut fuv fu_length fut cfut gfut pa tr pas paz pat pav pa_length pat cpat gpat ow owb ow_length owb cowb gowb se seb j139_se_length seb cseb j139_seb) H ∧ va_D A (wz_220 h0 pr kn lt h0_localCount pe h0_pendingCount h0_gives h0_depth h0_loopDepth to bo cs se pr gl fu pa pf sf pk pg pp pz pv pr_reason pr_place pr_scanner_r pr_stepCount pr_open pr_twoSides pr_waiting_r pr_waitingPlaces_r pr_waitingCount to cto j4_to pf cpf gpf fu tr fus fuz fut fuv fu_length fut cfut gfut pa tr pas paz pat pav pa_length pat cpat gpat ow owb ow_length owb cowb gowb se seb j139_se_length seb cseb j139_seb) ∧ va_S A s.heap H locs ∧ lv_has ls 5 [(0, .ref h0), (1, .ref ow), (3, .int j139_l3), (4, .int j104_l4)]) (fun u => match u with | (j139_l3, j139_seb, j139_se_length) => []) ?_ (fun jn139 => ?_)
      · intro u H locs ls hI
        obtain ⟨j139_l3, j139_seb, j139_se_length⟩ := u
        obtain ⟨b_j139_se_length, s139, t139, hB, hP, hD, hS, hl⟩ := hI
        obtain ⟨x8, ex8⟩ : ∃ z : Int32, z = j104_l4 + 1 := ⟨_, rfl⟩
        have tx8 : x8.toInt = j104_l4.toInt + 1 := by have z := i32_add ex8 (by (first | (apply Int.le_antisymm <;> omega) | omega)) (by (first | (apply Int.le_antisymm <;> omega) | omega)); first | exact z | (first | (apply Int.le_antisymm <;> omega) | omega)
        refine lv_iinc (v := x8) (lv' := [(4, .int x8), (0, .ref h0), (1, .ref ow), (3, .int j139_l3)]) hx hb d_CO_writeTypes_139 hl (k := 3) rfl (by rw [ex8]; rfl) (by decide) rfl (fun ls hl => ?_)
        refine lv_goto (tgt := 104) hx hb d_CO_writeTypes_142 (by decide) ?_
        exact ih104 (j139_l3, x8, j139_seb, j139_se_length) _ _ _ (by show (fu_length.toInt - x8.toInt).toNat < N104; (first | (apply Int.le_antisymm <;> omega) | omega)) ⟨b_j139_se_length, by (try dsimp only) <;> (first | (apply Int.le_antisymm <;> omega) | omega), (by rw [show x8.toNatClampNeg = j104_l4.toNatClampNeg + 1 from clampN (by have := i32_clamp (x := j104_l4) (by (first | (apply Int.le_antisymm <;> omega) | omega)); (first | (apply Int.le_antisymm <;> omega) | omega))]; exact hB), hP, hD, hS, lv_sub hl [1, 2, 3, 0] rfl⟩
      · skip
        refine lv_icmp_ne (tgt := 139) hx hb d_CO_writeTypes_127 (by decide) (fun c127 => ?_) (fun c127 => ?_)
        · have q127 := neI c127
          exact jn139 (j104_l3, j104_seb, j104_se_length) _ _ _ ⟨b_j104_se_length, by (try dsimp only) <;> (first | (apply Int.le_antisymm <;> omega) | omega), by (try dsimp only) <;> (first | (apply Int.le_antisymm <;> omega) | omega), (by obtain ⟨R, bs, y1, y2, y3, y4, y5, y6⟩ := hB.out; obtain ⟨R1, z1, z2⟩ := hT.out; have nw := tyI_new z1 (f := j104_l4.toNatClampNeg) (by have := i32_clamp (x := j104_l4) (by (first | (apply Int.le_antisymm <;> omega) | omega)); have := i32_clamp (x := j4_l3) (by (first | (apply Int.le_antisymm <;> omega) | omega)); (first | (apply Int.le_antisymm <;> omega) | omega)) y1; exact ⟨R, bs, nw.2 (by rw [← ex7]; (first | (apply Int.le_antisymm <;> omega) | omega)), y2, y3, y4, y5, by (first | (apply Int.le_antisymm <;> omega) | omega)⟩), hP, hD, hS, lv_sub hl [0, 1, 2, 3] rfl⟩
        · have q127 := eqI c127
          refine lv_aload_n hx hb d_CO_writeTypes_130 rfl (lv_at hl 0 rfl) ?_
          refine lv_iload hx hb d_CO_writeTypes_131 (lv_at hl 3 rfl) ?_
          have hPc := hP.sb (wq := (wz_217 h0 pr kn lt h0_localCount pe h0_pendingCount h0_gives h0_depth h0_loopDepth to bo cs se pr gl fu pa pf sf pk pg pp pz pv pr_reason pr_place pr_scanner_r pr_stepCount pr_open pr_twoSides pr_waiting_r pr_waitingPlaces_r pr_waitingCount se seb j104_se_length seb cseb j104_seb pf cpf gpf fu tr fus fuz fut fuv fu_length fut cfut gfut pa tr pas paz pat pav pa_length pat cpat gpat)) [0, 1, 10, 11, 3, 4, 5, 6, 7] rfl
          have hDc := hD.sb (wq := (wz_217 h0 pr kn lt h0_localCount pe h0_pendingCount h0_gives h0_depth h0_loopDepth to bo cs se pr gl fu pa pf sf pk pg pp pz pv pr_reason pr_place pr_scanner_r pr_stepCount pr_open pr_twoSides pr_waiting_r pr_waitingPlaces_r pr_waitingCount se seb j104_se_length seb cseb j104_seb pf cpf gpf fu tr fus fuz fut fuv fu_length fut cfut gfut pa tr pas paz pat pav pa_length pat cpat gpat)) [0, 1, 10, 11, 3, 4, 5, 6, 7] (by decide) rfl
          have hKc := hK.sb (tyq := [(cseb, .byte), (cpf, .int), (cfut, .int), (cpat, .int)]) [1, 2, 3, 4] rfl
          have hFc := va_free (wc := (wz_217 h0 pr kn lt h0_localCount pe h0_pendingCount h0_gives h0_depth h0_loopDepth to bo cs se pr gl fu pa pf sf pk pg pp pz pv pr_reason pr_place pr_scanner_r pr_stepCount pr_open pr_twoSides pr_waiting_r pr_waitingPlaces_r pr_waitingCount se seb j104_se_length seb cseb j104_seb pf cpf gpf fu tr fus fuz fut fuv fu_length fut cfut gfut pa tr pas paz pat pav pa_length pat cpat gpat)) hD hS hA [0, 1, 10, 11, 3, 4, 5, 6, 7] rfl
          refine va_callv (va_runV (As := [.int j104_l4]) (rest := []) ⟨hx, hb, hml, hown, hts⟩ (c_CO_writeType l dC dI H.size h0 pr kn lt pe to bo cs se gl fu pa pf sf pk pg pp pz pv pr_scanner_r pr_waiting_r pr_waitingPlaces_r seb tr fus fuz fut fuv pas paz pat pav cseb cpf cfut cpat h0_localCount h0_pendingCount h0_gives h0_depth h0_loopDepth pr_reason pr_place pr_stepCount pr_open pr_twoSides pr_waitingCount j104_se_length j104_seb gpf fu_length gfut pa_length gpat (b_j104_se_length) (b_fu_length) (b_pa_length) j104_l4 (by (first | (apply Int.le_antisymm <;> omega) | omega)) (hpf) (hpq) (hfq) (by (first | (apply Int.le_antisymm <;> omega) | omega)) (p8) (by (first | (apply Int.le_antisymm <;> omega) | omega))) (cwV 1 hts (gV kM_CO_296 kV_CO_writeType kS_CO_writeType kI_CO kC_CO_writeType) rfl rfl rfl (by decide +kernel) ⟨Nat.le_of_ble_eq_true rfl, Nat.le_of_ble_eq_true rfl⟩) ⟨fun a U g mk z => by obtain ⟨z0, z1, zP, zK, zD⟩ := z; exact ⟨z0, z1, zP, va_K.moved (u := U) (U := U.calling g mk a) (Vm.Alike.refl U.vm) zK, zD⟩, va_recv hKc hPc (ci := 2) (q0 := 0) rfl rfl, fun U hU hW => ⟨rfl, by rw [hU], va_P.he hU.symm hPc, va_K.moved hW.alike hKc, hDc.weaken (fun _ _ _ _ => trivial)⟩⟩ rfl rfl hl.1 rfl (lv_room (Nat.le_of_ble_eq_true rfl)) d_CO_writeTypes_133 ⟨(Nat.zero_le _), (Nat.zero_le _)⟩) hS (fun q _ h => hFc q h) hFc (fun u t H1 locs ht hvm hw hB hz1 hk1 hS => ?_)
          obtain ⟨n10, n11⟩ := u
          try dsimp only at hw
          obtain ⟨bn11, xr9⟩ := hw
          try clear hw
          obtain ⟨hP1, hK1, hD1⟩ := hB
          replace hP1 := va_P.he ht hP1
          obtain ⟨hP, hD⟩ := va_join (wr := [(to, .inl (cto, 20, .inl j4_to)), (ow, .inr (1, [.ref owb, .int ow_length])), (owb, .inl (cowb, 8192, .inl gowb))]) (w1 := (wz_217 h0 pr kn lt h0_localCount pe h0_pendingCount h0_gives h0_depth h0_loopDepth to bo cs se pr gl fu pa pf sf pk pg pp pz pv pr_reason pr_place pr_scanner_r pr_stepCount pr_open pr_twoSides pr_waiting_r pr_waitingPlaces_r pr_waitingCount se seb n11 seb cseb n10 pf cpf gpf fu tr fus fuz fut fuv fu_length fut cfut gfut pa tr pas paz pat pav pa_length pat cpat gpat)) hP hD [0, 1, 10, 11, 3, 4, 5, 6, 7] [2, 8, 9] rfl rfl (by decide) (by decide) hk1 hFc hP1 hD1
          clear hPc hDc hKc hFc hz1 hk1 hP1 hK1 hD1
          rename Heap => H
          have hP : va_P (dC, dI) cls [(to, .inl (cto, 20, .inl j4_to)), (ow, .inr (1, [.ref owb, .int ow_length])), (owb, .inl (cowb, 8192, .inl gowb)), (h0, .inr (2, [.ref pr, .ref kn, .ref lt, .int h0_localCount, .ref pe, .int h0_pendingCount, .int h0_gives, .int h0_depth, .int h0_loopDepth, .ref to, .ref bo, .ref cs, .ref se])), (pr, .inr (6, [.ref gl, .ref fu, .ref pa, .ref pf, .ref sf, .ref pk, .ref pg, .ref pp, .ref pz, .ref pv, .int pr_reason, .int pr_place, .ref pr_scanner_r, .int pr_stepCount, .int pr_open, .int pr_twoSides, .ref pr_waiting_r, .ref pr_waitingPlaces_r, .int pr_waitingCount])), (se, .inr (1, [.ref seb, .int n11])), (seb, .inl (cseb, 8192, .inl n10)), (pf, .inl (cpf, 21, .inl gpf)), (fu, .inr (5, [.ref tr, .ref fus, .ref fuz, .ref fut, .ref fuv, .int fu_length])), (fut, .inl (cfut, 20, .inl gfut)), (pa, .inr (5, [.ref tr, .ref pas, .ref paz, .ref pat, .ref pav, .int pa_length])), (pat, .inl (cpat, 160, .inl gpat))] H := hP
          have hD : va_D A [(to, .inl (cto, 20, .inl j4_to)), (ow, .inr (1, [.ref owb, .int ow_length])), (owb, .inl (cowb, 8192, .inl gowb)), (h0, .inr (2, [.ref pr, .ref kn, .ref lt, .int h0_localCount, .ref pe, .int h0_pendingCount, .int h0_gives, .int h0_depth, .int h0_loopDepth, .ref to, .ref bo, .ref cs, .ref se])), (pr, .inr (6, [.ref gl, .ref fu, .ref pa, .ref pf, .ref sf, .ref pk, .ref pg, .ref pp, .ref pz, .ref pv, .int pr_reason, .int pr_place, .ref pr_scanner_r, .int pr_stepCount, .int pr_open, .int pr_twoSides, .ref pr_waiting_r, .ref pr_waitingPlaces_r, .int pr_waitingCount])), (se, .inr (1, [.ref seb, .int n11])), (seb, .inl (cseb, 8192, .inl n10)), (pf, .inl (cpf, 21, .inl gpf)), (fu, .inr (5, [.ref tr, .ref fus, .ref fuz, .ref fut, .ref fuv, .int fu_length])), (fut, .inl (cfut, 20, .inl gfut)), (pa, .inr (5, [.ref tr, .ref pas, .ref paz, .ref pat, .ref pav, .int pa_length])), (pat, .inl (cpat, 160, .inl gpat))] := hD
          obtain ⟨x12, ex12⟩ : ∃ z : Int32, z = j104_l3 + 1 := ⟨_, rfl⟩
          have tx12 : x12.toInt = j104_l3.toInt + 1 := by have z := i32_add ex12 (by (first | (apply Int.le_antisymm <;> omega) | omega)) (by (first | (apply Int.le_antisymm <;> omega) | omega)); first | exact z | (first | (apply Int.le_antisymm <;> omega) | omega)
          refine lv_iinc (v := x12) (lv' := [(3, .int x12), (0, .ref h0), (1, .ref ow), (4, .int j104_l4)]) hx hb d_CO_writeTypes_136 hl (k := 2) rfl (by rw [ex12]; rfl) (by decide) rfl (fun ls hl => ?_)
          exact jn139 (x12, n10, n11) _ _ _ ⟨bn11, (by obtain ⟨e, v1, v2, v3⟩ := xr9; have v4 := isT_len v1; (first | (apply Int.le_antisymm <;> omega) | omega)), by (try dsimp only) <;> (first | (apply Int.le_antisymm <;> omega) | omega), (by obtain ⟨R, bs, y1, y2, y3, y4, y5, y6⟩ := hB.out; obtain ⟨R1, z1, z2⟩ := hT.out; have nw := tyI_new z1 (f := j104_l4.toNatClampNeg) (by have := i32_clamp (x := j104_l4) (by (first | (apply Int.le_antisymm <;> omega) | omega)); have := i32_clamp (x := j4_l3) (by (first | (apply Int.le_antisymm <;> omega) | omega)); (first | (apply Int.le_antisymm <;> omega) | omega)) y1; obtain ⟨e, v1, v2, v3⟩ := xr9; have v4 := isT_len v1; exact ⟨R ++ [_], bs ++ e, nw.1 (by rw [← ex7]; (first | (apply Int.le_antisymm <;> omega) | omega)), by rw [List.length_append, List.length_singleton]; (first | (apply Int.le_antisymm <;> omega) | omega), tB_snoc v1 R y3, by rw [v3, y4, List.append_assoc], by rw [List.length_append]; (first | (apply Int.le_antisymm <;> omega) | omega), by rw [List.length_append]; unfold tkF at v4; (first | (apply Int.le_antisymm <;> omega) | omega)⟩), hP.sub [3, 4, 0, 7, 8, 9, 10, 11, 1, 2, 5, 6] rfl, hD.sub [3, 4, 0, 7, 8, 9, 10, 11, 1, 2, 5, 6] (by decide) rfl, hS, lv_sub hl [1, 2, 0, 3] rfl⟩
  · have q15 := nleI c15
    refine lv_aload_n hx hb d_CO_writeTypes_18 rfl (lv_at hl 0 rfl) ?_
    refine va_get (D := (dC, dI)) (ci := 2) (v := .ref to) (C := R_CO) (T := F_CO) (N := 13) hx hb hts i_CO hown hK hP 0 rfl rfl 9 (by decide) (hts _ kF_CO_18) (fun _ h9 => h9) rfl d_CO_writeTypes_19 ?_
    refine lv_iload_n hx hb d_CO_writeTypes_22 rfl (lv_at hl 3 rfl) ?_
    refine lv_iload_n hx hb d_CO_writeTypes_23 rfl (lv_at hl 2 rfl) ?_
    have g24 : vp_in j4_l3 20 := vp_in_iff.mpr ⟨by (first | (apply Int.le_antisymm <;> omega) | omega), by (first | (apply Int.le_antisymm <;> omega) | omega)⟩
    refine va_iast hx hb hK hP hD hS 2 0 rfl rfl g24 d_CO_writeTypes_24 (fun H locs hP hD hS => ?_)
    generalize ef13 : upd j4_to j4_l3.toNatClampNeg j4_l2 = f13 at hP hD
    refine lv_iload_n hx hb d_CO_writeTypes_25 rfl (lv_at hl 3 rfl) ?_
    refine lv_iconst (v := 1) hx hb d_CO_writeTypes_26 (by decide) ?_
    refine lv_isub hx hb d_CO_writeTypes_27 ?_
    refine lv_topi (fun x14 ex14 => ?_)
    have tx14 : x14.toInt = j4_l3.toInt - 1 := by have z := i32_sub ex14 (by (first | (apply Int.le_antisymm <;> omega) | omega)) (by (first | (apply Int.le_antisymm <;> omega) | omega)); first | exact z | (first | (apply Int.le_antisymm <;> omega) | omega)
    refine lv_istore (lv' := [(4, .int x14), (0, .ref h0), (1, .ref ow), (2, .int j4_l2), (3, .int j4_l3)]) hx hb d_CO_writeTypes_28 hl (by decide) rfl (fun ls hl => ?_)
    refine w_loop (σ := Int32 × (Nat → Int32)) (fun u H locs ls => match u with | (j30_l4, j30_to) => (-1 ≤ j30_l4.toInt ∧ j30_l4.toInt < j4_l3.toInt) ∧ (bx (∃ R : List Nat, tyG j30_to (tkF gpf) gfut j4_l3.toNatClampNeg R ∧ (R.length : Int) = j4_l2.toInt)) ∧ va_P (dC, dI) cls (wz_219 h0 pr kn lt h0_localCount pe h0_pendingCount h0_gives h0_depth h0_loopDepth to bo cs se pr gl fu pa pf sf pk pg pp pz pv pr_reason pr_place pr_scanner_r pr_stepCount pr_open pr_twoSides pr_waiting_r pr_waitingPlaces_r pr_waitingCount to cto j30_to se seb se_length seb cseb gseb pf cpf gpf fu tr fus fuz fut fuv fu_length fut cfut gfut pa tr pas paz pat pav pa_length pat cpat gpat ow owb ow_length owb cowb gowb) H ∧ va_D A (wz_219 h0 pr kn lt h0_localCount pe h0_pendingCount h0_gives h0_depth h0_loopDepth to bo cs se pr gl fu pa pf sf pk pg pp pz pv pr_reason pr_place pr_scanner_r pr_stepCount pr_open pr_twoSides pr_waiting_r pr_waitingPlaces_r pr_waitingCount to cto j30_to se seb se_length seb cseb gseb pf cpf gpf fu tr fus fuz fut fuv fu_length fut cfut gfut pa tr pas paz pat pav pa_length pat cpat gpat ow owb ow_length owb cowb gowb) ∧ va_S A s.heap H locs ∧ lv_has ls 5 [(0, .ref h0), (1, .ref ow), (2, .int j4_l2), (3, .int j4_l3), (4, .int j30_l4)]) (fun u => match u with | (j30_l4, j30_to) => (j30_l4.toInt + 1).toNat) ?_ (x14, f13) ⟨by (try dsimp only) <;> (first | (apply Int.le_antisymm <;> omega) | omega), (by obtain ⟨R, y1, y2⟩ := hT.out; exact ⟨R, (by rw [← ef13]; exact tyG_0 y1 y2.symm), y2⟩), hP, hD, hS, lv_sub hl [1, 2, 3, 4, 0] rfl⟩
    intro N30 ih30 u H locs ls hN30 hI
    obtain ⟨j30_l4, j30_to⟩ := u
    obtain ⟨u1, hG, hP, hD, hS, hl⟩ := hI
    have hN30 : (j30_l4.toInt + 1).toNat < N30 + 1 := hN30
    refine lv_iload hx hb d_CO_writeTypes_30 (lv_at hl 4 rfl) ?_
    refine lv_if_lt (tgt := 64) hx hb d_CO_writeTypes_32 (by decide) (fun c32 => ?_) (fun c32 => ?_)
    · have q32 := ltI c32
      refine lv_aload_n hx hb d_CO_writeTypes_64 rfl (lv_at hl 0 rfl) ?_
      refine va_get (D := (dC, dI)) (ci := 2) (v := .ref to) (C := R_CO) (T := F_CO) (N := 13) hx hb hts i_CO hown hK hP 0 rfl rfl 9 (by decide) (hts _ kF_CO_18) (fun _ h9 => h9) rfl d_CO_writeTypes_65 ?_
      refine lv_iload_n hx hb d_CO_writeTypes_68 rfl (lv_at hl 3 rfl) ?_
      have g69 : vp_in j4_l3 20 := vp_in_iff.mpr ⟨by (first | (apply Int.le_antisymm <;> omega) | omega), by (first | (apply Int.le_antisymm <;> omega) | omega)⟩
      refine va_iald hx hb hK hP 2 0 rfl rfl g69 d_CO_writeTypes_69 ?_
      refine lv_topi (fun x15 ex15 => ?_)
      refine lv_iload_n hx hb d_CO_writeTypes_70 rfl (lv_at hl 2 rfl) ?_
      refine w_cut (pc2 := 77) (σ := Int32) (fun u H locs ls => match u with | j77_l2 => (bx (∃ R : List Nat, tyI j30_to (tkF gpf) gfut (j4_l3.toNatClampNeg + 1) R ∧ (R.length : Int) = j77_l2.toInt)) ∧ (0 ≤ j77_l2.toInt ∧ j77_l2.toInt ≤ j4_l3.toInt + 1) ∧ va_P (dC, dI) cls (wz_219 h0 pr kn lt h0_localCount pe h0_pendingCount h0_gives h0_depth h0_loopDepth to bo cs se pr gl fu pa pf sf pk pg pp pz pv pr_reason pr_place pr_scanner_r pr_stepCount pr_open pr_twoSides pr_waiting_r pr_waitingPlaces_r pr_waitingCount to cto j30_to se seb se_length seb cseb gseb pf cpf gpf fu tr fus fuz fut fuv fu_length fut cfut gfut pa tr pas paz pat pav pa_length pat cpat gpat ow owb ow_length owb cowb gowb) H ∧ va_D A (wz_219 h0 pr kn lt h0_localCount pe h0_pendingCount h0_gives h0_depth h0_loopDepth to bo cs se pr gl fu pa pf sf pk pg pp pz pv pr_reason pr_place pr_scanner_r pr_stepCount pr_open pr_twoSides pr_waiting_r pr_waitingPlaces_r pr_waitingCount to cto j30_to se seb se_length seb cseb gseb pf cpf gpf fu tr fus fuz fut fuv fu_length fut cfut gfut pa tr pas paz pat pav pa_length pat cpat gpat ow owb ow_length owb cowb gowb) ∧ va_S A s.heap H locs ∧ lv_has ls 5 [(0, .ref h0), (1, .ref ow), (2, .int j77_l2), (3, .int j4_l3)]) (fun u => match u with | j77_l2 => []) ?_ (fun jn77 => ?_)
      · intro u H locs ls hI
        obtain ⟨j77_l2, rfl⟩ : ∃ z, z = u := ⟨_, rfl⟩
        obtain ⟨y77, z77, hP, hD, hS, hl⟩ := hI
        obtain ⟨x16, ex16⟩ : ∃ z : Int32, z = j4_l3 + 1 := ⟨_, rfl⟩
        have tx16 : x16.toInt = j4_l3.toInt + 1 := by have z := i32_add ex16 (by (first | (apply Int.le_antisymm <;> omega) | omega)) (by (first | (apply Int.le_antisymm <;> omega) | omega)); first | exact z | (first | (apply Int.le_antisymm <;> omega) | omega)
        refine lv_iinc (v := x16) (lv' := [(3, .int x16), (0, .ref h0), (1, .ref ow), (2, .int j77_l2)]) hx hb d_CO_writeTypes_77 hl (k := 3) rfl (by rw [ex16]; rfl) (by decide) rfl (fun ls hl => ?_)
        refine lv_goto (tgt := 4) hx hb d_CO_writeTypes_80 (by decide) ?_
        exact ih4 (j77_l2, x16, j30_to) _ _ _ (by show (fu_length.toInt - x16.toInt).toNat < N4; (first | (apply Int.le_antisymm <;> omega) | omega)) ⟨by (try dsimp only) <;> (first | (apply Int.le_antisymm <;> omega) | omega), (by rw [show x16.toNatClampNeg = j4_l3.toNatClampNeg + 1 from clampN (by have := i32_clamp (x := j4_l3) (by (first | (apply Int.le_antisymm <;> omega) | omega)); (first | (apply Int.le_antisymm <;> omega) | omega))]; exact y77), hP, hD, hS, lv_sub hl [1, 2, 3, 0] rfl⟩
      · skip
        refine lv_icmp_ne (tgt := 77) hx hb d_CO_writeTypes_71 (by decide) (fun c71 => ?_) (fun c71 => ?_)
        · have q71 := neI c71
          exact jn77 j4_l2 _ _ _ ⟨(by obtain ⟨R, y1, y2⟩ := hG.out; exact ⟨R, tyG_old y1 (by rw [← ex15]; (first | (apply Int.le_antisymm <;> omega) | omega)), y2⟩), by (try dsimp only) <;> (first | (apply Int.le_antisymm <;> omega) | omega), hP, hD, hS, lv_sub hl [0, 1, 2, 3] rfl⟩
        · have q71 := eqI c71
          obtain ⟨x17, ex17⟩ : ∃ z : Int32, z = j4_l2 + 1 := ⟨_, rfl⟩
          have tx17 : x17.toInt = j4_l2.toInt + 1 := by have z := i32_add ex17 (by (first | (apply Int.le_antisymm <;> omega) | omega)) (by (first | (apply Int.le_antisymm <;> omega) | omega)); first | exact z | (first | (apply Int.le_antisymm <;> omega) | omega)
          refine lv_iinc (v := x17) (lv' := [(2, .int x17), (0, .ref h0), (1, .ref ow), (3, .int j4_l3), (4, .int j30_l4)]) hx hb d_CO_writeTypes_74 hl (k := 2) rfl (by rw [ex17]; rfl) (by decide) rfl (fun ls hl => ?_)
          exact jn77 x17 _ _ _ ⟨(by obtain ⟨R, y1, y2⟩ := hG.out; exact ⟨R ++ [_], tyG_new y1 (by rw [← ex15]; (first | (apply Int.le_antisymm <;> omega) | omega)), by rw [List.length_append, List.length_singleton]; (first | (apply Int.le_antisymm <;> omega) | omega)⟩), by (try dsimp only) <;> (first | (apply Int.le_antisymm <;> omega) | omega), hP, hD, hS, lv_sub hl [1, 2, 0, 3] rfl⟩
    · have q32 := nltI c32
      refine lv_aload_n hx hb d_CO_writeTypes_35 rfl (lv_at hl 0 rfl) ?_
      refine lv_iload_n hx hb d_CO_writeTypes_36 rfl (lv_at hl 3 rfl) ?_
      refine lv_iload hx hb d_CO_writeTypes_37 (lv_at hl 4 rfl) ?_
      have hPc := hP.sb (wq := (wz_216 h0 pr kn lt h0_localCount pe h0_pendingCount h0_gives h0_depth h0_loopDepth to bo cs se pr gl fu pa pf sf pk pg pp pz pv pr_reason pr_place pr_scanner_r pr_stepCount pr_open pr_twoSides pr_waiting_r pr_waitingPlaces_r pr_waitingCount pf cpf gpf fu tr fus fuz fut fuv fu_length fut cfut gfut pa tr pas paz pat pav pa_length pat cpat gpat)) [0, 1, 5, 6, 7, 8, 9] rfl
      have hDc := hD.sb (wq := (wz_216 h0 pr kn lt h0_localCount pe h0_pendingCount h0_gives h0_depth h0_loopDepth to bo cs se pr gl fu pa pf sf pk pg pp pz pv pr_reason pr_place pr_scanner_r pr_stepCount pr_open pr_twoSides pr_waiting_r pr_waitingPlaces_r pr_waitingCount pf cpf gpf fu tr fus fuz fut fuv fu_length fut cfut gfut pa tr pas paz pat pav pa_length pat cpat gpat)) [0, 1, 5, 6, 7, 8, 9] (by decide) rfl
      have hKc := hK.sb (tyq := [(cpf, .int), (cfut, .int), (cpat, .int)]) [2, 3, 4] rfl
      have hFc := va_free (wc := (wz_216 h0 pr kn lt h0_localCount pe h0_pendingCount h0_gives h0_depth h0_loopDepth to bo cs se pr gl fu pa pf sf pk pg pp pz pv pr_reason pr_place pr_scanner_r pr_stepCount pr_open pr_twoSides pr_waiting_r pr_waitingPlaces_r pr_waitingCount pf cpf gpf fu tr fus fuz fut fuv fu_length fut cfut gfut pa tr pas paz pat pav pa_length pat cpat gpat)) hD hS hA [0, 1, 5, 6, 7, 8, 9] rfl
      refine va_calli (va_runV (As := [.int j4_l3, .int j30_l4]) (rest := []) ⟨hx, hb, hml, hown, hts⟩ (c_CO_isSameType l dC dI H.size h0 pr kn lt pe to bo cs se gl fu pa pf sf pk pg pp pz pv pr_scanner_r pr_waiting_r pr_waitingPlaces_r tr fus fuz fut fuv pas paz pat pav cpf cfut cpat h0_localCount h0_pendingCount h0_gives h0_depth h0_loopDepth pr_reason pr_place pr_stepCount pr_open pr_twoSides pr_waitingCount gpf fu_length gfut pa_length gpat (b_fu_length) (b_pa_length) j4_l3 j30_l4 (by (first | (apply Int.le_antisymm <;> omega) | omega)) (hpf) (by (first | (apply Int.le_antisymm <;> omega) | omega))) (cwV 2 hts (gV kM_CO_292 kV_CO_isSameType kS_CO_isSameType kI_CO kC_CO_isSameType) rfl rfl rfl (by decide +kernel) ⟨Nat.le_of_ble_eq_true rfl, Nat.le_of_ble_eq_true rfl⟩) ⟨fun a U g mk z => by obtain ⟨z0, z1, zP, zK, zD⟩ := z; exact ⟨z0, z1, zP, va_K.moved (u := U) (U := U.calling g mk a) (Vm.Alike.refl U.vm) zK, zD⟩, va_recv hKc hPc (ci := 2) (q0 := 0) rfl rfl, fun U hU hW => ⟨rfl, by rw [hU], va_P.he hU.symm hPc, va_K.moved hW.alike hKc, hDc.weaken (fun _ _ _ _ => trivial)⟩⟩ rfl rfl hl.1 rfl (lv_room (Nat.le_of_ble_eq_true rfl)) d_CO_writeTypes_39 ⟨(Nat.zero_le _), (Nat.zero_le _)⟩) hS (fun q _ h => hFc q h) hFc (fun r18 u t H1 locs ht hvm hw hB hz1 hk1 hS => ?_)
      try dsimp only at hw
      obtain ⟨br18, xr18⟩ := hw
      try clear hw
      have tr18 := b01 br18
      obtain ⟨hP1, hK1, hD1⟩ := hB
      replace hP1 := va_P.he ht hP1
      obtain ⟨hP, hD⟩ := va_join (wr := [(to, .inl (cto, 20, .inl j30_to)), (se, .inr (1, [.ref seb, .int se_length])), (seb, .inl (cseb, 8192, .inl gseb)), (ow, .inr (1, [.ref owb, .int ow_length])), (owb, .inl (cowb, 8192, .inl gowb))]) (w1 := (wz_216 h0 pr kn lt h0_localCount pe h0_pendingCount h0_gives h0_depth h0_loopDepth to bo cs se pr gl fu pa pf sf pk pg pp pz pv pr_reason pr_place pr_scanner_r pr_stepCount pr_open pr_twoSides pr_waiting_r pr_waitingPlaces_r pr_waitingCount pf cpf gpf fu tr fus fuz fut fuv fu_length fut cfut gfut pa tr pas paz pat pav pa_length pat cpat gpat)) hP hD [0, 1, 5, 6, 7, 8, 9] [2, 3, 4, 10, 11] rfl rfl (by decide) (by decide) hk1 hFc hP1 hD1
      clear hPc hDc hKc hFc hz1 hk1 hP1 hK1 hD1
      rename Heap => H
      have hP : va_P (dC, dI) cls (wz_221 to cto j30_to se seb se_length seb cseb gseb ow owb ow_length owb cowb gowb h0 pr kn lt h0_localCount pe h0_pendingCount h0_gives h0_depth h0_loopDepth to bo cs se pr gl fu pa pf sf pk pg pp pz pv pr_reason pr_place pr_scanner_r pr_stepCount pr_open pr_twoSides pr_waiting_r pr_waitingPlaces_r pr_waitingCount pf cpf gpf fu tr fus fuz fut fuv fu_length fut cfut gfut pa tr pas paz pat pav pa_length pat cpat gpat) H := hP
      have hD : va_D A (wz_221 to cto j30_to se seb se_length seb cseb gseb ow owb ow_length owb cowb gowb h0 pr kn lt h0_localCount pe h0_pendingCount h0_gives h0_depth h0_loopDepth to bo cs se pr gl fu pa pf sf pk pg pp pz pv pr_reason pr_place pr_scanner_r pr_stepCount pr_open pr_twoSides pr_waiting_r pr_waitingPlaces_r pr_waitingCount pf cpf gpf fu tr fus fuz fut fuv fu_length fut cfut gfut pa tr pas paz pat pav pa_length pat cpat gpat) := hD
      refine w_cut (pc2 := 58) (σ := (Nat → Int32)) (fun u H locs ls => match u with | j58_to => (bx (∃ R : List Nat, tyG j58_to (tkF gpf) gfut j4_l3.toNatClampNeg R ∧ (R.length : Int) = j4_l2.toInt)) ∧ va_P (dC, dI) cls (wz_221 to cto j58_to se seb se_length seb cseb gseb ow owb ow_length owb cowb gowb h0 pr kn lt h0_localCount pe h0_pendingCount h0_gives h0_depth h0_loopDepth to bo cs se pr gl fu pa pf sf pk pg pp pz pv pr_reason pr_place pr_scanner_r pr_stepCount pr_open pr_twoSides pr_waiting_r pr_waitingPlaces_r pr_waitingCount pf cpf gpf fu tr fus fuz fut fuv fu_length fut cfut gfut pa tr pas paz pat pav pa_length pat cpat gpat) H ∧ va_D A (wz_221 to cto j58_to se seb se_length seb cseb gseb ow owb ow_length owb cowb gowb h0 pr kn lt h0_localCount pe h0_pendingCount h0_gives h0_depth h0_loopDepth to bo cs se pr gl fu pa pf sf pk pg pp pz pv pr_reason pr_place pr_scanner_r pr_stepCount pr_open pr_twoSides pr_waiting_r pr_waitingPlaces_r pr_waitingCount pf cpf gpf fu tr fus fuz fut fuv fu_length fut cfut gfut pa tr pas paz pat pav pa_length pat cpat gpat) ∧ va_S A s.heap H locs ∧ lv_has ls 5 [(0, .ref h0), (1, .ref ow), (2, .int j4_l2), (3, .int j4_l3), (4, .int j30_l4)]) (fun u => match u with | j58_to => []) ?_ (fun jn58 => ?_)
      · intro u H locs ls hI
        obtain ⟨j58_to, rfl⟩ : ∃ z, z = u := ⟨_, rfl⟩
        obtain ⟨hG, hP, hD, hS, hl⟩ := hI
        obtain ⟨x19, ex19⟩ : ∃ z : Int32, z = j30_l4 + (-1) := ⟨_, rfl⟩
        have tx19 : x19.toInt = j30_l4.toInt + (-1) := by have z := i32_add ex19 (by (first | (apply Int.le_antisymm <;> omega) | omega)) (by (first | (apply Int.le_antisymm <;> omega) | omega)); first | exact z | (first | (apply Int.le_antisymm <;> omega) | omega)
        refine lv_iinc (v := x19) (lv' := [(4, .int x19), (0, .ref h0), (1, .ref ow), (2, .int j4_l2), (3, .int j4_l3)]) hx hb d_CO_writeTypes_58 hl (k := 4) rfl (by rw [ex19]; rfl) (by decide) rfl (fun ls hl => ?_)
        refine lv_goto (tgt := 30) hx hb d_CO_writeTypes_61 (by decide) ?_
        exact ih30 (x19, j58_to) _ _ _ (by show (x19.toInt + 1).toNat < N30; (first | (apply Int.le_antisymm <;> omega) | omega)) ⟨by (try dsimp only) <;> (first | (apply Int.le_antisymm <;> omega) | omega), hG, hP.sub [5, 6, 0, 1, 2, 7, 8, 9, 10, 11, 3, 4] rfl, hD.sub [5, 6, 0, 1, 2, 7, 8, 9, 10, 11, 3, 4] (by decide) rfl, hS, lv_sub hl [1, 2, 3, 4, 0] rfl⟩
      · skip
        refine lv_if_eq (tgt := 58) hx hb d_CO_writeTypes_42 (by decide) (fun c42 => ?_) (fun c42 => ?_)
        · have q42 := eqI c42
          exact jn58 j30_to _ _ _ ⟨hG, hP, hD, hS, lv_sub hl [0, 1, 2, 3, 4] rfl⟩
        · have q42 := neI c42
          refine lv_aload_n hx hb d_CO_writeTypes_45 rfl (lv_at hl 0 rfl) ?_
          refine va_get (D := (dC, dI)) (ci := 2) (v := .ref to) (C := R_CO) (T := F_CO) (N := 13) hx hb hts i_CO hown hK hP 5 rfl rfl 9 (by decide) (hts _ kF_CO_18) (fun _ h9 => h9) rfl d_CO_writeTypes_46 ?_
          refine lv_iload_n hx hb d_CO_writeTypes_49 rfl (lv_at hl 3 rfl) ?_
          refine lv_aload_n hx hb d_CO_writeTypes_50 rfl (lv_at hl 0 rfl) ?_
          refine va_get (D := (dC, dI)) (ci := 2) (v := .ref to) (C := R_CO) (T := F_CO) (N := 13) hx hb hts i_CO hown hK hP 5 rfl rfl 9 (by decide) (hts _ kF_CO_18) (fun _ h9 => h9) rfl d_CO_writeTypes_51 ?_
          refine lv_iload hx hb d_CO_writeTypes_54 (lv_at hl 4 rfl) ?_
          have g56 : vp_in j30_l4 20 := vp_in_iff.mpr ⟨by (first | (apply Int.le_antisymm <;> omega) | omega), by (first | (apply Int.le_antisymm <;> omega) | omega)⟩
          refine va_iald hx hb hK hP 0 0 rfl rfl g56 d_CO_writeTypes_56 ?_
          refine lv_topi (fun x20 ex20 => ?_)
          have g57 : vp_in j4_l3 20 := vp_in_iff.mpr ⟨by (first | (apply Int.le_antisymm <;> omega) | omega), by (first | (apply Int.le_antisymm <;> omega) | omega)⟩
          refine va_iast hx hb hK hP hD hS 0 0 rfl rfl g57 d_CO_writeTypes_57 (fun H locs hP hD hS => ?_)
          generalize ef21 : upd j30_to j4_l3.toNatClampNeg x20 = f21 at hP hD
          exact jn58 f21 _ _ _ ⟨(by obtain ⟨R, y1, y2⟩ := hG.out; have q := xr18 (by rcases br18 with z | z; (exfalso; rw [z] at q42; exact q42 rfl); exact z); exact ⟨R, (by rw [← ef21, ex20]; exact tyG_on y1 (by have := i32_clamp (x := j30_l4) (by (first | (apply Int.le_antisymm <;> omega) | omega)); have := i32_clamp (x := j4_l3) (by (first | (apply Int.le_antisymm <;> omega) | omega)); (first | (apply Int.le_antisymm <;> omega) | omega)) q.1 q.2), y2⟩), hP, hD, hS, lv_sub hl [0, 1, 2, 3, 4] rfl⟩
end q_80
section q_81
/-! Coder: the other sections -/
def tol (to : Nat → Int32) (n : Nat) : List Nat := (List.range n).map (fun f => (to f).toInt.toNat)
theorem tol_succ {to : Nat → Int32} {n : Nat} : tol to (n + 1) = tol to n ++ [(to n).toInt.toNat] := by
  unfold tol
  rw [List.range_succ, List.map_append]
  rfl
theorem tol_len {to : Nat → Int32} {n : Nat} : (tol to n).length = n := by
  unfold tol
  rw [List.length_map, List.length_range]
def gl1 (x : Nat × Int) : List Nat := x.1 :: 1 :: (if x.1 = 127 then 65 else 66) :: (sleb 10 x.2 ++ [11])
def gbl : List (Nat × Int) → List Nat
  | [] => []
  | x :: L => gl1 x ++ gbl L
theorem gbl_app {a b : List (Nat × Int)} : gbl (a ++ b) = gbl a ++ gbl b := by
  induction a with
  | nil => rfl
  | cons x a ih =>
    show gl1 x ++ gbl (a ++ b) = gl1 x ++ gbl a ++ gbl b
    rw [ih, List.append_assoc]
theorem gbl_one {x : Nat × Int} : gbl [x] = gl1 x := List.append_nil _
def gok (x : Nat × Int) : Prop := (x.1 = 127 ∧ -2147483648 ≤ x.2 ∧ x.2 ≤ 2147483647) ∨ (x.1 = 126 ∧ -9223372036854775808 ≤ x.2 ∧ x.2 ≤ 9223372036854775807)
theorem sleb_b : ∀ (m k : Nat) (v : Int), -(2 ^ (7 * m + 6) : Int) ≤ v → v < 2 ^ (7 * m + 6) → (sleb k v).length ≤ m + 1 := by
  intro m
  induction m with
  | zero =>
    intro k v h1 h2
    have h1 : -(64 : Int) ≤ v := h1
    have h2 : v < 64 := h2
    rw [sleb_end (Or.inr (by (first | (apply Int.le_antisymm <;> omega) | omega))), List.length_singleton]
    exact Nat.le_refl _
  | succ m ih =>
    intro k v h1 h2
    cases k with
    | zero => rw [sleb_end (Or.inl rfl), List.length_singleton]; (first | (apply Int.le_antisymm <;> omega) | omega)
    | succ k =>
      by_cases q : v < -64 ∨ 63 < v
      · rw [sleb_go q, List.length_cons]
        have e : (2 : Int) ^ (7 * (m + 1) + 6) = 2 ^ (7 * m + 6) * 128 := by
          rw [show 7 * (m + 1) + 6 = (7 * m + 6) + 7 by (first | (apply Int.le_antisymm <;> omega) | omega), Int.pow_add]
          rfl
        rw [e] at h1 h2
        have := ih k (v / 128) (by (first | (apply Int.le_antisymm <;> omega) | omega)) (by (first | (apply Int.le_antisymm <;> omega) | omega))
        (first | (apply Int.le_antisymm <;> omega) | omega)
      · rw [sleb_end (Or.inr (by (first | (apply Int.le_antisymm <;> omega) | omega))), List.length_singleton]
        (first | (apply Int.le_antisymm <;> omega) | omega)
theorem gl1_len {x : Nat × Int} (h : gok x) : (gl1 x).length ≤ 14 := by
  have q := sleb_b 9 10 x.2 (by unfold gok at h; rw [show (2 : Int) ^ (7 * 9 + 6) = 590295810358705651712 from rfl]; (first | (apply Int.le_antisymm <;> omega) | omega)) (by unfold gok at h; rw [show (2 : Int) ^ (7 * 9 + 6) = 590295810358705651712 from rfl]; (first | (apply Int.le_antisymm <;> omega) | omega))
  unfold gl1
  rw [List.length_cons, List.length_cons, List.length_cons, List.length_append, List.length_singleton]
  (first | (apply Int.le_antisymm <;> omega) | omega)
/-- names told outside -/
def xl : Nat → List (List Nat) → List Nat
  | _, [] => []
  | i, nm :: L => (nm.length :: (nm ++ [0, i])) ++ xl (i + 1) L
theorem xl_snoc {nm : List Nat} : ∀ (L : List (List Nat)) (i : Nat), xl i (L ++ [nm]) = xl i L ++ (nm.length :: (nm ++ [0, i + L.length])) := by
  intro L
  induction L with
  | nil =>
    intro i
    show (nm.length :: (nm ++ [0, i])) ++ xl (i + 1) [] = _
    rw [show xl (i + 1) [] = [] from rfl, List.append_nil]
    rfl
  | cons x L ih =>
    intro i
    show (x.length :: (x ++ [0, i])) ++ xl (i + 1) (L ++ [nm]) = (x.length :: (x ++ [0, i])) ++ xl (i + 1) L ++ _
    rw [ih (i + 1), List.append_assoc, List.length_cons, show i + 1 + L.length = i + (L.length + 1) by (first | (apply Int.le_antisymm <;> omega) | omega)]
def zS (nz : Nat → Int32) : Nat → Int
  | 0 => 0
  | n + 1 => zS nz n + (nz n).toInt
abbrev b_CO_writeFunctions : ByteArray := prog_4_method_24_code
def y_CO_writeFunctions : MethodName := ⟨R_CO, "writeFunctions", "(LWaferForge$ByteRow;)V"⟩
abbrev w_CO_writeFunctions : List Cond := .code y_CO_writeFunctions b_CO_writeFunctions 3 none :: lw_g
theorem kC_CO_writeFunctions : Cond.code y_CO_writeFunctions b_CO_writeFunctions 3 none ∈ lw_g := in_c6 42 rfl rfl
theorem d_CO_writeFunctions_0 : decode b_CO_writeFunctions 0 = .ok (.aload_n 0, 1) := bz_c42 (by decide +kernel)
theorem d_CO_writeFunctions_1 : decode b_CO_writeFunctions 1 = .ok (.getfield 33, 3) := bz_c180 (by decide +kernel)
theorem d_CO_writeFunctions_4 : decode b_CO_writeFunctions 4 = .ok (.iconst 0, 1) := bz_c3 (by decide +kernel)
theorem d_CO_writeFunctions_5 : decode b_CO_writeFunctions 5 = .ok (.putfield 64, 3) := bz_c181 (by decide +kernel)
theorem d_CO_writeFunctions_8 : decode b_CO_writeFunctions 8 = .ok (.aload_n 0, 1) := bz_c42 (by decide +kernel)
theorem d_CO_writeFunctions_9 : decode b_CO_writeFunctions 9 = .ok (.getfield 33, 3) := bz_c180 (by decide +kernel)
theorem d_CO_writeFunctions_12 : decode b_CO_writeFunctions 12 = .ok (.aload_n 0, 1) := bz_c42 (by decide +kernel)
theorem d_CO_writeFunctions_13 : decode b_CO_writeFunctions 13 = .ok (.getfield 36, 3) := bz_c180 (by decide +kernel)
theorem d_CO_writeFunctions_16 : decode b_CO_writeFunctions 16 = .ok (.getfield 61, 3) := bz_c180 (by decide +kernel)
theorem d_CO_writeFunctions_19 : decode b_CO_writeFunctions 19 = .ok (.getfield 68, 3) := bz_c180 (by decide +kernel)
theorem d_CO_writeFunctions_22 : decode b_CO_writeFunctions 22 = .ok (.invokevirtual 218, 3) := bz_c182 (by decide +kernel)
theorem d_CO_writeFunctions_25 : decode b_CO_writeFunctions 25 = .ok (.iconst 0, 1) := bz_c3 (by decide +kernel)
theorem d_CO_writeFunctions_26 : decode b_CO_writeFunctions 26 = .ok (.istore_n 2, 1) := bz_c61 (by decide +kernel)
theorem d_CO_writeFunctions_27 : decode b_CO_writeFunctions 27 = .ok (.iload_n 2, 1) := bz_c28 (by decide +kernel)
theorem d_CO_writeFunctions_28 : decode b_CO_writeFunctions 28 = .ok (.aload_n 0, 1) := bz_c42 (by decide +kernel)
theorem d_CO_writeFunctions_29 : decode b_CO_writeFunctions 29 = .ok (.getfield 36, 3) := bz_c180 (by decide +kernel)
theorem d_CO_writeFunctions_32 : decode b_CO_writeFunctions 32 = .ok (.getfield 61, 3) := bz_c180 (by decide +kernel)
theorem d_CO_writeFunctions_35 : decode b_CO_writeFunctions 35 = .ok (.getfield 68, 3) := bz_c180 (by decide +kernel)
theorem d_CO_writeFunctions_38 : decode b_CO_writeFunctions 38 = .ok (.if_icmp .ge 22, 3) := bz_c162 (by decide +kernel)
theorem d_CO_writeFunctions_41 : decode b_CO_writeFunctions 41 = .ok (.aload_n 0, 1) := bz_c42 (by decide +kernel)
theorem d_CO_writeFunctions_42 : decode b_CO_writeFunctions 42 = .ok (.getfield 33, 3) := bz_c180 (by decide +kernel)
theorem d_CO_writeFunctions_45 : decode b_CO_writeFunctions 45 = .ok (.aload_n 0, 1) := bz_c42 (by decide +kernel)
theorem d_CO_writeFunctions_46 : decode b_CO_writeFunctions 46 = .ok (.getfield 18, 3) := bz_c180 (by decide +kernel)
theorem d_CO_writeFunctions_49 : decode b_CO_writeFunctions 49 = .ok (.iload_n 2, 1) := bz_c28 (by decide +kernel)
theorem d_CO_writeFunctions_50 : decode b_CO_writeFunctions 50 = .ok (.iaload, 1) := bz_c46 (by decide +kernel)
theorem d_CO_writeFunctions_51 : decode b_CO_writeFunctions 51 = .ok (.invokevirtual 218, 3) := bz_c182 (by decide +kernel)
theorem d_CO_writeFunctions_54 : decode b_CO_writeFunctions 54 = .ok (.iinc 2 1, 3) := by decide +kernel
theorem d_CO_writeFunctions_57 : decode b_CO_writeFunctions 57 = .ok (.goto (-30), 3) := bz_c167 (by decide +kernel)
theorem d_CO_writeFunctions_60 : decode b_CO_writeFunctions 60 = .ok (.aload_n 0, 1) := bz_c42 (by decide +kernel)
theorem d_CO_writeFunctions_61 : decode b_CO_writeFunctions 61 = .ok (.aload_n 1, 1) := bz_c43 (by decide +kernel)
theorem d_CO_writeFunctions_62 : decode b_CO_writeFunctions 62 = .ok (.iconst 3, 1) := bz_c6 (by decide +kernel)
theorem d_CO_writeFunctions_63 : decode b_CO_writeFunctions 63 = .ok (.invokevirtual 299, 3) := bz_c182 (by decide +kernel)
theorem d_CO_writeFunctions_66 : decode b_CO_writeFunctions 66 = .ok (.return_, 1) := bz_c177 (by decide +kernel)
abbrev at_CO_writeFunctions (dC : Nat → ClassId) (dI : Nat → Nat → Nat) (h0 pr kn lt pe to bo cs se gl fu pa pf sf pk pg pp pz pv pr_scanner_r pr_waiting_r pr_waitingPlaces_r seb tr fus fuz fut fuv ow owb : Nat) (cto cseb cowb : ClassId) (h0_localCount : Int32) (h0_pendingCount : Int32) (h0_gives : Int32) (h0_depth : Int32) (h0_loopDepth : Int32) (pr_reason : Int32) (pr_place : Int32) (pr_stepCount : Int32) (pr_open : Int32) (pr_twoSides : Int32) (pr_waitingCount : Int32) (gto : Nat → Int32) (fu_length : Int32) (A : Nat → Prop) (u : (Nat → Int32) × (Nat → Int32) × Int32 × Int32) (t : State) : Prop := match u with | (gowb, gseb, ow_length, se_length) => va_P (dC, dI) cls (wz_222 h0 pr kn lt h0_localCount pe h0_pendingCount h0_gives h0_depth h0_loopDepth to bo cs se pr gl fu pa pf sf pk pg pp pz pv pr_reason pr_place pr_scanner_r pr_stepCount pr_open pr_twoSides pr_waiting_r pr_waitingPlaces_r pr_waitingCount to cto gto se seb se_length seb cseb gseb fu tr fus fuz fut fuv fu_length ow owb ow_length owb cowb gowb) t.heap ∧ va_K (dC, dI) cls [(cto, .int), (cseb, .byte), (cowb, .byte)] t ∧ va_D A (wz_222 h0 pr kn lt h0_localCount pe h0_pendingCount h0_gives h0_depth h0_loopDepth to bo cs se pr gl fu pa pf sf pk pg pp pz pv pr_reason pr_place pr_scanner_r pr_stepCount pr_open pr_twoSides pr_waiting_r pr_waitingPlaces_r pr_waitingCount to cto gto se seb se_length seb cseb gseb fu tr fus fuz fut fuv fu_length ow owb ow_length owb cowb gowb)
set_option maxHeartbeats 4000000 in
set_option maxRecDepth 100000 in
theorem c_CO_writeFunctions (l : Launch) (dC : Nat → ClassId) (dI : Nat → Nat → Nat) (sz : Nat) (h0 pr kn lt pe to bo cs se gl fu pa pf sf pk pg pp pz pv pr_scanner_r pr_waiting_r pr_waitingPlaces_r seb tr fus fuz fut fuv ow owb : Nat) (cto cseb cowb : ClassId) (h0_localCount : Int32) (h0_pendingCount : Int32) (h0_gives : Int32) (h0_depth : Int32) (h0_loopDepth : Int32) (pr_reason : Int32) (pr_place : Int32) (pr_stepCount : Int32) (pr_open : Int32) (pr_twoSides : Int32) (pr_waitingCount : Int32) (gto : Nat → Int32) (se_length : Int32) (gseb : Nat → Int32) (fu_length : Int32) (ow_length : Int32) (gowb : Nat → Int32)  (b_se_length : 0 ≤ se_length.toInt ∧ se_length.toInt ≤ 8192) (b_fu_length : 0 ≤ fu_length.toInt ∧ fu_length.toInt ≤ 20) (b_ow_length : 0 ≤ ow_length.toInt ∧ ow_length.toInt ≤ 8192)   (hto : bx (∀ f : Nat, (f : Int) < fu_length.toInt → 0 ≤ (gto f).toInt ∧ (gto f).toInt < 128)) (hro : ow_length.toInt + 40 ≤ 8192) : Met l y_CO_writeFunctions w_CO_writeFunctions ({ frames := 3, cells := 0, slots := 0, locals := 67 }) (va_Pc [.ref h0, .ref ow] (fun U => U.heap.size = sz ∧ va_P (dC, dI) cls (wz_222 h0 pr kn lt h0_localCount pe h0_pendingCount h0_gives h0_depth h0_loopDepth to bo cs se pr gl fu pa pf sf pk pg pp pz pv pr_reason pr_place pr_scanner_r pr_stepCount pr_open pr_twoSides pr_waiting_r pr_waitingPlaces_r pr_waitingCount to cto gto se seb se_length seb cseb gseb fu tr fus fuz fut fuv fu_length ow owb ow_length owb cowb gowb) U.heap ∧ va_K (dC, dI) cls [(cto, .int), (cseb, .byte), (cowb, .byte)] U ∧ va_D (fun _ => True) (wz_222 h0 pr kn lt h0_localCount pe h0_pendingCount h0_gives h0_depth h0_loopDepth to bo cs se pr gl fu pa pf sf pk pg pp pz pv pr_reason pr_place pr_scanner_r pr_stepCount pr_open pr_twoSides pr_waiting_r pr_waitingPlaces_r pr_waitingCount to cto gto se seb se_length seb cseb gseb fu tr fus fuz fut fuv fu_length ow owb ow_length owb cowb gowb))) (va_Qv (fun (u : (Nat → Int32) × (Nat → Int32) × Int32 × Int32) => match u with | (gowb2, gseb2, ow_length2, se_length2) => (0 ≤ ow_length2.toInt ∧ ow_length2.toInt ≤ 8192) ∧ (0 ≤ se_length2.toInt ∧ se_length2.toInt ≤ 8192) ∧ (ow_length2.toInt = ow_length.toInt + ((sec 3 (fu_length.toInt.toNat :: tol gto fu_length.toInt.toNat)).length : Int) ∧ bl gowb2 ow_length2.toNatClampNeg = bl gowb ow_length.toNatClampNeg ++ sec 3 (fu_length.toInt.toNat :: tol gto fu_length.toInt.toNat))) (at_CO_writeFunctions dC dI h0 pr kn lt pe to bo cs se gl fu pa pf sf pk pg pp pz pv pr_scanner_r pr_waiting_r pr_waitingPlaces_r seb tr fus fuz fut fuv ow owb cto cseb cowb h0_localCount h0_pendingCount h0_gives h0_depth h0_loopDepth pr_reason pr_place pr_stepCount pr_open pr_twoSides pr_waitingCount gto fu_length (va_A (wz_222 h0 pr kn lt h0_localCount pe h0_pendingCount h0_gives h0_depth h0_loopDepth to bo cs se pr gl fu pa pf sf pk pg pp pz pv pr_reason pr_place pr_scanner_r pr_stepCount pr_open pr_twoSides pr_waiting_r pr_waitingPlaces_r pr_waitingCount to cto gto se seb se_length seb cseb gseb fu tr fus fuz fut fuv fu_length ow owb ow_length owb cowb gowb) sz)) (va_A (wz_222 h0 pr kn lt h0_localCount pe h0_pendingCount h0_gives h0_depth h0_loopDepth to bo cs se pr gl fu pa pf sf pk pg pp pz pv pr_reason pr_place pr_scanner_r pr_stepCount pr_open pr_twoSides pr_waiting_r pr_waitingPlaces_r pr_waitingCount to cto gto se seb se_length seb cseb gseb fu tr fus fuz fut fuv fu_length ow owb ow_length owb cowb gowb) sz)) 0 0 (va_A (wz_222 h0 pr kn lt h0_localCount pe h0_pendingCount h0_gives h0_depth h0_loopDepth to bo cs se pr gl fu pa pf sf pk pg pp pz pv pr_reason pr_place pr_scanner_r pr_stepCount pr_open pr_twoSides pr_waiting_r pr_waitingPlaces_r pr_waitingCount to cto gto se seb se_length seb cseb gseb fu tr fus fuz fut fuv fu_length ow owb ow_length owb cowb gowb) sz) := by
  refine Met.ofW (cc := b_CO_writeFunctions) (maxL := 3) (ret := none) (by decide) rfl ?_
  intro p e s m args below meth c s₁ B hml hv
  obtain ⟨rfl, hsz, hP, hK, hD0⟩ := hv
  have hx := B.exec
  have hb := B.bytes
  have hr := B.returns
  have hts0 := atoms_spec (ws := w_CO_writeFunctions) B.pre
  have hts : ∀ w ∈ lw_g, w.before _ s = true := fun w h => hts0 w (List.mem_cons_of_mem _ h)
  have hown : s.vm.findClass R_CO = some m.cls := findClass_of_methodNamed B.named
  have hlocks := B.notSynchronized
  clear hts0
  subst hsz
  have hD := hD0.self (sz := s.heap.size)
  generalize hAe : va_A (wz_222 h0 pr kn lt h0_localCount pe h0_pendingCount h0_gives h0_depth h0_loopDepth to bo cs se pr gl fu pa pf sf pk pg pp pz pv pr_reason pr_place pr_scanner_r pr_stepCount pr_open pr_twoSides pr_waiting_r pr_waitingPlaces_r pr_waitingCount to cto gto se seb se_length seb cseb gseb fu tr fus fuz fut fuv fu_length ow owb ow_length owb cowb gowb) s.heap.size = A at hD ⊢
  have hA : ∀ q : Nat, s.heap.size ≤ q → A q := fun q h => by rw [← hAe]; exact Or.inr h
  clear hAe
  have hP : va_P (dC, dI) cls (wz_222 h0 pr kn lt h0_localCount pe h0_pendingCount h0_gives h0_depth h0_loopDepth to bo cs se pr gl fu pa pf sf pk pg pp pz pv pr_reason pr_place pr_scanner_r pr_stepCount pr_open pr_twoSides pr_waiting_r pr_waitingPlaces_r pr_waitingCount to cto gto se seb se_length seb cseb gseb fu tr fus fuz fut fuv fu_length ow owb ow_length owb cowb gowb) s.heap := hP
  have hl := lv_entry ([.ref h0, .ref ow]) (n := 3) (Nat.le_of_ble_eq_true rfl)
  rw [lg_entry_eq]
  generalize (lg_sl ([.ref h0, .ref ow]) ++ List.replicate (3 - (lg_sl ([.ref h0, .ref ow])).length) Slot.unset).toArray = ls at hl ⊢
  have hl : lv_has ls 3 [(0, .ref h0), (1, .ref ow)] := hl
  have k0 : (0 : Int32).toInt = 0 := by decide
  refine w_gen (A := A) hP (fun H locs hP hS => ?_)
  have k1 : (1 : Int32).toInt = 1 := by decide
  have k3 : (3 : Int32).toInt = 3 := by decide
  refine lv_aload_n hx hb d_CO_writeFunctions_0 rfl (lv_at hl 0 rfl) ?_
  refine va_get (D := (dC, dI)) (ci := 2) (v := .ref se) (C := R_CO) (T := F_CO) (N := 13) hx hb hts i_CO hown hK hP 0 rfl rfl 12 (by decide) (hts _ kF_CO_33) (fun _ h9 => h9) rfl d_CO_writeFunctions_1 ?_
  refine lv_iconst (v := 0) hx hb d_CO_writeFunctions_4 (by decide) ?_
  refine va_put (D := (dC, dI)) (ci := 1) (v := .int 0) (ty := .int) (C := R_BR) (T := F_BR) (N := 2) hx hb hts i_BR t_BR t_BR_ok n_BR hown hK hP hD hS 3 rfl rfl 1 (by decide) (hts _ kF_CO_64) (fun _ h9 => h9) rfl (by decide +kernel) rfl rfl (Nat.le_of_ble_eq_true rfl) d_CO_writeFunctions_5 (fun H locs hP hD hS => ?_)
  refine lv_aload_n hx hb d_CO_writeFunctions_8 rfl (lv_at hl 0 rfl) ?_
  refine va_get (D := (dC, dI)) (ci := 2) (v := .ref se) (C := R_CO) (T := F_CO) (N := 13) hx hb hts i_CO hown hK hP 0 rfl rfl 12 (by decide) (hts _ kF_CO_33) (fun _ h9 => h9) rfl d_CO_writeFunctions_9 ?_
  refine lv_aload_n hx hb d_CO_writeFunctions_12 rfl (lv_at hl 0 rfl) ?_
  refine va_get (D := (dC, dI)) (ci := 2) (v := .ref pr) (C := R_CO) (T := F_CO) (N := 13) hx hb hts i_CO hown hK hP 0 rfl rfl 0 (by decide) (hts _ kF_CO_36) (fun _ h9 => h9) rfl d_CO_writeFunctions_13 ?_
  refine va_get (D := (dC, dI)) (ci := 6) (v := .ref fu) (C := R_PR) (T := F_PR) (N := 19) hx hb hts i_PR hown hK hP 1 rfl rfl 1 (by decide) (hts _ kF_CO_61) (fun _ h9 => h9) rfl d_CO_writeFunctions_16 ?_
  refine va_get (D := (dC, dI)) (ci := 5) (v := .int fu_length) (C := R_NA) (T := F_NA) (N := 6) hx hb hts i_NA hown hK hP 5 rfl rfl 5 (by decide) (hts _ kF_CO_68) (fun _ h9 => h9) rfl d_CO_writeFunctions_19 ?_
  have hPc := hP.sb (wq := (wz_94 se seb 0 seb cseb gseb)) [3, 4] rfl
  have hDc := hD.sb (wq := (wz_94 se seb 0 seb cseb gseb)) [3, 4] (by decide) rfl
  have hKc := hK.sb (tyq := [(cseb, .byte)]) [1] rfl
  have hFc := va_free (wc := (wz_94 se seb 0 seb cseb gseb)) hD hS hA [3, 4] rfl
  refine va_callv (va_runV (As := [.int fu_length]) (rest := []) ⟨hx, hb, hml, hown, hts⟩ (c_BR_putUnsigned l dC dI se seb H.size cseb 8192 0 gseb (by (first | (apply Int.le_antisymm <;> omega) | omega)) (by (first | (apply Int.le_antisymm <;> omega) | omega)) (by (first | (apply Int.le_antisymm <;> omega) | omega)) fu_length (by (first | (apply Int.le_antisymm <;> omega) | omega))) (cwV 1 hts (gV kM_CO_218 kV_BR_putUnsigned kS_BR_putUnsigned kI_BR kC_BR_putUnsigned) rfl rfl rfl (by decide +kernel) ⟨Nat.le_of_ble_eq_true rfl, Nat.le_of_ble_eq_true rfl⟩) ⟨fun a U g mk z => by obtain ⟨z0, z1, zP, zK, zD⟩ := z; exact ⟨z0, z1, zP, va_K.moved (u := U) (U := U.calling g mk a) (Vm.Alike.refl U.vm) zK, zD⟩, va_recv hKc hPc (ci := 1) (q0 := 0) rfl rfl, fun U hU hW => ⟨rfl, by rw [hU], va_P.he hU.symm hPc, va_K.moved hW.alike hKc, hDc.weaken (fun _ _ _ _ => trivial)⟩⟩ rfl rfl hl.1 rfl (lv_room (Nat.le_of_ble_eq_true rfl)) d_CO_writeFunctions_22 ⟨(Nat.zero_le _), (Nat.zero_le _)⟩) hS (fun q _ h => hFc q h) hFc (fun u t H1 locs ht hvm hw hB hz1 hk1 hS => ?_)
  obtain ⟨n2, f3⟩ := u
  try dsimp only at hw
  obtain ⟨tn2, bn2⟩ := hw
  have ln2 := leb_len 5 (un fu_length)
  obtain ⟨hP1, hK1, hD1⟩ := hB
  replace hP1 := va_P.he ht hP1
  obtain ⟨hP, hD⟩ := va_join (wr := [(h0, .inr (2, [.ref pr, .ref kn, .ref lt, .int h0_localCount, .ref pe, .int h0_pendingCount, .int h0_gives, .int h0_depth, .int h0_loopDepth, .ref to, .ref bo, .ref cs, .ref se])), (pr, .inr (6, [.ref gl, .ref fu, .ref pa, .ref pf, .ref sf, .ref pk, .ref pg, .ref pp, .ref pz, .ref pv, .int pr_reason, .int pr_place, .ref pr_scanner_r, .int pr_stepCount, .int pr_open, .int pr_twoSides, .ref pr_waiting_r, .ref pr_waitingPlaces_r, .int pr_waitingCount])), (to, .inl (cto, 20, .inl gto)), (fu, .inr (5, [.ref tr, .ref fus, .ref fuz, .ref fut, .ref fuv, .int fu_length])), (ow, .inr (1, [.ref owb, .int ow_length])), (owb, .inl (cowb, 8192, .inl gowb))]) (w1 := (wz_94 se seb n2 seb cseb f3)) hP hD [3, 4] [0, 1, 2, 5, 6, 7] rfl rfl (by decide) (by decide) hk1 hFc hP1 hD1
  clear hPc hDc hKc hFc hz1 hk1 hP1 hK1 hD1
  rename Heap => H
  have hP : va_P (dC, dI) cls (wz_223 h0 pr kn lt h0_localCount pe h0_pendingCount h0_gives h0_depth h0_loopDepth to bo cs se pr gl fu pa pf sf pk pg pp pz pv pr_reason pr_place pr_scanner_r pr_stepCount pr_open pr_twoSides pr_waiting_r pr_waitingPlaces_r pr_waitingCount to cto gto fu tr fus fuz fut fuv fu_length ow owb ow_length owb cowb gowb se seb n2 seb cseb f3) H := hP
  have hD : va_D A (wz_223 h0 pr kn lt h0_localCount pe h0_pendingCount h0_gives h0_depth h0_loopDepth to bo cs se pr gl fu pa pf sf pk pg pp pz pv pr_reason pr_place pr_scanner_r pr_stepCount pr_open pr_twoSides pr_waiting_r pr_waitingPlaces_r pr_waitingCount to cto gto fu tr fus fuz fut fuv fu_length ow owb ow_length owb cowb gowb se seb n2 seb cseb f3) := hD
  have lfu_length := congrArg List.length (leb_s (x := fu_length) (by (first | (apply Int.le_antisymm <;> omega) | omega)) (by (first | (apply Int.le_antisymm <;> omega) | omega)))
  rw [List.length_singleton] at lfu_length
  refine lv_iconst (v := 0) hx hb d_CO_writeFunctions_25 (by decide) ?_
  refine lv_istore_n (lv' := [(2, .int 0), (0, .ref h0), (1, .ref ow)]) hx hb d_CO_writeFunctions_26 rfl hl (by decide) rfl (fun ls hl => ?_)
  refine w_loop (σ := Int32 × (Nat → Int32) × Int32) (fun u H locs ls => match u with | (j27_l2, j27_seb, j27_se_length) => (0 ≤ j27_se_length.toInt ∧ j27_se_length.toInt ≤ 8192) ∧ (0 ≤ j27_l2.toInt ∧ j27_l2.toInt ≤ fu_length.toInt ∧ j27_se_length.toInt = 1 + j27_l2.toInt) ∧ (bl j27_seb j27_se_length.toNatClampNeg = fu_length.toInt.toNat :: tol gto j27_l2.toNatClampNeg) ∧ va_P (dC, dI) cls (wz_223 h0 pr kn lt h0_localCount pe h0_pendingCount h0_gives h0_depth h0_loopDepth to bo cs se pr gl fu pa pf sf pk pg pp pz pv pr_reason pr_place pr_scanner_r pr_stepCount pr_open pr_twoSides pr_waiting_r pr_waitingPlaces_r pr_waitingCount to cto gto fu tr fus fuz fut fuv fu_length ow owb ow_length owb cowb gowb se seb j27_se_length seb cseb j27_seb) H ∧ va_D A (wz_223 h0 pr kn lt h0_localCount pe h0_pendingCount h0_gives h0_depth h0_loopDepth to bo cs se pr gl fu pa pf sf pk pg pp pz pv pr_reason pr_place pr_scanner_r pr_stepCount pr_open pr_twoSides pr_waiting_r pr_waitingPlaces_r pr_waitingCount to cto gto fu tr fus fuz fut fuv fu_length ow owb ow_length owb cowb gowb se seb j27_se_length seb cseb j27_seb) ∧ va_S A s.heap H locs ∧ lv_has ls 3 [(0, .ref h0), (1, .ref ow), (2, .int j27_l2)]) (fun u => match u with | (j27_l2, j27_seb, j27_se_length) => (fu_length.toInt - j27_l2.toInt).toNat) ?_ (0, f3, n2) ⟨by (try dsimp only) <;> (first | (apply Int.le_antisymm <;> omega) | omega), by (try dsimp only) <;> (first | (apply Int.le_antisymm <;> omega) | omega), (by rw [bn2, leb_s (by (first | (apply Int.le_antisymm <;> omega) | omega)) (by (first | (apply Int.le_antisymm <;> omega) | omega))]; rfl), hP, hD, hS, lv_sub hl [1, 2, 0] rfl⟩
  intro N27 ih27 u H locs ls hN27 hI
  obtain ⟨j27_l2, j27_seb, j27_se_length⟩ := u
  obtain ⟨b_j27_se_length, v1, hB, hP, hD, hS, hl⟩ := hI
  have hN27 : (fu_length.toInt - j27_l2.toInt).toNat < N27 + 1 := hN27
  refine lv_iload_n hx hb d_CO_writeFunctions_27 rfl (lv_at hl 2 rfl) ?_
  refine lv_aload_n hx hb d_CO_writeFunctions_28 rfl (lv_at hl 0 rfl) ?_
  refine va_get (D := (dC, dI)) (ci := 2) (v := .ref pr) (C := R_CO) (T := F_CO) (N := 13) hx hb hts i_CO hown hK hP 0 rfl rfl 0 (by decide) (hts _ kF_CO_36) (fun _ h9 => h9) rfl d_CO_writeFunctions_29 ?_
  refine va_get (D := (dC, dI)) (ci := 6) (v := .ref fu) (C := R_PR) (T := F_PR) (N := 19) hx hb hts i_PR hown hK hP 1 rfl rfl 1 (by decide) (hts _ kF_CO_61) (fun _ h9 => h9) rfl d_CO_writeFunctions_32 ?_
  refine va_get (D := (dC, dI)) (ci := 5) (v := .int fu_length) (C := R_NA) (T := F_NA) (N := 6) hx hb hts i_NA hown hK hP 3 rfl rfl 5 (by decide) (hts _ kF_CO_68) (fun _ h9 => h9) rfl d_CO_writeFunctions_35 ?_
  refine lv_icmp_ge (tgt := 60) hx hb d_CO_writeFunctions_38 (by decide) (fun c38 => ?_) (fun c38 => ?_)
  · have q38 := leI c38
    refine lv_aload_n hx hb d_CO_writeFunctions_60 rfl (lv_at hl 0 rfl) ?_
    refine lv_aload_n hx hb d_CO_writeFunctions_61 rfl (lv_at hl 1 rfl) ?_
    refine lv_iconst (v := 3) hx hb d_CO_writeFunctions_62 (by decide) ?_
    have hPc := hP.sb (wq := (wz_215 h0 pr kn lt h0_localCount pe h0_pendingCount h0_gives h0_depth h0_loopDepth to bo cs se se seb j27_se_length seb cseb j27_seb ow owb ow_length owb cowb gowb)) [0, 6, 7, 4, 5] rfl
    have hDc := hD.sb (wq := (wz_215 h0 pr kn lt h0_localCount pe h0_pendingCount h0_gives h0_depth h0_loopDepth to bo cs se se seb j27_se_length seb cseb j27_seb ow owb ow_length owb cowb gowb)) [0, 6, 7, 4, 5] (by decide) rfl
    have hKc := hK.sb (tyq := [(cseb, .byte), (cowb, .byte)]) [1, 2] rfl
    have hFc := va_free (wc := (wz_215 h0 pr kn lt h0_localCount pe h0_pendingCount h0_gives h0_depth h0_loopDepth to bo cs se se seb j27_se_length seb cseb j27_seb ow owb ow_length owb cowb gowb)) hD hS hA [0, 6, 7, 4, 5] rfl
    refine va_callv (va_runV (As := [.ref ow, .int 3]) (rest := []) ⟨hx, hb, hml, hown, hts⟩ (c_CO_putSection l dC dI H.size h0 pr kn lt pe to bo cs se seb ow owb cseb cowb h0_localCount h0_pendingCount h0_gives h0_depth h0_loopDepth j27_se_length j27_seb ow_length gowb (b_j27_se_length) (b_ow_length) 3 (by decide) (by (first | (apply Int.le_antisymm <;> omega) | omega))) (cwV 2 hts (gV kM_CO_299 kV_CO_putSection kS_CO_putSection kI_CO kC_CO_putSection) rfl rfl rfl (by decide +kernel) ⟨Nat.le_of_ble_eq_true rfl, Nat.le_of_ble_eq_true rfl⟩) ⟨fun a U g mk z => by obtain ⟨z0, z1, zP, zK, zD⟩ := z; exact ⟨z0, z1, zP, va_K.moved (u := U) (U := U.calling g mk a) (Vm.Alike.refl U.vm) zK, zD⟩, va_recv hKc hPc (ci := 2) (q0 := 0) rfl rfl, fun U hU hW => ⟨rfl, by rw [hU], va_P.he hU.symm hPc, va_K.moved hW.alike hKc, hDc.weaken (fun _ _ _ _ => trivial)⟩⟩ rfl rfl hl.1 rfl (lv_room (Nat.le_of_ble_eq_true rfl)) d_CO_writeFunctions_63 ⟨(Nat.zero_le _), (Nat.zero_le _)⟩) hS (fun q _ h => hFc q h) hFc (fun u t H1 locs ht hvm hw hB hz1 hk1 hS => ?_)
    obtain ⟨n5, n6⟩ := u
    try dsimp only at hw
    obtain ⟨bn6, xr4⟩ := hw
    try clear hw
    obtain ⟨hP1, hK1, hD1⟩ := hB
    replace hP1 := va_P.he ht hP1
    obtain ⟨hP, hD⟩ := va_join (wr := [(pr, .inr (6, [.ref gl, .ref fu, .ref pa, .ref pf, .ref sf, .ref pk, .ref pg, .ref pp, .ref pz, .ref pv, .int pr_reason, .int pr_place, .ref pr_scanner_r, .int pr_stepCount, .int pr_open, .int pr_twoSides, .ref pr_waiting_r, .ref pr_waitingPlaces_r, .int pr_waitingCount])), (to, .inl (cto, 20, .inl gto)), (fu, .inr (5, [.ref tr, .ref fus, .ref fuz, .ref fut, .ref fuv, .int fu_length]))]) (w1 := (wz_215 h0 pr kn lt h0_localCount pe h0_pendingCount h0_gives h0_depth h0_loopDepth to bo cs se se seb j27_se_length seb cseb j27_seb ow owb n6 owb cowb n5)) hP hD [0, 6, 7, 4, 5] [1, 2, 3] rfl rfl (by decide) (by decide) hk1 hFc hP1 hD1
    clear hPc hDc hKc hFc hz1 hk1 hP1 hK1 hD1
    rename Heap => H
    have hP : va_P (dC, dI) cls [(pr, .inr (6, [.ref gl, .ref fu, .ref pa, .ref pf, .ref sf, .ref pk, .ref pg, .ref pp, .ref pz, .ref pv, .int pr_reason, .int pr_place, .ref pr_scanner_r, .int pr_stepCount, .int pr_open, .int pr_twoSides, .ref pr_waiting_r, .ref pr_waitingPlaces_r, .int pr_waitingCount])), (to, .inl (cto, 20, .inl gto)), (fu, .inr (5, [.ref tr, .ref fus, .ref fuz, .ref fut, .ref fuv, .int fu_length])), (h0, .inr (2, [.ref pr, .ref kn, .ref lt, .int h0_localCount, .ref pe, .int h0_pendingCount, .int h0_gives, .int h0_depth, .int h0_loopDepth, .ref to, .ref bo, .ref cs, .ref se])), (se, .inr (1, [.ref seb, .int j27_se_length])), (seb, .inl (cseb, 8192, .inl j27_seb)), (ow, .inr (1, [.ref owb, .int n6])), (owb, .inl (cowb, 8192, .inl n5))] H := hP
    have hD : va_D A [(pr, .inr (6, [.ref gl, .ref fu, .ref pa, .ref pf, .ref sf, .ref pk, .ref pg, .ref pp, .ref pz, .ref pv, .int pr_reason, .int pr_place, .ref pr_scanner_r, .int pr_stepCount, .int pr_open, .int pr_twoSides, .ref pr_waiting_r, .ref pr_waitingPlaces_r, .int pr_waitingCount])), (to, .inl (cto, 20, .inl gto)), (fu, .inr (5, [.ref tr, .ref fus, .ref fuz, .ref fut, .ref fuv, .int fu_length])), (h0, .inr (2, [.ref pr, .ref kn, .ref lt, .int h0_localCount, .ref pe, .int h0_pendingCount, .int h0_gives, .int h0_depth, .int h0_loopDepth, .ref to, .ref bo, .ref cs, .ref se])), (se, .inr (1, [.ref seb, .int j27_se_length])), (seb, .inl (cseb, 8192, .inl j27_seb)), (ow, .inr (1, [.ref owb, .int n6])), (owb, .inl (cowb, 8192, .inl n5))] := hD
    have hP9 := hP.sb (wq := (wz_222 h0 pr kn lt h0_localCount pe h0_pendingCount h0_gives h0_depth h0_loopDepth to bo cs se pr gl fu pa pf sf pk pg pp pz pv pr_reason pr_place pr_scanner_r pr_stepCount pr_open pr_twoSides pr_waiting_r pr_waitingPlaces_r pr_waitingCount to cto gto se seb j27_se_length seb cseb j27_seb fu tr fus fuz fut fuv fu_length ow owb n6 owb cowb n5)) [3, 0, 1, 4, 5, 2, 6, 7] rfl
    have hD9 := hD.sb (wq := (wz_222 h0 pr kn lt h0_localCount pe h0_pendingCount h0_gives h0_depth h0_loopDepth to bo cs se pr gl fu pa pf sf pk pg pp pz pv pr_reason pr_place pr_scanner_r pr_stepCount pr_open pr_twoSides pr_waiting_r pr_waitingPlaces_r pr_waitingCount to cto gto se seb j27_se_length seb cseb j27_seb fu tr fus fuz fut fuv fu_length ow owb n6 owb cowb n5)) [3, 0, 1, 4, 5, 2, 6, 7] (by decide) rfl
    exact W.vret hx hb hr (fun t ht hW => ⟨⟨(n5, j27_seb, n6, j27_se_length), rfl, ⟨bn6, b_j27_se_length, (by have h9 := xr4; rw [hB, show j27_l2.toNatClampNeg = fu_length.toInt.toNat from by have := i32_clamp (x := j27_l2) (by (first | (apply Int.le_antisymm <;> omega) | omega)); (first | (apply Int.le_antisymm <;> omega) | omega)] at h9; exact h9)⟩, va_P.he ht.symm hP9, va_K.moved hW.alike hK, hD9⟩, hS.F ht⟩) hS.2.2 d_CO_writeFunctions_66
  · have q38 := nleI c38
    refine lv_aload_n hx hb d_CO_writeFunctions_41 rfl (lv_at hl 0 rfl) ?_
    refine va_get (D := (dC, dI)) (ci := 2) (v := .ref se) (C := R_CO) (T := F_CO) (N := 13) hx hb hts i_CO hown hK hP 0 rfl rfl 12 (by decide) (hts _ kF_CO_33) (fun _ h9 => h9) rfl d_CO_writeFunctions_42 ?_
    refine lv_aload_n hx hb d_CO_writeFunctions_45 rfl (lv_at hl 0 rfl) ?_
    refine va_get (D := (dC, dI)) (ci := 2) (v := .ref to) (C := R_CO) (T := F_CO) (N := 13) hx hb hts i_CO hown hK hP 0 rfl rfl 9 (by decide) (hts _ kF_CO_18) (fun _ h9 => h9) rfl d_CO_writeFunctions_46 ?_
    refine lv_iload_n hx hb d_CO_writeFunctions_49 rfl (lv_at hl 2 rfl) ?_
    have g50 : vp_in j27_l2 20 := vp_in_iff.mpr ⟨by (first | (apply Int.le_antisymm <;> omega) | omega), by (first | (apply Int.le_antisymm <;> omega) | omega)⟩
    refine va_iald hx hb hK hP 2 0 rfl rfl g50 d_CO_writeFunctions_50 ?_
    refine lv_topi (fun x7 ex7 => ?_)
    have tx7 := hto.out j27_l2.toNatClampNeg (by have := i32_clamp (x := j27_l2) (by (first | (apply Int.le_antisymm <;> omega) | omega)); (first | (apply Int.le_antisymm <;> omega) | omega))
    rw [← ex7] at tx7
    have hPc := hP.sb (wq := (wz_94 se seb j27_se_length seb cseb j27_seb)) [6, 7] rfl
    have hDc := hD.sb (wq := (wz_94 se seb j27_se_length seb cseb j27_seb)) [6, 7] (by decide) rfl
    have hKc := hK.sb (tyq := [(cseb, .byte)]) [1] rfl
    have hFc := va_free (wc := (wz_94 se seb j27_se_length seb cseb j27_seb)) hD hS hA [6, 7] rfl
    refine va_callv (va_runV (As := [.int x7]) (rest := []) ⟨hx, hb, hml, hown, hts⟩ (c_BR_putUnsigned l dC dI se seb H.size cseb 8192 j27_se_length j27_seb (by (first | (apply Int.le_antisymm <;> omega) | omega)) (by (first | (apply Int.le_antisymm <;> omega) | omega)) (by (first | (apply Int.le_antisymm <;> omega) | omega)) x7 (by (first | (apply Int.le_antisymm <;> omega) | omega))) (cwV 1 hts (gV kM_CO_218 kV_BR_putUnsigned kS_BR_putUnsigned kI_BR kC_BR_putUnsigned) rfl rfl rfl (by decide +kernel) ⟨Nat.le_of_ble_eq_true rfl, Nat.le_of_ble_eq_true rfl⟩) ⟨fun a U g mk z => by obtain ⟨z0, z1, zP, zK, zD⟩ := z; exact ⟨z0, z1, zP, va_K.moved (u := U) (U := U.calling g mk a) (Vm.Alike.refl U.vm) zK, zD⟩, va_recv hKc hPc (ci := 1) (q0 := 0) rfl rfl, fun U hU hW => ⟨rfl, by rw [hU], va_P.he hU.symm hPc, va_K.moved hW.alike hKc, hDc.weaken (fun _ _ _ _ => trivial)⟩⟩ rfl rfl hl.1 rfl (lv_room (Nat.le_of_ble_eq_true rfl)) d_CO_writeFunctions_51 ⟨(Nat.zero_le _), (Nat.zero_le _)⟩) hS (fun q _ h => hFc q h) hFc (fun u t H1 locs ht hvm hw hB hz1 hk1 hS => ?_)
    obtain ⟨n9, f10⟩ := u
    try dsimp only at hw
    obtain ⟨tn9, bn9⟩ := hw
    have ln9 := leb_len 5 (un x7)
    obtain ⟨hP1, hK1, hD1⟩ := hB
    replace hP1 := va_P.he ht hP1
    obtain ⟨hP, hD⟩ := va_join (wr := [(h0, .inr (2, [.ref pr, .ref kn, .ref lt, .int h0_localCount, .ref pe, .int h0_pendingCount, .int h0_gives, .int h0_depth, .int h0_loopDepth, .ref to, .ref bo, .ref cs, .ref se])), (pr, .inr (6, [.ref gl, .ref fu, .ref pa, .ref pf, .ref sf, .ref pk, .ref pg, .ref pp, .ref pz, .ref pv, .int pr_reason, .int pr_place, .ref pr_scanner_r, .int pr_stepCount, .int pr_open, .int pr_twoSides, .ref pr_waiting_r, .ref pr_waitingPlaces_r, .int pr_waitingCount])), (to, .inl (cto, 20, .inl gto)), (fu, .inr (5, [.ref tr, .ref fus, .ref fuz, .ref fut, .ref fuv, .int fu_length])), (ow, .inr (1, [.ref owb, .int ow_length])), (owb, .inl (cowb, 8192, .inl gowb))]) (w1 := (wz_94 se seb n9 seb cseb f10)) hP hD [6, 7] [0, 1, 2, 3, 4, 5] rfl rfl (by decide) (by decide) hk1 hFc hP1 hD1
    clear hPc hDc hKc hFc hz1 hk1 hP1 hK1 hD1
    rename Heap => H
    have hP : va_P (dC, dI) cls (wz_223 h0 pr kn lt h0_localCount pe h0_pendingCount h0_gives h0_depth h0_loopDepth to bo cs se pr gl fu pa pf sf pk pg pp pz pv pr_reason pr_place pr_scanner_r pr_stepCount pr_open pr_twoSides pr_waiting_r pr_waitingPlaces_r pr_waitingCount to cto gto fu tr fus fuz fut fuv fu_length ow owb ow_length owb cowb gowb se seb n9 seb cseb f10) H := hP
    have hD : va_D A (wz_223 h0 pr kn lt h0_localCount pe h0_pendingCount h0_gives h0_depth h0_loopDepth to bo cs se pr gl fu pa pf sf pk pg pp pz pv pr_reason pr_place pr_scanner_r pr_stepCount pr_open pr_twoSides pr_waiting_r pr_waitingPlaces_r pr_waitingCount to cto gto fu tr fus fuz fut fuv fu_length ow owb ow_length owb cowb gowb se seb n9 seb cseb f10) := hD
    have lx7 := congrArg List.length (leb_s (x := x7) (by (first | (apply Int.le_antisymm <;> omega) | omega)) (by (first | (apply Int.le_antisymm <;> omega) | omega)))
    rw [List.length_singleton] at lx7
    obtain ⟨x11, ex11⟩ : ∃ z : Int32, z = j27_l2 + 1 := ⟨_, rfl⟩
    have tx11 : x11.toInt = j27_l2.toInt + 1 := by have z := i32_add ex11 (by (first | (apply Int.le_antisymm <;> omega) | omega)) (by (first | (apply Int.le_antisymm <;> omega) | omega)); first | exact z | (first | (apply Int.le_antisymm <;> omega) | omega)
    refine lv_iinc (v := x11) (lv' := [(2, .int x11), (0, .ref h0), (1, .ref ow)]) hx hb d_CO_writeFunctions_54 hl (k := 2) rfl (by rw [ex11]; rfl) (by decide) rfl (fun ls hl => ?_)
    refine lv_goto (tgt := 27) hx hb d_CO_writeFunctions_57 (by decide) ?_
    exact ih27 (x11, f10, n9) _ _ _ (by show (fu_length.toInt - x11.toInt).toNat < N27; (first | (apply Int.le_antisymm <;> omega) | omega)) ⟨by (try dsimp only) <;> (first | (apply Int.le_antisymm <;> omega) | omega), by (try dsimp only) <;> (first | (apply Int.le_antisymm <;> omega) | omega), (by rw [bn9, leb_s (by (first | (apply Int.le_antisymm <;> omega) | omega)) (by (first | (apply Int.le_antisymm <;> omega) | omega)), hB, show x11.toNatClampNeg = j27_l2.toNatClampNeg + 1 from clampN (by have := i32_clamp (x := j27_l2) (by (first | (apply Int.le_antisymm <;> omega) | omega)); (first | (apply Int.le_antisymm <;> omega) | omega)), tol_succ, ex7]; rfl), hP, hD, hS, lv_sub hl [1, 2, 0] rfl⟩
abbrev b_CO_writeMemory : ByteArray := prog_4_method_25_code
def y_CO_writeMemory : MethodName := ⟨R_CO, "writeMemory", "(LWaferForge$ByteRow;)V"⟩
abbrev w_CO_writeMemory : List Cond := .code y_CO_writeMemory b_CO_writeMemory 2 none :: lw_g
theorem kC_CO_writeMemory : Cond.code y_CO_writeMemory b_CO_writeMemory 2 none ∈ lw_g := in_c6 46 rfl rfl
theorem d_CO_writeMemory_0 : decode b_CO_writeMemory 0 = .ok (.aload_n 0, 1) := bz_c42 (by decide +kernel)
theorem d_CO_writeMemory_1 : decode b_CO_writeMemory 1 = .ok (.getfield 33, 3) := bz_c180 (by decide +kernel)
theorem d_CO_writeMemory_4 : decode b_CO_writeMemory 4 = .ok (.iconst 0, 1) := bz_c3 (by decide +kernel)
theorem d_CO_writeMemory_5 : decode b_CO_writeMemory 5 = .ok (.putfield 64, 3) := bz_c181 (by decide +kernel)
theorem d_CO_writeMemory_8 : decode b_CO_writeMemory 8 = .ok (.aload_n 0, 1) := bz_c42 (by decide +kernel)
theorem d_CO_writeMemory_9 : decode b_CO_writeMemory 9 = .ok (.getfield 33, 3) := bz_c180 (by decide +kernel)
theorem d_CO_writeMemory_12 : decode b_CO_writeMemory 12 = .ok (.iconst 1, 1) := bz_c4 (by decide +kernel)
theorem d_CO_writeMemory_13 : decode b_CO_writeMemory 13 = .ok (.invokevirtual 76, 3) := bz_c182 (by decide +kernel)
theorem d_CO_writeMemory_16 : decode b_CO_writeMemory 16 = .ok (.aload_n 0, 1) := bz_c42 (by decide +kernel)
theorem d_CO_writeMemory_17 : decode b_CO_writeMemory 17 = .ok (.getfield 33, 3) := bz_c180 (by decide +kernel)
theorem d_CO_writeMemory_20 : decode b_CO_writeMemory 20 = .ok (.iconst 1, 1) := bz_c4 (by decide +kernel)
theorem d_CO_writeMemory_21 : decode b_CO_writeMemory 21 = .ok (.invokevirtual 76, 3) := bz_c182 (by decide +kernel)
theorem d_CO_writeMemory_24 : decode b_CO_writeMemory 24 = .ok (.aload_n 0, 1) := bz_c42 (by decide +kernel)
theorem d_CO_writeMemory_25 : decode b_CO_writeMemory 25 = .ok (.getfield 33, 3) := bz_c180 (by decide +kernel)
theorem d_CO_writeMemory_28 : decode b_CO_writeMemory 28 = .ok (.iconst 1, 1) := bz_c4 (by decide +kernel)
theorem d_CO_writeMemory_29 : decode b_CO_writeMemory 29 = .ok (.invokevirtual 76, 3) := bz_c182 (by decide +kernel)
theorem d_CO_writeMemory_32 : decode b_CO_writeMemory 32 = .ok (.aload_n 0, 1) := bz_c42 (by decide +kernel)
theorem d_CO_writeMemory_33 : decode b_CO_writeMemory 33 = .ok (.getfield 33, 3) := bz_c180 (by decide +kernel)
theorem d_CO_writeMemory_36 : decode b_CO_writeMemory 36 = .ok (.iconst 2, 1) := bz_c5 (by decide +kernel)
theorem d_CO_writeMemory_37 : decode b_CO_writeMemory 37 = .ok (.invokevirtual 76, 3) := bz_c182 (by decide +kernel)
theorem d_CO_writeMemory_40 : decode b_CO_writeMemory 40 = .ok (.aload_n 0, 1) := bz_c42 (by decide +kernel)
theorem d_CO_writeMemory_41 : decode b_CO_writeMemory 41 = .ok (.aload_n 1, 1) := bz_c43 (by decide +kernel)
theorem d_CO_writeMemory_42 : decode b_CO_writeMemory 42 = .ok (.iconst 5, 1) := bz_c8 (by decide +kernel)
theorem d_CO_writeMemory_43 : decode b_CO_writeMemory 43 = .ok (.invokevirtual 299, 3) := bz_c182 (by decide +kernel)
theorem d_CO_writeMemory_46 : decode b_CO_writeMemory 46 = .ok (.return_, 1) := bz_c177 (by decide +kernel)
abbrev at_CO_writeMemory (dC : Nat → ClassId) (dI : Nat → Nat → Nat) (h0 pr kn lt pe to bo cs se seb ow owb : Nat) (cseb cowb : ClassId) (h0_localCount : Int32) (h0_pendingCount : Int32) (h0_gives : Int32) (h0_depth : Int32) (h0_loopDepth : Int32) (A : Nat → Prop) (u : (Nat → Int32) × (Nat → Int32) × Int32 × Int32) (t : State) : Prop := match u with | (gowb, gseb, ow_length, se_length) => va_P (dC, dI) cls (wz_215 h0 pr kn lt h0_localCount pe h0_pendingCount h0_gives h0_depth h0_loopDepth to bo cs se se seb se_length seb cseb gseb ow owb ow_length owb cowb gowb) t.heap ∧ va_K (dC, dI) cls [(cseb, .byte), (cowb, .byte)] t ∧ va_D A (wz_215 h0 pr kn lt h0_localCount pe h0_pendingCount h0_gives h0_depth h0_loopDepth to bo cs se se seb se_length seb cseb gseb ow owb ow_length owb cowb gowb)
set_option maxHeartbeats 4000000 in
set_option maxRecDepth 100000 in
theorem c_CO_writeMemory (l : Launch) (dC : Nat → ClassId) (dI : Nat → Nat → Nat) (sz : Nat) (h0 pr kn lt pe to bo cs se seb ow owb : Nat) (cseb cowb : ClassId) (h0_localCount : Int32) (h0_pendingCount : Int32) (h0_gives : Int32) (h0_depth : Int32) (h0_loopDepth : Int32) (se_length : Int32) (gseb : Nat → Int32) (ow_length : Int32) (gowb : Nat → Int32)  (b_se_length : 0 ≤ se_length.toInt ∧ se_length.toInt ≤ 8192) (b_ow_length : 0 ≤ ow_length.toInt ∧ ow_length.toInt ≤ 8192)   (hro : ow_length.toInt + 20 ≤ 8192) : Met l y_CO_writeMemory w_CO_writeMemory ({ frames := 3, cells := 0, slots := 0, locals := 67 }) (va_Pc [.ref h0, .ref ow] (fun U => U.heap.size = sz ∧ va_P (dC, dI) cls (wz_215 h0 pr kn lt h0_localCount pe h0_pendingCount h0_gives h0_depth h0_loopDepth to bo cs se se seb se_length seb cseb gseb ow owb ow_length owb cowb gowb) U.heap ∧ va_K (dC, dI) cls [(cseb, .byte), (cowb, .byte)] U ∧ va_D (fun _ => True) (wz_215 h0 pr kn lt h0_localCount pe h0_pendingCount h0_gives h0_depth h0_loopDepth to bo cs se se seb se_length seb cseb gseb ow owb ow_length owb cowb gowb))) (va_Qv (fun (u : (Nat → Int32) × (Nat → Int32) × Int32 × Int32) => match u with | (gowb2, gseb2, ow_length2, se_length2) => (0 ≤ ow_length2.toInt ∧ ow_length2.toInt ≤ 8192) ∧ (0 ≤ se_length2.toInt ∧ se_length2.toInt ≤ 8192) ∧ (ow_length2.toInt = ow_length.toInt + ((sec 5 [1, 1, 1, 2]).length : Int) ∧ bl gowb2 ow_length2.toNatClampNeg = bl gowb ow_length.toNatClampNeg ++ sec 5 [1, 1, 1, 2])) (at_CO_writeMemory dC dI h0 pr kn lt pe to bo cs se seb ow owb cseb cowb h0_localCount h0_pendingCount h0_gives h0_depth h0_loopDepth (va_A (wz_215 h0 pr kn lt h0_localCount pe h0_pendingCount h0_gives h0_depth h0_loopDepth to bo cs se se seb se_length seb cseb gseb ow owb ow_length owb cowb gowb) sz)) (va_A (wz_215 h0 pr kn lt h0_localCount pe h0_pendingCount h0_gives h0_depth h0_loopDepth to bo cs se se seb se_length seb cseb gseb ow owb ow_length owb cowb gowb) sz)) 0 0 (va_A (wz_215 h0 pr kn lt h0_localCount pe h0_pendingCount h0_gives h0_depth h0_loopDepth to bo cs se se seb se_length seb cseb gseb ow owb ow_length owb cowb gowb) sz) := by
  refine Met.ofW (cc := b_CO_writeMemory) (maxL := 2) (ret := none) (by decide) rfl ?_
  intro p e s m args below meth c s₁ B hml hv
  obtain ⟨rfl, hsz, hP, hK, hD0⟩ := hv
  have hx := B.exec
  have hb := B.bytes
  have hr := B.returns
  have hts0 := atoms_spec (ws := w_CO_writeMemory) B.pre
  have hts : ∀ w ∈ lw_g, w.before _ s = true := fun w h => hts0 w (List.mem_cons_of_mem _ h)
  have hown : s.vm.findClass R_CO = some m.cls := findClass_of_methodNamed B.named
  have hlocks := B.notSynchronized
  clear hts0
  subst hsz
  have hD := hD0.self (sz := s.heap.size)
  generalize hAe : va_A (wz_215 h0 pr kn lt h0_localCount pe h0_pendingCount h0_gives h0_depth h0_loopDepth to bo cs se se seb se_length seb cseb gseb ow owb ow_length owb cowb gowb) s.heap.size = A at hD ⊢
  have hA : ∀ q : Nat, s.heap.size ≤ q → A q := fun q h => by rw [← hAe]; exact Or.inr h
  clear hAe
  have hP : va_P (dC, dI) cls (wz_215 h0 pr kn lt h0_localCount pe h0_pendingCount h0_gives h0_depth h0_loopDepth to bo cs se se seb se_length seb cseb gseb ow owb ow_length owb cowb gowb) s.heap := hP
  have hl := lv_entry ([.ref h0, .ref ow]) (n := 2) (Nat.le_of_ble_eq_true rfl)
  rw [lg_entry_eq]
  generalize (lg_sl ([.ref h0, .ref ow]) ++ List.replicate (2 - (lg_sl ([.ref h0, .ref ow])).length) Slot.unset).toArray = ls at hl ⊢
  have hl : lv_has ls 2 [(0, .ref h0), (1, .ref ow)] := hl
  have k0 : (0 : Int32).toInt = 0 := by decide
  refine w_gen (A := A) hP (fun H locs hP hS => ?_)
  have k1 : (1 : Int32).toInt = 1 := by decide
  have k2 : (2 : Int32).toInt = 2 := by decide
  have k5 : (5 : Int32).toInt = 5 := by decide
  refine lv_aload_n hx hb d_CO_writeMemory_0 rfl (lv_at hl 0 rfl) ?_
  refine va_get (D := (dC, dI)) (ci := 2) (v := .ref se) (C := R_CO) (T := F_CO) (N := 13) hx hb hts i_CO hown hK hP 0 rfl rfl 12 (by decide) (hts _ kF_CO_33) (fun _ h9 => h9) rfl d_CO_writeMemory_1 ?_
  refine lv_iconst (v := 0) hx hb d_CO_writeMemory_4 (by decide) ?_
  refine va_put (D := (dC, dI)) (ci := 1) (v := .int 0) (ty := .int) (C := R_BR) (T := F_BR) (N := 2) hx hb hts i_BR t_BR t_BR_ok n_BR hown hK hP hD hS 1 rfl rfl 1 (by decide) (hts _ kF_CO_64) (fun _ h9 => h9) rfl (by decide +kernel) rfl rfl (Nat.le_of_ble_eq_true rfl) d_CO_writeMemory_5 (fun H locs hP hD hS => ?_)
  refine lv_aload_n hx hb d_CO_writeMemory_8 rfl (lv_at hl 0 rfl) ?_
  refine va_get (D := (dC, dI)) (ci := 2) (v := .ref se) (C := R_CO) (T := F_CO) (N := 13) hx hb hts i_CO hown hK hP 0 rfl rfl 12 (by decide) (hts _ kF_CO_33) (fun _ h9 => h9) rfl d_CO_writeMemory_9 ?_
  refine lv_iconst (v := 1) hx hb d_CO_writeMemory_12 (by decide) ?_
  have hPc := hP.sb (wq := (wz_94 se seb 0 seb cseb gseb)) [1, 2] rfl
  have hDc := hD.sb (wq := (wz_94 se seb 0 seb cseb gseb)) [1, 2] (by decide) rfl
  have hKc := hK.sb (tyq := [(cseb, .byte)]) [0] rfl
  have hFc := va_free (wc := (wz_94 se seb 0 seb cseb gseb)) hD hS hA [1, 2] rfl
  refine va_callv (va_runV (As := [.int 1]) (rest := []) ⟨hx, hb, hml, hown, hts⟩ (c_BR_put l dC dI se seb H.size cseb 8192 0 gseb (by (first | (apply Int.le_antisymm <;> omega) | omega)) (by (first | (apply Int.le_antisymm <;> omega) | omega)) (by (first | (apply Int.le_antisymm <;> omega) | omega)) 1) (cwV 1 hts (gV kM_CO_76 kV_BR_put kS_BR_put kI_BR kC_BR_put) rfl rfl rfl (by decide +kernel) ⟨Nat.le_of_ble_eq_true rfl, Nat.le_of_ble_eq_true rfl⟩) ⟨fun a U g mk z => by obtain ⟨z0, z1, zP, zK, zD⟩ := z; exact ⟨z0, z1, zP, va_K.moved (u := U) (U := U.calling g mk a) (Vm.Alike.refl U.vm) zK, zD⟩, va_recv hKc hPc (ci := 1) (q0 := 0) rfl rfl, fun U hU hW => ⟨rfl, by rw [hU], va_P.he hU.symm hPc, va_K.moved hW.alike hKc, hDc.weaken (fun _ _ _ _ => trivial)⟩⟩ rfl rfl hl.1 rfl (lv_room (Nat.le_of_ble_eq_true rfl)) d_CO_writeMemory_13 ⟨(Nat.zero_le _), (Nat.zero_le _)⟩) hS (fun q _ h => hFc q h) hFc (fun u t H1 locs ht hvm hw hB hz1 hk1 hS => ?_)
  obtain ⟨n2, f3⟩ := u
  try dsimp only at hw
  have tn2 := br_put_in (by (first | (apply Int.le_antisymm <;> omega) | omega)) (by (first | (apply Int.le_antisymm <;> omega) | omega)) (by (first | (apply Int.le_antisymm <;> omega) | omega)) hw
  have bn2 := br_put_bl (by (first | (apply Int.le_antisymm <;> omega) | omega)) (by (first | (apply Int.le_antisymm <;> omega) | omega)) (by (first | (apply Int.le_antisymm <;> omega) | omega)) hw
  obtain ⟨hP1, hK1, hD1⟩ := hB
  replace hP1 := va_P.he ht hP1
  obtain ⟨hP, hD⟩ := va_join (wr := (wz_158 h0 pr kn lt h0_localCount pe h0_pendingCount h0_gives h0_depth h0_loopDepth to bo cs se ow owb ow_length owb cowb gowb)) (w1 := (wz_94 se seb n2 seb cseb f3)) hP hD [1, 2] [0, 3, 4] rfl rfl (by decide) (by decide) hk1 hFc hP1 hD1
  clear hPc hDc hKc hFc hz1 hk1 hP1 hK1 hD1
  rename Heap => H
  have hP : va_P (dC, dI) cls (wz_215 h0 pr kn lt h0_localCount pe h0_pendingCount h0_gives h0_depth h0_loopDepth to bo cs se ow owb ow_length owb cowb gowb se seb n2 seb cseb f3) H := hP
  have hD : va_D A (wz_215 h0 pr kn lt h0_localCount pe h0_pendingCount h0_gives h0_depth h0_loopDepth to bo cs se ow owb ow_length owb cowb gowb se seb n2 seb cseb f3) := hD
  refine lv_aload_n hx hb d_CO_writeMemory_16 rfl (lv_at hl 0 rfl) ?_
  refine va_get (D := (dC, dI)) (ci := 2) (v := .ref se) (C := R_CO) (T := F_CO) (N := 13) hx hb hts i_CO hown hK hP 0 rfl rfl 12 (by decide) (hts _ kF_CO_33) (fun _ h9 => h9) rfl d_CO_writeMemory_17 ?_
  refine lv_iconst (v := 1) hx hb d_CO_writeMemory_20 (by decide) ?_
  have hPc := hP.sb (wq := (wz_94 se seb n2 seb cseb f3)) [3, 4] rfl
  have hDc := hD.sb (wq := (wz_94 se seb n2 seb cseb f3)) [3, 4] (by decide) rfl
  have hKc := hK.sb (tyq := [(cseb, .byte)]) [0] rfl
  have hFc := va_free (wc := (wz_94 se seb n2 seb cseb f3)) hD hS hA [3, 4] rfl
  refine va_callv (va_runV (As := [.int 1]) (rest := []) ⟨hx, hb, hml, hown, hts⟩ (c_BR_put l dC dI se seb H.size cseb 8192 n2 f3 (by (first | (apply Int.le_antisymm <;> omega) | omega)) (by (first | (apply Int.le_antisymm <;> omega) | omega)) (by (first | (apply Int.le_antisymm <;> omega) | omega)) 1) (cwV 1 hts (gV kM_CO_76 kV_BR_put kS_BR_put kI_BR kC_BR_put) rfl rfl rfl (by decide +kernel) ⟨Nat.le_of_ble_eq_true rfl, Nat.le_of_ble_eq_true rfl⟩) ⟨fun a U g mk z => by obtain ⟨z0, z1, zP, zK, zD⟩ := z; exact ⟨z0, z1, zP, va_K.moved (u := U) (U := U.calling g mk a) (Vm.Alike.refl U.vm) zK, zD⟩, va_recv hKc hPc (ci := 1) (q0 := 0) rfl rfl, fun U hU hW => ⟨rfl, by rw [hU], va_P.he hU.symm hPc, va_K.moved hW.alike hKc, hDc.weaken (fun _ _ _ _ => trivial)⟩⟩ rfl rfl hl.1 rfl (lv_room (Nat.le_of_ble_eq_true rfl)) d_CO_writeMemory_21 ⟨(Nat.zero_le _), (Nat.zero_le _)⟩) hS (fun q _ h => hFc q h) hFc (fun u t H1 locs ht hvm hw hB hz1 hk1 hS => ?_)
  obtain ⟨n5, f6⟩ := u
  try dsimp only at hw
  have tn5 := br_put_in (by (first | (apply Int.le_antisymm <;> omega) | omega)) (by (first | (apply Int.le_antisymm <;> omega) | omega)) (by (first | (apply Int.le_antisymm <;> omega) | omega)) hw
  have bn5 := br_put_bl (by (first | (apply Int.le_antisymm <;> omega) | omega)) (by (first | (apply Int.le_antisymm <;> omega) | omega)) (by (first | (apply Int.le_antisymm <;> omega) | omega)) hw
  obtain ⟨hP1, hK1, hD1⟩ := hB
  replace hP1 := va_P.he ht hP1
  obtain ⟨hP, hD⟩ := va_join (wr := (wz_158 h0 pr kn lt h0_localCount pe h0_pendingCount h0_gives h0_depth h0_loopDepth to bo cs se ow owb ow_length owb cowb gowb)) (w1 := (wz_94 se seb n5 seb cseb f6)) hP hD [3, 4] [0, 1, 2] rfl rfl (by decide) (by decide) hk1 hFc hP1 hD1
  clear hPc hDc hKc hFc hz1 hk1 hP1 hK1 hD1
  rename Heap => H
  have hP : va_P (dC, dI) cls (wz_215 h0 pr kn lt h0_localCount pe h0_pendingCount h0_gives h0_depth h0_loopDepth to bo cs se ow owb ow_length owb cowb gowb se seb n5 seb cseb f6) H := hP
  have hD : va_D A (wz_215 h0 pr kn lt h0_localCount pe h0_pendingCount h0_gives h0_depth h0_loopDepth to bo cs se ow owb ow_length owb cowb gowb se seb n5 seb cseb f6) := hD
  refine lv_aload_n hx hb d_CO_writeMemory_24 rfl (lv_at hl 0 rfl) ?_
  refine va_get (D := (dC, dI)) (ci := 2) (v := .ref se) (C := R_CO) (T := F_CO) (N := 13) hx hb hts i_CO hown hK hP 0 rfl rfl 12 (by decide) (hts _ kF_CO_33) (fun _ h9 => h9) rfl d_CO_writeMemory_25 ?_
  refine lv_iconst (v := 1) hx hb d_CO_writeMemory_28 (by decide) ?_
  have hPc := hP.sb (wq := (wz_94 se seb n5 seb cseb f6)) [3, 4] rfl
  have hDc := hD.sb (wq := (wz_94 se seb n5 seb cseb f6)) [3, 4] (by decide) rfl
  have hKc := hK.sb (tyq := [(cseb, .byte)]) [0] rfl
  have hFc := va_free (wc := (wz_94 se seb n5 seb cseb f6)) hD hS hA [3, 4] rfl
  refine va_callv (va_runV (As := [.int 1]) (rest := []) ⟨hx, hb, hml, hown, hts⟩ (c_BR_put l dC dI se seb H.size cseb 8192 n5 f6 (by (first | (apply Int.le_antisymm <;> omega) | omega)) (by (first | (apply Int.le_antisymm <;> omega) | omega)) (by (first | (apply Int.le_antisymm <;> omega) | omega)) 1) (cwV 1 hts (gV kM_CO_76 kV_BR_put kS_BR_put kI_BR kC_BR_put) rfl rfl rfl (by decide +kernel) ⟨Nat.le_of_ble_eq_true rfl, Nat.le_of_ble_eq_true rfl⟩) ⟨fun a U g mk z => by obtain ⟨z0, z1, zP, zK, zD⟩ := z; exact ⟨z0, z1, zP, va_K.moved (u := U) (U := U.calling g mk a) (Vm.Alike.refl U.vm) zK, zD⟩, va_recv hKc hPc (ci := 1) (q0 := 0) rfl rfl, fun U hU hW => ⟨rfl, by rw [hU], va_P.he hU.symm hPc, va_K.moved hW.alike hKc, hDc.weaken (fun _ _ _ _ => trivial)⟩⟩ rfl rfl hl.1 rfl (lv_room (Nat.le_of_ble_eq_true rfl)) d_CO_writeMemory_29 ⟨(Nat.zero_le _), (Nat.zero_le _)⟩) hS (fun q _ h => hFc q h) hFc (fun u t H1 locs ht hvm hw hB hz1 hk1 hS => ?_)
  obtain ⟨n8, f9⟩ := u
  try dsimp only at hw
  have tn8 := br_put_in (by (first | (apply Int.le_antisymm <;> omega) | omega)) (by (first | (apply Int.le_antisymm <;> omega) | omega)) (by (first | (apply Int.le_antisymm <;> omega) | omega)) hw
  have bn8 := br_put_bl (by (first | (apply Int.le_antisymm <;> omega) | omega)) (by (first | (apply Int.le_antisymm <;> omega) | omega)) (by (first | (apply Int.le_antisymm <;> omega) | omega)) hw
  obtain ⟨hP1, hK1, hD1⟩ := hB
  replace hP1 := va_P.he ht hP1
  obtain ⟨hP, hD⟩ := va_join (wr := (wz_158 h0 pr kn lt h0_localCount pe h0_pendingCount h0_gives h0_depth h0_loopDepth to bo cs se ow owb ow_length owb cowb gowb)) (w1 := (wz_94 se seb n8 seb cseb f9)) hP hD [3, 4] [0, 1, 2] rfl rfl (by decide) (by decide) hk1 hFc hP1 hD1
  clear hPc hDc hKc hFc hz1 hk1 hP1 hK1 hD1
  rename Heap => H
  have hP : va_P (dC, dI) cls (wz_215 h0 pr kn lt h0_localCount pe h0_pendingCount h0_gives h0_depth h0_loopDepth to bo cs se ow owb ow_length owb cowb gowb se seb n8 seb cseb f9) H := hP
  have hD : va_D A (wz_215 h0 pr kn lt h0_localCount pe h0_pendingCount h0_gives h0_depth h0_loopDepth to bo cs se ow owb ow_length owb cowb gowb se seb n8 seb cseb f9) := hD
  refine lv_aload_n hx hb d_CO_writeMemory_32 rfl (lv_at hl 0 rfl) ?_
  refine va_get (D := (dC, dI)) (ci := 2) (v := .ref se) (C := R_CO) (T := F_CO) (N := 13) hx hb hts i_CO hown hK hP 0 rfl rfl 12 (by decide) (hts _ kF_CO_33) (fun _ h9 => h9) rfl d_CO_writeMemory_33 ?_
  refine lv_iconst (v := 2) hx hb d_CO_writeMemory_36 (by decide) ?_
  have hPc := hP.sb (wq := (wz_94 se seb n8 seb cseb f9)) [3, 4] rfl
  have hDc := hD.sb (wq := (wz_94 se seb n8 seb cseb f9)) [3, 4] (by decide) rfl
  have hKc := hK.sb (tyq := [(cseb, .byte)]) [0] rfl
  have hFc := va_free (wc := (wz_94 se seb n8 seb cseb f9)) hD hS hA [3, 4] rfl
  refine va_callv (va_runV (As := [.int 2]) (rest := []) ⟨hx, hb, hml, hown, hts⟩ (c_BR_put l dC dI se seb H.size cseb 8192 n8 f9 (by (first | (apply Int.le_antisymm <;> omega) | omega)) (by (first | (apply Int.le_antisymm <;> omega) | omega)) (by (first | (apply Int.le_antisymm <;> omega) | omega)) 2) (cwV 1 hts (gV kM_CO_76 kV_BR_put kS_BR_put kI_BR kC_BR_put) rfl rfl rfl (by decide +kernel) ⟨Nat.le_of_ble_eq_true rfl, Nat.le_of_ble_eq_true rfl⟩) ⟨fun a U g mk z => by obtain ⟨z0, z1, zP, zK, zD⟩ := z; exact ⟨z0, z1, zP, va_K.moved (u := U) (U := U.calling g mk a) (Vm.Alike.refl U.vm) zK, zD⟩, va_recv hKc hPc (ci := 1) (q0 := 0) rfl rfl, fun U hU hW => ⟨rfl, by rw [hU], va_P.he hU.symm hPc, va_K.moved hW.alike hKc, hDc.weaken (fun _ _ _ _ => trivial)⟩⟩ rfl rfl hl.1 rfl (lv_room (Nat.le_of_ble_eq_true rfl)) d_CO_writeMemory_37 ⟨(Nat.zero_le _), (Nat.zero_le _)⟩) hS (fun q _ h => hFc q h) hFc (fun u t H1 locs ht hvm hw hB hz1 hk1 hS => ?_)
  obtain ⟨n11, f12⟩ := u
  try dsimp only at hw
  have tn11 := br_put_in (by (first | (apply Int.le_antisymm <;> omega) | omega)) (by (first | (apply Int.le_antisymm <;> omega) | omega)) (by (first | (apply Int.le_antisymm <;> omega) | omega)) hw
  have bn11 := br_put_bl (by (first | (apply Int.le_antisymm <;> omega) | omega)) (by (first | (apply Int.le_antisymm <;> omega) | omega)) (by (first | (apply Int.le_antisymm <;> omega) | omega)) hw
  obtain ⟨hP1, hK1, hD1⟩ := hB
  replace hP1 := va_P.he ht hP1
  obtain ⟨hP, hD⟩ := va_join (wr := (wz_158 h0 pr kn lt h0_localCount pe h0_pendingCount h0_gives h0_depth h0_loopDepth to bo cs se ow owb ow_length owb cowb gowb)) (w1 := (wz_94 se seb n11 seb cseb f12)) hP hD [3, 4] [0, 1, 2] rfl rfl (by decide) (by decide) hk1 hFc hP1 hD1
  clear hPc hDc hKc hFc hz1 hk1 hP1 hK1 hD1
  rename Heap => H
  have hP : va_P (dC, dI) cls (wz_215 h0 pr kn lt h0_localCount pe h0_pendingCount h0_gives h0_depth h0_loopDepth to bo cs se ow owb ow_length owb cowb gowb se seb n11 seb cseb f12) H := hP
  have hD : va_D A (wz_215 h0 pr kn lt h0_localCount pe h0_pendingCount h0_gives h0_depth h0_loopDepth to bo cs se ow owb ow_length owb cowb gowb se seb n11 seb cseb f12) := hD
  refine lv_aload_n hx hb d_CO_writeMemory_40 rfl (lv_at hl 0 rfl) ?_
  refine lv_aload_n hx hb d_CO_writeMemory_41 rfl (lv_at hl 1 rfl) ?_
  refine lv_iconst (v := 5) hx hb d_CO_writeMemory_42 (by decide) ?_
  have hPc := hP.sb (wq := (wz_215 h0 pr kn lt h0_localCount pe h0_pendingCount h0_gives h0_depth h0_loopDepth to bo cs se se seb n11 seb cseb f12 ow owb ow_length owb cowb gowb)) [0, 3, 4, 1, 2] rfl
  have hDc := hD.sb (wq := (wz_215 h0 pr kn lt h0_localCount pe h0_pendingCount h0_gives h0_depth h0_loopDepth to bo cs se se seb n11 seb cseb f12 ow owb ow_length owb cowb gowb)) [0, 3, 4, 1, 2] (by decide) rfl
  have hKc := hK.sb (tyq := [(cseb, .byte), (cowb, .byte)]) [0, 1] rfl
  have hFc := va_free (wc := (wz_215 h0 pr kn lt h0_localCount pe h0_pendingCount h0_gives h0_depth h0_loopDepth to bo cs se se seb n11 seb cseb f12 ow owb ow_length owb cowb gowb)) hD hS hA [0, 3, 4, 1, 2] rfl
  refine va_callv (va_runV (As := [.ref ow, .int 5]) (rest := []) ⟨hx, hb, hml, hown, hts⟩ (c_CO_putSection l dC dI H.size h0 pr kn lt pe to bo cs se seb ow owb cseb cowb h0_localCount h0_pendingCount h0_gives h0_depth h0_loopDepth n11 f12 ow_length gowb (by (try dsimp only) <;> (first | (apply Int.le_antisymm <;> omega) | omega)) (b_ow_length) 5 (by decide) (by (first | (apply Int.le_antisymm <;> omega) | omega))) (cwV 2 hts (gV kM_CO_299 kV_CO_putSection kS_CO_putSection kI_CO kC_CO_putSection) rfl rfl rfl (by decide +kernel) ⟨Nat.le_of_ble_eq_true rfl, Nat.le_of_ble_eq_true rfl⟩) ⟨fun a U g mk z => by obtain ⟨z0, z1, zP, zK, zD⟩ := z; exact ⟨z0, z1, zP, va_K.moved (u := U) (U := U.calling g mk a) (Vm.Alike.refl U.vm) zK, zD⟩, va_recv hKc hPc (ci := 2) (q0 := 0) rfl rfl, fun U hU hW => ⟨rfl, by rw [hU], va_P.he hU.symm hPc, va_K.moved hW.alike hKc, hDc.weaken (fun _ _ _ _ => trivial)⟩⟩ rfl rfl hl.1 rfl (lv_room (Nat.le_of_ble_eq_true rfl)) d_CO_writeMemory_43 ⟨(Nat.zero_le _), (Nat.zero_le _)⟩) hS (fun q _ h => hFc q h) hFc (fun u t H1 locs ht hvm hw hB hz1 hk1 hS => ?_)
  obtain ⟨n14, n15⟩ := u
  try dsimp only at hw
  obtain ⟨bn15, xr13⟩ := hw
  try clear hw
  obtain ⟨hP1, hK1, hD1⟩ := hB
  replace hP1 := va_P.he ht hP1
  obtain ⟨hP, hD⟩ := va_join (wr := []) (w1 := (wz_215 h0 pr kn lt h0_localCount pe h0_pendingCount h0_gives h0_depth h0_loopDepth to bo cs se se seb n11 seb cseb f12 ow owb n15 owb cowb n14)) hP hD [0, 3, 4, 1, 2] [] rfl rfl (by decide) (by decide) hk1 hFc hP1 hD1
  clear hPc hDc hKc hFc hz1 hk1 hP1 hK1 hD1
  rename Heap => H
  have hP : va_P (dC, dI) cls (wz_215 h0 pr kn lt h0_localCount pe h0_pendingCount h0_gives h0_depth h0_loopDepth to bo cs se se seb n11 seb cseb f12 ow owb n15 owb cowb n14) H := hP
  have hD : va_D A (wz_215 h0 pr kn lt h0_localCount pe h0_pendingCount h0_gives h0_depth h0_loopDepth to bo cs se se seb n11 seb cseb f12 ow owb n15 owb cowb n14) := hD
  have hP9 := hP.sb (wq := (wz_215 h0 pr kn lt h0_localCount pe h0_pendingCount h0_gives h0_depth h0_loopDepth to bo cs se se seb n11 seb cseb f12 ow owb n15 owb cowb n14)) [0, 1, 2, 3, 4] rfl
  have hD9 := hD.sb (wq := (wz_215 h0 pr kn lt h0_localCount pe h0_pendingCount h0_gives h0_depth h0_loopDepth to bo cs se se seb n11 seb cseb f12 ow owb n15 owb cowb n14)) [0, 1, 2, 3, 4] (by decide) rfl
  exact W.vret hx hb hr (fun t ht hW => ⟨⟨(n14, f12, n15, n11), rfl, ⟨bn15, by (try dsimp only) <;> (first | (apply Int.le_antisymm <;> omega) | omega), (by have h9 := xr13; rw [bn11 (by (first | (apply Int.le_antisymm <;> omega) | omega)), bn8 (by (first | (apply Int.le_antisymm <;> omega) | omega)), bn5 (by (first | (apply Int.le_antisymm <;> omega) | omega)), bn2 (by (first | (apply Int.le_antisymm <;> omega) | omega))] at h9; exact h9)⟩, va_P.he ht.symm hP9, va_K.moved hW.alike hK, hD9⟩, hS.F ht⟩) hS.2.2 d_CO_writeMemory_46
abbrev b_CO_writeCodes : ByteArray := prog_4_method_28_code
def y_CO_writeCodes : MethodName := ⟨R_CO, "writeCodes", "(LWaferForge$ByteRow;)V"⟩
abbrev w_CO_writeCodes : List Cond := .code y_CO_writeCodes b_CO_writeCodes 2 none :: lw_g
theorem kC_CO_writeCodes : Cond.code y_CO_writeCodes b_CO_writeCodes 2 none ∈ lw_g := in_c6 65 rfl rfl
theorem d_CO_writeCodes_0 : decode b_CO_writeCodes 0 = .ok (.aload_n 0, 1) := bz_c42 (by decide +kernel)
theorem d_CO_writeCodes_1 : decode b_CO_writeCodes 1 = .ok (.getfield 33, 3) := bz_c180 (by decide +kernel)
theorem d_CO_writeCodes_4 : decode b_CO_writeCodes 4 = .ok (.iconst 0, 1) := bz_c3 (by decide +kernel)
theorem d_CO_writeCodes_5 : decode b_CO_writeCodes 5 = .ok (.putfield 64, 3) := bz_c181 (by decide +kernel)
theorem d_CO_writeCodes_8 : decode b_CO_writeCodes 8 = .ok (.aload_n 0, 1) := bz_c42 (by decide +kernel)
theorem d_CO_writeCodes_9 : decode b_CO_writeCodes 9 = .ok (.getfield 33, 3) := bz_c180 (by decide +kernel)
theorem d_CO_writeCodes_12 : decode b_CO_writeCodes 12 = .ok (.aload_n 0, 1) := bz_c42 (by decide +kernel)
theorem d_CO_writeCodes_13 : decode b_CO_writeCodes 13 = .ok (.getfield 36, 3) := bz_c180 (by decide +kernel)
theorem d_CO_writeCodes_16 : decode b_CO_writeCodes 16 = .ok (.getfield 61, 3) := bz_c180 (by decide +kernel)
theorem d_CO_writeCodes_19 : decode b_CO_writeCodes 19 = .ok (.getfield 68, 3) := bz_c180 (by decide +kernel)
theorem d_CO_writeCodes_22 : decode b_CO_writeCodes 22 = .ok (.invokevirtual 218, 3) := bz_c182 (by decide +kernel)
theorem d_CO_writeCodes_25 : decode b_CO_writeCodes 25 = .ok (.aload_n 0, 1) := bz_c42 (by decide +kernel)
theorem d_CO_writeCodes_26 : decode b_CO_writeCodes 26 = .ok (.getfield 33, 3) := bz_c180 (by decide +kernel)
theorem d_CO_writeCodes_29 : decode b_CO_writeCodes 29 = .ok (.aload_n 0, 1) := bz_c42 (by decide +kernel)
theorem d_CO_writeCodes_30 : decode b_CO_writeCodes 30 = .ok (.getfield 30, 3) := bz_c180 (by decide +kernel)
theorem d_CO_writeCodes_33 : decode b_CO_writeCodes 33 = .ok (.iconst 0, 1) := bz_c3 (by decide +kernel)
theorem d_CO_writeCodes_34 : decode b_CO_writeCodes 34 = .ok (.aload_n 0, 1) := bz_c42 (by decide +kernel)
theorem d_CO_writeCodes_35 : decode b_CO_writeCodes 35 = .ok (.getfield 30, 3) := bz_c180 (by decide +kernel)
theorem d_CO_writeCodes_38 : decode b_CO_writeCodes 38 = .ok (.getfield 64, 3) := bz_c180 (by decide +kernel)
theorem d_CO_writeCodes_41 : decode b_CO_writeCodes 41 = .ok (.invokevirtual 288, 3) := bz_c182 (by decide +kernel)
theorem d_CO_writeCodes_44 : decode b_CO_writeCodes 44 = .ok (.aload_n 0, 1) := bz_c42 (by decide +kernel)
theorem d_CO_writeCodes_45 : decode b_CO_writeCodes 45 = .ok (.aload_n 1, 1) := bz_c43 (by decide +kernel)
theorem d_CO_writeCodes_46 : decode b_CO_writeCodes 46 = .ok (.bipush 10, 2) := bz_c16 (by decide +kernel)
theorem d_CO_writeCodes_48 : decode b_CO_writeCodes 48 = .ok (.invokevirtual 299, 3) := bz_c182 (by decide +kernel)
theorem d_CO_writeCodes_51 : decode b_CO_writeCodes 51 = .ok (.return_, 1) := bz_c177 (by decide +kernel)
abbrev at_CO_writeCodes (dC : Nat → ClassId) (dI : Nat → Nat → Nat) (h0 pr kn lt pe to bo cs se gl fu pa pf sf pk pg pp pz pv pr_scanner_r pr_waiting_r pr_waitingPlaces_r csb seb tr fus fuz fut fuv ow owb : Nat) (ccsb cseb cowb : ClassId) (h0_localCount : Int32) (h0_pendingCount : Int32) (h0_gives : Int32) (h0_depth : Int32) (h0_loopDepth : Int32) (pr_reason : Int32) (pr_place : Int32) (pr_stepCount : Int32) (pr_open : Int32) (pr_twoSides : Int32) (pr_waitingCount : Int32) (cs_length : Int32) (gcsb : Nat → Int32) (fu_length : Int32) (A : Nat → Prop) (u : (Nat → Int32) × (Nat → Int32) × Int32 × Int32) (t : State) : Prop := match u with | (gowb, gseb, ow_length, se_length) => va_P (dC, dI) cls (wz_224 h0 pr kn lt h0_localCount pe h0_pendingCount h0_gives h0_depth h0_loopDepth to bo cs se pr gl fu pa pf sf pk pg pp pz pv pr_reason pr_place pr_scanner_r pr_stepCount pr_open pr_twoSides pr_waiting_r pr_waitingPlaces_r pr_waitingCount cs csb cs_length csb ccsb gcsb se seb se_length seb cseb gseb fu tr fus fuz fut fuv fu_length ow owb ow_length owb cowb gowb) t.heap ∧ va_K (dC, dI) cls [(ccsb, .byte), (cseb, .byte), (cowb, .byte)] t ∧ va_D A (wz_224 h0 pr kn lt h0_localCount pe h0_pendingCount h0_gives h0_depth h0_loopDepth to bo cs se pr gl fu pa pf sf pk pg pp pz pv pr_reason pr_place pr_scanner_r pr_stepCount pr_open pr_twoSides pr_waiting_r pr_waitingPlaces_r pr_waitingCount cs csb cs_length csb ccsb gcsb se seb se_length seb cseb gseb fu tr fus fuz fut fuv fu_length ow owb ow_length owb cowb gowb)
set_option maxHeartbeats 4000000 in
set_option maxRecDepth 100000 in
theorem c_CO_writeCodes (l : Launch) (dC : Nat → ClassId) (dI : Nat → Nat → Nat) (sz : Nat) (h0 pr kn lt pe to bo cs se gl fu pa pf sf pk pg pp pz pv pr_scanner_r pr_waiting_r pr_waitingPlaces_r csb seb tr fus fuz fut fuv ow owb : Nat) (ccsb cseb cowb : ClassId) (h0_localCount : Int32) (h0_pendingCount : Int32) (h0_gives : Int32) (h0_depth : Int32) (h0_loopDepth : Int32) (pr_reason : Int32) (pr_place : Int32) (pr_stepCount : Int32) (pr_open : Int32) (pr_twoSides : Int32) (pr_waitingCount : Int32) (cs_length : Int32) (gcsb : Nat → Int32) (se_length : Int32) (gseb : Nat → Int32) (fu_length : Int32) (ow_length : Int32) (gowb : Nat → Int32)  (b_cs_length : 0 ≤ cs_length.toInt ∧ cs_length.toInt ≤ 8192) (b_se_length : 0 ≤ se_length.toInt ∧ se_length.toInt ≤ 8192) (b_fu_length : 0 ≤ fu_length.toInt ∧ fu_length.toInt ≤ 20) (b_ow_length : 0 ≤ ow_length.toInt ∧ ow_length.toInt ≤ 8192)   (hro : ow_length.toInt + cs_length.toInt + 20 ≤ 8192) : Met l y_CO_writeCodes w_CO_writeCodes ({ frames := 3, cells := 0, slots := 0, locals := 67 }) (va_Pc [.ref h0, .ref ow] (fun U => U.heap.size = sz ∧ va_P (dC, dI) cls (wz_224 h0 pr kn lt h0_localCount pe h0_pendingCount h0_gives h0_depth h0_loopDepth to bo cs se pr gl fu pa pf sf pk pg pp pz pv pr_reason pr_place pr_scanner_r pr_stepCount pr_open pr_twoSides pr_waiting_r pr_waitingPlaces_r pr_waitingCount cs csb cs_length csb ccsb gcsb se seb se_length seb cseb gseb fu tr fus fuz fut fuv fu_length ow owb ow_length owb cowb gowb) U.heap ∧ va_K (dC, dI) cls [(ccsb, .byte), (cseb, .byte), (cowb, .byte)] U ∧ va_D (fun _ => True) (wz_224 h0 pr kn lt h0_localCount pe h0_pendingCount h0_gives h0_depth h0_loopDepth to bo cs se pr gl fu pa pf sf pk pg pp pz pv pr_reason pr_place pr_scanner_r pr_stepCount pr_open pr_twoSides pr_waiting_r pr_waitingPlaces_r pr_waitingCount cs csb cs_length csb ccsb gcsb se seb se_length seb cseb gseb fu tr fus fuz fut fuv fu_length ow owb ow_length owb cowb gowb))) (va_Qv (fun (u : (Nat → Int32) × (Nat → Int32) × Int32 × Int32) => match u with | (gowb2, gseb2, ow_length2, se_length2) => (0 ≤ ow_length2.toInt ∧ ow_length2.toInt ≤ 8192) ∧ (0 ≤ se_length2.toInt ∧ se_length2.toInt ≤ 8192) ∧ (ow_length2.toInt = ow_length.toInt + ((sec 10 (fu_length.toInt.toNat :: bl gcsb cs_length.toNatClampNeg)).length : Int) ∧ bl gowb2 ow_length2.toNatClampNeg = bl gowb ow_length.toNatClampNeg ++ sec 10 (fu_length.toInt.toNat :: bl gcsb cs_length.toNatClampNeg))) (at_CO_writeCodes dC dI h0 pr kn lt pe to bo cs se gl fu pa pf sf pk pg pp pz pv pr_scanner_r pr_waiting_r pr_waitingPlaces_r csb seb tr fus fuz fut fuv ow owb ccsb cseb cowb h0_localCount h0_pendingCount h0_gives h0_depth h0_loopDepth pr_reason pr_place pr_stepCount pr_open pr_twoSides pr_waitingCount cs_length gcsb fu_length (va_A (wz_224 h0 pr kn lt h0_localCount pe h0_pendingCount h0_gives h0_depth h0_loopDepth to bo cs se pr gl fu pa pf sf pk pg pp pz pv pr_reason pr_place pr_scanner_r pr_stepCount pr_open pr_twoSides pr_waiting_r pr_waitingPlaces_r pr_waitingCount cs csb cs_length csb ccsb gcsb se seb se_length seb cseb gseb fu tr fus fuz fut fuv fu_length ow owb ow_length owb cowb gowb) sz)) (va_A (wz_224 h0 pr kn lt h0_localCount pe h0_pendingCount h0_gives h0_depth h0_loopDepth to bo cs se pr gl fu pa pf sf pk pg pp pz pv pr_reason pr_place pr_scanner_r pr_stepCount pr_open pr_twoSides pr_waiting_r pr_waitingPlaces_r pr_waitingCount cs csb cs_length csb ccsb gcsb se seb se_length seb cseb gseb fu tr fus fuz fut fuv fu_length ow owb ow_length owb cowb gowb) sz)) 0 0 (va_A (wz_224 h0 pr kn lt h0_localCount pe h0_pendingCount h0_gives h0_depth h0_loopDepth to bo cs se pr gl fu pa pf sf pk pg pp pz pv pr_reason pr_place pr_scanner_r pr_stepCount pr_open pr_twoSides pr_waiting_r pr_waitingPlaces_r pr_waitingCount cs csb cs_length csb ccsb gcsb se seb se_length seb cseb gseb fu tr fus fuz fut fuv fu_length ow owb ow_length owb cowb gowb) sz) := by
  refine Met.ofW (cc := b_CO_writeCodes) (maxL := 2) (ret := none) (by decide) rfl ?_
  intro p e s m args below meth c s₁ B hml hv
  obtain ⟨rfl, hsz, hP, hK, hD0⟩ := hv
  have hx := B.exec
  have hb := B.bytes
  have hr := B.returns
  have hts0 := atoms_spec (ws := w_CO_writeCodes) B.pre
  have hts : ∀ w ∈ lw_g, w.before _ s = true := fun w h => hts0 w (List.mem_cons_of_mem _ h)
  have hown : s.vm.findClass R_CO = some m.cls := findClass_of_methodNamed B.named
  have hlocks := B.notSynchronized
  clear hts0
  subst hsz
  have hD := hD0.self (sz := s.heap.size)
  generalize hAe : va_A (wz_224 h0 pr kn lt h0_localCount pe h0_pendingCount h0_gives h0_depth h0_loopDepth to bo cs se pr gl fu pa pf sf pk pg pp pz pv pr_reason pr_place pr_scanner_r pr_stepCount pr_open pr_twoSides pr_waiting_r pr_waitingPlaces_r pr_waitingCount cs csb cs_length csb ccsb gcsb se seb se_length seb cseb gseb fu tr fus fuz fut fuv fu_length ow owb ow_length owb cowb gowb) s.heap.size = A at hD ⊢
  have hA : ∀ q : Nat, s.heap.size ≤ q → A q := fun q h => by rw [← hAe]; exact Or.inr h
  clear hAe
  have hP : va_P (dC, dI) cls (wz_224 h0 pr kn lt h0_localCount pe h0_pendingCount h0_gives h0_depth h0_loopDepth to bo cs se pr gl fu pa pf sf pk pg pp pz pv pr_reason pr_place pr_scanner_r pr_stepCount pr_open pr_twoSides pr_waiting_r pr_waitingPlaces_r pr_waitingCount cs csb cs_length csb ccsb gcsb se seb se_length seb cseb gseb fu tr fus fuz fut fuv fu_length ow owb ow_length owb cowb gowb) s.heap := hP
  have hl := lv_entry ([.ref h0, .ref ow]) (n := 2) (Nat.le_of_ble_eq_true rfl)
  rw [lg_entry_eq]
  generalize (lg_sl ([.ref h0, .ref ow]) ++ List.replicate (2 - (lg_sl ([.ref h0, .ref ow])).length) Slot.unset).toArray = ls at hl ⊢
  have hl : lv_has ls 2 [(0, .ref h0), (1, .ref ow)] := hl
  have k0 : (0 : Int32).toInt = 0 := by decide
  refine w_gen (A := A) hP (fun H locs hP hS => ?_)
  have k10 : (10 : Int32).toInt = 10 := by decide
  refine lv_aload_n hx hb d_CO_writeCodes_0 rfl (lv_at hl 0 rfl) ?_
  refine va_get (D := (dC, dI)) (ci := 2) (v := .ref se) (C := R_CO) (T := F_CO) (N := 13) hx hb hts i_CO hown hK hP 0 rfl rfl 12 (by decide) (hts _ kF_CO_33) (fun _ h9 => h9) rfl d_CO_writeCodes_1 ?_
  refine lv_iconst (v := 0) hx hb d_CO_writeCodes_4 (by decide) ?_
  refine va_put (D := (dC, dI)) (ci := 1) (v := .int 0) (ty := .int) (C := R_BR) (T := F_BR) (N := 2) hx hb hts i_BR t_BR t_BR_ok n_BR hown hK hP hD hS 4 rfl rfl 1 (by decide) (hts _ kF_CO_64) (fun _ h9 => h9) rfl (by decide +kernel) rfl rfl (Nat.le_of_ble_eq_true rfl) d_CO_writeCodes_5 (fun H locs hP hD hS => ?_)
  refine lv_aload_n hx hb d_CO_writeCodes_8 rfl (lv_at hl 0 rfl) ?_
  refine va_get (D := (dC, dI)) (ci := 2) (v := .ref se) (C := R_CO) (T := F_CO) (N := 13) hx hb hts i_CO hown hK hP 0 rfl rfl 12 (by decide) (hts _ kF_CO_33) (fun _ h9 => h9) rfl d_CO_writeCodes_9 ?_
  refine lv_aload_n hx hb d_CO_writeCodes_12 rfl (lv_at hl 0 rfl) ?_
  refine va_get (D := (dC, dI)) (ci := 2) (v := .ref pr) (C := R_CO) (T := F_CO) (N := 13) hx hb hts i_CO hown hK hP 0 rfl rfl 0 (by decide) (hts _ kF_CO_36) (fun _ h9 => h9) rfl d_CO_writeCodes_13 ?_
  refine va_get (D := (dC, dI)) (ci := 6) (v := .ref fu) (C := R_PR) (T := F_PR) (N := 19) hx hb hts i_PR hown hK hP 1 rfl rfl 1 (by decide) (hts _ kF_CO_61) (fun _ h9 => h9) rfl d_CO_writeCodes_16 ?_
  refine va_get (D := (dC, dI)) (ci := 5) (v := .int fu_length) (C := R_NA) (T := F_NA) (N := 6) hx hb hts i_NA hown hK hP 6 rfl rfl 5 (by decide) (hts _ kF_CO_68) (fun _ h9 => h9) rfl d_CO_writeCodes_19 ?_
  have hPc := hP.sb (wq := (wz_94 se seb 0 seb cseb gseb)) [4, 5] rfl
  have hDc := hD.sb (wq := (wz_94 se seb 0 seb cseb gseb)) [4, 5] (by decide) rfl
  have hKc := hK.sb (tyq := [(cseb, .byte)]) [1] rfl
  have hFc := va_free (wc := (wz_94 se seb 0 seb cseb gseb)) hD hS hA [4, 5] rfl
  refine va_callv (va_runV (As := [.int fu_length]) (rest := []) ⟨hx, hb, hml, hown, hts⟩ (c_BR_putUnsigned l dC dI se seb H.size cseb 8192 0 gseb (by (first | (apply Int.le_antisymm <;> omega) | omega)) (by (first | (apply Int.le_antisymm <;> omega) | omega)) (by (first | (apply Int.le_antisymm <;> omega) | omega)) fu_length (by (first | (apply Int.le_antisymm <;> omega) | omega))) (cwV 1 hts (gV kM_CO_218 kV_BR_putUnsigned kS_BR_putUnsigned kI_BR kC_BR_putUnsigned) rfl rfl rfl (by decide +kernel) ⟨Nat.le_of_ble_eq_true rfl, Nat.le_of_ble_eq_true rfl⟩) ⟨fun a U g mk z => by obtain ⟨z0, z1, zP, zK, zD⟩ := z; exact ⟨z0, z1, zP, va_K.moved (u := U) (U := U.calling g mk a) (Vm.Alike.refl U.vm) zK, zD⟩, va_recv hKc hPc (ci := 1) (q0 := 0) rfl rfl, fun U hU hW => ⟨rfl, by rw [hU], va_P.he hU.symm hPc, va_K.moved hW.alike hKc, hDc.weaken (fun _ _ _ _ => trivial)⟩⟩ rfl rfl hl.1 rfl (lv_room (Nat.le_of_ble_eq_true rfl)) d_CO_writeCodes_22 ⟨(Nat.zero_le _), (Nat.zero_le _)⟩) hS (fun q _ h => hFc q h) hFc (fun u t H1 locs ht hvm hw hB hz1 hk1 hS => ?_)
  obtain ⟨n2, f3⟩ := u
  try dsimp only at hw
  obtain ⟨tn2, bn2⟩ := hw
  have ln2 := leb_len 5 (un fu_length)
  obtain ⟨hP1, hK1, hD1⟩ := hB
  replace hP1 := va_P.he ht hP1
  obtain ⟨hP, hD⟩ := va_join (wr := [(h0, .inr (2, [.ref pr, .ref kn, .ref lt, .int h0_localCount, .ref pe, .int h0_pendingCount, .int h0_gives, .int h0_depth, .int h0_loopDepth, .ref to, .ref bo, .ref cs, .ref se])), (pr, .inr (6, [.ref gl, .ref fu, .ref pa, .ref pf, .ref sf, .ref pk, .ref pg, .ref pp, .ref pz, .ref pv, .int pr_reason, .int pr_place, .ref pr_scanner_r, .int pr_stepCount, .int pr_open, .int pr_twoSides, .ref pr_waiting_r, .ref pr_waitingPlaces_r, .int pr_waitingCount])), (cs, .inr (1, [.ref csb, .int cs_length])), (csb, .inl (ccsb, 8192, .inl gcsb)), (fu, .inr (5, [.ref tr, .ref fus, .ref fuz, .ref fut, .ref fuv, .int fu_length])), (ow, .inr (1, [.ref owb, .int ow_length])), (owb, .inl (cowb, 8192, .inl gowb))]) (w1 := (wz_94 se seb n2 seb cseb f3)) hP hD [4, 5] [0, 1, 2, 3, 6, 7, 8] rfl rfl (by decide) (by decide) hk1 hFc hP1 hD1
  clear hPc hDc hKc hFc hz1 hk1 hP1 hK1 hD1
  rename Heap => H
  have hP : va_P (dC, dI) cls [(h0, .inr (2, [.ref pr, .ref kn, .ref lt, .int h0_localCount, .ref pe, .int h0_pendingCount, .int h0_gives, .int h0_depth, .int h0_loopDepth, .ref to, .ref bo, .ref cs, .ref se])), (pr, .inr (6, [.ref gl, .ref fu, .ref pa, .ref pf, .ref sf, .ref pk, .ref pg, .ref pp, .ref pz, .ref pv, .int pr_reason, .int pr_place, .ref pr_scanner_r, .int pr_stepCount, .int pr_open, .int pr_twoSides, .ref pr_waiting_r, .ref pr_waitingPlaces_r, .int pr_waitingCount])), (cs, .inr (1, [.ref csb, .int cs_length])), (csb, .inl (ccsb, 8192, .inl gcsb)), (fu, .inr (5, [.ref tr, .ref fus, .ref fuz, .ref fut, .ref fuv, .int fu_length])), (ow, .inr (1, [.ref owb, .int ow_length])), (owb, .inl (cowb, 8192, .inl gowb)), (se, .inr (1, [.ref seb, .int n2])), (seb, .inl (cseb, 8192, .inl f3))] H := hP
  have hD : va_D A [(h0, .inr (2, [.ref pr, .ref kn, .ref lt, .int h0_localCount, .ref pe, .int h0_pendingCount, .int h0_gives, .int h0_depth, .int h0_loopDepth, .ref to, .ref bo, .ref cs, .ref se])), (pr, .inr (6, [.ref gl, .ref fu, .ref pa, .ref pf, .ref sf, .ref pk, .ref pg, .ref pp, .ref pz, .ref pv, .int pr_reason, .int pr_place, .ref pr_scanner_r, .int pr_stepCount, .int pr_open, .int pr_twoSides, .ref pr_waiting_r, .ref pr_waitingPlaces_r, .int pr_waitingCount])), (cs, .inr (1, [.ref csb, .int cs_length])), (csb, .inl (ccsb, 8192, .inl gcsb)), (fu, .inr (5, [.ref tr, .ref fus, .ref fuz, .ref fut, .ref fuv, .int fu_length])), (ow, .inr (1, [.ref owb, .int ow_length])), (owb, .inl (cowb, 8192, .inl gowb)), (se, .inr (1, [.ref seb, .int n2])), (seb, .inl (cseb, 8192, .inl f3))] := hD
  have lfu_length := congrArg List.length (leb_s (x := fu_length) (by (first | (apply Int.le_antisymm <;> omega) | omega)) (by (first | (apply Int.le_antisymm <;> omega) | omega)))
  rw [List.length_singleton] at lfu_length
  refine lv_aload_n hx hb d_CO_writeCodes_25 rfl (lv_at hl 0 rfl) ?_
  refine va_get (D := (dC, dI)) (ci := 2) (v := .ref se) (C := R_CO) (T := F_CO) (N := 13) hx hb hts i_CO hown hK hP 0 rfl rfl 12 (by decide) (hts _ kF_CO_33) (fun _ h9 => h9) rfl d_CO_writeCodes_26 ?_
  refine lv_aload_n hx hb d_CO_writeCodes_29 rfl (lv_at hl 0 rfl) ?_
  refine va_get (D := (dC, dI)) (ci := 2) (v := .ref cs) (C := R_CO) (T := F_CO) (N := 13) hx hb hts i_CO hown hK hP 0 rfl rfl 11 (by decide) (hts _ kF_CO_30) (fun _ h9 => h9) rfl d_CO_writeCodes_30 ?_
  refine lv_iconst (v := 0) hx hb d_CO_writeCodes_33 (by decide) ?_
  refine lv_aload_n hx hb d_CO_writeCodes_34 rfl (lv_at hl 0 rfl) ?_
  refine va_get (D := (dC, dI)) (ci := 2) (v := .ref cs) (C := R_CO) (T := F_CO) (N := 13) hx hb hts i_CO hown hK hP 0 rfl rfl 11 (by decide) (hts _ kF_CO_30) (fun _ h9 => h9) rfl d_CO_writeCodes_35 ?_
  refine va_get (D := (dC, dI)) (ci := 1) (v := .int cs_length) (C := R_BR) (T := F_BR) (N := 2) hx hb hts i_BR hown hK hP 2 rfl rfl 1 (by decide) (hts _ kF_CO_64) (fun _ h9 => h9) rfl d_CO_writeCodes_38 ?_
  have hPc := hP.sb (wq := (wz_214 se seb n2 seb cseb f3 cs csb cs_length csb ccsb gcsb)) [7, 8, 2, 3] rfl
  have hDc := hD.sb (wq := (wz_214 se seb n2 seb cseb f3 cs csb cs_length csb ccsb gcsb)) [7, 8, 2, 3] (by decide) rfl
  have hKc := hK.sb (tyq := [(cseb, .byte), (ccsb, .byte)]) [1, 0] rfl
  have hFc := va_free (wc := (wz_214 se seb n2 seb cseb f3 cs csb cs_length csb ccsb gcsb)) hD hS hA [7, 8, 2, 3] rfl
  refine va_callv (va_runV (As := [.ref cs, .int 0, .int cs_length]) (rest := []) ⟨hx, hb, hml, hown, hts⟩ (c_BR_putPart l dC dI se seb cs csb H.size cseb ccsb 8192 8192 n2 cs_length f3 gcsb (by (first | (apply Int.le_antisymm <;> omega) | omega)) (by (first | (apply Int.le_antisymm <;> omega) | omega)) (by (first | (apply Int.le_antisymm <;> omega) | omega)) (by (first | (apply Int.le_antisymm <;> omega) | omega)) (by (first | (apply Int.le_antisymm <;> omega) | omega)) (by (first | (apply Int.le_antisymm <;> omega) | omega)) 0 cs_length (by (first | (apply Int.le_antisymm <;> omega) | omega)) (by (first | (apply Int.le_antisymm <;> omega) | omega)) (by (first | (apply Int.le_antisymm <;> omega) | omega)) (by (first | (apply Int.le_antisymm <;> omega) | omega))) (cwV 3 hts (gV kM_CO_288 kV_BR_putPart kS_BR_putPart kI_BR kC_BR_putPart) rfl rfl rfl (by decide +kernel) ⟨Nat.le_of_ble_eq_true rfl, Nat.le_of_ble_eq_true rfl⟩) ⟨fun a U g mk z => by obtain ⟨z0, z1, zP, zK, zD⟩ := z; exact ⟨z0, z1, zP, va_K.moved (u := U) (U := U.calling g mk a) (Vm.Alike.refl U.vm) zK, zD⟩, va_recv hKc hPc (ci := 1) (q0 := 0) rfl rfl, fun U hU hW => ⟨rfl, by rw [hU], va_P.he hU.symm hPc, va_K.moved hW.alike hKc, hDc.weaken (fun _ _ _ _ => trivial)⟩⟩ rfl rfl hl.1 rfl (lv_room (Nat.le_of_ble_eq_true rfl)) d_CO_writeCodes_41 ⟨(Nat.zero_le _), (Nat.zero_le _)⟩) hS (fun q _ h => hFc q h) hFc (fun u t H1 locs ht hvm hw hB hz1 hk1 hS => ?_)
  obtain ⟨n5, f6⟩ := u
  try dsimp only at hw
  obtain ⟨tn5, bn5⟩ := hw
  obtain ⟨hP1, hK1, hD1⟩ := hB
  replace hP1 := va_P.he ht hP1
  obtain ⟨hP, hD⟩ := va_join (wr := [(h0, .inr (2, [.ref pr, .ref kn, .ref lt, .int h0_localCount, .ref pe, .int h0_pendingCount, .int h0_gives, .int h0_depth, .int h0_loopDepth, .ref to, .ref bo, .ref cs, .ref se])), (pr, .inr (6, [.ref gl, .ref fu, .ref pa, .ref pf, .ref sf, .ref pk, .ref pg, .ref pp, .ref pz, .ref pv, .int pr_reason, .int pr_place, .ref pr_scanner_r, .int pr_stepCount, .int pr_open, .int pr_twoSides, .ref pr_waiting_r, .ref pr_waitingPlaces_r, .int pr_waitingCount])), (fu, .inr (5, [.ref tr, .ref fus, .ref fuz, .ref fut, .ref fuv, .int fu_length])), (ow, .inr (1, [.ref owb, .int ow_length])), (owb, .inl (cowb, 8192, .inl gowb))]) (w1 := (wz_214 se seb n5 seb cseb f6 cs csb cs_length csb ccsb gcsb)) hP hD [7, 8, 2, 3] [0, 1, 4, 5, 6] rfl rfl (by decide) (by decide) hk1 hFc hP1 hD1
  clear hPc hDc hKc hFc hz1 hk1 hP1 hK1 hD1
  rename Heap => H
  have hP : va_P (dC, dI) cls [(h0, .inr (2, [.ref pr, .ref kn, .ref lt, .int h0_localCount, .ref pe, .int h0_pendingCount, .int h0_gives, .int h0_depth, .int h0_loopDepth, .ref to, .ref bo, .ref cs, .ref se])), (pr, .inr (6, [.ref gl, .ref fu, .ref pa, .ref pf, .ref sf, .ref pk, .ref pg, .ref pp, .ref pz, .ref pv, .int pr_reason, .int pr_place, .ref pr_scanner_r, .int pr_stepCount, .int pr_open, .int pr_twoSides, .ref pr_waiting_r, .ref pr_waitingPlaces_r, .int pr_waitingCount])), (fu, .inr (5, [.ref tr, .ref fus, .ref fuz, .ref fut, .ref fuv, .int fu_length])), (ow, .inr (1, [.ref owb, .int ow_length])), (owb, .inl (cowb, 8192, .inl gowb)), (se, .inr (1, [.ref seb, .int n5])), (seb, .inl (cseb, 8192, .inl f6)), (cs, .inr (1, [.ref csb, .int cs_length])), (csb, .inl (ccsb, 8192, .inl gcsb))] H := hP
  have hD : va_D A [(h0, .inr (2, [.ref pr, .ref kn, .ref lt, .int h0_localCount, .ref pe, .int h0_pendingCount, .int h0_gives, .int h0_depth, .int h0_loopDepth, .ref to, .ref bo, .ref cs, .ref se])), (pr, .inr (6, [.ref gl, .ref fu, .ref pa, .ref pf, .ref sf, .ref pk, .ref pg, .ref pp, .ref pz, .ref pv, .int pr_reason, .int pr_place, .ref pr_scanner_r, .int pr_stepCount, .int pr_open, .int pr_twoSides, .ref pr_waiting_r, .ref pr_waitingPlaces_r, .int pr_waitingCount])), (fu, .inr (5, [.ref tr, .ref fus, .ref fuz, .ref fut, .ref fuv, .int fu_length])), (ow, .inr (1, [.ref owb, .int ow_length])), (owb, .inl (cowb, 8192, .inl gowb)), (se, .inr (1, [.ref seb, .int n5])), (seb, .inl (cseb, 8192, .inl f6)), (cs, .inr (1, [.ref csb, .int cs_length])), (csb, .inl (ccsb, 8192, .inl gcsb))] := hD
  refine lv_aload_n hx hb d_CO_writeCodes_44 rfl (lv_at hl 0 rfl) ?_
  refine lv_aload_n hx hb d_CO_writeCodes_45 rfl (lv_at hl 1 rfl) ?_
  refine lv_bipush (v := 10) hx hb d_CO_writeCodes_46 (by decide) ?_
  have hPc := hP.sb (wq := (wz_215 h0 pr kn lt h0_localCount pe h0_pendingCount h0_gives h0_depth h0_loopDepth to bo cs se se seb n5 seb cseb f6 ow owb ow_length owb cowb gowb)) [0, 5, 6, 3, 4] rfl
  have hDc := hD.sb (wq := (wz_215 h0 pr kn lt h0_localCount pe h0_pendingCount h0_gives h0_depth h0_loopDepth to bo cs se se seb n5 seb cseb f6 ow owb ow_length owb cowb gowb)) [0, 5, 6, 3, 4] (by decide) rfl
  have hKc := hK.sb (tyq := [(cseb, .byte), (cowb, .byte)]) [1, 2] rfl
  have hFc := va_free (wc := (wz_215 h0 pr kn lt h0_localCount pe h0_pendingCount h0_gives h0_depth h0_loopDepth to bo cs se se seb n5 seb cseb f6 ow owb ow_length owb cowb gowb)) hD hS hA [0, 5, 6, 3, 4] rfl
  refine va_callv (va_runV (As := [.ref ow, .int 10]) (rest := []) ⟨hx, hb, hml, hown, hts⟩ (c_CO_putSection l dC dI H.size h0 pr kn lt pe to bo cs se seb ow owb cseb cowb h0_localCount h0_pendingCount h0_gives h0_depth h0_loopDepth n5 f6 ow_length gowb (by (try dsimp only) <;> (first | (apply Int.le_antisymm <;> omega) | omega)) (b_ow_length) 10 (by decide) (by (first | (apply Int.le_antisymm <;> omega) | omega))) (cwV 2 hts (gV kM_CO_299 kV_CO_putSection kS_CO_putSection kI_CO kC_CO_putSection) rfl rfl rfl (by decide +kernel) ⟨Nat.le_of_ble_eq_true rfl, Nat.le_of_ble_eq_true rfl⟩) ⟨fun a U g mk z => by obtain ⟨z0, z1, zP, zK, zD⟩ := z; exact ⟨z0, z1, zP, va_K.moved (u := U) (U := U.calling g mk a) (Vm.Alike.refl U.vm) zK, zD⟩, va_recv hKc hPc (ci := 2) (q0 := 0) rfl rfl, fun U hU hW => ⟨rfl, by rw [hU], va_P.he hU.symm hPc, va_K.moved hW.alike hKc, hDc.weaken (fun _ _ _ _ => trivial)⟩⟩ rfl rfl hl.1 rfl (lv_room (Nat.le_of_ble_eq_true rfl)) d_CO_writeCodes_48 ⟨(Nat.zero_le _), (Nat.zero_le _)⟩) hS (fun q _ h => hFc q h) hFc (fun u t H1 locs ht hvm hw hB hz1 hk1 hS => ?_)
  obtain ⟨n8, n9⟩ := u
  try dsimp only at hw
  obtain ⟨bn9, xr7⟩ := hw
  try clear hw
  obtain ⟨hP1, hK1, hD1⟩ := hB
  replace hP1 := va_P.he ht hP1
  obtain ⟨hP, hD⟩ := va_join (wr := [(pr, .inr (6, [.ref gl, .ref fu, .ref pa, .ref pf, .ref sf, .ref pk, .ref pg, .ref pp, .ref pz, .ref pv, .int pr_reason, .int pr_place, .ref pr_scanner_r, .int pr_stepCount, .int pr_open, .int pr_twoSides, .ref pr_waiting_r, .ref pr_waitingPlaces_r, .int pr_waitingCount])), (fu, .inr (5, [.ref tr, .ref fus, .ref fuz, .ref fut, .ref fuv, .int fu_length])), (cs, .inr (1, [.ref csb, .int cs_length])), (csb, .inl (ccsb, 8192, .inl gcsb))]) (w1 := (wz_215 h0 pr kn lt h0_localCount pe h0_pendingCount h0_gives h0_depth h0_loopDepth to bo cs se se seb n5 seb cseb f6 ow owb n9 owb cowb n8)) hP hD [0, 5, 6, 3, 4] [1, 2, 7, 8] rfl rfl (by decide) (by decide) hk1 hFc hP1 hD1
  clear hPc hDc hKc hFc hz1 hk1 hP1 hK1 hD1
  rename Heap => H
  have hP : va_P (dC, dI) cls [(pr, .inr (6, [.ref gl, .ref fu, .ref pa, .ref pf, .ref sf, .ref pk, .ref pg, .ref pp, .ref pz, .ref pv, .int pr_reason, .int pr_place, .ref pr_scanner_r, .int pr_stepCount, .int pr_open, .int pr_twoSides, .ref pr_waiting_r, .ref pr_waitingPlaces_r, .int pr_waitingCount])), (fu, .inr (5, [.ref tr, .ref fus, .ref fuz, .ref fut, .ref fuv, .int fu_length])), (cs, .inr (1, [.ref csb, .int cs_length])), (csb, .inl (ccsb, 8192, .inl gcsb)), (h0, .inr (2, [.ref pr, .ref kn, .ref lt, .int h0_localCount, .ref pe, .int h0_pendingCount, .int h0_gives, .int h0_depth, .int h0_loopDepth, .ref to, .ref bo, .ref cs, .ref se])), (se, .inr (1, [.ref seb, .int n5])), (seb, .inl (cseb, 8192, .inl f6)), (ow, .inr (1, [.ref owb, .int n9])), (owb, .inl (cowb, 8192, .inl n8))] H := hP
  have hD : va_D A [(pr, .inr (6, [.ref gl, .ref fu, .ref pa, .ref pf, .ref sf, .ref pk, .ref pg, .ref pp, .ref pz, .ref pv, .int pr_reason, .int pr_place, .ref pr_scanner_r, .int pr_stepCount, .int pr_open, .int pr_twoSides, .ref pr_waiting_r, .ref pr_waitingPlaces_r, .int pr_waitingCount])), (fu, .inr (5, [.ref tr, .ref fus, .ref fuz, .ref fut, .ref fuv, .int fu_length])), (cs, .inr (1, [.ref csb, .int cs_length])), (csb, .inl (ccsb, 8192, .inl gcsb)), (h0, .inr (2, [.ref pr, .ref kn, .ref lt, .int h0_localCount, .ref pe, .int h0_pendingCount, .int h0_gives, .int h0_depth, .int h0_loopDepth, .ref to, .ref bo, .ref cs, .ref se])), (se, .inr (1, [.ref seb, .int n5])), (seb, .inl (cseb, 8192, .inl f6)), (ow, .inr (1, [.ref owb, .int n9])), (owb, .inl (cowb, 8192, .inl n8))] := hD
  have hP9 := hP.sb (wq := (wz_224 h0 pr kn lt h0_localCount pe h0_pendingCount h0_gives h0_depth h0_loopDepth to bo cs se pr gl fu pa pf sf pk pg pp pz pv pr_reason pr_place pr_scanner_r pr_stepCount pr_open pr_twoSides pr_waiting_r pr_waitingPlaces_r pr_waitingCount cs csb cs_length csb ccsb gcsb se seb n5 seb cseb f6 fu tr fus fuz fut fuv fu_length ow owb n9 owb cowb n8)) [4, 0, 2, 3, 5, 6, 1, 7, 8] rfl
  have hD9 := hD.sb (wq := (wz_224 h0 pr kn lt h0_localCount pe h0_pendingCount h0_gives h0_depth h0_loopDepth to bo cs se pr gl fu pa pf sf pk pg pp pz pv pr_reason pr_place pr_scanner_r pr_stepCount pr_open pr_twoSides pr_waiting_r pr_waitingPlaces_r pr_waitingCount cs csb cs_length csb ccsb gcsb se seb n5 seb cseb f6 fu tr fus fuz fut fuv fu_length ow owb n9 owb cowb n8)) [4, 0, 2, 3, 5, 6, 1, 7, 8] (by decide) rfl
  exact W.vret hx hb hr (fun t ht hW => ⟨⟨(n8, f6, n9, n5), rfl, ⟨bn9, by (try dsimp only) <;> (first | (apply Int.le_antisymm <;> omega) | omega), (by have h9 := xr7; rw [bn5, bn2, leb_s (by (first | (apply Int.le_antisymm <;> omega) | omega)) (by (first | (apply Int.le_antisymm <;> omega) | omega)), show (0 : Int32).toNatClampNeg = 0 from rfl, List.drop_zero, List.take_of_length_le (by rw [bl_len]; exact Nat.le_refl _)] at h9; exact h9)⟩, va_P.he ht.symm hP9, va_K.moved hW.alike hK, hD9⟩, hS.F ht⟩) hS.2.2 d_CO_writeCodes_51
end q_81
