/-! Coder: the other sections -/
def tol (to : Nat → Int32) (n : Nat) : List Nat := (List.range n).map (fun f => (to f).toInt.toNat)
theorem tol_succ {to : Nat → Int32} {n : Nat} : tol to (n + 1) = tol to n ++ [(to n).toInt.toNat] := by
  unfold tol
  rw [List.range_succ, List.map_append]
  rfl
theorem tol_len {to : Nat → Int32} {n : Nat} : (tol to n).length = n := by
  unfold tol
  rw [List.length_map, List.length_range]
def gl1 (x : Nat × Int) : List Nat := x.1 :: 1 :: (if x.1 = 127 then 65 else 66) :: (sleb 10 x.2 ++ [11])
def gbl : List (Nat × Int) → List Nat
  | [] => []
  | x :: L => gl1 x ++ gbl L
theorem gbl_app {a b : List (Nat × Int)} : gbl (a ++ b) = gbl a ++ gbl b := by
  induction a with
  | nil => rfl
  | cons x a ih =>
    show gl1 x ++ gbl (a ++ b) = gl1 x ++ gbl a ++ gbl b
    rw [ih, List.append_assoc]
theorem gbl_one {x : Nat × Int} : gbl [x] = gl1 x := List.append_nil _
def gok (x : Nat × Int) : Prop := (x.1 = 127 ∧ -2147483648 ≤ x.2 ∧ x.2 ≤ 2147483647) ∨ (x.1 = 126 ∧ -9223372036854775808 ≤ x.2 ∧ x.2 ≤ 9223372036854775807)
theorem sleb_b : ∀ (m k : Nat) (v : Int), -(2 ^ (7 * m + 6) : Int) ≤ v → v < 2 ^ (7 * m + 6) → (sleb k v).length ≤ m + 1 := by
  intro m
  induction m with
  | zero =>
    intro k v h1 h2
    have h1 : -(64 : Int) ≤ v := h1
    have h2 : v < 64 := h2
    rw [sleb_end (Or.inr (by omega)), List.length_singleton]
    exact Nat.le_refl _
  | succ m ih =>
    intro k v h1 h2
    cases k with
    | zero => rw [sleb_end (Or.inl rfl), List.length_singleton]; omega
    | succ k =>
      by_cases q : v < -64 ∨ 63 < v
      · rw [sleb_go q, List.length_cons]
        have e : (2 : Int) ^ (7 * (m + 1) + 6) = 2 ^ (7 * m + 6) * 128 := by
          rw [show 7 * (m + 1) + 6 = (7 * m + 6) + 7 by omega, Int.pow_add]
          rfl
        rw [e] at h1 h2
        have := ih k (v / 128) (by omega) (by omega)
        omega
      · rw [sleb_end (Or.inr (by omega)), List.length_singleton]
        omega
theorem gl1_len {x : Nat × Int} (h : gok x) : (gl1 x).length ≤ 14 := by
  have q := sleb_b 9 10 x.2 (by unfold gok at h; rw [show (2 : Int) ^ (7 * 9 + 6) = 590295810358705651712 from rfl]; omega) (by unfold gok at h; rw [show (2 : Int) ^ (7 * 9 + 6) = 590295810358705651712 from rfl]; omega)
  unfold gl1
  rw [List.length_cons, List.length_cons, List.length_cons, List.length_append, List.length_singleton]
  omega
/-- names told outside -/
def xl : Nat → List (List Nat) → List Nat
  | _, [] => []
  | i, nm :: L => (nm.length :: (nm ++ [0, i])) ++ xl (i + 1) L
theorem xl_snoc {nm : List Nat} : ∀ (L : List (List Nat)) (i : Nat), xl i (L ++ [nm]) = xl i L ++ (nm.length :: (nm ++ [0, i + L.length])) := by
  intro L
  induction L with
  | nil =>
    intro i
    show (nm.length :: (nm ++ [0, i])) ++ xl (i + 1) [] = _
    rw [show xl (i + 1) [] = [] from rfl, List.append_nil]
    rfl
  | cons x L ih =>
    intro i
    show (x.length :: (x ++ [0, i])) ++ xl (i + 1) (L ++ [nm]) = (x.length :: (x ++ [0, i])) ++ xl (i + 1) L ++ _
    rw [ih (i + 1), List.append_assoc, List.length_cons, show i + 1 + L.length = i + (L.length + 1) by omega]
def zS (nz : Nat → Int32) : Nat → Int
  | 0 => 0
  | n + 1 => zS nz n + (nz n).toInt
abbrev b_CO_writeFunctions : ByteArray := prog_4_method_24_code
def y_CO_writeFunctions : MethodName := ⟨R_CO, "writeFunctions", "(LWaferForge$ByteRow;)V"⟩
abbrev w_CO_writeFunctions : List Cond := .code y_CO_writeFunctions b_CO_writeFunctions 3 none :: lw_g
theorem kC_CO_writeFunctions : Cond.code y_CO_writeFunctions b_CO_writeFunctions 3 none ∈ lw_g := in_g 1242 (by decide +kernel) rfl
theorem d_CO_writeFunctions_0 : decode b_CO_writeFunctions 0 = .ok (.aload_n 0, 1) := by decide +kernel
theorem d_CO_writeFunctions_1 : decode b_CO_writeFunctions 1 = .ok (.getfield 33, 3) := by decide +kernel
theorem d_CO_writeFunctions_4 : decode b_CO_writeFunctions 4 = .ok (.iconst 0, 1) := by decide +kernel
theorem d_CO_writeFunctions_5 : decode b_CO_writeFunctions 5 = .ok (.putfield 64, 3) := by decide +kernel
theorem d_CO_writeFunctions_8 : decode b_CO_writeFunctions 8 = .ok (.aload_n 0, 1) := by decide +kernel
theorem d_CO_writeFunctions_9 : decode b_CO_writeFunctions 9 = .ok (.getfield 33, 3) := by decide +kernel
theorem d_CO_writeFunctions_12 : decode b_CO_writeFunctions 12 = .ok (.aload_n 0, 1) := by decide +kernel
theorem d_CO_writeFunctions_13 : decode b_CO_writeFunctions 13 = .ok (.getfield 36, 3) := by decide +kernel
theorem d_CO_writeFunctions_16 : decode b_CO_writeFunctions 16 = .ok (.getfield 61, 3) := by decide +kernel
theorem d_CO_writeFunctions_19 : decode b_CO_writeFunctions 19 = .ok (.getfield 68, 3) := by decide +kernel
theorem d_CO_writeFunctions_22 : decode b_CO_writeFunctions 22 = .ok (.invokevirtual 218, 3) := by decide +kernel
theorem d_CO_writeFunctions_25 : decode b_CO_writeFunctions 25 = .ok (.iconst 0, 1) := by decide +kernel
theorem d_CO_writeFunctions_26 : decode b_CO_writeFunctions 26 = .ok (.istore_n 2, 1) := by decide +kernel
theorem d_CO_writeFunctions_27 : decode b_CO_writeFunctions 27 = .ok (.iload_n 2, 1) := by decide +kernel
theorem d_CO_writeFunctions_28 : decode b_CO_writeFunctions 28 = .ok (.aload_n 0, 1) := by decide +kernel
theorem d_CO_writeFunctions_29 : decode b_CO_writeFunctions 29 = .ok (.getfield 36, 3) := by decide +kernel
theorem d_CO_writeFunctions_32 : decode b_CO_writeFunctions 32 = .ok (.getfield 61, 3) := by decide +kernel
theorem d_CO_writeFunctions_35 : decode b_CO_writeFunctions 35 = .ok (.getfield 68, 3) := by decide +kernel
theorem d_CO_writeFunctions_38 : decode b_CO_writeFunctions 38 = .ok (.if_icmp .ge 22, 3) := by decide +kernel
theorem d_CO_writeFunctions_41 : decode b_CO_writeFunctions 41 = .ok (.aload_n 0, 1) := by decide +kernel
theorem d_CO_writeFunctions_42 : decode b_CO_writeFunctions 42 = .ok (.getfield 33, 3) := by decide +kernel
theorem d_CO_writeFunctions_45 : decode b_CO_writeFunctions 45 = .ok (.aload_n 0, 1) := by decide +kernel
theorem d_CO_writeFunctions_46 : decode b_CO_writeFunctions 46 = .ok (.getfield 18, 3) := by decide +kernel
theorem d_CO_writeFunctions_49 : decode b_CO_writeFunctions 49 = .ok (.iload_n 2, 1) := by decide +kernel
theorem d_CO_writeFunctions_50 : decode b_CO_writeFunctions 50 = .ok (.iaload, 1) := by decide +kernel
theorem d_CO_writeFunctions_51 : decode b_CO_writeFunctions 51 = .ok (.invokevirtual 218, 3) := by decide +kernel
theorem d_CO_writeFunctions_54 : decode b_CO_writeFunctions 54 = .ok (.iinc 2 1, 3) := by decide +kernel
theorem d_CO_writeFunctions_57 : decode b_CO_writeFunctions 57 = .ok (.goto (-30), 3) := by decide +kernel
theorem d_CO_writeFunctions_60 : decode b_CO_writeFunctions 60 = .ok (.aload_n 0, 1) := by decide +kernel
theorem d_CO_writeFunctions_61 : decode b_CO_writeFunctions 61 = .ok (.aload_n 1, 1) := by decide +kernel
theorem d_CO_writeFunctions_62 : decode b_CO_writeFunctions 62 = .ok (.iconst 3, 1) := by decide +kernel
theorem d_CO_writeFunctions_63 : decode b_CO_writeFunctions 63 = .ok (.invokevirtual 299, 3) := by decide +kernel
theorem d_CO_writeFunctions_66 : decode b_CO_writeFunctions 66 = .ok (.return_, 1) := by decide +kernel
abbrev at_CO_writeFunctions (dC : Nat → ClassId) (dI : Nat → Nat → Nat) (h0 pr kn lt pe to bo cs se gl fu pa pf sf pk pg pp pz pv pr_scanner_r pr_waiting_r pr_waitingPlaces_r seb tr fus fuz fut fuv ow owb : Nat) (cto cseb cowb : ClassId) (h0_localCount : Int32) (h0_pendingCount : Int32) (h0_gives : Int32) (h0_depth : Int32) (h0_loopDepth : Int32) (pr_reason : Int32) (pr_place : Int32) (pr_stepCount : Int32) (pr_open : Int32) (pr_twoSides : Int32) (pr_waitingCount : Int32) (gto : Nat → Int32) (fu_length : Int32) (A : Nat → Prop) (u : (Nat → Int32) × (Nat → Int32) × Int32 × Int32) (t : State) : Prop := match u with | (gowb, gseb, ow_length, se_length) => va_P (dC, dI) cls [(h0, .inr (2, [.ref pr, .ref kn, .ref lt, .int h0_localCount, .ref pe, .int h0_pendingCount, .int h0_gives, .int h0_depth, .int h0_loopDepth, .ref to, .ref bo, .ref cs, .ref se])), (pr, .inr (6, [.ref gl, .ref fu, .ref pa, .ref pf, .ref sf, .ref pk, .ref pg, .ref pp, .ref pz, .ref pv, .int pr_reason, .int pr_place, .ref pr_scanner_r, .int pr_stepCount, .int pr_open, .int pr_twoSides, .ref pr_waiting_r, .ref pr_waitingPlaces_r, .int pr_waitingCount])), (to, .inl (cto, 20, .inl gto)), (se, .inr (1, [.ref seb, .int se_length])), (seb, .inl (cseb, 8192, .inl gseb)), (fu, .inr (5, [.ref tr, .ref fus, .ref fuz, .ref fut, .ref fuv, .int fu_length])), (ow, .inr (1, [.ref owb, .int ow_length])), (owb, .inl (cowb, 8192, .inl gowb))] t.heap ∧ va_K (dC, dI) cls [(cto, .int), (cseb, .byte), (cowb, .byte)] t ∧ va_D A [(h0, .inr (2, [.ref pr, .ref kn, .ref lt, .int h0_localCount, .ref pe, .int h0_pendingCount, .int h0_gives, .int h0_depth, .int h0_loopDepth, .ref to, .ref bo, .ref cs, .ref se])), (pr, .inr (6, [.ref gl, .ref fu, .ref pa, .ref pf, .ref sf, .ref pk, .ref pg, .ref pp, .ref pz, .ref pv, .int pr_reason, .int pr_place, .ref pr_scanner_r, .int pr_stepCount, .int pr_open, .int pr_twoSides, .ref pr_waiting_r, .ref pr_waitingPlaces_r, .int pr_waitingCount])), (to, .inl (cto, 20, .inl gto)), (se, .inr (1, [.ref seb, .int se_length])), (seb, .inl (cseb, 8192, .inl gseb)), (fu, .inr (5, [.ref tr, .ref fus, .ref fuz, .ref fut, .ref fuv, .int fu_length])), (ow, .inr (1, [.ref owb, .int ow_length])), (owb, .inl (cowb, 8192, .inl gowb))]
set_option maxHeartbeats 4000000 in
set_option maxRecDepth 100000 in
theorem c_CO_writeFunctions (l : Launch) (dC : Nat → ClassId) (dI : Nat → Nat → Nat) (sz : Nat) (h0 pr kn lt pe to bo cs se gl fu pa pf sf pk pg pp pz pv pr_scanner_r pr_waiting_r pr_waitingPlaces_r seb tr fus fuz fut fuv ow owb : Nat) (cto cseb cowb : ClassId) (h0_localCount : Int32) (h0_pendingCount : Int32) (h0_gives : Int32) (h0_depth : Int32) (h0_loopDepth : Int32) (pr_reason : Int32) (pr_place : Int32) (pr_stepCount : Int32) (pr_open : Int32) (pr_twoSides : Int32) (pr_waitingCount : Int32) (gto : Nat → Int32) (se_length : Int32) (gseb : Nat → Int32) (fu_length : Int32) (ow_length : Int32) (gowb : Nat → Int32)  (b_se_length : 0 ≤ se_length.toInt ∧ se_length.toInt ≤ 8192) (b_fu_length : 0 ≤ fu_length.toInt ∧ fu_length.toInt ≤ 20) (b_ow_length : 0 ≤ ow_length.toInt ∧ ow_length.toInt ≤ 8192)   (hto : bx (∀ f : Nat, (f : Int) < fu_length.toInt → 0 ≤ (gto f).toInt ∧ (gto f).toInt < 128)) (hro : ow_length.toInt + 40 ≤ 8192) : Met l y_CO_writeFunctions w_CO_writeFunctions ({ frames := 3, cells := 0, slots := 0, locals := 67 }) (va_Pc [.ref h0, .ref ow] (fun U => U.heap.size = sz ∧ va_P (dC, dI) cls [(h0, .inr (2, [.ref pr, .ref kn, .ref lt, .int h0_localCount, .ref pe, .int h0_pendingCount, .int h0_gives, .int h0_depth, .int h0_loopDepth, .ref to, .ref bo, .ref cs, .ref se])), (pr, .inr (6, [.ref gl, .ref fu, .ref pa, .ref pf, .ref sf, .ref pk, .ref pg, .ref pp, .ref pz, .ref pv, .int pr_reason, .int pr_place, .ref pr_scanner_r, .int pr_stepCount, .int pr_open, .int pr_twoSides, .ref pr_waiting_r, .ref pr_waitingPlaces_r, .int pr_waitingCount])), (to, .inl (cto, 20, .inl gto)), (se, .inr (1, [.ref seb, .int se_length])), (seb, .inl (cseb, 8192, .inl gseb)), (fu, .inr (5, [.ref tr, .ref fus, .ref fuz, .ref fut, .ref fuv, .int fu_length])), (ow, .inr (1, [.ref owb, .int ow_length])), (owb, .inl (cowb, 8192, .inl gowb))] U.heap ∧ va_K (dC, dI) cls [(cto, .int), (cseb, .byte), (cowb, .byte)] U ∧ va_D (fun _ => True) [(h0, .inr (2, [.ref pr, .ref kn, .ref lt, .int h0_localCount, .ref pe, .int h0_pendingCount, .int h0_gives, .int h0_depth, .int h0_loopDepth, .ref to, .ref bo, .ref cs, .ref se])), (pr, .inr (6, [.ref gl, .ref fu, .ref pa, .ref pf, .ref sf, .ref pk, .ref pg, .ref pp, .ref pz, .ref pv, .int pr_reason, .int pr_place, .ref pr_scanner_r, .int pr_stepCount, .int pr_open, .int pr_twoSides, .ref pr_waiting_r, .ref pr_waitingPlaces_r, .int pr_waitingCount])), (to, .inl (cto, 20, .inl gto)), (se, .inr (1, [.ref seb, .int se_length])), (seb, .inl (cseb, 8192, .inl gseb)), (fu, .inr (5, [.ref tr, .ref fus, .ref fuz, .ref fut, .ref fuv, .int fu_length])), (ow, .inr (1, [.ref owb, .int ow_length])), (owb, .inl (cowb, 8192, .inl gowb))])) (va_Qv (fun (u : (Nat → Int32) × (Nat → Int32) × Int32 × Int32) => match u with | (gowb2, gseb2, ow_length2, se_length2) => (0 ≤ ow_length2.toInt ∧ ow_length2.toInt ≤ 8192) ∧ (0 ≤ se_length2.toInt ∧ se_length2.toInt ≤ 8192) ∧ (ow_length2.toInt = ow_length.toInt + ((sec 3 (fu_length.toInt.toNat :: tol gto fu_length.toInt.toNat)).length : Int) ∧ bl gowb2 ow_length2.toNatClampNeg = bl gowb ow_length.toNatClampNeg ++ sec 3 (fu_length.toInt.toNat :: tol gto fu_length.toInt.toNat))) (at_CO_writeFunctions dC dI h0 pr kn lt pe to bo cs se gl fu pa pf sf pk pg pp pz pv pr_scanner_r pr_waiting_r pr_waitingPlaces_r seb tr fus fuz fut fuv ow owb cto cseb cowb h0_localCount h0_pendingCount h0_gives h0_depth h0_loopDepth pr_reason pr_place pr_stepCount pr_open pr_twoSides pr_waitingCount gto fu_length (va_A [(h0, .inr (2, [.ref pr, .ref kn, .ref lt, .int h0_localCount, .ref pe, .int h0_pendingCount, .int h0_gives, .int h0_depth, .int h0_loopDepth, .ref to, .ref bo, .ref cs, .ref se])), (pr, .inr (6, [.ref gl, .ref fu, .ref pa, .ref pf, .ref sf, .ref pk, .ref pg, .ref pp, .ref pz, .ref pv, .int pr_reason, .int pr_place, .ref pr_scanner_r, .int pr_stepCount, .int pr_open, .int pr_twoSides, .ref pr_waiting_r, .ref pr_waitingPlaces_r, .int pr_waitingCount])), (to, .inl (cto, 20, .inl gto)), (se, .inr (1, [.ref seb, .int se_length])), (seb, .inl (cseb, 8192, .inl gseb)), (fu, .inr (5, [.ref tr, .ref fus, .ref fuz, .ref fut, .ref fuv, .int fu_length])), (ow, .inr (1, [.ref owb, .int ow_length])), (owb, .inl (cowb, 8192, .inl gowb))] sz)) (va_A [(h0, .inr (2, [.ref pr, .ref kn, .ref lt, .int h0_localCount, .ref pe, .int h0_pendingCount, .int h0_gives, .int h0_depth, .int h0_loopDepth, .ref to, .ref bo, .ref cs, .ref se])), (pr, .inr (6, [.ref gl, .ref fu, .ref pa, .ref pf, .ref sf, .ref pk, .ref pg, .ref pp, .ref pz, .ref pv, .int pr_reason, .int pr_place, .ref pr_scanner_r, .int pr_stepCount, .int pr_open, .int pr_twoSides, .ref pr_waiting_r, .ref pr_waitingPlaces_r, .int pr_waitingCount])), (to, .inl (cto, 20, .inl gto)), (se, .inr (1, [.ref seb, .int se_length])), (seb, .inl (cseb, 8192, .inl gseb)), (fu, .inr (5, [.ref tr, .ref fus, .ref fuz, .ref fut, .ref fuv, .int fu_length])), (ow, .inr (1, [.ref owb, .int ow_length])), (owb, .inl (cowb, 8192, .inl gowb))] sz)) 0 0 (va_A [(h0, .inr (2, [.ref pr, .ref kn, .ref lt, .int h0_localCount, .ref pe, .int h0_pendingCount, .int h0_gives, .int h0_depth, .int h0_loopDepth, .ref to, .ref bo, .ref cs, .ref se])), (pr, .inr (6, [.ref gl, .ref fu, .ref pa, .ref pf, .ref sf, .ref pk, .ref pg, .ref pp, .ref pz, .ref pv, .int pr_reason, .int pr_place, .ref pr_scanner_r, .int pr_stepCount, .int pr_open, .int pr_twoSides, .ref pr_waiting_r, .ref pr_waitingPlaces_r, .int pr_waitingCount])), (to, .inl (cto, 20, .inl gto)), (se, .inr (1, [.ref seb, .int se_length])), (seb, .inl (cseb, 8192, .inl gseb)), (fu, .inr (5, [.ref tr, .ref fus, .ref fuz, .ref fut, .ref fuv, .int fu_length])), (ow, .inr (1, [.ref owb, .int ow_length])), (owb, .inl (cowb, 8192, .inl gowb))] sz) := by
  refine Met.ofW (cc := b_CO_writeFunctions) (maxL := 3) (ret := none) (by decide) rfl ?_
  intro p e s m args below meth c s₁ B hml hv
  obtain ⟨rfl, hsz, hP, hK, hD0⟩ := hv
  have hx := B.exec
  have hb := B.bytes
  have hr := B.returns
  have hts0 := atoms_spec (ws := w_CO_writeFunctions) B.pre
  have hts : ∀ w ∈ lw_g, w.before _ s = true := fun w h => hts0 w (List.mem_cons_of_mem _ h)
  have hown : s.vm.findClass R_CO = some m.cls := findClass_of_methodNamed B.named
  have hlocks := B.notSynchronized
  clear hts0
  subst hsz
  have hD := hD0.self (sz := s.heap.size)
  generalize hAe : va_A [(h0, .inr (2, [.ref pr, .ref kn, .ref lt, .int h0_localCount, .ref pe, .int h0_pendingCount, .int h0_gives, .int h0_depth, .int h0_loopDepth, .ref to, .ref bo, .ref cs, .ref se])), (pr, .inr (6, [.ref gl, .ref fu, .ref pa, .ref pf, .ref sf, .ref pk, .ref pg, .ref pp, .ref pz, .ref pv, .int pr_reason, .int pr_place, .ref pr_scanner_r, .int pr_stepCount, .int pr_open, .int pr_twoSides, .ref pr_waiting_r, .ref pr_waitingPlaces_r, .int pr_waitingCount])), (to, .inl (cto, 20, .inl gto)), (se, .inr (1, [.ref seb, .int se_length])), (seb, .inl (cseb, 8192, .inl gseb)), (fu, .inr (5, [.ref tr, .ref fus, .ref fuz, .ref fut, .ref fuv, .int fu_length])), (ow, .inr (1, [.ref owb, .int ow_length])), (owb, .inl (cowb, 8192, .inl gowb))] s.heap.size = A at hD ⊢
  have hA : ∀ q : Nat, s.heap.size ≤ q → A q := fun q h => by rw [← hAe]; exact Or.inr h
  clear hAe
  have hP : va_P (dC, dI) cls [(h0, .inr (2, [.ref pr, .ref kn, .ref lt, .int h0_localCount, .ref pe, .int h0_pendingCount, .int h0_gives, .int h0_depth, .int h0_loopDepth, .ref to, .ref bo, .ref cs, .ref se])), (pr, .inr (6, [.ref gl, .ref fu, .ref pa, .ref pf, .ref sf, .ref pk, .ref pg, .ref pp, .ref pz, .ref pv, .int pr_reason, .int pr_place, .ref pr_scanner_r, .int pr_stepCount, .int pr_open, .int pr_twoSides, .ref pr_waiting_r, .ref pr_waitingPlaces_r, .int pr_waitingCount])), (to, .inl (cto, 20, .inl gto)), (se, .inr (1, [.ref seb, .int se_length])), (seb, .inl (cseb, 8192, .inl gseb)), (fu, .inr (5, [.ref tr, .ref fus, .ref fuz, .ref fut, .ref fuv, .int fu_length])), (ow, .inr (1, [.ref owb, .int ow_length])), (owb, .inl (cowb, 8192, .inl gowb))] s.heap := hP
  have hl := lv_entry ([.ref h0, .ref ow]) (n := 3) (Nat.le_of_ble_eq_true rfl)
  rw [lg_entry_eq]
  generalize (lg_sl ([.ref h0, .ref ow]) ++ List.replicate (3 - (lg_sl ([.ref h0, .ref ow])).length) Slot.unset).toArray = ls at hl ⊢
  have hl : lv_has ls 3 [(0, .ref h0), (1, .ref ow)] := hl
  have k0 : (0 : Int32).toInt = 0 := by decide
  refine w_gen (A := A) hP (fun H locs hP hS => ?_)
  have k1 : (1 : Int32).toInt = 1 := by decide
  have k3 : (3 : Int32).toInt = 3 := by decide
  refine lv_aload_n hx hb d_CO_writeFunctions_0 rfl (lv_at hl 0 rfl) ?_
  refine va_get (D := (dC, dI)) (ci := 2) (v := .ref se) (C := R_CO) (T := F_CO) (N := 13) hx hb hts i_CO hown hK hP 0 rfl rfl 12 (by decide) (hts _ kF_CO_33) (fun _ h9 => h9) rfl d_CO_writeFunctions_1 ?_
  refine lv_iconst (v := 0) hx hb d_CO_writeFunctions_4 (by decide) ?_
  refine va_put (D := (dC, dI)) (ci := 1) (v := .int 0) (ty := .int) (C := R_BR) (T := F_BR) (N := 2) hx hb hts i_BR t_BR t_BR_ok n_BR hown hK hP hD hS 3 rfl rfl 1 (by decide) (hts _ kF_CO_64) (fun _ h9 => h9) rfl (by decide +kernel) rfl rfl (Nat.le_of_ble_eq_true rfl) d_CO_writeFunctions_5 (fun H locs hP hD hS => ?_)
  refine lv_aload_n hx hb d_CO_writeFunctions_8 rfl (lv_at hl 0 rfl) ?_
  refine va_get (D := (dC, dI)) (ci := 2) (v := .ref se) (C := R_CO) (T := F_CO) (N := 13) hx hb hts i_CO hown hK hP 0 rfl rfl 12 (by decide) (hts _ kF_CO_33) (fun _ h9 => h9) rfl d_CO_writeFunctions_9 ?_
  refine lv_aload_n hx hb d_CO_writeFunctions_12 rfl (lv_at hl 0 rfl) ?_
  refine va_get (D := (dC, dI)) (ci := 2) (v := .ref pr) (C := R_CO) (T := F_CO) (N := 13) hx hb hts i_CO hown hK hP 0 rfl rfl 0 (by decide) (hts _ kF_CO_36) (fun _ h9 => h9) rfl d_CO_writeFunctions_13 ?_
  refine va_get (D := (dC, dI)) (ci := 6) (v := .ref fu) (C := R_PR) (T := F_PR) (N := 19) hx hb hts i_PR hown hK hP 1 rfl rfl 1 (by decide) (hts _ kF_CO_61) (fun _ h9 => h9) rfl d_CO_writeFunctions_16 ?_
  refine va_get (D := (dC, dI)) (ci := 5) (v := .int fu_length) (C := R_NA) (T := F_NA) (N := 6) hx hb hts i_NA hown hK hP 5 rfl rfl 5 (by decide) (hts _ kF_CO_68) (fun _ h9 => h9) rfl d_CO_writeFunctions_19 ?_
  have hPc := hP.sub (ws' := [(se, .inr (1, [.ref seb, .int 0])), (seb, .inl (cseb, 8192, .inl gseb))]) [3, 4] rfl
  have hDc := hD.sub (ws' := [(se, .inr (1, [.ref seb, .int 0])), (seb, .inl (cseb, 8192, .inl gseb))]) [3, 4] (by decide) rfl
  have hKc := hK.sub (tys' := [(cseb, .byte)]) [1] rfl
  have hFc := va_free (wc := [(se, .inr (1, [.ref seb, .int 0])), (seb, .inl (cseb, 8192, .inl gseb))]) hD hS hA [3, 4] rfl
  refine va_callv (va_runV (As := [.int fu_length]) (rest := []) ⟨hx, hb, hml, hown, hts⟩ (c_BR_putUnsigned l dC dI se seb H.size cseb 8192 0 gseb (by omega) (by omega) (by omega) fu_length (by omega)) (cwV 1 hts (gV kM_CO_218 kV_BR_putUnsigned kS_BR_putUnsigned kI_BR kC_BR_putUnsigned) rfl rfl rfl (by decide +kernel) ⟨Nat.le_of_ble_eq_true rfl, Nat.le_of_ble_eq_true rfl⟩) ⟨fun a U g mk z => by obtain ⟨z0, z1, zP, zK, zD⟩ := z; exact ⟨z0, z1, zP, va_K.moved (u := U) (U := U.calling g mk a) (Vm.Alike.refl U.vm) zK, zD⟩, va_recv hKc hPc (ci := 1) (q0 := 0) rfl rfl, fun U hU hW => ⟨rfl, by rw [hU], by rw [hU]; exact hPc, va_K.moved hW.alike hKc, hDc.weaken (fun _ _ _ _ => trivial)⟩⟩ rfl rfl hl.1 rfl (lv_room (Nat.le_of_ble_eq_true rfl)) d_CO_writeFunctions_22 ⟨(Nat.zero_le _), (Nat.zero_le _)⟩) hS (fun q _ h => hFc q h) hFc (fun u t H1 locs ht hvm hw hB hz1 hk1 hS => ?_)
  obtain ⟨n2, f3⟩ := u
  try dsimp only at hw
  obtain ⟨tn2, bn2⟩ := hw
  have ln2 := leb_len 5 (un fu_length)
  obtain ⟨hP1, hK1, hD1⟩ := hB
  rw [ht] at hP1
  obtain ⟨hP, hD⟩ := va_join (wr := [(h0, .inr (2, [.ref pr, .ref kn, .ref lt, .int h0_localCount, .ref pe, .int h0_pendingCount, .int h0_gives, .int h0_depth, .int h0_loopDepth, .ref to, .ref bo, .ref cs, .ref se])), (pr, .inr (6, [.ref gl, .ref fu, .ref pa, .ref pf, .ref sf, .ref pk, .ref pg, .ref pp, .ref pz, .ref pv, .int pr_reason, .int pr_place, .ref pr_scanner_r, .int pr_stepCount, .int pr_open, .int pr_twoSides, .ref pr_waiting_r, .ref pr_waitingPlaces_r, .int pr_waitingCount])), (to, .inl (cto, 20, .inl gto)), (fu, .inr (5, [.ref tr, .ref fus, .ref fuz, .ref fut, .ref fuv, .int fu_length])), (ow, .inr (1, [.ref owb, .int ow_length])), (owb, .inl (cowb, 8192, .inl gowb))]) (w1 := [(se, .inr (1, [.ref seb, .int n2])), (seb, .inl (cseb, 8192, .inl f3))]) hP hD [3, 4] [0, 1, 2, 5, 6, 7] rfl rfl (by decide) (by decide) hk1 hFc hP1 hD1
  clear hPc hDc hKc hFc hz1 hk1 hP1 hK1 hD1
  generalize H1 = H at hP hS ⊢
  have hP : va_P (dC, dI) cls [(h0, .inr (2, [.ref pr, .ref kn, .ref lt, .int h0_localCount, .ref pe, .int h0_pendingCount, .int h0_gives, .int h0_depth, .int h0_loopDepth, .ref to, .ref bo, .ref cs, .ref se])), (pr, .inr (6, [.ref gl, .ref fu, .ref pa, .ref pf, .ref sf, .ref pk, .ref pg, .ref pp, .ref pz, .ref pv, .int pr_reason, .int pr_place, .ref pr_scanner_r, .int pr_stepCount, .int pr_open, .int pr_twoSides, .ref pr_waiting_r, .ref pr_waitingPlaces_r, .int pr_waitingCount])), (to, .inl (cto, 20, .inl gto)), (fu, .inr (5, [.ref tr, .ref fus, .ref fuz, .ref fut, .ref fuv, .int fu_length])), (ow, .inr (1, [.ref owb, .int ow_length])), (owb, .inl (cowb, 8192, .inl gowb)), (se, .inr (1, [.ref seb, .int n2])), (seb, .inl (cseb, 8192, .inl f3))] H := hP
  have hD : va_D A [(h0, .inr (2, [.ref pr, .ref kn, .ref lt, .int h0_localCount, .ref pe, .int h0_pendingCount, .int h0_gives, .int h0_depth, .int h0_loopDepth, .ref to, .ref bo, .ref cs, .ref se])), (pr, .inr (6, [.ref gl, .ref fu, .ref pa, .ref pf, .ref sf, .ref pk, .ref pg, .ref pp, .ref pz, .ref pv, .int pr_reason, .int pr_place, .ref pr_scanner_r, .int pr_stepCount, .int pr_open, .int pr_twoSides, .ref pr_waiting_r, .ref pr_waitingPlaces_r, .int pr_waitingCount])), (to, .inl (cto, 20, .inl gto)), (fu, .inr (5, [.ref tr, .ref fus, .ref fuz, .ref fut, .ref fuv, .int fu_length])), (ow, .inr (1, [.ref owb, .int ow_length])), (owb, .inl (cowb, 8192, .inl gowb)), (se, .inr (1, [.ref seb, .int n2])), (seb, .inl (cseb, 8192, .inl f3))] := hD
  have lfu_length := congrArg List.length (leb_s (x := fu_length) (by omega) (by omega))
  rw [List.length_singleton] at lfu_length
  refine lv_iconst (v := 0) hx hb d_CO_writeFunctions_25 (by decide) ?_
  refine lv_istore_n (lv' := [(2, .int 0), (0, .ref h0), (1, .ref ow)]) hx hb d_CO_writeFunctions_26 rfl hl (by decide) rfl (fun ls hl => ?_)
  refine w_loop (σ := Int32 × (Nat → Int32) × Int32) (fun u H locs ls => match u with | (j27_l2, j27_seb, j27_se_length) => (0 ≤ j27_se_length.toInt ∧ j27_se_length.toInt ≤ 8192) ∧ (0 ≤ j27_l2.toInt ∧ j27_l2.toInt ≤ fu_length.toInt ∧ j27_se_length.toInt = 1 + j27_l2.toInt) ∧ (bl j27_seb j27_se_length.toNatClampNeg = fu_length.toInt.toNat :: tol gto j27_l2.toNatClampNeg) ∧ va_P (dC, dI) cls [(h0, .inr (2, [.ref pr, .ref kn, .ref lt, .int h0_localCount, .ref pe, .int h0_pendingCount, .int h0_gives, .int h0_depth, .int h0_loopDepth, .ref to, .ref bo, .ref cs, .ref se])), (pr, .inr (6, [.ref gl, .ref fu, .ref pa, .ref pf, .ref sf, .ref pk, .ref pg, .ref pp, .ref pz, .ref pv, .int pr_reason, .int pr_place, .ref pr_scanner_r, .int pr_stepCount, .int pr_open, .int pr_twoSides, .ref pr_waiting_r, .ref pr_waitingPlaces_r, .int pr_waitingCount])), (to, .inl (cto, 20, .inl gto)), (fu, .inr (5, [.ref tr, .ref fus, .ref fuz, .ref fut, .ref fuv, .int fu_length])), (ow, .inr (1, [.ref owb, .int ow_length])), (owb, .inl (cowb, 8192, .inl gowb)), (se, .inr (1, [.ref seb, .int j27_se_length])), (seb, .inl (cseb, 8192, .inl j27_seb))] H ∧ va_D A [(h0, .inr (2, [.ref pr, .ref kn, .ref lt, .int h0_localCount, .ref pe, .int h0_pendingCount, .int h0_gives, .int h0_depth, .int h0_loopDepth, .ref to, .ref bo, .ref cs, .ref se])), (pr, .inr (6, [.ref gl, .ref fu, .ref pa, .ref pf, .ref sf, .ref pk, .ref pg, .ref pp, .ref pz, .ref pv, .int pr_reason, .int pr_place, .ref pr_scanner_r, .int pr_stepCount, .int pr_open, .int pr_twoSides, .ref pr_waiting_r, .ref pr_waitingPlaces_r, .int pr_waitingCount])), (to, .inl (cto, 20, .inl gto)), (fu, .inr (5, [.ref tr, .ref fus, .ref fuz, .ref fut, .ref fuv, .int fu_length])), (ow, .inr (1, [.ref owb, .int ow_length])), (owb, .inl (cowb, 8192, .inl gowb)), (se, .inr (1, [.ref seb, .int j27_se_length])), (seb, .inl (cseb, 8192, .inl j27_seb))] ∧ va_S A s.heap H locs ∧ lv_has ls 3 [(0, .ref h0), (1, .ref ow), (2, .int j27_l2)]) (fun u => match u with | (j27_l2, j27_seb, j27_se_length) => (fu_length.toInt - j27_l2.toInt).toNat) ?_ (0, f3, n2) ⟨by (try dsimp only) <;> omega, by (try dsimp only) <;> omega, (by rw [bn2, leb_s (by omega) (by omega)]; rfl), hP, hD, hS, lv_sub hl [1, 2, 0] rfl⟩
  intro N27 ih27 u H locs ls hN27 hI
  obtain ⟨j27_l2, j27_seb, j27_se_length⟩ := u
  obtain ⟨b_j27_se_length, v1, hB, hP, hD, hS, hl⟩ := hI
  have hN27 : (fu_length.toInt - j27_l2.toInt).toNat < N27 + 1 := hN27
  refine lv_iload_n hx hb d_CO_writeFunctions_27 rfl (lv_at hl 2 rfl) ?_
  refine lv_aload_n hx hb d_CO_writeFunctions_28 rfl (lv_at hl 0 rfl) ?_
  refine va_get (D := (dC, dI)) (ci := 2) (v := .ref pr) (C := R_CO) (T := F_CO) (N := 13) hx hb hts i_CO hown hK hP 0 rfl rfl 0 (by decide) (hts _ kF_CO_36) (fun _ h9 => h9) rfl d_CO_writeFunctions_29 ?_
  refine va_get (D := (dC, dI)) (ci := 6) (v := .ref fu) (C := R_PR) (T := F_PR) (N := 19) hx hb hts i_PR hown hK hP 1 rfl rfl 1 (by decide) (hts _ kF_CO_61) (fun _ h9 => h9) rfl d_CO_writeFunctions_32 ?_
  refine va_get (D := (dC, dI)) (ci := 5) (v := .int fu_length) (C := R_NA) (T := F_NA) (N := 6) hx hb hts i_NA hown hK hP 3 rfl rfl 5 (by decide) (hts _ kF_CO_68) (fun _ h9 => h9) rfl d_CO_writeFunctions_35 ?_
  refine lv_icmp_ge (tgt := 60) hx hb d_CO_writeFunctions_38 (by decide) (fun c38 => ?_) (fun c38 => ?_)
  · have q38 := leI c38
    refine lv_aload_n hx hb d_CO_writeFunctions_60 rfl (lv_at hl 0 rfl) ?_
    refine lv_aload_n hx hb d_CO_writeFunctions_61 rfl (lv_at hl 1 rfl) ?_
    refine lv_iconst (v := 3) hx hb d_CO_writeFunctions_62 (by decide) ?_
    have hPc := hP.sub (ws' := [(h0, .inr (2, [.ref pr, .ref kn, .ref lt, .int h0_localCount, .ref pe, .int h0_pendingCount, .int h0_gives, .int h0_depth, .int h0_loopDepth, .ref to, .ref bo, .ref cs, .ref se])), (se, .inr (1, [.ref seb, .int j27_se_length])), (seb, .inl (cseb, 8192, .inl j27_seb)), (ow, .inr (1, [.ref owb, .int ow_length])), (owb, .inl (cowb, 8192, .inl gowb))]) [0, 6, 7, 4, 5] rfl
    have hDc := hD.sub (ws' := [(h0, .inr (2, [.ref pr, .ref kn, .ref lt, .int h0_localCount, .ref pe, .int h0_pendingCount, .int h0_gives, .int h0_depth, .int h0_loopDepth, .ref to, .ref bo, .ref cs, .ref se])), (se, .inr (1, [.ref seb, .int j27_se_length])), (seb, .inl (cseb, 8192, .inl j27_seb)), (ow, .inr (1, [.ref owb, .int ow_length])), (owb, .inl (cowb, 8192, .inl gowb))]) [0, 6, 7, 4, 5] (by decide) rfl
    have hKc := hK.sub (tys' := [(cseb, .byte), (cowb, .byte)]) [1, 2] rfl
    have hFc := va_free (wc := [(h0, .inr (2, [.ref pr, .ref kn, .ref lt, .int h0_localCount, .ref pe, .int h0_pendingCount, .int h0_gives, .int h0_depth, .int h0_loopDepth, .ref to, .ref bo, .ref cs, .ref se])), (se, .inr (1, [.ref seb, .int j27_se_length])), (seb, .inl (cseb, 8192, .inl j27_seb)), (ow, .inr (1, [.ref owb, .int ow_length])), (owb, .inl (cowb, 8192, .inl gowb))]) hD hS hA [0, 6, 7, 4, 5] rfl
    refine va_callv (va_runV (As := [.ref ow, .int 3]) (rest := []) ⟨hx, hb, hml, hown, hts⟩ (c_CO_putSection l dC dI H.size h0 pr kn lt pe to bo cs se seb ow owb cseb cowb h0_localCount h0_pendingCount h0_gives h0_depth h0_loopDepth j27_se_length j27_seb ow_length gowb (b_j27_se_length) (b_ow_length) 3 (by decide) (by omega)) (cwV 2 hts (gV kM_CO_299 kV_CO_putSection kS_CO_putSection kI_CO kC_CO_putSection) rfl rfl rfl (by decide +kernel) ⟨Nat.le_of_ble_eq_true rfl, Nat.le_of_ble_eq_true rfl⟩) ⟨fun a U g mk z => by obtain ⟨z0, z1, zP, zK, zD⟩ := z; exact ⟨z0, z1, zP, va_K.moved (u := U) (U := U.calling g mk a) (Vm.Alike.refl U.vm) zK, zD⟩, va_recv hKc hPc (ci := 2) (q0 := 0) rfl rfl, fun U hU hW => ⟨rfl, by rw [hU], by rw [hU]; exact hPc, va_K.moved hW.alike hKc, hDc.weaken (fun _ _ _ _ => trivial)⟩⟩ rfl rfl hl.1 rfl (lv_room (Nat.le_of_ble_eq_true rfl)) d_CO_writeFunctions_63 ⟨(Nat.zero_le _), (Nat.zero_le _)⟩) hS (fun q _ h => hFc q h) hFc (fun u t H1 locs ht hvm hw hB hz1 hk1 hS => ?_)
    obtain ⟨n5, n6⟩ := u
    try dsimp only at hw
    obtain ⟨bn6, xr4⟩ := hw
    try clear hw
    obtain ⟨hP1, hK1, hD1⟩ := hB
    rw [ht] at hP1
    obtain ⟨hP, hD⟩ := va_join (wr := [(pr, .inr (6, [.ref gl, .ref fu, .ref pa, .ref pf, .ref sf, .ref pk, .ref pg, .ref pp, .ref pz, .ref pv, .int pr_reason, .int pr_place, .ref pr_scanner_r, .int pr_stepCount, .int pr_open, .int pr_twoSides, .ref pr_waiting_r, .ref pr_waitingPlaces_r, .int pr_waitingCount])), (to, .inl (cto, 20, .inl gto)), (fu, .inr (5, [.ref tr, .ref fus, .ref fuz, .ref fut, .ref fuv, .int fu_length]))]) (w1 := [(h0, .inr (2, [.ref pr, .ref kn, .ref lt, .int h0_localCount, .ref pe, .int h0_pendingCount, .int h0_gives, .int h0_depth, .int h0_loopDepth, .ref to, .ref bo, .ref cs, .ref se])), (se, .inr (1, [.ref seb, .int j27_se_length])), (seb, .inl (cseb, 8192, .inl j27_seb)), (ow, .inr (1, [.ref owb, .int n6])), (owb, .inl (cowb, 8192, .inl n5))]) hP hD [0, 6, 7, 4, 5] [1, 2, 3] rfl rfl (by decide) (by decide) hk1 hFc hP1 hD1
    clear hPc hDc hKc hFc hz1 hk1 hP1 hK1 hD1
    generalize H1 = H at hP hS ⊢
    have hP : va_P (dC, dI) cls [(pr, .inr (6, [.ref gl, .ref fu, .ref pa, .ref pf, .ref sf, .ref pk, .ref pg, .ref pp, .ref pz, .ref pv, .int pr_reason, .int pr_place, .ref pr_scanner_r, .int pr_stepCount, .int pr_open, .int pr_twoSides, .ref pr_waiting_r, .ref pr_waitingPlaces_r, .int pr_waitingCount])), (to, .inl (cto, 20, .inl gto)), (fu, .inr (5, [.ref tr, .ref fus, .ref fuz, .ref fut, .ref fuv, .int fu_length])), (h0, .inr (2, [.ref pr, .ref kn, .ref lt, .int h0_localCount, .ref pe, .int h0_pendingCount, .int h0_gives, .int h0_depth, .int h0_loopDepth, .ref to, .ref bo, .ref cs, .ref se])), (se, .inr (1, [.ref seb, .int j27_se_length])), (seb, .inl (cseb, 8192, .inl j27_seb)), (ow, .inr (1, [.ref owb, .int n6])), (owb, .inl (cowb, 8192, .inl n5))] H := hP
    have hD : va_D A [(pr, .inr (6, [.ref gl, .ref fu, .ref pa, .ref pf, .ref sf, .ref pk, .ref pg, .ref pp, .ref pz, .ref pv, .int pr_reason, .int pr_place, .ref pr_scanner_r, .int pr_stepCount, .int pr_open, .int pr_twoSides, .ref pr_waiting_r, .ref pr_waitingPlaces_r, .int pr_waitingCount])), (to, .inl (cto, 20, .inl gto)), (fu, .inr (5, [.ref tr, .ref fus, .ref fuz, .ref fut, .ref fuv, .int fu_length])), (h0, .inr (2, [.ref pr, .ref kn, .ref lt, .int h0_localCount, .ref pe, .int h0_pendingCount, .int h0_gives, .int h0_depth, .int h0_loopDepth, .ref to, .ref bo, .ref cs, .ref se])), (se, .inr (1, [.ref seb, .int j27_se_length])), (seb, .inl (cseb, 8192, .inl j27_seb)), (ow, .inr (1, [.ref owb, .int n6])), (owb, .inl (cowb, 8192, .inl n5))] := hD
    have hP9 := hP.sub (ws' := [(h0, .inr (2, [.ref pr, .ref kn, .ref lt, .int h0_localCount, .ref pe, .int h0_pendingCount, .int h0_gives, .int h0_depth, .int h0_loopDepth, .ref to, .ref bo, .ref cs, .ref se])), (pr, .inr (6, [.ref gl, .ref fu, .ref pa, .ref pf, .ref sf, .ref pk, .ref pg, .ref pp, .ref pz, .ref pv, .int pr_reason, .int pr_place, .ref pr_scanner_r, .int pr_stepCount, .int pr_open, .int pr_twoSides, .ref pr_waiting_r, .ref pr_waitingPlaces_r, .int pr_waitingCount])), (to, .inl (cto, 20, .inl gto)), (se, .inr (1, [.ref seb, .int j27_se_length])), (seb, .inl (cseb, 8192, .inl j27_seb)), (fu, .inr (5, [.ref tr, .ref fus, .ref fuz, .ref fut, .ref fuv, .int fu_length])), (ow, .inr (1, [.ref owb, .int n6])), (owb, .inl (cowb, 8192, .inl n5))]) [3, 0, 1, 4, 5, 2, 6, 7] rfl
    have hD9 := hD.sub (ws' := [(h0, .inr (2, [.ref pr, .ref kn, .ref lt, .int h0_localCount, .ref pe, .int h0_pendingCount, .int h0_gives, .int h0_depth, .int h0_loopDepth, .ref to, .ref bo, .ref cs, .ref se])), (pr, .inr (6, [.ref gl, .ref fu, .ref pa, .ref pf, .ref sf, .ref pk, .ref pg, .ref pp, .ref pz, .ref pv, .int pr_reason, .int pr_place, .ref pr_scanner_r, .int pr_stepCount, .int pr_open, .int pr_twoSides, .ref pr_waiting_r, .ref pr_waitingPlaces_r, .int pr_waitingCount])), (to, .inl (cto, 20, .inl gto)), (se, .inr (1, [.ref seb, .int j27_se_length])), (seb, .inl (cseb, 8192, .inl j27_seb)), (fu, .inr (5, [.ref tr, .ref fus, .ref fuz, .ref fut, .ref fuv, .int fu_length])), (ow, .inr (1, [.ref owb, .int n6])), (owb, .inl (cowb, 8192, .inl n5))]) [3, 0, 1, 4, 5, 2, 6, 7] (by decide) rfl
    exact W.vret hx hb hr (fun t ht hW => ⟨⟨(n5, j27_seb, n6, j27_se_length), rfl, ⟨bn6, b_j27_se_length, (by have h9 := xr4; rw [hB, show j27_l2.toNatClampNeg = fu_length.toInt.toNat from by have := i32_clamp (x := j27_l2) (by omega); omega] at h9; exact h9)⟩, by rw [ht]; exact hP9, va_K.moved hW.alike hK, hD9⟩, hS.F ht⟩) hS.2.2 d_CO_writeFunctions_66
  · have q38 := nleI c38
    refine lv_aload_n hx hb d_CO_writeFunctions_41 rfl (lv_at hl 0 rfl) ?_
    refine va_get (D := (dC, dI)) (ci := 2) (v := .ref se) (C := R_CO) (T := F_CO) (N := 13) hx hb hts i_CO hown hK hP 0 rfl rfl 12 (by decide) (hts _ kF_CO_33) (fun _ h9 => h9) rfl d_CO_writeFunctions_42 ?_
    refine lv_aload_n hx hb d_CO_writeFunctions_45 rfl (lv_at hl 0 rfl) ?_
    refine va_get (D := (dC, dI)) (ci := 2) (v := .ref to) (C := R_CO) (T := F_CO) (N := 13) hx hb hts i_CO hown hK hP 0 rfl rfl 9 (by decide) (hts _ kF_CO_18) (fun _ h9 => h9) rfl d_CO_writeFunctions_46 ?_
    refine lv_iload_n hx hb d_CO_writeFunctions_49 rfl (lv_at hl 2 rfl) ?_
    have g50 : vp_in j27_l2 20 := vp_in_iff.mpr ⟨by omega, by omega⟩
    refine va_iald hx hb hK hP 2 0 rfl rfl g50 d_CO_writeFunctions_50 ?_
    refine lv_topi (fun x7 ex7 => ?_)
    have tx7 := hto.out j27_l2.toNatClampNeg (by have := i32_clamp (x := j27_l2) (by omega); omega)
    rw [← ex7] at tx7
    have hPc := hP.sub (ws' := [(se, .inr (1, [.ref seb, .int j27_se_length])), (seb, .inl (cseb, 8192, .inl j27_seb))]) [6, 7] rfl
    have hDc := hD.sub (ws' := [(se, .inr (1, [.ref seb, .int j27_se_length])), (seb, .inl (cseb, 8192, .inl j27_seb))]) [6, 7] (by decide) rfl
    have hKc := hK.sub (tys' := [(cseb, .byte)]) [1] rfl
    have hFc := va_free (wc := [(se, .inr (1, [.ref seb, .int j27_se_length])), (seb, .inl (cseb, 8192, .inl j27_seb))]) hD hS hA [6, 7] rfl
    refine va_callv (va_runV (As := [.int x7]) (rest := []) ⟨hx, hb, hml, hown, hts⟩ (c_BR_putUnsigned l dC dI se seb H.size cseb 8192 j27_se_length j27_seb (by omega) (by omega) (by omega) x7 (by omega)) (cwV 1 hts (gV kM_CO_218 kV_BR_putUnsigned kS_BR_putUnsigned kI_BR kC_BR_putUnsigned) rfl rfl rfl (by decide +kernel) ⟨Nat.le_of_ble_eq_true rfl, Nat.le_of_ble_eq_true rfl⟩) ⟨fun a U g mk z => by obtain ⟨z0, z1, zP, zK, zD⟩ := z; exact ⟨z0, z1, zP, va_K.moved (u := U) (U := U.calling g mk a) (Vm.Alike.refl U.vm) zK, zD⟩, va_recv hKc hPc (ci := 1) (q0 := 0) rfl rfl, fun U hU hW => ⟨rfl, by rw [hU], by rw [hU]; exact hPc, va_K.moved hW.alike hKc, hDc.weaken (fun _ _ _ _ => trivial)⟩⟩ rfl rfl hl.1 rfl (lv_room (Nat.le_of_ble_eq_true rfl)) d_CO_writeFunctions_51 ⟨(Nat.zero_le _), (Nat.zero_le _)⟩) hS (fun q _ h => hFc q h) hFc (fun u t H1 locs ht hvm hw hB hz1 hk1 hS => ?_)
    obtain ⟨n9, f10⟩ := u
    try dsimp only at hw
    obtain ⟨tn9, bn9⟩ := hw
    have ln9 := leb_len 5 (un x7)
    obtain ⟨hP1, hK1, hD1⟩ := hB
    rw [ht] at hP1
    obtain ⟨hP, hD⟩ := va_join (wr := [(h0, .inr (2, [.ref pr, .ref kn, .ref lt, .int h0_localCount, .ref pe, .int h0_pendingCount, .int h0_gives, .int h0_depth, .int h0_loopDepth, .ref to, .ref bo, .ref cs, .ref se])), (pr, .inr (6, [.ref gl, .ref fu, .ref pa, .ref pf, .ref sf, .ref pk, .ref pg, .ref pp, .ref pz, .ref pv, .int pr_reason, .int pr_place, .ref pr_scanner_r, .int pr_stepCount, .int pr_open, .int pr_twoSides, .ref pr_waiting_r, .ref pr_waitingPlaces_r, .int pr_waitingCount])), (to, .inl (cto, 20, .inl gto)), (fu, .inr (5, [.ref tr, .ref fus, .ref fuz, .ref fut, .ref fuv, .int fu_length])), (ow, .inr (1, [.ref owb, .int ow_length])), (owb, .inl (cowb, 8192, .inl gowb))]) (w1 := [(se, .inr (1, [.ref seb, .int n9])), (seb, .inl (cseb, 8192, .inl f10))]) hP hD [6, 7] [0, 1, 2, 3, 4, 5] rfl rfl (by decide) (by decide) hk1 hFc hP1 hD1
    clear hPc hDc hKc hFc hz1 hk1 hP1 hK1 hD1
    generalize H1 = H at hP hS ⊢
    have hP : va_P (dC, dI) cls [(h0, .inr (2, [.ref pr, .ref kn, .ref lt, .int h0_localCount, .ref pe, .int h0_pendingCount, .int h0_gives, .int h0_depth, .int h0_loopDepth, .ref to, .ref bo, .ref cs, .ref se])), (pr, .inr (6, [.ref gl, .ref fu, .ref pa, .ref pf, .ref sf, .ref pk, .ref pg, .ref pp, .ref pz, .ref pv, .int pr_reason, .int pr_place, .ref pr_scanner_r, .int pr_stepCount, .int pr_open, .int pr_twoSides, .ref pr_waiting_r, .ref pr_waitingPlaces_r, .int pr_waitingCount])), (to, .inl (cto, 20, .inl gto)), (fu, .inr (5, [.ref tr, .ref fus, .ref fuz, .ref fut, .ref fuv, .int fu_length])), (ow, .inr (1, [.ref owb, .int ow_length])), (owb, .inl (cowb, 8192, .inl gowb)), (se, .inr (1, [.ref seb, .int n9])), (seb, .inl (cseb, 8192, .inl f10))] H := hP
    have hD : va_D A [(h0, .inr (2, [.ref pr, .ref kn, .ref lt, .int h0_localCount, .ref pe, .int h0_pendingCount, .int h0_gives, .int h0_depth, .int h0_loopDepth, .ref to, .ref bo, .ref cs, .ref se])), (pr, .inr (6, [.ref gl, .ref fu, .ref pa, .ref pf, .ref sf, .ref pk, .ref pg, .ref pp, .ref pz, .ref pv, .int pr_reason, .int pr_place, .ref pr_scanner_r, .int pr_stepCount, .int pr_open, .int pr_twoSides, .ref pr_waiting_r, .ref pr_waitingPlaces_r, .int pr_waitingCount])), (to, .inl (cto, 20, .inl gto)), (fu, .inr (5, [.ref tr, .ref fus, .ref fuz, .ref fut, .ref fuv, .int fu_length])), (ow, .inr (1, [.ref owb, .int ow_length])), (owb, .inl (cowb, 8192, .inl gowb)), (se, .inr (1, [.ref seb, .int n9])), (seb, .inl (cseb, 8192, .inl f10))] := hD
    have lx7 := congrArg List.length (leb_s (x := x7) (by omega) (by omega))
    rw [List.length_singleton] at lx7
    obtain ⟨x11, ex11⟩ : ∃ z : Int32, z = j27_l2 + 1 := ⟨_, rfl⟩
    have tx11 : x11.toInt = j27_l2.toInt + 1 := by have z := i32_add ex11 (by omega) (by omega); omega
    refine lv_iinc (v := x11) (lv' := [(2, .int x11), (0, .ref h0), (1, .ref ow)]) hx hb d_CO_writeFunctions_54 hl (k := 2) rfl (by rw [ex11]; rfl) (by decide) rfl (fun ls hl => ?_)
    refine lv_goto (tgt := 27) hx hb d_CO_writeFunctions_57 (by decide) ?_
    exact ih27 (x11, f10, n9) _ _ _ (by show (fu_length.toInt - x11.toInt).toNat < N27; omega) ⟨by (try dsimp only) <;> omega, by (try dsimp only) <;> omega, (by rw [bn9, leb_s (by omega) (by omega), hB, show x11.toNatClampNeg = j27_l2.toNatClampNeg + 1 from clampN (by have := i32_clamp (x := j27_l2) (by omega); omega), tol_succ, ex7]; rfl), hP, hD, hS, lv_sub hl [1, 2, 0] rfl⟩
abbrev b_CO_writeMemory : ByteArray := prog_4_method_25_code
def y_CO_writeMemory : MethodName := ⟨R_CO, "writeMemory", "(LWaferForge$ByteRow;)V"⟩
abbrev w_CO_writeMemory : List Cond := .code y_CO_writeMemory b_CO_writeMemory 2 none :: lw_g
theorem kC_CO_writeMemory : Cond.code y_CO_writeMemory b_CO_writeMemory 2 none ∈ lw_g := in_g 1246 (by decide +kernel) rfl
theorem d_CO_writeMemory_0 : decode b_CO_writeMemory 0 = .ok (.aload_n 0, 1) := by decide +kernel
theorem d_CO_writeMemory_1 : decode b_CO_writeMemory 1 = .ok (.getfield 33, 3) := by decide +kernel
theorem d_CO_writeMemory_4 : decode b_CO_writeMemory 4 = .ok (.iconst 0, 1) := by decide +kernel
theorem d_CO_writeMemory_5 : decode b_CO_writeMemory 5 = .ok (.putfield 64, 3) := by decide +kernel
theorem d_CO_writeMemory_8 : decode b_CO_writeMemory 8 = .ok (.aload_n 0, 1) := by decide +kernel
theorem d_CO_writeMemory_9 : decode b_CO_writeMemory 9 = .ok (.getfield 33, 3) := by decide +kernel
theorem d_CO_writeMemory_12 : decode b_CO_writeMemory 12 = .ok (.iconst 1, 1) := by decide +kernel
theorem d_CO_writeMemory_13 : decode b_CO_writeMemory 13 = .ok (.invokevirtual 76, 3) := by decide +kernel
theorem d_CO_writeMemory_16 : decode b_CO_writeMemory 16 = .ok (.aload_n 0, 1) := by decide +kernel
theorem d_CO_writeMemory_17 : decode b_CO_writeMemory 17 = .ok (.getfield 33, 3) := by decide +kernel
theorem d_CO_writeMemory_20 : decode b_CO_writeMemory 20 = .ok (.iconst 1, 1) := by decide +kernel
theorem d_CO_writeMemory_21 : decode b_CO_writeMemory 21 = .ok (.invokevirtual 76, 3) := by decide +kernel
theorem d_CO_writeMemory_24 : decode b_CO_writeMemory 24 = .ok (.aload_n 0, 1) := by decide +kernel
theorem d_CO_writeMemory_25 : decode b_CO_writeMemory 25 = .ok (.getfield 33, 3) := by decide +kernel
theorem d_CO_writeMemory_28 : decode b_CO_writeMemory 28 = .ok (.iconst 1, 1) := by decide +kernel
theorem d_CO_writeMemory_29 : decode b_CO_writeMemory 29 = .ok (.invokevirtual 76, 3) := by decide +kernel
theorem d_CO_writeMemory_32 : decode b_CO_writeMemory 32 = .ok (.aload_n 0, 1) := by decide +kernel
theorem d_CO_writeMemory_33 : decode b_CO_writeMemory 33 = .ok (.getfield 33, 3) := by decide +kernel
theorem d_CO_writeMemory_36 : decode b_CO_writeMemory 36 = .ok (.iconst 2, 1) := by decide +kernel
theorem d_CO_writeMemory_37 : decode b_CO_writeMemory 37 = .ok (.invokevirtual 76, 3) := by decide +kernel
theorem d_CO_writeMemory_40 : decode b_CO_writeMemory 40 = .ok (.aload_n 0, 1) := by decide +kernel
theorem d_CO_writeMemory_41 : decode b_CO_writeMemory 41 = .ok (.aload_n 1, 1) := by decide +kernel
theorem d_CO_writeMemory_42 : decode b_CO_writeMemory 42 = .ok (.iconst 5, 1) := by decide +kernel
theorem d_CO_writeMemory_43 : decode b_CO_writeMemory 43 = .ok (.invokevirtual 299, 3) := by decide +kernel
theorem d_CO_writeMemory_46 : decode b_CO_writeMemory 46 = .ok (.return_, 1) := by decide +kernel
abbrev at_CO_writeMemory (dC : Nat → ClassId) (dI : Nat → Nat → Nat) (h0 pr kn lt pe to bo cs se seb ow owb : Nat) (cseb cowb : ClassId) (h0_localCount : Int32) (h0_pendingCount : Int32) (h0_gives : Int32) (h0_depth : Int32) (h0_loopDepth : Int32) (A : Nat → Prop) (u : (Nat → Int32) × (Nat → Int32) × Int32 × Int32) (t : State) : Prop := match u with | (gowb, gseb, ow_length, se_length) => va_P (dC, dI) cls [(h0, .inr (2, [.ref pr, .ref kn, .ref lt, .int h0_localCount, .ref pe, .int h0_pendingCount, .int h0_gives, .int h0_depth, .int h0_loopDepth, .ref to, .ref bo, .ref cs, .ref se])), (se, .inr (1, [.ref seb, .int se_length])), (seb, .inl (cseb, 8192, .inl gseb)), (ow, .inr (1, [.ref owb, .int ow_length])), (owb, .inl (cowb, 8192, .inl gowb))] t.heap ∧ va_K (dC, dI) cls [(cseb, .byte), (cowb, .byte)] t ∧ va_D A [(h0, .inr (2, [.ref pr, .ref kn, .ref lt, .int h0_localCount, .ref pe, .int h0_pendingCount, .int h0_gives, .int h0_depth, .int h0_loopDepth, .ref to, .ref bo, .ref cs, .ref se])), (se, .inr (1, [.ref seb, .int se_length])), (seb, .inl (cseb, 8192, .inl gseb)), (ow, .inr (1, [.ref owb, .int ow_length])), (owb, .inl (cowb, 8192, .inl gowb))]
set_option maxHeartbeats 4000000 in
set_option maxRecDepth 100000 in
theorem c_CO_writeMemory (l : Launch) (dC : Nat → ClassId) (dI : Nat → Nat → Nat) (sz : Nat) (h0 pr kn lt pe to bo cs se seb ow owb : Nat) (cseb cowb : ClassId) (h0_localCount : Int32) (h0_pendingCount : Int32) (h0_gives : Int32) (h0_depth : Int32) (h0_loopDepth : Int32) (se_length : Int32) (gseb : Nat → Int32) (ow_length : Int32) (gowb : Nat → Int32)  (b_se_length : 0 ≤ se_length.toInt ∧ se_length.toInt ≤ 8192) (b_ow_length : 0 ≤ ow_length.toInt ∧ ow_length.toInt ≤ 8192)   (hro : ow_length.toInt + 20 ≤ 8192) : Met l y_CO_writeMemory w_CO_writeMemory ({ frames := 3, cells := 0, slots := 0, locals := 67 }) (va_Pc [.ref h0, .ref ow] (fun U => U.heap.size = sz ∧ va_P (dC, dI) cls [(h0, .inr (2, [.ref pr, .ref kn, .ref lt, .int h0_localCount, .ref pe, .int h0_pendingCount, .int h0_gives, .int h0_depth, .int h0_loopDepth, .ref to, .ref bo, .ref cs, .ref se])), (se, .inr (1, [.ref seb, .int se_length])), (seb, .inl (cseb, 8192, .inl gseb)), (ow, .inr (1, [.ref owb, .int ow_length])), (owb, .inl (cowb, 8192, .inl gowb))] U.heap ∧ va_K (dC, dI) cls [(cseb, .byte), (cowb, .byte)] U ∧ va_D (fun _ => True) [(h0, .inr (2, [.ref pr, .ref kn, .ref lt, .int h0_localCount, .ref pe, .int h0_pendingCount, .int h0_gives, .int h0_depth, .int h0_loopDepth, .ref to, .ref bo, .ref cs, .ref se])), (se, .inr (1, [.ref seb, .int se_length])), (seb, .inl (cseb, 8192, .inl gseb)), (ow, .inr (1, [.ref owb, .int ow_length])), (owb, .inl (cowb, 8192, .inl gowb))])) (va_Qv (fun (u : (Nat → Int32) × (Nat → Int32) × Int32 × Int32) => match u with | (gowb2, gseb2, ow_length2, se_length2) => (0 ≤ ow_length2.toInt ∧ ow_length2.toInt ≤ 8192) ∧ (0 ≤ se_length2.toInt ∧ se_length2.toInt ≤ 8192) ∧ (ow_length2.toInt = ow_length.toInt + ((sec 5 [1, 1, 1, 2]).length : Int) ∧ bl gowb2 ow_length2.toNatClampNeg = bl gowb ow_length.toNatClampNeg ++ sec 5 [1, 1, 1, 2])) (at_CO_writeMemory dC dI h0 pr kn lt pe to bo cs se seb ow owb cseb cowb h0_localCount h0_pendingCount h0_gives h0_depth h0_loopDepth (va_A [(h0, .inr (2, [.ref pr, .ref kn, .ref lt, .int h0_localCount, .ref pe, .int h0_pendingCount, .int h0_gives, .int h0_depth, .int h0_loopDepth, .ref to, .ref bo, .ref cs, .ref se])), (se, .inr (1, [.ref seb, .int se_length])), (seb, .inl (cseb, 8192, .inl gseb)), (ow, .inr (1, [.ref owb, .int ow_length])), (owb, .inl (cowb, 8192, .inl gowb))] sz)) (va_A [(h0, .inr (2, [.ref pr, .ref kn, .ref lt, .int h0_localCount, .ref pe, .int h0_pendingCount, .int h0_gives, .int h0_depth, .int h0_loopDepth, .ref to, .ref bo, .ref cs, .ref se])), (se, .inr (1, [.ref seb, .int se_length])), (seb, .inl (cseb, 8192, .inl gseb)), (ow, .inr (1, [.ref owb, .int ow_length])), (owb, .inl (cowb, 8192, .inl gowb))] sz)) 0 0 (va_A [(h0, .inr (2, [.ref pr, .ref kn, .ref lt, .int h0_localCount, .ref pe, .int h0_pendingCount, .int h0_gives, .int h0_depth, .int h0_loopDepth, .ref to, .ref bo, .ref cs, .ref se])), (se, .inr (1, [.ref seb, .int se_length])), (seb, .inl (cseb, 8192, .inl gseb)), (ow, .inr (1, [.ref owb, .int ow_length])), (owb, .inl (cowb, 8192, .inl gowb))] sz) := by
  refine Met.ofW (cc := b_CO_writeMemory) (maxL := 2) (ret := none) (by decide) rfl ?_
  intro p e s m args below meth c s₁ B hml hv
  obtain ⟨rfl, hsz, hP, hK, hD0⟩ := hv
  have hx := B.exec
  have hb := B.bytes
  have hr := B.returns
  have hts0 := atoms_spec (ws := w_CO_writeMemory) B.pre
  have hts : ∀ w ∈ lw_g, w.before _ s = true := fun w h => hts0 w (List.mem_cons_of_mem _ h)
  have hown : s.vm.findClass R_CO = some m.cls := findClass_of_methodNamed B.named
  have hlocks := B.notSynchronized
  clear hts0
  subst hsz
  have hD := hD0.self (sz := s.heap.size)
  generalize hAe : va_A [(h0, .inr (2, [.ref pr, .ref kn, .ref lt, .int h0_localCount, .ref pe, .int h0_pendingCount, .int h0_gives, .int h0_depth, .int h0_loopDepth, .ref to, .ref bo, .ref cs, .ref se])), (se, .inr (1, [.ref seb, .int se_length])), (seb, .inl (cseb, 8192, .inl gseb)), (ow, .inr (1, [.ref owb, .int ow_length])), (owb, .inl (cowb, 8192, .inl gowb))] s.heap.size = A at hD ⊢
  have hA : ∀ q : Nat, s.heap.size ≤ q → A q := fun q h => by rw [← hAe]; exact Or.inr h
  clear hAe
  have hP : va_P (dC, dI) cls [(h0, .inr (2, [.ref pr, .ref kn, .ref lt, .int h0_localCount, .ref pe, .int h0_pendingCount, .int h0_gives, .int h0_depth, .int h0_loopDepth, .ref to, .ref bo, .ref cs, .ref se])), (se, .inr (1, [.ref seb, .int se_length])), (seb, .inl (cseb, 8192, .inl gseb)), (ow, .inr (1, [.ref owb, .int ow_length])), (owb, .inl (cowb, 8192, .inl gowb))] s.heap := hP
  have hl := lv_entry ([.ref h0, .ref ow]) (n := 2) (Nat.le_of_ble_eq_true rfl)
  rw [lg_entry_eq]
  generalize (lg_sl ([.ref h0, .ref ow]) ++ List.replicate (2 - (lg_sl ([.ref h0, .ref ow])).length) Slot.unset).toArray = ls at hl ⊢
  have hl : lv_has ls 2 [(0, .ref h0), (1, .ref ow)] := hl
  have k0 : (0 : Int32).toInt = 0 := by decide
  refine w_gen (A := A) hP (fun H locs hP hS => ?_)
  have k1 : (1 : Int32).toInt = 1 := by decide
  have k2 : (2 : Int32).toInt = 2 := by decide
  have k5 : (5 : Int32).toInt = 5 := by decide
  refine lv_aload_n hx hb d_CO_writeMemory_0 rfl (lv_at hl 0 rfl) ?_
  refine va_get (D := (dC, dI)) (ci := 2) (v := .ref se) (C := R_CO) (T := F_CO) (N := 13) hx hb hts i_CO hown hK hP 0 rfl rfl 12 (by decide) (hts _ kF_CO_33) (fun _ h9 => h9) rfl d_CO_writeMemory_1 ?_
  refine lv_iconst (v := 0) hx hb d_CO_writeMemory_4 (by decide) ?_
  refine va_put (D := (dC, dI)) (ci := 1) (v := .int 0) (ty := .int) (C := R_BR) (T := F_BR) (N := 2) hx hb hts i_BR t_BR t_BR_ok n_BR hown hK hP hD hS 1 rfl rfl 1 (by decide) (hts _ kF_CO_64) (fun _ h9 => h9) rfl (by decide +kernel) rfl rfl (Nat.le_of_ble_eq_true rfl) d_CO_writeMemory_5 (fun H locs hP hD hS => ?_)
  refine lv_aload_n hx hb d_CO_writeMemory_8 rfl (lv_at hl 0 rfl) ?_
  refine va_get (D := (dC, dI)) (ci := 2) (v := .ref se) (C := R_CO) (T := F_CO) (N := 13) hx hb hts i_CO hown hK hP 0 rfl rfl 12 (by decide) (hts _ kF_CO_33) (fun _ h9 => h9) rfl d_CO_writeMemory_9 ?_
  refine lv_iconst (v := 1) hx hb d_CO_writeMemory_12 (by decide) ?_
  have hPc := hP.sub (ws' := [(se, .inr (1, [.ref seb, .int 0])), (seb, .inl (cseb, 8192, .inl gseb))]) [1, 2] rfl
  have hDc := hD.sub (ws' := [(se, .inr (1, [.ref seb, .int 0])), (seb, .inl (cseb, 8192, .inl gseb))]) [1, 2] (by decide) rfl
  have hKc := hK.sub (tys' := [(cseb, .byte)]) [0] rfl
  have hFc := va_free (wc := [(se, .inr (1, [.ref seb, .int 0])), (seb, .inl (cseb, 8192, .inl gseb))]) hD hS hA [1, 2] rfl
  refine va_callv (va_runV (As := [.int 1]) (rest := []) ⟨hx, hb, hml, hown, hts⟩ (c_BR_put l dC dI se seb H.size cseb 8192 0 gseb (by omega) (by omega) (by omega) 1) (cwV 1 hts (gV kM_CO_76 kV_BR_put kS_BR_put kI_BR kC_BR_put) rfl rfl rfl (by decide +kernel) ⟨Nat.le_of_ble_eq_true rfl, Nat.le_of_ble_eq_true rfl⟩) ⟨fun a U g mk z => by obtain ⟨z0, z1, zP, zK, zD⟩ := z; exact ⟨z0, z1, zP, va_K.moved (u := U) (U := U.calling g mk a) (Vm.Alike.refl U.vm) zK, zD⟩, va_recv hKc hPc (ci := 1) (q0 := 0) rfl rfl, fun U hU hW => ⟨rfl, by rw [hU], by rw [hU]; exact hPc, va_K.moved hW.alike hKc, hDc.weaken (fun _ _ _ _ => trivial)⟩⟩ rfl rfl hl.1 rfl (lv_room (Nat.le_of_ble_eq_true rfl)) d_CO_writeMemory_13 ⟨(Nat.zero_le _), (Nat.zero_le _)⟩) hS (fun q _ h => hFc q h) hFc (fun u t H1 locs ht hvm hw hB hz1 hk1 hS => ?_)
  obtain ⟨n2, f3⟩ := u
  try dsimp only at hw
  have tn2 := br_put_in (by omega) (by omega) (by omega) hw
  have bn2 := br_put_bl (by omega) (by omega) (by omega) hw
  obtain ⟨hP1, hK1, hD1⟩ := hB
  rw [ht] at hP1
  obtain ⟨hP, hD⟩ := va_join (wr := [(h0, .inr (2, [.ref pr, .ref kn, .ref lt, .int h0_localCount, .ref pe, .int h0_pendingCount, .int h0_gives, .int h0_depth, .int h0_loopDepth, .ref to, .ref bo, .ref cs, .ref se])), (ow, .inr (1, [.ref owb, .int ow_length])), (owb, .inl (cowb, 8192, .inl gowb))]) (w1 := [(se, .inr (1, [.ref seb, .int n2])), (seb, .inl (cseb, 8192, .inl f3))]) hP hD [1, 2] [0, 3, 4] rfl rfl (by decide) (by decide) hk1 hFc hP1 hD1
  clear hPc hDc hKc hFc hz1 hk1 hP1 hK1 hD1
  generalize H1 = H at hP hS ⊢
  have hP : va_P (dC, dI) cls [(h0, .inr (2, [.ref pr, .ref kn, .ref lt, .int h0_localCount, .ref pe, .int h0_pendingCount, .int h0_gives, .int h0_depth, .int h0_loopDepth, .ref to, .ref bo, .ref cs, .ref se])), (ow, .inr (1, [.ref owb, .int ow_length])), (owb, .inl (cowb, 8192, .inl gowb)), (se, .inr (1, [.ref seb, .int n2])), (seb, .inl (cseb, 8192, .inl f3))] H := hP
  have hD : va_D A [(h0, .inr (2, [.ref pr, .ref kn, .ref lt, .int h0_localCount, .ref pe, .int h0_pendingCount, .int h0_gives, .int h0_depth, .int h0_loopDepth, .ref to, .ref bo, .ref cs, .ref se])), (ow, .inr (1, [.ref owb, .int ow_length])), (owb, .inl (cowb, 8192, .inl gowb)), (se, .inr (1, [.ref seb, .int n2])), (seb, .inl (cseb, 8192, .inl f3))] := hD
  refine lv_aload_n hx hb d_CO_writeMemory_16 rfl (lv_at hl 0 rfl) ?_
  refine va_get (D := (dC, dI)) (ci := 2) (v := .ref se) (C := R_CO) (T := F_CO) (N := 13) hx hb hts i_CO hown hK hP 0 rfl rfl 12 (by decide) (hts _ kF_CO_33) (fun _ h9 => h9) rfl d_CO_writeMemory_17 ?_
  refine lv_iconst (v := 1) hx hb d_CO_writeMemory_20 (by decide) ?_
  have hPc := hP.sub (ws' := [(se, .inr (1, [.ref seb, .int n2])), (seb, .inl (cseb, 8192, .inl f3))]) [3, 4] rfl
  have hDc := hD.sub (ws' := [(se, .inr (1, [.ref seb, .int n2])), (seb, .inl (cseb, 8192, .inl f3))]) [3, 4] (by decide) rfl
  have hKc := hK.sub (tys' := [(cseb, .byte)]) [0] rfl
  have hFc := va_free (wc := [(se, .inr (1, [.ref seb, .int n2])), (seb, .inl (cseb, 8192, .inl f3))]) hD hS hA [3, 4] rfl
  refine va_callv (va_runV (As := [.int 1]) (rest := []) ⟨hx, hb, hml, hown, hts⟩ (c_BR_put l dC dI se seb H.size cseb 8192 n2 f3 (by omega) (by omega) (by omega) 1) (cwV 1 hts (gV kM_CO_76 kV_BR_put kS_BR_put kI_BR kC_BR_put) rfl rfl rfl (by decide +kernel) ⟨Nat.le_of_ble_eq_true rfl, Nat.le_of_ble_eq_true rfl⟩) ⟨fun a U g mk z => by obtain ⟨z0, z1, zP, zK, zD⟩ := z; exact ⟨z0, z1, zP, va_K.moved (u := U) (U := U.calling g mk a) (Vm.Alike.refl U.vm) zK, zD⟩, va_recv hKc hPc (ci := 1) (q0 := 0) rfl rfl, fun U hU hW => ⟨rfl, by rw [hU], by rw [hU]; exact hPc, va_K.moved hW.alike hKc, hDc.weaken (fun _ _ _ _ => trivial)⟩⟩ rfl rfl hl.1 rfl (lv_room (Nat.le_of_ble_eq_true rfl)) d_CO_writeMemory_21 ⟨(Nat.zero_le _), (Nat.zero_le _)⟩) hS (fun q _ h => hFc q h) hFc (fun u t H1 locs ht hvm hw hB hz1 hk1 hS => ?_)
  obtain ⟨n5, f6⟩ := u
  try dsimp only at hw
  have tn5 := br_put_in (by omega) (by omega) (by omega) hw
  have bn5 := br_put_bl (by omega) (by omega) (by omega) hw
  obtain ⟨hP1, hK1, hD1⟩ := hB
  rw [ht] at hP1
  obtain ⟨hP, hD⟩ := va_join (wr := [(h0, .inr (2, [.ref pr, .ref kn, .ref lt, .int h0_localCount, .ref pe, .int h0_pendingCount, .int h0_gives, .int h0_depth, .int h0_loopDepth, .ref to, .ref bo, .ref cs, .ref se])), (ow, .inr (1, [.ref owb, .int ow_length])), (owb, .inl (cowb, 8192, .inl gowb))]) (w1 := [(se, .inr (1, [.ref seb, .int n5])), (seb, .inl (cseb, 8192, .inl f6))]) hP hD [3, 4] [0, 1, 2] rfl rfl (by decide) (by decide) hk1 hFc hP1 hD1
  clear hPc hDc hKc hFc hz1 hk1 hP1 hK1 hD1
  generalize H1 = H at hP hS ⊢
  have hP : va_P (dC, dI) cls [(h0, .inr (2, [.ref pr, .ref kn, .ref lt, .int h0_localCount, .ref pe, .int h0_pendingCount, .int h0_gives, .int h0_depth, .int h0_loopDepth, .ref to, .ref bo, .ref cs, .ref se])), (ow, .inr (1, [.ref owb, .int ow_length])), (owb, .inl (cowb, 8192, .inl gowb)), (se, .inr (1, [.ref seb, .int n5])), (seb, .inl (cseb, 8192, .inl f6))] H := hP
  have hD : va_D A [(h0, .inr (2, [.ref pr, .ref kn, .ref lt, .int h0_localCount, .ref pe, .int h0_pendingCount, .int h0_gives, .int h0_depth, .int h0_loopDepth, .ref to, .ref bo, .ref cs, .ref se])), (ow, .inr (1, [.ref owb, .int ow_length])), (owb, .inl (cowb, 8192, .inl gowb)), (se, .inr (1, [.ref seb, .int n5])), (seb, .inl (cseb, 8192, .inl f6))] := hD
  refine lv_aload_n hx hb d_CO_writeMemory_24 rfl (lv_at hl 0 rfl) ?_
  refine va_get (D := (dC, dI)) (ci := 2) (v := .ref se) (C := R_CO) (T := F_CO) (N := 13) hx hb hts i_CO hown hK hP 0 rfl rfl 12 (by decide) (hts _ kF_CO_33) (fun _ h9 => h9) rfl d_CO_writeMemory_25 ?_
  refine lv_iconst (v := 1) hx hb d_CO_writeMemory_28 (by decide) ?_
  have hPc := hP.sub (ws' := [(se, .inr (1, [.ref seb, .int n5])), (seb, .inl (cseb, 8192, .inl f6))]) [3, 4] rfl
  have hDc := hD.sub (ws' := [(se, .inr (1, [.ref seb, .int n5])), (seb, .inl (cseb, 8192, .inl f6))]) [3, 4] (by decide) rfl
  have hKc := hK.sub (tys' := [(cseb, .byte)]) [0] rfl
  have hFc := va_free (wc := [(se, .inr (1, [.ref seb, .int n5])), (seb, .inl (cseb, 8192, .inl f6))]) hD hS hA [3, 4] rfl
  refine va_callv (va_runV (As := [.int 1]) (rest := []) ⟨hx, hb, hml, hown, hts⟩ (c_BR_put l dC dI se seb H.size cseb 8192 n5 f6 (by omega) (by omega) (by omega) 1) (cwV 1 hts (gV kM_CO_76 kV_BR_put kS_BR_put kI_BR kC_BR_put) rfl rfl rfl (by decide +kernel) ⟨Nat.le_of_ble_eq_true rfl, Nat.le_of_ble_eq_true rfl⟩) ⟨fun a U g mk z => by obtain ⟨z0, z1, zP, zK, zD⟩ := z; exact ⟨z0, z1, zP, va_K.moved (u := U) (U := U.calling g mk a) (Vm.Alike.refl U.vm) zK, zD⟩, va_recv hKc hPc (ci := 1) (q0 := 0) rfl rfl, fun U hU hW => ⟨rfl, by rw [hU], by rw [hU]; exact hPc, va_K.moved hW.alike hKc, hDc.weaken (fun _ _ _ _ => trivial)⟩⟩ rfl rfl hl.1 rfl (lv_room (Nat.le_of_ble_eq_true rfl)) d_CO_writeMemory_29 ⟨(Nat.zero_le _), (Nat.zero_le _)⟩) hS (fun q _ h => hFc q h) hFc (fun u t H1 locs ht hvm hw hB hz1 hk1 hS => ?_)
  obtain ⟨n8, f9⟩ := u
  try dsimp only at hw
  have tn8 := br_put_in (by omega) (by omega) (by omega) hw
  have bn8 := br_put_bl (by omega) (by omega) (by omega) hw
  obtain ⟨hP1, hK1, hD1⟩ := hB
  rw [ht] at hP1
  obtain ⟨hP, hD⟩ := va_join (wr := [(h0, .inr (2, [.ref pr, .ref kn, .ref lt, .int h0_localCount, .ref pe, .int h0_pendingCount, .int h0_gives, .int h0_depth, .int h0_loopDepth, .ref to, .ref bo, .ref cs, .ref se])), (ow, .inr (1, [.ref owb, .int ow_length])), (owb, .inl (cowb, 8192, .inl gowb))]) (w1 := [(se, .inr (1, [.ref seb, .int n8])), (seb, .inl (cseb, 8192, .inl f9))]) hP hD [3, 4] [0, 1, 2] rfl rfl (by decide) (by decide) hk1 hFc hP1 hD1
  clear hPc hDc hKc hFc hz1 hk1 hP1 hK1 hD1
  generalize H1 = H at hP hS ⊢
  have hP : va_P (dC, dI) cls [(h0, .inr (2, [.ref pr, .ref kn, .ref lt, .int h0_localCount, .ref pe, .int h0_pendingCount, .int h0_gives, .int h0_depth, .int h0_loopDepth, .ref to, .ref bo, .ref cs, .ref se])), (ow, .inr (1, [.ref owb, .int ow_length])), (owb, .inl (cowb, 8192, .inl gowb)), (se, .inr (1, [.ref seb, .int n8])), (seb, .inl (cseb, 8192, .inl f9))] H := hP
  have hD : va_D A [(h0, .inr (2, [.ref pr, .ref kn, .ref lt, .int h0_localCount, .ref pe, .int h0_pendingCount, .int h0_gives, .int h0_depth, .int h0_loopDepth, .ref to, .ref bo, .ref cs, .ref se])), (ow, .inr (1, [.ref owb, .int ow_length])), (owb, .inl (cowb, 8192, .inl gowb)), (se, .inr (1, [.ref seb, .int n8])), (seb, .inl (cseb, 8192, .inl f9))] := hD
  refine lv_aload_n hx hb d_CO_writeMemory_32 rfl (lv_at hl 0 rfl) ?_
  refine va_get (D := (dC, dI)) (ci := 2) (v := .ref se) (C := R_CO) (T := F_CO) (N := 13) hx hb hts i_CO hown hK hP 0 rfl rfl 12 (by decide) (hts _ kF_CO_33) (fun _ h9 => h9) rfl d_CO_writeMemory_33 ?_
  refine lv_iconst (v := 2) hx hb d_CO_writeMemory_36 (by decide) ?_
  have hPc := hP.sub (ws' := [(se, .inr (1, [.ref seb, .int n8])), (seb, .inl (cseb, 8192, .inl f9))]) [3, 4] rfl
  have hDc := hD.sub (ws' := [(se, .inr (1, [.ref seb, .int n8])), (seb, .inl (cseb, 8192, .inl f9))]) [3, 4] (by decide) rfl
  have hKc := hK.sub (tys' := [(cseb, .byte)]) [0] rfl
  have hFc := va_free (wc := [(se, .inr (1, [.ref seb, .int n8])), (seb, .inl (cseb, 8192, .inl f9))]) hD hS hA [3, 4] rfl
  refine va_callv (va_runV (As := [.int 2]) (rest := []) ⟨hx, hb, hml, hown, hts⟩ (c_BR_put l dC dI se seb H.size cseb 8192 n8 f9 (by omega) (by omega) (by omega) 2) (cwV 1 hts (gV kM_CO_76 kV_BR_put kS_BR_put kI_BR kC_BR_put) rfl rfl rfl (by decide +kernel) ⟨Nat.le_of_ble_eq_true rfl, Nat.le_of_ble_eq_true rfl⟩) ⟨fun a U g mk z => by obtain ⟨z0, z1, zP, zK, zD⟩ := z; exact ⟨z0, z1, zP, va_K.moved (u := U) (U := U.calling g mk a) (Vm.Alike.refl U.vm) zK, zD⟩, va_recv hKc hPc (ci := 1) (q0 := 0) rfl rfl, fun U hU hW => ⟨rfl, by rw [hU], by rw [hU]; exact hPc, va_K.moved hW.alike hKc, hDc.weaken (fun _ _ _ _ => trivial)⟩⟩ rfl rfl hl.1 rfl (lv_room (Nat.le_of_ble_eq_true rfl)) d_CO_writeMemory_37 ⟨(Nat.zero_le _), (Nat.zero_le _)⟩) hS (fun q _ h => hFc q h) hFc (fun u t H1 locs ht hvm hw hB hz1 hk1 hS => ?_)
  obtain ⟨n11, f12⟩ := u
  try dsimp only at hw
  have tn11 := br_put_in (by omega) (by omega) (by omega) hw
  have bn11 := br_put_bl (by omega) (by omega) (by omega) hw
  obtain ⟨hP1, hK1, hD1⟩ := hB
  rw [ht] at hP1
  obtain ⟨hP, hD⟩ := va_join (wr := [(h0, .inr (2, [.ref pr, .ref kn, .ref lt, .int h0_localCount, .ref pe, .int h0_pendingCount, .int h0_gives, .int h0_depth, .int h0_loopDepth, .ref to, .ref bo, .ref cs, .ref se])), (ow, .inr (1, [.ref owb, .int ow_length])), (owb, .inl (cowb, 8192, .inl gowb))]) (w1 := [(se, .inr (1, [.ref seb, .int n11])), (seb, .inl (cseb, 8192, .inl f12))]) hP hD [3, 4] [0, 1, 2] rfl rfl (by decide) (by decide) hk1 hFc hP1 hD1
  clear hPc hDc hKc hFc hz1 hk1 hP1 hK1 hD1
  generalize H1 = H at hP hS ⊢
  have hP : va_P (dC, dI) cls [(h0, .inr (2, [.ref pr, .ref kn, .ref lt, .int h0_localCount, .ref pe, .int h0_pendingCount, .int h0_gives, .int h0_depth, .int h0_loopDepth, .ref to, .ref bo, .ref cs, .ref se])), (ow, .inr (1, [.ref owb, .int ow_length])), (owb, .inl (cowb, 8192, .inl gowb)), (se, .inr (1, [.ref seb, .int n11])), (seb, .inl (cseb, 8192, .inl f12))] H := hP
  have hD : va_D A [(h0, .inr (2, [.ref pr, .ref kn, .ref lt, .int h0_localCount, .ref pe, .int h0_pendingCount, .int h0_gives, .int h0_depth, .int h0_loopDepth, .ref to, .ref bo, .ref cs, .ref se])), (ow, .inr (1, [.ref owb, .int ow_length])), (owb, .inl (cowb, 8192, .inl gowb)), (se, .inr (1, [.ref seb, .int n11])), (seb, .inl (cseb, 8192, .inl f12))] := hD
  refine lv_aload_n hx hb d_CO_writeMemory_40 rfl (lv_at hl 0 rfl) ?_
  refine lv_aload_n hx hb d_CO_writeMemory_41 rfl (lv_at hl 1 rfl) ?_
  refine lv_iconst (v := 5) hx hb d_CO_writeMemory_42 (by decide) ?_
  have hPc := hP.sub (ws' := [(h0, .inr (2, [.ref pr, .ref kn, .ref lt, .int h0_localCount, .ref pe, .int h0_pendingCount, .int h0_gives, .int h0_depth, .int h0_loopDepth, .ref to, .ref bo, .ref cs, .ref se])), (se, .inr (1, [.ref seb, .int n11])), (seb, .inl (cseb, 8192, .inl f12)), (ow, .inr (1, [.ref owb, .int ow_length])), (owb, .inl (cowb, 8192, .inl gowb))]) [0, 3, 4, 1, 2] rfl
  have hDc := hD.sub (ws' := [(h0, .inr (2, [.ref pr, .ref kn, .ref lt, .int h0_localCount, .ref pe, .int h0_pendingCount, .int h0_gives, .int h0_depth, .int h0_loopDepth, .ref to, .ref bo, .ref cs, .ref se])), (se, .inr (1, [.ref seb, .int n11])), (seb, .inl (cseb, 8192, .inl f12)), (ow, .inr (1, [.ref owb, .int ow_length])), (owb, .inl (cowb, 8192, .inl gowb))]) [0, 3, 4, 1, 2] (by decide) rfl
  have hKc := hK.sub (tys' := [(cseb, .byte), (cowb, .byte)]) [0, 1] rfl
  have hFc := va_free (wc := [(h0, .inr (2, [.ref pr, .ref kn, .ref lt, .int h0_localCount, .ref pe, .int h0_pendingCount, .int h0_gives, .int h0_depth, .int h0_loopDepth, .ref to, .ref bo, .ref cs, .ref se])), (se, .inr (1, [.ref seb, .int n11])), (seb, .inl (cseb, 8192, .inl f12)), (ow, .inr (1, [.ref owb, .int ow_length])), (owb, .inl (cowb, 8192, .inl gowb))]) hD hS hA [0, 3, 4, 1, 2] rfl
  refine va_callv (va_runV (As := [.ref ow, .int 5]) (rest := []) ⟨hx, hb, hml, hown, hts⟩ (c_CO_putSection l dC dI H.size h0 pr kn lt pe to bo cs se seb ow owb cseb cowb h0_localCount h0_pendingCount h0_gives h0_depth h0_loopDepth n11 f12 ow_length gowb (by (try dsimp only) <;> omega) (b_ow_length) 5 (by decide) (by omega)) (cwV 2 hts (gV kM_CO_299 kV_CO_putSection kS_CO_putSection kI_CO kC_CO_putSection) rfl rfl rfl (by decide +kernel) ⟨Nat.le_of_ble_eq_true rfl, Nat.le_of_ble_eq_true rfl⟩) ⟨fun a U g mk z => by obtain ⟨z0, z1, zP, zK, zD⟩ := z; exact ⟨z0, z1, zP, va_K.moved (u := U) (U := U.calling g mk a) (Vm.Alike.refl U.vm) zK, zD⟩, va_recv hKc hPc (ci := 2) (q0 := 0) rfl rfl, fun U hU hW => ⟨rfl, by rw [hU], by rw [hU]; exact hPc, va_K.moved hW.alike hKc, hDc.weaken (fun _ _ _ _ => trivial)⟩⟩ rfl rfl hl.1 rfl (lv_room (Nat.le_of_ble_eq_true rfl)) d_CO_writeMemory_43 ⟨(Nat.zero_le _), (Nat.zero_le _)⟩) hS (fun q _ h => hFc q h) hFc (fun u t H1 locs ht hvm hw hB hz1 hk1 hS => ?_)
  obtain ⟨n14, n15⟩ := u
  try dsimp only at hw
  obtain ⟨bn15, xr13⟩ := hw
  try clear hw
  obtain ⟨hP1, hK1, hD1⟩ := hB
  rw [ht] at hP1
  obtain ⟨hP, hD⟩ := va_join (wr := []) (w1 := [(h0, .inr (2, [.ref pr, .ref kn, .ref lt, .int h0_localCount, .ref pe, .int h0_pendingCount, .int h0_gives, .int h0_depth, .int h0_loopDepth, .ref to, .ref bo, .ref cs, .ref se])), (se, .inr (1, [.ref seb, .int n11])), (seb, .inl (cseb, 8192, .inl f12)), (ow, .inr (1, [.ref owb, .int n15])), (owb, .inl (cowb, 8192, .inl n14))]) hP hD [0, 3, 4, 1, 2] [] rfl rfl (by decide) (by decide) hk1 hFc hP1 hD1
  clear hPc hDc hKc hFc hz1 hk1 hP1 hK1 hD1
  generalize H1 = H at hP hS ⊢
  have hP : va_P (dC, dI) cls [(h0, .inr (2, [.ref pr, .ref kn, .ref lt, .int h0_localCount, .ref pe, .int h0_pendingCount, .int h0_gives, .int h0_depth, .int h0_loopDepth, .ref to, .ref bo, .ref cs, .ref se])), (se, .inr (1, [.ref seb, .int n11])), (seb, .inl (cseb, 8192, .inl f12)), (ow, .inr (1, [.ref owb, .int n15])), (owb, .inl (cowb, 8192, .inl n14))] H := hP
  have hD : va_D A [(h0, .inr (2, [.ref pr, .ref kn, .ref lt, .int h0_localCount, .ref pe, .int h0_pendingCount, .int h0_gives, .int h0_depth, .int h0_loopDepth, .ref to, .ref bo, .ref cs, .ref se])), (se, .inr (1, [.ref seb, .int n11])), (seb, .inl (cseb, 8192, .inl f12)), (ow, .inr (1, [.ref owb, .int n15])), (owb, .inl (cowb, 8192, .inl n14))] := hD
  have hP9 := hP.sub (ws' := [(h0, .inr (2, [.ref pr, .ref kn, .ref lt, .int h0_localCount, .ref pe, .int h0_pendingCount, .int h0_gives, .int h0_depth, .int h0_loopDepth, .ref to, .ref bo, .ref cs, .ref se])), (se, .inr (1, [.ref seb, .int n11])), (seb, .inl (cseb, 8192, .inl f12)), (ow, .inr (1, [.ref owb, .int n15])), (owb, .inl (cowb, 8192, .inl n14))]) [0, 1, 2, 3, 4] rfl
  have hD9 := hD.sub (ws' := [(h0, .inr (2, [.ref pr, .ref kn, .ref lt, .int h0_localCount, .ref pe, .int h0_pendingCount, .int h0_gives, .int h0_depth, .int h0_loopDepth, .ref to, .ref bo, .ref cs, .ref se])), (se, .inr (1, [.ref seb, .int n11])), (seb, .inl (cseb, 8192, .inl f12)), (ow, .inr (1, [.ref owb, .int n15])), (owb, .inl (cowb, 8192, .inl n14))]) [0, 1, 2, 3, 4] (by decide) rfl
  exact W.vret hx hb hr (fun t ht hW => ⟨⟨(n14, f12, n15, n11), rfl, ⟨bn15, by (try dsimp only) <;> omega, (by have h9 := xr13; rw [bn11 (by omega), bn8 (by omega), bn5 (by omega), bn2 (by omega)] at h9; exact h9)⟩, by rw [ht]; exact hP9, va_K.moved hW.alike hK, hD9⟩, hS.F ht⟩) hS.2.2 d_CO_writeMemory_46
abbrev b_CO_writeCodes : ByteArray := prog_4_method_28_code
def y_CO_writeCodes : MethodName := ⟨R_CO, "writeCodes", "(LWaferForge$ByteRow;)V"⟩
abbrev w_CO_writeCodes : List Cond := .code y_CO_writeCodes b_CO_writeCodes 2 none :: lw_g
theorem kC_CO_writeCodes : Cond.code y_CO_writeCodes b_CO_writeCodes 2 none ∈ lw_g := in_g 1265 (by decide +kernel) rfl
theorem d_CO_writeCodes_0 : decode b_CO_writeCodes 0 = .ok (.aload_n 0, 1) := by decide +kernel
theorem d_CO_writeCodes_1 : decode b_CO_writeCodes 1 = .ok (.getfield 33, 3) := by decide +kernel
theorem d_CO_writeCodes_4 : decode b_CO_writeCodes 4 = .ok (.iconst 0, 1) := by decide +kernel
theorem d_CO_writeCodes_5 : decode b_CO_writeCodes 5 = .ok (.putfield 64, 3) := by decide +kernel
theorem d_CO_writeCodes_8 : decode b_CO_writeCodes 8 = .ok (.aload_n 0, 1) := by decide +kernel
theorem d_CO_writeCodes_9 : decode b_CO_writeCodes 9 = .ok (.getfield 33, 3) := by decide +kernel
theorem d_CO_writeCodes_12 : decode b_CO_writeCodes 12 = .ok (.aload_n 0, 1) := by decide +kernel
theorem d_CO_writeCodes_13 : decode b_CO_writeCodes 13 = .ok (.getfield 36, 3) := by decide +kernel
theorem d_CO_writeCodes_16 : decode b_CO_writeCodes 16 = .ok (.getfield 61, 3) := by decide +kernel
theorem d_CO_writeCodes_19 : decode b_CO_writeCodes 19 = .ok (.getfield 68, 3) := by decide +kernel
theorem d_CO_writeCodes_22 : decode b_CO_writeCodes 22 = .ok (.invokevirtual 218, 3) := by decide +kernel
theorem d_CO_writeCodes_25 : decode b_CO_writeCodes 25 = .ok (.aload_n 0, 1) := by decide +kernel
theorem d_CO_writeCodes_26 : decode b_CO_writeCodes 26 = .ok (.getfield 33, 3) := by decide +kernel
theorem d_CO_writeCodes_29 : decode b_CO_writeCodes 29 = .ok (.aload_n 0, 1) := by decide +kernel
theorem d_CO_writeCodes_30 : decode b_CO_writeCodes 30 = .ok (.getfield 30, 3) := by decide +kernel
theorem d_CO_writeCodes_33 : decode b_CO_writeCodes 33 = .ok (.iconst 0, 1) := by decide +kernel
theorem d_CO_writeCodes_34 : decode b_CO_writeCodes 34 = .ok (.aload_n 0, 1) := by decide +kernel
theorem d_CO_writeCodes_35 : decode b_CO_writeCodes 35 = .ok (.getfield 30, 3) := by decide +kernel
theorem d_CO_writeCodes_38 : decode b_CO_writeCodes 38 = .ok (.getfield 64, 3) := by decide +kernel
theorem d_CO_writeCodes_41 : decode b_CO_writeCodes 41 = .ok (.invokevirtual 288, 3) := by decide +kernel
theorem d_CO_writeCodes_44 : decode b_CO_writeCodes 44 = .ok (.aload_n 0, 1) := by decide +kernel
theorem d_CO_writeCodes_45 : decode b_CO_writeCodes 45 = .ok (.aload_n 1, 1) := by decide +kernel
theorem d_CO_writeCodes_46 : decode b_CO_writeCodes 46 = .ok (.bipush 10, 2) := by decide +kernel
theorem d_CO_writeCodes_48 : decode b_CO_writeCodes 48 = .ok (.invokevirtual 299, 3) := by decide +kernel
theorem d_CO_writeCodes_51 : decode b_CO_writeCodes 51 = .ok (.return_, 1) := by decide +kernel
abbrev at_CO_writeCodes (dC : Nat → ClassId) (dI : Nat → Nat → Nat) (h0 pr kn lt pe to bo cs se gl fu pa pf sf pk pg pp pz pv pr_scanner_r pr_waiting_r pr_waitingPlaces_r csb seb tr fus fuz fut fuv ow owb : Nat) (ccsb cseb cowb : ClassId) (h0_localCount : Int32) (h0_pendingCount : Int32) (h0_gives : Int32) (h0_depth : Int32) (h0_loopDepth : Int32) (pr_reason : Int32) (pr_place : Int32) (pr_stepCount : Int32) (pr_open : Int32) (pr_twoSides : Int32) (pr_waitingCount : Int32) (cs_length : Int32) (gcsb : Nat → Int32) (fu_length : Int32) (A : Nat → Prop) (u : (Nat → Int32) × (Nat → Int32) × Int32 × Int32) (t : State) : Prop := match u with | (gowb, gseb, ow_length, se_length) => va_P (dC, dI) cls [(h0, .inr (2, [.ref pr, .ref kn, .ref lt, .int h0_localCount, .ref pe, .int h0_pendingCount, .int h0_gives, .int h0_depth, .int h0_loopDepth, .ref to, .ref bo, .ref cs, .ref se])), (pr, .inr (6, [.ref gl, .ref fu, .ref pa, .ref pf, .ref sf, .ref pk, .ref pg, .ref pp, .ref pz, .ref pv, .int pr_reason, .int pr_place, .ref pr_scanner_r, .int pr_stepCount, .int pr_open, .int pr_twoSides, .ref pr_waiting_r, .ref pr_waitingPlaces_r, .int pr_waitingCount])), (cs, .inr (1, [.ref csb, .int cs_length])), (csb, .inl (ccsb, 8192, .inl gcsb)), (se, .inr (1, [.ref seb, .int se_length])), (seb, .inl (cseb, 8192, .inl gseb)), (fu, .inr (5, [.ref tr, .ref fus, .ref fuz, .ref fut, .ref fuv, .int fu_length])), (ow, .inr (1, [.ref owb, .int ow_length])), (owb, .inl (cowb, 8192, .inl gowb))] t.heap ∧ va_K (dC, dI) cls [(ccsb, .byte), (cseb, .byte), (cowb, .byte)] t ∧ va_D A [(h0, .inr (2, [.ref pr, .ref kn, .ref lt, .int h0_localCount, .ref pe, .int h0_pendingCount, .int h0_gives, .int h0_depth, .int h0_loopDepth, .ref to, .ref bo, .ref cs, .ref se])), (pr, .inr (6, [.ref gl, .ref fu, .ref pa, .ref pf, .ref sf, .ref pk, .ref pg, .ref pp, .ref pz, .ref pv, .int pr_reason, .int pr_place, .ref pr_scanner_r, .int pr_stepCount, .int pr_open, .int pr_twoSides, .ref pr_waiting_r, .ref pr_waitingPlaces_r, .int pr_waitingCount])), (cs, .inr (1, [.ref csb, .int cs_length])), (csb, .inl (ccsb, 8192, .inl gcsb)), (se, .inr (1, [.ref seb, .int se_length])), (seb, .inl (cseb, 8192, .inl gseb)), (fu, .inr (5, [.ref tr, .ref fus, .ref fuz, .ref fut, .ref fuv, .int fu_length])), (ow, .inr (1, [.ref owb, .int ow_length])), (owb, .inl (cowb, 8192, .inl gowb))]
set_option maxHeartbeats 4000000 in
set_option maxRecDepth 100000 in
theorem c_CO_writeCodes (l : Launch) (dC : Nat → ClassId) (dI : Nat → Nat → Nat) (sz : Nat) (h0 pr kn lt pe to bo cs se gl fu pa pf sf pk pg pp pz pv pr_scanner_r pr_waiting_r pr_waitingPlaces_r csb seb tr fus fuz fut fuv ow owb : Nat) (ccsb cseb cowb : ClassId) (h0_localCount : Int32) (h0_pendingCount : Int32) (h0_gives : Int32) (h0_depth : Int32) (h0_loopDepth : Int32) (pr_reason : Int32) (pr_place : Int32) (pr_stepCount : Int32) (pr_open : Int32) (pr_twoSides : Int32) (pr_waitingCount : Int32) (cs_length : Int32) (gcsb : Nat → Int32) (se_length : Int32) (gseb : Nat → Int32) (fu_length : Int32) (ow_length : Int32) (gowb : Nat → Int32)  (b_cs_length : 0 ≤ cs_length.toInt ∧ cs_length.toInt ≤ 8192) (b_se_length : 0 ≤ se_length.toInt ∧ se_length.toInt ≤ 8192) (b_fu_length : 0 ≤ fu_length.toInt ∧ fu_length.toInt ≤ 20) (b_ow_length : 0 ≤ ow_length.toInt ∧ ow_length.toInt ≤ 8192)   (hro : ow_length.toInt + cs_length.toInt + 20 ≤ 8192) : Met l y_CO_writeCodes w_CO_writeCodes ({ frames := 3, cells := 0, slots := 0, locals := 67 }) (va_Pc [.ref h0, .ref ow] (fun U => U.heap.size = sz ∧ va_P (dC, dI) cls [(h0, .inr (2, [.ref pr, .ref kn, .ref lt, .int h0_localCount, .ref pe, .int h0_pendingCount, .int h0_gives, .int h0_depth, .int h0_loopDepth, .ref to, .ref bo, .ref cs, .ref se])), (pr, .inr (6, [.ref gl, .ref fu, .ref pa, .ref pf, .ref sf, .ref pk, .ref pg, .ref pp, .ref pz, .ref pv, .int pr_reason, .int pr_place, .ref pr_scanner_r, .int pr_stepCount, .int pr_open, .int pr_twoSides, .ref pr_waiting_r, .ref pr_waitingPlaces_r, .int pr_waitingCount])), (cs, .inr (1, [.ref csb, .int cs_length])), (csb, .inl (ccsb, 8192, .inl gcsb)), (se, .inr (1, [.ref seb, .int se_length])), (seb, .inl (cseb, 8192, .inl gseb)), (fu, .inr (5, [.ref tr, .ref fus, .ref fuz, .ref fut, .ref fuv, .int fu_length])), (ow, .inr (1, [.ref owb, .int ow_length])), (owb, .inl (cowb, 8192, .inl gowb))] U.heap ∧ va_K (dC, dI) cls [(ccsb, .byte), (cseb, .byte), (cowb, .byte)] U ∧ va_D (fun _ => True) [(h0, .inr (2, [.ref pr, .ref kn, .ref lt, .int h0_localCount, .ref pe, .int h0_pendingCount, .int h0_gives, .int h0_depth, .int h0_loopDepth, .ref to, .ref bo, .ref cs, .ref se])), (pr, .inr (6, [.ref gl, .ref fu, .ref pa, .ref pf, .ref sf, .ref pk, .ref pg, .ref pp, .ref pz, .ref pv, .int pr_reason, .int pr_place, .ref pr_scanner_r, .int pr_stepCount, .int pr_open, .int pr_twoSides, .ref pr_waiting_r, .ref pr_waitingPlaces_r, .int pr_waitingCount])), (cs, .inr (1, [.ref csb, .int cs_length])), (csb, .inl (ccsb, 8192, .inl gcsb)), (se, .inr (1, [.ref seb, .int se_length])), (seb, .inl (cseb, 8192, .inl gseb)), (fu, .inr (5, [.ref tr, .ref fus, .ref fuz, .ref fut, .ref fuv, .int fu_length])), (ow, .inr (1, [.ref owb, .int ow_length])), (owb, .inl (cowb, 8192, .inl gowb))])) (va_Qv (fun (u : (Nat → Int32) × (Nat → Int32) × Int32 × Int32) => match u with | (gowb2, gseb2, ow_length2, se_length2) => (0 ≤ ow_length2.toInt ∧ ow_length2.toInt ≤ 8192) ∧ (0 ≤ se_length2.toInt ∧ se_length2.toInt ≤ 8192) ∧ (ow_length2.toInt = ow_length.toInt + ((sec 10 (fu_length.toInt.toNat :: bl gcsb cs_length.toNatClampNeg)).length : Int) ∧ bl gowb2 ow_length2.toNatClampNeg = bl gowb ow_length.toNatClampNeg ++ sec 10 (fu_length.toInt.toNat :: bl gcsb cs_length.toNatClampNeg))) (at_CO_writeCodes dC dI h0 pr kn lt pe to bo cs se gl fu pa pf sf pk pg pp pz pv pr_scanner_r pr_waiting_r pr_waitingPlaces_r csb seb tr fus fuz fut fuv ow owb ccsb cseb cowb h0_localCount h0_pendingCount h0_gives h0_depth h0_loopDepth pr_reason pr_place pr_stepCount pr_open pr_twoSides pr_waitingCount cs_length gcsb fu_length (va_A [(h0, .inr (2, [.ref pr, .ref kn, .ref lt, .int h0_localCount, .ref pe, .int h0_pendingCount, .int h0_gives, .int h0_depth, .int h0_loopDepth, .ref to, .ref bo, .ref cs, .ref se])), (pr, .inr (6, [.ref gl, .ref fu, .ref pa, .ref pf, .ref sf, .ref pk, .ref pg, .ref pp, .ref pz, .ref pv, .int pr_reason, .int pr_place, .ref pr_scanner_r, .int pr_stepCount, .int pr_open, .int pr_twoSides, .ref pr_waiting_r, .ref pr_waitingPlaces_r, .int pr_waitingCount])), (cs, .inr (1, [.ref csb, .int cs_length])), (csb, .inl (ccsb, 8192, .inl gcsb)), (se, .inr (1, [.ref seb, .int se_length])), (seb, .inl (cseb, 8192, .inl gseb)), (fu, .inr (5, [.ref tr, .ref fus, .ref fuz, .ref fut, .ref fuv, .int fu_length])), (ow, .inr (1, [.ref owb, .int ow_length])), (owb, .inl (cowb, 8192, .inl gowb))] sz)) (va_A [(h0, .inr (2, [.ref pr, .ref kn, .ref lt, .int h0_localCount, .ref pe, .int h0_pendingCount, .int h0_gives, .int h0_depth, .int h0_loopDepth, .ref to, .ref bo, .ref cs, .ref se])), (pr, .inr (6, [.ref gl, .ref fu, .ref pa, .ref pf, .ref sf, .ref pk, .ref pg, .ref pp, .ref pz, .ref pv, .int pr_reason, .int pr_place, .ref pr_scanner_r, .int pr_stepCount, .int pr_open, .int pr_twoSides, .ref pr_waiting_r, .ref pr_waitingPlaces_r, .int pr_waitingCount])), (cs, .inr (1, [.ref csb, .int cs_length])), (csb, .inl (ccsb, 8192, .inl gcsb)), (se, .inr (1, [.ref seb, .int se_length])), (seb, .inl (cseb, 8192, .inl gseb)), (fu, .inr (5, [.ref tr, .ref fus, .ref fuz, .ref fut, .ref fuv, .int fu_length])), (ow, .inr (1, [.ref owb, .int ow_length])), (owb, .inl (cowb, 8192, .inl gowb))] sz)) 0 0 (va_A [(h0, .inr (2, [.ref pr, .ref kn, .ref lt, .int h0_localCount, .ref pe, .int h0_pendingCount, .int h0_gives, .int h0_depth, .int h0_loopDepth, .ref to, .ref bo, .ref cs, .ref se])), (pr, .inr (6, [.ref gl, .ref fu, .ref pa, .ref pf, .ref sf, .ref pk, .ref pg, .ref pp, .ref pz, .ref pv, .int pr_reason, .int pr_place, .ref pr_scanner_r, .int pr_stepCount, .int pr_open, .int pr_twoSides, .ref pr_waiting_r, .ref pr_waitingPlaces_r, .int pr_waitingCount])), (cs, .inr (1, [.ref csb, .int cs_length])), (csb, .inl (ccsb, 8192, .inl gcsb)), (se, .inr (1, [.ref seb, .int se_length])), (seb, .inl (cseb, 8192, .inl gseb)), (fu, .inr (5, [.ref tr, .ref fus, .ref fuz, .ref fut, .ref fuv, .int fu_length])), (ow, .inr (1, [.ref owb, .int ow_length])), (owb, .inl (cowb, 8192, .inl gowb))] sz) := by
  refine Met.ofW (cc := b_CO_writeCodes) (maxL := 2) (ret := none) (by decide) rfl ?_
  intro p e s m args below meth c s₁ B hml hv
  obtain ⟨rfl, hsz, hP, hK, hD0⟩ := hv
  have hx := B.exec
  have hb := B.bytes
  have hr := B.returns
  have hts0 := atoms_spec (ws := w_CO_writeCodes) B.pre
  have hts : ∀ w ∈ lw_g, w.before _ s = true := fun w h => hts0 w (List.mem_cons_of_mem _ h)
  have hown : s.vm.findClass R_CO = some m.cls := findClass_of_methodNamed B.named
  have hlocks := B.notSynchronized
  clear hts0
  subst hsz
  have hD := hD0.self (sz := s.heap.size)
  generalize hAe : va_A [(h0, .inr (2, [.ref pr, .ref kn, .ref lt, .int h0_localCount, .ref pe, .int h0_pendingCount, .int h0_gives, .int h0_depth, .int h0_loopDepth, .ref to, .ref bo, .ref cs, .ref se])), (pr, .inr (6, [.ref gl, .ref fu, .ref pa, .ref pf, .ref sf, .ref pk, .ref pg, .ref pp, .ref pz, .ref pv, .int pr_reason, .int pr_place, .ref pr_scanner_r, .int pr_stepCount, .int pr_open, .int pr_twoSides, .ref pr_waiting_r, .ref pr_waitingPlaces_r, .int pr_waitingCount])), (cs, .inr (1, [.ref csb, .int cs_length])), (csb, .inl (ccsb, 8192, .inl gcsb)), (se, .inr (1, [.ref seb, .int se_length])), (seb, .inl (cseb, 8192, .inl gseb)), (fu, .inr (5, [.ref tr, .ref fus, .ref fuz, .ref fut, .ref fuv, .int fu_length])), (ow, .inr (1, [.ref owb, .int ow_length])), (owb, .inl (cowb, 8192, .inl gowb))] s.heap.size = A at hD ⊢
  have hA : ∀ q : Nat, s.heap.size ≤ q → A q := fun q h => by rw [← hAe]; exact Or.inr h
  clear hAe
  have hP : va_P (dC, dI) cls [(h0, .inr (2, [.ref pr, .ref kn, .ref lt, .int h0_localCount, .ref pe, .int h0_pendingCount, .int h0_gives, .int h0_depth, .int h0_loopDepth, .ref to, .ref bo, .ref cs, .ref se])), (pr, .inr (6, [.ref gl, .ref fu, .ref pa, .ref pf, .ref sf, .ref pk, .ref pg, .ref pp, .ref pz, .ref pv, .int pr_reason, .int pr_place, .ref pr_scanner_r, .int pr_stepCount, .int pr_open, .int pr_twoSides, .ref pr_waiting_r, .ref pr_waitingPlaces_r, .int pr_waitingCount])), (cs, .inr (1, [.ref csb, .int cs_length])), (csb, .inl (ccsb, 8192, .inl gcsb)), (se, .inr (1, [.ref seb, .int se_length])), (seb, .inl (cseb, 8192, .inl gseb)), (fu, .inr (5, [.ref tr, .ref fus, .ref fuz, .ref fut, .ref fuv, .int fu_length])), (ow, .inr (1, [.ref owb, .int ow_length])), (owb, .inl (cowb, 8192, .inl gowb))] s.heap := hP
  have hl := lv_entry ([.ref h0, .ref ow]) (n := 2) (Nat.le_of_ble_eq_true rfl)
  rw [lg_entry_eq]
  generalize (lg_sl ([.ref h0, .ref ow]) ++ List.replicate (2 - (lg_sl ([.ref h0, .ref ow])).length) Slot.unset).toArray = ls at hl ⊢
  have hl : lv_has ls 2 [(0, .ref h0), (1, .ref ow)] := hl
  have k0 : (0 : Int32).toInt = 0 := by decide
  refine w_gen (A := A) hP (fun H locs hP hS => ?_)
  have k10 : (10 : Int32).toInt = 10 := by decide
  refine lv_aload_n hx hb d_CO_writeCodes_0 rfl (lv_at hl 0 rfl) ?_
  refine va_get (D := (dC, dI)) (ci := 2) (v := .ref se) (C := R_CO) (T := F_CO) (N := 13) hx hb hts i_CO hown hK hP 0 rfl rfl 12 (by decide) (hts _ kF_CO_33) (fun _ h9 => h9) rfl d_CO_writeCodes_1 ?_
  refine lv_iconst (v := 0) hx hb d_CO_writeCodes_4 (by decide) ?_
  refine va_put (D := (dC, dI)) (ci := 1) (v := .int 0) (ty := .int) (C := R_BR) (T := F_BR) (N := 2) hx hb hts i_BR t_BR t_BR_ok n_BR hown hK hP hD hS 4 rfl rfl 1 (by decide) (hts _ kF_CO_64) (fun _ h9 => h9) rfl (by decide +kernel) rfl rfl (Nat.le_of_ble_eq_true rfl) d_CO_writeCodes_5 (fun H locs hP hD hS => ?_)
  refine lv_aload_n hx hb d_CO_writeCodes_8 rfl (lv_at hl 0 rfl) ?_
  refine va_get (D := (dC, dI)) (ci := 2) (v := .ref se) (C := R_CO) (T := F_CO) (N := 13) hx hb hts i_CO hown hK hP 0 rfl rfl 12 (by decide) (hts _ kF_CO_33) (fun _ h9 => h9) rfl d_CO_writeCodes_9 ?_
  refine lv_aload_n hx hb d_CO_writeCodes_12 rfl (lv_at hl 0 rfl) ?_
  refine va_get (D := (dC, dI)) (ci := 2) (v := .ref pr) (C := R_CO) (T := F_CO) (N := 13) hx hb hts i_CO hown hK hP 0 rfl rfl 0 (by decide) (hts _ kF_CO_36) (fun _ h9 => h9) rfl d_CO_writeCodes_13 ?_
  refine va_get (D := (dC, dI)) (ci := 6) (v := .ref fu) (C := R_PR) (T := F_PR) (N := 19) hx hb hts i_PR hown hK hP 1 rfl rfl 1 (by decide) (hts _ kF_CO_61) (fun _ h9 => h9) rfl d_CO_writeCodes_16 ?_
  refine va_get (D := (dC, dI)) (ci := 5) (v := .int fu_length) (C := R_NA) (T := F_NA) (N := 6) hx hb hts i_NA hown hK hP 6 rfl rfl 5 (by decide) (hts _ kF_CO_68) (fun _ h9 => h9) rfl d_CO_writeCodes_19 ?_
  have hPc := hP.sub (ws' := [(se, .inr (1, [.ref seb, .int 0])), (seb, .inl (cseb, 8192, .inl gseb))]) [4, 5] rfl
  have hDc := hD.sub (ws' := [(se, .inr (1, [.ref seb, .int 0])), (seb, .inl (cseb, 8192, .inl gseb))]) [4, 5] (by decide) rfl
  have hKc := hK.sub (tys' := [(cseb, .byte)]) [1] rfl
  have hFc := va_free (wc := [(se, .inr (1, [.ref seb, .int 0])), (seb, .inl (cseb, 8192, .inl gseb))]) hD hS hA [4, 5] rfl
  refine va_callv (va_runV (As := [.int fu_length]) (rest := []) ⟨hx, hb, hml, hown, hts⟩ (c_BR_putUnsigned l dC dI se seb H.size cseb 8192 0 gseb (by omega) (by omega) (by omega) fu_length (by omega)) (cwV 1 hts (gV kM_CO_218 kV_BR_putUnsigned kS_BR_putUnsigned kI_BR kC_BR_putUnsigned) rfl rfl rfl (by decide +kernel) ⟨Nat.le_of_ble_eq_true rfl, Nat.le_of_ble_eq_true rfl⟩) ⟨fun a U g mk z => by obtain ⟨z0, z1, zP, zK, zD⟩ := z; exact ⟨z0, z1, zP, va_K.moved (u := U) (U := U.calling g mk a) (Vm.Alike.refl U.vm) zK, zD⟩, va_recv hKc hPc (ci := 1) (q0 := 0) rfl rfl, fun U hU hW => ⟨rfl, by rw [hU], by rw [hU]; exact hPc, va_K.moved hW.alike hKc, hDc.weaken (fun _ _ _ _ => trivial)⟩⟩ rfl rfl hl.1 rfl (lv_room (Nat.le_of_ble_eq_true rfl)) d_CO_writeCodes_22 ⟨(Nat.zero_le _), (Nat.zero_le _)⟩) hS (fun q _ h => hFc q h) hFc (fun u t H1 locs ht hvm hw hB hz1 hk1 hS => ?_)
  obtain ⟨n2, f3⟩ := u
  try dsimp only at hw
  obtain ⟨tn2, bn2⟩ := hw
  have ln2 := leb_len 5 (un fu_length)
  obtain ⟨hP1, hK1, hD1⟩ := hB
  rw [ht] at hP1
  obtain ⟨hP, hD⟩ := va_join (wr := [(h0, .inr (2, [.ref pr, .ref kn, .ref lt, .int h0_localCount, .ref pe, .int h0_pendingCount, .int h0_gives, .int h0_depth, .int h0_loopDepth, .ref to, .ref bo, .ref cs, .ref se])), (pr, .inr (6, [.ref gl, .ref fu, .ref pa, .ref pf, .ref sf, .ref pk, .ref pg, .ref pp, .ref pz, .ref pv, .int pr_reason, .int pr_place, .ref pr_scanner_r, .int pr_stepCount, .int pr_open, .int pr_twoSides, .ref pr_waiting_r, .ref pr_waitingPlaces_r, .int pr_waitingCount])), (cs, .inr (1, [.ref csb, .int cs_length])), (csb, .inl (ccsb, 8192, .inl gcsb)), (fu, .inr (5, [.ref tr, .ref fus, .ref fuz, .ref fut, .ref fuv, .int fu_length])), (ow, .inr (1, [.ref owb, .int ow_length])), (owb, .inl (cowb, 8192, .inl gowb))]) (w1 := [(se, .inr (1, [.ref seb, .int n2])), (seb, .inl (cseb, 8192, .inl f3))]) hP hD [4, 5] [0, 1, 2, 3, 6, 7, 8] rfl rfl (by decide) (by decide) hk1 hFc hP1 hD1
  clear hPc hDc hKc hFc hz1 hk1 hP1 hK1 hD1
  generalize H1 = H at hP hS ⊢
  have hP : va_P (dC, dI) cls [(h0, .inr (2, [.ref pr, .ref kn, .ref lt, .int h0_localCount, .ref pe, .int h0_pendingCount, .int h0_gives, .int h0_depth, .int h0_loopDepth, .ref to, .ref bo, .ref cs, .ref se])), (pr, .inr (6, [.ref gl, .ref fu, .ref pa, .ref pf, .ref sf, .ref pk, .ref pg, .ref pp, .ref pz, .ref pv, .int pr_reason, .int pr_place, .ref pr_scanner_r, .int pr_stepCount, .int pr_open, .int pr_twoSides, .ref pr_waiting_r, .ref pr_waitingPlaces_r, .int pr_waitingCount])), (cs, .inr (1, [.ref csb, .int cs_length])), (csb, .inl (ccsb, 8192, .inl gcsb)), (fu, .inr (5, [.ref tr, .ref fus, .ref fuz, .ref fut, .ref fuv, .int fu_length])), (ow, .inr (1, [.ref owb, .int ow_length])), (owb, .inl (cowb, 8192, .inl gowb)), (se, .inr (1, [.ref seb, .int n2])), (seb, .inl (cseb, 8192, .inl f3))] H := hP
  have hD : va_D A [(h0, .inr (2, [.ref pr, .ref kn, .ref lt, .int h0_localCount, .ref pe, .int h0_pendingCount, .int h0_gives, .int h0_depth, .int h0_loopDepth, .ref to, .ref bo, .ref cs, .ref se])), (pr, .inr (6, [.ref gl, .ref fu, .ref pa, .ref pf, .ref sf, .ref pk, .ref pg, .ref pp, .ref pz, .ref pv, .int pr_reason, .int pr_place, .ref pr_scanner_r, .int pr_stepCount, .int pr_open, .int pr_twoSides, .ref pr_waiting_r, .ref pr_waitingPlaces_r, .int pr_waitingCount])), (cs, .inr (1, [.ref csb, .int cs_length])), (csb, .inl (ccsb, 8192, .inl gcsb)), (fu, .inr (5, [.ref tr, .ref fus, .ref fuz, .ref fut, .ref fuv, .int fu_length])), (ow, .inr (1, [.ref owb, .int ow_length])), (owb, .inl (cowb, 8192, .inl gowb)), (se, .inr (1, [.ref seb, .int n2])), (seb, .inl (cseb, 8192, .inl f3))] := hD
  have lfu_length := congrArg List.length (leb_s (x := fu_length) (by omega) (by omega))
  rw [List.length_singleton] at lfu_length
  refine lv_aload_n hx hb d_CO_writeCodes_25 rfl (lv_at hl 0 rfl) ?_
  refine va_get (D := (dC, dI)) (ci := 2) (v := .ref se) (C := R_CO) (T := F_CO) (N := 13) hx hb hts i_CO hown hK hP 0 rfl rfl 12 (by decide) (hts _ kF_CO_33) (fun _ h9 => h9) rfl d_CO_writeCodes_26 ?_
  refine lv_aload_n hx hb d_CO_writeCodes_29 rfl (lv_at hl 0 rfl) ?_
  refine va_get (D := (dC, dI)) (ci := 2) (v := .ref cs) (C := R_CO) (T := F_CO) (N := 13) hx hb hts i_CO hown hK hP 0 rfl rfl 11 (by decide) (hts _ kF_CO_30) (fun _ h9 => h9) rfl d_CO_writeCodes_30 ?_
  refine lv_iconst (v := 0) hx hb d_CO_writeCodes_33 (by decide) ?_
  refine lv_aload_n hx hb d_CO_writeCodes_34 rfl (lv_at hl 0 rfl) ?_
  refine va_get (D := (dC, dI)) (ci := 2) (v := .ref cs) (C := R_CO) (T := F_CO) (N := 13) hx hb hts i_CO hown hK hP 0 rfl rfl 11 (by decide) (hts _ kF_CO_30) (fun _ h9 => h9) rfl d_CO_writeCodes_35 ?_
  refine va_get (D := (dC, dI)) (ci := 1) (v := .int cs_length) (C := R_BR) (T := F_BR) (N := 2) hx hb hts i_BR hown hK hP 2 rfl rfl 1 (by decide) (hts _ kF_CO_64) (fun _ h9 => h9) rfl d_CO_writeCodes_38 ?_
  have hPc := hP.sub (ws' := [(se, .inr (1, [.ref seb, .int n2])), (seb, .inl (cseb, 8192, .inl f3)), (cs, .inr (1, [.ref csb, .int cs_length])), (csb, .inl (ccsb, 8192, .inl gcsb))]) [7, 8, 2, 3] rfl
  have hDc := hD.sub (ws' := [(se, .inr (1, [.ref seb, .int n2])), (seb, .inl (cseb, 8192, .inl f3)), (cs, .inr (1, [.ref csb, .int cs_length])), (csb, .inl (ccsb, 8192, .inl gcsb))]) [7, 8, 2, 3] (by decide) rfl
  have hKc := hK.sub (tys' := [(cseb, .byte), (ccsb, .byte)]) [1, 0] rfl
  have hFc := va_free (wc := [(se, .inr (1, [.ref seb, .int n2])), (seb, .inl (cseb, 8192, .inl f3)), (cs, .inr (1, [.ref csb, .int cs_length])), (csb, .inl (ccsb, 8192, .inl gcsb))]) hD hS hA [7, 8, 2, 3] rfl
  refine va_callv (va_runV (As := [.ref cs, .int 0, .int cs_length]) (rest := []) ⟨hx, hb, hml, hown, hts⟩ (c_BR_putPart l dC dI se seb cs csb H.size cseb ccsb 8192 8192 n2 cs_length f3 gcsb (by omega) (by omega) (by omega) (by omega) (by omega) (by omega) 0 cs_length (by omega) (by omega) (by omega) (by omega)) (cwV 3 hts (gV kM_CO_288 kV_BR_putPart kS_BR_putPart kI_BR kC_BR_putPart) rfl rfl rfl (by decide +kernel) ⟨Nat.le_of_ble_eq_true rfl, Nat.le_of_ble_eq_true rfl⟩) ⟨fun a U g mk z => by obtain ⟨z0, z1, zP, zK, zD⟩ := z; exact ⟨z0, z1, zP, va_K.moved (u := U) (U := U.calling g mk a) (Vm.Alike.refl U.vm) zK, zD⟩, va_recv hKc hPc (ci := 1) (q0 := 0) rfl rfl, fun U hU hW => ⟨rfl, by rw [hU], by rw [hU]; exact hPc, va_K.moved hW.alike hKc, hDc.weaken (fun _ _ _ _ => trivial)⟩⟩ rfl rfl hl.1 rfl (lv_room (Nat.le_of_ble_eq_true rfl)) d_CO_writeCodes_41 ⟨(Nat.zero_le _), (Nat.zero_le _)⟩) hS (fun q _ h => hFc q h) hFc (fun u t H1 locs ht hvm hw hB hz1 hk1 hS => ?_)
  obtain ⟨n5, f6⟩ := u
  try dsimp only at hw
  obtain ⟨tn5, bn5⟩ := hw
  obtain ⟨hP1, hK1, hD1⟩ := hB
  rw [ht] at hP1
  obtain ⟨hP, hD⟩ := va_join (wr := [(h0, .inr (2, [.ref pr, .ref kn, .ref lt, .int h0_localCount, .ref pe, .int h0_pendingCount, .int h0_gives, .int h0_depth, .int h0_loopDepth, .ref to, .ref bo, .ref cs, .ref se])), (pr, .inr (6, [.ref gl, .ref fu, .ref pa, .ref pf, .ref sf, .ref pk, .ref pg, .ref pp, .ref pz, .ref pv, .int pr_reason, .int pr_place, .ref pr_scanner_r, .int pr_stepCount, .int pr_open, .int pr_twoSides, .ref pr_waiting_r, .ref pr_waitingPlaces_r, .int pr_waitingCount])), (fu, .inr (5, [.ref tr, .ref fus, .ref fuz, .ref fut, .ref fuv, .int fu_length])), (ow, .inr (1, [.ref owb, .int ow_length])), (owb, .inl (cowb, 8192, .inl gowb))]) (w1 := [(se, .inr (1, [.ref seb, .int n5])), (seb, .inl (cseb, 8192, .inl f6)), (cs, .inr (1, [.ref csb, .int cs_length])), (csb, .inl (ccsb, 8192, .inl gcsb))]) hP hD [7, 8, 2, 3] [0, 1, 4, 5, 6] rfl rfl (by decide) (by decide) hk1 hFc hP1 hD1
  clear hPc hDc hKc hFc hz1 hk1 hP1 hK1 hD1
  generalize H1 = H at hP hS ⊢
  have hP : va_P (dC, dI) cls [(h0, .inr (2, [.ref pr, .ref kn, .ref lt, .int h0_localCount, .ref pe, .int h0_pendingCount, .int h0_gives, .int h0_depth, .int h0_loopDepth, .ref to, .ref bo, .ref cs, .ref se])), (pr, .inr (6, [.ref gl, .ref fu, .ref pa, .ref pf, .ref sf, .ref pk, .ref pg, .ref pp, .ref pz, .ref pv, .int pr_reason, .int pr_place, .ref pr_scanner_r, .int pr_stepCount, .int pr_open, .int pr_twoSides, .ref pr_waiting_r, .ref pr_waitingPlaces_r, .int pr_waitingCount])), (fu, .inr (5, [.ref tr, .ref fus, .ref fuz, .ref fut, .ref fuv, .int fu_length])), (ow, .inr (1, [.ref owb, .int ow_length])), (owb, .inl (cowb, 8192, .inl gowb)), (se, .inr (1, [.ref seb, .int n5])), (seb, .inl (cseb, 8192, .inl f6)), (cs, .inr (1, [.ref csb, .int cs_length])), (csb, .inl (ccsb, 8192, .inl gcsb))] H := hP
  have hD : va_D A [(h0, .inr (2, [.ref pr, .ref kn, .ref lt, .int h0_localCount, .ref pe, .int h0_pendingCount, .int h0_gives, .int h0_depth, .int h0_loopDepth, .ref to, .ref bo, .ref cs, .ref se])), (pr, .inr (6, [.ref gl, .ref fu, .ref pa, .ref pf, .ref sf, .ref pk, .ref pg, .ref pp, .ref pz, .ref pv, .int pr_reason, .int pr_place, .ref pr_scanner_r, .int pr_stepCount, .int pr_open, .int pr_twoSides, .ref pr_waiting_r, .ref pr_waitingPlaces_r, .int pr_waitingCount])), (fu, .inr (5, [.ref tr, .ref fus, .ref fuz, .ref fut, .ref fuv, .int fu_length])), (ow, .inr (1, [.ref owb, .int ow_length])), (owb, .inl (cowb, 8192, .inl gowb)), (se, .inr (1, [.ref seb, .int n5])), (seb, .inl (cseb, 8192, .inl f6)), (cs, .inr (1, [.ref csb, .int cs_length])), (csb, .inl (ccsb, 8192, .inl gcsb))] := hD
  refine lv_aload_n hx hb d_CO_writeCodes_44 rfl (lv_at hl 0 rfl) ?_
  refine lv_aload_n hx hb d_CO_writeCodes_45 rfl (lv_at hl 1 rfl) ?_
  refine lv_bipush (v := 10) hx hb d_CO_writeCodes_46 (by decide) ?_
  have hPc := hP.sub (ws' := [(h0, .inr (2, [.ref pr, .ref kn, .ref lt, .int h0_localCount, .ref pe, .int h0_pendingCount, .int h0_gives, .int h0_depth, .int h0_loopDepth, .ref to, .ref bo, .ref cs, .ref se])), (se, .inr (1, [.ref seb, .int n5])), (seb, .inl (cseb, 8192, .inl f6)), (ow, .inr (1, [.ref owb, .int ow_length])), (owb, .inl (cowb, 8192, .inl gowb))]) [0, 5, 6, 3, 4] rfl
  have hDc := hD.sub (ws' := [(h0, .inr (2, [.ref pr, .ref kn, .ref lt, .int h0_localCount, .ref pe, .int h0_pendingCount, .int h0_gives, .int h0_depth, .int h0_loopDepth, .ref to, .ref bo, .ref cs, .ref se])), (se, .inr (1, [.ref seb, .int n5])), (seb, .inl (cseb, 8192, .inl f6)), (ow, .inr (1, [.ref owb, .int ow_length])), (owb, .inl (cowb, 8192, .inl gowb))]) [0, 5, 6, 3, 4] (by decide) rfl
  have hKc := hK.sub (tys' := [(cseb, .byte), (cowb, .byte)]) [1, 2] rfl
  have hFc := va_free (wc := [(h0, .inr (2, [.ref pr, .ref kn, .ref lt, .int h0_localCount, .ref pe, .int h0_pendingCount, .int h0_gives, .int h0_depth, .int h0_loopDepth, .ref to, .ref bo, .ref cs, .ref se])), (se, .inr (1, [.ref seb, .int n5])), (seb, .inl (cseb, 8192, .inl f6)), (ow, .inr (1, [.ref owb, .int ow_length])), (owb, .inl (cowb, 8192, .inl gowb))]) hD hS hA [0, 5, 6, 3, 4] rfl
  refine va_callv (va_runV (As := [.ref ow, .int 10]) (rest := []) ⟨hx, hb, hml, hown, hts⟩ (c_CO_putSection l dC dI H.size h0 pr kn lt pe to bo cs se seb ow owb cseb cowb h0_localCount h0_pendingCount h0_gives h0_depth h0_loopDepth n5 f6 ow_length gowb (by (try dsimp only) <;> omega) (b_ow_length) 10 (by decide) (by omega)) (cwV 2 hts (gV kM_CO_299 kV_CO_putSection kS_CO_putSection kI_CO kC_CO_putSection) rfl rfl rfl (by decide +kernel) ⟨Nat.le_of_ble_eq_true rfl, Nat.le_of_ble_eq_true rfl⟩) ⟨fun a U g mk z => by obtain ⟨z0, z1, zP, zK, zD⟩ := z; exact ⟨z0, z1, zP, va_K.moved (u := U) (U := U.calling g mk a) (Vm.Alike.refl U.vm) zK, zD⟩, va_recv hKc hPc (ci := 2) (q0 := 0) rfl rfl, fun U hU hW => ⟨rfl, by rw [hU], by rw [hU]; exact hPc, va_K.moved hW.alike hKc, hDc.weaken (fun _ _ _ _ => trivial)⟩⟩ rfl rfl hl.1 rfl (lv_room (Nat.le_of_ble_eq_true rfl)) d_CO_writeCodes_48 ⟨(Nat.zero_le _), (Nat.zero_le _)⟩) hS (fun q _ h => hFc q h) hFc (fun u t H1 locs ht hvm hw hB hz1 hk1 hS => ?_)
  obtain ⟨n8, n9⟩ := u
  try dsimp only at hw
  obtain ⟨bn9, xr7⟩ := hw
  try clear hw
  obtain ⟨hP1, hK1, hD1⟩ := hB
  rw [ht] at hP1
  obtain ⟨hP, hD⟩ := va_join (wr := [(pr, .inr (6, [.ref gl, .ref fu, .ref pa, .ref pf, .ref sf, .ref pk, .ref pg, .ref pp, .ref pz, .ref pv, .int pr_reason, .int pr_place, .ref pr_scanner_r, .int pr_stepCount, .int pr_open, .int pr_twoSides, .ref pr_waiting_r, .ref pr_waitingPlaces_r, .int pr_waitingCount])), (fu, .inr (5, [.ref tr, .ref fus, .ref fuz, .ref fut, .ref fuv, .int fu_length])), (cs, .inr (1, [.ref csb, .int cs_length])), (csb, .inl (ccsb, 8192, .inl gcsb))]) (w1 := [(h0, .inr (2, [.ref pr, .ref kn, .ref lt, .int h0_localCount, .ref pe, .int h0_pendingCount, .int h0_gives, .int h0_depth, .int h0_loopDepth, .ref to, .ref bo, .ref cs, .ref se])), (se, .inr (1, [.ref seb, .int n5])), (seb, .inl (cseb, 8192, .inl f6)), (ow, .inr (1, [.ref owb, .int n9])), (owb, .inl (cowb, 8192, .inl n8))]) hP hD [0, 5, 6, 3, 4] [1, 2, 7, 8] rfl rfl (by decide) (by decide) hk1 hFc hP1 hD1
  clear hPc hDc hKc hFc hz1 hk1 hP1 hK1 hD1
  generalize H1 = H at hP hS ⊢
  have hP : va_P (dC, dI) cls [(pr, .inr (6, [.ref gl, .ref fu, .ref pa, .ref pf, .ref sf, .ref pk, .ref pg, .ref pp, .ref pz, .ref pv, .int pr_reason, .int pr_place, .ref pr_scanner_r, .int pr_stepCount, .int pr_open, .int pr_twoSides, .ref pr_waiting_r, .ref pr_waitingPlaces_r, .int pr_waitingCount])), (fu, .inr (5, [.ref tr, .ref fus, .ref fuz, .ref fut, .ref fuv, .int fu_length])), (cs, .inr (1, [.ref csb, .int cs_length])), (csb, .inl (ccsb, 8192, .inl gcsb)), (h0, .inr (2, [.ref pr, .ref kn, .ref lt, .int h0_localCount, .ref pe, .int h0_pendingCount, .int h0_gives, .int h0_depth, .int h0_loopDepth, .ref to, .ref bo, .ref cs, .ref se])), (se, .inr (1, [.ref seb, .int n5])), (seb, .inl (cseb, 8192, .inl f6)), (ow, .inr (1, [.ref owb, .int n9])), (owb, .inl (cowb, 8192, .inl n8))] H := hP
  have hD : va_D A [(pr, .inr (6, [.ref gl, .ref fu, .ref pa, .ref pf, .ref sf, .ref pk, .ref pg, .ref pp, .ref pz, .ref pv, .int pr_reason, .int pr_place, .ref pr_scanner_r, .int pr_stepCount, .int pr_open, .int pr_twoSides, .ref pr_waiting_r, .ref pr_waitingPlaces_r, .int pr_waitingCount])), (fu, .inr (5, [.ref tr, .ref fus, .ref fuz, .ref fut, .ref fuv, .int fu_length])), (cs, .inr (1, [.ref csb, .int cs_length])), (csb, .inl (ccsb, 8192, .inl gcsb)), (h0, .inr (2, [.ref pr, .ref kn, .ref lt, .int h0_localCount, .ref pe, .int h0_pendingCount, .int h0_gives, .int h0_depth, .int h0_loopDepth, .ref to, .ref bo, .ref cs, .ref se])), (se, .inr (1, [.ref seb, .int n5])), (seb, .inl (cseb, 8192, .inl f6)), (ow, .inr (1, [.ref owb, .int n9])), (owb, .inl (cowb, 8192, .inl n8))] := hD
  have hP9 := hP.sub (ws' := [(h0, .inr (2, [.ref pr, .ref kn, .ref lt, .int h0_localCount, .ref pe, .int h0_pendingCount, .int h0_gives, .int h0_depth, .int h0_loopDepth, .ref to, .ref bo, .ref cs, .ref se])), (pr, .inr (6, [.ref gl, .ref fu, .ref pa, .ref pf, .ref sf, .ref pk, .ref pg, .ref pp, .ref pz, .ref pv, .int pr_reason, .int pr_place, .ref pr_scanner_r, .int pr_stepCount, .int pr_open, .int pr_twoSides, .ref pr_waiting_r, .ref pr_waitingPlaces_r, .int pr_waitingCount])), (cs, .inr (1, [.ref csb, .int cs_length])), (csb, .inl (ccsb, 8192, .inl gcsb)), (se, .inr (1, [.ref seb, .int n5])), (seb, .inl (cseb, 8192, .inl f6)), (fu, .inr (5, [.ref tr, .ref fus, .ref fuz, .ref fut, .ref fuv, .int fu_length])), (ow, .inr (1, [.ref owb, .int n9])), (owb, .inl (cowb, 8192, .inl n8))]) [4, 0, 2, 3, 5, 6, 1, 7, 8] rfl
  have hD9 := hD.sub (ws' := [(h0, .inr (2, [.ref pr, .ref kn, .ref lt, .int h0_localCount, .ref pe, .int h0_pendingCount, .int h0_gives, .int h0_depth, .int h0_loopDepth, .ref to, .ref bo, .ref cs, .ref se])), (pr, .inr (6, [.ref gl, .ref fu, .ref pa, .ref pf, .ref sf, .ref pk, .ref pg, .ref pp, .ref pz, .ref pv, .int pr_reason, .int pr_place, .ref pr_scanner_r, .int pr_stepCount, .int pr_open, .int pr_twoSides, .ref pr_waiting_r, .ref pr_waitingPlaces_r, .int pr_waitingCount])), (cs, .inr (1, [.ref csb, .int cs_length])), (csb, .inl (ccsb, 8192, .inl gcsb)), (se, .inr (1, [.ref seb, .int n5])), (seb, .inl (cseb, 8192, .inl f6)), (fu, .inr (5, [.ref tr, .ref fus, .ref fuz, .ref fut, .ref fuv, .int fu_length])), (ow, .inr (1, [.ref owb, .int n9])), (owb, .inl (cowb, 8192, .inl n8))]) [4, 0, 2, 3, 5, 6, 1, 7, 8] (by decide) rfl
  exact W.vret hx hb hr (fun t ht hW => ⟨⟨(n8, f6, n9, n5), rfl, ⟨bn9, by (try dsimp only) <;> omega, (by have h9 := xr7; rw [bn5, bn2, leb_s (by omega) (by omega), show (0 : Int32).toNatClampNeg = 0 from rfl, List.drop_zero, List.take_of_length_le (by rw [bl_len]; exact Nat.le_refl _)] at h9; exact h9)⟩, by rw [ht]; exact hP9, va_K.moved hW.alike hK, hD9⟩, hS.F ht⟩) hS.2.2 d_CO_writeCodes_51
