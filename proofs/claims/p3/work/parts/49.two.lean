/-! Program: signs of two sides -/
def lvl (k : Nat) : Int := (sg_level.getD k 0).toInt
theorem sg_lv : ∀ k, k < 55 → (0 < lvl k → 36 ≤ k) ∧ lvl k ≤ 7 ∧ (36 ≤ k → 1 ≤ lvl k) := by decide
def itm (k : Nat) : Nat := if k = 36 then 2 else if k = 37 then 3 else 0
def hcost (k : Nat) : Int := if k = 36 then 25 else if k = 37 then 10 else 0
def wcost (k : Nat) : Int := if k = 36 then 24 else if k = 37 then 40 else 10
def pw (g : Nat → Option Nat) (f : Nat) : Nat → List Nat → List Nat
  | 0, S => S
  | i + 1, S => itm ((g (f + i)).getD 0) :: pw g f i S
def pvc (g : Nat → Option Nat) (f : Nat) : Nat → Int
  | 0 => 0
  | i + 1 => pvc g f i + wcost ((g (f + i)).getD 0)
def py (g : Nat → Option Nat) (f i : Nat) : Prop := ∀ j, j < i → ∃ k, g (f + j) = some k ∧ 36 ≤ k ∧ k < 55 ∧ (j : Int) + 1 ≤ lvl k
theorem wcost_b (k : Nat) : 10 ≤ wcost k ∧ wcost k ≤ 40 := by
  unfold wcost
  split
  · omega
  · split <;> omega
theorem pw_0 {g : Nat → Option Nat} {f i : Nat} {S : List Nat} (h : i = 0) : pw g f i S = S := by subst h; rfl
theorem pvc_0 {g : Nat → Option Nat} {f i : Nat} (h : i = 0) : pvc g f i = 0 := by subst h; rfl
theorem pvc_pos {g : Nat → Option Nat} {f : Nat} : ∀ i, 0 ≤ pvc g f i := by
  intro i
  induction i with
  | zero => exact Int.le_refl _
  | succ i ih =>
    have : pvc g f (i + 1) = pvc g f i + wcost ((g (f + i)).getD 0) := rfl
    have := wcost_b ((g (f + i)).getD 0)
    omega
theorem pw_len {g : Nat → Option Nat} {f : Nat} {S : List Nat} : ∀ i, (pw g f i S).length = S.length + i := by
  intro i
  induction i with
  | zero => rfl
  | succ i ih =>
    have : pw g f (i + 1) S = itm ((g (f + i)).getD 0) :: pw g f i S := rfl
    rw [this, List.length_cons]; omega
theorem pw_wk {a b : Nat → Option Nat} {f : Nat} {S : List Nat} {n : Int} (h : wk n a b) : ∀ i, ((f + i : Nat) : Int) ≤ n → pw b f i S = pw a f i S := by
  intro i
  induction i with
  | zero => intro _; rfl
  | succ i ih =>
    intro q
    have e1 : pw a f (i + 1) S = itm ((a (f + i)).getD 0) :: pw a f i S := rfl
    have e2 : pw b f (i + 1) S = itm ((b (f + i)).getD 0) :: pw b f i S := rfl
    rw [e1, e2, h (f + i) (by omega), ih (by omega)]
theorem pvc_wk {a b : Nat → Option Nat} {f : Nat} {n : Int} (h : wk n a b) : ∀ i, ((f + i : Nat) : Int) ≤ n → pvc b f i = pvc a f i := by
  intro i
  induction i with
  | zero => intro _; rfl
  | succ i ih =>
    intro q
    have e1 : pvc a f (i + 1) = pvc a f i + wcost ((a (f + i)).getD 0) := rfl
    have e2 : pvc b f (i + 1) = pvc b f i + wcost ((b (f + i)).getD 0) := rfl
    rw [e1, e2, h (f + i) (by omega), ih (by omega)]
theorem py_wk {a b : Nat → Option Nat} {f i : Nat} {n : Int} (h : wk n a b) (q : ((f + i : Nat) : Int) ≤ n) (hs : py a f i) : py b f i := fun j h1 => by rw [h (f + j) (by omega)]; exact hs j h1
theorem py_le {a : Nat → Option Nat} {f i i2 : Nat} (hs : py a f i) (h : i2 ≤ i) : py a f i2 := fun j h1 => hs j (by omega)
theorem py_up {a b : Nat → Option Nat} {f i i2 k : Nat} {w : Int32} (e : b = va_up a w.toNatClampNeg (some k)) (hw : w.toInt = (f + i : Nat)) (h2 : i2 = i + 1) (hk : 36 ≤ k ∧ k < 55) (hl : (i : Int) + 1 ≤ lvl k) (hs : py a f i) : py b f i2 := by
  subst e; subst h2
  have c := i32_clamp (x := w) (by omega)
  intro j h1
  by_cases q : f + j = w.toNatClampNeg
  · exact ⟨k, by rw [q]; exact va_us, hk.1, hk.2, by omega⟩
  · rw [va_un q]
    exact hs j (by omega)
theorem pw_fr {g : Nat → Option Nat} {f : Nat} {S : List Nat} : ∀ i, py g f i → fr (pw g f i S) ≤ fr S + 2 ∧ (i ≤ 1 → fr (pw g f i S) ≤ fr S + 1) ∧ (i ≤ 0 → fr (pw g f i S) ≤ fr S) := by
  intro i
  induction i with
  | zero => exact fun _ => ⟨by show fr S ≤ _; omega, fun _ => by show fr S ≤ _; omega, fun _ => Int.le_refl _⟩
  | succ i ih =>
    intro h
    obtain ⟨k, a1, a2, a3, a4⟩ := h i (by omega)
    have w := ih (fun j q => h j (by omega))
    have e : fr (pw g f (i + 1) S) = fr (pw g f i S) + fw (itm ((g (f + i)).getD 0)) := rfl
    rw [a1, show (some k).getD 0 = k from rfl] at e
    by_cases q : k = 36 ∨ k = 37
    · have l1 : lvl 36 = 1 := by decide
      have l2 : lvl 37 = 2 := by decide
      have f2 : fw (itm k) = 1 := by rcases q with rfl | rfl <;> rfl
      have hi : i ≤ 1 := by rcases q with rfl | rfl <;> omega
      have w1 := w.2.1 hi
      refine ⟨by omega, fun z => ?_, fun z => absurd z (by omega)⟩
      have := w.2.2 (by omega)
      omega
    · have f2 : fw (itm k) = 0 := by
        rw [show itm k = 0 from by unfold itm; rw [if_neg (fun z => q (Or.inl z)), if_neg (fun z => q (Or.inr z))]]
        rfl
      refine ⟨by omega, fun z => ?_, fun z => absurd z (by omega)⟩
      have := w.2.2 (by omega)
      omega
theorem ls_pw {B B2 : Int} {g : Nat → Option Nat} {f i : Nat} {S : List Nat} (q : ls B S) (hs : py g f i) (h : B + i ≤ B2) (hf : ph B + 2 ≤ ph B2) : ls B2 (pw g f i S) := ⟨by have := q.1; rw [pw_len]; omega, by have := q.2; have := (pw_fr (S := S) i hs).1; omega⟩
theorem lm_pw {B : Int} {g : Nat → Option Nat} {f i x : Nat} {S : List Nat} (q : ls B S) (hs : py g f i) (h : B + i ≤ 679) : lm (x :: pw g f i S) := ⟨by have := q.1; rw [List.length_cons, pw_len]; omega, by have := q.2; have := (pw_fr (S := S) i hs).1; have := fw_b x; show fr _ + fw x ≤ _; unfold ph at *; omega⟩
theorem pX_two {B D : Int} {l l1 l2 : List pS} {g : Nat → Option Nat} {f i i2 k : Nat} {p z : Int32} {v : Int64} (h : pX B (fun S => 0 :: pw g f i S) l l1 (D - pvc g f i)) (e : l2 = l1 ++ [(3, some k, p, z, v)]) (hi : i = i2 + 1) (hk : g (f + i2) = some k) (hs : py g f i) (hB : B + i2 ≤ 679) : pX B (fun S => 0 :: pw g f i2 S) l l2 (D - pvc g f i2) := by
  subst hi
  obtain ⟨k2, q1, q2, q3, -⟩ := hs i2 (by omega)
  rw [hk] at q1
  obtain rfl := Option.some.inj q1
  have hl : ∀ S : List Nat, ls B S → lm (0 :: pw g f i2 S) := fun S q => lm_pw q (py_le hs (by omega)) (by omega)
  have e1 : pvc g f (i2 + 1) = pvc g f i2 + wcost ((g (f + i2)).getD 0) := rfl
  have e2 : ∀ S, pw g f (i2 + 1) S = itm ((g (f + i2)).getD 0) :: pw g f i2 S := fun _ => rfl
  rw [hk] at e1 e2
  have e3 : (some k).getD 0 = k := rfl
  rw [e3] at e1 e2
  refine pX_mono (pX_step (c := wcost k) h e (fun S hS => ⟨sS_3 ⟨pw g f i2 S, rfl, ?_⟩, hl S hS⟩) (wcost_b k).1) (Int.le_refl _) (by omega)
  rw [e2 S]
  unfold wcost itm
  by_cases q : k = 36
  · rw [if_pos q, if_pos q]
    exact Or.inl ⟨q, rfl, rfl⟩
  · rw [if_neg q, if_neg q]
    by_cases q' : k = 37
    · rw [if_pos q', if_pos q']
      exact Or.inr (Or.inl ⟨q', rfl, rfl⟩)
    · rw [if_neg q', if_neg q']
      exact Or.inr (Or.inr ⟨⟨by omega, q3⟩, rfl, rfl⟩)
theorem pX_push {B d d2 : Int} {l l1 : List pS} {a b : Nat → Option Nat} {f i i2 k : Nat} {w : Int32} (h : pX B (fun S => itm k :: pw a f i S) l l1 (d - pvc a f i + hcost k)) (e : b = va_up a w.toNatClampNeg (some k)) (hw : w.toInt = (f + i : Nat)) (h2 : i2 = i + 1) (hd : d + hcost k + wcost k ≤ d2) : pX B (fun S => pw b f i2 S) l l1 (d2 - pvc b f i2) := by
  subst h2
  have hk : wk (f + i : Nat) a b := wk_up e (by omega) (by omega)
  have hb : b (f + i) = some k := by
    have c := i32_clamp (x := w) (by omega)
    rw [e, show f + i = w.toNatClampNeg from by omega]
    exact va_us
  have e1 : pvc b f (i + 1) = pvc a f i + wcost k := by
    have : pvc b f (i + 1) = pvc b f i + wcost ((b (f + i)).getD 0) := rfl
    rw [this, pvc_wk hk i (Int.le_refl _), hb]
    rfl
  refine pX_mono (pX_eq h (fun S => ?_)) (Int.le_refl _) (by omega)
  have : pw b f (i + 1) S = itm ((b (f + i)).getD 0) :: pw b f i S := rfl
  rw [this, pw_wk hk i (Int.le_refl _), hb]
  rfl
theorem d_PR_settle_0 : decode b_PR_settle 0 = .ok (.aload_n 0, 1) := by decide +kernel
theorem d_PR_settle_1 : decode b_PR_settle 1 = .ok (.getfield 87, 3) := by decide +kernel
theorem d_PR_settle_4 : decode b_PR_settle 4 = .ok (.iload_n 1, 1) := by decide +kernel
theorem d_PR_settle_5 : decode b_PR_settle 5 = .ok (.if_icmp .le 59, 3) := by decide +kernel
theorem d_PR_settle_8 : decode b_PR_settle 8 = .ok (.aload_n 0, 1) := by decide +kernel
theorem d_PR_settle_9 : decode b_PR_settle 9 = .ok (.getfield 37, 3) := by decide +kernel
theorem d_PR_settle_12 : decode b_PR_settle 12 = .ok (.aload_n 0, 1) := by decide +kernel
theorem d_PR_settle_13 : decode b_PR_settle 13 = .ok (.getfield 87, 3) := by decide +kernel
theorem d_PR_settle_16 : decode b_PR_settle 16 = .ok (.iconst 1, 1) := by decide +kernel
theorem d_PR_settle_17 : decode b_PR_settle 17 = .ok (.isub, 1) := by decide +kernel
theorem d_PR_settle_18 : decode b_PR_settle 18 = .ok (.aaload, 1) := by decide +kernel
theorem d_PR_settle_19 : decode b_PR_settle 19 = .ok (.getfield 241, 3) := by decide +kernel
theorem d_PR_settle_22 : decode b_PR_settle 22 = .ok (.iload_n 2, 1) := by decide +kernel
theorem d_PR_settle_23 : decode b_PR_settle 23 = .ok (.if_icmp .lt 41, 3) := by decide +kernel
theorem d_PR_settle_26 : decode b_PR_settle 26 = .ok (.aload_n 0, 1) := by decide +kernel
theorem d_PR_settle_27 : decode b_PR_settle 27 = .ok (.dup, 1) := by decide +kernel
theorem d_PR_settle_28 : decode b_PR_settle 28 = .ok (.getfield 87, 3) := by decide +kernel
theorem d_PR_settle_31 : decode b_PR_settle 31 = .ok (.iconst 1, 1) := by decide +kernel
theorem d_PR_settle_32 : decode b_PR_settle 32 = .ok (.isub, 1) := by decide +kernel
theorem d_PR_settle_33 : decode b_PR_settle 33 = .ok (.putfield 87, 3) := by decide +kernel
theorem d_PR_settle_36 : decode b_PR_settle 36 = .ok (.aload_n 0, 1) := by decide +kernel
theorem d_PR_settle_37 : decode b_PR_settle 37 = .ok (.iconst 3, 1) := by decide +kernel
theorem d_PR_settle_38 : decode b_PR_settle 38 = .ok (.aload_n 0, 1) := by decide +kernel
theorem d_PR_settle_39 : decode b_PR_settle 39 = .ok (.getfield 37, 3) := by decide +kernel
theorem d_PR_settle_42 : decode b_PR_settle 42 = .ok (.aload_n 0, 1) := by decide +kernel
theorem d_PR_settle_43 : decode b_PR_settle 43 = .ok (.getfield 87, 3) := by decide +kernel
theorem d_PR_settle_46 : decode b_PR_settle 46 = .ok (.aaload, 1) := by decide +kernel
theorem d_PR_settle_47 : decode b_PR_settle 47 = .ok (.aload_n 0, 1) := by decide +kernel
theorem d_PR_settle_48 : decode b_PR_settle 48 = .ok (.getfield 40, 3) := by decide +kernel
theorem d_PR_settle_51 : decode b_PR_settle 51 = .ok (.aload_n 0, 1) := by decide +kernel
theorem d_PR_settle_52 : decode b_PR_settle 52 = .ok (.getfield 87, 3) := by decide +kernel
theorem d_PR_settle_55 : decode b_PR_settle 55 = .ok (.iaload, 1) := by decide +kernel
theorem d_PR_settle_56 : decode b_PR_settle 56 = .ok (.iconst 0, 1) := by decide +kernel
theorem d_PR_settle_57 : decode b_PR_settle 57 = .ok (.lconst 0, 1) := by decide +kernel
theorem d_PR_settle_58 : decode b_PR_settle 58 = .ok (.invokevirtual 187, 3) := by decide +kernel
theorem d_PR_settle_61 : decode b_PR_settle 61 = .ok (.goto (-61), 3) := by decide +kernel
theorem d_PR_settle_64 : decode b_PR_settle 64 = .ok (.return_, 1) := by decide +kernel
theorem kF_PR_241 : Cond.fieldLink R_PR 241 "WaferForge$Sign" "level" "I" ∈ lw_g := in_g 3114 (by decide +kernel) rfl
abbrev at_PR_settle (dC : Nat → ClassId) (dI : Nat → Nat → Nat) (sa : Nat → Nat) (h0 gl fu pa pf sf pk pg pp pz pv sc wg wp : Nat) (cpk cpg cpp cpz cpv cwg cwp : ClassId) (h0_reason : Int32) (h0_place : Int32) (h0_open : Int32) (h0_twoSides : Int32) (gwg : Nat → Option Nat) (gwp : Nat → Int32) (A : Nat → Prop) (u : (Nat → Option Nat) × (Nat → Int32) × (Nat → Int32) × (Nat → Int64) × (Nat → Int32) × Int32 × Int32) (t : State) : Prop := match u with | (gpg, gpk, gpp, gpv, gpz, h0_stepCount, h0_waitingCount) => va_P (dC, dI) cls [(h0, .inr (6, [.ref gl, .ref fu, .ref pa, .ref pf, .ref sf, .ref pk, .ref pg, .ref pp, .ref pz, .ref pv, .int h0_reason, .int h0_place, .ref sc, .int h0_stepCount, .int h0_open, .int h0_twoSides, .ref wg, .ref wp, .int h0_waitingCount])), (pk, .inl (cpk, 4100, .inl gpk)), (pg, .inl (cpg, 4100, .inr (.inr (.inr (.inr (fun j => (gpg j).map (sg sa))))))), (pp, .inl (cpp, 4100, .inl gpp)), (pz, .inl (cpz, 4100, .inl gpz)), (pv, .inl (cpv, 4100, .inr (.inl gpv))), (wg, .inl (cwg, 360, .inr (.inr (.inr (.inr (fun j => (gwg j).map (sg sa))))))), (wp, .inl (cwp, 360, .inl gwp))] t.heap ∧ va_K (dC, dI) cls [(cpk, .int), (cpg, .object "WaferForge$Sign"), (cpp, .int), (cpz, .int), (cpv, .long), (cwg, .object "WaferForge$Sign"), (cwp, .int)] t ∧ va_D A [(h0, .inr (6, [.ref gl, .ref fu, .ref pa, .ref pf, .ref sf, .ref pk, .ref pg, .ref pp, .ref pz, .ref pv, .int h0_reason, .int h0_place, .ref sc, .int h0_stepCount, .int h0_open, .int h0_twoSides, .ref wg, .ref wp, .int h0_waitingCount])), (pk, .inl (cpk, 4100, .inl gpk)), (pg, .inl (cpg, 4100, .inr (.inr (.inr (.inr (fun j => (gpg j).map (sg sa))))))), (pp, .inl (cpp, 4100, .inl gpp)), (pz, .inl (cpz, 4100, .inl gpz)), (pv, .inl (cpv, 4100, .inr (.inl gpv))), (wg, .inl (cwg, 360, .inr (.inr (.inr (.inr (fun j => (gwg j).map (sg sa))))))), (wp, .inl (cwp, 360, .inl gwp))]
set_option maxHeartbeats 4000000 in
set_option maxRecDepth 100000 in
theorem c_PR_settle (l : Launch) (dC : Nat → ClassId) (dI : Nat → Nat → Nat) (sz : Nat) (sa : Nat → Nat) (h0 gl fu pa pf sf pk pg pp pz pv sc wg wp : Nat) (cpk cpg cpp cpz cpv cwg cwp : ClassId) (h0_reason : Int32) (h0_place : Int32) (h0_stepCount : Int32) (h0_open : Int32) (h0_twoSides : Int32) (h0_waitingCount : Int32) (gpk : Nat → Int32) (gpg : Nat → Option Nat) (gpp : Nat → Int32) (gpz : Nat → Int32) (gpv : Nat → Int64) (gwg : Nat → Option Nat) (gwp : Nat → Int32) (gB : Int) (gD : Int) (gl0 : List pS)  (b_h0_stepCount : 0 ≤ h0_stepCount.toInt ∧ h0_stepCount.toInt ≤ 4100) (b_h0_waitingCount : 0 ≤ h0_waitingCount.toInt ∧ h0_waitingCount.toInt ≤ 360) (p0 : Int32) (p1 : Int32)  (hX : pX gB (fun S => 0 :: pw gwg p0.toInt.toNat (h0_waitingCount.toInt - p0.toInt).toNat S) gl0 (sl gpk gpg gpp gpz gpv h0_stepCount.toInt) (gD - pvc gwg p0.toInt.toNat (h0_waitingCount.toInt - p0.toInt).toNat)) (hpy : py gwg p0.toInt.toNat (h0_waitingCount.toInt - p0.toInt).toNat) (hfl : 0 ≤ p0.toInt ∧ p0.toInt ≤ h0_waitingCount.toInt ∧ h0_waitingCount.toInt ≤ p0.toInt + 7) (hgb : gB ≤ 670) (hgd : 10 * (gl0.length : Int) + gD ≤ 40900) : Met l y_PR_settle w_PR_settle ({ frames := 1, cells := 0, slots := 0, locals := 26 }) (va_Pc [.ref h0, .int p0, .int p1] (fun U => U.heap.size = sz ∧ va_P (dC, dI) cls [(h0, .inr (6, [.ref gl, .ref fu, .ref pa, .ref pf, .ref sf, .ref pk, .ref pg, .ref pp, .ref pz, .ref pv, .int h0_reason, .int h0_place, .ref sc, .int h0_stepCount, .int h0_open, .int h0_twoSides, .ref wg, .ref wp, .int h0_waitingCount])), (pk, .inl (cpk, 4100, .inl gpk)), (pg, .inl (cpg, 4100, .inr (.inr (.inr (.inr (fun j => (gpg j).map (sg sa))))))), (pp, .inl (cpp, 4100, .inl gpp)), (pz, .inl (cpz, 4100, .inl gpz)), (pv, .inl (cpv, 4100, .inr (.inl gpv))), (wg, .inl (cwg, 360, .inr (.inr (.inr (.inr (fun j => (gwg j).map (sg sa))))))), (wp, .inl (cwp, 360, .inl gwp))] U.heap ∧ va_K (dC, dI) cls [(cpk, .int), (cpg, .object "WaferForge$Sign"), (cpp, .int), (cpz, .int), (cpv, .long), (cwg, .object "WaferForge$Sign"), (cwp, .int)] U ∧ va_D (fun _ => True) [(h0, .inr (6, [.ref gl, .ref fu, .ref pa, .ref pf, .ref sf, .ref pk, .ref pg, .ref pp, .ref pz, .ref pv, .int h0_reason, .int h0_place, .ref sc, .int h0_stepCount, .int h0_open, .int h0_twoSides, .ref wg, .ref wp, .int h0_waitingCount])), (pk, .inl (cpk, 4100, .inl gpk)), (pg, .inl (cpg, 4100, .inr (.inr (.inr (.inr (fun j => (gpg j).map (sg sa))))))), (pp, .inl (cpp, 4100, .inl gpp)), (pz, .inl (cpz, 4100, .inl gpz)), (pv, .inl (cpv, 4100, .inr (.inl gpv))), (wg, .inl (cwg, 360, .inr (.inr (.inr (.inr (fun j => (gwg j).map (sg sa))))))), (wp, .inl (cwp, 360, .inl gwp))] ∧ sw sa (va_A [(h0, .inr (6, [.ref gl, .ref fu, .ref pa, .ref pf, .ref sf, .ref pk, .ref pg, .ref pp, .ref pz, .ref pv, .int h0_reason, .int h0_place, .ref sc, .int h0_stepCount, .int h0_open, .int h0_twoSides, .ref wg, .ref wp, .int h0_waitingCount])), (pk, .inl (cpk, 4100, .inl gpk)), (pg, .inl (cpg, 4100, .inr (.inr (.inr (.inr (fun j => (gpg j).map (sg sa))))))), (pp, .inl (cpp, 4100, .inl gpp)), (pz, .inl (cpz, 4100, .inl gpz)), (pv, .inl (cpv, 4100, .inr (.inl gpv))), (wg, .inl (cwg, 360, .inr (.inr (.inr (.inr (fun j => (gwg j).map (sg sa))))))), (wp, .inl (cwp, 360, .inl gwp))] sz) U U.heap)) (va_Qv (fun (u : (Nat → Option Nat) × (Nat → Int32) × (Nat → Int32) × (Nat → Int64) × (Nat → Int32) × Int32 × Int32) => match u with | (gpg2, gpk2, gpp2, gpv2, gpz2, h0_stepCount2, h0_waitingCount2) => (0 ≤ h0_stepCount2.toInt ∧ h0_stepCount2.toInt ≤ 4100) ∧ (0 ≤ h0_waitingCount2.toInt ∧ h0_waitingCount2.toInt ≤ 360) ∧ ((p0.toInt ≤ h0_waitingCount2.toInt ∧ h0_waitingCount2.toInt ≤ h0_waitingCount.toInt) ∧ (p0.toInt < h0_waitingCount2.toInt → ∃ k, gwg (h0_waitingCount2.toInt - 1).toNat = some k ∧ lvl k < p1.toInt) ∧ pX gB (fun S => 0 :: pw gwg p0.toInt.toNat (h0_waitingCount2.toInt - p0.toInt).toNat S) gl0 (sl gpk2 gpg2 gpp2 gpz2 gpv2 h0_stepCount2.toInt) (gD - pvc gwg p0.toInt.toNat (h0_waitingCount2.toInt - p0.toInt).toNat))) (at_PR_settle dC dI sa h0 gl fu pa pf sf pk pg pp pz pv sc wg wp cpk cpg cpp cpz cpv cwg cwp h0_reason h0_place h0_open h0_twoSides gwg gwp (va_A [(h0, .inr (6, [.ref gl, .ref fu, .ref pa, .ref pf, .ref sf, .ref pk, .ref pg, .ref pp, .ref pz, .ref pv, .int h0_reason, .int h0_place, .ref sc, .int h0_stepCount, .int h0_open, .int h0_twoSides, .ref wg, .ref wp, .int h0_waitingCount])), (pk, .inl (cpk, 4100, .inl gpk)), (pg, .inl (cpg, 4100, .inr (.inr (.inr (.inr (fun j => (gpg j).map (sg sa))))))), (pp, .inl (cpp, 4100, .inl gpp)), (pz, .inl (cpz, 4100, .inl gpz)), (pv, .inl (cpv, 4100, .inr (.inl gpv))), (wg, .inl (cwg, 360, .inr (.inr (.inr (.inr (fun j => (gwg j).map (sg sa))))))), (wp, .inl (cwp, 360, .inl gwp))] sz)) (va_A [(h0, .inr (6, [.ref gl, .ref fu, .ref pa, .ref pf, .ref sf, .ref pk, .ref pg, .ref pp, .ref pz, .ref pv, .int h0_reason, .int h0_place, .ref sc, .int h0_stepCount, .int h0_open, .int h0_twoSides, .ref wg, .ref wp, .int h0_waitingCount])), (pk, .inl (cpk, 4100, .inl gpk)), (pg, .inl (cpg, 4100, .inr (.inr (.inr (.inr (fun j => (gpg j).map (sg sa))))))), (pp, .inl (cpp, 4100, .inl gpp)), (pz, .inl (cpz, 4100, .inl gpz)), (pv, .inl (cpv, 4100, .inr (.inl gpv))), (wg, .inl (cwg, 360, .inr (.inr (.inr (.inr (fun j => (gwg j).map (sg sa))))))), (wp, .inl (cwp, 360, .inl gwp))] sz)) 0 0 (va_A [(h0, .inr (6, [.ref gl, .ref fu, .ref pa, .ref pf, .ref sf, .ref pk, .ref pg, .ref pp, .ref pz, .ref pv, .int h0_reason, .int h0_place, .ref sc, .int h0_stepCount, .int h0_open, .int h0_twoSides, .ref wg, .ref wp, .int h0_waitingCount])), (pk, .inl (cpk, 4100, .inl gpk)), (pg, .inl (cpg, 4100, .inr (.inr (.inr (.inr (fun j => (gpg j).map (sg sa))))))), (pp, .inl (cpp, 4100, .inl gpp)), (pz, .inl (cpz, 4100, .inl gpz)), (pv, .inl (cpv, 4100, .inr (.inl gpv))), (wg, .inl (cwg, 360, .inr (.inr (.inr (.inr (fun j => (gwg j).map (sg sa))))))), (wp, .inl (cwp, 360, .inl gwp))] sz) := by
  refine Met.ofW (cc := b_PR_settle) (maxL := 3) (ret := none) (by decide) rfl ?_
  intro p e s m args below meth c s₁ B hml hv
  obtain ⟨rfl, hsz, hP, hK, hD0, hSW⟩ := hv
  have hx := B.exec
  have hb := B.bytes
  have hr := B.returns
  have hts0 := atoms_spec (ws := w_PR_settle) B.pre
  have hts : ∀ w ∈ lw_g, w.before _ s = true := fun w h => hts0 w (List.mem_cons_of_mem _ h)
  have hown : s.vm.findClass R_PR = some m.cls := findClass_of_methodNamed B.named
  have hlocks := B.notSynchronized
  clear hts0
  subst hsz
  have hD := hD0.self (sz := s.heap.size)
  generalize hAe : va_A [(h0, .inr (6, [.ref gl, .ref fu, .ref pa, .ref pf, .ref sf, .ref pk, .ref pg, .ref pp, .ref pz, .ref pv, .int h0_reason, .int h0_place, .ref sc, .int h0_stepCount, .int h0_open, .int h0_twoSides, .ref wg, .ref wp, .int h0_waitingCount])), (pk, .inl (cpk, 4100, .inl gpk)), (pg, .inl (cpg, 4100, .inr (.inr (.inr (.inr (fun j => (gpg j).map (sg sa))))))), (pp, .inl (cpp, 4100, .inl gpp)), (pz, .inl (cpz, 4100, .inl gpz)), (pv, .inl (cpv, 4100, .inr (.inl gpv))), (wg, .inl (cwg, 360, .inr (.inr (.inr (.inr (fun j => (gwg j).map (sg sa))))))), (wp, .inl (cwp, 360, .inl gwp))] s.heap.size = A at hD hSW ⊢
  have hA : ∀ q : Nat, s.heap.size ≤ q → A q := fun q h => by rw [← hAe]; exact Or.inr h
  clear hAe
  have hP : va_P (dC, dI) cls [(h0, .inr (6, [.ref gl, .ref fu, .ref pa, .ref pf, .ref sf, .ref pk, .ref pg, .ref pp, .ref pz, .ref pv, .int h0_reason, .int h0_place, .ref sc, .int h0_stepCount, .int h0_open, .int h0_twoSides, .ref wg, .ref wp, .int h0_waitingCount])), (pk, .inl (cpk, 4100, .inl gpk)), (pg, .inl (cpg, 4100, .inr (.inr (.inr (.inr (fun j => (gpg j).map (sg sa))))))), (pp, .inl (cpp, 4100, .inl gpp)), (pz, .inl (cpz, 4100, .inl gpz)), (pv, .inl (cpv, 4100, .inr (.inl gpv))), (wg, .inl (cwg, 360, .inr (.inr (.inr (.inr (fun j => (gwg j).map (sg sa))))))), (wp, .inl (cwp, 360, .inl gwp))] s.heap := hP
  have hl := lv_entry ([.ref h0, .int p0, .int p1]) (n := 3) (Nat.le_of_ble_eq_true rfl)
  rw [lg_entry_eq]
  generalize (lg_sl ([.ref h0, .int p0, .int p1]) ++ List.replicate (3 - (lg_sl ([.ref h0, .int p0, .int p1])).length) Slot.unset).toArray = ls at hl ⊢
  have hl : lv_has ls 3 [(0, .ref h0), (1, .int p0), (2, .int p1)] := hl
  have k0 : (0 : Int32).toInt = 0 := by decide
  refine w_gen (A := A) hP (fun H locs hP hS => ?_)
  have k1 : (1 : Int32).toInt = 1 := by decide
  have k3 : (3 : Int32).toInt = 3 := by decide
  have lo_p0 := i32_lo p0
  have hi_p0 := i32_hi p0
  have lo_p1 := i32_lo p1
  have hi_p1 := i32_hi p1
  refine w_loop (σ := (Nat → Option Nat) × (Nat → Int32) × (Nat → Int32) × (Nat → Int64) × (Nat → Int32) × Int32 × Int32) (fun u H locs ls => match u with | (j0_pg, j0_pk, j0_pp, j0_pv, j0_pz, j0_h0_stepCount, j0_h0_waitingCount) => (0 ≤ j0_h0_stepCount.toInt ∧ j0_h0_stepCount.toInt ≤ 4100) ∧ (0 ≤ j0_h0_waitingCount.toInt ∧ j0_h0_waitingCount.toInt ≤ 360) ∧ (p0.toInt ≤ j0_h0_waitingCount.toInt ∧ j0_h0_waitingCount.toInt ≤ h0_waitingCount.toInt) ∧ (pX gB (fun S => 0 :: pw gwg p0.toInt.toNat (j0_h0_waitingCount.toInt - p0.toInt).toNat S) gl0 (sl j0_pk j0_pg j0_pp j0_pz j0_pv j0_h0_stepCount.toInt) (gD - pvc gwg p0.toInt.toNat (j0_h0_waitingCount.toInt - p0.toInt).toNat)) ∧ va_P (dC, dI) cls [(h0, .inr (6, [.ref gl, .ref fu, .ref pa, .ref pf, .ref sf, .ref pk, .ref pg, .ref pp, .ref pz, .ref pv, .int h0_reason, .int h0_place, .ref sc, .int j0_h0_stepCount, .int h0_open, .int h0_twoSides, .ref wg, .ref wp, .int j0_h0_waitingCount])), (pk, .inl (cpk, 4100, .inl j0_pk)), (pg, .inl (cpg, 4100, .inr (.inr (.inr (.inr (fun j => (j0_pg j).map (sg sa))))))), (pp, .inl (cpp, 4100, .inl j0_pp)), (pz, .inl (cpz, 4100, .inl j0_pz)), (pv, .inl (cpv, 4100, .inr (.inl j0_pv))), (wg, .inl (cwg, 360, .inr (.inr (.inr (.inr (fun j => (gwg j).map (sg sa))))))), (wp, .inl (cwp, 360, .inl gwp))] H ∧ va_D A [(h0, .inr (6, [.ref gl, .ref fu, .ref pa, .ref pf, .ref sf, .ref pk, .ref pg, .ref pp, .ref pz, .ref pv, .int h0_reason, .int h0_place, .ref sc, .int j0_h0_stepCount, .int h0_open, .int h0_twoSides, .ref wg, .ref wp, .int j0_h0_waitingCount])), (pk, .inl (cpk, 4100, .inl j0_pk)), (pg, .inl (cpg, 4100, .inr (.inr (.inr (.inr (fun j => (j0_pg j).map (sg sa))))))), (pp, .inl (cpp, 4100, .inl j0_pp)), (pz, .inl (cpz, 4100, .inl j0_pz)), (pv, .inl (cpv, 4100, .inr (.inl j0_pv))), (wg, .inl (cwg, 360, .inr (.inr (.inr (.inr (fun j => (gwg j).map (sg sa))))))), (wp, .inl (cwp, 360, .inl gwp))] ∧ va_S A s.heap H locs ∧ lv_has ls 3 [(0, .ref h0), (1, .int p0), (2, .int p1)]) (fun u => match u with | (j0_pg, j0_pk, j0_pp, j0_pv, j0_pz, j0_h0_stepCount, j0_h0_waitingCount) => (j0_h0_waitingCount.toInt - p0.toInt).toNat) ?_ (gpg, gpk, gpp, gpv, gpz, h0_stepCount, h0_waitingCount) ⟨b_h0_stepCount, b_h0_waitingCount, by (try dsimp only) <;> omega, hX, hP, hD, hS, lv_sub hl [0, 1, 2] rfl⟩
  intro N0 ih0 u H locs ls hN0 hI
  obtain ⟨j0_pg, j0_pk, j0_pp, j0_pv, j0_pz, j0_h0_stepCount, j0_h0_waitingCount⟩ := u
  obtain ⟨b_j0_h0_stepCount, b_j0_h0_waitingCount, v1, hX, hP, hD, hS, hl⟩ := hI
  have hN0 : (j0_h0_waitingCount.toInt - p0.toInt).toNat < N0 + 1 := hN0
  refine lv_aload_n hx hb d_PR_settle_0 rfl (lv_at hl 0 rfl) ?_
  refine va_get (D := (dC, dI)) (ci := 6) (v := .int j0_h0_waitingCount) (C := R_PR) (T := F_PR) (N := 19) hx hb hts i_PR hown hK hP 0 rfl rfl 18 (by decide) (hts _ kF_PR_87) (fun _ h9 => h9) rfl d_PR_settle_1 ?_
  refine lv_iload_n hx hb d_PR_settle_4 rfl (lv_at hl 1 rfl) ?_
  refine lv_icmp_le (tgt := 64) hx hb d_PR_settle_5 (by decide) (fun c5 => ?_) (fun c5 => ?_)
  · have q5 := leI c5
    have hP9 := hP.sub (ws' := [(h0, .inr (6, [.ref gl, .ref fu, .ref pa, .ref pf, .ref sf, .ref pk, .ref pg, .ref pp, .ref pz, .ref pv, .int h0_reason, .int h0_place, .ref sc, .int j0_h0_stepCount, .int h0_open, .int h0_twoSides, .ref wg, .ref wp, .int j0_h0_waitingCount])), (pk, .inl (cpk, 4100, .inl j0_pk)), (pg, .inl (cpg, 4100, .inr (.inr (.inr (.inr (fun j => (j0_pg j).map (sg sa))))))), (pp, .inl (cpp, 4100, .inl j0_pp)), (pz, .inl (cpz, 4100, .inl j0_pz)), (pv, .inl (cpv, 4100, .inr (.inl j0_pv))), (wg, .inl (cwg, 360, .inr (.inr (.inr (.inr (fun j => (gwg j).map (sg sa))))))), (wp, .inl (cwp, 360, .inl gwp))]) [0, 1, 2, 3, 4, 5, 6, 7] rfl
    have hD9 := hD.sub (ws' := [(h0, .inr (6, [.ref gl, .ref fu, .ref pa, .ref pf, .ref sf, .ref pk, .ref pg, .ref pp, .ref pz, .ref pv, .int h0_reason, .int h0_place, .ref sc, .int j0_h0_stepCount, .int h0_open, .int h0_twoSides, .ref wg, .ref wp, .int j0_h0_waitingCount])), (pk, .inl (cpk, 4100, .inl j0_pk)), (pg, .inl (cpg, 4100, .inr (.inr (.inr (.inr (fun j => (j0_pg j).map (sg sa))))))), (pp, .inl (cpp, 4100, .inl j0_pp)), (pz, .inl (cpz, 4100, .inl j0_pz)), (pv, .inl (cpv, 4100, .inr (.inl j0_pv))), (wg, .inl (cwg, 360, .inr (.inr (.inr (.inr (fun j => (gwg j).map (sg sa))))))), (wp, .inl (cwp, 360, .inl gwp))]) [0, 1, 2, 3, 4, 5, 6, 7] (by decide) rfl
    exact W.vret hx hb hr (fun t ht hW => ⟨⟨(j0_pg, j0_pk, j0_pp, j0_pv, j0_pz, j0_h0_stepCount, j0_h0_waitingCount), rfl, ⟨b_j0_h0_stepCount, b_j0_h0_waitingCount, ⟨by (try dsimp only) <;> omega, fun z => absurd z (by (try dsimp only) <;> omega), hX⟩⟩, by rw [ht]; exact hP9, va_K.moved hW.alike hK, hD9⟩, hS.F ht⟩) hS.2.2 d_PR_settle_64
  · have q5 := nleI c5
    refine lv_aload_n hx hb d_PR_settle_8 rfl (lv_at hl 0 rfl) ?_
    refine va_get (D := (dC, dI)) (ci := 6) (v := .ref wg) (C := R_PR) (T := F_PR) (N := 19) hx hb hts i_PR hown hK hP 0 rfl rfl 16 (by decide) (hts _ kF_PR_37) (fun _ h9 => h9) rfl d_PR_settle_9 ?_
    refine lv_aload_n hx hb d_PR_settle_12 rfl (lv_at hl 0 rfl) ?_
    refine va_get (D := (dC, dI)) (ci := 6) (v := .int j0_h0_waitingCount) (C := R_PR) (T := F_PR) (N := 19) hx hb hts i_PR hown hK hP 0 rfl rfl 18 (by decide) (hts _ kF_PR_87) (fun _ h9 => h9) rfl d_PR_settle_13 ?_
    refine lv_iconst (v := 1) hx hb d_PR_settle_16 (by decide) ?_
    refine lv_isub hx hb d_PR_settle_17 ?_
    refine lv_topi (fun x1 ex1 => ?_)
    have tx1 : x1.toInt = j0_h0_waitingCount.toInt - 1 := by have z := i32_sub ex1 (by omega) (by omega); omega
    have g18 : vp_in x1 360 := vp_in_iff.mpr ⟨by omega, by omega⟩
    obtain ⟨k2, hk2, ek2⟩ : ∃ z : Nat, z < 55 ∧ gwg x1.toNatClampNeg = some z := by obtain ⟨k9, h9, h8, h7, -⟩ := hpy (x1.toInt - p0.toInt).toNat (by omega); exact ⟨k9, h7, by rw [show x1.toNatClampNeg = p0.toInt.toNat + (x1.toInt - p0.toInt).toNat from by have := i32_clamp (x := x1) (by omega); omega]; exact h9⟩
    refine va_aldq hx hb hK hP 6 5 rfl rfl g18 d_PR_settle_18 ?_
    refine w_top (v2 := .ref (sg sa k2)) (by show va_rf ((gwg x1.toNatClampNeg).map (sg sa)) = _; rw [ek2]; rfl) ?_
    refine va_getE (i := k2) (q := ("WaferForge$Sign", "level", "I", sg_level)) hx hb hSW.2.2.2.1 hk2 hS hown (List.mem_of_getElem? (i := 1) rfl) (hts _ kF_PR_241) (fun _ h9 => h9) d_PR_settle_19 ?_
    refine lv_topi (fun x3 ex3 => ?_)
    have ex3 : x3 = sg_level.getD k2 0 := ex3
    refine lv_iload_n hx hb d_PR_settle_22 rfl (lv_at hl 2 rfl) ?_
    refine lv_icmp_lt (tgt := 64) hx hb d_PR_settle_23 (by decide) (fun c23 => ?_) (fun c23 => ?_)
    · have q23 := ltI c23
      have hP9 := hP.sub (ws' := [(h0, .inr (6, [.ref gl, .ref fu, .ref pa, .ref pf, .ref sf, .ref pk, .ref pg, .ref pp, .ref pz, .ref pv, .int h0_reason, .int h0_place, .ref sc, .int j0_h0_stepCount, .int h0_open, .int h0_twoSides, .ref wg, .ref wp, .int j0_h0_waitingCount])), (pk, .inl (cpk, 4100, .inl j0_pk)), (pg, .inl (cpg, 4100, .inr (.inr (.inr (.inr (fun j => (j0_pg j).map (sg sa))))))), (pp, .inl (cpp, 4100, .inl j0_pp)), (pz, .inl (cpz, 4100, .inl j0_pz)), (pv, .inl (cpv, 4100, .inr (.inl j0_pv))), (wg, .inl (cwg, 360, .inr (.inr (.inr (.inr (fun j => (gwg j).map (sg sa))))))), (wp, .inl (cwp, 360, .inl gwp))]) [0, 1, 2, 3, 4, 5, 6, 7] rfl
      have hD9 := hD.sub (ws' := [(h0, .inr (6, [.ref gl, .ref fu, .ref pa, .ref pf, .ref sf, .ref pk, .ref pg, .ref pp, .ref pz, .ref pv, .int h0_reason, .int h0_place, .ref sc, .int j0_h0_stepCount, .int h0_open, .int h0_twoSides, .ref wg, .ref wp, .int j0_h0_waitingCount])), (pk, .inl (cpk, 4100, .inl j0_pk)), (pg, .inl (cpg, 4100, .inr (.inr (.inr (.inr (fun j => (j0_pg j).map (sg sa))))))), (pp, .inl (cpp, 4100, .inl j0_pp)), (pz, .inl (cpz, 4100, .inl j0_pz)), (pv, .inl (cpv, 4100, .inr (.inl j0_pv))), (wg, .inl (cwg, 360, .inr (.inr (.inr (.inr (fun j => (gwg j).map (sg sa))))))), (wp, .inl (cwp, 360, .inl gwp))]) [0, 1, 2, 3, 4, 5, 6, 7] (by decide) rfl
      exact W.vret hx hb hr (fun t ht hW => ⟨⟨(j0_pg, j0_pk, j0_pp, j0_pv, j0_pz, j0_h0_stepCount, j0_h0_waitingCount), rfl, ⟨b_j0_h0_stepCount, b_j0_h0_waitingCount, ⟨by (try dsimp only) <;> omega, fun _ => ⟨k2, by rw [show (j0_h0_waitingCount.toInt - 1).toNat = x1.toNatClampNeg from by have := i32_clamp (x := x1) (by omega); omega]; exact ek2, by rw [show lvl k2 = x3.toInt from by rw [ex3]; rfl]; omega⟩, hX⟩⟩, by rw [ht]; exact hP9, va_K.moved hW.alike hK, hD9⟩, hS.F ht⟩) hS.2.2 d_PR_settle_64
    · have q23 := nltI c23
      refine lv_aload_n hx hb d_PR_settle_26 rfl (lv_at hl 0 rfl) ?_
      refine lv_dup hx hb d_PR_settle_27 rfl ?_
      refine va_get (D := (dC, dI)) (ci := 6) (v := .int j0_h0_waitingCount) (C := R_PR) (T := F_PR) (N := 19) hx hb hts i_PR hown hK hP 0 rfl rfl 18 (by decide) (hts _ kF_PR_87) (fun _ h9 => h9) rfl d_PR_settle_28 ?_
      refine lv_iconst (v := 1) hx hb d_PR_settle_31 (by decide) ?_
      refine lv_isub hx hb d_PR_settle_32 ?_
      refine lv_topi (fun x4 ex4 => ?_)
      have tx4 : x4.toInt = j0_h0_waitingCount.toInt - 1 := by have z := i32_sub ex4 (by omega) (by omega); omega
      refine va_put (D := (dC, dI)) (ci := 6) (v := .int x4) (ty := .int) (C := R_PR) (T := F_PR) (N := 19) hx hb hts i_PR t_PR t_PR_ok n_PR hown hK hP hD hS 0 rfl rfl 18 (by decide) (hts _ kF_PR_87) (fun _ h9 => h9) rfl (by decide +kernel) rfl rfl (Nat.le_of_ble_eq_true rfl) d_PR_settle_33 (fun H locs hP hD hS => ?_)
      refine lv_aload_n hx hb d_PR_settle_36 rfl (lv_at hl 0 rfl) ?_
      refine lv_iconst (v := 3) hx hb d_PR_settle_37 (by decide) ?_
      refine lv_aload_n hx hb d_PR_settle_38 rfl (lv_at hl 0 rfl) ?_
      refine va_get (D := (dC, dI)) (ci := 6) (v := .ref wg) (C := R_PR) (T := F_PR) (N := 19) hx hb hts i_PR hown hK hP 0 rfl rfl 16 (by decide) (hts _ kF_PR_37) (fun _ h9 => h9) rfl d_PR_settle_39 ?_
      refine lv_aload_n hx hb d_PR_settle_42 rfl (lv_at hl 0 rfl) ?_
      refine va_get (D := (dC, dI)) (ci := 6) (v := .int x4) (C := R_PR) (T := F_PR) (N := 19) hx hb hts i_PR hown hK hP 0 rfl rfl 18 (by decide) (hts _ kF_PR_87) (fun _ h9 => h9) rfl d_PR_settle_43 ?_
      have g46 : vp_in x4 360 := vp_in_iff.mpr ⟨by omega, by omega⟩
      obtain ⟨k5, hk5, ek5⟩ : ∃ z : Nat, z < 55 ∧ gwg x4.toNatClampNeg = some z := by obtain ⟨k9, h9, h8, h7, -⟩ := hpy (x4.toInt - p0.toInt).toNat (by omega); exact ⟨k9, h7, by rw [show x4.toNatClampNeg = p0.toInt.toNat + (x4.toInt - p0.toInt).toNat from by have := i32_clamp (x := x4) (by omega); omega]; exact h9⟩
      refine va_aldq hx hb hK hP 6 5 rfl rfl g46 d_PR_settle_46 ?_
      refine w_top (v2 := .ref (sg sa k5)) (by show va_rf ((gwg x4.toNatClampNeg).map (sg sa)) = _; rw [ek5]; rfl) ?_
      refine lv_aload_n hx hb d_PR_settle_47 rfl (lv_at hl 0 rfl) ?_
      refine va_get (D := (dC, dI)) (ci := 6) (v := .ref wp) (C := R_PR) (T := F_PR) (N := 19) hx hb hts i_PR hown hK hP 0 rfl rfl 17 (by decide) (hts _ kF_PR_40) (fun _ h9 => h9) rfl d_PR_settle_48 ?_
      refine lv_aload_n hx hb d_PR_settle_51 rfl (lv_at hl 0 rfl) ?_
      refine va_get (D := (dC, dI)) (ci := 6) (v := .int x4) (C := R_PR) (T := F_PR) (N := 19) hx hb hts i_PR hown hK hP 0 rfl rfl 18 (by decide) (hts _ kF_PR_87) (fun _ h9 => h9) rfl d_PR_settle_52 ?_
      have g55 : vp_in x4 360 := vp_in_iff.mpr ⟨by omega, by omega⟩
      refine va_iald hx hb hK hP 7 6 rfl rfl g55 d_PR_settle_55 ?_
      refine lv_topi (fun x6 ex6 => ?_)
      refine lv_iconst (v := 0) hx hb d_PR_settle_56 (by decide) ?_
      refine lv_lconst (v := 0) hx hb d_PR_settle_57 (by decide) ?_
      have kl0 : (0 : Int64).toInt = 0 := by decide
      have y9 := pX_len hX
      rw [sl_len] at y9
      have v9 := pvc_pos (g := gwg) (f := p0.toInt.toNat) (j0_h0_waitingCount.toInt - p0.toInt).toNat
      have hPc := hP.sub (ws' := [(h0, .inr (6, [.ref gl, .ref fu, .ref pa, .ref pf, .ref sf, .ref pk, .ref pg, .ref pp, .ref pz, .ref pv, .int h0_reason, .int h0_place, .ref sc, .int j0_h0_stepCount, .int h0_open, .int h0_twoSides, .ref wg, .ref wp, .int x4])), (pk, .inl (cpk, 4100, .inl j0_pk)), (pg, .inl (cpg, 4100, .inr (.inr (.inr (.inr (fun j => (j0_pg j).map (sg sa))))))), (pp, .inl (cpp, 4100, .inl j0_pp)), (pz, .inl (cpz, 4100, .inl j0_pz)), (pv, .inl (cpv, 4100, .inr (.inl j0_pv)))]) [0, 1, 2, 3, 4, 5] rfl
      have hDc := hD.sub (ws' := [(h0, .inr (6, [.ref gl, .ref fu, .ref pa, .ref pf, .ref sf, .ref pk, .ref pg, .ref pp, .ref pz, .ref pv, .int h0_reason, .int h0_place, .ref sc, .int j0_h0_stepCount, .int h0_open, .int h0_twoSides, .ref wg, .ref wp, .int x4])), (pk, .inl (cpk, 4100, .inl j0_pk)), (pg, .inl (cpg, 4100, .inr (.inr (.inr (.inr (fun j => (j0_pg j).map (sg sa))))))), (pp, .inl (cpp, 4100, .inl j0_pp)), (pz, .inl (cpz, 4100, .inl j0_pz)), (pv, .inl (cpv, 4100, .inr (.inl j0_pv)))]) [0, 1, 2, 3, 4, 5] (by decide) rfl
      have hKc := hK.sub (tys' := [(cpk, .int), (cpg, .object "WaferForge$Sign"), (cpp, .int), (cpz, .int), (cpv, .long)]) [0, 1, 2, 3, 4] rfl
      have hFc := va_free (wc := [(h0, .inr (6, [.ref gl, .ref fu, .ref pa, .ref pf, .ref sf, .ref pk, .ref pg, .ref pp, .ref pz, .ref pv, .int h0_reason, .int h0_place, .ref sc, .int j0_h0_stepCount, .int h0_open, .int h0_twoSides, .ref wg, .ref wp, .int x4])), (pk, .inl (cpk, 4100, .inl j0_pk)), (pg, .inl (cpg, 4100, .inr (.inr (.inr (.inr (fun j => (j0_pg j).map (sg sa))))))), (pp, .inl (cpp, 4100, .inl j0_pp)), (pz, .inl (cpz, 4100, .inl j0_pz)), (pv, .inl (cpv, 4100, .inr (.inl j0_pv)))]) hD hS hA [0, 1, 2, 3, 4, 5] rfl
      refine va_callv (va_runV (As := [.int 3, .ref (sg sa k5), .int x6, .int 0, .long 0]) (rest := []) ⟨hx, hb, hml, hown, hts⟩ (c_PR_add l dC dI H.size sa h0 gl fu pa pf sf pk pg pp pz pv sc wg wp cpk cpg cpp cpz cpv h0_reason h0_place j0_h0_stepCount h0_open h0_twoSides x4 j0_pk j0_pg j0_pp j0_pz j0_pv (b_j0_h0_stepCount) 3 k5 x6 0 0 (hk5) (by (try dsimp only) <;> omega)) (cwV 5 hts (gV kM_PR_187 kV_PR_add kS_PR_add kI_PR kC_PR_add) rfl rfl rfl (by decide +kernel) ⟨Nat.le_of_ble_eq_true rfl, Nat.le_of_ble_eq_true rfl⟩) ⟨fun a U g mk z => by obtain ⟨z0, z1, zP, zK, zD, zS⟩ := z; exact ⟨z0, z1, zP, va_K.moved (u := U) (U := U.calling g mk a) (Vm.Alike.refl U.vm) zK, zD, sw.same (u := U) (U := U.calling g mk a) rfl zS⟩, va_recv hKc hPc (ci := 6) (q0 := 0) rfl rfl, fun U hU hW => ⟨rfl, by rw [hU], by rw [hU]; exact hPc, va_K.moved hW.alike hKc, hDc.weaken (fun _ _ _ _ => trivial), hSW.call hS hFc hW hU⟩⟩ rfl rfl hl.1 rfl (lv_room (Nat.le_of_ble_eq_true rfl)) d_PR_settle_58 ⟨(Nat.zero_le _), (Nat.zero_le _)⟩) hS (fun q _ h => hFc q h) hFc (fun u t H1 locs ht hvm hw hB hz1 hk1 hS => ?_)
      obtain ⟨n8, n9, n10, n11, n12, n13⟩ := u
      try dsimp only at hw
      obtain ⟨bn13, xr7⟩ := hw
      try clear hw
      have sr7 := xr7.1
      have Lr7 := xr7.2
      clear xr7
      obtain ⟨hP1, hK1, hD1⟩ := hB
      rw [ht] at hP1
      obtain ⟨hP, hD⟩ := va_join (wr := [(wg, .inl (cwg, 360, .inr (.inr (.inr (.inr (fun j => (gwg j).map (sg sa))))))), (wp, .inl (cwp, 360, .inl gwp))]) (w1 := [(h0, .inr (6, [.ref gl, .ref fu, .ref pa, .ref pf, .ref sf, .ref pk, .ref pg, .ref pp, .ref pz, .ref pv, .int h0_reason, .int h0_place, .ref sc, .int n13, .int h0_open, .int h0_twoSides, .ref wg, .ref wp, .int x4])), (pk, .inl (cpk, 4100, .inl n9)), (pg, .inl (cpg, 4100, .inr (.inr (.inr (.inr (fun j => (n8 j).map (sg sa))))))), (pp, .inl (cpp, 4100, .inl n10)), (pz, .inl (cpz, 4100, .inl n12)), (pv, .inl (cpv, 4100, .inr (.inl n11)))]) hP hD [0, 1, 2, 3, 4, 5] [6, 7] rfl rfl (by decide) (by decide) hk1 hFc hP1 hD1
      clear hPc hDc hKc hFc hz1 hk1 hP1 hK1 hD1
      generalize H1 = H at hP hS ⊢
      have hP : va_P (dC, dI) cls [(wg, .inl (cwg, 360, .inr (.inr (.inr (.inr (fun j => (gwg j).map (sg sa))))))), (wp, .inl (cwp, 360, .inl gwp)), (h0, .inr (6, [.ref gl, .ref fu, .ref pa, .ref pf, .ref sf, .ref pk, .ref pg, .ref pp, .ref pz, .ref pv, .int h0_reason, .int h0_place, .ref sc, .int n13, .int h0_open, .int h0_twoSides, .ref wg, .ref wp, .int x4])), (pk, .inl (cpk, 4100, .inl n9)), (pg, .inl (cpg, 4100, .inr (.inr (.inr (.inr (fun j => (n8 j).map (sg sa))))))), (pp, .inl (cpp, 4100, .inl n10)), (pz, .inl (cpz, 4100, .inl n12)), (pv, .inl (cpv, 4100, .inr (.inl n11)))] H := hP
      have hD : va_D A [(wg, .inl (cwg, 360, .inr (.inr (.inr (.inr (fun j => (gwg j).map (sg sa))))))), (wp, .inl (cwp, 360, .inl gwp)), (h0, .inr (6, [.ref gl, .ref fu, .ref pa, .ref pf, .ref sf, .ref pk, .ref pg, .ref pp, .ref pz, .ref pv, .int h0_reason, .int h0_place, .ref sc, .int n13, .int h0_open, .int h0_twoSides, .ref wg, .ref wp, .int x4])), (pk, .inl (cpk, 4100, .inl n9)), (pg, .inl (cpg, 4100, .inr (.inr (.inr (.inr (fun j => (n8 j).map (sg sa))))))), (pp, .inl (cpp, 4100, .inl n10)), (pz, .inl (cpz, 4100, .inl n12)), (pv, .inl (cpv, 4100, .inr (.inl n11)))] := hD
      refine lv_goto (tgt := 0) hx hb d_PR_settle_61 (by decide) ?_
      have h46 : gwg (p0.toInt.toNat + (x4.toInt - p0.toInt).toNat) = some k5 := by have := i32_clamp (x := x4) (by omega); rw [show p0.toInt.toNat + (x4.toInt - p0.toInt).toNat = x4.toNatClampNeg from by omega]; exact ek5
      have hX8 := pX_two (i2 := (x4.toInt - p0.toInt).toNat) hX Lr7 (by omega) h46 (py_le hpy (by omega)) (by omega)
      exact ih0 (n8, n9, n10, n11, n12, n13, x4) _ _ _ (by show (x4.toInt - p0.toInt).toNat < N0; omega) ⟨bn13, by (try dsimp only) <;> omega, by (try dsimp only) <;> omega, hX8, hP.sub [2, 3, 4, 5, 6, 7, 0, 1] rfl, hD.sub [2, 3, 4, 5, 6, 7, 0, 1] (by decide) rfl, hS, lv_sub hl [0, 1, 2] rfl⟩
