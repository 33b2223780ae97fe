/-! Coder: a function's code is kept: runs of locals -/
def rb : List (Nat × Nat) → List Nat
  | [] => []
  | r :: R => r.1 :: r.2 :: rb R
theorem rb_app {a b : List (Nat × Nat)} : rb (a ++ b) = rb a ++ rb b := by
  induction a with
  | nil => rfl
  | cons r a ih =>
    show r.1 :: r.2 :: rb (a ++ b) = r.1 :: r.2 :: (rb a ++ rb b)
    rw [ih]
theorem rb_len {R : List (Nat × Nat)} : (rb R).length = 2 * R.length := by
  induction R with
  | nil => rfl
  | cons r R ih =>
    show (rb R).length + 1 + 1 = 2 * (R.length + 1)
    omega
def rsum : List (Nat × Nat) → Nat
  | [] => 0
  | r :: R => r.1 + rsum R
theorem rsum_app {a b : List (Nat × Nat)} : rsum (a ++ b) = rsum a + rsum b := by
  induction a with
  | nil => exact (Nat.zero_add _).symm
  | cons r a ih =>
    show r.1 + rsum (a ++ b) = r.1 + rsum a + rsum b
    omega
def rok (R : List (Nat × Nat)) : Prop := ∀ r ∈ R, 1 ≤ r.1 ∧ r.1 ≤ 50 ∧ (r.2 = 127 ∨ r.2 = 126)
/-- how many runs begin at p, p + 1, .., before p + k -/
def rst (lt : Nat → Int32) (p : Nat) : Nat → Nat
  | 0 => 0
  | k + 1 => rst lt p k + if k = 0 ∨ lt (p + k) ≠ lt (p + k - 1) then 1 else 0
theorem rst_le {lt : Nat → Int32} {p : Nat} : ∀ k, rst lt p k ≤ k := by
  intro k
  induction k with
  | zero => exact Nat.le_refl _
  | succ k ih =>
    show rst lt p k + _ ≤ k + 1
    split <;> omega
/-- so far k locals are seen: R of them in whole runs, the last n in a run that goes on -/
def rI (lt : Nat → Int32) (p k n m : Nat) (R : List (Nat × Nat)) : Prop :=
  rok R ∧ rsum R + n = k ∧ R.length + (if n = 0 then 0 else 1) = rst lt p k ∧ (k < m → (n = 0 ↔ (k = 0 ∨ lt (p + k) ≠ lt (p + k - 1)))) ∧ (m ≤ k → n = 0)
theorem rI_0 {lt : Nat → Int32} {p m : Nat} : rI lt p 0 0 m [] := ⟨fun r h => (by cases h), rfl, rfl, fun _ => ⟨fun _ => Or.inl rfl, fun _ => rfl⟩, fun _ => rfl⟩
theorem rI_on {lt : Nat → Int32} {p k n m : Nat} {R : List (Nat × Nat)} (h : rI lt p k n m R) (hk : k + 1 < m) (he : lt (p + (k + 1)) = lt (p + k)) : rI lt p (k + 1) (n + 1) m R := by
  obtain ⟨a1, a2, a3, a4, a5⟩ := h
  have q := a4 (by omega)
  refine ⟨a1, by omega, ?_, fun _ => ⟨fun z => by omega, fun z => ?_⟩, fun z => by omega⟩
  · rw [if_neg (by omega)]
    show R.length + 1 = rst lt p k + _
    by_cases z : n = 0
    · rw [if_pos z] at a3
      rw [if_pos (q.mp z)]
      omega
    · rw [if_neg z] at a3
      rw [if_neg (fun w => z (q.mpr w))]
      omega
  · rcases z with z | z
    · omega
    · exact absurd he z
theorem rI_end {lt : Nat → Int32} {p k n m t : Nat} {R : List (Nat × Nat)} (h : rI lt p k n m R) (hk : k < m) (hm : m ≤ 50) (he : k + 1 = m ∨ lt (p + (k + 1)) ≠ lt (p + k)) (ht : t = 127 ∨ t = 126) : rI lt p (k + 1) 0 m (R ++ [(n + 1, t)]) := by
  obtain ⟨a1, a2, a3, a4, a5⟩ := h
  have q := a4 hk
  refine ⟨fun r hr => ?_, ?_, ?_, fun z => ⟨fun _ => ?_, fun _ => rfl⟩, fun _ => rfl⟩
  · rcases List.mem_append.mp hr with w | w
    · exact a1 r w
    · rw [List.mem_singleton.mp w]
      exact ⟨by dsimp only; omega, by dsimp only; omega, ht⟩
  · rw [rsum_app]
    show rsum R + (n + 1 + 0) + 0 = k + 1
    omega
  · rw [List.length_append, List.length_singleton, if_pos rfl]
    show R.length + 1 + 0 = rst lt p k + _
    by_cases z : n = 0
    · rw [if_pos z] at a3
      rw [if_pos (q.mp z)]
      omega
    · rw [if_neg z] at a3
      rw [if_neg (fun w => z (q.mpr w))]
      omega
  · rcases he with w | w
    · omega
    · exact Or.inr w
theorem leb_2 {k v : Nat} (h : v < 16384) : (leb (k + 1) v).length ≤ 2 := by
  by_cases q : v / 128 = 0
  · rw [leb_end q, List.length_singleton]
    omega
  · rw [leb_go q, List.length_cons, leb_end (by omega), List.length_singleton]
    omega
abbrev b_CO_keepCode : ByteArray := prog_4_method_20_code
def y_CO_keepCode : MethodName := ⟨R_CO, "keepCode", "(I)V"⟩
abbrev w_CO_keepCode : List Cond := .code y_CO_keepCode b_CO_keepCode 5 none :: lw_g
theorem kC_CO_keepCode : Cond.code y_CO_keepCode b_CO_keepCode 5 none ∈ lw_g := in_g 1216 (by decide +kernel) rfl
theorem d_CO_keepCode_0 : decode b_CO_keepCode 0 = .ok (.iconst 0, 1) := by decide +kernel
theorem d_CO_keepCode_1 : decode b_CO_keepCode 1 = .ok (.istore_n 2, 1) := by decide +kernel
theorem d_CO_keepCode_2 : decode b_CO_keepCode 2 = .ok (.iload_n 1, 1) := by decide +kernel
theorem d_CO_keepCode_3 : decode b_CO_keepCode 3 = .ok (.istore_n 3, 1) := by decide +kernel
theorem d_CO_keepCode_4 : decode b_CO_keepCode 4 = .ok (.iload_n 3, 1) := by decide +kernel
theorem d_CO_keepCode_5 : decode b_CO_keepCode 5 = .ok (.aload_n 0, 1) := by decide +kernel
theorem d_CO_keepCode_6 : decode b_CO_keepCode 6 = .ok (.getfield 109, 3) := by decide +kernel
theorem d_CO_keepCode_9 : decode b_CO_keepCode 9 = .ok (.if_icmp .ge 34, 3) := by decide +kernel
theorem d_CO_keepCode_12 : decode b_CO_keepCode 12 = .ok (.iload_n 3, 1) := by decide +kernel
theorem d_CO_keepCode_13 : decode b_CO_keepCode 13 = .ok (.iload_n 1, 1) := by decide +kernel
theorem d_CO_keepCode_14 : decode b_CO_keepCode 14 = .ok (.if_icmp .eq 20, 3) := by decide +kernel
theorem d_CO_keepCode_17 : decode b_CO_keepCode 17 = .ok (.aload_n 0, 1) := by decide +kernel
theorem d_CO_keepCode_18 : decode b_CO_keepCode 18 = .ok (.getfield 9, 3) := by decide +kernel
theorem d_CO_keepCode_21 : decode b_CO_keepCode 21 = .ok (.iload_n 3, 1) := by decide +kernel
theorem d_CO_keepCode_22 : decode b_CO_keepCode 22 = .ok (.iaload, 1) := by decide +kernel
theorem d_CO_keepCode_23 : decode b_CO_keepCode 23 = .ok (.aload_n 0, 1) := by decide +kernel
theorem d_CO_keepCode_24 : decode b_CO_keepCode 24 = .ok (.getfield 9, 3) := by decide +kernel
theorem d_CO_keepCode_27 : decode b_CO_keepCode 27 = .ok (.iload_n 3, 1) := by decide +kernel
theorem d_CO_keepCode_28 : decode b_CO_keepCode 28 = .ok (.iconst 1, 1) := by decide +kernel
theorem d_CO_keepCode_29 : decode b_CO_keepCode 29 = .ok (.isub, 1) := by decide +kernel
theorem d_CO_keepCode_30 : decode b_CO_keepCode 30 = .ok (.iaload, 1) := by decide +kernel
theorem d_CO_keepCode_31 : decode b_CO_keepCode 31 = .ok (.if_icmp .eq 6, 3) := by decide +kernel
theorem d_CO_keepCode_34 : decode b_CO_keepCode 34 = .ok (.iinc 2 1, 3) := by decide +kernel
theorem d_CO_keepCode_37 : decode b_CO_keepCode 37 = .ok (.iinc 3 1, 3) := by decide +kernel
theorem d_CO_keepCode_40 : decode b_CO_keepCode 40 = .ok (.goto (-36), 3) := by decide +kernel
theorem d_CO_keepCode_43 : decode b_CO_keepCode 43 = .ok (.aload_n 0, 1) := by decide +kernel
theorem d_CO_keepCode_44 : decode b_CO_keepCode 44 = .ok (.getfield 33, 3) := by decide +kernel
theorem d_CO_keepCode_47 : decode b_CO_keepCode 47 = .ok (.iconst 0, 1) := by decide +kernel
theorem d_CO_keepCode_48 : decode b_CO_keepCode 48 = .ok (.putfield 64, 3) := by decide +kernel
theorem d_CO_keepCode_51 : decode b_CO_keepCode 51 = .ok (.aload_n 0, 1) := by decide +kernel
theorem d_CO_keepCode_52 : decode b_CO_keepCode 52 = .ok (.getfield 33, 3) := by decide +kernel
theorem d_CO_keepCode_55 : decode b_CO_keepCode 55 = .ok (.iload_n 2, 1) := by decide +kernel
theorem d_CO_keepCode_56 : decode b_CO_keepCode 56 = .ok (.invokevirtual 218, 3) := by decide +kernel
theorem d_CO_keepCode_59 : decode b_CO_keepCode 59 = .ok (.iconst 0, 1) := by decide +kernel
theorem d_CO_keepCode_60 : decode b_CO_keepCode 60 = .ok (.istore_n 3, 1) := by decide +kernel
theorem d_CO_keepCode_61 : decode b_CO_keepCode 61 = .ok (.iload_n 1, 1) := by decide +kernel
theorem d_CO_keepCode_62 : decode b_CO_keepCode 62 = .ok (.istore 4, 2) := by decide +kernel
theorem d_CO_keepCode_64 : decode b_CO_keepCode 64 = .ok (.iload 4, 2) := by decide +kernel
theorem d_CO_keepCode_66 : decode b_CO_keepCode 66 = .ok (.aload_n 0, 1) := by decide +kernel
theorem d_CO_keepCode_67 : decode b_CO_keepCode 67 = .ok (.getfield 109, 3) := by decide +kernel
theorem d_CO_keepCode_70 : decode b_CO_keepCode 70 = .ok (.if_icmp .ge 66, 3) := by decide +kernel
theorem d_CO_keepCode_73 : decode b_CO_keepCode 73 = .ok (.iinc 3 1, 3) := by decide +kernel
theorem d_CO_keepCode_76 : decode b_CO_keepCode 76 = .ok (.iload 4, 2) := by decide +kernel
theorem d_CO_keepCode_78 : decode b_CO_keepCode 78 = .ok (.iconst 1, 1) := by decide +kernel
theorem d_CO_keepCode_79 : decode b_CO_keepCode 79 = .ok (.iadd, 1) := by decide +kernel
theorem d_CO_keepCode_80 : decode b_CO_keepCode 80 = .ok (.aload_n 0, 1) := by decide +kernel
theorem d_CO_keepCode_81 : decode b_CO_keepCode 81 = .ok (.getfield 109, 3) := by decide +kernel
theorem d_CO_keepCode_84 : decode b_CO_keepCode 84 = .ok (.if_icmp .eq 22, 3) := by decide +kernel
theorem d_CO_keepCode_87 : decode b_CO_keepCode 87 = .ok (.aload_n 0, 1) := by decide +kernel
theorem d_CO_keepCode_88 : decode b_CO_keepCode 88 = .ok (.getfield 9, 3) := by decide +kernel
theorem d_CO_keepCode_91 : decode b_CO_keepCode 91 = .ok (.iload 4, 2) := by decide +kernel
theorem d_CO_keepCode_93 : decode b_CO_keepCode 93 = .ok (.iconst 1, 1) := by decide +kernel
theorem d_CO_keepCode_94 : decode b_CO_keepCode 94 = .ok (.iadd, 1) := by decide +kernel
theorem d_CO_keepCode_95 : decode b_CO_keepCode 95 = .ok (.iaload, 1) := by decide +kernel
theorem d_CO_keepCode_96 : decode b_CO_keepCode 96 = .ok (.aload_n 0, 1) := by decide +kernel
theorem d_CO_keepCode_97 : decode b_CO_keepCode 97 = .ok (.getfield 9, 3) := by decide +kernel
theorem d_CO_keepCode_100 : decode b_CO_keepCode 100 = .ok (.iload 4, 2) := by decide +kernel
theorem d_CO_keepCode_102 : decode b_CO_keepCode 102 = .ok (.iaload, 1) := by decide +kernel
theorem d_CO_keepCode_103 : decode b_CO_keepCode 103 = .ok (.if_icmp .eq 27, 3) := by decide +kernel
theorem d_CO_keepCode_106 : decode b_CO_keepCode 106 = .ok (.aload_n 0, 1) := by decide +kernel
theorem d_CO_keepCode_107 : decode b_CO_keepCode 107 = .ok (.getfield 33, 3) := by decide +kernel
theorem d_CO_keepCode_110 : decode b_CO_keepCode 110 = .ok (.iload_n 3, 1) := by decide +kernel
theorem d_CO_keepCode_111 : decode b_CO_keepCode 111 = .ok (.invokevirtual 218, 3) := by decide +kernel
theorem d_CO_keepCode_114 : decode b_CO_keepCode 114 = .ok (.aload_n 0, 1) := by decide +kernel
theorem d_CO_keepCode_115 : decode b_CO_keepCode 115 = .ok (.getfield 33, 3) := by decide +kernel
theorem d_CO_keepCode_118 : decode b_CO_keepCode 118 = .ok (.aload_n 0, 1) := by decide +kernel
theorem d_CO_keepCode_119 : decode b_CO_keepCode 119 = .ok (.getfield 9, 3) := by decide +kernel
theorem d_CO_keepCode_122 : decode b_CO_keepCode 122 = .ok (.iload 4, 2) := by decide +kernel
theorem d_CO_keepCode_124 : decode b_CO_keepCode 124 = .ok (.iaload, 1) := by decide +kernel
theorem d_CO_keepCode_125 : decode b_CO_keepCode 125 = .ok (.invokevirtual 76, 3) := by decide +kernel
theorem d_CO_keepCode_128 : decode b_CO_keepCode 128 = .ok (.iconst 0, 1) := by decide +kernel
theorem d_CO_keepCode_129 : decode b_CO_keepCode 129 = .ok (.istore_n 3, 1) := by decide +kernel
theorem d_CO_keepCode_130 : decode b_CO_keepCode 130 = .ok (.iinc 4 1, 3) := by decide +kernel
theorem d_CO_keepCode_133 : decode b_CO_keepCode 133 = .ok (.goto (-69), 3) := by decide +kernel
theorem d_CO_keepCode_136 : decode b_CO_keepCode 136 = .ok (.aload_n 0, 1) := by decide +kernel
theorem d_CO_keepCode_137 : decode b_CO_keepCode 137 = .ok (.getfield 30, 3) := by decide +kernel
theorem d_CO_keepCode_140 : decode b_CO_keepCode 140 = .ok (.aload_n 0, 1) := by decide +kernel
theorem d_CO_keepCode_141 : decode b_CO_keepCode 141 = .ok (.getfield 33, 3) := by decide +kernel
theorem d_CO_keepCode_144 : decode b_CO_keepCode 144 = .ok (.getfield 64, 3) := by decide +kernel
theorem d_CO_keepCode_147 : decode b_CO_keepCode 147 = .ok (.aload_n 0, 1) := by decide +kernel
theorem d_CO_keepCode_148 : decode b_CO_keepCode 148 = .ok (.getfield 26, 3) := by decide +kernel
theorem d_CO_keepCode_151 : decode b_CO_keepCode 151 = .ok (.getfield 64, 3) := by decide +kernel
theorem d_CO_keepCode_154 : decode b_CO_keepCode 154 = .ok (.iadd, 1) := by decide +kernel
theorem d_CO_keepCode_155 : decode b_CO_keepCode 155 = .ok (.invokevirtual 218, 3) := by decide +kernel
theorem d_CO_keepCode_158 : decode b_CO_keepCode 158 = .ok (.aload_n 0, 1) := by decide +kernel
theorem d_CO_keepCode_159 : decode b_CO_keepCode 159 = .ok (.getfield 30, 3) := by decide +kernel
theorem d_CO_keepCode_162 : decode b_CO_keepCode 162 = .ok (.aload_n 0, 1) := by decide +kernel
theorem d_CO_keepCode_163 : decode b_CO_keepCode 163 = .ok (.getfield 33, 3) := by decide +kernel
theorem d_CO_keepCode_166 : decode b_CO_keepCode 166 = .ok (.iconst 0, 1) := by decide +kernel
theorem d_CO_keepCode_167 : decode b_CO_keepCode 167 = .ok (.aload_n 0, 1) := by decide +kernel
theorem d_CO_keepCode_168 : decode b_CO_keepCode 168 = .ok (.getfield 33, 3) := by decide +kernel
theorem d_CO_keepCode_171 : decode b_CO_keepCode 171 = .ok (.getfield 64, 3) := by decide +kernel
theorem d_CO_keepCode_174 : decode b_CO_keepCode 174 = .ok (.invokevirtual 288, 3) := by decide +kernel
theorem d_CO_keepCode_177 : decode b_CO_keepCode 177 = .ok (.aload_n 0, 1) := by decide +kernel
theorem d_CO_keepCode_178 : decode b_CO_keepCode 178 = .ok (.getfield 30, 3) := by decide +kernel
theorem d_CO_keepCode_181 : decode b_CO_keepCode 181 = .ok (.aload_n 0, 1) := by decide +kernel
theorem d_CO_keepCode_182 : decode b_CO_keepCode 182 = .ok (.getfield 26, 3) := by decide +kernel
theorem d_CO_keepCode_185 : decode b_CO_keepCode 185 = .ok (.iconst 0, 1) := by decide +kernel
theorem d_CO_keepCode_186 : decode b_CO_keepCode 186 = .ok (.aload_n 0, 1) := by decide +kernel
theorem d_CO_keepCode_187 : decode b_CO_keepCode 187 = .ok (.getfield 26, 3) := by decide +kernel
theorem d_CO_keepCode_190 : decode b_CO_keepCode 190 = .ok (.getfield 64, 3) := by decide +kernel
theorem d_CO_keepCode_193 : decode b_CO_keepCode 193 = .ok (.invokevirtual 288, 3) := by decide +kernel
theorem d_CO_keepCode_196 : decode b_CO_keepCode 196 = .ok (.return_, 1) := by decide +kernel
theorem kM_CO_288 : Cond.methodLink R_CO 288 y_BR_putPart ∈ lw_g := in_g 1217 (by decide +kernel) rfl
theorem kF_CO_33 : Cond.fieldLink R_CO 33 "WaferForge$Coder" "section" "LWaferForge$ByteRow;" ∈ lw_g := in_g 432 (by decide +kernel) rfl
theorem kF_CO_30 : Cond.fieldLink R_CO 30 "WaferForge$Coder" "codes" "LWaferForge$ByteRow;" ∈ lw_g := in_g 431 (by decide +kernel) rfl
abbrev at_CO_keepCode (dC : Nat → ClassId) (dI : Nat → Nat → Nat) (h0 pr kn lt pe to bo cs se bob csb seb : Nat) (clt cbob ccsb cseb : ClassId) (h0_localCount : Int32) (h0_pendingCount : Int32) (h0_gives : Int32) (h0_depth : Int32) (h0_loopDepth : Int32) (wlt : Nat → Int32) (bo_length : Int32) (gbob : Nat → Int32) (A : Nat → Prop) (u : (Nat → Int32) × (Nat → Int32) × Int32 × Int32) (t : State) : Prop := match u with | (gcsb, gseb, cs_length, se_length) => va_P (dC, dI) cls [(h0, .inr (2, [.ref pr, .ref kn, .ref lt, .int h0_localCount, .ref pe, .int h0_pendingCount, .int h0_gives, .int h0_depth, .int h0_loopDepth, .ref to, .ref bo, .ref cs, .ref se])), (lt, .inl (clt, 50, .inl wlt)), (bo, .inr (1, [.ref bob, .int bo_length])), (bob, .inl (cbob, 8192, .inl gbob)), (cs, .inr (1, [.ref csb, .int cs_length])), (csb, .inl (ccsb, 8192, .inl gcsb)), (se, .inr (1, [.ref seb, .int se_length])), (seb, .inl (cseb, 8192, .inl gseb))] t.heap ∧ va_K (dC, dI) cls [(clt, .int), (cbob, .byte), (ccsb, .byte), (cseb, .byte)] t ∧ va_D A [(h0, .inr (2, [.ref pr, .ref kn, .ref lt, .int h0_localCount, .ref pe, .int h0_pendingCount, .int h0_gives, .int h0_depth, .int h0_loopDepth, .ref to, .ref bo, .ref cs, .ref se])), (lt, .inl (clt, 50, .inl wlt)), (bo, .inr (1, [.ref bob, .int bo_length])), (bob, .inl (cbob, 8192, .inl gbob)), (cs, .inr (1, [.ref csb, .int cs_length])), (csb, .inl (ccsb, 8192, .inl gcsb)), (se, .inr (1, [.ref seb, .int se_length])), (seb, .inl (cseb, 8192, .inl gseb))]
set_option maxHeartbeats 4000000 in
set_option maxRecDepth 100000 in
theorem c_CO_keepCode (l : Launch) (dC : Nat → ClassId) (dI : Nat → Nat → Nat) (sz : Nat) (h0 pr kn lt pe to bo cs se bob csb seb : Nat) (clt cbob ccsb cseb : ClassId) (h0_localCount : Int32) (h0_pendingCount : Int32) (h0_gives : Int32) (h0_depth : Int32) (h0_loopDepth : Int32) (wlt : Nat → Int32) (bo_length : Int32) (gbob : Nat → Int32) (cs_length : Int32) (gcsb : Nat → Int32) (se_length : Int32) (gseb : Nat → Int32)  (b_h0_localCount : 0 ≤ h0_localCount.toInt ∧ h0_localCount.toInt ≤ 50) (b_bo_length : 0 ≤ bo_length.toInt ∧ bo_length.toInt ≤ 8192) (b_cs_length : 0 ≤ cs_length.toInt ∧ cs_length.toInt ≤ 8192) (b_se_length : 0 ≤ se_length.toInt ∧ se_length.toInt ≤ 8192) (p0 : Int32)  (hp : 0 ≤ p0.toInt ∧ p0.toInt ≤ h0_localCount.toInt) (hlq : bx (gq h0_localCount.toInt wlt)) (hro : cs_length.toInt + bo_length.toInt + 110 ≤ 8192) : Met l y_CO_keepCode w_CO_keepCode ({ frames := 2, cells := 0, slots := 0, locals := 45 }) (va_Pc [.ref h0, .int p0] (fun U => U.heap.size = sz ∧ va_P (dC, dI) cls [(h0, .inr (2, [.ref pr, .ref kn, .ref lt, .int h0_localCount, .ref pe, .int h0_pendingCount, .int h0_gives, .int h0_depth, .int h0_loopDepth, .ref to, .ref bo, .ref cs, .ref se])), (lt, .inl (clt, 50, .inl wlt)), (bo, .inr (1, [.ref bob, .int bo_length])), (bob, .inl (cbob, 8192, .inl gbob)), (cs, .inr (1, [.ref csb, .int cs_length])), (csb, .inl (ccsb, 8192, .inl gcsb)), (se, .inr (1, [.ref seb, .int se_length])), (seb, .inl (cseb, 8192, .inl gseb))] U.heap ∧ va_K (dC, dI) cls [(clt, .int), (cbob, .byte), (ccsb, .byte), (cseb, .byte)] U ∧ va_D (fun _ => True) [(h0, .inr (2, [.ref pr, .ref kn, .ref lt, .int h0_localCount, .ref pe, .int h0_pendingCount, .int h0_gives, .int h0_depth, .int h0_loopDepth, .ref to, .ref bo, .ref cs, .ref se])), (lt, .inl (clt, 50, .inl wlt)), (bo, .inr (1, [.ref bob, .int bo_length])), (bob, .inl (cbob, 8192, .inl gbob)), (cs, .inr (1, [.ref csb, .int cs_length])), (csb, .inl (ccsb, 8192, .inl gcsb)), (se, .inr (1, [.ref seb, .int se_length])), (seb, .inl (cseb, 8192, .inl gseb))])) (va_Qv (fun (u : (Nat → Int32) × (Nat → Int32) × Int32 × Int32) => match u with | (gcsb2, gseb2, cs_length2, se_length2) => (0 ≤ cs_length2.toInt ∧ cs_length2.toInt ≤ 8192) ∧ (0 ≤ se_length2.toInt ∧ se_length2.toInt ≤ 8192) ∧ (∃ R : List (Nat × Nat), rok R ∧ (rsum R : Int) = h0_localCount.toInt - p0.toInt ∧ (R.length : Int) ≤ h0_localCount.toInt - p0.toInt ∧ cs_length2.toInt = cs_length.toInt + (leb 5 ((R.length :: rb R).length + bo_length.toNatClampNeg)).length + ((R.length :: rb R).length + bo_length.toNatClampNeg) ∧ bl gcsb2 cs_length2.toNatClampNeg = bl gcsb cs_length.toNatClampNeg ++ (leb 5 ((R.length :: rb R).length + bo_length.toNatClampNeg) ++ ((R.length :: rb R) ++ bl gbob bo_length.toNatClampNeg)))) (at_CO_keepCode dC dI h0 pr kn lt pe to bo cs se bob csb seb clt cbob ccsb cseb h0_localCount h0_pendingCount h0_gives h0_depth h0_loopDepth wlt bo_length gbob (va_A [(h0, .inr (2, [.ref pr, .ref kn, .ref lt, .int h0_localCount, .ref pe, .int h0_pendingCount, .int h0_gives, .int h0_depth, .int h0_loopDepth, .ref to, .ref bo, .ref cs, .ref se])), (lt, .inl (clt, 50, .inl wlt)), (bo, .inr (1, [.ref bob, .int bo_length])), (bob, .inl (cbob, 8192, .inl gbob)), (cs, .inr (1, [.ref csb, .int cs_length])), (csb, .inl (ccsb, 8192, .inl gcsb)), (se, .inr (1, [.ref seb, .int se_length])), (seb, .inl (cseb, 8192, .inl gseb))] sz)) (va_A [(h0, .inr (2, [.ref pr, .ref kn, .ref lt, .int h0_localCount, .ref pe, .int h0_pendingCount, .int h0_gives, .int h0_depth, .int h0_loopDepth, .ref to, .ref bo, .ref cs, .ref se])), (lt, .inl (clt, 50, .inl wlt)), (bo, .inr (1, [.ref bob, .int bo_length])), (bob, .inl (cbob, 8192, .inl gbob)), (cs, .inr (1, [.ref csb, .int cs_length])), (csb, .inl (ccsb, 8192, .inl gcsb)), (se, .inr (1, [.ref seb, .int se_length])), (seb, .inl (cseb, 8192, .inl gseb))] sz)) 0 0 (va_A [(h0, .inr (2, [.ref pr, .ref kn, .ref lt, .int h0_localCount, .ref pe, .int h0_pendingCount, .int h0_gives, .int h0_depth, .int h0_loopDepth, .ref to, .ref bo, .ref cs, .ref se])), (lt, .inl (clt, 50, .inl wlt)), (bo, .inr (1, [.ref bob, .int bo_length])), (bob, .inl (cbob, 8192, .inl gbob)), (cs, .inr (1, [.ref csb, .int cs_length])), (csb, .inl (ccsb, 8192, .inl gcsb)), (se, .inr (1, [.ref seb, .int se_length])), (seb, .inl (cseb, 8192, .inl gseb))] sz) := by
  refine Met.ofW (cc := b_CO_keepCode) (maxL := 5) (ret := none) (by decide) rfl ?_
  intro p e s m args below meth c s₁ B hml hv
  obtain ⟨rfl, hsz, hP, hK, hD0⟩ := hv
  have hx := B.exec
  have hb := B.bytes
  have hr := B.returns
  have hts0 := atoms_spec (ws := w_CO_keepCode) B.pre
  have hts : ∀ w ∈ lw_g, w.before _ s = true := fun w h => hts0 w (List.mem_cons_of_mem _ h)
  have hown : s.vm.findClass R_CO = some m.cls := findClass_of_methodNamed B.named
  have hlocks := B.notSynchronized
  clear hts0
  subst hsz
  have hD := hD0.self (sz := s.heap.size)
  generalize hAe : va_A [(h0, .inr (2, [.ref pr, .ref kn, .ref lt, .int h0_localCount, .ref pe, .int h0_pendingCount, .int h0_gives, .int h0_depth, .int h0_loopDepth, .ref to, .ref bo, .ref cs, .ref se])), (lt, .inl (clt, 50, .inl wlt)), (bo, .inr (1, [.ref bob, .int bo_length])), (bob, .inl (cbob, 8192, .inl gbob)), (cs, .inr (1, [.ref csb, .int cs_length])), (csb, .inl (ccsb, 8192, .inl gcsb)), (se, .inr (1, [.ref seb, .int se_length])), (seb, .inl (cseb, 8192, .inl gseb))] s.heap.size = A at hD ⊢
  have hA : ∀ q : Nat, s.heap.size ≤ q → A q := fun q h => by rw [← hAe]; exact Or.inr h
  clear hAe
  have hP : va_P (dC, dI) cls [(h0, .inr (2, [.ref pr, .ref kn, .ref lt, .int h0_localCount, .ref pe, .int h0_pendingCount, .int h0_gives, .int h0_depth, .int h0_loopDepth, .ref to, .ref bo, .ref cs, .ref se])), (lt, .inl (clt, 50, .inl wlt)), (bo, .inr (1, [.ref bob, .int bo_length])), (bob, .inl (cbob, 8192, .inl gbob)), (cs, .inr (1, [.ref csb, .int cs_length])), (csb, .inl (ccsb, 8192, .inl gcsb)), (se, .inr (1, [.ref seb, .int se_length])), (seb, .inl (cseb, 8192, .inl gseb))] s.heap := hP
  have hl := lv_entry ([.ref h0, .int p0]) (n := 5) (Nat.le_of_ble_eq_true rfl)
  rw [lg_entry_eq]
  generalize (lg_sl ([.ref h0, .int p0]) ++ List.replicate (5 - (lg_sl ([.ref h0, .int p0])).length) Slot.unset).toArray = ls at hl ⊢
  have hl : lv_has ls 5 [(0, .ref h0), (1, .int p0)] := hl
  have k0 : (0 : Int32).toInt = 0 := by decide
  refine w_gen (A := A) hP (fun H locs hP hS => ?_)
  have k1 : (1 : Int32).toInt = 1 := by decide
  have lo_p0 := i32_lo p0
  have hi_p0 := i32_hi p0
  refine lv_iconst (v := 0) hx hb d_CO_keepCode_0 (by decide) ?_
  refine lv_istore_n (lv' := [(2, .int 0), (0, .ref h0), (1, .int p0)]) hx hb d_CO_keepCode_1 rfl hl (by decide) rfl (fun ls hl => ?_)
  refine lv_iload_n hx hb d_CO_keepCode_2 rfl (lv_at hl 2 rfl) ?_
  refine lv_istore_n (lv' := [(3, .int p0), (2, .int 0), (0, .ref h0), (1, .int p0)]) hx hb d_CO_keepCode_3 rfl hl (by decide) rfl (fun ls hl => ?_)
  refine w_loop (σ := Int32 × Int32) (fun u H locs ls => match u with | (j4_l2, j4_l3) => (p0.toInt ≤ j4_l3.toInt ∧ j4_l3.toInt ≤ h0_localCount.toInt) ∧ (j4_l2.toInt = ((rst wlt p0.toInt.toNat (j4_l3.toInt - p0.toInt).toNat : Nat) : Int)) ∧ va_P (dC, dI) cls [(h0, .inr (2, [.ref pr, .ref kn, .ref lt, .int h0_localCount, .ref pe, .int h0_pendingCount, .int h0_gives, .int h0_depth, .int h0_loopDepth, .ref to, .ref bo, .ref cs, .ref se])), (lt, .inl (clt, 50, .inl wlt)), (bo, .inr (1, [.ref bob, .int bo_length])), (bob, .inl (cbob, 8192, .inl gbob)), (cs, .inr (1, [.ref csb, .int cs_length])), (csb, .inl (ccsb, 8192, .inl gcsb)), (se, .inr (1, [.ref seb, .int se_length])), (seb, .inl (cseb, 8192, .inl gseb))] H ∧ va_D A [(h0, .inr (2, [.ref pr, .ref kn, .ref lt, .int h0_localCount, .ref pe, .int h0_pendingCount, .int h0_gives, .int h0_depth, .int h0_loopDepth, .ref to, .ref bo, .ref cs, .ref se])), (lt, .inl (clt, 50, .inl wlt)), (bo, .inr (1, [.ref bob, .int bo_length])), (bob, .inl (cbob, 8192, .inl gbob)), (cs, .inr (1, [.ref csb, .int cs_length])), (csb, .inl (ccsb, 8192, .inl gcsb)), (se, .inr (1, [.ref seb, .int se_length])), (seb, .inl (cseb, 8192, .inl gseb))] ∧ va_S A s.heap H locs ∧ lv_has ls 5 [(0, .ref h0), (1, .int p0), (2, .int j4_l2), (3, .int j4_l3)]) (fun u => match u with | (j4_l2, j4_l3) => (h0_localCount.toInt - j4_l3.toInt).toNat) ?_ (0, p0) ⟨by (try dsimp only) <;> omega, (by rw [show (p0.toInt - p0.toInt).toNat = 0 from by omega]; rfl), hP, hD, hS, lv_sub hl [2, 3, 1, 0] rfl⟩
  intro N4 ih4 u H locs ls hN4 hI
  obtain ⟨j4_l2, j4_l3⟩ := u
  obtain ⟨v1, v3, hP, hD, hS, hl⟩ := hI
  have hN4 : (h0_localCount.toInt - j4_l3.toInt).toNat < N4 + 1 := hN4
  refine lv_iload_n hx hb d_CO_keepCode_4 rfl (lv_at hl 3 rfl) ?_
  refine lv_aload_n hx hb d_CO_keepCode_5 rfl (lv_at hl 0 rfl) ?_
  refine va_get (D := (dC, dI)) (ci := 2) (v := .int h0_localCount) (C := R_CO) (T := F_CO) (N := 13) hx hb hts i_CO hown hK hP 0 rfl rfl 3 (by decide) (hts _ kF_CO_109) (fun _ h9 => h9) rfl d_CO_keepCode_6 ?_
  refine lv_icmp_ge (tgt := 43) hx hb d_CO_keepCode_9 (by decide) (fun c9 => ?_) (fun c9 => ?_)
  · have q9 := leI c9
    have w4 := rst_le (lt := wlt) (p := p0.toInt.toNat) (j4_l3.toInt - p0.toInt).toNat
    refine lv_aload_n hx hb d_CO_keepCode_43 rfl (lv_at hl 0 rfl) ?_
    refine va_get (D := (dC, dI)) (ci := 2) (v := .ref se) (C := R_CO) (T := F_CO) (N := 13) hx hb hts i_CO hown hK hP 0 rfl rfl 12 (by decide) (hts _ kF_CO_33) (fun _ h9 => h9) rfl d_CO_keepCode_44 ?_
    refine lv_iconst (v := 0) hx hb d_CO_keepCode_47 (by decide) ?_
    refine va_put (D := (dC, dI)) (ci := 1) (v := .int 0) (ty := .int) (C := R_BR) (T := F_BR) (N := 2) hx hb hts i_BR t_BR t_BR_ok n_BR hown hK hP hD hS 6 rfl rfl 1 (by decide) (hts _ kF_CO_64) (fun _ h9 => h9) rfl (by decide +kernel) rfl rfl (Nat.le_of_ble_eq_true rfl) d_CO_keepCode_48 (fun H locs hP hD hS => ?_)
    refine lv_aload_n hx hb d_CO_keepCode_51 rfl (lv_at hl 0 rfl) ?_
    refine va_get (D := (dC, dI)) (ci := 2) (v := .ref se) (C := R_CO) (T := F_CO) (N := 13) hx hb hts i_CO hown hK hP 0 rfl rfl 12 (by decide) (hts _ kF_CO_33) (fun _ h9 => h9) rfl d_CO_keepCode_52 ?_
    refine lv_iload_n hx hb d_CO_keepCode_55 rfl (lv_at hl 2 rfl) ?_
    have hPc := hP.sub (ws' := [(se, .inr (1, [.ref seb, .int 0])), (seb, .inl (cseb, 8192, .inl gseb))]) [6, 7] rfl
    have hDc := hD.sub (ws' := [(se, .inr (1, [.ref seb, .int 0])), (seb, .inl (cseb, 8192, .inl gseb))]) [6, 7] (by decide) rfl
    have hKc := hK.sub (tys' := [(cseb, .byte)]) [3] rfl
    have hFc := va_free (wc := [(se, .inr (1, [.ref seb, .int 0])), (seb, .inl (cseb, 8192, .inl gseb))]) hD hS hA [6, 7] rfl
    refine va_callv (va_runV (As := [.int j4_l2]) (rest := []) ⟨hx, hb, hml, hown, hts⟩ (c_BR_putUnsigned l dC dI se seb H.size cseb 8192 0 gseb (by omega) (by omega) (by omega) j4_l2 (by omega)) (cwV 1 hts (gV kM_CO_218 kV_BR_putUnsigned kS_BR_putUnsigned kI_BR kC_BR_putUnsigned) rfl rfl rfl (by decide +kernel) ⟨Nat.le_of_ble_eq_true rfl, Nat.le_of_ble_eq_true rfl⟩) ⟨fun a U g mk z => by obtain ⟨z0, z1, zP, zK, zD⟩ := z; exact ⟨z0, z1, zP, va_K.moved (u := U) (U := U.calling g mk a) (Vm.Alike.refl U.vm) zK, zD⟩, va_recv hKc hPc (ci := 1) (q0 := 0) rfl rfl, fun U hU hW => ⟨rfl, by rw [hU], by rw [hU]; exact hPc, va_K.moved hW.alike hKc, hDc.weaken (fun _ _ _ _ => trivial)⟩⟩ rfl rfl hl.1 rfl (lv_room (Nat.le_of_ble_eq_true rfl)) d_CO_keepCode_56 ⟨(Nat.zero_le _), (Nat.zero_le _)⟩) hS (fun q _ h => hFc q h) hFc (fun u t H1 locs ht hvm hw hB hz1 hk1 hS => ?_)
    obtain ⟨n2, f3⟩ := u
    try dsimp only at hw
    obtain ⟨tn2, bn2⟩ := hw
    have ln2 := leb_len 5 (un j4_l2)
    obtain ⟨hP1, hK1, hD1⟩ := hB
    rw [ht] at hP1
    obtain ⟨hP, hD⟩ := va_join (wr := [(h0, .inr (2, [.ref pr, .ref kn, .ref lt, .int h0_localCount, .ref pe, .int h0_pendingCount, .int h0_gives, .int h0_depth, .int h0_loopDepth, .ref to, .ref bo, .ref cs, .ref se])), (lt, .inl (clt, 50, .inl wlt)), (bo, .inr (1, [.ref bob, .int bo_length])), (bob, .inl (cbob, 8192, .inl gbob)), (cs, .inr (1, [.ref csb, .int cs_length])), (csb, .inl (ccsb, 8192, .inl gcsb))]) (w1 := [(se, .inr (1, [.ref seb, .int n2])), (seb, .inl (cseb, 8192, .inl f3))]) hP hD [6, 7] [0, 1, 2, 3, 4, 5] rfl rfl (by decide) (by decide) hk1 hFc hP1 hD1
    clear hPc hDc hKc hFc hz1 hk1 hP1 hK1 hD1
    generalize H1 = H at hP hS ⊢
    have hP : va_P (dC, dI) cls [(h0, .inr (2, [.ref pr, .ref kn, .ref lt, .int h0_localCount, .ref pe, .int h0_pendingCount, .int h0_gives, .int h0_depth, .int h0_loopDepth, .ref to, .ref bo, .ref cs, .ref se])), (lt, .inl (clt, 50, .inl wlt)), (bo, .inr (1, [.ref bob, .int bo_length])), (bob, .inl (cbob, 8192, .inl gbob)), (cs, .inr (1, [.ref csb, .int cs_length])), (csb, .inl (ccsb, 8192, .inl gcsb)), (se, .inr (1, [.ref seb, .int n2])), (seb, .inl (cseb, 8192, .inl f3))] H := hP
    have hD : va_D A [(h0, .inr (2, [.ref pr, .ref kn, .ref lt, .int h0_localCount, .ref pe, .int h0_pendingCount, .int h0_gives, .int h0_depth, .int h0_loopDepth, .ref to, .ref bo, .ref cs, .ref se])), (lt, .inl (clt, 50, .inl wlt)), (bo, .inr (1, [.ref bob, .int bo_length])), (bob, .inl (cbob, 8192, .inl gbob)), (cs, .inr (1, [.ref csb, .int cs_length])), (csb, .inl (ccsb, 8192, .inl gcsb)), (se, .inr (1, [.ref seb, .int n2])), (seb, .inl (cseb, 8192, .inl f3))] := hD
    have l59 := congrArg List.length (leb_s (x := j4_l2) (by omega) (by omega))
    rw [List.length_singleton] at l59
    refine lv_iconst (v := 0) hx hb d_CO_keepCode_59 (by decide) ?_
    refine lv_istore_n (lv' := [(3, .int 0), (0, .ref h0), (1, .int p0), (2, .int j4_l2)]) hx hb d_CO_keepCode_60 rfl hl (by decide) rfl (fun ls hl => ?_)
    refine lv_iload_n hx hb d_CO_keepCode_61 rfl (lv_at hl 2 rfl) ?_
    refine lv_istore (lv' := [(4, .int p0), (3, .int 0), (0, .ref h0), (1, .int p0), (2, .int j4_l2)]) hx hb d_CO_keepCode_62 hl (by decide) rfl (fun ls hl => ?_)
    refine w_loop (σ := Int32 × Int32 × (Nat → Int32) × Int32) (fun u H locs ls => match u with | (j64_l3, j64_l4, j64_seb, j64_se_length) => (0 ≤ j64_se_length.toInt ∧ j64_se_length.toInt ≤ 8192) ∧ (p0.toInt ≤ j64_l4.toInt ∧ j64_l4.toInt ≤ h0_localCount.toInt ∧ 0 ≤ j64_l3.toInt ∧ j64_l3.toInt ≤ 50) ∧ (∃ R : List (Nat × Nat), rI wlt p0.toInt.toNat (j64_l4.toInt - p0.toInt).toNat j64_l3.toInt.toNat (h0_localCount.toInt - p0.toInt).toNat R ∧ bl j64_seb j64_se_length.toNatClampNeg = [j4_l2.toInt.toNat] ++ rb R ∧ j64_se_length.toInt = 1 + 2 * (R.length : Int)) ∧ va_P (dC, dI) cls [(h0, .inr (2, [.ref pr, .ref kn, .ref lt, .int h0_localCount, .ref pe, .int h0_pendingCount, .int h0_gives, .int h0_depth, .int h0_loopDepth, .ref to, .ref bo, .ref cs, .ref se])), (lt, .inl (clt, 50, .inl wlt)), (bo, .inr (1, [.ref bob, .int bo_length])), (bob, .inl (cbob, 8192, .inl gbob)), (cs, .inr (1, [.ref csb, .int cs_length])), (csb, .inl (ccsb, 8192, .inl gcsb)), (se, .inr (1, [.ref seb, .int j64_se_length])), (seb, .inl (cseb, 8192, .inl j64_seb))] H ∧ va_D A [(h0, .inr (2, [.ref pr, .ref kn, .ref lt, .int h0_localCount, .ref pe, .int h0_pendingCount, .int h0_gives, .int h0_depth, .int h0_loopDepth, .ref to, .ref bo, .ref cs, .ref se])), (lt, .inl (clt, 50, .inl wlt)), (bo, .inr (1, [.ref bob, .int bo_length])), (bob, .inl (cbob, 8192, .inl gbob)), (cs, .inr (1, [.ref csb, .int cs_length])), (csb, .inl (ccsb, 8192, .inl gcsb)), (se, .inr (1, [.ref seb, .int j64_se_length])), (seb, .inl (cseb, 8192, .inl j64_seb))] ∧ va_S A s.heap H locs ∧ lv_has ls 5 [(0, .ref h0), (3, .int j64_l3), (4, .int j64_l4)]) (fun u => match u with | (j64_l3, j64_l4, j64_seb, j64_se_length) => (h0_localCount.toInt - j64_l4.toInt).toNat) ?_ (0, p0, f3, n2) ⟨by (try dsimp only) <;> omega, by (try dsimp only) <;> omega, ⟨[], (by rw [show (p0.toInt - p0.toInt).toNat = 0 from by omega]; exact rI_0), by rw [bn2, leb_s (by omega) (by omega)]; rfl, by (try dsimp only); rw [tn2, l59]; rfl⟩, hP, hD, hS, lv_sub hl [2, 1, 0] rfl⟩
    intro N64 ih64 u H locs ls hN64 hI
    obtain ⟨j64_l3, j64_l4, j64_seb, j64_se_length⟩ := u
    obtain ⟨b_j64_se_length, u1, hr, hP, hD, hS, hl⟩ := hI
    have hN64 : (h0_localCount.toInt - j64_l4.toInt).toNat < N64 + 1 := hN64
    refine lv_iload hx hb d_CO_keepCode_64 (lv_at hl 2 rfl) ?_
    refine lv_aload_n hx hb d_CO_keepCode_66 rfl (lv_at hl 0 rfl) ?_
    refine va_get (D := (dC, dI)) (ci := 2) (v := .int h0_localCount) (C := R_CO) (T := F_CO) (N := 13) hx hb hts i_CO hown hK hP 0 rfl rfl 3 (by decide) (hts _ kF_CO_109) (fun _ h9 => h9) rfl d_CO_keepCode_67 ?_
    refine lv_icmp_ge (tgt := 136) hx hb d_CO_keepCode_70 (by decide) (fun c70 => ?_) (fun c70 => ?_)
    · have q70 := leI c70
      obtain ⟨R9, r9, e9, n9⟩ := hr
      have w9 := rst_le (lt := wlt) (p := p0.toInt.toNat) (j64_l4.toInt - p0.toInt).toNat
      have w8 := r9.2.2.1
      have w7 := r9.2.1
      have w6 : R9.length ≤ (j64_l4.toInt - p0.toInt).toNat := by split at w8 <;> omega
      have w5 := r9.2.2.2.2 (by omega)
      rw [if_pos w5] at w8
      have v9 : (j64_l4.toInt - p0.toInt).toNat = (j4_l3.toInt - p0.toInt).toNat := by omega
      rw [v9] at w8
      clear w6 w9
      refine lv_aload_n hx hb d_CO_keepCode_136 rfl (lv_at hl 0 rfl) ?_
      refine va_get (D := (dC, dI)) (ci := 2) (v := .ref cs) (C := R_CO) (T := F_CO) (N := 13) hx hb hts i_CO hown hK hP 0 rfl rfl 11 (by decide) (hts _ kF_CO_30) (fun _ h9 => h9) rfl d_CO_keepCode_137 ?_
      refine lv_aload_n hx hb d_CO_keepCode_140 rfl (lv_at hl 0 rfl) ?_
      refine va_get (D := (dC, dI)) (ci := 2) (v := .ref se) (C := R_CO) (T := F_CO) (N := 13) hx hb hts i_CO hown hK hP 0 rfl rfl 12 (by decide) (hts _ kF_CO_33) (fun _ h9 => h9) rfl d_CO_keepCode_141 ?_
      refine va_get (D := (dC, dI)) (ci := 1) (v := .int j64_se_length) (C := R_BR) (T := F_BR) (N := 2) hx hb hts i_BR hown hK hP 6 rfl rfl 1 (by decide) (hts _ kF_CO_64) (fun _ h9 => h9) rfl d_CO_keepCode_144 ?_
      refine lv_aload_n hx hb d_CO_keepCode_147 rfl (lv_at hl 0 rfl) ?_
      refine va_get (D := (dC, dI)) (ci := 2) (v := .ref bo) (C := R_CO) (T := F_CO) (N := 13) hx hb hts i_CO hown hK hP 0 rfl rfl 10 (by decide) (hts _ kF_CO_26) (fun _ h9 => h9) rfl d_CO_keepCode_148 ?_
      refine va_get (D := (dC, dI)) (ci := 1) (v := .int bo_length) (C := R_BR) (T := F_BR) (N := 2) hx hb hts i_BR hown hK hP 2 rfl rfl 1 (by decide) (hts _ kF_CO_64) (fun _ h9 => h9) rfl d_CO_keepCode_151 ?_
      refine lv_iadd hx hb d_CO_keepCode_154 ?_
      refine lv_topi (fun x4 ex4 => ?_)
      have tx4 : x4.toInt = j64_se_length.toInt + bo_length.toInt := by have z := i32_add ex4 (by omega) (by omega); omega
      have usz : un x4 = ((R9.length :: rb R9).length + bo_length.toNatClampNeg) := by rw [un_nat (by omega), List.length_cons, rb_len]; have := i32_clamp (x := bo_length) (by omega); omega
      have us2 : (un x4 : Int) = x4.toInt := by rw [un_nat (by omega)]; omega
      have ulb := leb_len 5 (un x4)
      have hPc := hP.sub (ws' := [(cs, .inr (1, [.ref csb, .int cs_length])), (csb, .inl (ccsb, 8192, .inl gcsb))]) [4, 5] rfl
      have hDc := hD.sub (ws' := [(cs, .inr (1, [.ref csb, .int cs_length])), (csb, .inl (ccsb, 8192, .inl gcsb))]) [4, 5] (by decide) rfl
      have hKc := hK.sub (tys' := [(ccsb, .byte)]) [2] rfl
      have hFc := va_free (wc := [(cs, .inr (1, [.ref csb, .int cs_length])), (csb, .inl (ccsb, 8192, .inl gcsb))]) hD hS hA [4, 5] rfl
      refine va_callv (va_runV (As := [.int x4]) (rest := []) ⟨hx, hb, hml, hown, hts⟩ (c_BR_putUnsigned l dC dI cs csb H.size ccsb 8192 cs_length gcsb (by omega) (by omega) (by omega) x4 (by omega)) (cwV 1 hts (gV kM_CO_218 kV_BR_putUnsigned kS_BR_putUnsigned kI_BR kC_BR_putUnsigned) rfl rfl rfl (by decide +kernel) ⟨Nat.le_of_ble_eq_true rfl, Nat.le_of_ble_eq_true rfl⟩) ⟨fun a U g mk z => by obtain ⟨z0, z1, zP, zK, zD⟩ := z; exact ⟨z0, z1, zP, va_K.moved (u := U) (U := U.calling g mk a) (Vm.Alike.refl U.vm) zK, zD⟩, va_recv hKc hPc (ci := 1) (q0 := 0) rfl rfl, fun U hU hW => ⟨rfl, by rw [hU], by rw [hU]; exact hPc, va_K.moved hW.alike hKc, hDc.weaken (fun _ _ _ _ => trivial)⟩⟩ rfl rfl hl.1 rfl (lv_room (Nat.le_of_ble_eq_true rfl)) d_CO_keepCode_155 ⟨(Nat.zero_le _), (Nat.zero_le _)⟩) hS (fun q _ h => hFc q h) hFc (fun u t H1 locs ht hvm hw hB hz1 hk1 hS => ?_)
      obtain ⟨n6, f7⟩ := u
      try dsimp only at hw
      obtain ⟨tn6, bn6⟩ := hw
      have ln6 := leb_len 5 (un x4)
      obtain ⟨hP1, hK1, hD1⟩ := hB
      rw [ht] at hP1
      obtain ⟨hP, hD⟩ := va_join (wr := [(h0, .inr (2, [.ref pr, .ref kn, .ref lt, .int h0_localCount, .ref pe, .int h0_pendingCount, .int h0_gives, .int h0_depth, .int h0_loopDepth, .ref to, .ref bo, .ref cs, .ref se])), (lt, .inl (clt, 50, .inl wlt)), (bo, .inr (1, [.ref bob, .int bo_length])), (bob, .inl (cbob, 8192, .inl gbob)), (se, .inr (1, [.ref seb, .int j64_se_length])), (seb, .inl (cseb, 8192, .inl j64_seb))]) (w1 := [(cs, .inr (1, [.ref csb, .int n6])), (csb, .inl (ccsb, 8192, .inl f7))]) hP hD [4, 5] [0, 1, 2, 3, 6, 7] rfl rfl (by decide) (by decide) hk1 hFc hP1 hD1
      clear hPc hDc hKc hFc hz1 hk1 hP1 hK1 hD1
      generalize H1 = H at hP hS ⊢
      have hP : va_P (dC, dI) cls [(h0, .inr (2, [.ref pr, .ref kn, .ref lt, .int h0_localCount, .ref pe, .int h0_pendingCount, .int h0_gives, .int h0_depth, .int h0_loopDepth, .ref to, .ref bo, .ref cs, .ref se])), (lt, .inl (clt, 50, .inl wlt)), (bo, .inr (1, [.ref bob, .int bo_length])), (bob, .inl (cbob, 8192, .inl gbob)), (se, .inr (1, [.ref seb, .int j64_se_length])), (seb, .inl (cseb, 8192, .inl j64_seb)), (cs, .inr (1, [.ref csb, .int n6])), (csb, .inl (ccsb, 8192, .inl f7))] H := hP
      have hD : va_D A [(h0, .inr (2, [.ref pr, .ref kn, .ref lt, .int h0_localCount, .ref pe, .int h0_pendingCount, .int h0_gives, .int h0_depth, .int h0_loopDepth, .ref to, .ref bo, .ref cs, .ref se])), (lt, .inl (clt, 50, .inl wlt)), (bo, .inr (1, [.ref bob, .int bo_length])), (bob, .inl (cbob, 8192, .inl gbob)), (se, .inr (1, [.ref seb, .int j64_se_length])), (seb, .inl (cseb, 8192, .inl j64_seb)), (cs, .inr (1, [.ref csb, .int n6])), (csb, .inl (ccsb, 8192, .inl f7))] := hD
      refine lv_aload_n hx hb d_CO_keepCode_158 rfl (lv_at hl 0 rfl) ?_
      refine va_get (D := (dC, dI)) (ci := 2) (v := .ref cs) (C := R_CO) (T := F_CO) (N := 13) hx hb hts i_CO hown hK hP 0 rfl rfl 11 (by decide) (hts _ kF_CO_30) (fun _ h9 => h9) rfl d_CO_keepCode_159 ?_
      refine lv_aload_n hx hb d_CO_keepCode_162 rfl (lv_at hl 0 rfl) ?_
      refine va_get (D := (dC, dI)) (ci := 2) (v := .ref se) (C := R_CO) (T := F_CO) (N := 13) hx hb hts i_CO hown hK hP 0 rfl rfl 12 (by decide) (hts _ kF_CO_33) (fun _ h9 => h9) rfl d_CO_keepCode_163 ?_
      refine lv_iconst (v := 0) hx hb d_CO_keepCode_166 (by decide) ?_
      refine lv_aload_n hx hb d_CO_keepCode_167 rfl (lv_at hl 0 rfl) ?_
      refine va_get (D := (dC, dI)) (ci := 2) (v := .ref se) (C := R_CO) (T := F_CO) (N := 13) hx hb hts i_CO hown hK hP 0 rfl rfl 12 (by decide) (hts _ kF_CO_33) (fun _ h9 => h9) rfl d_CO_keepCode_168 ?_
      refine va_get (D := (dC, dI)) (ci := 1) (v := .int j64_se_length) (C := R_BR) (T := F_BR) (N := 2) hx hb hts i_BR hown hK hP 4 rfl rfl 1 (by decide) (hts _ kF_CO_64) (fun _ h9 => h9) rfl d_CO_keepCode_171 ?_
      have hPc := hP.sub (ws' := [(cs, .inr (1, [.ref csb, .int n6])), (csb, .inl (ccsb, 8192, .inl f7)), (se, .inr (1, [.ref seb, .int j64_se_length])), (seb, .inl (cseb, 8192, .inl j64_seb))]) [6, 7, 4, 5] rfl
      have hDc := hD.sub (ws' := [(cs, .inr (1, [.ref csb, .int n6])), (csb, .inl (ccsb, 8192, .inl f7)), (se, .inr (1, [.ref seb, .int j64_se_length])), (seb, .inl (cseb, 8192, .inl j64_seb))]) [6, 7, 4, 5] (by decide) rfl
      have hKc := hK.sub (tys' := [(ccsb, .byte), (cseb, .byte)]) [2, 3] rfl
      have hFc := va_free (wc := [(cs, .inr (1, [.ref csb, .int n6])), (csb, .inl (ccsb, 8192, .inl f7)), (se, .inr (1, [.ref seb, .int j64_se_length])), (seb, .inl (cseb, 8192, .inl j64_seb))]) hD hS hA [6, 7, 4, 5] rfl
      refine va_callv (va_runV (As := [.ref se, .int 0, .int j64_se_length]) (rest := []) ⟨hx, hb, hml, hown, hts⟩ (c_BR_putPart l dC dI cs csb se seb H.size ccsb cseb 8192 8192 n6 j64_se_length f7 j64_seb (by omega) (by omega) (by omega) (by omega) (by omega) (by omega) 0 j64_se_length (by omega) (by omega) (by omega) (by omega)) (cwV 3 hts (gV kM_CO_288 kV_BR_putPart kS_BR_putPart kI_BR kC_BR_putPart) rfl rfl rfl (by decide +kernel) ⟨Nat.le_of_ble_eq_true rfl, Nat.le_of_ble_eq_true rfl⟩) ⟨fun a U g mk z => by obtain ⟨z0, z1, zP, zK, zD⟩ := z; exact ⟨z0, z1, zP, va_K.moved (u := U) (U := U.calling g mk a) (Vm.Alike.refl U.vm) zK, zD⟩, va_recv hKc hPc (ci := 1) (q0 := 0) rfl rfl, fun U hU hW => ⟨rfl, by rw [hU], by rw [hU]; exact hPc, va_K.moved hW.alike hKc, hDc.weaken (fun _ _ _ _ => trivial)⟩⟩ rfl rfl hl.1 rfl (lv_room (Nat.le_of_ble_eq_true rfl)) d_CO_keepCode_174 ⟨(Nat.zero_le _), (Nat.zero_le _)⟩) hS (fun q _ h => hFc q h) hFc (fun u t H1 locs ht hvm hw hB hz1 hk1 hS => ?_)
      obtain ⟨n9, f10⟩ := u
      try dsimp only at hw
      obtain ⟨tn9, bn9⟩ := hw
      obtain ⟨hP1, hK1, hD1⟩ := hB
      rw [ht] at hP1
      obtain ⟨hP, hD⟩ := va_join (wr := [(h0, .inr (2, [.ref pr, .ref kn, .ref lt, .int h0_localCount, .ref pe, .int h0_pendingCount, .int h0_gives, .int h0_depth, .int h0_loopDepth, .ref to, .ref bo, .ref cs, .ref se])), (lt, .inl (clt, 50, .inl wlt)), (bo, .inr (1, [.ref bob, .int bo_length])), (bob, .inl (cbob, 8192, .inl gbob))]) (w1 := [(cs, .inr (1, [.ref csb, .int n9])), (csb, .inl (ccsb, 8192, .inl f10)), (se, .inr (1, [.ref seb, .int j64_se_length])), (seb, .inl (cseb, 8192, .inl j64_seb))]) hP hD [6, 7, 4, 5] [0, 1, 2, 3] rfl rfl (by decide) (by decide) hk1 hFc hP1 hD1
      clear hPc hDc hKc hFc hz1 hk1 hP1 hK1 hD1
      generalize H1 = H at hP hS ⊢
      have hP : va_P (dC, dI) cls [(h0, .inr (2, [.ref pr, .ref kn, .ref lt, .int h0_localCount, .ref pe, .int h0_pendingCount, .int h0_gives, .int h0_depth, .int h0_loopDepth, .ref to, .ref bo, .ref cs, .ref se])), (lt, .inl (clt, 50, .inl wlt)), (bo, .inr (1, [.ref bob, .int bo_length])), (bob, .inl (cbob, 8192, .inl gbob)), (cs, .inr (1, [.ref csb, .int n9])), (csb, .inl (ccsb, 8192, .inl f10)), (se, .inr (1, [.ref seb, .int j64_se_length])), (seb, .inl (cseb, 8192, .inl j64_seb))] H := hP
      have hD : va_D A [(h0, .inr (2, [.ref pr, .ref kn, .ref lt, .int h0_localCount, .ref pe, .int h0_pendingCount, .int h0_gives, .int h0_depth, .int h0_loopDepth, .ref to, .ref bo, .ref cs, .ref se])), (lt, .inl (clt, 50, .inl wlt)), (bo, .inr (1, [.ref bob, .int bo_length])), (bob, .inl (cbob, 8192, .inl gbob)), (cs, .inr (1, [.ref csb, .int n9])), (csb, .inl (ccsb, 8192, .inl f10)), (se, .inr (1, [.ref seb, .int j64_se_length])), (seb, .inl (cseb, 8192, .inl j64_seb))] := hD
      refine lv_aload_n hx hb d_CO_keepCode_177 rfl (lv_at hl 0 rfl) ?_
      refine va_get (D := (dC, dI)) (ci := 2) (v := .ref cs) (C := R_CO) (T := F_CO) (N := 13) hx hb hts i_CO hown hK hP 0 rfl rfl 11 (by decide) (hts _ kF_CO_30) (fun _ h9 => h9) rfl d_CO_keepCode_178 ?_
      refine lv_aload_n hx hb d_CO_keepCode_181 rfl (lv_at hl 0 rfl) ?_
      refine va_get (D := (dC, dI)) (ci := 2) (v := .ref bo) (C := R_CO) (T := F_CO) (N := 13) hx hb hts i_CO hown hK hP 0 rfl rfl 10 (by decide) (hts _ kF_CO_26) (fun _ h9 => h9) rfl d_CO_keepCode_182 ?_
      refine lv_iconst (v := 0) hx hb d_CO_keepCode_185 (by decide) ?_
      refine lv_aload_n hx hb d_CO_keepCode_186 rfl (lv_at hl 0 rfl) ?_
      refine va_get (D := (dC, dI)) (ci := 2) (v := .ref bo) (C := R_CO) (T := F_CO) (N := 13) hx hb hts i_CO hown hK hP 0 rfl rfl 10 (by decide) (hts _ kF_CO_26) (fun _ h9 => h9) rfl d_CO_keepCode_187 ?_
      refine va_get (D := (dC, dI)) (ci := 1) (v := .int bo_length) (C := R_BR) (T := F_BR) (N := 2) hx hb hts i_BR hown hK hP 2 rfl rfl 1 (by decide) (hts _ kF_CO_64) (fun _ h9 => h9) rfl d_CO_keepCode_190 ?_
      have hPc := hP.sub (ws' := [(cs, .inr (1, [.ref csb, .int n9])), (csb, .inl (ccsb, 8192, .inl f10)), (bo, .inr (1, [.ref bob, .int bo_length])), (bob, .inl (cbob, 8192, .inl gbob))]) [4, 5, 2, 3] rfl
      have hDc := hD.sub (ws' := [(cs, .inr (1, [.ref csb, .int n9])), (csb, .inl (ccsb, 8192, .inl f10)), (bo, .inr (1, [.ref bob, .int bo_length])), (bob, .inl (cbob, 8192, .inl gbob))]) [4, 5, 2, 3] (by decide) rfl
      have hKc := hK.sub (tys' := [(ccsb, .byte), (cbob, .byte)]) [2, 1] rfl
      have hFc := va_free (wc := [(cs, .inr (1, [.ref csb, .int n9])), (csb, .inl (ccsb, 8192, .inl f10)), (bo, .inr (1, [.ref bob, .int bo_length])), (bob, .inl (cbob, 8192, .inl gbob))]) hD hS hA [4, 5, 2, 3] rfl
      refine va_callv (va_runV (As := [.ref bo, .int 0, .int bo_length]) (rest := []) ⟨hx, hb, hml, hown, hts⟩ (c_BR_putPart l dC dI cs csb bo bob H.size ccsb cbob 8192 8192 n9 bo_length f10 gbob (by omega) (by omega) (by omega) (by omega) (by omega) (by omega) 0 bo_length (by omega) (by omega) (by omega) (by omega)) (cwV 3 hts (gV kM_CO_288 kV_BR_putPart kS_BR_putPart kI_BR kC_BR_putPart) rfl rfl rfl (by decide +kernel) ⟨Nat.le_of_ble_eq_true rfl, Nat.le_of_ble_eq_true rfl⟩) ⟨fun a U g mk z => by obtain ⟨z0, z1, zP, zK, zD⟩ := z; exact ⟨z0, z1, zP, va_K.moved (u := U) (U := U.calling g mk a) (Vm.Alike.refl U.vm) zK, zD⟩, va_recv hKc hPc (ci := 1) (q0 := 0) rfl rfl, fun U hU hW => ⟨rfl, by rw [hU], by rw [hU]; exact hPc, va_K.moved hW.alike hKc, hDc.weaken (fun _ _ _ _ => trivial)⟩⟩ rfl rfl hl.1 rfl (lv_room (Nat.le_of_ble_eq_true rfl)) d_CO_keepCode_193 ⟨(Nat.zero_le _), (Nat.zero_le _)⟩) hS (fun q _ h => hFc q h) hFc (fun u t H1 locs ht hvm hw hB hz1 hk1 hS => ?_)
      obtain ⟨n12, f13⟩ := u
      try dsimp only at hw
      obtain ⟨tn12, bn12⟩ := hw
      obtain ⟨hP1, hK1, hD1⟩ := hB
      rw [ht] at hP1
      obtain ⟨hP, hD⟩ := va_join (wr := [(h0, .inr (2, [.ref pr, .ref kn, .ref lt, .int h0_localCount, .ref pe, .int h0_pendingCount, .int h0_gives, .int h0_depth, .int h0_loopDepth, .ref to, .ref bo, .ref cs, .ref se])), (lt, .inl (clt, 50, .inl wlt)), (se, .inr (1, [.ref seb, .int j64_se_length])), (seb, .inl (cseb, 8192, .inl j64_seb))]) (w1 := [(cs, .inr (1, [.ref csb, .int n12])), (csb, .inl (ccsb, 8192, .inl f13)), (bo, .inr (1, [.ref bob, .int bo_length])), (bob, .inl (cbob, 8192, .inl gbob))]) hP hD [4, 5, 2, 3] [0, 1, 6, 7] rfl rfl (by decide) (by decide) hk1 hFc hP1 hD1
      clear hPc hDc hKc hFc hz1 hk1 hP1 hK1 hD1
      generalize H1 = H at hP hS ⊢
      have hP : va_P (dC, dI) cls [(h0, .inr (2, [.ref pr, .ref kn, .ref lt, .int h0_localCount, .ref pe, .int h0_pendingCount, .int h0_gives, .int h0_depth, .int h0_loopDepth, .ref to, .ref bo, .ref cs, .ref se])), (lt, .inl (clt, 50, .inl wlt)), (se, .inr (1, [.ref seb, .int j64_se_length])), (seb, .inl (cseb, 8192, .inl j64_seb)), (cs, .inr (1, [.ref csb, .int n12])), (csb, .inl (ccsb, 8192, .inl f13)), (bo, .inr (1, [.ref bob, .int bo_length])), (bob, .inl (cbob, 8192, .inl gbob))] H := hP
      have hD : va_D A [(h0, .inr (2, [.ref pr, .ref kn, .ref lt, .int h0_localCount, .ref pe, .int h0_pendingCount, .int h0_gives, .int h0_depth, .int h0_loopDepth, .ref to, .ref bo, .ref cs, .ref se])), (lt, .inl (clt, 50, .inl wlt)), (se, .inr (1, [.ref seb, .int j64_se_length])), (seb, .inl (cseb, 8192, .inl j64_seb)), (cs, .inr (1, [.ref csb, .int n12])), (csb, .inl (ccsb, 8192, .inl f13)), (bo, .inr (1, [.ref bob, .int bo_length])), (bob, .inl (cbob, 8192, .inl gbob))] := hD
      have hP9 := hP.sub (ws' := [(h0, .inr (2, [.ref pr, .ref kn, .ref lt, .int h0_localCount, .ref pe, .int h0_pendingCount, .int h0_gives, .int h0_depth, .int h0_loopDepth, .ref to, .ref bo, .ref cs, .ref se])), (lt, .inl (clt, 50, .inl wlt)), (bo, .inr (1, [.ref bob, .int bo_length])), (bob, .inl (cbob, 8192, .inl gbob)), (cs, .inr (1, [.ref csb, .int n12])), (csb, .inl (ccsb, 8192, .inl f13)), (se, .inr (1, [.ref seb, .int j64_se_length])), (seb, .inl (cseb, 8192, .inl j64_seb))]) [0, 1, 6, 7, 4, 5, 2, 3] rfl
      have hD9 := hD.sub (ws' := [(h0, .inr (2, [.ref pr, .ref kn, .ref lt, .int h0_localCount, .ref pe, .int h0_pendingCount, .int h0_gives, .int h0_depth, .int h0_loopDepth, .ref to, .ref bo, .ref cs, .ref se])), (lt, .inl (clt, 50, .inl wlt)), (bo, .inr (1, [.ref bob, .int bo_length])), (bob, .inl (cbob, 8192, .inl gbob)), (cs, .inr (1, [.ref csb, .int n12])), (csb, .inl (ccsb, 8192, .inl f13)), (se, .inr (1, [.ref seb, .int j64_se_length])), (seb, .inl (cseb, 8192, .inl j64_seb))]) [0, 1, 6, 7, 4, 5, 2, 3] (by decide) rfl
      exact W.vret hx hb hr (fun t ht hW => ⟨⟨(f13, j64_seb, n12, j64_se_length), rfl, ⟨by (try dsimp only) <;> omega, b_j64_se_length, ⟨R9, r9.1, by omega, by omega, by rw [← usz]; (try dsimp only) <;> omega, by (try dsimp only); rw [bn12, bn9, bn6, e9, show (0 : Int32).toNatClampNeg = 0 from rfl, List.drop_zero, List.drop_zero, List.take_of_length_le (by rw [List.length_append, List.length_singleton, rb_len]; have := i32_clamp (x := j64_se_length) (by omega); omega), List.take_of_length_le (by rw [bl_len]; exact Nat.le_refl _), ← usz, show j4_l2.toInt.toNat = R9.length from by omega]; simp only [List.append_assoc]; rfl⟩⟩, by rw [ht]; exact hP9, va_K.moved hW.alike hK, hD9⟩, hS.F ht⟩) hS.2.2 d_CO_keepCode_196
    · have q70 := nleI c70
      obtain ⟨R9, r9, e9, n9⟩ := hr
      have w9 := rst_le (lt := wlt) (p := p0.toInt.toNat) (j64_l4.toInt - p0.toInt).toNat
      have w8 := r9.2.2.1
      have w7 := r9.2.1
      have w6 : R9.length ≤ (j64_l4.toInt - p0.toInt).toNat := by split at w8 <;> omega
      obtain ⟨x14, ex14⟩ : ∃ z : Int32, z = j64_l3 + 1 := ⟨_, rfl⟩
      have tx14 : x14.toInt = j64_l3.toInt + 1 := by have z := i32_add ex14 (by omega) (by omega); omega
      refine lv_iinc (v := x14) (lv' := [(3, .int x14), (0, .ref h0), (4, .int j64_l4)]) hx hb d_CO_keepCode_73 hl (k := 1) rfl (by rw [ex14]; rfl) (by decide) rfl (fun ls hl => ?_)
      refine lv_iload hx hb d_CO_keepCode_76 (lv_at hl 2 rfl) ?_
      refine lv_iconst (v := 1) hx hb d_CO_keepCode_78 (by decide) ?_
      refine lv_iadd hx hb d_CO_keepCode_79 ?_
      refine lv_topi (fun x15 ex15 => ?_)
      have tx15 : x15.toInt = j64_l4.toInt + 1 := by have z := i32_add ex15 (by omega) (by omega); omega
      refine lv_aload_n hx hb d_CO_keepCode_80 rfl (lv_at hl 1 rfl) ?_
      refine va_get (D := (dC, dI)) (ci := 2) (v := .int h0_localCount) (C := R_CO) (T := F_CO) (N := 13) hx hb hts i_CO hown hK hP 0 rfl rfl 3 (by decide) (hts _ kF_CO_109) (fun _ h9 => h9) rfl d_CO_keepCode_81 ?_
      refine w_cut (pc2 := 130) (σ := Int32 × (Nat → Int32) × Int32) (fun u H locs ls => match u with | (j130_l3, j130_seb, j130_se_length) => (0 ≤ j130_se_length.toInt ∧ j130_se_length.toInt ≤ 8192) ∧ (0 ≤ j130_l3.toInt ∧ j130_l3.toInt ≤ 50) ∧ (∃ R : List (Nat × Nat), rI wlt p0.toInt.toNat ((j64_l4.toInt - p0.toInt).toNat + 1) j130_l3.toInt.toNat (h0_localCount.toInt - p0.toInt).toNat R ∧ bl j130_seb j130_se_length.toNatClampNeg = [j4_l2.toInt.toNat] ++ rb R ∧ j130_se_length.toInt = 1 + 2 * (R.length : Int)) ∧ va_P (dC, dI) cls [(h0, .inr (2, [.ref pr, .ref kn, .ref lt, .int h0_localCount, .ref pe, .int h0_pendingCount, .int h0_gives, .int h0_depth, .int h0_loopDepth, .ref to, .ref bo, .ref cs, .ref se])), (lt, .inl (clt, 50, .inl wlt)), (bo, .inr (1, [.ref bob, .int bo_length])), (bob, .inl (cbob, 8192, .inl gbob)), (cs, .inr (1, [.ref csb, .int cs_length])), (csb, .inl (ccsb, 8192, .inl gcsb)), (se, .inr (1, [.ref seb, .int j130_se_length])), (seb, .inl (cseb, 8192, .inl j130_seb))] H ∧ va_D A [(h0, .inr (2, [.ref pr, .ref kn, .ref lt, .int h0_localCount, .ref pe, .int h0_pendingCount, .int h0_gives, .int h0_depth, .int h0_loopDepth, .ref to, .ref bo, .ref cs, .ref se])), (lt, .inl (clt, 50, .inl wlt)), (bo, .inr (1, [.ref bob, .int bo_length])), (bob, .inl (cbob, 8192, .inl gbob)), (cs, .inr (1, [.ref csb, .int cs_length])), (csb, .inl (ccsb, 8192, .inl gcsb)), (se, .inr (1, [.ref seb, .int j130_se_length])), (seb, .inl (cseb, 8192, .inl j130_seb))] ∧ va_S A s.heap H locs ∧ lv_has ls 5 [(0, .ref h0), (3, .int j130_l3), (4, .int j64_l4)]) (fun u => match u with | (j130_l3, j130_seb, j130_se_length) => []) ?_ (fun jn130 => ?_)
      · intro u H locs ls hI
        obtain ⟨j130_l3, j130_seb, j130_se_length⟩ := u
        obtain ⟨b_j130_se_length, y130, hr, hP, hD, hS, hl⟩ := hI
        obtain ⟨x16, ex16⟩ : ∃ z : Int32, z = j64_l4 + 1 := ⟨_, rfl⟩
        have tx16 : x16.toInt = j64_l4.toInt + 1 := by have z := i32_add ex16 (by omega) (by omega); omega
        refine lv_iinc (v := x16) (lv' := [(4, .int x16), (0, .ref h0), (3, .int j130_l3)]) hx hb d_CO_keepCode_130 hl (k := 2) rfl (by rw [ex16]; rfl) (by decide) rfl (fun ls hl => ?_)
        refine lv_goto (tgt := 64) hx hb d_CO_keepCode_133 (by decide) ?_
        exact ih64 (j130_l3, x16, j130_seb, j130_se_length) _ _ _ (by show (h0_localCount.toInt - x16.toInt).toNat < N64; omega) ⟨b_j130_se_length, by (try dsimp only) <;> omega, (by rw [show (x16.toInt - p0.toInt).toNat = (j64_l4.toInt - p0.toInt).toNat + 1 from by omega]; exact hr), hP, hD, hS, lv_sub hl [1, 2, 0] rfl⟩
      · skip
        refine w_cut (pc2 := 106) (σ := Unit) (fun u H locs ls => match u with | _ => ((j64_l4.toInt - p0.toInt).toNat + 1 = (h0_localCount.toInt - p0.toInt).toNat ∨ wlt (p0.toInt.toNat + ((j64_l4.toInt - p0.toInt).toNat + 1)) ≠ wlt (p0.toInt.toNat + (j64_l4.toInt - p0.toInt).toNat)) ∧ va_P (dC, dI) cls [(h0, .inr (2, [.ref pr, .ref kn, .ref lt, .int h0_localCount, .ref pe, .int h0_pendingCount, .int h0_gives, .int h0_depth, .int h0_loopDepth, .ref to, .ref bo, .ref cs, .ref se])), (lt, .inl (clt, 50, .inl wlt)), (bo, .inr (1, [.ref bob, .int bo_length])), (bob, .inl (cbob, 8192, .inl gbob)), (cs, .inr (1, [.ref csb, .int cs_length])), (csb, .inl (ccsb, 8192, .inl gcsb)), (se, .inr (1, [.ref seb, .int j64_se_length])), (seb, .inl (cseb, 8192, .inl j64_seb))] H ∧ va_D A [(h0, .inr (2, [.ref pr, .ref kn, .ref lt, .int h0_localCount, .ref pe, .int h0_pendingCount, .int h0_gives, .int h0_depth, .int h0_loopDepth, .ref to, .ref bo, .ref cs, .ref se])), (lt, .inl (clt, 50, .inl wlt)), (bo, .inr (1, [.ref bob, .int bo_length])), (bob, .inl (cbob, 8192, .inl gbob)), (cs, .inr (1, [.ref csb, .int cs_length])), (csb, .inl (ccsb, 8192, .inl gcsb)), (se, .inr (1, [.ref seb, .int j64_se_length])), (seb, .inl (cseb, 8192, .inl j64_seb))] ∧ va_S A s.heap H locs ∧ lv_has ls 5 [(0, .ref h0), (3, .int x14), (4, .int j64_l4)]) (fun u => match u with | _ => []) ?_ (fun jn106 => ?_)
        · intro u H locs ls hI
          obtain ⟨y106, hP, hD, hS, hl⟩ := hI
          refine lv_aload_n hx hb d_CO_keepCode_106 rfl (lv_at hl 0 rfl) ?_
          refine va_get (D := (dC, dI)) (ci := 2) (v := .ref se) (C := R_CO) (T := F_CO) (N := 13) hx hb hts i_CO hown hK hP 0 rfl rfl 12 (by decide) (hts _ kF_CO_33) (fun _ h9 => h9) rfl d_CO_keepCode_107 ?_
          refine lv_iload_n hx hb d_CO_keepCode_110 rfl (lv_at hl 1 rfl) ?_
          have hPc := hP.sub (ws' := [(se, .inr (1, [.ref seb, .int j64_se_length])), (seb, .inl (cseb, 8192, .inl j64_seb))]) [6, 7] rfl
          have hDc := hD.sub (ws' := [(se, .inr (1, [.ref seb, .int j64_se_length])), (seb, .inl (cseb, 8192, .inl j64_seb))]) [6, 7] (by decide) rfl
          have hKc := hK.sub (tys' := [(cseb, .byte)]) [3] rfl
          have hFc := va_free (wc := [(se, .inr (1, [.ref seb, .int j64_se_length])), (seb, .inl (cseb, 8192, .inl j64_seb))]) hD hS hA [6, 7] rfl
          refine va_callv (va_runV (As := [.int x14]) (rest := []) ⟨hx, hb, hml, hown, hts⟩ (c_BR_putUnsigned l dC dI se seb H.size cseb 8192 j64_se_length j64_seb (by omega) (by omega) (by omega) x14 (by omega)) (cwV 1 hts (gV kM_CO_218 kV_BR_putUnsigned kS_BR_putUnsigned kI_BR kC_BR_putUnsigned) rfl rfl rfl (by decide +kernel) ⟨Nat.le_of_ble_eq_true rfl, Nat.le_of_ble_eq_true rfl⟩) ⟨fun a U g mk z => by obtain ⟨z0, z1, zP, zK, zD⟩ := z; exact ⟨z0, z1, zP, va_K.moved (u := U) (U := U.calling g mk a) (Vm.Alike.refl U.vm) zK, zD⟩, va_recv hKc hPc (ci := 1) (q0 := 0) rfl rfl, fun U hU hW => ⟨rfl, by rw [hU], by rw [hU]; exact hPc, va_K.moved hW.alike hKc, hDc.weaken (fun _ _ _ _ => trivial)⟩⟩ rfl rfl hl.1 rfl (lv_room (Nat.le_of_ble_eq_true rfl)) d_CO_keepCode_111 ⟨(Nat.zero_le _), (Nat.zero_le _)⟩) hS (fun q _ h => hFc q h) hFc (fun u t H1 locs ht hvm hw hB hz1 hk1 hS => ?_)
          obtain ⟨n18, f19⟩ := u
          try dsimp only at hw
          obtain ⟨tn18, bn18⟩ := hw
          have ln18 := leb_len 5 (un x14)
          obtain ⟨hP1, hK1, hD1⟩ := hB
          rw [ht] at hP1
          obtain ⟨hP, hD⟩ := va_join (wr := [(h0, .inr (2, [.ref pr, .ref kn, .ref lt, .int h0_localCount, .ref pe, .int h0_pendingCount, .int h0_gives, .int h0_depth, .int h0_loopDepth, .ref to, .ref bo, .ref cs, .ref se])), (lt, .inl (clt, 50, .inl wlt)), (bo, .inr (1, [.ref bob, .int bo_length])), (bob, .inl (cbob, 8192, .inl gbob)), (cs, .inr (1, [.ref csb, .int cs_length])), (csb, .inl (ccsb, 8192, .inl gcsb))]) (w1 := [(se, .inr (1, [.ref seb, .int n18])), (seb, .inl (cseb, 8192, .inl f19))]) hP hD [6, 7] [0, 1, 2, 3, 4, 5] rfl rfl (by decide) (by decide) hk1 hFc hP1 hD1
          clear hPc hDc hKc hFc hz1 hk1 hP1 hK1 hD1
          generalize H1 = H at hP hS ⊢
          have hP : va_P (dC, dI) cls [(h0, .inr (2, [.ref pr, .ref kn, .ref lt, .int h0_localCount, .ref pe, .int h0_pendingCount, .int h0_gives, .int h0_depth, .int h0_loopDepth, .ref to, .ref bo, .ref cs, .ref se])), (lt, .inl (clt, 50, .inl wlt)), (bo, .inr (1, [.ref bob, .int bo_length])), (bob, .inl (cbob, 8192, .inl gbob)), (cs, .inr (1, [.ref csb, .int cs_length])), (csb, .inl (ccsb, 8192, .inl gcsb)), (se, .inr (1, [.ref seb, .int n18])), (seb, .inl (cseb, 8192, .inl f19))] H := hP
          have hD : va_D A [(h0, .inr (2, [.ref pr, .ref kn, .ref lt, .int h0_localCount, .ref pe, .int h0_pendingCount, .int h0_gives, .int h0_depth, .int h0_loopDepth, .ref to, .ref bo, .ref cs, .ref se])), (lt, .inl (clt, 50, .inl wlt)), (bo, .inr (1, [.ref bob, .int bo_length])), (bob, .inl (cbob, 8192, .inl gbob)), (cs, .inr (1, [.ref csb, .int cs_length])), (csb, .inl (ccsb, 8192, .inl gcsb)), (se, .inr (1, [.ref seb, .int n18])), (seb, .inl (cseb, 8192, .inl f19))] := hD
          have l114 := congrArg List.length (leb_s (x := x14) (by omega) (by omega))
          rw [List.length_singleton] at l114
          refine lv_aload_n hx hb d_CO_keepCode_114 rfl (lv_at hl 0 rfl) ?_
          refine va_get (D := (dC, dI)) (ci := 2) (v := .ref se) (C := R_CO) (T := F_CO) (N := 13) hx hb hts i_CO hown hK hP 0 rfl rfl 12 (by decide) (hts _ kF_CO_33) (fun _ h9 => h9) rfl d_CO_keepCode_115 ?_
          refine lv_aload_n hx hb d_CO_keepCode_118 rfl (lv_at hl 0 rfl) ?_
          refine va_get (D := (dC, dI)) (ci := 2) (v := .ref lt) (C := R_CO) (T := F_CO) (N := 13) hx hb hts i_CO hown hK hP 0 rfl rfl 2 (by decide) (hts _ kF_CO_9) (fun _ h9 => h9) rfl d_CO_keepCode_119 ?_
          refine lv_iload hx hb d_CO_keepCode_122 (lv_at hl 2 rfl) ?_
          have g124 : vp_in j64_l4 50 := vp_in_iff.mpr ⟨by omega, by omega⟩
          refine va_iald hx hb hK hP 1 0 rfl rfl g124 d_CO_keepCode_124 ?_
          refine lv_topi (fun x20 ex20 => ?_)
          have tx20 := hlq.out j64_l4.toNatClampNeg (by have := i32_clamp (x := j64_l4) (by omega); omega)
          rw [← ex20] at tx20
          have hPc := hP.sub (ws' := [(se, .inr (1, [.ref seb, .int n18])), (seb, .inl (cseb, 8192, .inl f19))]) [6, 7] rfl
          have hDc := hD.sub (ws' := [(se, .inr (1, [.ref seb, .int n18])), (seb, .inl (cseb, 8192, .inl f19))]) [6, 7] (by decide) rfl
          have hKc := hK.sub (tys' := [(cseb, .byte)]) [3] rfl
          have hFc := va_free (wc := [(se, .inr (1, [.ref seb, .int n18])), (seb, .inl (cseb, 8192, .inl f19))]) hD hS hA [6, 7] rfl
          refine va_callv (va_runV (As := [.int x20]) (rest := []) ⟨hx, hb, hml, hown, hts⟩ (c_BR_put l dC dI se seb H.size cseb 8192 n18 f19 (by omega) (by omega) (by omega) x20) (cwV 1 hts (gV kM_CO_76 kV_BR_put kS_BR_put kI_BR kC_BR_put) rfl rfl rfl (by decide +kernel) ⟨Nat.le_of_ble_eq_true rfl, Nat.le_of_ble_eq_true rfl⟩) ⟨fun a U g mk z => by obtain ⟨z0, z1, zP, zK, zD⟩ := z; exact ⟨z0, z1, zP, va_K.moved (u := U) (U := U.calling g mk a) (Vm.Alike.refl U.vm) zK, zD⟩, va_recv hKc hPc (ci := 1) (q0 := 0) rfl rfl, fun U hU hW => ⟨rfl, by rw [hU], by rw [hU]; exact hPc, va_K.moved hW.alike hKc, hDc.weaken (fun _ _ _ _ => trivial)⟩⟩ rfl rfl hl.1 rfl (lv_room (Nat.le_of_ble_eq_true rfl)) d_CO_keepCode_125 ⟨(Nat.zero_le _), (Nat.zero_le _)⟩) hS (fun q _ h => hFc q h) hFc (fun u t H1 locs ht hvm hw hB hz1 hk1 hS => ?_)
          obtain ⟨n22, f23⟩ := u
          try dsimp only at hw
          have tn22 := br_put_in (by omega) (by omega) (by omega) hw
          have bn22 := br_put_bl (by omega) (by omega) (by omega) hw
          obtain ⟨hP1, hK1, hD1⟩ := hB
          rw [ht] at hP1
          obtain ⟨hP, hD⟩ := va_join (wr := [(h0, .inr (2, [.ref pr, .ref kn, .ref lt, .int h0_localCount, .ref pe, .int h0_pendingCount, .int h0_gives, .int h0_depth, .int h0_loopDepth, .ref to, .ref bo, .ref cs, .ref se])), (lt, .inl (clt, 50, .inl wlt)), (bo, .inr (1, [.ref bob, .int bo_length])), (bob, .inl (cbob, 8192, .inl gbob)), (cs, .inr (1, [.ref csb, .int cs_length])), (csb, .inl (ccsb, 8192, .inl gcsb))]) (w1 := [(se, .inr (1, [.ref seb, .int n22])), (seb, .inl (cseb, 8192, .inl f23))]) hP hD [6, 7] [0, 1, 2, 3, 4, 5] rfl rfl (by decide) (by decide) hk1 hFc hP1 hD1
          clear hPc hDc hKc hFc hz1 hk1 hP1 hK1 hD1
          generalize H1 = H at hP hS ⊢
          have hP : va_P (dC, dI) cls [(h0, .inr (2, [.ref pr, .ref kn, .ref lt, .int h0_localCount, .ref pe, .int h0_pendingCount, .int h0_gives, .int h0_depth, .int h0_loopDepth, .ref to, .ref bo, .ref cs, .ref se])), (lt, .inl (clt, 50, .inl wlt)), (bo, .inr (1, [.ref bob, .int bo_length])), (bob, .inl (cbob, 8192, .inl gbob)), (cs, .inr (1, [.ref csb, .int cs_length])), (csb, .inl (ccsb, 8192, .inl gcsb)), (se, .inr (1, [.ref seb, .int n22])), (seb, .inl (cseb, 8192, .inl f23))] H := hP
          have hD : va_D A [(h0, .inr (2, [.ref pr, .ref kn, .ref lt, .int h0_localCount, .ref pe, .int h0_pendingCount, .int h0_gives, .int h0_depth, .int h0_loopDepth, .ref to, .ref bo, .ref cs, .ref se])), (lt, .inl (clt, 50, .inl wlt)), (bo, .inr (1, [.ref bob, .int bo_length])), (bob, .inl (cbob, 8192, .inl gbob)), (cs, .inr (1, [.ref csb, .int cs_length])), (csb, .inl (ccsb, 8192, .inl gcsb)), (se, .inr (1, [.ref seb, .int n22])), (seb, .inl (cseb, 8192, .inl f23))] := hD
          refine lv_iconst (v := 0) hx hb d_CO_keepCode_128 (by decide) ?_
          refine lv_istore_n (lv' := [(3, .int 0), (0, .ref h0), (4, .int j64_l4)]) hx hb d_CO_keepCode_129 rfl hl (by decide) rfl (fun ls hl => ?_)
          exact jn130 (0, f23, n22) _ _ _ ⟨by (try dsimp only) <;> omega, by (try dsimp only) <;> omega, ⟨R9 ++ [(x14.toInt.toNat, x20.toInt.toNat)], (by have w9 := rI_end (t := x20.toInt.toNat) r9 (by omega) (by omega) y106 (by omega); rw [show j64_l3.toInt.toNat + 1 = x14.toInt.toNat from by omega] at w9; exact w9), by rw [bn22 (by omega), bn18, e9, leb_s (by omega) (by omega), bn_s (by omega) (by omega), rb_app, List.append_assoc, List.append_assoc]; rfl, by have := congrArg List.length (leb_s (x := x14) (by omega) (by omega)); rw [List.length_singleton] at this; rw [List.length_append, List.length_singleton]; omega⟩, hP, hD, hS, lv_sub hl [1, 0, 2] rfl⟩
        · skip
          refine lv_icmp_eq (tgt := 106) hx hb d_CO_keepCode_84 (by decide) (fun c84 => ?_) (fun c84 => ?_)
          · have q84 := eqI c84
            exact jn106 () _ _ _ ⟨Or.inl (by omega), hP, hD, hS, lv_sub hl [1, 0, 2] rfl⟩
          · have q84 := neI c84
            refine lv_aload_n hx hb d_CO_keepCode_87 rfl (lv_at hl 1 rfl) ?_
            refine va_get (D := (dC, dI)) (ci := 2) (v := .ref lt) (C := R_CO) (T := F_CO) (N := 13) hx hb hts i_CO hown hK hP 0 rfl rfl 2 (by decide) (hts _ kF_CO_9) (fun _ h9 => h9) rfl d_CO_keepCode_88 ?_
            refine lv_iload hx hb d_CO_keepCode_91 (lv_at hl 2 rfl) ?_
            refine lv_iconst (v := 1) hx hb d_CO_keepCode_93 (by decide) ?_
            refine lv_iadd hx hb d_CO_keepCode_94 ?_
            refine lv_topi (fun x24 ex24 => ?_)
            have tx24 : x24.toInt = j64_l4.toInt + 1 := by have z := i32_add ex24 (by omega) (by omega); omega
            have g95 : vp_in x24 50 := vp_in_iff.mpr ⟨by omega, by omega⟩
            refine va_iald hx hb hK hP 1 0 rfl rfl g95 d_CO_keepCode_95 ?_
            refine lv_topi (fun x25 ex25 => ?_)
            refine lv_aload_n hx hb d_CO_keepCode_96 rfl (lv_at hl 1 rfl) ?_
            refine va_get (D := (dC, dI)) (ci := 2) (v := .ref lt) (C := R_CO) (T := F_CO) (N := 13) hx hb hts i_CO hown hK hP 0 rfl rfl 2 (by decide) (hts _ kF_CO_9) (fun _ h9 => h9) rfl d_CO_keepCode_97 ?_
            refine lv_iload hx hb d_CO_keepCode_100 (lv_at hl 2 rfl) ?_
            have g102 : vp_in j64_l4 50 := vp_in_iff.mpr ⟨by omega, by omega⟩
            refine va_iald hx hb hK hP 1 0 rfl rfl g102 d_CO_keepCode_102 ?_
            refine lv_topi (fun x26 ex26 => ?_)
            refine lv_icmp_eq (tgt := 130) hx hb d_CO_keepCode_103 (by decide) (fun c103 => ?_) (fun c103 => ?_)
            · have q103 := eqI c103
              exact jn130 (x14, j64_seb, j64_se_length) _ _ _ ⟨b_j64_se_length, by (try dsimp only) <;> omega, ⟨R9, (by rw [show x14.toInt.toNat = j64_l3.toInt.toNat + 1 from by omega]; exact rI_on r9 (by omega) (by rw [← show x24.toNatClampNeg = p0.toInt.toNat + ((j64_l4.toInt - p0.toInt).toNat + 1) from by have := i32_clamp (x := x24) (by omega); omega, ← show j64_l4.toNatClampNeg = p0.toInt.toNat + (j64_l4.toInt - p0.toInt).toNat from by have := i32_clamp (x := j64_l4) (by omega); omega, ← ex25, ← ex26]; exact Int32.toInt_inj.mp (by omega))), e9, n9⟩, hP, hD, hS, lv_sub hl [1, 0, 2] rfl⟩
            · have q103 := neI c103
              exact jn106 () _ _ _ ⟨Or.inr (by rw [← show x24.toNatClampNeg = p0.toInt.toNat + ((j64_l4.toInt - p0.toInt).toNat + 1) from by have := i32_clamp (x := x24) (by omega); omega, ← show j64_l4.toNatClampNeg = p0.toInt.toNat + (j64_l4.toInt - p0.toInt).toNat from by have := i32_clamp (x := j64_l4) (by omega); omega, ← ex25, ← ex26]; exact fun z => q103 (congrArg Int32.toInt z)), hP, hD, hS, lv_sub hl [1, 0, 2] rfl⟩
  · have q9 := nleI c9
    have w4 := rst_le (lt := wlt) (p := p0.toInt.toNat) (j4_l3.toInt - p0.toInt).toNat
    refine lv_iload_n hx hb d_CO_keepCode_12 rfl (lv_at hl 3 rfl) ?_
    refine lv_iload_n hx hb d_CO_keepCode_13 rfl (lv_at hl 1 rfl) ?_
    refine w_cut (pc2 := 37) (σ := Int32) (fun u H locs ls => match u with | j37_l2 => (j37_l2.toInt = ((rst wlt p0.toInt.toNat (j4_l3.toInt - p0.toInt).toNat + (if (j4_l3.toInt - p0.toInt).toNat = 0 ∨ wlt (p0.toInt.toNat + (j4_l3.toInt - p0.toInt).toNat) ≠ wlt (p0.toInt.toNat + (j4_l3.toInt - p0.toInt).toNat - 1) then 1 else 0) : Nat) : Int)) ∧ va_P (dC, dI) cls [(h0, .inr (2, [.ref pr, .ref kn, .ref lt, .int h0_localCount, .ref pe, .int h0_pendingCount, .int h0_gives, .int h0_depth, .int h0_loopDepth, .ref to, .ref bo, .ref cs, .ref se])), (lt, .inl (clt, 50, .inl wlt)), (bo, .inr (1, [.ref bob, .int bo_length])), (bob, .inl (cbob, 8192, .inl gbob)), (cs, .inr (1, [.ref csb, .int cs_length])), (csb, .inl (ccsb, 8192, .inl gcsb)), (se, .inr (1, [.ref seb, .int se_length])), (seb, .inl (cseb, 8192, .inl gseb))] H ∧ va_D A [(h0, .inr (2, [.ref pr, .ref kn, .ref lt, .int h0_localCount, .ref pe, .int h0_pendingCount, .int h0_gives, .int h0_depth, .int h0_loopDepth, .ref to, .ref bo, .ref cs, .ref se])), (lt, .inl (clt, 50, .inl wlt)), (bo, .inr (1, [.ref bob, .int bo_length])), (bob, .inl (cbob, 8192, .inl gbob)), (cs, .inr (1, [.ref csb, .int cs_length])), (csb, .inl (ccsb, 8192, .inl gcsb)), (se, .inr (1, [.ref seb, .int se_length])), (seb, .inl (cseb, 8192, .inl gseb))] ∧ va_S A s.heap H locs ∧ lv_has ls 5 [(0, .ref h0), (1, .int p0), (2, .int j37_l2), (3, .int j4_l3)]) (fun u => match u with | j37_l2 => []) ?_ (fun jn37 => ?_)
    · intro u H locs ls hI
      obtain ⟨j37_l2, rfl⟩ : ∃ z, z = u := ⟨_, rfl⟩
      obtain ⟨y37, hP, hD, hS, hl⟩ := hI
      have i37 : (if (j4_l3.toInt - p0.toInt).toNat = 0 ∨ wlt (p0.toInt.toNat + (j4_l3.toInt - p0.toInt).toNat) ≠ wlt (p0.toInt.toNat + (j4_l3.toInt - p0.toInt).toNat - 1) then 1 else 0) ≤ 1 := by split <;> omega
      obtain ⟨x27, ex27⟩ : ∃ z : Int32, z = j4_l3 + 1 := ⟨_, rfl⟩
      have tx27 : x27.toInt = j4_l3.toInt + 1 := by have z := i32_add ex27 (by omega) (by omega); omega
      refine lv_iinc (v := x27) (lv' := [(3, .int x27), (0, .ref h0), (1, .int p0), (2, .int j37_l2)]) hx hb d_CO_keepCode_37 hl (k := 3) rfl (by rw [ex27]; rfl) (by decide) rfl (fun ls hl => ?_)
      refine lv_goto (tgt := 4) hx hb d_CO_keepCode_40 (by decide) ?_
      exact ih4 (j37_l2, x27) _ _ _ (by show (h0_localCount.toInt - x27.toInt).toNat < N4; omega) ⟨by (try dsimp only) <;> omega, (by rw [show (x27.toInt - p0.toInt).toNat = (j4_l3.toInt - p0.toInt).toNat + 1 from by omega]; show j37_l2.toInt = ((rst wlt p0.toInt.toNat (j4_l3.toInt - p0.toInt).toNat + _ : Nat) : Int); exact y37), hP, hD, hS, lv_sub hl [1, 2, 3, 0] rfl⟩
    · skip
      refine w_cut (pc2 := 34) (σ := Unit) (fun u H locs ls => match u with | _ => ((j4_l3.toInt - p0.toInt).toNat = 0 ∨ wlt (p0.toInt.toNat + (j4_l3.toInt - p0.toInt).toNat) ≠ wlt (p0.toInt.toNat + (j4_l3.toInt - p0.toInt).toNat - 1)) ∧ va_P (dC, dI) cls [(h0, .inr (2, [.ref pr, .ref kn, .ref lt, .int h0_localCount, .ref pe, .int h0_pendingCount, .int h0_gives, .int h0_depth, .int h0_loopDepth, .ref to, .ref bo, .ref cs, .ref se])), (lt, .inl (clt, 50, .inl wlt)), (bo, .inr (1, [.ref bob, .int bo_length])), (bob, .inl (cbob, 8192, .inl gbob)), (cs, .inr (1, [.ref csb, .int cs_length])), (csb, .inl (ccsb, 8192, .inl gcsb)), (se, .inr (1, [.ref seb, .int se_length])), (seb, .inl (cseb, 8192, .inl gseb))] H ∧ va_D A [(h0, .inr (2, [.ref pr, .ref kn, .ref lt, .int h0_localCount, .ref pe, .int h0_pendingCount, .int h0_gives, .int h0_depth, .int h0_loopDepth, .ref to, .ref bo, .ref cs, .ref se])), (lt, .inl (clt, 50, .inl wlt)), (bo, .inr (1, [.ref bob, .int bo_length])), (bob, .inl (cbob, 8192, .inl gbob)), (cs, .inr (1, [.ref csb, .int cs_length])), (csb, .inl (ccsb, 8192, .inl gcsb)), (se, .inr (1, [.ref seb, .int se_length])), (seb, .inl (cseb, 8192, .inl gseb))] ∧ va_S A s.heap H locs ∧ lv_has ls 5 [(0, .ref h0), (1, .int p0), (2, .int j4_l2), (3, .int j4_l3)]) (fun u => match u with | _ => []) ?_ (fun jn34 => ?_)
      · intro u H locs ls hI
        obtain ⟨y34, hP, hD, hS, hl⟩ := hI
        obtain ⟨x28, ex28⟩ : ∃ z : Int32, z = j4_l2 + 1 := ⟨_, rfl⟩
        have tx28 : x28.toInt = j4_l2.toInt + 1 := by have z := i32_add ex28 (by omega) (by omega); omega
        refine lv_iinc (v := x28) (lv' := [(2, .int x28), (0, .ref h0), (1, .int p0), (3, .int j4_l3)]) hx hb d_CO_keepCode_34 hl (k := 2) rfl (by rw [ex28]; rfl) (by decide) rfl (fun ls hl => ?_)
        exact jn37 x28 _ _ _ ⟨(by rw [if_pos y34]; omega), hP, hD, hS, lv_sub hl [1, 2, 0, 3] rfl⟩
      · skip
        refine lv_icmp_eq (tgt := 34) hx hb d_CO_keepCode_14 (by decide) (fun c14 => ?_) (fun c14 => ?_)
        · have q14 := eqI c14
          exact jn34 () _ _ _ ⟨Or.inl (by omega), hP, hD, hS, lv_sub hl [0, 1, 2, 3] rfl⟩
        · have q14 := neI c14
          refine lv_aload_n hx hb d_CO_keepCode_17 rfl (lv_at hl 0 rfl) ?_
          refine va_get (D := (dC, dI)) (ci := 2) (v := .ref lt) (C := R_CO) (T := F_CO) (N := 13) hx hb hts i_CO hown hK hP 0 rfl rfl 2 (by decide) (hts _ kF_CO_9) (fun _ h9 => h9) rfl d_CO_keepCode_18 ?_
          refine lv_iload_n hx hb d_CO_keepCode_21 rfl (lv_at hl 3 rfl) ?_
          have g22 : vp_in j4_l3 50 := vp_in_iff.mpr ⟨by omega, by omega⟩
          refine va_iald hx hb hK hP 1 0 rfl rfl g22 d_CO_keepCode_22 ?_
          refine lv_topi (fun x29 ex29 => ?_)
          refine lv_aload_n hx hb d_CO_keepCode_23 rfl (lv_at hl 0 rfl) ?_
          refine va_get (D := (dC, dI)) (ci := 2) (v := .ref lt) (C := R_CO) (T := F_CO) (N := 13) hx hb hts i_CO hown hK hP 0 rfl rfl 2 (by decide) (hts _ kF_CO_9) (fun _ h9 => h9) rfl d_CO_keepCode_24 ?_
          refine lv_iload_n hx hb d_CO_keepCode_27 rfl (lv_at hl 3 rfl) ?_
          refine lv_iconst (v := 1) hx hb d_CO_keepCode_28 (by decide) ?_
          refine lv_isub hx hb d_CO_keepCode_29 ?_
          refine lv_topi (fun x30 ex30 => ?_)
          have tx30 : x30.toInt = j4_l3.toInt - 1 := by have z := i32_sub ex30 (by omega) (by omega); omega
          have g30 : vp_in x30 50 := vp_in_iff.mpr ⟨by omega, by omega⟩
          refine va_iald hx hb hK hP 1 0 rfl rfl g30 d_CO_keepCode_30 ?_
          refine lv_topi (fun x31 ex31 => ?_)
          refine lv_icmp_eq (tgt := 37) hx hb d_CO_keepCode_31 (by decide) (fun c31 => ?_) (fun c31 => ?_)
          · have q31 := eqI c31
            exact jn37 j4_l2 _ _ _ ⟨(by rw [if_neg (fun z => by rcases z with z | z; omega; (apply z; rw [← show x30.toNatClampNeg = p0.toInt.toNat + (j4_l3.toInt - p0.toInt).toNat - 1 from by have := i32_clamp (x := x30) (by omega); omega, ← show j4_l3.toNatClampNeg = p0.toInt.toNat + (j4_l3.toInt - p0.toInt).toNat from by have := i32_clamp (x := j4_l3) (by omega); omega, ← ex29, ← ex31]; exact Int32.toInt_inj.mp (by omega)))]; omega), hP, hD, hS, lv_sub hl [0, 1, 2, 3] rfl⟩
          · have q31 := neI c31
            exact jn34 () _ _ _ ⟨Or.inr (by rw [← show x30.toNatClampNeg = p0.toInt.toNat + (j4_l3.toInt - p0.toInt).toNat - 1 from by have := i32_clamp (x := x30) (by omega); omega, ← show j4_l3.toNatClampNeg = p0.toInt.toNat + (j4_l3.toInt - p0.toInt).toNat from by have := i32_clamp (x := j4_l3) (by omega); omega, ← ex29, ← ex31]; exact fun z => q31 (congrArg Int32.toInt z)), hP, hD, hS, lv_sub hl [0, 1, 2, 3] rfl⟩
