section q_44
/-! Program: globals, parameters -/
def nm (L len : Int) (ns nz nt : Nat → Int32) (nv : Nat → Int64) (T : Int → Int → Prop) : Prop := ∀ j : Nat, (j : Int) < len → 0 ≤ (ns j).toInt ∧ 1 ≤ (nz j).toInt ∧ (nz j).toInt ≤ 20 ∧ (ns j).toInt + (nz j).toInt ≤ L ∧ T (nt j).toInt (nv j).toInt
theorem nm_add {L : Int} {len len2 : Int32} {ns nz nt ns2 nz2 nt2 : Nat → Int32} {nv nv2 : Nat → Int64} {T : Int → Int → Prop} {a z k : Int32} {v : Int64} (h : nm L len.toInt ns nz nt nv T) (h0 : 0 ≤ len.toInt)
    (hx : len2.toInt = len.toInt + 1 ∧ ns2 = upd ns len.toNatClampNeg a ∧ nz2 = upd nz len.toNatClampNeg z ∧ nt2 = upd nt len.toNatClampNeg k ∧ nv2 = vp_updL nv len.toNatClampNeg v) (ha : 0 ≤ a.toInt ∧ 1 ≤ z.toInt ∧ z.toInt ≤ 20 ∧ a.toInt + z.toInt ≤ L) (hT : T k.toInt v.toInt) : nm L len2.toInt ns2 nz2 nt2 nv2 T := by
  obtain ⟨e, rfl, rfl, rfl, rfl⟩ := hx
  have c := i32_clamp (x := len) h0
  intro j hj
  by_cases q : j = len.toNatClampNeg
  · rw [q, pk_us, pk_us, pk_us, pk_uLs]
    exact ⟨ha.1, ha.2.1, ha.2.2.1, ha.2.2.2, hT⟩
  · rw [pk_un q, pk_un q, pk_un q, pk_uLn q]
    exact h j (by (first | (apply Int.le_antisymm <;> omega) | omega))
def tG (k v : Int) : Prop := (k = 127 ∧ -2147483648 ≤ v ∧ v ≤ 2147483647) ∨ k = 126
def tP (k v : Int) : Prop := k = 127 ∨ k = 126
def tF (k v : Int) : Prop := k = 127 ∨ k = 126 ∨ k = 64
theorem sk_len {L len a : Int} {k ka n : Nat} {p z : Int32} {v : Int64} {ss : Nat → Option Nat} {sp sz : Nat → Int32} {sv : Nat → Int64} (h : sk L len a k p z v ss sp sz sv) (e : k = ka) (h5 : 5 ≤ ka) (hn : (sgB.getD ka []).length = n) : z.toInt = n := by
  subst e; subst hn
  exact (sk_is h).2.2.2.2.2.2.2.2 h5
theorem sk_pos {L len a : Int} {k : Nat} {p z : Int32} {v : Int64} {ss : Nat → Option Nat} {sp sz : Nat → Int32} {sv : Nat → Int64} (h : sk L len a k p z v ss sp sz sv) (h1 : k ≠ 0) (h2 : k ≠ 1) : 1 ≤ z.toInt := (sk_is h).2.2.2.2.1 h1 h2
theorem sk_name {L len a : Int} {k : Nat} {p z : Int32} {v : Int64} {ss : Nat → Option Nat} {sp sz : Nat → Int32} {sv : Nat → Int64} (h : sk L len a k p z v ss sp sz sv) (e : k = 2) : 0 ≤ p.toInt ∧ 1 ≤ z.toInt ∧ z.toInt ≤ 20 ∧ p.toInt + z.toInt ≤ L := by
  have q := sk_is h
  exact ⟨q.2.1, sk_pos h (by (first | (apply Int.le_antisymm <;> omega) | omega)) (by (first | (apply Int.le_antisymm <;> omega) | omega)), q.2.2.2.2.2.1 e, q.2.2.2.1⟩
theorem i64_neg {a x : Int64} (e : x = -a) (h : 0 ≤ a.toInt) : x.toInt = -a.toInt := by
  have hi := i64_hi a
  rw [e, Int64.toInt_neg]
  exact Int.bmod_eq_of_le (by (first | (apply Int.le_antisymm <;> omega) | omega)) (by (first | (apply Int.le_antisymm <;> omega) | omega))
abbrev b_PR_readGlobal : ByteArray := prog_8_method_4_code
def y_PR_readGlobal : MethodName := ⟨R_PR, "readGlobal", "()V"⟩
abbrev w_PR_readGlobal : List Cond := .code y_PR_readGlobal b_PR_readGlobal 7 none :: lw_g
theorem kC_PR_readGlobal : Cond.code y_PR_readGlobal b_PR_readGlobal 7 none ∈ lw_g := in_c4 169 rfl rfl
theorem d_PR_readGlobal_0 : decode b_PR_readGlobal 0 = .ok (.aload_n 0, 1) := bz_c42 (by decide +kernel)
theorem d_PR_readGlobal_1 : decode b_PR_readGlobal 1 = .ok (.getfield 43, 3) := bz_c180 (by decide +kernel)
theorem d_PR_readGlobal_4 : decode b_PR_readGlobal 4 = .ok (.invokevirtual 114, 3) := bz_c182 (by decide +kernel)
theorem d_PR_readGlobal_7 : decode b_PR_readGlobal 7 = .ok (.aload_n 0, 1) := bz_c42 (by decide +kernel)
theorem d_PR_readGlobal_8 : decode b_PR_readGlobal 8 = .ok (.getfield 58, 3) := bz_c180 (by decide +kernel)
theorem d_PR_readGlobal_11 : decode b_PR_readGlobal 11 = .ok (.getfield 78, 3) := bz_c180 (by decide +kernel)
theorem d_PR_readGlobal_14 : decode b_PR_readGlobal 14 = .ok (.bipush 20, 2) := bz_c16 (by decide +kernel)
theorem d_PR_readGlobal_16 : decode b_PR_readGlobal 16 = .ok (.if_icmp .lt 7, 3) := bz_c161 (by decide +kernel)
theorem d_PR_readGlobal_19 : decode b_PR_readGlobal 19 = .ok (.aload_n 0, 1) := bz_c42 (by decide +kernel)
theorem d_PR_readGlobal_20 : decode b_PR_readGlobal 20 = .ok (.invokevirtual 117, 3) := bz_c182 (by decide +kernel)
theorem d_PR_readGlobal_23 : decode b_PR_readGlobal 23 = .ok (.aload_n 0, 1) := bz_c42 (by decide +kernel)
theorem d_PR_readGlobal_24 : decode b_PR_readGlobal 24 = .ok (.getfield 43, 3) := bz_c180 (by decide +kernel)
theorem d_PR_readGlobal_27 : decode b_PR_readGlobal 27 = .ok (.getfield 109, 3) := bz_c180 (by decide +kernel)
theorem d_PR_readGlobal_30 : decode b_PR_readGlobal 30 = .ok (.istore_n 1, 1) := bz_c60 (by decide +kernel)
theorem d_PR_readGlobal_31 : decode b_PR_readGlobal 31 = .ok (.aload_n 0, 1) := bz_c42 (by decide +kernel)
theorem d_PR_readGlobal_32 : decode b_PR_readGlobal 32 = .ok (.getfield 43, 3) := bz_c180 (by decide +kernel)
theorem d_PR_readGlobal_35 : decode b_PR_readGlobal 35 = .ok (.getfield 120, 3) := bz_c180 (by decide +kernel)
theorem d_PR_readGlobal_38 : decode b_PR_readGlobal 38 = .ok (.istore_n 2, 1) := bz_c61 (by decide +kernel)
theorem d_PR_readGlobal_39 : decode b_PR_readGlobal 39 = .ok (.aload_n 0, 1) := bz_c42 (by decide +kernel)
theorem d_PR_readGlobal_40 : decode b_PR_readGlobal 40 = .ok (.getstatic 123, 3) := bz_c178 (by decide +kernel)
theorem d_PR_readGlobal_43 : decode b_PR_readGlobal 43 = .ok (.invokevirtual 126, 3) := bz_c182 (by decide +kernel)
theorem d_PR_readGlobal_46 : decode b_PR_readGlobal 46 = .ok (.aload_n 0, 1) := bz_c42 (by decide +kernel)
theorem d_PR_readGlobal_47 : decode b_PR_readGlobal 47 = .ok (.getstatic 130, 3) := bz_c178 (by decide +kernel)
theorem d_PR_readGlobal_50 : decode b_PR_readGlobal 50 = .ok (.invokevirtual 126, 3) := bz_c182 (by decide +kernel)
theorem d_PR_readGlobal_53 : decode b_PR_readGlobal 53 = .ok (.aload_n 0, 1) := bz_c42 (by decide +kernel)
theorem d_PR_readGlobal_54 : decode b_PR_readGlobal 54 = .ok (.invokevirtual 133, 3) := bz_c182 (by decide +kernel)
theorem d_PR_readGlobal_57 : decode b_PR_readGlobal 57 = .ok (.istore_n 3, 1) := bz_c62 (by decide +kernel)
theorem d_PR_readGlobal_58 : decode b_PR_readGlobal 58 = .ok (.aload_n 0, 1) := bz_c42 (by decide +kernel)
theorem d_PR_readGlobal_59 : decode b_PR_readGlobal 59 = .ok (.getstatic 137, 3) := bz_c178 (by decide +kernel)
theorem d_PR_readGlobal_62 : decode b_PR_readGlobal 62 = .ok (.invokevirtual 126, 3) := bz_c182 (by decide +kernel)
theorem d_PR_readGlobal_65 : decode b_PR_readGlobal 65 = .ok (.aload_n 0, 1) := bz_c42 (by decide +kernel)
theorem d_PR_readGlobal_66 : decode b_PR_readGlobal 66 = .ok (.getfield 43, 3) := bz_c180 (by decide +kernel)
theorem d_PR_readGlobal_69 : decode b_PR_readGlobal 69 = .ok (.getfield 93, 3) := bz_c180 (by decide +kernel)
theorem d_PR_readGlobal_72 : decode b_PR_readGlobal 72 = .ok (.getstatic 140, 3) := bz_c178 (by decide +kernel)
theorem d_PR_readGlobal_75 : decode b_PR_readGlobal 75 = .ok (.if_acmp .ne 7, 3) := bz_c166 (by decide +kernel)
theorem d_PR_readGlobal_78 : decode b_PR_readGlobal 78 = .ok (.iconst 1, 1) := bz_c4 (by decide +kernel)
theorem d_PR_readGlobal_79 : decode b_PR_readGlobal 79 = .ok (.goto 4, 3) := bz_c167 (by decide +kernel)
theorem d_PR_readGlobal_82 : decode b_PR_readGlobal 82 = .ok (.iconst 0, 1) := bz_c3 (by decide +kernel)
theorem d_PR_readGlobal_83 : decode b_PR_readGlobal 83 = .ok (.istore 4, 2) := bz_c54 (by decide +kernel)
theorem d_PR_readGlobal_85 : decode b_PR_readGlobal 85 = .ok (.iload 4, 2) := bz_c21 (by decide +kernel)
theorem d_PR_readGlobal_87 : decode b_PR_readGlobal 87 = .ok (.ifCond .eq 10, 3) := bz_c153 (by decide +kernel)
theorem d_PR_readGlobal_90 : decode b_PR_readGlobal 90 = .ok (.aload_n 0, 1) := bz_c42 (by decide +kernel)
theorem d_PR_readGlobal_91 : decode b_PR_readGlobal 91 = .ok (.getfield 43, 3) := bz_c180 (by decide +kernel)
theorem d_PR_readGlobal_94 : decode b_PR_readGlobal 94 = .ok (.invokevirtual 114, 3) := bz_c182 (by decide +kernel)
theorem d_PR_readGlobal_97 : decode b_PR_readGlobal 97 = .ok (.iload 4, 2) := bz_c21 (by decide +kernel)
theorem d_PR_readGlobal_99 : decode b_PR_readGlobal 99 = .ok (.ifCond .eq 14, 3) := bz_c153 (by decide +kernel)
theorem d_PR_readGlobal_102 : decode b_PR_readGlobal 102 = .ok (.aload_n 0, 1) := bz_c42 (by decide +kernel)
theorem d_PR_readGlobal_103 : decode b_PR_readGlobal 103 = .ok (.getfield 43, 3) := bz_c180 (by decide +kernel)
theorem d_PR_readGlobal_106 : decode b_PR_readGlobal 106 = .ok (.getfield 143, 3) := bz_c180 (by decide +kernel)
theorem d_PR_readGlobal_109 : decode b_PR_readGlobal 109 = .ok (.lneg, 1) := by decide +kernel
theorem d_PR_readGlobal_110 : decode b_PR_readGlobal 110 = .ok (.goto 10, 3) := bz_c167 (by decide +kernel)
theorem d_PR_readGlobal_113 : decode b_PR_readGlobal 113 = .ok (.aload_n 0, 1) := bz_c42 (by decide +kernel)
theorem d_PR_readGlobal_114 : decode b_PR_readGlobal 114 = .ok (.getfield 43, 3) := bz_c180 (by decide +kernel)
theorem d_PR_readGlobal_117 : decode b_PR_readGlobal 117 = .ok (.getfield 143, 3) := bz_c180 (by decide +kernel)
theorem d_PR_readGlobal_120 : decode b_PR_readGlobal 120 = .ok (.lstore 5, 2) := bz_c55 (by decide +kernel)
theorem d_PR_readGlobal_122 : decode b_PR_readGlobal 122 = .ok (.aload_n 0, 1) := bz_c42 (by decide +kernel)
theorem d_PR_readGlobal_123 : decode b_PR_readGlobal 123 = .ok (.iload_n 3, 1) := bz_c29 (by decide +kernel)
theorem d_PR_readGlobal_124 : decode b_PR_readGlobal 124 = .ok (.bipush 127, 2) := bz_c16 (by decide +kernel)
theorem d_PR_readGlobal_126 : decode b_PR_readGlobal 126 = .ok (.if_icmp .ne 9, 3) := bz_c160 (by decide +kernel)
theorem d_PR_readGlobal_129 : decode b_PR_readGlobal 129 = .ok (.getstatic 147, 3) := bz_c178 (by decide +kernel)
theorem d_PR_readGlobal_132 : decode b_PR_readGlobal 132 = .ok (.goto 6, 3) := bz_c167 (by decide +kernel)
theorem d_PR_readGlobal_135 : decode b_PR_readGlobal 135 = .ok (.getstatic 150, 3) := bz_c178 (by decide +kernel)
theorem d_PR_readGlobal_138 : decode b_PR_readGlobal 138 = .ok (.invokevirtual 126, 3) := bz_c182 (by decide +kernel)
theorem d_PR_readGlobal_141 : decode b_PR_readGlobal 141 = .ok (.aload_n 0, 1) := bz_c42 (by decide +kernel)
theorem d_PR_readGlobal_142 : decode b_PR_readGlobal 142 = .ok (.getstatic 153, 3) := bz_c178 (by decide +kernel)
theorem d_PR_readGlobal_145 : decode b_PR_readGlobal 145 = .ok (.invokevirtual 126, 3) := bz_c182 (by decide +kernel)
theorem d_PR_readGlobal_148 : decode b_PR_readGlobal 148 = .ok (.aload_n 0, 1) := bz_c42 (by decide +kernel)
theorem d_PR_readGlobal_149 : decode b_PR_readGlobal 149 = .ok (.getfield 58, 3) := bz_c180 (by decide +kernel)
theorem d_PR_readGlobal_152 : decode b_PR_readGlobal 152 = .ok (.iload_n 1, 1) := bz_c27 (by decide +kernel)
theorem d_PR_readGlobal_153 : decode b_PR_readGlobal 153 = .ok (.iload_n 2, 1) := bz_c28 (by decide +kernel)
theorem d_PR_readGlobal_154 : decode b_PR_readGlobal 154 = .ok (.iload_n 3, 1) := bz_c29 (by decide +kernel)
theorem d_PR_readGlobal_155 : decode b_PR_readGlobal 155 = .ok (.lload 5, 2) := bz_c22 (by decide +kernel)
theorem d_PR_readGlobal_157 : decode b_PR_readGlobal 157 = .ok (.invokevirtual 156, 3) := bz_c182 (by decide +kernel)
theorem d_PR_readGlobal_160 : decode b_PR_readGlobal 160 = .ok (.return_, 1) := bz_c177 (by decide +kernel)
theorem kM_PR_133 : Cond.methodLink R_PR 133 y_PR_takeType ∈ lw_g := in_c4 202 rfl rfl
theorem kV_PR_takeType : Cond.instanceMethod y_PR_takeType ∈ lw_g := in_c4 204 rfl rfl
theorem kS_PR_takeType : Cond.selects R_PR y_PR_takeType y_PR_takeType ∈ lw_g := in_s 11 (by decide +kernel) rfl
theorem kM_PR_156 : Cond.methodLink R_PR 156 y_NA_add ∈ lw_g := in_c4 224 rfl rfl
theorem kV_NA_add : Cond.instanceMethod y_NA_add ∈ lw_g := in_c4 225 rfl rfl
theorem kS_NA_add : Cond.selects R_NA y_NA_add y_NA_add ∈ lw_g := in_c4 226 rfl rfl
theorem kF_PR_58 : Cond.fieldLink R_PR 58 "WaferForge$Program" "globals" "LWaferForge$Names;" ∈ lw_g := in_c2 101 rfl rfl
theorem kF_PR_78 : Cond.fieldLink R_PR 78 "WaferForge$Names" "length" "I" ∈ lw_g := in_c2 86 rfl rfl
theorem kF_PR_120 : Cond.fieldLink R_PR 120 "WaferForge$Scanner" "size" "I" ∈ lw_g := in_c2 31 rfl rfl
theorem kF_PR_123 : Cond.fieldLink R_PR 123 "WaferForge$Sign" "NAME" "LWaferForge$Sign;" ∈ lw_g := in_c4 195 rfl rfl
theorem kF_PR_130 : Cond.fieldLink R_PR 130 "WaferForge$Sign" "COLON" "LWaferForge$Sign;" ∈ lw_g := in_c4 200 rfl rfl
theorem kF_PR_137 : Cond.fieldLink R_PR 137 "WaferForge$Sign" "ASSIGN" "LWaferForge$Sign;" ∈ lw_g := in_c4 216 rfl rfl
theorem kF_PR_140 : Cond.fieldLink R_PR 140 "WaferForge$Sign" "MINUS" "LWaferForge$Sign;" ∈ lw_g := in_c4 218 rfl rfl
theorem kF_PR_153 : Cond.fieldLink R_PR 153 "WaferForge$Sign" "SEMICOLON" "LWaferForge$Sign;" ∈ lw_g := in_c4 222 rfl rfl
theorem kF_PR_150 : Cond.fieldLink R_PR 150 "WaferForge$Sign" "LONG_INTEGER" "LWaferForge$Sign;" ∈ lw_g := in_c4 221 rfl rfl
theorem kF_PR_147 : Cond.fieldLink R_PR 147 "WaferForge$Sign" "INTEGER" "LWaferForge$Sign;" ∈ lw_g := in_c4 220 rfl rfl
theorem kF_PR_143 : Cond.fieldLink R_PR 143 "WaferForge$Scanner" "value" "J" ∈ lw_g := in_c2 33 rfl rfl
abbrev at_PR_readGlobal (dC : Nat → ClassId) (dI : Nat → Nat → Nat) (sa : Nat → Nat) (h0 gl fu pa pf sf pk pg pp pz pv sc wg wp tr ss sp szs sv tx gls glz glt glv : Nat) (css csp cszs csv cgls cglz cglt cglv : ClassId) (h0_stepCount : Int32) (h0_open : Int32) (h0_twoSides : Int32) (h0_waitingCount : Int32) (sc_length : Int32) (tr_length : Int32) (gss : Nat → Option Nat) (gsp : Nat → Int32) (gszs : Nat → Int32) (gsv : Nat → Int64) (A : Nat → Prop) (u : (Nat → Int32) × (Nat → Int32) × (Nat → Int64) × (Nat → Int32) × Int32 × Int32 × Int32 × Int32 × Int32 × Nat × Int32 × Int64) (t : State) : Prop := match u with | (ggls, gglt, gglv, gglz, gl_length, h0_place, h0_reason, sc_at, sc_place, sc_sign, sc_size, sc_value) => va_P (dC, dI) cls (wz_115 h0 gl fu pa pf sf pk pg pp pz pv h0_reason h0_place sc h0_stepCount h0_open h0_twoSides wg wp h0_waitingCount sc tr (sg sa sc_sign) sc_place sc_size sc_value ss sp szs sv sc_length sc_at tr tx tr_length ss css (fun j => (gss j).map (sg sa)) sp csp gsp szs cszs gszs sv csv gsv gl tr gls glz glt glv gl_length gls cgls ggls glz cglz gglz glt cglt gglt glv cglv gglv) t.heap ∧ va_K (dC, dI) cls [(css, .object "WaferForge$Sign"), (csp, .int), (cszs, .int), (csv, .long), (cgls, .int), (cglz, .int), (cglt, .int), (cglv, .long)] t ∧ va_D A (wz_115 h0 gl fu pa pf sf pk pg pp pz pv h0_reason h0_place sc h0_stepCount h0_open h0_twoSides wg wp h0_waitingCount sc tr (sg sa sc_sign) sc_place sc_size sc_value ss sp szs sv sc_length sc_at tr tx tr_length ss css (fun j => (gss j).map (sg sa)) sp csp gsp szs cszs gszs sv csv gsv gl tr gls glz glt glv gl_length gls cgls ggls glz cglz gglz glt cglt gglt glv cglv gglv)
set_option maxHeartbeats 4000000 in
set_option maxRecDepth 100000 in
theorem c_PR_readGlobal (l : Launch) (hlt : l.stackTraces = false) (dC : Nat → ClassId) (dI : Nat → Nat → Nat) (sz : Nat) (sa : Nat → Nat) (h0 gl fu pa pf sf pk pg pp pz pv sc wg wp tr ss sp szs sv tx gls glz glt glv : Nat) (css csp cszs csv cgls cglz cglt cglv : ClassId) (h0_reason : Int32) (h0_place : Int32) (h0_stepCount : Int32) (h0_open : Int32) (h0_twoSides : Int32) (h0_waitingCount : Int32) (sc_sign : Nat) (sc_place : Int32) (sc_size : Int32) (sc_value : Int64) (sc_length : Int32) (sc_at : Int32) (tr_length : Int32) (gss : Nat → Option Nat) (gsp : Nat → Int32) (gszs : Nat → Int32) (gsv : Nat → Int64) (gl_length : Int32) (ggls : Nat → Int32) (gglz : Nat → Int32) (gglt : Nat → Int32) (gglv : Nat → Int64)  (b_sc_sign : sc_sign < 55) (b_sc_place : 0 ≤ sc_place.toInt ∧ sc_place.toInt ≤ 2000) (b_sc_size : 0 ≤ sc_size.toInt ∧ sc_size.toInt ≤ 2000) (b_sc_length : 0 ≤ sc_length.toInt ∧ sc_length.toInt ≤ 2001) (b_sc_at : -1 ≤ sc_at.toInt ∧ sc_at.toInt ≤ 2000) (b_tr_length : 0 ≤ tr_length.toInt ∧ tr_length.toInt ≤ 2000) (b_gl_length : 0 ≤ gl_length.toInt ∧ gl_length.toInt ≤ 20)   (hsk : sk tr_length.toInt sc_length.toInt sc_at.toInt sc_sign sc_place sc_size sc_value gss gsp gszs gsv) (hnm : nm tr_length.toInt gl_length.toInt ggls gglz gglt gglv tG) (hsg : sc_sign = 6) : tz_Met l y_PR_readGlobal w_PR_readGlobal ({ frames := 9, cells := 1, slots := 6, locals := 154 }) (va_Pc [.ref h0] (fun U => U.heap.size = sz ∧ va_P (dC, dI) cls (wz_115 h0 gl fu pa pf sf pk pg pp pz pv h0_reason h0_place sc h0_stepCount h0_open h0_twoSides wg wp h0_waitingCount sc tr (sg sa sc_sign) sc_place sc_size sc_value ss sp szs sv sc_length sc_at tr tx tr_length ss css (fun j => (gss j).map (sg sa)) sp csp gsp szs cszs gszs sv csv gsv gl tr gls glz glt glv gl_length gls cgls ggls glz cglz gglz glt cglt gglt glv cglv gglv) U.heap ∧ va_K (dC, dI) cls [(css, .object "WaferForge$Sign"), (csp, .int), (cszs, .int), (csv, .long), (cgls, .int), (cglz, .int), (cglt, .int), (cglv, .long)] U ∧ va_D (fun _ => True) (wz_115 h0 gl fu pa pf sf pk pg pp pz pv h0_reason h0_place sc h0_stepCount h0_open h0_twoSides wg wp h0_waitingCount sc tr (sg sa sc_sign) sc_place sc_size sc_value ss sp szs sv sc_length sc_at tr tx tr_length ss css (fun j => (gss j).map (sg sa)) sp csp gsp szs cszs gszs sv csv gsv gl tr gls glz glt glv gl_length gls cgls ggls glz cglz gglz glt cglt gglt glv cglv gglv) ∧ sw sa (va_A (wz_115 h0 gl fu pa pf sf pk pg pp pz pv h0_reason h0_place sc h0_stepCount h0_open h0_twoSides wg wp h0_waitingCount sc tr (sg sa sc_sign) sc_place sc_size sc_value ss sp szs sv sc_length sc_at tr tx tr_length ss css (fun j => (gss j).map (sg sa)) sp csp gsp szs cszs gszs sv csv gsv gl tr gls glz glt glv gl_length gls cgls ggls glz cglz gglz glt cglt gglt glv cglv gglv) sz) U U.heap)) (tq_Q (tq_v (fun (u : (Nat → Int32) × (Nat → Int32) × (Nat → Int64) × (Nat → Int32) × Int32 × Int32 × Int32 × Int32 × Int32 × Nat × Int32 × Int64) => match u with | (ggls2, gglt2, gglv2, gglz2, gl_length2, h0_place2, h0_reason2, sc_at2, sc_place2, sc_sign2, sc_size2, sc_value2) => (0 ≤ gl_length2.toInt ∧ gl_length2.toInt ≤ 20) ∧ (-1 ≤ sc_at2.toInt ∧ sc_at2.toInt ≤ 2000) ∧ (0 ≤ sc_place2.toInt ∧ sc_place2.toInt ≤ 2000) ∧ (sc_sign2 < 55) ∧ (0 ≤ sc_size2.toInt ∧ sc_size2.toInt ≤ 2000) ∧ (sk tr_length.toInt sc_length.toInt sc_at2.toInt sc_sign2 sc_place2 sc_size2 sc_value2 gss gsp gszs gsv ∧ nm tr_length.toInt gl_length2.toInt ggls2 gglz2 gglt2 gglv2 tG ∧ gl_length2.toInt = gl_length.toInt + 1 ∧ sc_place.toInt + 12 ≤ sc_place2.toInt)) "java/lang/UnsupportedOperationException" (fun (u : (Nat → Int32) × (Nat → Int32) × (Nat → Int64) × (Nat → Int32) × Int32 × Int32 × Int32 × Int32 × Int32 × Nat × Int32 × Int64) => match u with | (ggls2, gglt2, gglv2, gglz2, gl_length2, h0_place2, h0_reason2, sc_at2, sc_place2, sc_sign2, sc_size2, sc_value2) => (0 ≤ gl_length2.toInt ∧ gl_length2.toInt ≤ 20) ∧ (-1 ≤ sc_at2.toInt ∧ sc_at2.toInt ≤ 2000) ∧ (0 ≤ sc_place2.toInt ∧ sc_place2.toInt ≤ 2000) ∧ (sc_sign2 < 55) ∧ (0 ≤ sc_size2.toInt ∧ sc_size2.toInt ≤ 2000))) (at_PR_readGlobal dC dI sa h0 gl fu pa pf sf pk pg pp pz pv sc wg wp tr ss sp szs sv tx gls glz glt glv css csp cszs csv cgls cglz cglt cglv h0_stepCount h0_open h0_twoSides h0_waitingCount sc_length tr_length gss gsp gszs gsv (va_A (wz_115 h0 gl fu pa pf sf pk pg pp pz pv h0_reason h0_place sc h0_stepCount h0_open h0_twoSides wg wp h0_waitingCount sc tr (sg sa sc_sign) sc_place sc_size sc_value ss sp szs sv sc_length sc_at tr tx tr_length ss css (fun j => (gss j).map (sg sa)) sp csp gsp szs cszs gszs sv csv gsv gl tr gls glz glt glv gl_length gls cgls ggls glz cglz gglz glt cglt gglt glv cglv gglv) sz)) (va_A (wz_115 h0 gl fu pa pf sf pk pg pp pz pv h0_reason h0_place sc h0_stepCount h0_open h0_twoSides wg wp h0_waitingCount sc tr (sg sa sc_sign) sc_place sc_size sc_value ss sp szs sv sc_length sc_at tr tx tr_length ss css (fun j => (gss j).map (sg sa)) sp csp gsp szs cszs gszs sv csv gsv gl tr gls glz glt glv gl_length gls cgls ggls glz cglz gglz glt cglt gglt glv cglv gglv) sz)) (tz_k 0 0 1 6) (va_A (wz_115 h0 gl fu pa pf sf pk pg pp pz pv h0_reason h0_place sc h0_stepCount h0_open h0_twoSides wg wp h0_waitingCount sc tr (sg sa sc_sign) sc_place sc_size sc_value ss sp szs sv sc_length sc_at tr tx tr_length ss css (fun j => (gss j).map (sg sa)) sp csp gsp szs cszs gszs sv csv gsv gl tr gls glz glt glv gl_length gls cgls ggls glz cglz gglz glt cglt gglt glv cglv gglv) sz) := by
  refine tz_ofW (cc := b_PR_readGlobal) (maxL := 7) (ret := none) (by decide) rfl ?_
  intro p e s m args below meth c s₁ B hml hno hv
  obtain ⟨rfl, hsz, hP, hK, hD0, hSW⟩ := hv
  have hx := B.exec
  have hb := B.bytes
  have hr := B.returns
  have hts0 := atoms_spec (ws := w_PR_readGlobal) B.pre
  have hts : ∀ w ∈ lw_g, w.before _ s = true := fun w h => hts0 w (List.mem_cons_of_mem _ h)
  have hown : s.vm.findClass R_PR = some m.cls := findClass_of_methodNamed B.named
  have hlocks := B.notSynchronized
  clear hts0
  subst hsz
  have hD := hD0.self (sz := s.heap.size)
  generalize hAe : va_A (wz_115 h0 gl fu pa pf sf pk pg pp pz pv h0_reason h0_place sc h0_stepCount h0_open h0_twoSides wg wp h0_waitingCount sc tr (sg sa sc_sign) sc_place sc_size sc_value ss sp szs sv sc_length sc_at tr tx tr_length ss css (fun j => (gss j).map (sg sa)) sp csp gsp szs cszs gszs sv csv gsv gl tr gls glz glt glv gl_length gls cgls ggls glz cglz gglz glt cglt gglt glv cglv gglv) s.heap.size = A at hD hSW ⊢
  have hA : ∀ q : Nat, s.heap.size ≤ q → A q := fun q h => by rw [← hAe]; exact Or.inr h
  clear hAe
  have hP : va_P (dC, dI) cls (wz_115 h0 gl fu pa pf sf pk pg pp pz pv h0_reason h0_place sc h0_stepCount h0_open h0_twoSides wg wp h0_waitingCount sc tr (sg sa sc_sign) sc_place sc_size sc_value ss sp szs sv sc_length sc_at tr tx tr_length ss css (fun j => (gss j).map (sg sa)) sp csp gsp szs cszs gszs sv csv gsv gl tr gls glz glt glv gl_length gls cgls ggls glz cglz gglz glt cglt gglt glv cglv gglv) s.heap := hP
  have hl := lv_entry ([.ref h0]) (n := 7) (Nat.le_of_ble_eq_true rfl)
  rw [lg_entry_eq]
  generalize (lg_sl ([.ref h0]) ++ List.replicate (7 - (lg_sl ([.ref h0])).length) Slot.unset).toArray = ls at hl ⊢
  have hl : lv_has ls 7 [(0, .ref h0)] := hl
  have k0 : (0 : Int32).toInt = 0 := by decide
  refine w_gen (A := A) hP (fun H locs hP hS => ?_)
  have k1 : (1 : Int32).toInt = 1 := by decide
  have k20 : (20 : Int32).toInt = 20 := by decide
  have k127 : (127 : Int32).toInt = 127 := by decide
  refine lv_aload_n hx hb d_PR_readGlobal_0 rfl (lv_at hl 0 rfl) ?_
  refine va_get (D := (dC, dI)) (ci := 6) (v := .ref sc) (C := R_PR) (T := F_PR) (N := 19) hx hb hts i_PR hown hK hP 0 rfl rfl 12 (by decide) (hts _ kF_PR_43) (fun _ h9 => h9) rfl d_PR_readGlobal_1 ?_
  have hPc := hP.sb (wq := (wz_107 sc tr (sg sa sc_sign) sc_place sc_size sc_value ss sp szs sv sc_length sc_at tr tx tr_length ss css (fun j => (gss j).map (sg sa)) sp csp gsp szs cszs gszs sv csv gsv)) [1, 2, 3, 4, 5, 6] rfl
  have hDc := hD.sb (wq := (wz_107 sc tr (sg sa sc_sign) sc_place sc_size sc_value ss sp szs sv sc_length sc_at tr tx tr_length ss css (fun j => (gss j).map (sg sa)) sp csp gsp szs cszs gszs sv csv gsv)) [1, 2, 3, 4, 5, 6] (by decide) rfl
  have hKc := hK.sb (tyq := [(css, .object "WaferForge$Sign"), (csp, .int), (cszs, .int), (csv, .long)]) [0, 1, 2, 3] rfl
  have hFc := va_free (wc := (wz_107 sc tr (sg sa sc_sign) sc_place sc_size sc_value ss sp szs sv sc_length sc_at tr tx tr_length ss css (fun j => (gss j).map (sg sa)) sp csp gsp szs cszs gszs sv csv gsv)) hD hS hA [1, 2, 3, 4, 5, 6] rfl
  refine va_callv (va_runV (As := []) (rest := []) ⟨hx, hb, hml, hown, hts⟩ (c_SC_next l dC dI H.size sa sc tr ss sp szs sv tx css csp cszs csv sc_sign sc_place sc_size sc_value sc_length sc_at tr_length gss gsp gszs gsv (b_sc_sign) (b_sc_place) (b_sc_size) (b_sc_length) (b_sc_at) (b_tr_length) (hsk.1.2.1)) (cwV 0 hts (gV kM_PR_114 kV_SC_next kS_SC_next kI_SC kC_SC_next) rfl rfl rfl (by decide +kernel) ⟨Nat.le_of_ble_eq_true rfl, Nat.le_of_ble_eq_true rfl⟩) ⟨fun a U g mk z => by obtain ⟨z0, z1, zP, zK, zD, zS⟩ := z; exact ⟨z0, z1, zP, va_K.moved (u := U) (U := U.calling g mk a) (Vm.Alike.refl U.vm) zK, zD, sw.same (u := U) (U := U.calling g mk a) rfl zS⟩, va_recv hKc hPc (ci := 8) (q0 := 0) rfl rfl, fun U hU hW => ⟨rfl, by rw [hU], va_P.he hU.symm hPc, va_K.moved hW.alike hKc, hDc.weaken (fun _ _ _ _ => trivial), hSW.call hS hFc hW hU⟩⟩ rfl rfl hl.1 rfl (lv_room (Nat.le_of_ble_eq_true rfl)) d_PR_readGlobal_4 ⟨(Nat.zero_le _), (Nat.zero_le _)⟩) hS (fun q _ h => hFc q h) hFc (fun u t H1 locs ht hvm hw hB hz1 hk1 hS => ?_)
  obtain ⟨n2, n3, n4, n5, n6⟩ := u
  try dsimp only at hw
  obtain ⟨bn2, bn3, bn4, bn5, xr1⟩ := hw
  try clear hw
  have or1 := hsk
  have zr1 := sk_next hsk xr1.1 xr1.2
  have hsk := zr1.1
  have mr1 := zr1.2.1
  have fr1 := zr1.2.2.1
  clear xr1 zr1
  have m4 := (fr1 (by (first | (apply Int.le_antisymm <;> omega) | omega)) (by (first | (apply Int.le_antisymm <;> omega) | omega))).2
  have w4 := sk_len or1 hsg (by decide) (n := 6) rfl
  obtain ⟨hP1, hK1, hD1⟩ := hB
  replace hP1 := va_P.he ht hP1
  obtain ⟨hP, hD⟩ := va_join (wr := [(h0, .inr (6, [.ref gl, .ref fu, .ref pa, .ref pf, .ref sf, .ref pk, .ref pg, .ref pp, .ref pz, .ref pv, .int h0_reason, .int h0_place, .ref sc, .int h0_stepCount, .int h0_open, .int h0_twoSides, .ref wg, .ref wp, .int h0_waitingCount])), (gl, .inr (5, [.ref tr, .ref gls, .ref glz, .ref glt, .ref glv, .int gl_length])), (gls, .inl (cgls, 20, .inl ggls)), (glz, .inl (cglz, 20, .inl gglz)), (glt, .inl (cglt, 20, .inl gglt)), (glv, .inl (cglv, 20, .inr (.inl gglv)))]) (w1 := (wz_107 sc tr (sg sa n4) n3 n5 n6 ss sp szs sv sc_length n2 tr tx tr_length ss css (fun j => (gss j).map (sg sa)) sp csp gsp szs cszs gszs sv csv gsv)) hP hD [1, 2, 3, 4, 5, 6] [0, 7, 8, 9, 10, 11] rfl rfl (by decide) (by decide) hk1 hFc hP1 hD1
  clear hPc hDc hKc hFc hz1 hk1 hP1 hK1 hD1
  rename Heap => H
  have hP : va_P (dC, dI) cls [(h0, .inr (6, [.ref gl, .ref fu, .ref pa, .ref pf, .ref sf, .ref pk, .ref pg, .ref pp, .ref pz, .ref pv, .int h0_reason, .int h0_place, .ref sc, .int h0_stepCount, .int h0_open, .int h0_twoSides, .ref wg, .ref wp, .int h0_waitingCount])), (gl, .inr (5, [.ref tr, .ref gls, .ref glz, .ref glt, .ref glv, .int gl_length])), (gls, .inl (cgls, 20, .inl ggls)), (glz, .inl (cglz, 20, .inl gglz)), (glt, .inl (cglt, 20, .inl gglt)), (glv, .inl (cglv, 20, .inr (.inl gglv))), (sc, .inr (8, [.ref tr, .ref (sg sa n4), .int n3, .int n5, .long n6, .ref ss, .ref sp, .ref szs, .ref sv, .int sc_length, .int n2])), (tr, .inr (1, [.ref tx, .int tr_length])), (ss, .inl (css, 2001, .inr (.inr (.inr (.inr (fun j => (gss j).map (sg sa))))))), (sp, .inl (csp, 2001, .inl gsp)), (szs, .inl (cszs, 2001, .inl gszs)), (sv, .inl (csv, 2001, .inr (.inl gsv)))] H := hP
  have hD : va_D A [(h0, .inr (6, [.ref gl, .ref fu, .ref pa, .ref pf, .ref sf, .ref pk, .ref pg, .ref pp, .ref pz, .ref pv, .int h0_reason, .int h0_place, .ref sc, .int h0_stepCount, .int h0_open, .int h0_twoSides, .ref wg, .ref wp, .int h0_waitingCount])), (gl, .inr (5, [.ref tr, .ref gls, .ref glz, .ref glt, .ref glv, .int gl_length])), (gls, .inl (cgls, 20, .inl ggls)), (glz, .inl (cglz, 20, .inl gglz)), (glt, .inl (cglt, 20, .inl gglt)), (glv, .inl (cglv, 20, .inr (.inl gglv))), (sc, .inr (8, [.ref tr, .ref (sg sa n4), .int n3, .int n5, .long n6, .ref ss, .ref sp, .ref szs, .ref sv, .int sc_length, .int n2])), (tr, .inr (1, [.ref tx, .int tr_length])), (ss, .inl (css, 2001, .inr (.inr (.inr (.inr (fun j => (gss j).map (sg sa))))))), (sp, .inl (csp, 2001, .inl gsp)), (szs, .inl (cszs, 2001, .inl gszs)), (sv, .inl (csv, 2001, .inr (.inl gsv)))] := hD
  refine lv_aload_n hx hb d_PR_readGlobal_7 rfl (lv_at hl 0 rfl) ?_
  refine va_get (D := (dC, dI)) (ci := 6) (v := .ref gl) (C := R_PR) (T := F_PR) (N := 19) hx hb hts i_PR hown hK hP 0 rfl rfl 0 (by decide) (hts _ kF_PR_58) (fun _ h9 => h9) rfl d_PR_readGlobal_8 ?_
  refine va_get (D := (dC, dI)) (ci := 5) (v := .int gl_length) (C := R_NA) (T := F_NA) (N := 6) hx hb hts i_NA hown hK hP 1 rfl rfl 5 (by decide) (hts _ kF_PR_78) (fun _ h9 => h9) rfl d_PR_readGlobal_11 ?_
  refine lv_bipush (v := 20) hx hb d_PR_readGlobal_14 (by decide) ?_
  refine lv_icmp_lt (tgt := 23) hx hb d_PR_readGlobal_16 (by decide) (fun c16 => ?_) (fun c16 => ?_)
  · have q16 := ltI c16
    refine lv_aload_n hx hb d_PR_readGlobal_23 rfl (lv_at hl 0 rfl) ?_
    refine va_get (D := (dC, dI)) (ci := 6) (v := .ref sc) (C := R_PR) (T := F_PR) (N := 19) hx hb hts i_PR hown hK hP 0 rfl rfl 12 (by decide) (hts _ kF_PR_43) (fun _ h9 => h9) rfl d_PR_readGlobal_24 ?_
    refine va_get (D := (dC, dI)) (ci := 8) (v := .int n3) (C := R_SC) (T := F_SC) (N := 11) hx hb hts i_SC hown hK hP 6 rfl rfl 2 (by decide) (hts _ kF_PR_109) (fun _ h9 => h9) rfl d_PR_readGlobal_27 ?_
    refine lv_istore_n (lv' := [(1, .int n3), (0, .ref h0)]) hx hb d_PR_readGlobal_30 rfl hl (by decide) rfl (fun ls hl => ?_)
    refine lv_aload_n hx hb d_PR_readGlobal_31 rfl (lv_at hl 1 rfl) ?_
    refine va_get (D := (dC, dI)) (ci := 6) (v := .ref sc) (C := R_PR) (T := F_PR) (N := 19) hx hb hts i_PR hown hK hP 0 rfl rfl 12 (by decide) (hts _ kF_PR_43) (fun _ h9 => h9) rfl d_PR_readGlobal_32 ?_
    refine va_get (D := (dC, dI)) (ci := 8) (v := .int n5) (C := R_SC) (T := F_SC) (N := 11) hx hb hts i_SC hown hK hP 6 rfl rfl 3 (by decide) (hts _ kF_PR_120) (fun _ h9 => h9) rfl d_PR_readGlobal_35 ?_
    refine lv_istore_n (lv' := [(2, .int n5), (1, .int n3), (0, .ref h0)]) hx hb d_PR_readGlobal_38 rfl hl (by decide) rfl (fun ls hl => ?_)
    refine lv_aload_n hx hb d_PR_readGlobal_39 rfl (lv_at hl 2 rfl) ?_
    refine va_gets (C := "WaferForge$Sign") (n := "NAME") (d := "LWaferForge$Sign;") (v := .ref (sg sa 2)) hx hb ((hSW.2.2.2.1.1 2 (by decide)).1) hS hown (hts _ kF_PR_123) (fun _ h9 => h9) d_PR_readGlobal_40 ?_
    have hPc := hP.sb (wq := (wz_112 h0 gl fu pa pf sf pk pg pp pz pv h0_reason h0_place sc h0_stepCount h0_open h0_twoSides wg wp h0_waitingCount sc tr (sg sa n4) n3 n5 n6 ss sp szs sv sc_length n2 tr tx tr_length ss css (fun j => (gss j).map (sg sa)) sp csp gsp szs cszs gszs sv csv gsv)) [0, 6, 7, 8, 9, 10, 11] rfl
    have hDc := hD.sb (wq := (wz_112 h0 gl fu pa pf sf pk pg pp pz pv h0_reason h0_place sc h0_stepCount h0_open h0_twoSides wg wp h0_waitingCount sc tr (sg sa n4) n3 n5 n6 ss sp szs sv sc_length n2 tr tx tr_length ss css (fun j => (gss j).map (sg sa)) sp csp gsp szs cszs gszs sv csv gsv)) [0, 6, 7, 8, 9, 10, 11] (by decide) rfl
    have hKc := hK.sb (tyq := [(css, .object "WaferForge$Sign"), (csp, .int), (cszs, .int), (csv, .long)]) [0, 1, 2, 3] rfl
    have hFc := va_free (wc := (wz_112 h0 gl fu pa pf sf pk pg pp pz pv h0_reason h0_place sc h0_stepCount h0_open h0_twoSides wg wp h0_waitingCount sc tr (sg sa n4) n3 n5 n6 ss sp szs sv sc_length n2 tr tx tr_length ss css (fun j => (gss j).map (sg sa)) sp csp gsp szs cszs gszs sv csv gsv)) hD hS hA [0, 6, 7, 8, 9, 10, 11] rfl
    refine tq_callv (tz_runV (As := [.ref (sg sa 2)]) (rest := []) ⟨hx, hb, hml, hown, hts⟩ (c_PR_take l hlt dC dI H.size sa h0 gl fu pa pf sf pk pg pp pz pv sc wg wp tr ss sp szs sv tx css csp cszs csv h0_reason h0_place h0_stepCount h0_open h0_twoSides h0_waitingCount n4 n3 n5 n6 sc_length n2 tr_length gss gsp gszs gsv (bn4) (bn3) (bn5) (b_sc_length) (bn2) (b_tr_length) 2 ((by decide : 2 < 55)) (hsk) (by decide)) (cwV 1 hts (gV kM_PR_126 kV_PR_take kS_PR_take kI_PR kC_PR_take) rfl rfl rfl (by decide +kernel) ⟨Nat.le_of_ble_eq_true rfl, Nat.le_of_ble_eq_true rfl⟩) ⟨fun a U g mk z => by obtain ⟨z0, z1, zP, zK, zD, zS⟩ := z; exact ⟨z0, z1, zP, va_K.moved (u := U) (U := U.calling g mk a) (Vm.Alike.refl U.vm) zK, zD, sw.same (u := U) (U := U.calling g mk a) rfl zS⟩, va_recv hKc hPc (ci := 6) (q0 := 0) rfl rfl, fun U hU hW => ⟨rfl, by rw [hU], va_P.he hU.symm hPc, va_K.moved hW.alike hKc, hDc.weaken (fun _ _ _ _ => trivial), hSW.call hS hFc hW hU⟩⟩ rfl rfl hl.1 rfl (lv_room (Nat.le_of_ble_eq_true rfl)) d_PR_readGlobal_43 ⟨Nat.le_of_ble_eq_true rfl, Nat.le_of_ble_eq_true rfl⟩) hS (fun q _ h => hFc q h) hFc (fun u t H1 locs ht hvm hw hB hz1 hk1 hS => ?_) (fun xx u t H1 locs ht hvm hw hXX hB hz1 hk1 hS => ?_)
    rotate_left
    · skip
      obtain ⟨n8, n9, n10, n11, n12, n13, n14⟩ := u
      try dsimp only at hw
      obtain ⟨bn10, bn11, bn12, bn13⟩ := hw
      obtain ⟨hP1, hK1, hD1⟩ := hB
      replace hP1 := va_P.he ht hP1
      obtain ⟨hP, hD⟩ := va_join (wr := (wz_116 gl tr gls glz glt glv gl_length gls cgls ggls glz cglz gglz glt cglt gglt glv cglv gglv)) (w1 := (wz_112 h0 gl fu pa pf sf pk pg pp pz pv n9 n8 sc h0_stepCount h0_open h0_twoSides wg wp h0_waitingCount sc tr (sg sa n12) n11 n13 n14 ss sp szs sv sc_length n10 tr tx tr_length ss css (fun j => (gss j).map (sg sa)) sp csp gsp szs cszs gszs sv csv gsv)) hP hD [0, 6, 7, 8, 9, 10, 11] [1, 2, 3, 4, 5] rfl rfl (by decide) (by decide) hk1 hFc hP1 hD1
      have hP : va_P (dC, dI) cls (wz_117 gl tr gls glz glt glv gl_length gls cgls ggls glz cglz gglz glt cglt gglt glv cglv gglv h0 gl fu pa pf sf pk pg pp pz pv n9 n8 sc h0_stepCount h0_open h0_twoSides wg wp h0_waitingCount sc tr (sg sa n12) n11 n13 n14 ss sp szs sv sc_length n10 tr tx tr_length ss css (fun j => (gss j).map (sg sa)) sp csp gsp szs cszs gszs sv csv gsv) H1 := hP
      have hD : va_D A (wz_117 gl tr gls glz glt glv gl_length gls cgls ggls glz cglz gglz glt cglt gglt glv cglv gglv h0 gl fu pa pf sf pk pg pp pz pv n9 n8 sc h0_stepCount h0_open h0_twoSides wg wp h0_waitingCount sc tr (sg sa n12) n11 n13 n14 ss sp szs sv sc_length n10 tr tx tr_length ss css (fun j => (gss j).map (sg sa)) sp csp gsp szs cszs gszs sv csv gsv) := hD
      have hP9 := hP.sb (wq := (wz_115 h0 gl fu pa pf sf pk pg pp pz pv n9 n8 sc h0_stepCount h0_open h0_twoSides wg wp h0_waitingCount sc tr (sg sa n12) n11 n13 n14 ss sp szs sv sc_length n10 tr tx tr_length ss css (fun j => (gss j).map (sg sa)) sp csp gsp szs cszs gszs sv csv gsv gl tr gls glz glt glv gl_length gls cgls ggls glz cglz gglz glt cglt gglt glv cglv gglv)) [5, 6, 7, 8, 9, 10, 11, 0, 1, 2, 3, 4] rfl
      have hD9 := hD.sb (wq := (wz_115 h0 gl fu pa pf sf pk pg pp pz pv n9 n8 sc h0_stepCount h0_open h0_twoSides wg wp h0_waitingCount sc tr (sg sa n12) n11 n13 n14 ss sp szs sv sc_length n10 tr tx tr_length ss css (fun j => (gss j).map (sg sa)) sp csp gsp szs cszs gszs sv csv gsv gl tr gls glz glt glv gl_length gls cgls ggls glz cglz gglz glt cglt gglt glv cglv gglv)) [5, 6, 7, 8, 9, 10, 11, 0, 1, 2, 3, 4] (by decide) rfl
      exact tz_leave rfl hno hlocks (fun t ht hW => ⟨⟨(ggls, gglt, gglv, gglz, gl_length, n8, n9, n10, n11, n12, n13, n14), ⟨⟨b_gl_length, bn10, bn11, bn12, bn13⟩, by rw [ht]; exact hXX.moved hW.alike⟩, va_P.he ht.symm hP9, va_K.moved hW.alike hK, hD9⟩, hS.F ht⟩) hS.2.2
    obtain ⟨n15, n16, n17, n18, n19, n20, n21⟩ := u
    try dsimp only at hw
    obtain ⟨bn17, bn18, bn19, bn20, xr7⟩ := hw
    try clear hw
    have or7 := hsk
    have er7 := xr7.1
    have hsk := xr7.2.1
    have mr7 := xr7.2.2.1
    have pr7 := sk_pos or7 (by (first | (apply Int.le_antisymm <;> omega) | omega)) (by (first | (apply Int.le_antisymm <;> omega) | omega))
    clear xr7
    have w43 := sk_name or7 er7
    obtain ⟨hP1, hK1, hD1⟩ := hB
    replace hP1 := va_P.he ht hP1
    obtain ⟨hP, hD⟩ := va_join (wr := (wz_116 gl tr gls glz glt glv gl_length gls cgls ggls glz cglz gglz glt cglt gglt glv cglv gglv)) (w1 := (wz_112 h0 gl fu pa pf sf pk pg pp pz pv n16 n15 sc h0_stepCount h0_open h0_twoSides wg wp h0_waitingCount sc tr (sg sa n19) n18 n20 n21 ss sp szs sv sc_length n17 tr tx tr_length ss css (fun j => (gss j).map (sg sa)) sp csp gsp szs cszs gszs sv csv gsv)) hP hD [0, 6, 7, 8, 9, 10, 11] [1, 2, 3, 4, 5] rfl rfl (by decide) (by decide) hk1 hFc hP1 hD1
    clear hPc hDc hKc hFc hz1 hk1 hP1 hK1 hD1
    rename Heap => H
    have hP : va_P (dC, dI) cls (wz_117 gl tr gls glz glt glv gl_length gls cgls ggls glz cglz gglz glt cglt gglt glv cglv gglv h0 gl fu pa pf sf pk pg pp pz pv n16 n15 sc h0_stepCount h0_open h0_twoSides wg wp h0_waitingCount sc tr (sg sa n19) n18 n20 n21 ss sp szs sv sc_length n17 tr tx tr_length ss css (fun j => (gss j).map (sg sa)) sp csp gsp szs cszs gszs sv csv gsv) H := hP
    have hD : va_D A (wz_117 gl tr gls glz glt glv gl_length gls cgls ggls glz cglz gglz glt cglt gglt glv cglv gglv h0 gl fu pa pf sf pk pg pp pz pv n16 n15 sc h0_stepCount h0_open h0_twoSides wg wp h0_waitingCount sc tr (sg sa n19) n18 n20 n21 ss sp szs sv sc_length n17 tr tx tr_length ss css (fun j => (gss j).map (sg sa)) sp csp gsp szs cszs gszs sv csv gsv) := hD
    refine lv_aload_n hx hb d_PR_readGlobal_46 rfl (lv_at hl 2 rfl) ?_
    refine va_gets (C := "WaferForge$Sign") (n := "COLON") (d := "LWaferForge$Sign;") (v := .ref (sg sa 30)) hx hb ((hSW.2.2.2.1.1 30 (by decide)).1) hS hown (hts _ kF_PR_130) (fun _ h9 => h9) d_PR_readGlobal_47 ?_
    have hPc := hP.sb (wq := (wz_112 h0 gl fu pa pf sf pk pg pp pz pv n16 n15 sc h0_stepCount h0_open h0_twoSides wg wp h0_waitingCount sc tr (sg sa n19) n18 n20 n21 ss sp szs sv sc_length n17 tr tx tr_length ss css (fun j => (gss j).map (sg sa)) sp csp gsp szs cszs gszs sv csv gsv)) [5, 6, 7, 8, 9, 10, 11] rfl
    have hDc := hD.sb (wq := (wz_112 h0 gl fu pa pf sf pk pg pp pz pv n16 n15 sc h0_stepCount h0_open h0_twoSides wg wp h0_waitingCount sc tr (sg sa n19) n18 n20 n21 ss sp szs sv sc_length n17 tr tx tr_length ss css (fun j => (gss j).map (sg sa)) sp csp gsp szs cszs gszs sv csv gsv)) [5, 6, 7, 8, 9, 10, 11] (by decide) rfl
    have hKc := hK.sb (tyq := [(css, .object "WaferForge$Sign"), (csp, .int), (cszs, .int), (csv, .long)]) [0, 1, 2, 3] rfl
    have hFc := va_free (wc := (wz_112 h0 gl fu pa pf sf pk pg pp pz pv n16 n15 sc h0_stepCount h0_open h0_twoSides wg wp h0_waitingCount sc tr (sg sa n19) n18 n20 n21 ss sp szs sv sc_length n17 tr tx tr_length ss css (fun j => (gss j).map (sg sa)) sp csp gsp szs cszs gszs sv csv gsv)) hD hS hA [5, 6, 7, 8, 9, 10, 11] rfl
    refine tq_callv (tz_runV (As := [.ref (sg sa 30)]) (rest := []) ⟨hx, hb, hml, hown, hts⟩ (c_PR_take l hlt dC dI H.size sa h0 gl fu pa pf sf pk pg pp pz pv sc wg wp tr ss sp szs sv tx css csp cszs csv n16 n15 h0_stepCount h0_open h0_twoSides h0_waitingCount n19 n18 n20 n21 sc_length n17 tr_length gss gsp gszs gsv (bn19) (bn18) (bn20) (b_sc_length) (bn17) (b_tr_length) 30 ((by decide : 30 < 55)) (hsk) (by decide)) (cwV 1 hts (gV kM_PR_126 kV_PR_take kS_PR_take kI_PR kC_PR_take) rfl rfl rfl (by decide +kernel) ⟨Nat.le_of_ble_eq_true rfl, Nat.le_of_ble_eq_true rfl⟩) ⟨fun a U g mk z => by obtain ⟨z0, z1, zP, zK, zD, zS⟩ := z; exact ⟨z0, z1, zP, va_K.moved (u := U) (U := U.calling g mk a) (Vm.Alike.refl U.vm) zK, zD, sw.same (u := U) (U := U.calling g mk a) rfl zS⟩, va_recv hKc hPc (ci := 6) (q0 := 0) rfl rfl, fun U hU hW => ⟨rfl, by rw [hU], va_P.he hU.symm hPc, va_K.moved hW.alike hKc, hDc.weaken (fun _ _ _ _ => trivial), hSW.call hS hFc hW hU⟩⟩ rfl rfl hl.1 rfl (lv_room (Nat.le_of_ble_eq_true rfl)) d_PR_readGlobal_50 ⟨Nat.le_of_ble_eq_true rfl, Nat.le_of_ble_eq_true rfl⟩) hS (fun q _ h => hFc q h) hFc (fun u t H1 locs ht hvm hw hB hz1 hk1 hS => ?_) (fun xx u t H1 locs ht hvm hw hXX hB hz1 hk1 hS => ?_)
    rotate_left
    · skip
      obtain ⟨n23, n24, n25, n26, n27, n28, n29⟩ := u
      try dsimp only at hw
      obtain ⟨bn25, bn26, bn27, bn28⟩ := hw
      obtain ⟨hP1, hK1, hD1⟩ := hB
      replace hP1 := va_P.he ht hP1
      obtain ⟨hP, hD⟩ := va_join (wr := (wz_116 gl tr gls glz glt glv gl_length gls cgls ggls glz cglz gglz glt cglt gglt glv cglv gglv)) (w1 := (wz_112 h0 gl fu pa pf sf pk pg pp pz pv n24 n23 sc h0_stepCount h0_open h0_twoSides wg wp h0_waitingCount sc tr (sg sa n27) n26 n28 n29 ss sp szs sv sc_length n25 tr tx tr_length ss css (fun j => (gss j).map (sg sa)) sp csp gsp szs cszs gszs sv csv gsv)) hP hD [5, 6, 7, 8, 9, 10, 11] [0, 1, 2, 3, 4] rfl rfl (by decide) (by decide) hk1 hFc hP1 hD1
      have hP : va_P (dC, dI) cls (wz_117 gl tr gls glz glt glv gl_length gls cgls ggls glz cglz gglz glt cglt gglt glv cglv gglv h0 gl fu pa pf sf pk pg pp pz pv n24 n23 sc h0_stepCount h0_open h0_twoSides wg wp h0_waitingCount sc tr (sg sa n27) n26 n28 n29 ss sp szs sv sc_length n25 tr tx tr_length ss css (fun j => (gss j).map (sg sa)) sp csp gsp szs cszs gszs sv csv gsv) H1 := hP
      have hD : va_D A (wz_117 gl tr gls glz glt glv gl_length gls cgls ggls glz cglz gglz glt cglt gglt glv cglv gglv h0 gl fu pa pf sf pk pg pp pz pv n24 n23 sc h0_stepCount h0_open h0_twoSides wg wp h0_waitingCount sc tr (sg sa n27) n26 n28 n29 ss sp szs sv sc_length n25 tr tx tr_length ss css (fun j => (gss j).map (sg sa)) sp csp gsp szs cszs gszs sv csv gsv) := hD
      have hP9 := hP.sb (wq := (wz_115 h0 gl fu pa pf sf pk pg pp pz pv n24 n23 sc h0_stepCount h0_open h0_twoSides wg wp h0_waitingCount sc tr (sg sa n27) n26 n28 n29 ss sp szs sv sc_length n25 tr tx tr_length ss css (fun j => (gss j).map (sg sa)) sp csp gsp szs cszs gszs sv csv gsv gl tr gls glz glt glv gl_length gls cgls ggls glz cglz gglz glt cglt gglt glv cglv gglv)) [5, 6, 7, 8, 9, 10, 11, 0, 1, 2, 3, 4] rfl
      have hD9 := hD.sb (wq := (wz_115 h0 gl fu pa pf sf pk pg pp pz pv n24 n23 sc h0_stepCount h0_open h0_twoSides wg wp h0_waitingCount sc tr (sg sa n27) n26 n28 n29 ss sp szs sv sc_length n25 tr tx tr_length ss css (fun j => (gss j).map (sg sa)) sp csp gsp szs cszs gszs sv csv gsv gl tr gls glz glt glv gl_length gls cgls ggls glz cglz gglz glt cglt gglt glv cglv gglv)) [5, 6, 7, 8, 9, 10, 11, 0, 1, 2, 3, 4] (by decide) rfl
      exact tz_leave rfl hno hlocks (fun t ht hW => ⟨⟨(ggls, gglt, gglv, gglz, gl_length, n23, n24, n25, n26, n27, n28, n29), ⟨⟨b_gl_length, bn25, bn26, bn27, bn28⟩, by rw [ht]; exact hXX.moved hW.alike⟩, va_P.he ht.symm hP9, va_K.moved hW.alike hK, hD9⟩, hS.F ht⟩) hS.2.2
    obtain ⟨n30, n31, n32, n33, n34, n35, n36⟩ := u
    try dsimp only at hw
    obtain ⟨bn32, bn33, bn34, bn35, xr22⟩ := hw
    try clear hw
    have or22 := hsk
    have er22 := xr22.1
    have hsk := xr22.2.1
    have mr22 := xr22.2.2.1
    have pr22 := sk_pos or22 (by (first | (apply Int.le_antisymm <;> omega) | omega)) (by (first | (apply Int.le_antisymm <;> omega) | omega))
    clear xr22
    obtain ⟨hP1, hK1, hD1⟩ := hB
    replace hP1 := va_P.he ht hP1
    obtain ⟨hP, hD⟩ := va_join (wr := (wz_116 gl tr gls glz glt glv gl_length gls cgls ggls glz cglz gglz glt cglt gglt glv cglv gglv)) (w1 := (wz_112 h0 gl fu pa pf sf pk pg pp pz pv n31 n30 sc h0_stepCount h0_open h0_twoSides wg wp h0_waitingCount sc tr (sg sa n34) n33 n35 n36 ss sp szs sv sc_length n32 tr tx tr_length ss css (fun j => (gss j).map (sg sa)) sp csp gsp szs cszs gszs sv csv gsv)) hP hD [5, 6, 7, 8, 9, 10, 11] [0, 1, 2, 3, 4] rfl rfl (by decide) (by decide) hk1 hFc hP1 hD1
    clear hPc hDc hKc hFc hz1 hk1 hP1 hK1 hD1
    rename Heap => H
    have hP : va_P (dC, dI) cls (wz_117 gl tr gls glz glt glv gl_length gls cgls ggls glz cglz gglz glt cglt gglt glv cglv gglv h0 gl fu pa pf sf pk pg pp pz pv n31 n30 sc h0_stepCount h0_open h0_twoSides wg wp h0_waitingCount sc tr (sg sa n34) n33 n35 n36 ss sp szs sv sc_length n32 tr tx tr_length ss css (fun j => (gss j).map (sg sa)) sp csp gsp szs cszs gszs sv csv gsv) H := hP
    have hD : va_D A (wz_117 gl tr gls glz glt glv gl_length gls cgls ggls glz cglz gglz glt cglt gglt glv cglv gglv h0 gl fu pa pf sf pk pg pp pz pv n31 n30 sc h0_stepCount h0_open h0_twoSides wg wp h0_waitingCount sc tr (sg sa n34) n33 n35 n36 ss sp szs sv sc_length n32 tr tx tr_length ss css (fun j => (gss j).map (sg sa)) sp csp gsp szs cszs gszs sv csv gsv) := hD
    refine lv_aload_n hx hb d_PR_readGlobal_53 rfl (lv_at hl 2 rfl) ?_
    have hPc := hP.sb (wq := (wz_112 h0 gl fu pa pf sf pk pg pp pz pv n31 n30 sc h0_stepCount h0_open h0_twoSides wg wp h0_waitingCount sc tr (sg sa n34) n33 n35 n36 ss sp szs sv sc_length n32 tr tx tr_length ss css (fun j => (gss j).map (sg sa)) sp csp gsp szs cszs gszs sv csv gsv)) [5, 6, 7, 8, 9, 10, 11] rfl
    have hDc := hD.sb (wq := (wz_112 h0 gl fu pa pf sf pk pg pp pz pv n31 n30 sc h0_stepCount h0_open h0_twoSides wg wp h0_waitingCount sc tr (sg sa n34) n33 n35 n36 ss sp szs sv sc_length n32 tr tx tr_length ss css (fun j => (gss j).map (sg sa)) sp csp gsp szs cszs gszs sv csv gsv)) [5, 6, 7, 8, 9, 10, 11] (by decide) rfl
    have hKc := hK.sb (tyq := [(css, .object "WaferForge$Sign"), (csp, .int), (cszs, .int), (csv, .long)]) [0, 1, 2, 3] rfl
    have hFc := va_free (wc := (wz_112 h0 gl fu pa pf sf pk pg pp pz pv n31 n30 sc h0_stepCount h0_open h0_twoSides wg wp h0_waitingCount sc tr (sg sa n34) n33 n35 n36 ss sp szs sv sc_length n32 tr tx tr_length ss css (fun j => (gss j).map (sg sa)) sp csp gsp szs cszs gszs sv csv gsv)) hD hS hA [5, 6, 7, 8, 9, 10, 11] rfl
    refine tq_calli (tz_runV (As := []) (rest := []) ⟨hx, hb, hml, hown, hts⟩ (c_PR_takeType l hlt dC dI H.size sa h0 gl fu pa pf sf pk pg pp pz pv sc wg wp tr ss sp szs sv tx css csp cszs csv n31 n30 h0_stepCount h0_open h0_twoSides h0_waitingCount n34 n33 n35 n36 sc_length n32 tr_length gss gsp gszs gsv (bn34) (bn33) (bn35) (b_sc_length) (bn32) (b_tr_length) (hsk)) (cwV 0 hts (gV kM_PR_133 kV_PR_takeType kS_PR_takeType kI_PR kC_PR_takeType) rfl rfl rfl (by decide +kernel) ⟨Nat.le_of_ble_eq_true rfl, Nat.le_of_ble_eq_true rfl⟩) ⟨fun a U g mk z => by obtain ⟨z0, z1, zP, zK, zD, zS⟩ := z; exact ⟨z0, z1, zP, va_K.moved (u := U) (U := U.calling g mk a) (Vm.Alike.refl U.vm) zK, zD, sw.same (u := U) (U := U.calling g mk a) rfl zS⟩, va_recv hKc hPc (ci := 6) (q0 := 0) rfl rfl, fun U hU hW => ⟨rfl, by rw [hU], va_P.he hU.symm hPc, va_K.moved hW.alike hKc, hDc.weaken (fun _ _ _ _ => trivial), hSW.call hS hFc hW hU⟩⟩ rfl rfl hl.1 rfl (lv_room (Nat.le_of_ble_eq_true rfl)) d_PR_readGlobal_54 ⟨Nat.le_of_ble_eq_true rfl, Nat.le_of_ble_eq_true rfl⟩) hS (fun q _ h => hFc q h) hFc (fun r37 u t H1 locs ht hvm hw hB hz1 hk1 hS => ?_) (fun xx u t H1 locs ht hvm hw hXX hB hz1 hk1 hS => ?_)
    rotate_left
    · skip
      obtain ⟨n38, n39, n40, n41, n42, n43, n44⟩ := u
      try dsimp only at hw
      obtain ⟨bn40, bn41, bn42, bn43⟩ := hw
      obtain ⟨hP1, hK1, hD1⟩ := hB
      replace hP1 := va_P.he ht hP1
      obtain ⟨hP, hD⟩ := va_join (wr := (wz_116 gl tr gls glz glt glv gl_length gls cgls ggls glz cglz gglz glt cglt gglt glv cglv gglv)) (w1 := (wz_112 h0 gl fu pa pf sf pk pg pp pz pv n39 n38 sc h0_stepCount h0_open h0_twoSides wg wp h0_waitingCount sc tr (sg sa n42) n41 n43 n44 ss sp szs sv sc_length n40 tr tx tr_length ss css (fun j => (gss j).map (sg sa)) sp csp gsp szs cszs gszs sv csv gsv)) hP hD [5, 6, 7, 8, 9, 10, 11] [0, 1, 2, 3, 4] rfl rfl (by decide) (by decide) hk1 hFc hP1 hD1
      have hP : va_P (dC, dI) cls (wz_117 gl tr gls glz glt glv gl_length gls cgls ggls glz cglz gglz glt cglt gglt glv cglv gglv h0 gl fu pa pf sf pk pg pp pz pv n39 n38 sc h0_stepCount h0_open h0_twoSides wg wp h0_waitingCount sc tr (sg sa n42) n41 n43 n44 ss sp szs sv sc_length n40 tr tx tr_length ss css (fun j => (gss j).map (sg sa)) sp csp gsp szs cszs gszs sv csv gsv) H1 := hP
      have hD : va_D A (wz_117 gl tr gls glz glt glv gl_length gls cgls ggls glz cglz gglz glt cglt gglt glv cglv gglv h0 gl fu pa pf sf pk pg pp pz pv n39 n38 sc h0_stepCount h0_open h0_twoSides wg wp h0_waitingCount sc tr (sg sa n42) n41 n43 n44 ss sp szs sv sc_length n40 tr tx tr_length ss css (fun j => (gss j).map (sg sa)) sp csp gsp szs cszs gszs sv csv gsv) := hD
      have hP9 := hP.sb (wq := (wz_115 h0 gl fu pa pf sf pk pg pp pz pv n39 n38 sc h0_stepCount h0_open h0_twoSides wg wp h0_waitingCount sc tr (sg sa n42) n41 n43 n44 ss sp szs sv sc_length n40 tr tx tr_length ss css (fun j => (gss j).map (sg sa)) sp csp gsp szs cszs gszs sv csv gsv gl tr gls glz glt glv gl_length gls cgls ggls glz cglz gglz glt cglt gglt glv cglv gglv)) [5, 6, 7, 8, 9, 10, 11, 0, 1, 2, 3, 4] rfl
      have hD9 := hD.sb (wq := (wz_115 h0 gl fu pa pf sf pk pg pp pz pv n39 n38 sc h0_stepCount h0_open h0_twoSides wg wp h0_waitingCount sc tr (sg sa n42) n41 n43 n44 ss sp szs sv sc_length n40 tr tx tr_length ss css (fun j => (gss j).map (sg sa)) sp csp gsp szs cszs gszs sv csv gsv gl tr gls glz glt glv gl_length gls cgls ggls glz cglz gglz glt cglt gglt glv cglv gglv)) [5, 6, 7, 8, 9, 10, 11, 0, 1, 2, 3, 4] (by decide) rfl
      exact tz_leave rfl hno hlocks (fun t ht hW => ⟨⟨(ggls, gglt, gglv, gglz, gl_length, n38, n39, n40, n41, n42, n43, n44), ⟨⟨b_gl_length, bn40, bn41, bn42, bn43⟩, by rw [ht]; exact hXX.moved hW.alike⟩, va_P.he ht.symm hP9, va_K.moved hW.alike hK, hD9⟩, hS.F ht⟩) hS.2.2
    obtain ⟨n45, n46, n47, n48, n49, n50, n51⟩ := u
    try dsimp only at hw
    obtain ⟨br37, bn47, bn48, bn49, bn50, xr37⟩ := hw
    try clear hw
    have or37 := hsk
    have er37 := xr37.1
    have hsk := xr37.2.1
    have mr37 := xr37.2.2.1
    have pr37 := sk_pos or37 (by (first | (apply Int.le_antisymm <;> omega) | omega)) (by (first | (apply Int.le_antisymm <;> omega) | omega))
    clear xr37
    obtain ⟨hP1, hK1, hD1⟩ := hB
    replace hP1 := va_P.he ht hP1
    obtain ⟨hP, hD⟩ := va_join (wr := (wz_116 gl tr gls glz glt glv gl_length gls cgls ggls glz cglz gglz glt cglt gglt glv cglv gglv)) (w1 := (wz_112 h0 gl fu pa pf sf pk pg pp pz pv n46 n45 sc h0_stepCount h0_open h0_twoSides wg wp h0_waitingCount sc tr (sg sa n49) n48 n50 n51 ss sp szs sv sc_length n47 tr tx tr_length ss css (fun j => (gss j).map (sg sa)) sp csp gsp szs cszs gszs sv csv gsv)) hP hD [5, 6, 7, 8, 9, 10, 11] [0, 1, 2, 3, 4] rfl rfl (by decide) (by decide) hk1 hFc hP1 hD1
    clear hPc hDc hKc hFc hz1 hk1 hP1 hK1 hD1
    rename Heap => H
    have hP : va_P (dC, dI) cls (wz_117 gl tr gls glz glt glv gl_length gls cgls ggls glz cglz gglz glt cglt gglt glv cglv gglv h0 gl fu pa pf sf pk pg pp pz pv n46 n45 sc h0_stepCount h0_open h0_twoSides wg wp h0_waitingCount sc tr (sg sa n49) n48 n50 n51 ss sp szs sv sc_length n47 tr tx tr_length ss css (fun j => (gss j).map (sg sa)) sp csp gsp szs cszs gszs sv csv gsv) H := hP
    have hD : va_D A (wz_117 gl tr gls glz glt glv gl_length gls cgls ggls glz cglz gglz glt cglt gglt glv cglv gglv h0 gl fu pa pf sf pk pg pp pz pv n46 n45 sc h0_stepCount h0_open h0_twoSides wg wp h0_waitingCount sc tr (sg sa n49) n48 n50 n51 ss sp szs sv sc_length n47 tr tx tr_length ss css (fun j => (gss j).map (sg sa)) sp csp gsp szs cszs gszs sv csv gsv) := hD
    refine lv_istore_n (lv' := [(3, .int r37), (2, .int n5), (1, .int n3), (0, .ref h0)]) hx hb d_PR_readGlobal_57 rfl hl (by decide) rfl (fun ls hl => ?_)
    refine lv_aload_n hx hb d_PR_readGlobal_58 rfl (lv_at hl 3 rfl) ?_
    refine va_gets (C := "WaferForge$Sign") (n := "ASSIGN") (d := "LWaferForge$Sign;") (v := .ref (sg sa 33)) hx hb ((hSW.2.2.2.1.1 33 (by decide)).1) hS hown (hts _ kF_PR_137) (fun _ h9 => h9) d_PR_readGlobal_59 ?_
    have hPc := hP.sb (wq := (wz_112 h0 gl fu pa pf sf pk pg pp pz pv n46 n45 sc h0_stepCount h0_open h0_twoSides wg wp h0_waitingCount sc tr (sg sa n49) n48 n50 n51 ss sp szs sv sc_length n47 tr tx tr_length ss css (fun j => (gss j).map (sg sa)) sp csp gsp szs cszs gszs sv csv gsv)) [5, 6, 7, 8, 9, 10, 11] rfl
    have hDc := hD.sb (wq := (wz_112 h0 gl fu pa pf sf pk pg pp pz pv n46 n45 sc h0_stepCount h0_open h0_twoSides wg wp h0_waitingCount sc tr (sg sa n49) n48 n50 n51 ss sp szs sv sc_length n47 tr tx tr_length ss css (fun j => (gss j).map (sg sa)) sp csp gsp szs cszs gszs sv csv gsv)) [5, 6, 7, 8, 9, 10, 11] (by decide) rfl
    have hKc := hK.sb (tyq := [(css, .object "WaferForge$Sign"), (csp, .int), (cszs, .int), (csv, .long)]) [0, 1, 2, 3] rfl
    have hFc := va_free (wc := (wz_112 h0 gl fu pa pf sf pk pg pp pz pv n46 n45 sc h0_stepCount h0_open h0_twoSides wg wp h0_waitingCount sc tr (sg sa n49) n48 n50 n51 ss sp szs sv sc_length n47 tr tx tr_length ss css (fun j => (gss j).map (sg sa)) sp csp gsp szs cszs gszs sv csv gsv)) hD hS hA [5, 6, 7, 8, 9, 10, 11] rfl
    refine tq_callv (tz_runV (As := [.ref (sg sa 33)]) (rest := []) ⟨hx, hb, hml, hown, hts⟩ (c_PR_take l hlt dC dI H.size sa h0 gl fu pa pf sf pk pg pp pz pv sc wg wp tr ss sp szs sv tx css csp cszs csv n46 n45 h0_stepCount h0_open h0_twoSides h0_waitingCount n49 n48 n50 n51 sc_length n47 tr_length gss gsp gszs gsv (bn49) (bn48) (bn50) (b_sc_length) (bn47) (b_tr_length) 33 ((by decide : 33 < 55)) (hsk) (by decide)) (cwV 1 hts (gV kM_PR_126 kV_PR_take kS_PR_take kI_PR kC_PR_take) rfl rfl rfl (by decide +kernel) ⟨Nat.le_of_ble_eq_true rfl, Nat.le_of_ble_eq_true rfl⟩) ⟨fun a U g mk z => by obtain ⟨z0, z1, zP, zK, zD, zS⟩ := z; exact ⟨z0, z1, zP, va_K.moved (u := U) (U := U.calling g mk a) (Vm.Alike.refl U.vm) zK, zD, sw.same (u := U) (U := U.calling g mk a) rfl zS⟩, va_recv hKc hPc (ci := 6) (q0 := 0) rfl rfl, fun U hU hW => ⟨rfl, by rw [hU], va_P.he hU.symm hPc, va_K.moved hW.alike hKc, hDc.weaken (fun _ _ _ _ => trivial), hSW.call hS hFc hW hU⟩⟩ rfl rfl hl.1 rfl (lv_room (Nat.le_of_ble_eq_true rfl)) d_PR_readGlobal_62 ⟨Nat.le_of_ble_eq_true rfl, Nat.le_of_ble_eq_true rfl⟩) hS (fun q _ h => hFc q h) hFc (fun u t H1 locs ht hvm hw hB hz1 hk1 hS => ?_) (fun xx u t H1 locs ht hvm hw hXX hB hz1 hk1 hS => ?_)
    rotate_left
    · skip
      obtain ⟨n53, n54, n55, n56, n57, n58, n59⟩ := u
      try dsimp only at hw
      obtain ⟨bn55, bn56, bn57, bn58⟩ := hw
      obtain ⟨hP1, hK1, hD1⟩ := hB
      replace hP1 := va_P.he ht hP1
      obtain ⟨hP, hD⟩ := va_join (wr := (wz_116 gl tr gls glz glt glv gl_length gls cgls ggls glz cglz gglz glt cglt gglt glv cglv gglv)) (w1 := (wz_112 h0 gl fu pa pf sf pk pg pp pz pv n54 n53 sc h0_stepCount h0_open h0_twoSides wg wp h0_waitingCount sc tr (sg sa n57) n56 n58 n59 ss sp szs sv sc_length n55 tr tx tr_length ss css (fun j => (gss j).map (sg sa)) sp csp gsp szs cszs gszs sv csv gsv)) hP hD [5, 6, 7, 8, 9, 10, 11] [0, 1, 2, 3, 4] rfl rfl (by decide) (by decide) hk1 hFc hP1 hD1
      have hP : va_P (dC, dI) cls (wz_117 gl tr gls glz glt glv gl_length gls cgls ggls glz cglz gglz glt cglt gglt glv cglv gglv h0 gl fu pa pf sf pk pg pp pz pv n54 n53 sc h0_stepCount h0_open h0_twoSides wg wp h0_waitingCount sc tr (sg sa n57) n56 n58 n59 ss sp szs sv sc_length n55 tr tx tr_length ss css (fun j => (gss j).map (sg sa)) sp csp gsp szs cszs gszs sv csv gsv) H1 := hP
      have hD : va_D A (wz_117 gl tr gls glz glt glv gl_length gls cgls ggls glz cglz gglz glt cglt gglt glv cglv gglv h0 gl fu pa pf sf pk pg pp pz pv n54 n53 sc h0_stepCount h0_open h0_twoSides wg wp h0_waitingCount sc tr (sg sa n57) n56 n58 n59 ss sp szs sv sc_length n55 tr tx tr_length ss css (fun j => (gss j).map (sg sa)) sp csp gsp szs cszs gszs sv csv gsv) := hD
      have hP9 := hP.sb (wq := (wz_115 h0 gl fu pa pf sf pk pg pp pz pv n54 n53 sc h0_stepCount h0_open h0_twoSides wg wp h0_waitingCount sc tr (sg sa n57) n56 n58 n59 ss sp szs sv sc_length n55 tr tx tr_length ss css (fun j => (gss j).map (sg sa)) sp csp gsp szs cszs gszs sv csv gsv gl tr gls glz glt glv gl_length gls cgls ggls glz cglz gglz glt cglt gglt glv cglv gglv)) [5, 6, 7, 8, 9, 10, 11, 0, 1, 2, 3, 4] rfl
      have hD9 := hD.sb (wq := (wz_115 h0 gl fu pa pf sf pk pg pp pz pv n54 n53 sc h0_stepCount h0_open h0_twoSides wg wp h0_waitingCount sc tr (sg sa n57) n56 n58 n59 ss sp szs sv sc_length n55 tr tx tr_length ss css (fun j => (gss j).map (sg sa)) sp csp gsp szs cszs gszs sv csv gsv gl tr gls glz glt glv gl_length gls cgls ggls glz cglz gglz glt cglt gglt glv cglv gglv)) [5, 6, 7, 8, 9, 10, 11, 0, 1, 2, 3, 4] (by decide) rfl
      exact tz_leave rfl hno hlocks (fun t ht hW => ⟨⟨(ggls, gglt, gglv, gglz, gl_length, n53, n54, n55, n56, n57, n58, n59), ⟨⟨b_gl_length, bn55, bn56, bn57, bn58⟩, by rw [ht]; exact hXX.moved hW.alike⟩, va_P.he ht.symm hP9, va_K.moved hW.alike hK, hD9⟩, hS.F ht⟩) hS.2.2
    obtain ⟨n60, n61, n62, n63, n64, n65, n66⟩ := u
    try dsimp only at hw
    obtain ⟨bn62, bn63, bn64, bn65, xr52⟩ := hw
    try clear hw
    have or52 := hsk
    have er52 := xr52.1
    have hsk := xr52.2.1
    have mr52 := xr52.2.2.1
    have pr52 := sk_pos or52 (by (first | (apply Int.le_antisymm <;> omega) | omega)) (by (first | (apply Int.le_antisymm <;> omega) | omega))
    clear xr52
    obtain ⟨hP1, hK1, hD1⟩ := hB
    replace hP1 := va_P.he ht hP1
    obtain ⟨hP, hD⟩ := va_join (wr := (wz_116 gl tr gls glz glt glv gl_length gls cgls ggls glz cglz gglz glt cglt gglt glv cglv gglv)) (w1 := (wz_112 h0 gl fu pa pf sf pk pg pp pz pv n61 n60 sc h0_stepCount h0_open h0_twoSides wg wp h0_waitingCount sc tr (sg sa n64) n63 n65 n66 ss sp szs sv sc_length n62 tr tx tr_length ss css (fun j => (gss j).map (sg sa)) sp csp gsp szs cszs gszs sv csv gsv)) hP hD [5, 6, 7, 8, 9, 10, 11] [0, 1, 2, 3, 4] rfl rfl (by decide) (by decide) hk1 hFc hP1 hD1
    clear hPc hDc hKc hFc hz1 hk1 hP1 hK1 hD1
    rename Heap => H
    have hP : va_P (dC, dI) cls (wz_117 gl tr gls glz glt glv gl_length gls cgls ggls glz cglz gglz glt cglt gglt glv cglv gglv h0 gl fu pa pf sf pk pg pp pz pv n61 n60 sc h0_stepCount h0_open h0_twoSides wg wp h0_waitingCount sc tr (sg sa n64) n63 n65 n66 ss sp szs sv sc_length n62 tr tx tr_length ss css (fun j => (gss j).map (sg sa)) sp csp gsp szs cszs gszs sv csv gsv) H := hP
    have hD : va_D A (wz_117 gl tr gls glz glt glv gl_length gls cgls ggls glz cglz gglz glt cglt gglt glv cglv gglv h0 gl fu pa pf sf pk pg pp pz pv n61 n60 sc h0_stepCount h0_open h0_twoSides wg wp h0_waitingCount sc tr (sg sa n64) n63 n65 n66 ss sp szs sv sc_length n62 tr tx tr_length ss css (fun j => (gss j).map (sg sa)) sp csp gsp szs cszs gszs sv csv gsv) := hD
    refine lv_aload_n hx hb d_PR_readGlobal_65 rfl (lv_at hl 3 rfl) ?_
    refine va_get (D := (dC, dI)) (ci := 6) (v := .ref sc) (C := R_PR) (T := F_PR) (N := 19) hx hb hts i_PR hown hK hP 5 rfl rfl 12 (by decide) (hts _ kF_PR_43) (fun _ h9 => h9) rfl d_PR_readGlobal_66 ?_
    refine va_get (D := (dC, dI)) (ci := 8) (v := .ref (sg sa n64)) (C := R_SC) (T := F_SC) (N := 11) hx hb hts i_SC hown hK hP 6 rfl rfl 1 (by decide) (hts _ kF_PR_93) (fun _ h9 => h9) rfl d_PR_readGlobal_69 ?_
    refine va_gets (C := "WaferForge$Sign") (n := "MINUS") (d := "LWaferForge$Sign;") (v := .ref (sg sa 51)) hx hb ((hSW.2.2.2.1.1 51 (by decide)).1) hS hown (hts _ kF_PR_140) (fun _ h9 => h9) d_PR_readGlobal_72 ?_
    refine w_cut (pc2 := 83) (σ := Int32) (fun u H locs ls => match u with | j83_s0 => (j83_s0 = 0 ∨ j83_s0 = 1) ∧ va_P (dC, dI) cls (wz_117 gl tr gls glz glt glv gl_length gls cgls ggls glz cglz gglz glt cglt gglt glv cglv gglv h0 gl fu pa pf sf pk pg pp pz pv n61 n60 sc h0_stepCount h0_open h0_twoSides wg wp h0_waitingCount sc tr (sg sa n64) n63 n65 n66 ss sp szs sv sc_length n62 tr tx tr_length ss css (fun j => (gss j).map (sg sa)) sp csp gsp szs cszs gszs sv csv gsv) H ∧ va_D A (wz_117 gl tr gls glz glt glv gl_length gls cgls ggls glz cglz gglz glt cglt gglt glv cglv gglv h0 gl fu pa pf sf pk pg pp pz pv n61 n60 sc h0_stepCount h0_open h0_twoSides wg wp h0_waitingCount sc tr (sg sa n64) n63 n65 n66 ss sp szs sv sc_length n62 tr tx tr_length ss css (fun j => (gss j).map (sg sa)) sp csp gsp szs cszs gszs sv csv gsv) ∧ va_S A s.heap H locs ∧ lv_has ls 7 [(0, .ref h0), (1, .int n3), (2, .int n5), (3, .int r37)]) (fun u => match u with | j83_s0 => [.int j83_s0]) ?_ (fun jn83 => ?_)
    · intro u H locs ls hI
      obtain ⟨j83_s0, rfl⟩ : ∃ z, z = u := ⟨_, rfl⟩
      obtain ⟨b_j83_s0, hP, hD, hS, hl⟩ := hI
      have tj83_s0 := b01 b_j83_s0
      refine lv_istore (lv' := [(4, .int j83_s0), (0, .ref h0), (1, .int n3), (2, .int n5), (3, .int r37)]) hx hb d_PR_readGlobal_83 hl (by decide) rfl (fun ls hl => ?_)
      refine lv_iload hx hb d_PR_readGlobal_85 (lv_at hl 0 rfl) ?_
      refine w_cut (pc2 := 97) (σ := Int32 × Int32 × Nat × Int32 × Int64) (fun u H locs ls => match u with | (j97_sc_at, j97_sc_place, j97_sc_sign, j97_sc_size, j97_sc_value) => (-1 ≤ j97_sc_at.toInt ∧ j97_sc_at.toInt ≤ 2000) ∧ (0 ≤ j97_sc_place.toInt ∧ j97_sc_place.toInt ≤ 2000) ∧ (j97_sc_sign < 55) ∧ (0 ≤ j97_sc_size.toInt ∧ j97_sc_size.toInt ≤ 2000) ∧ (sk tr_length.toInt sc_length.toInt j97_sc_at.toInt j97_sc_sign j97_sc_place j97_sc_size j97_sc_value gss gsp gszs gsv) ∧ (n63.toInt ≤ j97_sc_place.toInt) ∧ va_P (dC, dI) cls (wz_117 gl tr gls glz glt glv gl_length gls cgls ggls glz cglz gglz glt cglt gglt glv cglv gglv h0 gl fu pa pf sf pk pg pp pz pv n61 n60 sc h0_stepCount h0_open h0_twoSides wg wp h0_waitingCount sc tr (sg sa j97_sc_sign) j97_sc_place j97_sc_size j97_sc_value ss sp szs sv sc_length j97_sc_at tr tx tr_length ss css (fun j => (gss j).map (sg sa)) sp csp gsp szs cszs gszs sv csv gsv) H ∧ va_D A (wz_117 gl tr gls glz glt glv gl_length gls cgls ggls glz cglz gglz glt cglt gglt glv cglv gglv h0 gl fu pa pf sf pk pg pp pz pv n61 n60 sc h0_stepCount h0_open h0_twoSides wg wp h0_waitingCount sc tr (sg sa j97_sc_sign) j97_sc_place j97_sc_size j97_sc_value ss sp szs sv sc_length j97_sc_at tr tx tr_length ss css (fun j => (gss j).map (sg sa)) sp csp gsp szs cszs gszs sv csv gsv) ∧ va_S A s.heap H locs ∧ lv_has ls 7 [(0, .ref h0), (1, .int n3), (2, .int n5), (3, .int r37), (4, .int j83_s0)]) (fun u => match u with | (j97_sc_at, j97_sc_place, j97_sc_sign, j97_sc_size, j97_sc_value) => []) ?_ (fun jn97 => ?_)
      · intro u H locs ls hI
        obtain ⟨j97_sc_at, j97_sc_place, j97_sc_sign, j97_sc_size, j97_sc_value⟩ := u
        obtain ⟨b_j97_sc_at, b_j97_sc_place, b_j97_sc_sign, b_j97_sc_size, hsk, y97, hP, hD, hS, hl⟩ := hI
        refine lv_iload hx hb d_PR_readGlobal_97 (lv_at hl 4 rfl) ?_
        refine w_cut (pc2 := 120) (σ := Int64) (fun u H locs ls => match u with | j120_s0 => (j120_s0 = j97_sc_value ∨ j120_s0 = -j97_sc_value) ∧ va_P (dC, dI) cls (wz_117 gl tr gls glz glt glv gl_length gls cgls ggls glz cglz gglz glt cglt gglt glv cglv gglv h0 gl fu pa pf sf pk pg pp pz pv n61 n60 sc h0_stepCount h0_open h0_twoSides wg wp h0_waitingCount sc tr (sg sa j97_sc_sign) j97_sc_place j97_sc_size j97_sc_value ss sp szs sv sc_length j97_sc_at tr tx tr_length ss css (fun j => (gss j).map (sg sa)) sp csp gsp szs cszs gszs sv csv gsv) H ∧ va_D A (wz_117 gl tr gls glz glt glv gl_length gls cgls ggls glz cglz gglz glt cglt gglt glv cglv gglv h0 gl fu pa pf sf pk pg pp pz pv n61 n60 sc h0_stepCount h0_open h0_twoSides wg wp h0_waitingCount sc tr (sg sa j97_sc_sign) j97_sc_place j97_sc_size j97_sc_value ss sp szs sv sc_length j97_sc_at tr tx tr_length ss css (fun j => (gss j).map (sg sa)) sp csp gsp szs cszs gszs sv csv gsv) ∧ va_S A s.heap H locs ∧ lv_has ls 7 [(0, .ref h0), (1, .int n3), (2, .int n5), (3, .int r37)]) (fun u => match u with | j120_s0 => [.long j120_s0]) ?_ (fun jn120 => ?_)
        · intro u H locs ls hI
          obtain ⟨j120_s0, rfl⟩ : ∃ z, z = u := ⟨_, rfl⟩
          obtain ⟨y120, hP, hD, hS, hl⟩ := hI
          refine lv_lstore (lv' := [(5, .long j120_s0), (0, .ref h0), (1, .int n3), (2, .int n5), (3, .int r37)]) hx hb d_PR_readGlobal_120 hl (by decide) rfl (fun ls hl => ?_)
          refine lv_aload_n hx hb d_PR_readGlobal_122 rfl (lv_at hl 1 rfl) ?_
          refine lv_iload_n hx hb d_PR_readGlobal_123 rfl (lv_at hl 4 rfl) ?_
          refine lv_bipush (v := 127) hx hb d_PR_readGlobal_124 (by decide) ?_
          refine w_cut (pc2 := 138) (σ := Nat) (fun u H locs ls => match u with | j138_s0 => (j138_s0 < 55) ∧ ((r37.toInt = 127 ∧ j138_s0 = 3) ∨ (r37.toInt ≠ 127 ∧ j138_s0 = 4)) ∧ va_P (dC, dI) cls (wz_117 gl tr gls glz glt glv gl_length gls cgls ggls glz cglz gglz glt cglt gglt glv cglv gglv h0 gl fu pa pf sf pk pg pp pz pv n61 n60 sc h0_stepCount h0_open h0_twoSides wg wp h0_waitingCount sc tr (sg sa j97_sc_sign) j97_sc_place j97_sc_size j97_sc_value ss sp szs sv sc_length j97_sc_at tr tx tr_length ss css (fun j => (gss j).map (sg sa)) sp csp gsp szs cszs gszs sv csv gsv) H ∧ va_D A (wz_117 gl tr gls glz glt glv gl_length gls cgls ggls glz cglz gglz glt cglt gglt glv cglv gglv h0 gl fu pa pf sf pk pg pp pz pv n61 n60 sc h0_stepCount h0_open h0_twoSides wg wp h0_waitingCount sc tr (sg sa j97_sc_sign) j97_sc_place j97_sc_size j97_sc_value ss sp szs sv sc_length j97_sc_at tr tx tr_length ss css (fun j => (gss j).map (sg sa)) sp csp gsp szs cszs gszs sv csv gsv) ∧ va_S A s.heap H locs ∧ lv_has ls 7 [(0, .ref h0), (1, .int n3), (2, .int n5), (3, .int r37), (5, .long j120_s0)]) (fun u => match u with | j138_s0 => [.ref (sg sa j138_s0), .ref h0]) ?_ (fun jn138 => ?_)
          · intro u H locs ls hI
            obtain ⟨j138_s0, rfl⟩ : ∃ z, z = u := ⟨_, rfl⟩
            obtain ⟨b_j138_s0, y138, hP, hD, hS, hl⟩ := hI
            have hPc := hP.sb (wq := (wz_112 h0 gl fu pa pf sf pk pg pp pz pv n61 n60 sc h0_stepCount h0_open h0_twoSides wg wp h0_waitingCount sc tr (sg sa j97_sc_sign) j97_sc_place j97_sc_size j97_sc_value ss sp szs sv sc_length j97_sc_at tr tx tr_length ss css (fun j => (gss j).map (sg sa)) sp csp gsp szs cszs gszs sv csv gsv)) [5, 6, 7, 8, 9, 10, 11] rfl
            have hDc := hD.sb (wq := (wz_112 h0 gl fu pa pf sf pk pg pp pz pv n61 n60 sc h0_stepCount h0_open h0_twoSides wg wp h0_waitingCount sc tr (sg sa j97_sc_sign) j97_sc_place j97_sc_size j97_sc_value ss sp szs sv sc_length j97_sc_at tr tx tr_length ss css (fun j => (gss j).map (sg sa)) sp csp gsp szs cszs gszs sv csv gsv)) [5, 6, 7, 8, 9, 10, 11] (by decide) rfl
            have hKc := hK.sb (tyq := [(css, .object "WaferForge$Sign"), (csp, .int), (cszs, .int), (csv, .long)]) [0, 1, 2, 3] rfl
            have hFc := va_free (wc := (wz_112 h0 gl fu pa pf sf pk pg pp pz pv n61 n60 sc h0_stepCount h0_open h0_twoSides wg wp h0_waitingCount sc tr (sg sa j97_sc_sign) j97_sc_place j97_sc_size j97_sc_value ss sp szs sv sc_length j97_sc_at tr tx tr_length ss css (fun j => (gss j).map (sg sa)) sp csp gsp szs cszs gszs sv csv gsv)) hD hS hA [5, 6, 7, 8, 9, 10, 11] rfl
            refine tq_callv (tz_runV (As := [.ref (sg sa j138_s0)]) (rest := []) ⟨hx, hb, hml, hown, hts⟩ (c_PR_take l hlt dC dI H.size sa h0 gl fu pa pf sf pk pg pp pz pv sc wg wp tr ss sp szs sv tx css csp cszs csv n61 n60 h0_stepCount h0_open h0_twoSides h0_waitingCount j97_sc_sign j97_sc_place j97_sc_size j97_sc_value sc_length j97_sc_at tr_length gss gsp gszs gsv (b_j97_sc_sign) (b_j97_sc_place) (b_j97_sc_size) (b_sc_length) (b_j97_sc_at) (b_tr_length) j138_s0 (b_j138_s0) (hsk) (by (first | (apply Int.le_antisymm <;> omega) | omega))) (cwV 1 hts (gV kM_PR_126 kV_PR_take kS_PR_take kI_PR kC_PR_take) rfl rfl rfl (by decide +kernel) ⟨Nat.le_of_ble_eq_true rfl, Nat.le_of_ble_eq_true rfl⟩) ⟨fun a U g mk z => by obtain ⟨z0, z1, zP, zK, zD, zS⟩ := z; exact ⟨z0, z1, zP, va_K.moved (u := U) (U := U.calling g mk a) (Vm.Alike.refl U.vm) zK, zD, sw.same (u := U) (U := U.calling g mk a) rfl zS⟩, va_recv hKc hPc (ci := 6) (q0 := 0) rfl rfl, fun U hU hW => ⟨rfl, by rw [hU], va_P.he hU.symm hPc, va_K.moved hW.alike hKc, hDc.weaken (fun _ _ _ _ => trivial), hSW.call hS hFc hW hU⟩⟩ rfl rfl hl.1 rfl (lv_room (Nat.le_of_ble_eq_true rfl)) d_PR_readGlobal_138 ⟨Nat.le_of_ble_eq_true rfl, Nat.le_of_ble_eq_true rfl⟩) hS (fun q _ h => hFc q h) hFc (fun u t H1 locs ht hvm hw hB hz1 hk1 hS => ?_) (fun xx u t H1 locs ht hvm hw hXX hB hz1 hk1 hS => ?_)
            rotate_left
            · skip
              obtain ⟨n68, n69, n70, n71, n72, n73, n74⟩ := u
              try dsimp only at hw
              obtain ⟨bn70, bn71, bn72, bn73⟩ := hw
              obtain ⟨hP1, hK1, hD1⟩ := hB
              replace hP1 := va_P.he ht hP1
              obtain ⟨hP, hD⟩ := va_join (wr := (wz_116 gl tr gls glz glt glv gl_length gls cgls ggls glz cglz gglz glt cglt gglt glv cglv gglv)) (w1 := (wz_112 h0 gl fu pa pf sf pk pg pp pz pv n69 n68 sc h0_stepCount h0_open h0_twoSides wg wp h0_waitingCount sc tr (sg sa n72) n71 n73 n74 ss sp szs sv sc_length n70 tr tx tr_length ss css (fun j => (gss j).map (sg sa)) sp csp gsp szs cszs gszs sv csv gsv)) hP hD [5, 6, 7, 8, 9, 10, 11] [0, 1, 2, 3, 4] rfl rfl (by decide) (by decide) hk1 hFc hP1 hD1
              have hP : va_P (dC, dI) cls (wz_117 gl tr gls glz glt glv gl_length gls cgls ggls glz cglz gglz glt cglt gglt glv cglv gglv h0 gl fu pa pf sf pk pg pp pz pv n69 n68 sc h0_stepCount h0_open h0_twoSides wg wp h0_waitingCount sc tr (sg sa n72) n71 n73 n74 ss sp szs sv sc_length n70 tr tx tr_length ss css (fun j => (gss j).map (sg sa)) sp csp gsp szs cszs gszs sv csv gsv) H1 := hP
              have hD : va_D A (wz_117 gl tr gls glz glt glv gl_length gls cgls ggls glz cglz gglz glt cglt gglt glv cglv gglv h0 gl fu pa pf sf pk pg pp pz pv n69 n68 sc h0_stepCount h0_open h0_twoSides wg wp h0_waitingCount sc tr (sg sa n72) n71 n73 n74 ss sp szs sv sc_length n70 tr tx tr_length ss css (fun j => (gss j).map (sg sa)) sp csp gsp szs cszs gszs sv csv gsv) := hD
              have hP9 := hP.sb (wq := (wz_115 h0 gl fu pa pf sf pk pg pp pz pv n69 n68 sc h0_stepCount h0_open h0_twoSides wg wp h0_waitingCount sc tr (sg sa n72) n71 n73 n74 ss sp szs sv sc_length n70 tr tx tr_length ss css (fun j => (gss j).map (sg sa)) sp csp gsp szs cszs gszs sv csv gsv gl tr gls glz glt glv gl_length gls cgls ggls glz cglz gglz glt cglt gglt glv cglv gglv)) [5, 6, 7, 8, 9, 10, 11, 0, 1, 2, 3, 4] rfl
              have hD9 := hD.sb (wq := (wz_115 h0 gl fu pa pf sf pk pg pp pz pv n69 n68 sc h0_stepCount h0_open h0_twoSides wg wp h0_waitingCount sc tr (sg sa n72) n71 n73 n74 ss sp szs sv sc_length n70 tr tx tr_length ss css (fun j => (gss j).map (sg sa)) sp csp gsp szs cszs gszs sv csv gsv gl tr gls glz glt glv gl_length gls cgls ggls glz cglz gglz glt cglt gglt glv cglv gglv)) [5, 6, 7, 8, 9, 10, 11, 0, 1, 2, 3, 4] (by decide) rfl
              exact tz_leave rfl hno hlocks (fun t ht hW => ⟨⟨(ggls, gglt, gglv, gglz, gl_length, n68, n69, n70, n71, n72, n73, n74), ⟨⟨b_gl_length, bn70, bn71, bn72, bn73⟩, by rw [ht]; exact hXX.moved hW.alike⟩, va_P.he ht.symm hP9, va_K.moved hW.alike hK, hD9⟩, hS.F ht⟩) hS.2.2
            obtain ⟨n75, n76, n77, n78, n79, n80, n81⟩ := u
            try dsimp only at hw
            obtain ⟨bn77, bn78, bn79, bn80, xr67⟩ := hw
            try clear hw
            have or67 := hsk
            have er67 := xr67.1
            have hsk := xr67.2.1
            have mr67 := xr67.2.2.1
            have pr67 := sk_pos or67 (by (first | (apply Int.le_antisymm <;> omega) | omega)) (by (first | (apply Int.le_antisymm <;> omega) | omega))
            clear xr67
            obtain ⟨hP1, hK1, hD1⟩ := hB
            replace hP1 := va_P.he ht hP1
            obtain ⟨hP, hD⟩ := va_join (wr := (wz_116 gl tr gls glz glt glv gl_length gls cgls ggls glz cglz gglz glt cglt gglt glv cglv gglv)) (w1 := (wz_112 h0 gl fu pa pf sf pk pg pp pz pv n76 n75 sc h0_stepCount h0_open h0_twoSides wg wp h0_waitingCount sc tr (sg sa n79) n78 n80 n81 ss sp szs sv sc_length n77 tr tx tr_length ss css (fun j => (gss j).map (sg sa)) sp csp gsp szs cszs gszs sv csv gsv)) hP hD [5, 6, 7, 8, 9, 10, 11] [0, 1, 2, 3, 4] rfl rfl (by decide) (by decide) hk1 hFc hP1 hD1
            clear hPc hDc hKc hFc hz1 hk1 hP1 hK1 hD1
            rename Heap => H
            have hP : va_P (dC, dI) cls (wz_117 gl tr gls glz glt glv gl_length gls cgls ggls glz cglz gglz glt cglt gglt glv cglv gglv h0 gl fu pa pf sf pk pg pp pz pv n76 n75 sc h0_stepCount h0_open h0_twoSides wg wp h0_waitingCount sc tr (sg sa n79) n78 n80 n81 ss sp szs sv sc_length n77 tr tx tr_length ss css (fun j => (gss j).map (sg sa)) sp csp gsp szs cszs gszs sv csv gsv) H := hP
            have hD : va_D A (wz_117 gl tr gls glz glt glv gl_length gls cgls ggls glz cglz gglz glt cglt gglt glv cglv gglv h0 gl fu pa pf sf pk pg pp pz pv n76 n75 sc h0_stepCount h0_open h0_twoSides wg wp h0_waitingCount sc tr (sg sa n79) n78 n80 n81 ss sp szs sv sc_length n77 tr tx tr_length ss css (fun j => (gss j).map (sg sa)) sp csp gsp szs cszs gszs sv csv gsv) := hD
            refine lv_aload_n hx hb d_PR_readGlobal_141 rfl (lv_at hl 0 rfl) ?_
            refine va_gets (C := "WaferForge$Sign") (n := "SEMICOLON") (d := "LWaferForge$Sign;") (v := .ref (sg sa 31)) hx hb ((hSW.2.2.2.1.1 31 (by decide)).1) hS hown (hts _ kF_PR_153) (fun _ h9 => h9) d_PR_readGlobal_142 ?_
            have hPc := hP.sb (wq := (wz_112 h0 gl fu pa pf sf pk pg pp pz pv n76 n75 sc h0_stepCount h0_open h0_twoSides wg wp h0_waitingCount sc tr (sg sa n79) n78 n80 n81 ss sp szs sv sc_length n77 tr tx tr_length ss css (fun j => (gss j).map (sg sa)) sp csp gsp szs cszs gszs sv csv gsv)) [5, 6, 7, 8, 9, 10, 11] rfl
            have hDc := hD.sb (wq := (wz_112 h0 gl fu pa pf sf pk pg pp pz pv n76 n75 sc h0_stepCount h0_open h0_twoSides wg wp h0_waitingCount sc tr (sg sa n79) n78 n80 n81 ss sp szs sv sc_length n77 tr tx tr_length ss css (fun j => (gss j).map (sg sa)) sp csp gsp szs cszs gszs sv csv gsv)) [5, 6, 7, 8, 9, 10, 11] (by decide) rfl
            have hKc := hK.sb (tyq := [(css, .object "WaferForge$Sign"), (csp, .int), (cszs, .int), (csv, .long)]) [0, 1, 2, 3] rfl
            have hFc := va_free (wc := (wz_112 h0 gl fu pa pf sf pk pg pp pz pv n76 n75 sc h0_stepCount h0_open h0_twoSides wg wp h0_waitingCount sc tr (sg sa n79) n78 n80 n81 ss sp szs sv sc_length n77 tr tx tr_length ss css (fun j => (gss j).map (sg sa)) sp csp gsp szs cszs gszs sv csv gsv)) hD hS hA [5, 6, 7, 8, 9, 10, 11] rfl
            refine tq_callv (tz_runV (As := [.ref (sg sa 31)]) (rest := []) ⟨hx, hb, hml, hown, hts⟩ (c_PR_take l hlt dC dI H.size sa h0 gl fu pa pf sf pk pg pp pz pv sc wg wp tr ss sp szs sv tx css csp cszs csv n76 n75 h0_stepCount h0_open h0_twoSides h0_waitingCount n79 n78 n80 n81 sc_length n77 tr_length gss gsp gszs gsv (bn79) (bn78) (bn80) (b_sc_length) (bn77) (b_tr_length) 31 ((by decide : 31 < 55)) (hsk) (by decide)) (cwV 1 hts (gV kM_PR_126 kV_PR_take kS_PR_take kI_PR kC_PR_take) rfl rfl rfl (by decide +kernel) ⟨Nat.le_of_ble_eq_true rfl, Nat.le_of_ble_eq_true rfl⟩) ⟨fun a U g mk z => by obtain ⟨z0, z1, zP, zK, zD, zS⟩ := z; exact ⟨z0, z1, zP, va_K.moved (u := U) (U := U.calling g mk a) (Vm.Alike.refl U.vm) zK, zD, sw.same (u := U) (U := U.calling g mk a) rfl zS⟩, va_recv hKc hPc (ci := 6) (q0 := 0) rfl rfl, fun U hU hW => ⟨rfl, by rw [hU], va_P.he hU.symm hPc, va_K.moved hW.alike hKc, hDc.weaken (fun _ _ _ _ => trivial), hSW.call hS hFc hW hU⟩⟩ rfl rfl hl.1 rfl (lv_room (Nat.le_of_ble_eq_true rfl)) d_PR_readGlobal_145 ⟨Nat.le_of_ble_eq_true rfl, Nat.le_of_ble_eq_true rfl⟩) hS (fun q _ h => hFc q h) hFc (fun u t H1 locs ht hvm hw hB hz1 hk1 hS => ?_) (fun xx u t H1 locs ht hvm hw hXX hB hz1 hk1 hS => ?_)
            rotate_left
            · skip
              obtain ⟨n83, n84, n85, n86, n87, n88, n89⟩ := u
              try dsimp only at hw
              obtain ⟨bn85, bn86, bn87, bn88⟩ := hw
              obtain ⟨hP1, hK1, hD1⟩ := hB
              replace hP1 := va_P.he ht hP1
              obtain ⟨hP, hD⟩ := va_join (wr := (wz_116 gl tr gls glz glt glv gl_length gls cgls ggls glz cglz gglz glt cglt gglt glv cglv gglv)) (w1 := (wz_112 h0 gl fu pa pf sf pk pg pp pz pv n84 n83 sc h0_stepCount h0_open h0_twoSides wg wp h0_waitingCount sc tr (sg sa n87) n86 n88 n89 ss sp szs sv sc_length n85 tr tx tr_length ss css (fun j => (gss j).map (sg sa)) sp csp gsp szs cszs gszs sv csv gsv)) hP hD [5, 6, 7, 8, 9, 10, 11] [0, 1, 2, 3, 4] rfl rfl (by decide) (by decide) hk1 hFc hP1 hD1
              have hP : va_P (dC, dI) cls (wz_117 gl tr gls glz glt glv gl_length gls cgls ggls glz cglz gglz glt cglt gglt glv cglv gglv h0 gl fu pa pf sf pk pg pp pz pv n84 n83 sc h0_stepCount h0_open h0_twoSides wg wp h0_waitingCount sc tr (sg sa n87) n86 n88 n89 ss sp szs sv sc_length n85 tr tx tr_length ss css (fun j => (gss j).map (sg sa)) sp csp gsp szs cszs gszs sv csv gsv) H1 := hP
              have hD : va_D A (wz_117 gl tr gls glz glt glv gl_length gls cgls ggls glz cglz gglz glt cglt gglt glv cglv gglv h0 gl fu pa pf sf pk pg pp pz pv n84 n83 sc h0_stepCount h0_open h0_twoSides wg wp h0_waitingCount sc tr (sg sa n87) n86 n88 n89 ss sp szs sv sc_length n85 tr tx tr_length ss css (fun j => (gss j).map (sg sa)) sp csp gsp szs cszs gszs sv csv gsv) := hD
              have hP9 := hP.sb (wq := (wz_115 h0 gl fu pa pf sf pk pg pp pz pv n84 n83 sc h0_stepCount h0_open h0_twoSides wg wp h0_waitingCount sc tr (sg sa n87) n86 n88 n89 ss sp szs sv sc_length n85 tr tx tr_length ss css (fun j => (gss j).map (sg sa)) sp csp gsp szs cszs gszs sv csv gsv gl tr gls glz glt glv gl_length gls cgls ggls glz cglz gglz glt cglt gglt glv cglv gglv)) [5, 6, 7, 8, 9, 10, 11, 0, 1, 2, 3, 4] rfl
              have hD9 := hD.sb (wq := (wz_115 h0 gl fu pa pf sf pk pg pp pz pv n84 n83 sc h0_stepCount h0_open h0_twoSides wg wp h0_waitingCount sc tr (sg sa n87) n86 n88 n89 ss sp szs sv sc_length n85 tr tx tr_length ss css (fun j => (gss j).map (sg sa)) sp csp gsp szs cszs gszs sv csv gsv gl tr gls glz glt glv gl_length gls cgls ggls glz cglz gglz glt cglt gglt glv cglv gglv)) [5, 6, 7, 8, 9, 10, 11, 0, 1, 2, 3, 4] (by decide) rfl
              exact tz_leave rfl hno hlocks (fun t ht hW => ⟨⟨(ggls, gglt, gglv, gglz, gl_length, n83, n84, n85, n86, n87, n88, n89), ⟨⟨b_gl_length, bn85, bn86, bn87, bn88⟩, by rw [ht]; exact hXX.moved hW.alike⟩, va_P.he ht.symm hP9, va_K.moved hW.alike hK, hD9⟩, hS.F ht⟩) hS.2.2
            obtain ⟨n90, n91, n92, n93, n94, n95, n96⟩ := u
            try dsimp only at hw
            obtain ⟨bn92, bn93, bn94, bn95, xr82⟩ := hw
            try clear hw
            have or82 := hsk
            have er82 := xr82.1
            have hsk := xr82.2.1
            have mr82 := xr82.2.2.1
            have pr82 := sk_pos or82 (by (first | (apply Int.le_antisymm <;> omega) | omega)) (by (first | (apply Int.le_antisymm <;> omega) | omega))
            clear xr82
            have tg : tG r37.toInt j120_s0.toInt := by
              rcases y138 with ⟨a9, b9⟩ | ⟨a9, b9⟩
              · have c9 := (sk_is or67).2.2.2.2.2.2.1 (er67.trans b9)
                rcases y120 with y | y
                · rw [y]; exact Or.inl ⟨a9, by (first | (apply Int.le_antisymm <;> omega) | omega), by (first | (apply Int.le_antisymm <;> omega) | omega)⟩
                · have w9 := i64_neg y c9.1; exact Or.inl ⟨a9, by (first | (apply Int.le_antisymm <;> omega) | omega), by (first | (apply Int.le_antisymm <;> omega) | omega)⟩
              · exact Or.inr (by (first | (apply Int.le_antisymm <;> omega) | omega))
            obtain ⟨hP1, hK1, hD1⟩ := hB
            replace hP1 := va_P.he ht hP1
            obtain ⟨hP, hD⟩ := va_join (wr := (wz_116 gl tr gls glz glt glv gl_length gls cgls ggls glz cglz gglz glt cglt gglt glv cglv gglv)) (w1 := (wz_112 h0 gl fu pa pf sf pk pg pp pz pv n91 n90 sc h0_stepCount h0_open h0_twoSides wg wp h0_waitingCount sc tr (sg sa n94) n93 n95 n96 ss sp szs sv sc_length n92 tr tx tr_length ss css (fun j => (gss j).map (sg sa)) sp csp gsp szs cszs gszs sv csv gsv)) hP hD [5, 6, 7, 8, 9, 10, 11] [0, 1, 2, 3, 4] rfl rfl (by decide) (by decide) hk1 hFc hP1 hD1
            clear hPc hDc hKc hFc hz1 hk1 hP1 hK1 hD1
            rename Heap => H
            have hP : va_P (dC, dI) cls (wz_117 gl tr gls glz glt glv gl_length gls cgls ggls glz cglz gglz glt cglt gglt glv cglv gglv h0 gl fu pa pf sf pk pg pp pz pv n91 n90 sc h0_stepCount h0_open h0_twoSides wg wp h0_waitingCount sc tr (sg sa n94) n93 n95 n96 ss sp szs sv sc_length n92 tr tx tr_length ss css (fun j => (gss j).map (sg sa)) sp csp gsp szs cszs gszs sv csv gsv) H := hP
            have hD : va_D A (wz_117 gl tr gls glz glt glv gl_length gls cgls ggls glz cglz gglz glt cglt gglt glv cglv gglv h0 gl fu pa pf sf pk pg pp pz pv n91 n90 sc h0_stepCount h0_open h0_twoSides wg wp h0_waitingCount sc tr (sg sa n94) n93 n95 n96 ss sp szs sv sc_length n92 tr tx tr_length ss css (fun j => (gss j).map (sg sa)) sp csp gsp szs cszs gszs sv csv gsv) := hD
            refine lv_aload_n hx hb d_PR_readGlobal_148 rfl (lv_at hl 0 rfl) ?_
            refine va_get (D := (dC, dI)) (ci := 6) (v := .ref gl) (C := R_PR) (T := F_PR) (N := 19) hx hb hts i_PR hown hK hP 5 rfl rfl 0 (by decide) (hts _ kF_PR_58) (fun _ h9 => h9) rfl d_PR_readGlobal_149 ?_
            refine lv_iload_n hx hb d_PR_readGlobal_152 rfl (lv_at hl 1 rfl) ?_
            refine lv_iload_n hx hb d_PR_readGlobal_153 rfl (lv_at hl 2 rfl) ?_
            refine lv_iload_n hx hb d_PR_readGlobal_154 rfl (lv_at hl 3 rfl) ?_
            refine lv_lload hx hb d_PR_readGlobal_155 (lv_at hl 4 rfl) ?_
            have hPc := hP.sb (wq := (wz_116 gl tr gls glz glt glv gl_length gls cgls ggls glz cglz gglz glt cglt gglt glv cglv gglv)) [0, 1, 2, 3, 4] rfl
            have hDc := hD.sb (wq := (wz_116 gl tr gls glz glt glv gl_length gls cgls ggls glz cglz gglz glt cglt gglt glv cglv gglv)) [0, 1, 2, 3, 4] (by decide) rfl
            have hKc := hK.sb (tyq := [(cgls, .int), (cglz, .int), (cglt, .int), (cglv, .long)]) [4, 5, 6, 7] rfl
            have hFc := va_free (wc := (wz_116 gl tr gls glz glt glv gl_length gls cgls ggls glz cglz gglz glt cglt gglt glv cglv gglv)) hD hS hA [0, 1, 2, 3, 4] rfl
            refine va_callv (va_runV (As := [.int n3, .int n5, .int r37, .long j120_s0]) (rest := []) ⟨hx, hb, hml, hown, hts⟩ (c_NA_add l dC dI H.size gl tr gls glz glt glv cgls cglz cglt cglv gl_length 20 ggls gglz gglt gglv n3 n5 r37 j120_s0 (by (try dsimp only) <;> (first | (apply Int.le_antisymm <;> omega) | omega))) (cwV 4 hts (gV kM_PR_156 kV_NA_add kS_NA_add kI_NA kC_NA_add) rfl rfl rfl (by decide +kernel) ⟨Nat.le_of_ble_eq_true rfl, Nat.le_of_ble_eq_true rfl⟩) ⟨fun a U g mk z => by obtain ⟨z0, z1, zP, zK, zD⟩ := z; exact ⟨z0, z1, zP, va_K.moved (u := U) (U := U.calling g mk a) (Vm.Alike.refl U.vm) zK, zD⟩, va_recv hKc hPc (ci := 5) (q0 := 0) rfl rfl, fun U hU hW => ⟨rfl, by rw [hU], va_P.he hU.symm hPc, va_K.moved hW.alike hKc, hDc.weaken (fun _ _ _ _ => trivial)⟩⟩ rfl rfl hl.1 rfl (lv_room (Nat.le_of_ble_eq_true rfl)) d_PR_readGlobal_157 ⟨(Nat.zero_le _), (Nat.zero_le _)⟩) hS (fun q _ h => hFc q h) hFc (fun u t H1 locs ht hvm hw hB hz1 hk1 hS => ?_)
            obtain ⟨n98, n99, n100, n101, n102⟩ := u
            try dsimp only at hw
            have xr97 := hw
            try clear hw
            have w157 := xr97.1 (by (first | (apply Int.le_antisymm <;> omega) | omega))
            clear xr97
            obtain ⟨hP1, hK1, hD1⟩ := hB
            replace hP1 := va_P.he ht hP1
            obtain ⟨hP, hD⟩ := va_join (wr := (wz_112 h0 gl fu pa pf sf pk pg pp pz pv n91 n90 sc h0_stepCount h0_open h0_twoSides wg wp h0_waitingCount sc tr (sg sa n94) n93 n95 n96 ss sp szs sv sc_length n92 tr tx tr_length ss css (fun j => (gss j).map (sg sa)) sp csp gsp szs cszs gszs sv csv gsv)) (w1 := (wz_116 gl tr gls glz glt glv n102 gls cgls n98 glz cglz n101 glt cglt n99 glv cglv n100)) hP hD [0, 1, 2, 3, 4] [5, 6, 7, 8, 9, 10, 11] rfl rfl (by decide) (by decide) hk1 hFc hP1 hD1
            clear hPc hDc hKc hFc hz1 hk1 hP1 hK1 hD1
            rename Heap => H
            have hP : va_P (dC, dI) cls (wz_115 h0 gl fu pa pf sf pk pg pp pz pv n91 n90 sc h0_stepCount h0_open h0_twoSides wg wp h0_waitingCount sc tr (sg sa n94) n93 n95 n96 ss sp szs sv sc_length n92 tr tx tr_length ss css (fun j => (gss j).map (sg sa)) sp csp gsp szs cszs gszs sv csv gsv gl tr gls glz glt glv n102 gls cgls n98 glz cglz n101 glt cglt n99 glv cglv n100) H := hP
            have hD : va_D A (wz_115 h0 gl fu pa pf sf pk pg pp pz pv n91 n90 sc h0_stepCount h0_open h0_twoSides wg wp h0_waitingCount sc tr (sg sa n94) n93 n95 n96 ss sp szs sv sc_length n92 tr tx tr_length ss css (fun j => (gss j).map (sg sa)) sp csp gsp szs cszs gszs sv csv gsv gl tr gls glz glt glv n102 gls cgls n98 glz cglz n101 glt cglt n99 glv cglv n100) := hD
            have hP9 := hP.sb (wq := (wz_115 h0 gl fu pa pf sf pk pg pp pz pv n91 n90 sc h0_stepCount h0_open h0_twoSides wg wp h0_waitingCount sc tr (sg sa n94) n93 n95 n96 ss sp szs sv sc_length n92 tr tx tr_length ss css (fun j => (gss j).map (sg sa)) sp csp gsp szs cszs gszs sv csv gsv gl tr gls glz glt glv n102 gls cgls n98 glz cglz n101 glt cglt n99 glv cglv n100)) [0, 1, 2, 3, 4, 5, 6, 7, 8, 9, 10, 11] rfl
            have hD9 := hD.sb (wq := (wz_115 h0 gl fu pa pf sf pk pg pp pz pv n91 n90 sc h0_stepCount h0_open h0_twoSides wg wp h0_waitingCount sc tr (sg sa n94) n93 n95 n96 ss sp szs sv sc_length n92 tr tx tr_length ss css (fun j => (gss j).map (sg sa)) sp csp gsp szs cszs gszs sv csv gsv gl tr gls glz glt glv n102 gls cgls n98 glz cglz n101 glt cglt n99 glv cglv n100)) [0, 1, 2, 3, 4, 5, 6, 7, 8, 9, 10, 11] (by decide) rfl
            exact tz_up (fun _ => rfl) (W.vret hx hb hr (fun t ht hW => ⟨⟨(n98, n99, n100, n101, n102, n90, n91, n92, n93, n94, n95, n96), ⟨rfl, ⟨by (try dsimp only) <;> (first | (apply Int.le_antisymm <;> omega) | omega), bn92, bn93, bn94, bn95, ⟨hsk, nm_add hnm (by (first | (apply Int.le_antisymm <;> omega) | omega)) w157 w43 tg, w157.1, by (try dsimp only); (first | (apply Int.le_antisymm <;> omega) | omega)⟩⟩⟩, va_P.he ht.symm hP9, va_K.moved hW.alike hK, hD9⟩, hS.F ht⟩) hS.2.2 d_PR_readGlobal_160)
          · skip
            refine lv_icmp_ne (tgt := 135) hx hb d_PR_readGlobal_126 (by decide) (fun c126 => ?_) (fun c126 => ?_)
            · have q126 := neI c126
              refine va_gets (C := "WaferForge$Sign") (n := "LONG_INTEGER") (d := "LWaferForge$Sign;") (v := .ref (sg sa 4)) hx hb ((hSW.2.2.2.1.1 4 (by decide)).1) hS hown (hts _ kF_PR_150) (fun _ h9 => h9) d_PR_readGlobal_135 ?_
              exact jn138 4 _ _ _ ⟨(by decide : 4 < 55), by (try dsimp only) <;> (first | (apply Int.le_antisymm <;> omega) | omega), hP, hD, hS, lv_sub hl [1, 2, 3, 4, 0] rfl⟩
            · have q126 := eqI c126
              refine va_gets (C := "WaferForge$Sign") (n := "INTEGER") (d := "LWaferForge$Sign;") (v := .ref (sg sa 3)) hx hb ((hSW.2.2.2.1.1 3 (by decide)).1) hS hown (hts _ kF_PR_147) (fun _ h9 => h9) d_PR_readGlobal_129 ?_
              refine lv_goto (tgt := 138) hx hb d_PR_readGlobal_132 (by decide) ?_
              exact jn138 3 _ _ _ ⟨(by decide : 3 < 55), by (try dsimp only) <;> (first | (apply Int.le_antisymm <;> omega) | omega), hP, hD, hS, lv_sub hl [1, 2, 3, 4, 0] rfl⟩
        · skip
          refine lv_if_eq (tgt := 113) hx hb d_PR_readGlobal_99 (by decide) (fun c99 => ?_) (fun c99 => ?_)
          · have q99 := eqI c99
            refine lv_aload_n hx hb d_PR_readGlobal_113 rfl (lv_at hl 0 rfl) ?_
            refine va_get (D := (dC, dI)) (ci := 6) (v := .ref sc) (C := R_PR) (T := F_PR) (N := 19) hx hb hts i_PR hown hK hP 5 rfl rfl 12 (by decide) (hts _ kF_PR_43) (fun _ h9 => h9) rfl d_PR_readGlobal_114 ?_
            refine va_get (D := (dC, dI)) (ci := 8) (v := .long j97_sc_value) (C := R_SC) (T := F_SC) (N := 11) hx hb hts i_SC hown hK hP 6 rfl rfl 4 (by decide) (hts _ kF_PR_143) (fun _ h9 => h9) rfl d_PR_readGlobal_117 ?_
            exact jn120 j97_sc_value _ _ _ ⟨Or.inl rfl, hP, hD, hS, lv_sub hl [0, 1, 2, 3] rfl⟩
          · have q99 := neI c99
            refine lv_aload_n hx hb d_PR_readGlobal_102 rfl (lv_at hl 0 rfl) ?_
            refine va_get (D := (dC, dI)) (ci := 6) (v := .ref sc) (C := R_PR) (T := F_PR) (N := 19) hx hb hts i_PR hown hK hP 5 rfl rfl 12 (by decide) (hts _ kF_PR_43) (fun _ h9 => h9) rfl d_PR_readGlobal_103 ?_
            refine va_get (D := (dC, dI)) (ci := 8) (v := .long j97_sc_value) (C := R_SC) (T := F_SC) (N := 11) hx hb hts i_SC hown hK hP 6 rfl rfl 4 (by decide) (hts _ kF_PR_143) (fun _ h9 => h9) rfl d_PR_readGlobal_106 ?_
            refine lv_lneg hx hb d_PR_readGlobal_109 ?_
            refine lv_topl (fun x103 ex103 => ?_)
            refine lv_goto (tgt := 120) hx hb d_PR_readGlobal_110 (by decide) ?_
            exact jn120 x103 _ _ _ ⟨Or.inr ex103, hP, hD, hS, lv_sub hl [0, 1, 2, 3] rfl⟩
      · skip
        refine lv_if_eq (tgt := 97) hx hb d_PR_readGlobal_87 (by decide) (fun c87 => ?_) (fun c87 => ?_)
        · have q87 := eqI c87
          exact jn97 (n62, n63, n64, n65, n66) _ _ _ ⟨bn62, bn63, bn64, bn65, hsk, by (try dsimp only) <;> (first | (apply Int.le_antisymm <;> omega) | omega), hP, hD, hS, lv_sub hl [1, 2, 3, 4, 0] rfl⟩
        · have q87 := neI c87
          refine lv_aload_n hx hb d_PR_readGlobal_90 rfl (lv_at hl 1 rfl) ?_
          refine va_get (D := (dC, dI)) (ci := 6) (v := .ref sc) (C := R_PR) (T := F_PR) (N := 19) hx hb hts i_PR hown hK hP 5 rfl rfl 12 (by decide) (hts _ kF_PR_43) (fun _ h9 => h9) rfl d_PR_readGlobal_91 ?_
          have hPc := hP.sb (wq := (wz_107 sc tr (sg sa n64) n63 n65 n66 ss sp szs sv sc_length n62 tr tx tr_length ss css (fun j => (gss j).map (sg sa)) sp csp gsp szs cszs gszs sv csv gsv)) [6, 7, 8, 9, 10, 11] rfl
          have hDc := hD.sb (wq := (wz_107 sc tr (sg sa n64) n63 n65 n66 ss sp szs sv sc_length n62 tr tx tr_length ss css (fun j => (gss j).map (sg sa)) sp csp gsp szs cszs gszs sv csv gsv)) [6, 7, 8, 9, 10, 11] (by decide) rfl
          have hKc := hK.sb (tyq := [(css, .object "WaferForge$Sign"), (csp, .int), (cszs, .int), (csv, .long)]) [0, 1, 2, 3] rfl
          have hFc := va_free (wc := (wz_107 sc tr (sg sa n64) n63 n65 n66 ss sp szs sv sc_length n62 tr tx tr_length ss css (fun j => (gss j).map (sg sa)) sp csp gsp szs cszs gszs sv csv gsv)) hD hS hA [6, 7, 8, 9, 10, 11] rfl
          refine va_callv (va_runV (As := []) (rest := []) ⟨hx, hb, hml, hown, hts⟩ (c_SC_next l dC dI H.size sa sc tr ss sp szs sv tx css csp cszs csv n64 n63 n65 n66 sc_length n62 tr_length gss gsp gszs gsv (bn64) (bn63) (bn65) (b_sc_length) (bn62) (b_tr_length) (hsk.1.2.1)) (cwV 0 hts (gV kM_PR_114 kV_SC_next kS_SC_next kI_SC kC_SC_next) rfl rfl rfl (by decide +kernel) ⟨Nat.le_of_ble_eq_true rfl, Nat.le_of_ble_eq_true rfl⟩) ⟨fun a U g mk z => by obtain ⟨z0, z1, zP, zK, zD, zS⟩ := z; exact ⟨z0, z1, zP, va_K.moved (u := U) (U := U.calling g mk a) (Vm.Alike.refl U.vm) zK, zD, sw.same (u := U) (U := U.calling g mk a) rfl zS⟩, va_recv hKc hPc (ci := 8) (q0 := 0) rfl rfl, fun U hU hW => ⟨rfl, by rw [hU], va_P.he hU.symm hPc, va_K.moved hW.alike hKc, hDc.weaken (fun _ _ _ _ => trivial), hSW.call hS hFc hW hU⟩⟩ rfl rfl hl.1 rfl (lv_room (Nat.le_of_ble_eq_true rfl)) d_PR_readGlobal_94 ⟨(Nat.zero_le _), (Nat.zero_le _)⟩) hS (fun q _ h => hFc q h) hFc (fun u t H1 locs ht hvm hw hB hz1 hk1 hS => ?_)
          obtain ⟨n105, n106, n107, n108, n109⟩ := u
          try dsimp only at hw
          obtain ⟨bn105, bn106, bn107, bn108, xr104⟩ := hw
          try clear hw
          have or104 := hsk
          have zr104 := sk_next hsk xr104.1 xr104.2
          have hsk := zr104.1
          have mr104 := zr104.2.1
          have fr104 := zr104.2.2.1
          clear xr104 zr104
          obtain ⟨hP1, hK1, hD1⟩ := hB
          replace hP1 := va_P.he ht hP1
          obtain ⟨hP, hD⟩ := va_join (wr := [(gl, .inr (5, [.ref tr, .ref gls, .ref glz, .ref glt, .ref glv, .int gl_length])), (gls, .inl (cgls, 20, .inl ggls)), (glz, .inl (cglz, 20, .inl gglz)), (glt, .inl (cglt, 20, .inl gglt)), (glv, .inl (cglv, 20, .inr (.inl gglv))), (h0, .inr (6, [.ref gl, .ref fu, .ref pa, .ref pf, .ref sf, .ref pk, .ref pg, .ref pp, .ref pz, .ref pv, .int n61, .int n60, .ref sc, .int h0_stepCount, .int h0_open, .int h0_twoSides, .ref wg, .ref wp, .int h0_waitingCount]))]) (w1 := (wz_107 sc tr (sg sa n107) n106 n108 n109 ss sp szs sv sc_length n105 tr tx tr_length ss css (fun j => (gss j).map (sg sa)) sp csp gsp szs cszs gszs sv csv gsv)) hP hD [6, 7, 8, 9, 10, 11] [0, 1, 2, 3, 4, 5] rfl rfl (by decide) (by decide) hk1 hFc hP1 hD1
          clear hPc hDc hKc hFc hz1 hk1 hP1 hK1 hD1
          rename Heap => H
          have hP : va_P (dC, dI) cls (wz_117 gl tr gls glz glt glv gl_length gls cgls ggls glz cglz gglz glt cglt gglt glv cglv gglv h0 gl fu pa pf sf pk pg pp pz pv n61 n60 sc h0_stepCount h0_open h0_twoSides wg wp h0_waitingCount sc tr (sg sa n107) n106 n108 n109 ss sp szs sv sc_length n105 tr tx tr_length ss css (fun j => (gss j).map (sg sa)) sp csp gsp szs cszs gszs sv csv gsv) H := hP
          have hD : va_D A (wz_117 gl tr gls glz glt glv gl_length gls cgls ggls glz cglz gglz glt cglt gglt glv cglv gglv h0 gl fu pa pf sf pk pg pp pz pv n61 n60 sc h0_stepCount h0_open h0_twoSides wg wp h0_waitingCount sc tr (sg sa n107) n106 n108 n109 ss sp szs sv sc_length n105 tr tx tr_length ss css (fun j => (gss j).map (sg sa)) sp csp gsp szs cszs gszs sv csv gsv) := hD
          exact jn97 (n105, n106, n107, n108, n109) _ _ _ ⟨bn105, bn106, bn107, bn108, hsk, by (try dsimp only) <;> (first | (apply Int.le_antisymm <;> omega) | omega), hP, hD, hS, lv_sub hl [1, 2, 3, 4, 0] rfl⟩
    · skip
      refine lv_acmp_ne (rx := some (sg sa n64)) (ry := some (sg sa 51)) (tgt := 82) hx hb d_PR_readGlobal_75 (by decide) (fun c75 => ?_) (fun c75 => ?_)
      · have q75 : n64 ≠ 51 := fun z => c75 (by rw [z])
        refine lv_iconst (v := 0) hx hb d_PR_readGlobal_82 (by decide) ?_
        exact jn83 0 _ _ _ ⟨Or.inl rfl, hP, hD, hS, lv_sub hl [3, 2, 1, 0] rfl⟩
      · have q75 : n64 = 51 := hSW.2.2.2.1.2 n64 51 bn64 (by decide : 51 < 55) (Option.some.inj c75)
        refine lv_iconst (v := 1) hx hb d_PR_readGlobal_78 (by decide) ?_
        refine lv_goto (tgt := 83) hx hb d_PR_readGlobal_79 (by decide) ?_
        exact jn83 1 _ _ _ ⟨Or.inr rfl, hP, hD, hS, lv_sub hl [3, 2, 1, 0] rfl⟩
  · have q16 := nltI c16
    refine lv_aload_n hx hb d_PR_readGlobal_19 rfl (lv_at hl 0 rfl) ?_
    have hPc := hP.sb (wq := (wz_111 h0 gl fu pa pf sf pk pg pp pz pv h0_reason h0_place sc h0_stepCount h0_open h0_twoSides wg wp h0_waitingCount sc tr (sg sa n4) n3 n5 n6 ss sp szs sv sc_length n2)) [0, 6] rfl
    have hDc := hD.sb (wq := (wz_111 h0 gl fu pa pf sf pk pg pp pz pv h0_reason h0_place sc h0_stepCount h0_open h0_twoSides wg wp h0_waitingCount sc tr (sg sa n4) n3 n5 n6 ss sp szs sv sc_length n2)) [0, 6] (by decide) rfl
    have hKc := hK.sb (tyq := []) [] rfl
    have hFc := va_free (wc := (wz_111 h0 gl fu pa pf sf pk pg pp pz pv h0_reason h0_place sc h0_stepCount h0_open h0_twoSides wg wp h0_waitingCount sc tr (sg sa n4) n3 n5 n6 ss sp szs sv sc_length n2)) hD hS hA [0, 6] rfl
    refine tq_callv (tz_runV (As := []) (rest := []) ⟨hx, hb, hml, hown, hts⟩ (c_PR_refuseOneMore l hlt dC dI H.size sa h0 gl fu pa pf sf pk pg pp pz pv sc wg wp tr ss sp szs sv h0_reason h0_place h0_stepCount h0_open h0_twoSides h0_waitingCount n4 n3 n5 n6 sc_length n2 (bn4) (bn3)) (cwV 0 hts (gV kM_PR_117 kV_PR_refuseOneMore kS_PR_refuseOneMore kI_PR kC_PR_refuseOneMore) rfl rfl rfl (by decide +kernel) ⟨Nat.le_of_ble_eq_true rfl, Nat.le_of_ble_eq_true rfl⟩) ⟨fun a U g mk z => by obtain ⟨z0, z1, zP, zK, zD, zS⟩ := z; exact ⟨z0, z1, zP, va_K.moved (u := U) (U := U.calling g mk a) (Vm.Alike.refl U.vm) zK, zD, sw.same (u := U) (U := U.calling g mk a) rfl zS⟩, va_recv hKc hPc (ci := 6) (q0 := 0) rfl rfl, fun U hU hW => ⟨rfl, by rw [hU], va_P.he hU.symm hPc, va_K.moved hW.alike hKc, hDc.weaken (fun _ _ _ _ => trivial), hSW.call hS hFc hW hU⟩⟩ rfl rfl hl.1 rfl (lv_room (Nat.le_of_ble_eq_true rfl)) d_PR_readGlobal_20 ⟨Nat.le_of_ble_eq_true rfl, Nat.le_of_ble_eq_true rfl⟩) hS (fun q _ h => hFc q h) hFc (fun u t H1 locs ht hvm hw hB hz1 hk1 hS => ?_) (fun xx u t H1 locs ht hvm hw hXX hB hz1 hk1 hS => ?_)
    rotate_left
    · skip
      obtain ⟨n111, n112⟩ := u
      try dsimp only at hw
      obtain ⟨hP1, hK1, hD1⟩ := hB
      replace hP1 := va_P.he ht hP1
      obtain ⟨hP, hD⟩ := va_join (wr := [(gl, .inr (5, [.ref tr, .ref gls, .ref glz, .ref glt, .ref glv, .int gl_length])), (gls, .inl (cgls, 20, .inl ggls)), (glz, .inl (cglz, 20, .inl gglz)), (glt, .inl (cglt, 20, .inl gglt)), (glv, .inl (cglv, 20, .inr (.inl gglv))), (tr, .inr (1, [.ref tx, .int tr_length])), (ss, .inl (css, 2001, .inr (.inr (.inr (.inr (fun j => (gss j).map (sg sa))))))), (sp, .inl (csp, 2001, .inl gsp)), (szs, .inl (cszs, 2001, .inl gszs)), (sv, .inl (csv, 2001, .inr (.inl gsv)))]) (w1 := (wz_111 h0 gl fu pa pf sf pk pg pp pz pv n112 n111 sc h0_stepCount h0_open h0_twoSides wg wp h0_waitingCount sc tr (sg sa n4) n3 n5 n6 ss sp szs sv sc_length n2)) hP hD [0, 6] [1, 2, 3, 4, 5, 7, 8, 9, 10, 11] rfl rfl (by decide) (by decide) hk1 hFc hP1 hD1
      have hP : va_P (dC, dI) cls [(gl, .inr (5, [.ref tr, .ref gls, .ref glz, .ref glt, .ref glv, .int gl_length])), (gls, .inl (cgls, 20, .inl ggls)), (glz, .inl (cglz, 20, .inl gglz)), (glt, .inl (cglt, 20, .inl gglt)), (glv, .inl (cglv, 20, .inr (.inl gglv))), (tr, .inr (1, [.ref tx, .int tr_length])), (ss, .inl (css, 2001, .inr (.inr (.inr (.inr (fun j => (gss j).map (sg sa))))))), (sp, .inl (csp, 2001, .inl gsp)), (szs, .inl (cszs, 2001, .inl gszs)), (sv, .inl (csv, 2001, .inr (.inl gsv))), (h0, .inr (6, [.ref gl, .ref fu, .ref pa, .ref pf, .ref sf, .ref pk, .ref pg, .ref pp, .ref pz, .ref pv, .int n112, .int n111, .ref sc, .int h0_stepCount, .int h0_open, .int h0_twoSides, .ref wg, .ref wp, .int h0_waitingCount])), (sc, .inr (8, [.ref tr, .ref (sg sa n4), .int n3, .int n5, .long n6, .ref ss, .ref sp, .ref szs, .ref sv, .int sc_length, .int n2]))] H1 := hP
      have hD : va_D A [(gl, .inr (5, [.ref tr, .ref gls, .ref glz, .ref glt, .ref glv, .int gl_length])), (gls, .inl (cgls, 20, .inl ggls)), (glz, .inl (cglz, 20, .inl gglz)), (glt, .inl (cglt, 20, .inl gglt)), (glv, .inl (cglv, 20, .inr (.inl gglv))), (tr, .inr (1, [.ref tx, .int tr_length])), (ss, .inl (css, 2001, .inr (.inr (.inr (.inr (fun j => (gss j).map (sg sa))))))), (sp, .inl (csp, 2001, .inl gsp)), (szs, .inl (cszs, 2001, .inl gszs)), (sv, .inl (csv, 2001, .inr (.inl gsv))), (h0, .inr (6, [.ref gl, .ref fu, .ref pa, .ref pf, .ref sf, .ref pk, .ref pg, .ref pp, .ref pz, .ref pv, .int n112, .int n111, .ref sc, .int h0_stepCount, .int h0_open, .int h0_twoSides, .ref wg, .ref wp, .int h0_waitingCount])), (sc, .inr (8, [.ref tr, .ref (sg sa n4), .int n3, .int n5, .long n6, .ref ss, .ref sp, .ref szs, .ref sv, .int sc_length, .int n2]))] := hD
      have hP9 := hP.sb (wq := (wz_115 h0 gl fu pa pf sf pk pg pp pz pv n112 n111 sc h0_stepCount h0_open h0_twoSides wg wp h0_waitingCount sc tr (sg sa n4) n3 n5 n6 ss sp szs sv sc_length n2 tr tx tr_length ss css (fun j => (gss j).map (sg sa)) sp csp gsp szs cszs gszs sv csv gsv gl tr gls glz glt glv gl_length gls cgls ggls glz cglz gglz glt cglt gglt glv cglv gglv)) [10, 11, 5, 6, 7, 8, 9, 0, 1, 2, 3, 4] rfl
      have hD9 := hD.sb (wq := (wz_115 h0 gl fu pa pf sf pk pg pp pz pv n112 n111 sc h0_stepCount h0_open h0_twoSides wg wp h0_waitingCount sc tr (sg sa n4) n3 n5 n6 ss sp szs sv sc_length n2 tr tx tr_length ss css (fun j => (gss j).map (sg sa)) sp csp gsp szs cszs gszs sv csv gsv gl tr gls glz glt glv gl_length gls cgls ggls glz cglz gglz glt cglt gglt glv cglv gglv)) [10, 11, 5, 6, 7, 8, 9, 0, 1, 2, 3, 4] (by decide) rfl
      exact tz_leave rfl hno hlocks (fun t ht hW => ⟨⟨(ggls, gglt, gglv, gglz, gl_length, n111, n112, n2, n3, n4, n5, n6), ⟨⟨b_gl_length, bn2, bn3, bn4, bn5⟩, by rw [ht]; exact hXX.moved hW.alike⟩, va_P.he ht.symm hP9, va_K.moved hW.alike hK, hD9⟩, hS.F ht⟩) hS.2.2
    exact (show False from hw).elim
abbrev b_PR_readParameters : ByteArray := prog_8_method_6_code
def y_PR_readParameters : MethodName := ⟨R_PR, "readParameters", "()V"⟩
abbrev w_PR_readParameters : List Cond := .code y_PR_readParameters b_PR_readParameters 4 none :: lw_g
theorem kC_PR_readParameters : Cond.code y_PR_readParameters b_PR_readParameters 4 none ∈ lw_g := in_c5 1 rfl rfl
theorem d_PR_readParameters_0 : decode b_PR_readParameters 0 = .ok (.iconst 0, 1) := bz_c3 (by decide +kernel)
theorem d_PR_readParameters_1 : decode b_PR_readParameters 1 = .ok (.istore_n 1, 1) := bz_c60 (by decide +kernel)
theorem d_PR_readParameters_2 : decode b_PR_readParameters 2 = .ok (.iload_n 1, 1) := bz_c27 (by decide +kernel)
theorem d_PR_readParameters_3 : decode b_PR_readParameters 3 = .ok (.bipush 8, 2) := bz_c16 (by decide +kernel)
theorem d_PR_readParameters_5 : decode b_PR_readParameters 5 = .ok (.if_icmp .gt 84, 3) := bz_c163 (by decide +kernel)
theorem d_PR_readParameters_8 : decode b_PR_readParameters 8 = .ok (.iload_n 1, 1) := bz_c27 (by decide +kernel)
theorem d_PR_readParameters_9 : decode b_PR_readParameters 9 = .ok (.bipush 8, 2) := bz_c16 (by decide +kernel)
theorem d_PR_readParameters_11 : decode b_PR_readParameters 11 = .ok (.if_icmp .ne 7, 3) := bz_c160 (by decide +kernel)
theorem d_PR_readParameters_14 : decode b_PR_readParameters 14 = .ok (.aload_n 0, 1) := bz_c42 (by decide +kernel)
theorem d_PR_readParameters_15 : decode b_PR_readParameters 15 = .ok (.invokevirtual 117, 3) := bz_c182 (by decide +kernel)
theorem d_PR_readParameters_18 : decode b_PR_readParameters 18 = .ok (.aload_n 0, 1) := bz_c42 (by decide +kernel)
theorem d_PR_readParameters_19 : decode b_PR_readParameters 19 = .ok (.getfield 43, 3) := bz_c180 (by decide +kernel)
theorem d_PR_readParameters_22 : decode b_PR_readParameters 22 = .ok (.getfield 109, 3) := bz_c180 (by decide +kernel)
theorem d_PR_readParameters_25 : decode b_PR_readParameters 25 = .ok (.istore_n 2, 1) := bz_c61 (by decide +kernel)
theorem d_PR_readParameters_26 : decode b_PR_readParameters 26 = .ok (.aload_n 0, 1) := bz_c42 (by decide +kernel)
theorem d_PR_readParameters_27 : decode b_PR_readParameters 27 = .ok (.getfield 43, 3) := bz_c180 (by decide +kernel)
theorem d_PR_readParameters_30 : decode b_PR_readParameters 30 = .ok (.getfield 120, 3) := bz_c180 (by decide +kernel)
theorem d_PR_readParameters_33 : decode b_PR_readParameters 33 = .ok (.istore_n 3, 1) := bz_c62 (by decide +kernel)
theorem d_PR_readParameters_34 : decode b_PR_readParameters 34 = .ok (.aload_n 0, 1) := bz_c42 (by decide +kernel)
theorem d_PR_readParameters_35 : decode b_PR_readParameters 35 = .ok (.getstatic 123, 3) := bz_c178 (by decide +kernel)
theorem d_PR_readParameters_38 : decode b_PR_readParameters 38 = .ok (.invokevirtual 126, 3) := bz_c182 (by decide +kernel)
theorem d_PR_readParameters_41 : decode b_PR_readParameters 41 = .ok (.aload_n 0, 1) := bz_c42 (by decide +kernel)
theorem d_PR_readParameters_42 : decode b_PR_readParameters 42 = .ok (.getstatic 130, 3) := bz_c178 (by decide +kernel)
theorem d_PR_readParameters_45 : decode b_PR_readParameters 45 = .ok (.invokevirtual 126, 3) := bz_c182 (by decide +kernel)
theorem d_PR_readParameters_48 : decode b_PR_readParameters 48 = .ok (.aload_n 0, 1) := bz_c42 (by decide +kernel)
theorem d_PR_readParameters_49 : decode b_PR_readParameters 49 = .ok (.getfield 65, 3) := bz_c180 (by decide +kernel)
theorem d_PR_readParameters_52 : decode b_PR_readParameters 52 = .ok (.iload_n 2, 1) := bz_c28 (by decide +kernel)
theorem d_PR_readParameters_53 : decode b_PR_readParameters 53 = .ok (.iload_n 3, 1) := bz_c29 (by decide +kernel)
theorem d_PR_readParameters_54 : decode b_PR_readParameters 54 = .ok (.aload_n 0, 1) := bz_c42 (by decide +kernel)
theorem d_PR_readParameters_55 : decode b_PR_readParameters 55 = .ok (.invokevirtual 133, 3) := bz_c182 (by decide +kernel)
theorem d_PR_readParameters_58 : decode b_PR_readParameters 58 = .ok (.lconst 0, 1) := bz_c9 (by decide +kernel)
theorem d_PR_readParameters_59 : decode b_PR_readParameters 59 = .ok (.invokevirtual 156, 3) := bz_c182 (by decide +kernel)
theorem d_PR_readParameters_62 : decode b_PR_readParameters 62 = .ok (.aload_n 0, 1) := bz_c42 (by decide +kernel)
theorem d_PR_readParameters_63 : decode b_PR_readParameters 63 = .ok (.getfield 43, 3) := bz_c180 (by decide +kernel)
theorem d_PR_readParameters_66 : decode b_PR_readParameters 66 = .ok (.getfield 93, 3) := bz_c180 (by decide +kernel)
theorem d_PR_readParameters_69 : decode b_PR_readParameters 69 = .ok (.getstatic 178, 3) := bz_c178 (by decide +kernel)
theorem d_PR_readParameters_72 : decode b_PR_readParameters 72 = .ok (.if_acmp .eq 4, 3) := bz_c165 (by decide +kernel)
theorem d_PR_readParameters_75 : decode b_PR_readParameters 75 = .ok (.return_, 1) := bz_c177 (by decide +kernel)
theorem d_PR_readParameters_76 : decode b_PR_readParameters 76 = .ok (.aload_n 0, 1) := bz_c42 (by decide +kernel)
theorem d_PR_readParameters_77 : decode b_PR_readParameters 77 = .ok (.getfield 43, 3) := bz_c180 (by decide +kernel)
theorem d_PR_readParameters_80 : decode b_PR_readParameters 80 = .ok (.invokevirtual 114, 3) := bz_c182 (by decide +kernel)
theorem d_PR_readParameters_83 : decode b_PR_readParameters 83 = .ok (.iinc 1 1, 3) := by decide +kernel
theorem d_PR_readParameters_86 : decode b_PR_readParameters 86 = .ok (.goto (-84), 3) := bz_c167 (by decide +kernel)
theorem d_PR_readParameters_89 : decode b_PR_readParameters 89 = .ok (.return_, 1) := bz_c177 (by decide +kernel)
theorem kF_PR_65 : Cond.fieldLink R_PR 65 "WaferForge$Program" "parameters" "LWaferForge$Names;" ∈ lw_g := in_c2 104 rfl rfl
theorem kF_PR_178 : Cond.fieldLink R_PR 178 "WaferForge$Sign" "COMMA" "LWaferForge$Sign;" ∈ lw_g := in_c5 2 rfl rfl
abbrev at_PR_readParameters (dC : Nat → ClassId) (dI : Nat → Nat → Nat) (sa : Nat → Nat) (h0 gl fu pa pf sf pk pg pp pz pv sc wg wp tr ss sp szs sv tx pas paz pat pav : Nat) (css csp cszs csv cpas cpaz cpat cpav : ClassId) (h0_stepCount : Int32) (h0_open : Int32) (h0_twoSides : Int32) (h0_waitingCount : Int32) (sc_length : Int32) (tr_length : Int32) (gss : Nat → Option Nat) (gsp : Nat → Int32) (gszs : Nat → Int32) (gsv : Nat → Int64) (A : Nat → Prop) (u : (Nat → Int32) × (Nat → Int32) × (Nat → Int64) × (Nat → Int32) × Int32 × Int32 × Int32 × Int32 × Int32 × Nat × Int32 × Int64) (t : State) : Prop := match u with | (gpas, gpat, gpav, gpaz, h0_place, h0_reason, pa_length, sc_at, sc_place, sc_sign, sc_size, sc_value) => va_P (dC, dI) cls (wz_118 h0 gl fu pa pf sf pk pg pp pz pv h0_reason h0_place sc h0_stepCount h0_open h0_twoSides wg wp h0_waitingCount sc tr (sg sa sc_sign) sc_place sc_size sc_value ss sp szs sv sc_length sc_at tr tx tr_length ss css (fun j => (gss j).map (sg sa)) sp csp gsp szs cszs gszs sv csv gsv pa tr pas paz pat pav pa_length pas cpas gpas paz cpaz gpaz pat cpat gpat pav cpav gpav) t.heap ∧ va_K (dC, dI) cls [(css, .object "WaferForge$Sign"), (csp, .int), (cszs, .int), (csv, .long), (cpas, .int), (cpaz, .int), (cpat, .int), (cpav, .long)] t ∧ va_D A (wz_118 h0 gl fu pa pf sf pk pg pp pz pv h0_reason h0_place sc h0_stepCount h0_open h0_twoSides wg wp h0_waitingCount sc tr (sg sa sc_sign) sc_place sc_size sc_value ss sp szs sv sc_length sc_at tr tx tr_length ss css (fun j => (gss j).map (sg sa)) sp csp gsp szs cszs gszs sv csv gsv pa tr pas paz pat pav pa_length pas cpas gpas paz cpaz gpaz pat cpat gpat pav cpav gpav)
set_option maxHeartbeats 4000000 in
set_option maxRecDepth 100000 in
theorem c_PR_readParameters (l : Launch) (hlt : l.stackTraces = false) (dC : Nat → ClassId) (dI : Nat → Nat → Nat) (sz : Nat) (sa : Nat → Nat) (h0 gl fu pa pf sf pk pg pp pz pv sc wg wp tr ss sp szs sv tx pas paz pat pav : Nat) (css csp cszs csv cpas cpaz cpat cpav : ClassId) (h0_reason : Int32) (h0_place : Int32) (h0_stepCount : Int32) (h0_open : Int32) (h0_twoSides : Int32) (h0_waitingCount : Int32) (sc_sign : Nat) (sc_place : Int32) (sc_size : Int32) (sc_value : Int64) (sc_length : Int32) (sc_at : Int32) (tr_length : Int32) (gss : Nat → Option Nat) (gsp : Nat → Int32) (gszs : Nat → Int32) (gsv : Nat → Int64) (pa_length : Int32) (gpas : Nat → Int32) (gpaz : Nat → Int32) (gpat : Nat → Int32) (gpav : Nat → Int64)  (b_sc_sign : sc_sign < 55) (b_sc_place : 0 ≤ sc_place.toInt ∧ sc_place.toInt ≤ 2000) (b_sc_size : 0 ≤ sc_size.toInt ∧ sc_size.toInt ≤ 2000) (b_sc_length : 0 ≤ sc_length.toInt ∧ sc_length.toInt ≤ 2001) (b_sc_at : -1 ≤ sc_at.toInt ∧ sc_at.toInt ≤ 2000) (b_tr_length : 0 ≤ tr_length.toInt ∧ tr_length.toInt ≤ 2000) (b_pa_length : 0 ≤ pa_length.toInt ∧ pa_length.toInt ≤ 160)   (hsk : sk tr_length.toInt sc_length.toInt sc_at.toInt sc_sign sc_place sc_size sc_value gss gsp gszs gsv) (hnm : nm tr_length.toInt pa_length.toInt gpas gpaz gpat gpav tP) (hpl : pa_length.toInt ≤ 152) : tz_Met l y_PR_readParameters w_PR_readParameters ({ frames := 9, cells := 1, slots := 6, locals := 154 }) (va_Pc [.ref h0] (fun U => U.heap.size = sz ∧ va_P (dC, dI) cls (wz_118 h0 gl fu pa pf sf pk pg pp pz pv h0_reason h0_place sc h0_stepCount h0_open h0_twoSides wg wp h0_waitingCount sc tr (sg sa sc_sign) sc_place sc_size sc_value ss sp szs sv sc_length sc_at tr tx tr_length ss css (fun j => (gss j).map (sg sa)) sp csp gsp szs cszs gszs sv csv gsv pa tr pas paz pat pav pa_length pas cpas gpas paz cpaz gpaz pat cpat gpat pav cpav gpav) U.heap ∧ va_K (dC, dI) cls [(css, .object "WaferForge$Sign"), (csp, .int), (cszs, .int), (csv, .long), (cpas, .int), (cpaz, .int), (cpat, .int), (cpav, .long)] U ∧ va_D (fun _ => True) (wz_118 h0 gl fu pa pf sf pk pg pp pz pv h0_reason h0_place sc h0_stepCount h0_open h0_twoSides wg wp h0_waitingCount sc tr (sg sa sc_sign) sc_place sc_size sc_value ss sp szs sv sc_length sc_at tr tx tr_length ss css (fun j => (gss j).map (sg sa)) sp csp gsp szs cszs gszs sv csv gsv pa tr pas paz pat pav pa_length pas cpas gpas paz cpaz gpaz pat cpat gpat pav cpav gpav) ∧ sw sa (va_A (wz_118 h0 gl fu pa pf sf pk pg pp pz pv h0_reason h0_place sc h0_stepCount h0_open h0_twoSides wg wp h0_waitingCount sc tr (sg sa sc_sign) sc_place sc_size sc_value ss sp szs sv sc_length sc_at tr tx tr_length ss css (fun j => (gss j).map (sg sa)) sp csp gsp szs cszs gszs sv csv gsv pa tr pas paz pat pav pa_length pas cpas gpas paz cpaz gpaz pat cpat gpat pav cpav gpav) sz) U U.heap)) (tq_Q (tq_v (fun (u : (Nat → Int32) × (Nat → Int32) × (Nat → Int64) × (Nat → Int32) × Int32 × Int32 × Int32 × Int32 × Int32 × Nat × Int32 × Int64) => match u with | (gpas2, gpat2, gpav2, gpaz2, h0_place2, h0_reason2, pa_length2, sc_at2, sc_place2, sc_sign2, sc_size2, sc_value2) => (0 ≤ pa_length2.toInt ∧ pa_length2.toInt ≤ 160) ∧ (-1 ≤ sc_at2.toInt ∧ sc_at2.toInt ≤ 2000) ∧ (0 ≤ sc_place2.toInt ∧ sc_place2.toInt ≤ 2000) ∧ (sc_sign2 < 55) ∧ (0 ≤ sc_size2.toInt ∧ sc_size2.toInt ≤ 2000) ∧ (sk tr_length.toInt sc_length.toInt sc_at2.toInt sc_sign2 sc_place2 sc_size2 sc_value2 gss gsp gszs gsv ∧ nm tr_length.toInt pa_length2.toInt gpas2 gpaz2 gpat2 gpav2 tP ∧ pa_length.toInt + 1 ≤ pa_length2.toInt ∧ pa_length2.toInt ≤ pa_length.toInt + 8 ∧ sc_place.toInt + 3 * (pa_length2.toInt - pa_length.toInt) ≤ sc_place2.toInt)) "java/lang/UnsupportedOperationException" (fun (u : (Nat → Int32) × (Nat → Int32) × (Nat → Int64) × (Nat → Int32) × Int32 × Int32 × Int32 × Int32 × Int32 × Nat × Int32 × Int64) => match u with | (gpas2, gpat2, gpav2, gpaz2, h0_place2, h0_reason2, pa_length2, sc_at2, sc_place2, sc_sign2, sc_size2, sc_value2) => (0 ≤ pa_length2.toInt ∧ pa_length2.toInt ≤ 160) ∧ (-1 ≤ sc_at2.toInt ∧ sc_at2.toInt ≤ 2000) ∧ (0 ≤ sc_place2.toInt ∧ sc_place2.toInt ≤ 2000) ∧ (sc_sign2 < 55) ∧ (0 ≤ sc_size2.toInt ∧ sc_size2.toInt ≤ 2000))) (at_PR_readParameters dC dI sa h0 gl fu pa pf sf pk pg pp pz pv sc wg wp tr ss sp szs sv tx pas paz pat pav css csp cszs csv cpas cpaz cpat cpav h0_stepCount h0_open h0_twoSides h0_waitingCount sc_length tr_length gss gsp gszs gsv (va_A (wz_118 h0 gl fu pa pf sf pk pg pp pz pv h0_reason h0_place sc h0_stepCount h0_open h0_twoSides wg wp h0_waitingCount sc tr (sg sa sc_sign) sc_place sc_size sc_value ss sp szs sv sc_length sc_at tr tx tr_length ss css (fun j => (gss j).map (sg sa)) sp csp gsp szs cszs gszs sv csv gsv pa tr pas paz pat pav pa_length pas cpas gpas paz cpaz gpaz pat cpat gpat pav cpav gpav) sz)) (va_A (wz_118 h0 gl fu pa pf sf pk pg pp pz pv h0_reason h0_place sc h0_stepCount h0_open h0_twoSides wg wp h0_waitingCount sc tr (sg sa sc_sign) sc_place sc_size sc_value ss sp szs sv sc_length sc_at tr tx tr_length ss css (fun j => (gss j).map (sg sa)) sp csp gsp szs cszs gszs sv csv gsv pa tr pas paz pat pav pa_length pas cpas gpas paz cpaz gpaz pat cpat gpat pav cpav gpav) sz)) (tz_k 0 0 1 6) (va_A (wz_118 h0 gl fu pa pf sf pk pg pp pz pv h0_reason h0_place sc h0_stepCount h0_open h0_twoSides wg wp h0_waitingCount sc tr (sg sa sc_sign) sc_place sc_size sc_value ss sp szs sv sc_length sc_at tr tx tr_length ss css (fun j => (gss j).map (sg sa)) sp csp gsp szs cszs gszs sv csv gsv pa tr pas paz pat pav pa_length pas cpas gpas paz cpaz gpaz pat cpat gpat pav cpav gpav) sz) := by
  refine tz_ofW (cc := b_PR_readParameters) (maxL := 4) (ret := none) (by decide) rfl ?_
  intro p e s m args below meth c s₁ B hml hno hv
  obtain ⟨rfl, hsz, hP, hK, hD0, hSW⟩ := hv
  have hx := B.exec
  have hb := B.bytes
  have hr := B.returns
  have hts0 := atoms_spec (ws := w_PR_readParameters) B.pre
  have hts : ∀ w ∈ lw_g, w.before _ s = true := fun w h => hts0 w (List.mem_cons_of_mem _ h)
  have hown : s.vm.findClass R_PR = some m.cls := findClass_of_methodNamed B.named
  have hlocks := B.notSynchronized
  clear hts0
  subst hsz
  have hD := hD0.self (sz := s.heap.size)
  generalize hAe : va_A (wz_118 h0 gl fu pa pf sf pk pg pp pz pv h0_reason h0_place sc h0_stepCount h0_open h0_twoSides wg wp h0_waitingCount sc tr (sg sa sc_sign) sc_place sc_size sc_value ss sp szs sv sc_length sc_at tr tx tr_length ss css (fun j => (gss j).map (sg sa)) sp csp gsp szs cszs gszs sv csv gsv pa tr pas paz pat pav pa_length pas cpas gpas paz cpaz gpaz pat cpat gpat pav cpav gpav) s.heap.size = A at hD hSW ⊢
  have hA : ∀ q : Nat, s.heap.size ≤ q → A q := fun q h => by rw [← hAe]; exact Or.inr h
  clear hAe
  have hP : va_P (dC, dI) cls (wz_118 h0 gl fu pa pf sf pk pg pp pz pv h0_reason h0_place sc h0_stepCount h0_open h0_twoSides wg wp h0_waitingCount sc tr (sg sa sc_sign) sc_place sc_size sc_value ss sp szs sv sc_length sc_at tr tx tr_length ss css (fun j => (gss j).map (sg sa)) sp csp gsp szs cszs gszs sv csv gsv pa tr pas paz pat pav pa_length pas cpas gpas paz cpaz gpaz pat cpat gpat pav cpav gpav) s.heap := hP
  have hl := lv_entry ([.ref h0]) (n := 4) (Nat.le_of_ble_eq_true rfl)
  rw [lg_entry_eq]
  generalize (lg_sl ([.ref h0]) ++ List.replicate (4 - (lg_sl ([.ref h0])).length) Slot.unset).toArray = ls at hl ⊢
  have hl : lv_has ls 4 [(0, .ref h0)] := hl
  have k0 : (0 : Int32).toInt = 0 := by decide
  refine w_gen (A := A) hP (fun H locs hP hS => ?_)
  have k1 : (1 : Int32).toInt = 1 := by decide
  have k8 : (8 : Int32).toInt = 8 := by decide
  refine lv_iconst (v := 0) hx hb d_PR_readParameters_0 (by decide) ?_
  refine lv_istore_n (lv' := [(1, .int 0), (0, .ref h0)]) hx hb d_PR_readParameters_1 rfl hl (by decide) rfl (fun ls hl => ?_)
  refine w_loop (σ := Int32 × (Nat → Int32) × (Nat → Int32) × (Nat → Int64) × (Nat → Int32) × Int32 × Int32 × Int32 × Int32 × Int32 × Nat × Int32 × Int64) (fun u H locs ls => match u with | (j2_l1, j2_pas, j2_pat, j2_pav, j2_paz, j2_h0_place, j2_h0_reason, j2_pa_length, j2_sc_at, j2_sc_place, j2_sc_sign, j2_sc_size, j2_sc_value) => (0 ≤ j2_pa_length.toInt ∧ j2_pa_length.toInt ≤ 160) ∧ (-1 ≤ j2_sc_at.toInt ∧ j2_sc_at.toInt ≤ 2000) ∧ (0 ≤ j2_sc_place.toInt ∧ j2_sc_place.toInt ≤ 2000) ∧ (j2_sc_sign < 55) ∧ (0 ≤ j2_sc_size.toInt ∧ j2_sc_size.toInt ≤ 2000) ∧ (sk tr_length.toInt sc_length.toInt j2_sc_at.toInt j2_sc_sign j2_sc_place j2_sc_size j2_sc_value gss gsp gszs gsv) ∧ (nm tr_length.toInt j2_pa_length.toInt j2_pas j2_paz j2_pat j2_pav tP) ∧ (0 ≤ j2_l1.toInt ∧ j2_l1.toInt ≤ 8 ∧ j2_pa_length.toInt = pa_length.toInt + j2_l1.toInt ∧ sc_place.toInt + 4 * j2_l1.toInt ≤ j2_sc_place.toInt) ∧ va_P (dC, dI) cls (wz_118 h0 gl fu pa pf sf pk pg pp pz pv j2_h0_reason j2_h0_place sc h0_stepCount h0_open h0_twoSides wg wp h0_waitingCount sc tr (sg sa j2_sc_sign) j2_sc_place j2_sc_size j2_sc_value ss sp szs sv sc_length j2_sc_at tr tx tr_length ss css (fun j => (gss j).map (sg sa)) sp csp gsp szs cszs gszs sv csv gsv pa tr pas paz pat pav j2_pa_length pas cpas j2_pas paz cpaz j2_paz pat cpat j2_pat pav cpav j2_pav) H ∧ va_D A (wz_118 h0 gl fu pa pf sf pk pg pp pz pv j2_h0_reason j2_h0_place sc h0_stepCount h0_open h0_twoSides wg wp h0_waitingCount sc tr (sg sa j2_sc_sign) j2_sc_place j2_sc_size j2_sc_value ss sp szs sv sc_length j2_sc_at tr tx tr_length ss css (fun j => (gss j).map (sg sa)) sp csp gsp szs cszs gszs sv csv gsv pa tr pas paz pat pav j2_pa_length pas cpas j2_pas paz cpaz j2_paz pat cpat j2_pat pav cpav j2_pav) ∧ va_S A s.heap H locs ∧ lv_has ls 4 [(0, .ref h0), (1, .int j2_l1)]) (fun u => match u with | (j2_l1, j2_pas, j2_pat, j2_pav, j2_paz, j2_h0_place, j2_h0_reason, j2_pa_length, j2_sc_at, j2_sc_place, j2_sc_sign, j2_sc_size, j2_sc_value) => (9 - j2_l1.toInt).toNat) ?_ (0, gpas, gpat, gpav, gpaz, h0_place, h0_reason, pa_length, sc_at, sc_place, sc_sign, sc_size, sc_value) ⟨b_pa_length, b_sc_at, b_sc_place, b_sc_sign, b_sc_size, hsk, hnm, by (try dsimp only) <;> (first | (apply Int.le_antisymm <;> omega) | omega), hP, hD, hS, lv_sub hl [1, 0] rfl⟩
  intro N2 ih2 u H locs ls hN2 hI
  obtain ⟨j2_l1, j2_pas, j2_pat, j2_pav, j2_paz, j2_h0_place, j2_h0_reason, j2_pa_length, j2_sc_at, j2_sc_place, j2_sc_sign, j2_sc_size, j2_sc_value⟩ := u
  obtain ⟨b_j2_pa_length, b_j2_sc_at, b_j2_sc_place, b_j2_sc_sign, b_j2_sc_size, hsk, hnm, v1, hP, hD, hS, hl⟩ := hI
  have hN2 : (9 - j2_l1.toInt).toNat < N2 + 1 := hN2
  refine lv_iload_n hx hb d_PR_readParameters_2 rfl (lv_at hl 1 rfl) ?_
  refine lv_bipush (v := 8) hx hb d_PR_readParameters_3 (by decide) ?_
  refine lv_icmp_gt (tgt := 89) hx hb d_PR_readParameters_5 (by decide) (fun c5 => absurd (ltI c5) (by (first | (apply Int.le_antisymm <;> omega) | omega))) (fun c5 => ?_)
  have q5 := nltI c5
  refine lv_iload_n hx hb d_PR_readParameters_8 rfl (lv_at hl 1 rfl) ?_
  refine lv_bipush (v := 8) hx hb d_PR_readParameters_9 (by decide) ?_
  refine lv_icmp_ne (tgt := 18) hx hb d_PR_readParameters_11 (by decide) (fun c11 => ?_) (fun c11 => ?_)
  · have q11 := neI c11
    refine lv_aload_n hx hb d_PR_readParameters_18 rfl (lv_at hl 0 rfl) ?_
    refine va_get (D := (dC, dI)) (ci := 6) (v := .ref sc) (C := R_PR) (T := F_PR) (N := 19) hx hb hts i_PR hown hK hP 0 rfl rfl 12 (by decide) (hts _ kF_PR_43) (fun _ h9 => h9) rfl d_PR_readParameters_19 ?_
    refine va_get (D := (dC, dI)) (ci := 8) (v := .int j2_sc_place) (C := R_SC) (T := F_SC) (N := 11) hx hb hts i_SC hown hK hP 1 rfl rfl 2 (by decide) (hts _ kF_PR_109) (fun _ h9 => h9) rfl d_PR_readParameters_22 ?_
    refine lv_istore_n (lv' := [(2, .int j2_sc_place), (0, .ref h0), (1, .int j2_l1)]) hx hb d_PR_readParameters_25 rfl hl (by decide) rfl (fun ls hl => ?_)
    refine lv_aload_n hx hb d_PR_readParameters_26 rfl (lv_at hl 1 rfl) ?_
    refine va_get (D := (dC, dI)) (ci := 6) (v := .ref sc) (C := R_PR) (T := F_PR) (N := 19) hx hb hts i_PR hown hK hP 0 rfl rfl 12 (by decide) (hts _ kF_PR_43) (fun _ h9 => h9) rfl d_PR_readParameters_27 ?_
    refine va_get (D := (dC, dI)) (ci := 8) (v := .int j2_sc_size) (C := R_SC) (T := F_SC) (N := 11) hx hb hts i_SC hown hK hP 1 rfl rfl 3 (by decide) (hts _ kF_PR_120) (fun _ h9 => h9) rfl d_PR_readParameters_30 ?_
    refine lv_istore_n (lv' := [(3, .int j2_sc_size), (2, .int j2_sc_place), (0, .ref h0), (1, .int j2_l1)]) hx hb d_PR_readParameters_33 rfl hl (by decide) rfl (fun ls hl => ?_)
    refine lv_aload_n hx hb d_PR_readParameters_34 rfl (lv_at hl 2 rfl) ?_
    refine va_gets (C := "WaferForge$Sign") (n := "NAME") (d := "LWaferForge$Sign;") (v := .ref (sg sa 2)) hx hb ((hSW.2.2.2.1.1 2 (by decide)).1) hS hown (hts _ kF_PR_123) (fun _ h9 => h9) d_PR_readParameters_35 ?_
    have hPc := hP.sb (wq := (wz_112 h0 gl fu pa pf sf pk pg pp pz pv j2_h0_reason j2_h0_place sc h0_stepCount h0_open h0_twoSides wg wp h0_waitingCount sc tr (sg sa j2_sc_sign) j2_sc_place j2_sc_size j2_sc_value ss sp szs sv sc_length j2_sc_at tr tx tr_length ss css (fun j => (gss j).map (sg sa)) sp csp gsp szs cszs gszs sv csv gsv)) [0, 1, 2, 3, 4, 5, 6] rfl
    have hDc := hD.sb (wq := (wz_112 h0 gl fu pa pf sf pk pg pp pz pv j2_h0_reason j2_h0_place sc h0_stepCount h0_open h0_twoSides wg wp h0_waitingCount sc tr (sg sa j2_sc_sign) j2_sc_place j2_sc_size j2_sc_value ss sp szs sv sc_length j2_sc_at tr tx tr_length ss css (fun j => (gss j).map (sg sa)) sp csp gsp szs cszs gszs sv csv gsv)) [0, 1, 2, 3, 4, 5, 6] (by decide) rfl
    have hKc := hK.sb (tyq := [(css, .object "WaferForge$Sign"), (csp, .int), (cszs, .int), (csv, .long)]) [0, 1, 2, 3] rfl
    have hFc := va_free (wc := (wz_112 h0 gl fu pa pf sf pk pg pp pz pv j2_h0_reason j2_h0_place sc h0_stepCount h0_open h0_twoSides wg wp h0_waitingCount sc tr (sg sa j2_sc_sign) j2_sc_place j2_sc_size j2_sc_value ss sp szs sv sc_length j2_sc_at tr tx tr_length ss css (fun j => (gss j).map (sg sa)) sp csp gsp szs cszs gszs sv csv gsv)) hD hS hA [0, 1, 2, 3, 4, 5, 6] rfl
    refine tq_callv (tz_runV (As := [.ref (sg sa 2)]) (rest := []) ⟨hx, hb, hml, hown, hts⟩ (c_PR_take l hlt dC dI H.size sa h0 gl fu pa pf sf pk pg pp pz pv sc wg wp tr ss sp szs sv tx css csp cszs csv j2_h0_reason j2_h0_place h0_stepCount h0_open h0_twoSides h0_waitingCount j2_sc_sign j2_sc_place j2_sc_size j2_sc_value sc_length j2_sc_at tr_length gss gsp gszs gsv (b_j2_sc_sign) (b_j2_sc_place) (b_j2_sc_size) (b_sc_length) (b_j2_sc_at) (b_tr_length) 2 ((by decide : 2 < 55)) (hsk) (by decide)) (cwV 1 hts (gV kM_PR_126 kV_PR_take kS_PR_take kI_PR kC_PR_take) rfl rfl rfl (by decide +kernel) ⟨Nat.le_of_ble_eq_true rfl, Nat.le_of_ble_eq_true rfl⟩) ⟨fun a U g mk z => by obtain ⟨z0, z1, zP, zK, zD, zS⟩ := z; exact ⟨z0, z1, zP, va_K.moved (u := U) (U := U.calling g mk a) (Vm.Alike.refl U.vm) zK, zD, sw.same (u := U) (U := U.calling g mk a) rfl zS⟩, va_recv hKc hPc (ci := 6) (q0 := 0) rfl rfl, fun U hU hW => ⟨rfl, by rw [hU], va_P.he hU.symm hPc, va_K.moved hW.alike hKc, hDc.weaken (fun _ _ _ _ => trivial), hSW.call hS hFc hW hU⟩⟩ rfl rfl hl.1 rfl (lv_room (Nat.le_of_ble_eq_true rfl)) d_PR_readParameters_38 ⟨Nat.le_of_ble_eq_true rfl, Nat.le_of_ble_eq_true rfl⟩) hS (fun q _ h => hFc q h) hFc (fun u t H1 locs ht hvm hw hB hz1 hk1 hS => ?_) (fun xx u t H1 locs ht hvm hw hXX hB hz1 hk1 hS => ?_)
    rotate_left
    · skip
      obtain ⟨n2, n3, n4, n5, n6, n7, n8⟩ := u
      try dsimp only at hw
      obtain ⟨bn4, bn5, bn6, bn7⟩ := hw
      obtain ⟨hP1, hK1, hD1⟩ := hB
      replace hP1 := va_P.he ht hP1
      obtain ⟨hP, hD⟩ := va_join (wr := (wz_119 pa tr pas paz pat pav j2_pa_length pas cpas j2_pas paz cpaz j2_paz pat cpat j2_pat pav cpav j2_pav)) (w1 := (wz_112 h0 gl fu pa pf sf pk pg pp pz pv n3 n2 sc h0_stepCount h0_open h0_twoSides wg wp h0_waitingCount sc tr (sg sa n6) n5 n7 n8 ss sp szs sv sc_length n4 tr tx tr_length ss css (fun j => (gss j).map (sg sa)) sp csp gsp szs cszs gszs sv csv gsv)) hP hD [0, 1, 2, 3, 4, 5, 6] [7, 8, 9, 10, 11] rfl rfl (by decide) (by decide) hk1 hFc hP1 hD1
      have hP : va_P (dC, dI) cls (wz_120 pa tr pas paz pat pav j2_pa_length pas cpas j2_pas paz cpaz j2_paz pat cpat j2_pat pav cpav j2_pav h0 gl fu pa pf sf pk pg pp pz pv n3 n2 sc h0_stepCount h0_open h0_twoSides wg wp h0_waitingCount sc tr (sg sa n6) n5 n7 n8 ss sp szs sv sc_length n4 tr tx tr_length ss css (fun j => (gss j).map (sg sa)) sp csp gsp szs cszs gszs sv csv gsv) H1 := hP
      have hD : va_D A (wz_120 pa tr pas paz pat pav j2_pa_length pas cpas j2_pas paz cpaz j2_paz pat cpat j2_pat pav cpav j2_pav h0 gl fu pa pf sf pk pg pp pz pv n3 n2 sc h0_stepCount h0_open h0_twoSides wg wp h0_waitingCount sc tr (sg sa n6) n5 n7 n8 ss sp szs sv sc_length n4 tr tx tr_length ss css (fun j => (gss j).map (sg sa)) sp csp gsp szs cszs gszs sv csv gsv) := hD
      have hP9 := hP.sb (wq := (wz_118 h0 gl fu pa pf sf pk pg pp pz pv n3 n2 sc h0_stepCount h0_open h0_twoSides wg wp h0_waitingCount sc tr (sg sa n6) n5 n7 n8 ss sp szs sv sc_length n4 tr tx tr_length ss css (fun j => (gss j).map (sg sa)) sp csp gsp szs cszs gszs sv csv gsv pa tr pas paz pat pav j2_pa_length pas cpas j2_pas paz cpaz j2_paz pat cpat j2_pat pav cpav j2_pav)) [5, 6, 7, 8, 9, 10, 11, 0, 1, 2, 3, 4] rfl
      have hD9 := hD.sb (wq := (wz_118 h0 gl fu pa pf sf pk pg pp pz pv n3 n2 sc h0_stepCount h0_open h0_twoSides wg wp h0_waitingCount sc tr (sg sa n6) n5 n7 n8 ss sp szs sv sc_length n4 tr tx tr_length ss css (fun j => (gss j).map (sg sa)) sp csp gsp szs cszs gszs sv csv gsv pa tr pas paz pat pav j2_pa_length pas cpas j2_pas paz cpaz j2_paz pat cpat j2_pat pav cpav j2_pav)) [5, 6, 7, 8, 9, 10, 11, 0, 1, 2, 3, 4] (by decide) rfl
      exact tz_leave rfl hno hlocks (fun t ht hW => ⟨⟨(j2_pas, j2_pat, j2_pav, j2_paz, n2, n3, j2_pa_length, n4, n5, n6, n7, n8), ⟨⟨b_j2_pa_length, bn4, bn5, bn6, bn7⟩, by rw [ht]; exact hXX.moved hW.alike⟩, va_P.he ht.symm hP9, va_K.moved hW.alike hK, hD9⟩, hS.F ht⟩) hS.2.2
    obtain ⟨n9, n10, n11, n12, n13, n14, n15⟩ := u
    try dsimp only at hw
    obtain ⟨bn11, bn12, bn13, bn14, xr1⟩ := hw
    try clear hw
    have or1 := hsk
    have er1 := xr1.1
    have hsk := xr1.2.1
    have mr1 := xr1.2.2.1
    have pr1 := sk_pos or1 (by (first | (apply Int.le_antisymm <;> omega) | omega)) (by (first | (apply Int.le_antisymm <;> omega) | omega))
    clear xr1
    have w38 := sk_name or1 er1
    obtain ⟨hP1, hK1, hD1⟩ := hB
    replace hP1 := va_P.he ht hP1
    obtain ⟨hP, hD⟩ := va_join (wr := (wz_119 pa tr pas paz pat pav j2_pa_length pas cpas j2_pas paz cpaz j2_paz pat cpat j2_pat pav cpav j2_pav)) (w1 := (wz_112 h0 gl fu pa pf sf pk pg pp pz pv n10 n9 sc h0_stepCount h0_open h0_twoSides wg wp h0_waitingCount sc tr (sg sa n13) n12 n14 n15 ss sp szs sv sc_length n11 tr tx tr_length ss css (fun j => (gss j).map (sg sa)) sp csp gsp szs cszs gszs sv csv gsv)) hP hD [0, 1, 2, 3, 4, 5, 6] [7, 8, 9, 10, 11] rfl rfl (by decide) (by decide) hk1 hFc hP1 hD1
    clear hPc hDc hKc hFc hz1 hk1 hP1 hK1 hD1
    rename Heap => H
    have hP : va_P (dC, dI) cls (wz_120 pa tr pas paz pat pav j2_pa_length pas cpas j2_pas paz cpaz j2_paz pat cpat j2_pat pav cpav j2_pav h0 gl fu pa pf sf pk pg pp pz pv n10 n9 sc h0_stepCount h0_open h0_twoSides wg wp h0_waitingCount sc tr (sg sa n13) n12 n14 n15 ss sp szs sv sc_length n11 tr tx tr_length ss css (fun j => (gss j).map (sg sa)) sp csp gsp szs cszs gszs sv csv gsv) H := hP
    have hD : va_D A (wz_120 pa tr pas paz pat pav j2_pa_length pas cpas j2_pas paz cpaz j2_paz pat cpat j2_pat pav cpav j2_pav h0 gl fu pa pf sf pk pg pp pz pv n10 n9 sc h0_stepCount h0_open h0_twoSides wg wp h0_waitingCount sc tr (sg sa n13) n12 n14 n15 ss sp szs sv sc_length n11 tr tx tr_length ss css (fun j => (gss j).map (sg sa)) sp csp gsp szs cszs gszs sv csv gsv) := hD
    refine lv_aload_n hx hb d_PR_readParameters_41 rfl (lv_at hl 2 rfl) ?_
    refine va_gets (C := "WaferForge$Sign") (n := "COLON") (d := "LWaferForge$Sign;") (v := .ref (sg sa 30)) hx hb ((hSW.2.2.2.1.1 30 (by decide)).1) hS hown (hts _ kF_PR_130) (fun _ h9 => h9) d_PR_readParameters_42 ?_
    have hPc := hP.sb (wq := (wz_112 h0 gl fu pa pf sf pk pg pp pz pv n10 n9 sc h0_stepCount h0_open h0_twoSides wg wp h0_waitingCount sc tr (sg sa n13) n12 n14 n15 ss sp szs sv sc_length n11 tr tx tr_length ss css (fun j => (gss j).map (sg sa)) sp csp gsp szs cszs gszs sv csv gsv)) [5, 6, 7, 8, 9, 10, 11] rfl
    have hDc := hD.sb (wq := (wz_112 h0 gl fu pa pf sf pk pg pp pz pv n10 n9 sc h0_stepCount h0_open h0_twoSides wg wp h0_waitingCount sc tr (sg sa n13) n12 n14 n15 ss sp szs sv sc_length n11 tr tx tr_length ss css (fun j => (gss j).map (sg sa)) sp csp gsp szs cszs gszs sv csv gsv)) [5, 6, 7, 8, 9, 10, 11] (by decide) rfl
    have hKc := hK.sb (tyq := [(css, .object "WaferForge$Sign"), (csp, .int), (cszs, .int), (csv, .long)]) [0, 1, 2, 3] rfl
    have hFc := va_free (wc := (wz_112 h0 gl fu pa pf sf pk pg pp pz pv n10 n9 sc h0_stepCount h0_open h0_twoSides wg wp h0_waitingCount sc tr (sg sa n13) n12 n14 n15 ss sp szs sv sc_length n11 tr tx tr_length ss css (fun j => (gss j).map (sg sa)) sp csp gsp szs cszs gszs sv csv gsv)) hD hS hA [5, 6, 7, 8, 9, 10, 11] rfl
    refine tq_callv (tz_runV (As := [.ref (sg sa 30)]) (rest := []) ⟨hx, hb, hml, hown, hts⟩ (c_PR_take l hlt dC dI H.size sa h0 gl fu pa pf sf pk pg pp pz pv sc wg wp tr ss sp szs sv tx css csp cszs csv n10 n9 h0_stepCount h0_open h0_twoSides h0_waitingCount n13 n12 n14 n15 sc_length n11 tr_length gss gsp gszs gsv (bn13) (bn12) (bn14) (b_sc_length) (bn11) (b_tr_length) 30 ((by decide : 30 < 55)) (hsk) (by decide)) (cwV 1 hts (gV kM_PR_126 kV_PR_take kS_PR_take kI_PR kC_PR_take) rfl rfl rfl (by decide +kernel) ⟨Nat.le_of_ble_eq_true rfl, Nat.le_of_ble_eq_true rfl⟩) ⟨fun a U g mk z => by obtain ⟨z0, z1, zP, zK, zD, zS⟩ := z; exact ⟨z0, z1, zP, va_K.moved (u := U) (U := U.calling g mk a) (Vm.Alike.refl U.vm) zK, zD, sw.same (u := U) (U := U.calling g mk a) rfl zS⟩, va_recv hKc hPc (ci := 6) (q0 := 0) rfl rfl, fun U hU hW => ⟨rfl, by rw [hU], va_P.he hU.symm hPc, va_K.moved hW.alike hKc, hDc.weaken (fun _ _ _ _ => trivial), hSW.call hS hFc hW hU⟩⟩ rfl rfl hl.1 rfl (lv_room (Nat.le_of_ble_eq_true rfl)) d_PR_readParameters_45 ⟨Nat.le_of_ble_eq_true rfl, Nat.le_of_ble_eq_true rfl⟩) hS (fun q _ h => hFc q h) hFc (fun u t H1 locs ht hvm hw hB hz1 hk1 hS => ?_) (fun xx u t H1 locs ht hvm hw hXX hB hz1 hk1 hS => ?_)
    rotate_left
    · skip
      obtain ⟨n17, n18, n19, n20, n21, n22, n23⟩ := u
      try dsimp only at hw
      obtain ⟨bn19, bn20, bn21, bn22⟩ := hw
      obtain ⟨hP1, hK1, hD1⟩ := hB
      replace hP1 := va_P.he ht hP1
      obtain ⟨hP, hD⟩ := va_join (wr := (wz_119 pa tr pas paz pat pav j2_pa_length pas cpas j2_pas paz cpaz j2_paz pat cpat j2_pat pav cpav j2_pav)) (w1 := (wz_112 h0 gl fu pa pf sf pk pg pp pz pv n18 n17 sc h0_stepCount h0_open h0_twoSides wg wp h0_waitingCount sc tr (sg sa n21) n20 n22 n23 ss sp szs sv sc_length n19 tr tx tr_length ss css (fun j => (gss j).map (sg sa)) sp csp gsp szs cszs gszs sv csv gsv)) hP hD [5, 6, 7, 8, 9, 10, 11] [0, 1, 2, 3, 4] rfl rfl (by decide) (by decide) hk1 hFc hP1 hD1
      have hP : va_P (dC, dI) cls (wz_120 pa tr pas paz pat pav j2_pa_length pas cpas j2_pas paz cpaz j2_paz pat cpat j2_pat pav cpav j2_pav h0 gl fu pa pf sf pk pg pp pz pv n18 n17 sc h0_stepCount h0_open h0_twoSides wg wp h0_waitingCount sc tr (sg sa n21) n20 n22 n23 ss sp szs sv sc_length n19 tr tx tr_length ss css (fun j => (gss j).map (sg sa)) sp csp gsp szs cszs gszs sv csv gsv) H1 := hP
      have hD : va_D A (wz_120 pa tr pas paz pat pav j2_pa_length pas cpas j2_pas paz cpaz j2_paz pat cpat j2_pat pav cpav j2_pav h0 gl fu pa pf sf pk pg pp pz pv n18 n17 sc h0_stepCount h0_open h0_twoSides wg wp h0_waitingCount sc tr (sg sa n21) n20 n22 n23 ss sp szs sv sc_length n19 tr tx tr_length ss css (fun j => (gss j).map (sg sa)) sp csp gsp szs cszs gszs sv csv gsv) := hD
      have hP9 := hP.sb (wq := (wz_118 h0 gl fu pa pf sf pk pg pp pz pv n18 n17 sc h0_stepCount h0_open h0_twoSides wg wp h0_waitingCount sc tr (sg sa n21) n20 n22 n23 ss sp szs sv sc_length n19 tr tx tr_length ss css (fun j => (gss j).map (sg sa)) sp csp gsp szs cszs gszs sv csv gsv pa tr pas paz pat pav j2_pa_length pas cpas j2_pas paz cpaz j2_paz pat cpat j2_pat pav cpav j2_pav)) [5, 6, 7, 8, 9, 10, 11, 0, 1, 2, 3, 4] rfl
      have hD9 := hD.sb (wq := (wz_118 h0 gl fu pa pf sf pk pg pp pz pv n18 n17 sc h0_stepCount h0_open h0_twoSides wg wp h0_waitingCount sc tr (sg sa n21) n20 n22 n23 ss sp szs sv sc_length n19 tr tx tr_length ss css (fun j => (gss j).map (sg sa)) sp csp gsp szs cszs gszs sv csv gsv pa tr pas paz pat pav j2_pa_length pas cpas j2_pas paz cpaz j2_paz pat cpat j2_pat pav cpav j2_pav)) [5, 6, 7, 8, 9, 10, 11, 0, 1, 2, 3, 4] (by decide) rfl
      exact tz_leave rfl hno hlocks (fun t ht hW => ⟨⟨(j2_pas, j2_pat, j2_pav, j2_paz, n17, n18, j2_pa_length, n19, n20, n21, n22, n23), ⟨⟨b_j2_pa_length, bn19, bn20, bn21, bn22⟩, by rw [ht]; exact hXX.moved hW.alike⟩, va_P.he ht.symm hP9, va_K.moved hW.alike hK, hD9⟩, hS.F ht⟩) hS.2.2
    obtain ⟨n24, n25, n26, n27, n28, n29, n30⟩ := u
    try dsimp only at hw
    obtain ⟨bn26, bn27, bn28, bn29, xr16⟩ := hw
    try clear hw
    have or16 := hsk
    have er16 := xr16.1
    have hsk := xr16.2.1
    have mr16 := xr16.2.2.1
    have pr16 := sk_pos or16 (by (first | (apply Int.le_antisymm <;> omega) | omega)) (by (first | (apply Int.le_antisymm <;> omega) | omega))
    clear xr16
    obtain ⟨hP1, hK1, hD1⟩ := hB
    replace hP1 := va_P.he ht hP1
    obtain ⟨hP, hD⟩ := va_join (wr := (wz_119 pa tr pas paz pat pav j2_pa_length pas cpas j2_pas paz cpaz j2_paz pat cpat j2_pat pav cpav j2_pav)) (w1 := (wz_112 h0 gl fu pa pf sf pk pg pp pz pv n25 n24 sc h0_stepCount h0_open h0_twoSides wg wp h0_waitingCount sc tr (sg sa n28) n27 n29 n30 ss sp szs sv sc_length n26 tr tx tr_length ss css (fun j => (gss j).map (sg sa)) sp csp gsp szs cszs gszs sv csv gsv)) hP hD [5, 6, 7, 8, 9, 10, 11] [0, 1, 2, 3, 4] rfl rfl (by decide) (by decide) hk1 hFc hP1 hD1
    clear hPc hDc hKc hFc hz1 hk1 hP1 hK1 hD1
    rename Heap => H
    have hP : va_P (dC, dI) cls (wz_120 pa tr pas paz pat pav j2_pa_length pas cpas j2_pas paz cpaz j2_paz pat cpat j2_pat pav cpav j2_pav h0 gl fu pa pf sf pk pg pp pz pv n25 n24 sc h0_stepCount h0_open h0_twoSides wg wp h0_waitingCount sc tr (sg sa n28) n27 n29 n30 ss sp szs sv sc_length n26 tr tx tr_length ss css (fun j => (gss j).map (sg sa)) sp csp gsp szs cszs gszs sv csv gsv) H := hP
    have hD : va_D A (wz_120 pa tr pas paz pat pav j2_pa_length pas cpas j2_pas paz cpaz j2_paz pat cpat j2_pat pav cpav j2_pav h0 gl fu pa pf sf pk pg pp pz pv n25 n24 sc h0_stepCount h0_open h0_twoSides wg wp h0_waitingCount sc tr (sg sa n28) n27 n29 n30 ss sp szs sv sc_length n26 tr tx tr_length ss css (fun j => (gss j).map (sg sa)) sp csp gsp szs cszs gszs sv csv gsv) := hD
    refine lv_aload_n hx hb d_PR_readParameters_48 rfl (lv_at hl 2 rfl) ?_
    refine va_get (D := (dC, dI)) (ci := 6) (v := .ref pa) (C := R_PR) (T := F_PR) (N := 19) hx hb hts i_PR hown hK hP 5 rfl rfl 2 (by decide) (hts _ kF_PR_65) (fun _ h9 => h9) rfl d_PR_readParameters_49 ?_
    refine lv_iload_n hx hb d_PR_readParameters_52 rfl (lv_at hl 1 rfl) ?_
    refine lv_iload_n hx hb d_PR_readParameters_53 rfl (lv_at hl 0 rfl) ?_
    refine lv_aload_n hx hb d_PR_readParameters_54 rfl (lv_at hl 2 rfl) ?_
    have hPc := hP.sb (wq := (wz_112 h0 gl fu pa pf sf pk pg pp pz pv n25 n24 sc h0_stepCount h0_open h0_twoSides wg wp h0_waitingCount sc tr (sg sa n28) n27 n29 n30 ss sp szs sv sc_length n26 tr tx tr_length ss css (fun j => (gss j).map (sg sa)) sp csp gsp szs cszs gszs sv csv gsv)) [5, 6, 7, 8, 9, 10, 11] rfl
    have hDc := hD.sb (wq := (wz_112 h0 gl fu pa pf sf pk pg pp pz pv n25 n24 sc h0_stepCount h0_open h0_twoSides wg wp h0_waitingCount sc tr (sg sa n28) n27 n29 n30 ss sp szs sv sc_length n26 tr tx tr_length ss css (fun j => (gss j).map (sg sa)) sp csp gsp szs cszs gszs sv csv gsv)) [5, 6, 7, 8, 9, 10, 11] (by decide) rfl
    have hKc := hK.sb (tyq := [(css, .object "WaferForge$Sign"), (csp, .int), (cszs, .int), (csv, .long)]) [0, 1, 2, 3] rfl
    have hFc := va_free (wc := (wz_112 h0 gl fu pa pf sf pk pg pp pz pv n25 n24 sc h0_stepCount h0_open h0_twoSides wg wp h0_waitingCount sc tr (sg sa n28) n27 n29 n30 ss sp szs sv sc_length n26 tr tx tr_length ss css (fun j => (gss j).map (sg sa)) sp csp gsp szs cszs gszs sv csv gsv)) hD hS hA [5, 6, 7, 8, 9, 10, 11] rfl
    refine tq_calli (tz_runV (As := []) (rest := [.int j2_sc_size, .int j2_sc_place, .ref pa]) ⟨hx, hb, hml, hown, hts⟩ (c_PR_takeType l hlt dC dI H.size sa h0 gl fu pa pf sf pk pg pp pz pv sc wg wp tr ss sp szs sv tx css csp cszs csv n25 n24 h0_stepCount h0_open h0_twoSides h0_waitingCount n28 n27 n29 n30 sc_length n26 tr_length gss gsp gszs gsv (bn28) (bn27) (bn29) (b_sc_length) (bn26) (b_tr_length) (hsk)) (cwV 0 hts (gV kM_PR_133 kV_PR_takeType kS_PR_takeType kI_PR kC_PR_takeType) rfl rfl rfl (by decide +kernel) ⟨Nat.le_of_ble_eq_true rfl, Nat.le_of_ble_eq_true rfl⟩) ⟨fun a U g mk z => by obtain ⟨z0, z1, zP, zK, zD, zS⟩ := z; exact ⟨z0, z1, zP, va_K.moved (u := U) (U := U.calling g mk a) (Vm.Alike.refl U.vm) zK, zD, sw.same (u := U) (U := U.calling g mk a) rfl zS⟩, va_recv hKc hPc (ci := 6) (q0 := 0) rfl rfl, fun U hU hW => ⟨rfl, by rw [hU], va_P.he hU.symm hPc, va_K.moved hW.alike hKc, hDc.weaken (fun _ _ _ _ => trivial), hSW.call hS hFc hW hU⟩⟩ rfl rfl hl.1 rfl (lv_room (Nat.le_of_ble_eq_true rfl)) d_PR_readParameters_55 ⟨Nat.le_of_ble_eq_true rfl, Nat.le_of_ble_eq_true rfl⟩) hS (fun q _ h => hFc q h) hFc (fun r31 u t H1 locs ht hvm hw hB hz1 hk1 hS => ?_) (fun xx u t H1 locs ht hvm hw hXX hB hz1 hk1 hS => ?_)
    rotate_left
    · skip
      obtain ⟨n32, n33, n34, n35, n36, n37, n38⟩ := u
      try dsimp only at hw
      obtain ⟨bn34, bn35, bn36, bn37⟩ := hw
      obtain ⟨hP1, hK1, hD1⟩ := hB
      replace hP1 := va_P.he ht hP1
      obtain ⟨hP, hD⟩ := va_join (wr := (wz_119 pa tr pas paz pat pav j2_pa_length pas cpas j2_pas paz cpaz j2_paz pat cpat j2_pat pav cpav j2_pav)) (w1 := (wz_112 h0 gl fu pa pf sf pk pg pp pz pv n33 n32 sc h0_stepCount h0_open h0_twoSides wg wp h0_waitingCount sc tr (sg sa n36) n35 n37 n38 ss sp szs sv sc_length n34 tr tx tr_length ss css (fun j => (gss j).map (sg sa)) sp csp gsp szs cszs gszs sv csv gsv)) hP hD [5, 6, 7, 8, 9, 10, 11] [0, 1, 2, 3, 4] rfl rfl (by decide) (by decide) hk1 hFc hP1 hD1
      have hP : va_P (dC, dI) cls (wz_120 pa tr pas paz pat pav j2_pa_length pas cpas j2_pas paz cpaz j2_paz pat cpat j2_pat pav cpav j2_pav h0 gl fu pa pf sf pk pg pp pz pv n33 n32 sc h0_stepCount h0_open h0_twoSides wg wp h0_waitingCount sc tr (sg sa n36) n35 n37 n38 ss sp szs sv sc_length n34 tr tx tr_length ss css (fun j => (gss j).map (sg sa)) sp csp gsp szs cszs gszs sv csv gsv) H1 := hP
      have hD : va_D A (wz_120 pa tr pas paz pat pav j2_pa_length pas cpas j2_pas paz cpaz j2_paz pat cpat j2_pat pav cpav j2_pav h0 gl fu pa pf sf pk pg pp pz pv n33 n32 sc h0_stepCount h0_open h0_twoSides wg wp h0_waitingCount sc tr (sg sa n36) n35 n37 n38 ss sp szs sv sc_length n34 tr tx tr_length ss css (fun j => (gss j).map (sg sa)) sp csp gsp szs cszs gszs sv csv gsv) := hD
      have hP9 := hP.sb (wq := (wz_118 h0 gl fu pa pf sf pk pg pp pz pv n33 n32 sc h0_stepCount h0_open h0_twoSides wg wp h0_waitingCount sc tr (sg sa n36) n35 n37 n38 ss sp szs sv sc_length n34 tr tx tr_length ss css (fun j => (gss j).map (sg sa)) sp csp gsp szs cszs gszs sv csv gsv pa tr pas paz pat pav j2_pa_length pas cpas j2_pas paz cpaz j2_paz pat cpat j2_pat pav cpav j2_pav)) [5, 6, 7, 8, 9, 10, 11, 0, 1, 2, 3, 4] rfl
      have hD9 := hD.sb (wq := (wz_118 h0 gl fu pa pf sf pk pg pp pz pv n33 n32 sc h0_stepCount h0_open h0_twoSides wg wp h0_waitingCount sc tr (sg sa n36) n35 n37 n38 ss sp szs sv sc_length n34 tr tx tr_length ss css (fun j => (gss j).map (sg sa)) sp csp gsp szs cszs gszs sv csv gsv pa tr pas paz pat pav j2_pa_length pas cpas j2_pas paz cpaz j2_paz pat cpat j2_pat pav cpav j2_pav)) [5, 6, 7, 8, 9, 10, 11, 0, 1, 2, 3, 4] (by decide) rfl
      exact tz_leave rfl hno hlocks (fun t ht hW => ⟨⟨(j2_pas, j2_pat, j2_pav, j2_paz, n32, n33, j2_pa_length, n34, n35, n36, n37, n38), ⟨⟨b_j2_pa_length, bn34, bn35, bn36, bn37⟩, by rw [ht]; exact hXX.moved hW.alike⟩, va_P.he ht.symm hP9, va_K.moved hW.alike hK, hD9⟩, hS.F ht⟩) hS.2.2
    obtain ⟨n39, n40, n41, n42, n43, n44, n45⟩ := u
    try dsimp only at hw
    obtain ⟨br31, bn41, bn42, bn43, bn44, xr31⟩ := hw
    try clear hw
    have or31 := hsk
    have er31 := xr31.1
    have hsk := xr31.2.1
    have mr31 := xr31.2.2.1
    have pr31 := sk_pos or31 (by (first | (apply Int.le_antisymm <;> omega) | omega)) (by (first | (apply Int.le_antisymm <;> omega) | omega))
    clear xr31
    have w55 : n42.toInt ≥ 0 := by (first | (apply Int.le_antisymm <;> omega) | omega)
    obtain ⟨hP1, hK1, hD1⟩ := hB
    replace hP1 := va_P.he ht hP1
    obtain ⟨hP, hD⟩ := va_join (wr := (wz_119 pa tr pas paz pat pav j2_pa_length pas cpas j2_pas paz cpaz j2_paz pat cpat j2_pat pav cpav j2_pav)) (w1 := (wz_112 h0 gl fu pa pf sf pk pg pp pz pv n40 n39 sc h0_stepCount h0_open h0_twoSides wg wp h0_waitingCount sc tr (sg sa n43) n42 n44 n45 ss sp szs sv sc_length n41 tr tx tr_length ss css (fun j => (gss j).map (sg sa)) sp csp gsp szs cszs gszs sv csv gsv)) hP hD [5, 6, 7, 8, 9, 10, 11] [0, 1, 2, 3, 4] rfl rfl (by decide) (by decide) hk1 hFc hP1 hD1
    clear hPc hDc hKc hFc hz1 hk1 hP1 hK1 hD1
    rename Heap => H
    have hP : va_P (dC, dI) cls (wz_120 pa tr pas paz pat pav j2_pa_length pas cpas j2_pas paz cpaz j2_paz pat cpat j2_pat pav cpav j2_pav h0 gl fu pa pf sf pk pg pp pz pv n40 n39 sc h0_stepCount h0_open h0_twoSides wg wp h0_waitingCount sc tr (sg sa n43) n42 n44 n45 ss sp szs sv sc_length n41 tr tx tr_length ss css (fun j => (gss j).map (sg sa)) sp csp gsp szs cszs gszs sv csv gsv) H := hP
    have hD : va_D A (wz_120 pa tr pas paz pat pav j2_pa_length pas cpas j2_pas paz cpaz j2_paz pat cpat j2_pat pav cpav j2_pav h0 gl fu pa pf sf pk pg pp pz pv n40 n39 sc h0_stepCount h0_open h0_twoSides wg wp h0_waitingCount sc tr (sg sa n43) n42 n44 n45 ss sp szs sv sc_length n41 tr tx tr_length ss css (fun j => (gss j).map (sg sa)) sp csp gsp szs cszs gszs sv csv gsv) := hD
    refine lv_lconst (v := 0) hx hb d_PR_readParameters_58 (by decide) ?_
    have kl0 : (0 : Int64).toInt = 0 := by decide
    have hPc := hP.sb (wq := (wz_119 pa tr pas paz pat pav j2_pa_length pas cpas j2_pas paz cpaz j2_paz pat cpat j2_pat pav cpav j2_pav)) [0, 1, 2, 3, 4] rfl
    have hDc := hD.sb (wq := (wz_119 pa tr pas paz pat pav j2_pa_length pas cpas j2_pas paz cpaz j2_paz pat cpat j2_pat pav cpav j2_pav)) [0, 1, 2, 3, 4] (by decide) rfl
    have hKc := hK.sb (tyq := [(cpas, .int), (cpaz, .int), (cpat, .int), (cpav, .long)]) [4, 5, 6, 7] rfl
    have hFc := va_free (wc := (wz_119 pa tr pas paz pat pav j2_pa_length pas cpas j2_pas paz cpaz j2_paz pat cpat j2_pat pav cpav j2_pav)) hD hS hA [0, 1, 2, 3, 4] rfl
    refine va_callv (va_runV (As := [.int j2_sc_place, .int j2_sc_size, .int r31, .long 0]) (rest := []) ⟨hx, hb, hml, hown, hts⟩ (c_NA_add l dC dI H.size pa tr pas paz pat pav cpas cpaz cpat cpav j2_pa_length 160 j2_pas j2_paz j2_pat j2_pav j2_sc_place j2_sc_size r31 0 (by (try dsimp only) <;> (first | (apply Int.le_antisymm <;> omega) | omega))) (cwV 4 hts (gV kM_PR_156 kV_NA_add kS_NA_add kI_NA kC_NA_add) rfl rfl rfl (by decide +kernel) ⟨Nat.le_of_ble_eq_true rfl, Nat.le_of_ble_eq_true rfl⟩) ⟨fun a U g mk z => by obtain ⟨z0, z1, zP, zK, zD⟩ := z; exact ⟨z0, z1, zP, va_K.moved (u := U) (U := U.calling g mk a) (Vm.Alike.refl U.vm) zK, zD⟩, va_recv hKc hPc (ci := 5) (q0 := 0) rfl rfl, fun U hU hW => ⟨rfl, by rw [hU], va_P.he hU.symm hPc, va_K.moved hW.alike hKc, hDc.weaken (fun _ _ _ _ => trivial)⟩⟩ rfl rfl hl.1 rfl (lv_room (Nat.le_of_ble_eq_true rfl)) d_PR_readParameters_59 ⟨(Nat.zero_le _), (Nat.zero_le _)⟩) hS (fun q _ h => hFc q h) hFc (fun u t H1 locs ht hvm hw hB hz1 hk1 hS => ?_)
    obtain ⟨n47, n48, n49, n50, n51⟩ := u
    try dsimp only at hw
    have xr46 := hw
    try clear hw
    have w59 := xr46.1 (by (first | (apply Int.le_antisymm <;> omega) | omega))
    clear xr46
    have hnm := nm_add (T := tP) hnm (by (first | (apply Int.le_antisymm <;> omega) | omega)) w59 w38 (by unfold tP; (first | (apply Int.le_antisymm <;> omega) | omega))
    obtain ⟨hP1, hK1, hD1⟩ := hB
    replace hP1 := va_P.he ht hP1
    obtain ⟨hP, hD⟩ := va_join (wr := (wz_112 h0 gl fu pa pf sf pk pg pp pz pv n40 n39 sc h0_stepCount h0_open h0_twoSides wg wp h0_waitingCount sc tr (sg sa n43) n42 n44 n45 ss sp szs sv sc_length n41 tr tx tr_length ss css (fun j => (gss j).map (sg sa)) sp csp gsp szs cszs gszs sv csv gsv)) (w1 := (wz_119 pa tr pas paz pat pav n51 pas cpas n47 paz cpaz n50 pat cpat n48 pav cpav n49)) hP hD [0, 1, 2, 3, 4] [5, 6, 7, 8, 9, 10, 11] rfl rfl (by decide) (by decide) hk1 hFc hP1 hD1
    clear hPc hDc hKc hFc hz1 hk1 hP1 hK1 hD1
    rename Heap => H
    have hP : va_P (dC, dI) cls (wz_118 h0 gl fu pa pf sf pk pg pp pz pv n40 n39 sc h0_stepCount h0_open h0_twoSides wg wp h0_waitingCount sc tr (sg sa n43) n42 n44 n45 ss sp szs sv sc_length n41 tr tx tr_length ss css (fun j => (gss j).map (sg sa)) sp csp gsp szs cszs gszs sv csv gsv pa tr pas paz pat pav n51 pas cpas n47 paz cpaz n50 pat cpat n48 pav cpav n49) H := hP
    have hD : va_D A (wz_118 h0 gl fu pa pf sf pk pg pp pz pv n40 n39 sc h0_stepCount h0_open h0_twoSides wg wp h0_waitingCount sc tr (sg sa n43) n42 n44 n45 ss sp szs sv sc_length n41 tr tx tr_length ss css (fun j => (gss j).map (sg sa)) sp csp gsp szs cszs gszs sv csv gsv pa tr pas paz pat pav n51 pas cpas n47 paz cpaz n50 pat cpat n48 pav cpav n49) := hD
    refine lv_aload_n hx hb d_PR_readParameters_62 rfl (lv_at hl 2 rfl) ?_
    refine va_get (D := (dC, dI)) (ci := 6) (v := .ref sc) (C := R_PR) (T := F_PR) (N := 19) hx hb hts i_PR hown hK hP 0 rfl rfl 12 (by decide) (hts _ kF_PR_43) (fun _ h9 => h9) rfl d_PR_readParameters_63 ?_
    refine va_get (D := (dC, dI)) (ci := 8) (v := .ref (sg sa n43)) (C := R_SC) (T := F_SC) (N := 11) hx hb hts i_SC hown hK hP 1 rfl rfl 1 (by decide) (hts _ kF_PR_93) (fun _ h9 => h9) rfl d_PR_readParameters_66 ?_
    refine va_gets (C := "WaferForge$Sign") (n := "COMMA") (d := "LWaferForge$Sign;") (v := .ref (sg sa 32)) hx hb ((hSW.2.2.2.1.1 32 (by decide)).1) hS hown (hts _ kF_PR_178) (fun _ h9 => h9) d_PR_readParameters_69 ?_
    refine lv_acmp_eq (rx := some (sg sa n43)) (ry := some (sg sa 32)) (tgt := 76) hx hb d_PR_readParameters_72 (by decide) (fun c72 => ?_) (fun c72 => ?_)
    · have q72 : n43 = 32 := hSW.2.2.2.1.2 n43 32 bn43 (by decide : 32 < 55) (Option.some.inj c72)
      refine lv_aload_n hx hb d_PR_readParameters_76 rfl (lv_at hl 2 rfl) ?_
      refine va_get (D := (dC, dI)) (ci := 6) (v := .ref sc) (C := R_PR) (T := F_PR) (N := 19) hx hb hts i_PR hown hK hP 0 rfl rfl 12 (by decide) (hts _ kF_PR_43) (fun _ h9 => h9) rfl d_PR_readParameters_77 ?_
      have hPc := hP.sb (wq := (wz_107 sc tr (sg sa n43) n42 n44 n45 ss sp szs sv sc_length n41 tr tx tr_length ss css (fun j => (gss j).map (sg sa)) sp csp gsp szs cszs gszs sv csv gsv)) [1, 2, 3, 4, 5, 6] rfl
      have hDc := hD.sb (wq := (wz_107 sc tr (sg sa n43) n42 n44 n45 ss sp szs sv sc_length n41 tr tx tr_length ss css (fun j => (gss j).map (sg sa)) sp csp gsp szs cszs gszs sv csv gsv)) [1, 2, 3, 4, 5, 6] (by decide) rfl
      have hKc := hK.sb (tyq := [(css, .object "WaferForge$Sign"), (csp, .int), (cszs, .int), (csv, .long)]) [0, 1, 2, 3] rfl
      have hFc := va_free (wc := (wz_107 sc tr (sg sa n43) n42 n44 n45 ss sp szs sv sc_length n41 tr tx tr_length ss css (fun j => (gss j).map (sg sa)) sp csp gsp szs cszs gszs sv csv gsv)) hD hS hA [1, 2, 3, 4, 5, 6] rfl
      refine va_callv (va_runV (As := []) (rest := []) ⟨hx, hb, hml, hown, hts⟩ (c_SC_next l dC dI H.size sa sc tr ss sp szs sv tx css csp cszs csv n43 n42 n44 n45 sc_length n41 tr_length gss gsp gszs gsv (bn43) (bn42) (bn44) (b_sc_length) (bn41) (b_tr_length) (hsk.1.2.1)) (cwV 0 hts (gV kM_PR_114 kV_SC_next kS_SC_next kI_SC kC_SC_next) rfl rfl rfl (by decide +kernel) ⟨Nat.le_of_ble_eq_true rfl, Nat.le_of_ble_eq_true rfl⟩) ⟨fun a U g mk z => by obtain ⟨z0, z1, zP, zK, zD, zS⟩ := z; exact ⟨z0, z1, zP, va_K.moved (u := U) (U := U.calling g mk a) (Vm.Alike.refl U.vm) zK, zD, sw.same (u := U) (U := U.calling g mk a) rfl zS⟩, va_recv hKc hPc (ci := 8) (q0 := 0) rfl rfl, fun U hU hW => ⟨rfl, by rw [hU], va_P.he hU.symm hPc, va_K.moved hW.alike hKc, hDc.weaken (fun _ _ _ _ => trivial), hSW.call hS hFc hW hU⟩⟩ rfl rfl hl.1 rfl (lv_room (Nat.le_of_ble_eq_true rfl)) d_PR_readParameters_80 ⟨(Nat.zero_le _), (Nat.zero_le _)⟩) hS (fun q _ h => hFc q h) hFc (fun u t H1 locs ht hvm hw hB hz1 hk1 hS => ?_)
      obtain ⟨n53, n54, n55, n56, n57⟩ := u
      try dsimp only at hw
      obtain ⟨bn53, bn54, bn55, bn56, xr52⟩ := hw
      try clear hw
      have or52 := hsk
      have zr52 := sk_next hsk xr52.1 xr52.2
      have hsk := zr52.1
      have mr52 := zr52.2.1
      have fr52 := zr52.2.2.1
      clear xr52 zr52
      have m80 := (fr52 (by (first | (apply Int.le_antisymm <;> omega) | omega)) (by (first | (apply Int.le_antisymm <;> omega) | omega))).2
      have w80 := sk_pos or52 (by (first | (apply Int.le_antisymm <;> omega) | omega)) (by (first | (apply Int.le_antisymm <;> omega) | omega))
      obtain ⟨hP1, hK1, hD1⟩ := hB
      replace hP1 := va_P.he ht hP1
      obtain ⟨hP, hD⟩ := va_join (wr := [(h0, .inr (6, [.ref gl, .ref fu, .ref pa, .ref pf, .ref sf, .ref pk, .ref pg, .ref pp, .ref pz, .ref pv, .int n40, .int n39, .ref sc, .int h0_stepCount, .int h0_open, .int h0_twoSides, .ref wg, .ref wp, .int h0_waitingCount])), (pa, .inr (5, [.ref tr, .ref pas, .ref paz, .ref pat, .ref pav, .int n51])), (pas, .inl (cpas, 160, .inl n47)), (paz, .inl (cpaz, 160, .inl n50)), (pat, .inl (cpat, 160, .inl n48)), (pav, .inl (cpav, 160, .inr (.inl n49)))]) (w1 := (wz_107 sc tr (sg sa n55) n54 n56 n57 ss sp szs sv sc_length n53 tr tx tr_length ss css (fun j => (gss j).map (sg sa)) sp csp gsp szs cszs gszs sv csv gsv)) hP hD [1, 2, 3, 4, 5, 6] [0, 7, 8, 9, 10, 11] rfl rfl (by decide) (by decide) hk1 hFc hP1 hD1
      clear hPc hDc hKc hFc hz1 hk1 hP1 hK1 hD1
      rename Heap => H
      have hP : va_P (dC, dI) cls [(h0, .inr (6, [.ref gl, .ref fu, .ref pa, .ref pf, .ref sf, .ref pk, .ref pg, .ref pp, .ref pz, .ref pv, .int n40, .int n39, .ref sc, .int h0_stepCount, .int h0_open, .int h0_twoSides, .ref wg, .ref wp, .int h0_waitingCount])), (pa, .inr (5, [.ref tr, .ref pas, .ref paz, .ref pat, .ref pav, .int n51])), (pas, .inl (cpas, 160, .inl n47)), (paz, .inl (cpaz, 160, .inl n50)), (pat, .inl (cpat, 160, .inl n48)), (pav, .inl (cpav, 160, .inr (.inl n49))), (sc, .inr (8, [.ref tr, .ref (sg sa n55), .int n54, .int n56, .long n57, .ref ss, .ref sp, .ref szs, .ref sv, .int sc_length, .int n53])), (tr, .inr (1, [.ref tx, .int tr_length])), (ss, .inl (css, 2001, .inr (.inr (.inr (.inr (fun j => (gss j).map (sg sa))))))), (sp, .inl (csp, 2001, .inl gsp)), (szs, .inl (cszs, 2001, .inl gszs)), (sv, .inl (csv, 2001, .inr (.inl gsv)))] H := hP
      have hD : va_D A [(h0, .inr (6, [.ref gl, .ref fu, .ref pa, .ref pf, .ref sf, .ref pk, .ref pg, .ref pp, .ref pz, .ref pv, .int n40, .int n39, .ref sc, .int h0_stepCount, .int h0_open, .int h0_twoSides, .ref wg, .ref wp, .int h0_waitingCount])), (pa, .inr (5, [.ref tr, .ref pas, .ref paz, .ref pat, .ref pav, .int n51])), (pas, .inl (cpas, 160, .inl n47)), (paz, .inl (cpaz, 160, .inl n50)), (pat, .inl (cpat, 160, .inl n48)), (pav, .inl (cpav, 160, .inr (.inl n49))), (sc, .inr (8, [.ref tr, .ref (sg sa n55), .int n54, .int n56, .long n57, .ref ss, .ref sp, .ref szs, .ref sv, .int sc_length, .int n53])), (tr, .inr (1, [.ref tx, .int tr_length])), (ss, .inl (css, 2001, .inr (.inr (.inr (.inr (fun j => (gss j).map (sg sa))))))), (sp, .inl (csp, 2001, .inl gsp)), (szs, .inl (cszs, 2001, .inl gszs)), (sv, .inl (csv, 2001, .inr (.inl gsv)))] := hD
      obtain ⟨x58, ex58⟩ : ∃ z : Int32, z = j2_l1 + 1 := ⟨_, rfl⟩
      have tx58 : x58.toInt = j2_l1.toInt + 1 := by have z := i32_add ex58 (by (first | (apply Int.le_antisymm <;> omega) | omega)) (by (first | (apply Int.le_antisymm <;> omega) | omega)); first | exact z | (first | (apply Int.le_antisymm <;> omega) | omega)
      refine lv_iinc (v := x58) (lv' := [(1, .int x58), (3, .int j2_sc_size), (2, .int j2_sc_place), (0, .ref h0)]) hx hb d_PR_readParameters_83 hl (k := 3) rfl (by rw [ex58]; rfl) (by decide) rfl (fun ls hl => ?_)
      refine lv_goto (tgt := 2) hx hb d_PR_readParameters_86 (by decide) ?_
      exact ih2 (x58, n47, n48, n49, n50, n39, n40, n51, n53, n54, n55, n56, n57) _ _ _ (by show (9 - x58.toInt).toNat < N2; (first | (apply Int.le_antisymm <;> omega) | omega)) ⟨by (try dsimp only) <;> (first | (apply Int.le_antisymm <;> omega) | omega), bn53, bn54, bn55, bn56, hsk, hnm, by (try dsimp only) <;> (first | (apply Int.le_antisymm <;> omega) | omega), hP.sub [0, 6, 7, 8, 9, 10, 11, 1, 2, 3, 4, 5] rfl, hD.sub [0, 6, 7, 8, 9, 10, 11, 1, 2, 3, 4, 5] (by decide) rfl, hS, lv_sub hl [3, 0] rfl⟩
    · have q72 : n43 ≠ 32 := fun z => c72 (by rw [z])
      have hP9 := hP.sb (wq := (wz_118 h0 gl fu pa pf sf pk pg pp pz pv n40 n39 sc h0_stepCount h0_open h0_twoSides wg wp h0_waitingCount sc tr (sg sa n43) n42 n44 n45 ss sp szs sv sc_length n41 tr tx tr_length ss css (fun j => (gss j).map (sg sa)) sp csp gsp szs cszs gszs sv csv gsv pa tr pas paz pat pav n51 pas cpas n47 paz cpaz n50 pat cpat n48 pav cpav n49)) [0, 1, 2, 3, 4, 5, 6, 7, 8, 9, 10, 11] rfl
      have hD9 := hD.sb (wq := (wz_118 h0 gl fu pa pf sf pk pg pp pz pv n40 n39 sc h0_stepCount h0_open h0_twoSides wg wp h0_waitingCount sc tr (sg sa n43) n42 n44 n45 ss sp szs sv sc_length n41 tr tx tr_length ss css (fun j => (gss j).map (sg sa)) sp csp gsp szs cszs gszs sv csv gsv pa tr pas paz pat pav n51 pas cpas n47 paz cpaz n50 pat cpat n48 pav cpav n49)) [0, 1, 2, 3, 4, 5, 6, 7, 8, 9, 10, 11] (by decide) rfl
      exact tz_up (fun _ => rfl) (W.vret hx hb hr (fun t ht hW => ⟨⟨(n47, n48, n49, n50, n39, n40, n51, n41, n42, n43, n44, n45), ⟨rfl, ⟨by (try dsimp only) <;> (first | (apply Int.le_antisymm <;> omega) | omega), bn41, bn42, bn43, bn44, ⟨hsk, hnm, by (try dsimp only); (first | (apply Int.le_antisymm <;> omega) | omega), by (try dsimp only); (first | (apply Int.le_antisymm <;> omega) | omega), by (try dsimp only); (first | (apply Int.le_antisymm <;> omega) | omega)⟩⟩⟩, va_P.he ht.symm hP9, va_K.moved hW.alike hK, hD9⟩, hS.F ht⟩) hS.2.2 d_PR_readParameters_75)
  · have q11 := eqI c11
    refine lv_aload_n hx hb d_PR_readParameters_14 rfl (lv_at hl 0 rfl) ?_
    have hPc := hP.sb (wq := (wz_111 h0 gl fu pa pf sf pk pg pp pz pv j2_h0_reason j2_h0_place sc h0_stepCount h0_open h0_twoSides wg wp h0_waitingCount sc tr (sg sa j2_sc_sign) j2_sc_place j2_sc_size j2_sc_value ss sp szs sv sc_length j2_sc_at)) [0, 1] rfl
    have hDc := hD.sb (wq := (wz_111 h0 gl fu pa pf sf pk pg pp pz pv j2_h0_reason j2_h0_place sc h0_stepCount h0_open h0_twoSides wg wp h0_waitingCount sc tr (sg sa j2_sc_sign) j2_sc_place j2_sc_size j2_sc_value ss sp szs sv sc_length j2_sc_at)) [0, 1] (by decide) rfl
    have hKc := hK.sb (tyq := []) [] rfl
    have hFc := va_free (wc := (wz_111 h0 gl fu pa pf sf pk pg pp pz pv j2_h0_reason j2_h0_place sc h0_stepCount h0_open h0_twoSides wg wp h0_waitingCount sc tr (sg sa j2_sc_sign) j2_sc_place j2_sc_size j2_sc_value ss sp szs sv sc_length j2_sc_at)) hD hS hA [0, 1] rfl
    refine tq_callv (tz_runV (As := []) (rest := []) ⟨hx, hb, hml, hown, hts⟩ (c_PR_refuseOneMore l hlt dC dI H.size sa h0 gl fu pa pf sf pk pg pp pz pv sc wg wp tr ss sp szs sv j2_h0_reason j2_h0_place h0_stepCount h0_open h0_twoSides h0_waitingCount j2_sc_sign j2_sc_place j2_sc_size j2_sc_value sc_length j2_sc_at (b_j2_sc_sign) (b_j2_sc_place)) (cwV 0 hts (gV kM_PR_117 kV_PR_refuseOneMore kS_PR_refuseOneMore kI_PR kC_PR_refuseOneMore) rfl rfl rfl (by decide +kernel) ⟨Nat.le_of_ble_eq_true rfl, Nat.le_of_ble_eq_true rfl⟩) ⟨fun a U g mk z => by obtain ⟨z0, z1, zP, zK, zD, zS⟩ := z; exact ⟨z0, z1, zP, va_K.moved (u := U) (U := U.calling g mk a) (Vm.Alike.refl U.vm) zK, zD, sw.same (u := U) (U := U.calling g mk a) rfl zS⟩, va_recv hKc hPc (ci := 6) (q0 := 0) rfl rfl, fun U hU hW => ⟨rfl, by rw [hU], va_P.he hU.symm hPc, va_K.moved hW.alike hKc, hDc.weaken (fun _ _ _ _ => trivial), hSW.call hS hFc hW hU⟩⟩ rfl rfl hl.1 rfl (lv_room (Nat.le_of_ble_eq_true rfl)) d_PR_readParameters_15 ⟨Nat.le_of_ble_eq_true rfl, Nat.le_of_ble_eq_true rfl⟩) hS (fun q _ h => hFc q h) hFc (fun u t H1 locs ht hvm hw hB hz1 hk1 hS => ?_) (fun xx u t H1 locs ht hvm hw hXX hB hz1 hk1 hS => ?_)
    rotate_left
    · skip
      obtain ⟨n60, n61⟩ := u
      try dsimp only at hw
      obtain ⟨hP1, hK1, hD1⟩ := hB
      replace hP1 := va_P.he ht hP1
      obtain ⟨hP, hD⟩ := va_join (wr := [(tr, .inr (1, [.ref tx, .int tr_length])), (ss, .inl (css, 2001, .inr (.inr (.inr (.inr (fun j => (gss j).map (sg sa))))))), (sp, .inl (csp, 2001, .inl gsp)), (szs, .inl (cszs, 2001, .inl gszs)), (sv, .inl (csv, 2001, .inr (.inl gsv))), (pa, .inr (5, [.ref tr, .ref pas, .ref paz, .ref pat, .ref pav, .int j2_pa_length])), (pas, .inl (cpas, 160, .inl j2_pas)), (paz, .inl (cpaz, 160, .inl j2_paz)), (pat, .inl (cpat, 160, .inl j2_pat)), (pav, .inl (cpav, 160, .inr (.inl j2_pav)))]) (w1 := (wz_111 h0 gl fu pa pf sf pk pg pp pz pv n61 n60 sc h0_stepCount h0_open h0_twoSides wg wp h0_waitingCount sc tr (sg sa j2_sc_sign) j2_sc_place j2_sc_size j2_sc_value ss sp szs sv sc_length j2_sc_at)) hP hD [0, 1] [2, 3, 4, 5, 6, 7, 8, 9, 10, 11] rfl rfl (by decide) (by decide) hk1 hFc hP1 hD1
      have hP : va_P (dC, dI) cls [(tr, .inr (1, [.ref tx, .int tr_length])), (ss, .inl (css, 2001, .inr (.inr (.inr (.inr (fun j => (gss j).map (sg sa))))))), (sp, .inl (csp, 2001, .inl gsp)), (szs, .inl (cszs, 2001, .inl gszs)), (sv, .inl (csv, 2001, .inr (.inl gsv))), (pa, .inr (5, [.ref tr, .ref pas, .ref paz, .ref pat, .ref pav, .int j2_pa_length])), (pas, .inl (cpas, 160, .inl j2_pas)), (paz, .inl (cpaz, 160, .inl j2_paz)), (pat, .inl (cpat, 160, .inl j2_pat)), (pav, .inl (cpav, 160, .inr (.inl j2_pav))), (h0, .inr (6, [.ref gl, .ref fu, .ref pa, .ref pf, .ref sf, .ref pk, .ref pg, .ref pp, .ref pz, .ref pv, .int n61, .int n60, .ref sc, .int h0_stepCount, .int h0_open, .int h0_twoSides, .ref wg, .ref wp, .int h0_waitingCount])), (sc, .inr (8, [.ref tr, .ref (sg sa j2_sc_sign), .int j2_sc_place, .int j2_sc_size, .long j2_sc_value, .ref ss, .ref sp, .ref szs, .ref sv, .int sc_length, .int j2_sc_at]))] H1 := hP
      have hD : va_D A [(tr, .inr (1, [.ref tx, .int tr_length])), (ss, .inl (css, 2001, .inr (.inr (.inr (.inr (fun j => (gss j).map (sg sa))))))), (sp, .inl (csp, 2001, .inl gsp)), (szs, .inl (cszs, 2001, .inl gszs)), (sv, .inl (csv, 2001, .inr (.inl gsv))), (pa, .inr (5, [.ref tr, .ref pas, .ref paz, .ref pat, .ref pav, .int j2_pa_length])), (pas, .inl (cpas, 160, .inl j2_pas)), (paz, .inl (cpaz, 160, .inl j2_paz)), (pat, .inl (cpat, 160, .inl j2_pat)), (pav, .inl (cpav, 160, .inr (.inl j2_pav))), (h0, .inr (6, [.ref gl, .ref fu, .ref pa, .ref pf, .ref sf, .ref pk, .ref pg, .ref pp, .ref pz, .ref pv, .int n61, .int n60, .ref sc, .int h0_stepCount, .int h0_open, .int h0_twoSides, .ref wg, .ref wp, .int h0_waitingCount])), (sc, .inr (8, [.ref tr, .ref (sg sa j2_sc_sign), .int j2_sc_place, .int j2_sc_size, .long j2_sc_value, .ref ss, .ref sp, .ref szs, .ref sv, .int sc_length, .int j2_sc_at]))] := hD
      have hP9 := hP.sb (wq := (wz_118 h0 gl fu pa pf sf pk pg pp pz pv n61 n60 sc h0_stepCount h0_open h0_twoSides wg wp h0_waitingCount sc tr (sg sa j2_sc_sign) j2_sc_place j2_sc_size j2_sc_value ss sp szs sv sc_length j2_sc_at tr tx tr_length ss css (fun j => (gss j).map (sg sa)) sp csp gsp szs cszs gszs sv csv gsv pa tr pas paz pat pav j2_pa_length pas cpas j2_pas paz cpaz j2_paz pat cpat j2_pat pav cpav j2_pav)) [10, 11, 0, 1, 2, 3, 4, 5, 6, 7, 8, 9] rfl
      have hD9 := hD.sb (wq := (wz_118 h0 gl fu pa pf sf pk pg pp pz pv n61 n60 sc h0_stepCount h0_open h0_twoSides wg wp h0_waitingCount sc tr (sg sa j2_sc_sign) j2_sc_place j2_sc_size j2_sc_value ss sp szs sv sc_length j2_sc_at tr tx tr_length ss css (fun j => (gss j).map (sg sa)) sp csp gsp szs cszs gszs sv csv gsv pa tr pas paz pat pav j2_pa_length pas cpas j2_pas paz cpaz j2_paz pat cpat j2_pat pav cpav j2_pav)) [10, 11, 0, 1, 2, 3, 4, 5, 6, 7, 8, 9] (by decide) rfl
      exact tz_leave rfl hno hlocks (fun t ht hW => ⟨⟨(j2_pas, j2_pat, j2_pav, j2_paz, n60, n61, j2_pa_length, j2_sc_at, j2_sc_place, j2_sc_sign, j2_sc_size, j2_sc_value), ⟨⟨b_j2_pa_length, b_j2_sc_at, b_j2_sc_place, b_j2_sc_sign, b_j2_sc_size⟩, by rw [ht]; exact hXX.moved hW.alike⟩, va_P.he ht.symm hP9, va_K.moved hW.alike hK, hD9⟩, hS.F ht⟩) hS.2.2
    exact (show False from hw).elim
end q_44
section q_45
/-! Steps: what they do to what is open, and what they cost -/
def sS (k : Int32) (g : Nat) (z : Int32) (v : Int64) (c : Int) (S S2 : List Nat) : Prop :=
  0 ≤ k.toInt ∧ match k.toInt.toNat with
  | 0 => (g = 3 ∨ g = 4) ∧ tkT g z.toInt v.toInt ∧ c = 5 + 5 * z.toInt ∧ S2 = 0 :: S
  | 1 => g = 2 ∧ (1 ≤ z.toInt ∧ z.toInt ≤ 20) ∧ c = 10 ∧ S2 = 0 :: S
  | 2 => ∃ T, S = 0 :: T ∧ ((g = 36 ∧ c = 25 ∧ S2 = 2 :: T) ∨ (g = 37 ∧ c = 10 ∧ S2 = 3 :: T))
  | 3 => ∃ T, S2 = 0 :: T ∧ ((g = 36 ∧ c = 24 ∧ S = 0 :: 2 :: T) ∨ (g = 37 ∧ c = 40 ∧ S = 0 :: 3 :: T) ∨ ((38 ≤ g ∧ g < 55) ∧ c = 10 ∧ S = 0 :: 0 :: T))
  | 4 => c = 10 ∧ S2 = 1 :: S
  | 5 => ∃ T, S2 = 0 :: T ∧ ((g = 51 ∧ c = 10 ∧ S = 0 :: 1 :: T) ∨ ((g = 34 ∨ g = 35) ∧ c = 16 ∧ S = 0 :: T))
  | 6 => (g = 14 ∨ g = 15) ∧ c = 10 ∧ ∃ T, S = 0 :: T ∧ S2 = 0 :: T
  | 7 => ∃ (T : List Nat) (n : Nat), v.toInt = n ∧ (n : Int) ≤ 8 ∧ S = List.replicate n 0 ++ T ∧ S2 = 0 :: T ∧ ((g = 2 ∧ (1 ≤ z.toInt ∧ z.toInt ≤ 20) ∧ c = 10) ∨ ((17 ≤ g ∧ g ≤ 25) ∧ c = 15))
  | 8 => (g = 14 ∨ g = 15) ∧ (1 ≤ z.toInt ∧ z.toInt ≤ 20) ∧ (0 ≤ v.toInt ∧ v.toInt ≤ 2000) ∧ c = 20 ∧ S = 0 :: S2
  | 9 => g = 2 ∧ (1 ≤ z.toInt ∧ z.toInt ≤ 20) ∧ c = 10 ∧ S = 0 :: S2
  | 10 => c = 10 ∧ S = 0 :: S2
  | 11 => c = 10 ∧ ((v = 0 ∧ S = S2) ∨ (v ≠ 0 ∧ S = 0 :: S2))
  | 12 => (g = 11 ∨ g = 12) ∧ c = 10 ∧ S = S2
  | 13 => c = 10 ∧ ∃ T, S = 0 :: T ∧ S2 = 5 :: T
  | 14 => c = 10 ∧ ∃ T, S = 5 :: T ∧ S2 = 6 :: T
  | 15 => c = 10 ∧ (S = 5 :: S2 ∨ S = 6 :: S2)
  | 16 => c = 20 ∧ S2 = 7 :: S
  | 17 => c = 16 ∧ ∃ T, S = 0 :: 7 :: T ∧ S2 = 8 :: T
  | 18 => c = 24 ∧ S = 8 :: S2
  | 19 => c = 10 ∧ S2 = 4 :: S
  | 20 => c = 10 ∧ S = 4 :: S2
  | _ => False
theorem sS_cost {k : Int32} {g : Nat} {z : Int32} {v : Int64} {c : Int} {S S2 : List Nat} (h : sS k g z v c S S2) : 10 ≤ c := by
  unfold sS at h
  have h := h.2
  split at h
  · have := h.2.1.1 (by (first | (apply Int.le_antisymm <;> omega) | omega)) (by (first | (apply Int.le_antisymm <;> omega) | omega))
    (first | (apply Int.le_antisymm <;> omega) | omega)
  · (first | (apply Int.le_antisymm <;> omega) | omega)
  · obtain ⟨T, -, h⟩ := h; (first | (apply Int.le_antisymm <;> omega) | omega)
  · obtain ⟨T, -, h⟩ := h; (first | (apply Int.le_antisymm <;> omega) | omega)
  · (first | (apply Int.le_antisymm <;> omega) | omega)
  · obtain ⟨T, -, h⟩ := h; (first | (apply Int.le_antisymm <;> omega) | omega)
  · (first | (apply Int.le_antisymm <;> omega) | omega)
  · obtain ⟨T, n, -, -, -, -, h⟩ := h; (first | (apply Int.le_antisymm <;> omega) | omega)
  all_goals first | (first | (apply Int.le_antisymm <;> omega) | omega) | exact h.elim
/-- what an item opens; how many blocks are open; how many may be -/
def fw (x : Nat) : Int := if x = 2 ∨ x = 3 ∨ x = 5 ∨ x = 6 then 1 else if x = 7 ∨ x = 8 then 2 else 0
def fr : List Nat → Int
  | [] => 0
  | x :: S => fr S + fw x
def ph (B : Int) : Int := 2 * ((B + 8) / 16) + 2
def ls (B : Int) (S : List Nat) : Prop := (S.length : Int) ≤ B ∧ fr S ≤ ph B
def lm (S : List Nat) : Prop := S.length ≤ 680 ∧ fr S ≤ 100
theorem fw_b (x : Nat) : 0 ≤ fw x ∧ fw x ≤ 2 := by
  unfold fw
  split
  · (first | (apply Int.le_antisymm <;> omega) | omega)
  · split <;> (first | (apply Int.le_antisymm <;> omega) | omega)
theorem ls_s {B B2 : Int} {S : List Nat} (q : ls B S) (h : B ≤ B2) : ls B2 S := ⟨by have := q.1; (first | (apply Int.le_antisymm <;> omega) | omega), by have := q.2; unfold ph at *; (first | (apply Int.le_antisymm <;> omega) | omega)⟩
theorem ls_c {B B2 : Int} {S : List Nat} {x : Nat} (q : ls B S) (h : B + 1 ≤ B2) (hf : ph B + fw x ≤ ph B2) : ls B2 (x :: S) := ⟨by have := q.1; rw [List.length_cons]; (first | (apply Int.le_antisymm <;> omega) | omega), by have := q.2; show fr S + fw x ≤ _; (first | (apply Int.le_antisymm <;> omega) | omega)⟩
theorem lm_s {B : Int} {S : List Nat} (q : ls B S) (h : B ≤ 680) : lm S := ⟨by have := q.1; (first | (apply Int.le_antisymm <;> omega) | omega), by have := q.2; unfold ph at *; (first | (apply Int.le_antisymm <;> omega) | omega)⟩
theorem lm_c {B : Int} {S : List Nat} {x : Nat} (q : ls B S) (h : B + 1 ≤ 680) : lm (x :: S) := ⟨by have := q.1; rw [List.length_cons]; (first | (apply Int.le_antisymm <;> omega) | omega), by have := q.2; have := fw_b x; show fr S + fw x ≤ _; unfold ph at *; (first | (apply Int.le_antisymm <;> omega) | omega)⟩
theorem fr_rep {S : List Nat} : ∀ n, fr (List.replicate n 0 ++ S) = fr S := by
  intro n
  induction n with
  | zero => rfl
  | succ n ih =>
    have : fr (List.replicate (n + 1) 0 ++ S) = fr (List.replicate n 0 ++ S) + fw 0 := rfl
    have z : fw 0 = 0 := rfl
    (first | (apply Int.le_antisymm <;> omega) | omega)
theorem ls_rep {B B2 : Int} {S : List Nat} {n : Nat} (q : ls B S) (h : B + n ≤ B2) : ls B2 (List.replicate n 0 ++ S) := ⟨by have := q.1; rw [List.length_append, List.length_replicate]; (first | (apply Int.le_antisymm <;> omega) | omega), by have := q.2; rw [fr_rep]; unfold ph at *; (first | (apply Int.le_antisymm <;> omega) | omega)⟩
def sT : List pS → Int → List Nat → List Nat → Prop
  | [], c, S, S2 => c = 0 ∧ S2 = S
  | x :: L, c, S, S2 => ∃ (g : Nat) (c1 : Int) (S1 : List Nat), x.2.1 = some g ∧ g < 55 ∧ sS x.1 g x.2.2.2.1 x.2.2.2.2 c1 S S1 ∧ lm S1 ∧ sT L (c - c1) S1 S2
theorem sT_nil {S : List Nat} : sT [] 0 S S := ⟨rfl, rfl⟩
theorem sT_one {k : Int32} {g : Nat} {p z : Int32} {v : Int64} {c : Int} {S S1 : List Nat} (h : sS k g z v c S S1) (hl : lm S1) (hg : g < 55) : sT [(k, some g, p, z, v)] c S S1 := ⟨g, c, S1, rfl, hg, h, hl, by (first | (apply Int.le_antisymm <;> omega) | omega), rfl⟩
theorem sT_app {L2 : List pS} {c2 : Int} {S1 S2 : List Nat} (h2 : sT L2 c2 S1 S2) : ∀ {L1 : List pS} {c1 : Int} {S : List Nat}, sT L1 c1 S S1 → sT (L1 ++ L2) (c1 + c2) S S2 := by
  intro L1
  induction L1 with
  | nil =>
    intro c1 S h
    obtain ⟨rfl, rfl⟩ := h
    rw [Int.zero_add]
    exact h2
  | cons x L ih =>
    intro c1 S h
    obtain ⟨g, c, S3, a1, a0, a2, a3, a4⟩ := h
    refine ⟨g, c, S3, a1, a0, a2, a3, ?_⟩
    have q := ih a4
    rwa [show c1 - c + c2 = c1 + c2 - c by (first | (apply Int.le_antisymm <;> omega) | omega)] at q
theorem sT_cost : ∀ {L : List pS} {c : Int} {S S2 : List Nat}, sT L c S S2 → 10 * (L.length : Int) ≤ c := by
  intro L
  induction L with
  | nil =>
    intro c S S2 h
    obtain ⟨rfl, -⟩ := h
    exact Int.le_refl _
  | cons x L ih =>
    intro c S S2 h
    obtain ⟨g, c1, S3, a1, -, a2, a3, a4⟩ := h
    have q := ih a4
    have r := sS_cost a2
    rw [List.length_cons]
    (first | (apply Int.le_antisymm <;> omega) | omega)
/-- the steps l are made longer to l2: what was open, S, becomes f S; at most d -/
def pX (B : Int) (f : List Nat → List Nat) (l l2 : List pS) (d : Int) : Prop := ∃ L c, l2 = l ++ L ∧ 10 * (L.length : Int) ≤ c ∧ c ≤ d ∧ ∀ S : List Nat, ls B S → sT L c S (f S)
theorem pX_nil {B : Int} {l : List pS} : pX B (fun S => S) l l 0 := ⟨[], 0, by simp, by simp, Int.le_refl _, fun _ _ => sT_nil⟩
theorem pX_mono {B B2 d d2 : Int} {f : List Nat → List Nat} {l l2 : List pS} (h : pX B f l l2 d) (hB : B2 ≤ B) (hd : d ≤ d2) : pX B2 f l l2 d2 := by
  obtain ⟨L, c, h1, h2, h3, h4⟩ := h
  exact ⟨L, c, h1, h2, by (first | (apply Int.le_antisymm <;> omega) | omega), fun S q => h4 S (ls_s q hB)⟩
theorem pX_comp {B B2 d d2 : Int} {f g : List Nat → List Nat} {l l1 l2 : List pS} (h : pX B f l l1 d) (h2 : pX B2 g l1 l2 d2) (hB : ∀ S : List Nat, ls B S → ls B2 (f S)) : pX B (fun S => g (f S)) l l2 (d + d2) := by
  obtain ⟨L, c, a1, a2, a3, a4⟩ := h
  obtain ⟨L2, c2, b1, b2, b3, b4⟩ := h2
  refine ⟨L ++ L2, c + c2, by rw [b1, a1, List.append_assoc], by rw [List.length_append]; (first | (apply Int.le_antisymm <;> omega) | omega), by (first | (apply Int.le_antisymm <;> omega) | omega), fun S q => sT_app (b4 (f S) (hB S q)) (a4 S q)⟩
theorem pX_step {B d c : Int} {f g : List Nat → List Nat} {l l1 l2 : List pS} {k : Int32} {ge : Nat} {p z : Int32} {v : Int64} (h : pX B f l l1 d) (e : l2 = l1 ++ [(k, some ge, p, z, v)]) (hs : ∀ S : List Nat, ls B S → sS k ge z v c (f S) (g S) ∧ lm (g S)) (hc : 10 ≤ c) (hge : ge < 55 := by (first | (apply Int.le_antisymm <;> omega) | omega)) : pX B g l l2 (d + c) := by
  obtain ⟨L, c0, a1, a2, a3, a4⟩ := h
  refine ⟨L ++ [(k, some ge, p, z, v)], c0 + c, by rw [e, a1, List.append_assoc], ?_, by (first | (apply Int.le_antisymm <;> omega) | omega), fun S q => sT_app (sT_one (hs S q).1 (hs S q).2 hge) (a4 S q)⟩
  rw [List.length_append, List.length_singleton]
  (first | (apply Int.le_antisymm <;> omega) | omega)
theorem pX_len {B d : Int} {f : List Nat → List Nat} {l l2 : List pS} (h : pX B f l l2 d) : 10 * ((l2.length : Int) - l.length) ≤ d := by
  obtain ⟨L, c0, a1, a2, a3, a4⟩ := h
  rw [a1, List.length_append]
  (first | (apply Int.le_antisymm <;> omega) | omega)
theorem pX_n {B d : Int} {f : List Nat → List Nat} {K K2 : Nat → Int32} {G G2 : Nat → Option Nat} {Pp P2 Z Z2 : Nat → Int32} {V V2 : Nat → Int64} {n n2 : Int} (h : pX B f (sl K G Pp Z V n) (sl K2 G2 P2 Z2 V2 n2) d) (h0 : 0 ≤ n) (h2 : 0 ≤ n2) : 10 * (n2 - n) ≤ d := by
  have q := pX_len h
  rw [sl_len, sl_len] at q
  (first | (apply Int.le_antisymm <;> omega) | omega)
/-- signs that wait, below a count, are left as they were -/
def wk (n : Int) (a b : Nat → Option Nat) : Prop := ∀ j : Nat, (j : Int) < n → b j = a j
theorem wk_refl {n : Int} {a : Nat → Option Nat} : wk n a a := fun _ _ => rfl
theorem wk_tr {n m : Int} {a b c : Nat → Option Nat} (h : wk n a b) (h2 : wk m b c) (e : n ≤ m) : wk n a c := fun j q => (h2 j (by (first | (apply Int.le_antisymm <;> omega) | omega))).trans (h j q)
theorem wk_le {n m : Int} {a b : Nat → Option Nat} (h : wk m a b) (e : n ≤ m) : wk n a b := fun j q => h j (by (first | (apply Int.le_antisymm <;> omega) | omega))
theorem wk_up {n : Int} {i : Int32} {a b : Nat → Option Nat} {x : Option Nat} (e : b = va_up a i.toNatClampNeg x) (h0 : n ≤ i.toInt) (h1 : 0 ≤ i.toInt) : wk n a b := by
  subst e
  have c := i32_clamp (x := i) h1
  exact fun j q => va_un (by (first | (apply Int.le_antisymm <;> omega) | omega))
end q_45
