section q_68
/-! Coder: names read, signs of two sides, signs in front -/
def kq (n : Int) (kt : Nat → Int32) (kv : Nat → Int64) (N : Int) : Prop := ∀ j : Nat, (j : Int) < n → ((kt j).toInt = 127 ∨ (kt j).toInt = 126) ∧ 0 ≤ (kv j).toInt ∧ (kv j).toInt < N
def gq (n : Int) (t : Nat → Int32) : Prop := ∀ j : Nat, (j : Int) < n → (t j).toInt = 127 ∨ (t j).toInt = 126
theorem un_nat {x : Int32} (h0 : 0 ≤ x.toInt) : un x = x.toInt.toNat := by
  have h : x.toInt = x.toBitVec.toInt := rfl
  unfold un
  rw [h] at h0 ⊢
  rw [BitVec.toInt_eq_toNat_cond] at h0 ⊢
  split at h0
  · rename_i q; rw [if_pos q]; (first | (apply Int.le_antisymm <;> omega) | omega)
  · (first | (apply Int.le_antisymm <;> omega) | omega)
theorem leb_s {x : Int32} (h0 : 0 ≤ x.toInt) (h1 : x.toInt < 128) : leb 5 (un x) = [x.toInt.toNat] := by
  rw [un_nat h0, leb_end (by (first | (apply Int.le_antisymm <;> omega) | omega)), show x.toInt.toNat % 256 = x.toInt.toNat by (first | (apply Int.le_antisymm <;> omega) | omega)]
theorem bn_s {x : Int32} (h0 : 0 ≤ x.toInt) (h1 : x.toInt < 256) : bn x = x.toInt.toNat := by
  have e : bn x = un x % 256 := rfl
  rw [e, un_nat h0]
  (first | (apply Int.le_antisymm <;> omega) | omega)
theorem bl_set {f : Nat → Int32} {k p : Nat} {v : Int32} : bl (upd f p v.toInt8.toInt32) k = (bl f k).set p (bn v) := by
  unfold bl
  apply List.ext_getElem
  · rw [List.length_set, List.length_map, List.length_map]
  · intro i h1 h2
    rw [List.getElem_set, List.getElem_map, List.getElem_map, List.getElem_range]
    by_cases q : p = i
    · rw [if_pos q, q, pk_us, bn_byte]
    · rw [if_neg q, pk_un (fun z => q z.symm)]
abbrev b_CO_codeRead : ByteArray := prog_4_method_7_code
def y_CO_codeRead : MethodName := ⟨R_CO, "codeRead", "(I)V"⟩
abbrev w_CO_codeRead : List Cond := .code y_CO_codeRead b_CO_codeRead 5 none :: lw_g
theorem kC_CO_codeRead : Cond.code y_CO_codeRead b_CO_codeRead 5 none ∈ lw_g := in_c5 165 rfl rfl
theorem d_CO_codeRead_0 : decode b_CO_codeRead 0 = .ok (.aload_n 0, 1) := bz_c42 (by decide +kernel)
theorem d_CO_codeRead_1 : decode b_CO_codeRead 1 = .ok (.getfield 36, 3) := bz_c180 (by decide +kernel)
theorem d_CO_codeRead_4 : decode b_CO_codeRead 4 = .ok (.getfield 193, 3) := bz_c180 (by decide +kernel)
theorem d_CO_codeRead_7 : decode b_CO_codeRead 7 = .ok (.iload_n 1, 1) := bz_c27 (by decide +kernel)
theorem d_CO_codeRead_8 : decode b_CO_codeRead 8 = .ok (.iaload, 1) := bz_c46 (by decide +kernel)
theorem d_CO_codeRead_9 : decode b_CO_codeRead 9 = .ok (.istore_n 2, 1) := bz_c61 (by decide +kernel)
theorem d_CO_codeRead_10 : decode b_CO_codeRead 10 = .ok (.aload_n 0, 1) := bz_c42 (by decide +kernel)
theorem d_CO_codeRead_11 : decode b_CO_codeRead 11 = .ok (.getfield 54, 3) := bz_c180 (by decide +kernel)
theorem d_CO_codeRead_14 : decode b_CO_codeRead 14 = .ok (.iload_n 2, 1) := bz_c28 (by decide +kernel)
theorem d_CO_codeRead_15 : decode b_CO_codeRead 15 = .ok (.aload_n 0, 1) := bz_c42 (by decide +kernel)
theorem d_CO_codeRead_16 : decode b_CO_codeRead 16 = .ok (.getfield 36, 3) := bz_c180 (by decide +kernel)
theorem d_CO_codeRead_19 : decode b_CO_codeRead 19 = .ok (.getfield 216, 3) := bz_c180 (by decide +kernel)
theorem d_CO_codeRead_22 : decode b_CO_codeRead 22 = .ok (.iload_n 1, 1) := bz_c27 (by decide +kernel)
theorem d_CO_codeRead_23 : decode b_CO_codeRead 23 = .ok (.iaload, 1) := bz_c46 (by decide +kernel)
theorem d_CO_codeRead_24 : decode b_CO_codeRead 24 = .ok (.invokevirtual 158, 3) := bz_c182 (by decide +kernel)
theorem d_CO_codeRead_27 : decode b_CO_codeRead 27 = .ok (.istore_n 3, 1) := bz_c62 (by decide +kernel)
theorem d_CO_codeRead_28 : decode b_CO_codeRead 28 = .ok (.aload_n 0, 1) := bz_c42 (by decide +kernel)
theorem d_CO_codeRead_29 : decode b_CO_codeRead 29 = .ok (.getfield 36, 3) := bz_c180 (by decide +kernel)
theorem d_CO_codeRead_32 : decode b_CO_codeRead 32 = .ok (.getfield 42, 3) := bz_c180 (by decide +kernel)
theorem d_CO_codeRead_35 : decode b_CO_codeRead 35 = .ok (.iload_n 2, 1) := bz_c28 (by decide +kernel)
theorem d_CO_codeRead_36 : decode b_CO_codeRead 36 = .ok (.aload_n 0, 1) := bz_c42 (by decide +kernel)
theorem d_CO_codeRead_37 : decode b_CO_codeRead 37 = .ok (.getfield 36, 3) := bz_c180 (by decide +kernel)
theorem d_CO_codeRead_40 : decode b_CO_codeRead 40 = .ok (.getfield 216, 3) := bz_c180 (by decide +kernel)
theorem d_CO_codeRead_43 : decode b_CO_codeRead 43 = .ok (.iload_n 1, 1) := bz_c27 (by decide +kernel)
theorem d_CO_codeRead_44 : decode b_CO_codeRead 44 = .ok (.iaload, 1) := bz_c46 (by decide +kernel)
theorem d_CO_codeRead_45 : decode b_CO_codeRead 45 = .ok (.invokevirtual 158, 3) := bz_c182 (by decide +kernel)
theorem d_CO_codeRead_48 : decode b_CO_codeRead 48 = .ok (.istore 4, 2) := bz_c54 (by decide +kernel)
theorem d_CO_codeRead_50 : decode b_CO_codeRead 50 = .ok (.iload_n 3, 1) := bz_c29 (by decide +kernel)
theorem d_CO_codeRead_51 : decode b_CO_codeRead 51 = .ok (.ifCond .lt 45, 3) := bz_c155 (by decide +kernel)
theorem d_CO_codeRead_54 : decode b_CO_codeRead 54 = .ok (.aload_n 0, 1) := bz_c42 (by decide +kernel)
theorem d_CO_codeRead_55 : decode b_CO_codeRead 55 = .ok (.getfield 26, 3) := bz_c180 (by decide +kernel)
theorem d_CO_codeRead_58 : decode b_CO_codeRead 58 = .ok (.bipush 32, 2) := bz_c16 (by decide +kernel)
theorem d_CO_codeRead_60 : decode b_CO_codeRead 60 = .ok (.invokevirtual 76, 3) := bz_c182 (by decide +kernel)
theorem d_CO_codeRead_63 : decode b_CO_codeRead 63 = .ok (.aload_n 0, 1) := bz_c42 (by decide +kernel)
theorem d_CO_codeRead_64 : decode b_CO_codeRead 64 = .ok (.getfield 26, 3) := bz_c180 (by decide +kernel)
theorem d_CO_codeRead_67 : decode b_CO_codeRead 67 = .ok (.aload_n 0, 1) := bz_c42 (by decide +kernel)
theorem d_CO_codeRead_68 : decode b_CO_codeRead 68 = .ok (.getfield 54, 3) := bz_c180 (by decide +kernel)
theorem d_CO_codeRead_71 : decode b_CO_codeRead 71 = .ok (.getfield 217, 3) := bz_c180 (by decide +kernel)
theorem d_CO_codeRead_74 : decode b_CO_codeRead 74 = .ok (.iload_n 3, 1) := bz_c29 (by decide +kernel)
theorem d_CO_codeRead_75 : decode b_CO_codeRead 75 = .ok (.laload, 1) := bz_c47 (by decide +kernel)
theorem d_CO_codeRead_76 : decode b_CO_codeRead 76 = .ok (.l2i, 1) := bz_c136 (by decide +kernel)
theorem d_CO_codeRead_77 : decode b_CO_codeRead 77 = .ok (.invokevirtual 218, 3) := bz_c182 (by decide +kernel)
theorem d_CO_codeRead_80 : decode b_CO_codeRead 80 = .ok (.aload_n 0, 1) := bz_c42 (by decide +kernel)
theorem d_CO_codeRead_81 : decode b_CO_codeRead 81 = .ok (.aload_n 0, 1) := bz_c42 (by decide +kernel)
theorem d_CO_codeRead_82 : decode b_CO_codeRead 82 = .ok (.getfield 54, 3) := bz_c180 (by decide +kernel)
theorem d_CO_codeRead_85 : decode b_CO_codeRead 85 = .ok (.getfield 121, 3) := bz_c180 (by decide +kernel)
theorem d_CO_codeRead_88 : decode b_CO_codeRead 88 = .ok (.iload_n 3, 1) := bz_c29 (by decide +kernel)
theorem d_CO_codeRead_89 : decode b_CO_codeRead 89 = .ok (.iaload, 1) := bz_c46 (by decide +kernel)
theorem d_CO_codeRead_90 : decode b_CO_codeRead 90 = .ok (.invokevirtual 183, 3) := bz_c182 (by decide +kernel)
theorem d_CO_codeRead_93 : decode b_CO_codeRead 93 = .ok (.goto 55, 3) := bz_c167 (by decide +kernel)
theorem d_CO_codeRead_96 : decode b_CO_codeRead 96 = .ok (.iload 4, 2) := bz_c21 (by decide +kernel)
theorem d_CO_codeRead_98 : decode b_CO_codeRead 98 = .ok (.ifCond .lt 41, 3) := bz_c155 (by decide +kernel)
theorem d_CO_codeRead_101 : decode b_CO_codeRead 101 = .ok (.aload_n 0, 1) := bz_c42 (by decide +kernel)
theorem d_CO_codeRead_102 : decode b_CO_codeRead 102 = .ok (.getfield 26, 3) := bz_c180 (by decide +kernel)
theorem d_CO_codeRead_105 : decode b_CO_codeRead 105 = .ok (.bipush 35, 2) := bz_c16 (by decide +kernel)
theorem d_CO_codeRead_107 : decode b_CO_codeRead 107 = .ok (.invokevirtual 76, 3) := bz_c182 (by decide +kernel)
theorem d_CO_codeRead_110 : decode b_CO_codeRead 110 = .ok (.aload_n 0, 1) := bz_c42 (by decide +kernel)
theorem d_CO_codeRead_111 : decode b_CO_codeRead 111 = .ok (.getfield 26, 3) := bz_c180 (by decide +kernel)
theorem d_CO_codeRead_114 : decode b_CO_codeRead 114 = .ok (.iload 4, 2) := bz_c21 (by decide +kernel)
theorem d_CO_codeRead_116 : decode b_CO_codeRead 116 = .ok (.invokevirtual 218, 3) := bz_c182 (by decide +kernel)
theorem d_CO_codeRead_119 : decode b_CO_codeRead 119 = .ok (.aload_n 0, 1) := bz_c42 (by decide +kernel)
theorem d_CO_codeRead_120 : decode b_CO_codeRead 120 = .ok (.aload_n 0, 1) := bz_c42 (by decide +kernel)
theorem d_CO_codeRead_121 : decode b_CO_codeRead 121 = .ok (.getfield 36, 3) := bz_c180 (by decide +kernel)
theorem d_CO_codeRead_124 : decode b_CO_codeRead 124 = .ok (.getfield 42, 3) := bz_c180 (by decide +kernel)
theorem d_CO_codeRead_127 : decode b_CO_codeRead 127 = .ok (.getfield 121, 3) := bz_c180 (by decide +kernel)
theorem d_CO_codeRead_130 : decode b_CO_codeRead 130 = .ok (.iload 4, 2) := bz_c21 (by decide +kernel)
theorem d_CO_codeRead_132 : decode b_CO_codeRead 132 = .ok (.iaload, 1) := bz_c46 (by decide +kernel)
theorem d_CO_codeRead_133 : decode b_CO_codeRead 133 = .ok (.invokevirtual 183, 3) := bz_c182 (by decide +kernel)
theorem d_CO_codeRead_136 : decode b_CO_codeRead 136 = .ok (.goto 12, 3) := bz_c167 (by decide +kernel)
theorem d_CO_codeRead_139 : decode b_CO_codeRead 139 = .ok (.aload_n 0, 1) := bz_c42 (by decide +kernel)
theorem d_CO_codeRead_140 : decode b_CO_codeRead 140 = .ok (.getfield 36, 3) := bz_c180 (by decide +kernel)
theorem d_CO_codeRead_143 : decode b_CO_codeRead 143 = .ok (.iconst 2, 1) := bz_c5 (by decide +kernel)
theorem d_CO_codeRead_144 : decode b_CO_codeRead 144 = .ok (.iload_n 2, 1) := bz_c28 (by decide +kernel)
theorem d_CO_codeRead_145 : decode b_CO_codeRead 145 = .ok (.invokevirtual 105, 3) := bz_c182 (by decide +kernel)
theorem d_CO_codeRead_148 : decode b_CO_codeRead 148 = .ok (.return_, 1) := bz_c177 (by decide +kernel)
theorem kM_CO_218 : Cond.methodLink R_CO 218 y_BR_putUnsigned ∈ lw_g := in_c5 166 rfl rfl
theorem kV_BR_putUnsigned : Cond.instanceMethod y_BR_putUnsigned ∈ lw_g := in_c5 167 rfl rfl
theorem kS_BR_putUnsigned : Cond.selects R_BR y_BR_putUnsigned y_BR_putUnsigned ∈ lw_g := in_c5 168 rfl rfl
theorem kF_CO_193 : Cond.fieldLink R_CO 193 "WaferForge$Program" "places" "[I" ∈ lw_g := in_c2 115 rfl rfl
theorem kF_CO_216 : Cond.fieldLink R_CO 216 "WaferForge$Program" "sizes" "[I" ∈ lw_g := in_c2 117 rfl rfl
theorem kF_CO_42 : Cond.fieldLink R_CO 42 "WaferForge$Program" "globals" "LWaferForge$Names;" ∈ lw_g := in_c2 100 rfl rfl
theorem kF_CO_121 : Cond.fieldLink R_CO 121 "WaferForge$Names" "types" "[I" ∈ lw_g := in_c2 81 rfl rfl
theorem kF_CO_217 : Cond.fieldLink R_CO 217 "WaferForge$Names" "values" "[J" ∈ lw_g := in_c2 83 rfl rfl
abbrev at_CO_codeRead (dC : Nat → ClassId) (dI : Nat → Nat → Nat) (sa : Nat → Nat) (h0 pr kn lt pe to bo cs se gl fu pa pf sf pk pg pp pz pv pr_scanner_r pr_waiting_r pr_waitingPlaces_r bob tr kns knz knt knv tx gls glz glt glv : Nat) (cpe cbob ckns cknz cknt cknv ctx cpp cpz cgls cglz cglt : ClassId) (h0_localCount : Int32) (h0_gives : Int32) (h0_depth : Int32) (h0_loopDepth : Int32) (pr_stepCount : Int32) (pr_open : Int32) (pr_twoSides : Int32) (pr_waitingCount : Int32) (kn_length : Int32) (gkns : Nat → Int32) (gknz : Nat → Int32) (gknt : Nat → Int32) (gknv : Nat → Int64) (tr_length : Int32) (gtx : Nat → Int32) (gpp : Nat → Int32) (gpz : Nat → Int32) (gl_length : Int32) (ggls : Nat → Int32) (gglz : Nat → Int32) (gglt : Nat → Int32) (A : Nat → Prop) (u : (Nat → Int32) × (Nat → Int32) × Int32 × Int32 × Int32 × Int32) (t : State) : Prop := match u with | (gbob, gpe, bo_length, h0_pendingCount, pr_place, pr_reason) => va_P (dC, dI) cls (wz_167 h0 pr kn lt h0_localCount pe h0_pendingCount h0_gives h0_depth h0_loopDepth to bo cs se pr gl fu pa pf sf pk pg pp pz pv pr_reason pr_place pr_scanner_r pr_stepCount pr_open pr_twoSides pr_waiting_r pr_waitingPlaces_r pr_waitingCount pe cpe gpe bo bob bo_length bob cbob gbob kn tr kns knz knt knv kn_length kns ckns gkns knz cknz gknz knt cknt gknt knv cknv gknv tr tx tr_length tx ctx gtx pp cpp gpp pz cpz gpz gl tr gls glz glt glv gl_length gls cgls ggls glz cglz gglz glt cglt gglt) t.heap ∧ va_K (dC, dI) cls [(cpe, .int), (cbob, .byte), (ckns, .int), (cknz, .int), (cknt, .int), (cknv, .long), (ctx, .byte), (cpp, .int), (cpz, .int), (cgls, .int), (cglz, .int), (cglt, .int)] t ∧ va_D A (wz_167 h0 pr kn lt h0_localCount pe h0_pendingCount h0_gives h0_depth h0_loopDepth to bo cs se pr gl fu pa pf sf pk pg pp pz pv pr_reason pr_place pr_scanner_r pr_stepCount pr_open pr_twoSides pr_waiting_r pr_waitingPlaces_r pr_waitingCount pe cpe gpe bo bob bo_length bob cbob gbob kn tr kns knz knt knv kn_length kns ckns gkns knz cknz gknz knt cknt gknt knv cknv gknv tr tx tr_length tx ctx gtx pp cpp gpp pz cpz gpz gl tr gls glz glt glv gl_length gls cgls ggls glz cglz gglz glt cglt gglt)
set_option maxHeartbeats 4000000 in
set_option maxRecDepth 100000 in
theorem c_CO_codeRead (l : Launch) (hlt : l.stackTraces = false) (dC : Nat → ClassId) (dI : Nat → Nat → Nat) (sz : Nat) (sa : Nat → Nat) (h0 pr kn lt pe to bo cs se gl fu pa pf sf pk pg pp pz pv pr_scanner_r pr_waiting_r pr_waitingPlaces_r bob tr kns knz knt knv tx gls glz glt glv : Nat) (cpe cbob ckns cknz cknt cknv ctx cpp cpz cgls cglz cglt : ClassId) (h0_localCount : Int32) (h0_pendingCount : Int32) (h0_gives : Int32) (h0_depth : Int32) (h0_loopDepth : Int32) (pr_reason : Int32) (pr_place : Int32) (pr_stepCount : Int32) (pr_open : Int32) (pr_twoSides : Int32) (pr_waitingCount : Int32) (gpe : Nat → Int32) (bo_length : Int32) (gbob : Nat → Int32) (kn_length : Int32) (gkns : Nat → Int32) (gknz : Nat → Int32) (gknt : Nat → Int32) (gknv : Nat → Int64) (tr_length : Int32) (gtx : Nat → Int32) (gpp : Nat → Int32) (gpz : Nat → Int32) (gl_length : Int32) (ggls : Nat → Int32) (gglz : Nat → Int32) (gglt : Nat → Int32)  (b_h0_localCount : 0 ≤ h0_localCount.toInt ∧ h0_localCount.toInt ≤ 50) (b_h0_pendingCount : 0 ≤ h0_pendingCount.toInt ∧ h0_pendingCount.toInt ≤ 680) (b_bo_length : 0 ≤ bo_length.toInt ∧ bo_length.toInt ≤ 8192) (b_kn_length : 0 ≤ kn_length.toInt ∧ kn_length.toInt ≤ 50) (b_tr_length : 0 ≤ tr_length.toInt ∧ tr_length.toInt ≤ 2000) (b_gl_length : 0 ≤ gl_length.toInt ∧ gl_length.toInt ≤ 20) (p0 : Int32)  (hi : 0 ≤ p0.toInt ∧ p0.toInt < 4100) (hz : 0 ≤ (gpz p0.toNatClampNeg).toInt) (hkq : kq kn_length.toInt gknt gknv h0_localCount.toInt) (hgq : gq gl_length.toInt gglt) (hpc : h0_pendingCount.toInt < 680) (hbo : bo_length.toInt + 7 ≤ 8192) : tz_Met l y_CO_codeRead w_CO_codeRead ({ frames := 7, cells := 1, slots := 6, locals := 112 }) (va_Pc [.ref h0, .int p0] (fun U => U.heap.size = sz ∧ va_P (dC, dI) cls (wz_167 h0 pr kn lt h0_localCount pe h0_pendingCount h0_gives h0_depth h0_loopDepth to bo cs se pr gl fu pa pf sf pk pg pp pz pv pr_reason pr_place pr_scanner_r pr_stepCount pr_open pr_twoSides pr_waiting_r pr_waitingPlaces_r pr_waitingCount pe cpe gpe bo bob bo_length bob cbob gbob kn tr kns knz knt knv kn_length kns ckns gkns knz cknz gknz knt cknt gknt knv cknv gknv tr tx tr_length tx ctx gtx pp cpp gpp pz cpz gpz gl tr gls glz glt glv gl_length gls cgls ggls glz cglz gglz glt cglt gglt) U.heap ∧ va_K (dC, dI) cls [(cpe, .int), (cbob, .byte), (ckns, .int), (cknz, .int), (cknt, .int), (cknv, .long), (ctx, .byte), (cpp, .int), (cpz, .int), (cgls, .int), (cglz, .int), (cglt, .int)] U ∧ va_D (fun _ => True) (wz_167 h0 pr kn lt h0_localCount pe h0_pendingCount h0_gives h0_depth h0_loopDepth to bo cs se pr gl fu pa pf sf pk pg pp pz pv pr_reason pr_place pr_scanner_r pr_stepCount pr_open pr_twoSides pr_waiting_r pr_waitingPlaces_r pr_waitingCount pe cpe gpe bo bob bo_length bob cbob gbob kn tr kns knz knt knv kn_length kns ckns gkns knz cknz gknz knt cknt gknt knv cknv gknv tr tx tr_length tx ctx gtx pp cpp gpp pz cpz gpz gl tr gls glz glt glv gl_length gls cgls ggls glz cglz gglz glt cglt gglt) ∧ sw sa (va_A (wz_167 h0 pr kn lt h0_localCount pe h0_pendingCount h0_gives h0_depth h0_loopDepth to bo cs se pr gl fu pa pf sf pk pg pp pz pv pr_reason pr_place pr_scanner_r pr_stepCount pr_open pr_twoSides pr_waiting_r pr_waitingPlaces_r pr_waitingCount pe cpe gpe bo bob bo_length bob cbob gbob kn tr kns knz knt knv kn_length kns ckns gkns knz cknz gknz knt cknt gknt knv cknv gknv tr tx tr_length tx ctx gtx pp cpp gpp pz cpz gpz gl tr gls glz glt glv gl_length gls cgls ggls glz cglz gglz glt cglt gglt) sz) U U.heap)) (tq_Q (tq_v (fun (u : (Nat → Int32) × (Nat → Int32) × Int32 × Int32 × Int32 × Int32) => match u with | (gbob2, gpe2, bo_length2, h0_pendingCount2, pr_place2, pr_reason2) => (0 ≤ bo_length2.toInt ∧ bo_length2.toInt ≤ 8192) ∧ (0 ≤ h0_pendingCount2.toInt ∧ h0_pendingCount2.toInt ≤ 680) ∧ (h0_pendingCount2.toInt = h0_pendingCount.toInt + 1 ∧ ∃ (y : Int32) (op v : Int), gpe2 = upd gpe h0_pendingCount.toNatClampNeg y ∧ (y.toInt = 127 ∨ y.toInt = 126) ∧ ((op = 32 ∧ 0 ≤ v ∧ v < h0_localCount.toInt) ∨ (op = 35 ∧ 0 ≤ v ∧ v < gl_length.toInt)) ∧ bo_length2.toInt = bo_length.toInt + 2 ∧ bl gbob2 bo_length2.toNatClampNeg = bl gbob bo_length.toNatClampNeg ++ [op.toNat, v.toNat])) "java/lang/UnsupportedOperationException" (fun (u : (Nat → Int32) × (Nat → Int32) × Int32 × Int32 × Int32 × Int32) => match u with | (gbob2, gpe2, bo_length2, h0_pendingCount2, pr_place2, pr_reason2) => (0 ≤ bo_length2.toInt ∧ bo_length2.toInt ≤ 8192) ∧ (0 ≤ h0_pendingCount2.toInt ∧ h0_pendingCount2.toInt ≤ 680))) (at_CO_codeRead dC dI sa h0 pr kn lt pe to bo cs se gl fu pa pf sf pk pg pp pz pv pr_scanner_r pr_waiting_r pr_waitingPlaces_r bob tr kns knz knt knv tx gls glz glt glv cpe cbob ckns cknz cknt cknv ctx cpp cpz cgls cglz cglt h0_localCount h0_gives h0_depth h0_loopDepth pr_stepCount pr_open pr_twoSides pr_waitingCount kn_length gkns gknz gknt gknv tr_length gtx gpp gpz gl_length ggls gglz gglt (va_A (wz_167 h0 pr kn lt h0_localCount pe h0_pendingCount h0_gives h0_depth h0_loopDepth to bo cs se pr gl fu pa pf sf pk pg pp pz pv pr_reason pr_place pr_scanner_r pr_stepCount pr_open pr_twoSides pr_waiting_r pr_waitingPlaces_r pr_waitingCount pe cpe gpe bo bob bo_length bob cbob gbob kn tr kns knz knt knv kn_length kns ckns gkns knz cknz gknz knt cknt gknt knv cknv gknv tr tx tr_length tx ctx gtx pp cpp gpp pz cpz gpz gl tr gls glz glt glv gl_length gls cgls ggls glz cglz gglz glt cglt gglt) sz)) (va_A (wz_167 h0 pr kn lt h0_localCount pe h0_pendingCount h0_gives h0_depth h0_loopDepth to bo cs se pr gl fu pa pf sf pk pg pp pz pv pr_reason pr_place pr_scanner_r pr_stepCount pr_open pr_twoSides pr_waiting_r pr_waitingPlaces_r pr_waitingCount pe cpe gpe bo bob bo_length bob cbob gbob kn tr kns knz knt knv kn_length kns ckns gkns knz cknz gknz knt cknt gknt knv cknv gknv tr tx tr_length tx ctx gtx pp cpp gpp pz cpz gpz gl tr gls glz glt glv gl_length gls cgls ggls glz cglz gglz glt cglt gglt) sz)) (tz_k 0 0 1 6) (va_A (wz_167 h0 pr kn lt h0_localCount pe h0_pendingCount h0_gives h0_depth h0_loopDepth to bo cs se pr gl fu pa pf sf pk pg pp pz pv pr_reason pr_place pr_scanner_r pr_stepCount pr_open pr_twoSides pr_waiting_r pr_waitingPlaces_r pr_waitingCount pe cpe gpe bo bob bo_length bob cbob gbob kn tr kns knz knt knv kn_length kns ckns gkns knz cknz gknz knt cknt gknt knv cknv gknv tr tx tr_length tx ctx gtx pp cpp gpp pz cpz gpz gl tr gls glz glt glv gl_length gls cgls ggls glz cglz gglz glt cglt gglt) sz) := by
  refine tz_ofW (cc := b_CO_codeRead) (maxL := 5) (ret := none) (by decide) rfl ?_
  intro p e s m args below meth c s₁ B hml hno hv
  obtain ⟨rfl, hsz, hP, hK, hD0, hSW⟩ := hv
  have hx := B.exec
  have hb := B.bytes
  have hr := B.returns
  have hts0 := atoms_spec (ws := w_CO_codeRead) B.pre
  have hts : ∀ w ∈ lw_g, w.before _ s = true := fun w h => hts0 w (List.mem_cons_of_mem _ h)
  have hown : s.vm.findClass R_CO = some m.cls := findClass_of_methodNamed B.named
  have hlocks := B.notSynchronized
  clear hts0
  subst hsz
  have hD := hD0.self (sz := s.heap.size)
  generalize hAe : va_A (wz_167 h0 pr kn lt h0_localCount pe h0_pendingCount h0_gives h0_depth h0_loopDepth to bo cs se pr gl fu pa pf sf pk pg pp pz pv pr_reason pr_place pr_scanner_r pr_stepCount pr_open pr_twoSides pr_waiting_r pr_waitingPlaces_r pr_waitingCount pe cpe gpe bo bob bo_length bob cbob gbob kn tr kns knz knt knv kn_length kns ckns gkns knz cknz gknz knt cknt gknt knv cknv gknv tr tx tr_length tx ctx gtx pp cpp gpp pz cpz gpz gl tr gls glz glt glv gl_length gls cgls ggls glz cglz gglz glt cglt gglt) s.heap.size = A at hD hSW ⊢
  have hA : ∀ q : Nat, s.heap.size ≤ q → A q := fun q h => by rw [← hAe]; exact Or.inr h
  clear hAe
  have hP : va_P (dC, dI) cls (wz_167 h0 pr kn lt h0_localCount pe h0_pendingCount h0_gives h0_depth h0_loopDepth to bo cs se pr gl fu pa pf sf pk pg pp pz pv pr_reason pr_place pr_scanner_r pr_stepCount pr_open pr_twoSides pr_waiting_r pr_waitingPlaces_r pr_waitingCount pe cpe gpe bo bob bo_length bob cbob gbob kn tr kns knz knt knv kn_length kns ckns gkns knz cknz gknz knt cknt gknt knv cknv gknv tr tx tr_length tx ctx gtx pp cpp gpp pz cpz gpz gl tr gls glz glt glv gl_length gls cgls ggls glz cglz gglz glt cglt gglt) s.heap := hP
  have hl := lv_entry ([.ref h0, .int p0]) (n := 5) (Nat.le_of_ble_eq_true rfl)
  rw [lg_entry_eq]
  generalize (lg_sl ([.ref h0, .int p0]) ++ List.replicate (5 - (lg_sl ([.ref h0, .int p0])).length) Slot.unset).toArray = ls at hl ⊢
  have hl : lv_has ls 5 [(0, .ref h0), (1, .int p0)] := hl
  have k0 : (0 : Int32).toInt = 0 := by decide
  refine w_gen (A := A) hP (fun H locs hP hS => ?_)
  have k2 : (2 : Int32).toInt = 2 := by decide
  have k32 : (32 : Int32).toInt = 32 := by decide
  have k35 : (35 : Int32).toInt = 35 := by decide
  have lo_p0 := i32_lo p0
  have hi_p0 := i32_hi p0
  refine lv_aload_n hx hb d_CO_codeRead_0 rfl (lv_at hl 0 rfl) ?_
  refine va_get (D := (dC, dI)) (ci := 2) (v := .ref pr) (C := R_CO) (T := F_CO) (N := 13) hx hb hts i_CO hown hK hP 0 rfl rfl 0 (by decide) (hts _ kF_CO_36) (fun _ h9 => h9) rfl d_CO_codeRead_1 ?_
  refine va_get (D := (dC, dI)) (ci := 6) (v := .ref pp) (C := R_PR) (T := F_PR) (N := 19) hx hb hts i_PR hown hK hP 1 rfl rfl 7 (by decide) (hts _ kF_CO_193) (fun _ h9 => h9) rfl d_CO_codeRead_4 ?_
  refine lv_iload_n hx hb d_CO_codeRead_7 rfl (lv_at hl 1 rfl) ?_
  have g8 : vp_in p0 4100 := vp_in_iff.mpr ⟨by (first | (apply Int.le_antisymm <;> omega) | omega), by (first | (apply Int.le_antisymm <;> omega) | omega)⟩
  refine va_iald hx hb hK hP 12 7 rfl rfl g8 d_CO_codeRead_8 ?_
  refine lv_topi (fun x1 ex1 => ?_)
  refine lv_istore_n (lv' := [(2, .int x1), (0, .ref h0), (1, .int p0)]) hx hb d_CO_codeRead_9 rfl hl (by decide) rfl (fun ls hl => ?_)
  refine lv_aload_n hx hb d_CO_codeRead_10 rfl (lv_at hl 1 rfl) ?_
  refine va_get (D := (dC, dI)) (ci := 2) (v := .ref kn) (C := R_CO) (T := F_CO) (N := 13) hx hb hts i_CO hown hK hP 0 rfl rfl 1 (by decide) (hts _ kF_CO_54) (fun _ h9 => h9) rfl d_CO_codeRead_11 ?_
  refine lv_iload_n hx hb d_CO_codeRead_14 rfl (lv_at hl 0 rfl) ?_
  refine lv_aload_n hx hb d_CO_codeRead_15 rfl (lv_at hl 1 rfl) ?_
  refine va_get (D := (dC, dI)) (ci := 2) (v := .ref pr) (C := R_CO) (T := F_CO) (N := 13) hx hb hts i_CO hown hK hP 0 rfl rfl 0 (by decide) (hts _ kF_CO_36) (fun _ h9 => h9) rfl d_CO_codeRead_16 ?_
  refine va_get (D := (dC, dI)) (ci := 6) (v := .ref pz) (C := R_PR) (T := F_PR) (N := 19) hx hb hts i_PR hown hK hP 1 rfl rfl 8 (by decide) (hts _ kF_CO_216) (fun _ h9 => h9) rfl d_CO_codeRead_19 ?_
  refine lv_iload_n hx hb d_CO_codeRead_22 rfl (lv_at hl 2 rfl) ?_
  have g23 : vp_in p0 4100 := vp_in_iff.mpr ⟨by (first | (apply Int.le_antisymm <;> omega) | omega), by (first | (apply Int.le_antisymm <;> omega) | omega)⟩
  refine va_iald hx hb hK hP 13 8 rfl rfl g23 d_CO_codeRead_23 ?_
  refine lv_topi (fun x2 ex2 => ?_)
  have tx2 := hz
  rw [← ex2] at tx2
  have hPc := hP.sb (wq := (wz_151 kn tr kns knz knt knv kn_length tr tx tr_length tx ctx gtx kns ckns gkns knz cknz gknz)) [5, 10, 11, 6, 7] rfl
  have hDc := hD.sb (wq := (wz_151 kn tr kns knz knt knv kn_length tr tx tr_length tx ctx gtx kns ckns gkns knz cknz gknz)) [5, 10, 11, 6, 7] (by decide) rfl
  have hKc := hK.sb (tyq := [(ctx, .byte), (ckns, .int), (cknz, .int)]) [6, 2, 3] rfl
  have hFc := va_free (wc := (wz_151 kn tr kns knz knt knv kn_length tr tx tr_length tx ctx gtx kns ckns gkns knz cknz gknz)) hD hS hA [5, 10, 11, 6, 7] rfl
  refine va_calli (va_runV (As := [.int x1, .int x2]) (rest := []) ⟨hx, hb, hml, hown, hts⟩ (c_NA_indexOf l dC dI H.size kn tr kns knz knt knv tx ctx ckns cknz kn_length tr_length gtx 50 gkns gknz (b_tr_length) x1 x2 (by (first | (apply Int.le_antisymm <;> omega) | omega)) (by (first | (apply Int.le_antisymm <;> omega) | omega))) (cwV 2 hts (gV kM_CO_158 kV_NA_indexOf kS_NA_indexOf kI_NA kC_NA_indexOf) rfl rfl rfl (by decide +kernel) ⟨Nat.le_of_ble_eq_true rfl, Nat.le_of_ble_eq_true rfl⟩) ⟨fun a U g mk z => by obtain ⟨z0, z1, zP, zK, zD⟩ := z; exact ⟨z0, z1, zP, va_K.moved (u := U) (U := U.calling g mk a) (Vm.Alike.refl U.vm) zK, zD⟩, va_recv hKc hPc (ci := 5) (q0 := 0) rfl rfl, fun U hU hW => ⟨rfl, by rw [hU], va_P.he hU.symm hPc, va_K.moved hW.alike hKc, hDc.weaken (fun _ _ _ _ => trivial)⟩⟩ rfl rfl hl.1 rfl (lv_room (Nat.le_of_ble_eq_true rfl)) d_CO_codeRead_24 ⟨(Nat.zero_le _), (Nat.zero_le _)⟩) hS (fun q _ h => hFc q h) hFc (fun r3 u t H1 locs ht hvm hw hB hz1 hk1 hS => ?_)
  try dsimp only at hw
  have xr3 := hw
  try clear hw
  obtain ⟨hP1, hK1, hD1⟩ := hB
  replace hP1 := va_P.he ht hP1
  obtain ⟨hP, hD⟩ := va_join (wr := [(h0, .inr (2, [.ref pr, .ref kn, .ref lt, .int h0_localCount, .ref pe, .int h0_pendingCount, .int h0_gives, .int h0_depth, .int h0_loopDepth, .ref to, .ref bo, .ref cs, .ref se])), (pr, .inr (6, [.ref gl, .ref fu, .ref pa, .ref pf, .ref sf, .ref pk, .ref pg, .ref pp, .ref pz, .ref pv, .int pr_reason, .int pr_place, .ref pr_scanner_r, .int pr_stepCount, .int pr_open, .int pr_twoSides, .ref pr_waiting_r, .ref pr_waitingPlaces_r, .int pr_waitingCount])), (pe, .inl (cpe, 680, .inl gpe)), (bo, .inr (1, [.ref bob, .int bo_length])), (bob, .inl (cbob, 8192, .inl gbob)), (knt, .inl (cknt, 50, .inl gknt)), (knv, .inl (cknv, 50, .inr (.inl gknv))), (pp, .inl (cpp, 4100, .inl gpp)), (pz, .inl (cpz, 4100, .inl gpz)), (gl, .inr (5, [.ref tr, .ref gls, .ref glz, .ref glt, .ref glv, .int gl_length])), (gls, .inl (cgls, 20, .inl ggls)), (glz, .inl (cglz, 20, .inl gglz)), (glt, .inl (cglt, 20, .inl gglt))]) (w1 := (wz_151 kn tr kns knz knt knv kn_length tr tx tr_length tx ctx gtx kns ckns gkns knz cknz gknz)) hP hD [5, 10, 11, 6, 7] [0, 1, 2, 3, 4, 8, 9, 12, 13, 14, 15, 16, 17] rfl rfl (by decide) (by decide) hk1 hFc hP1 hD1
  clear hPc hDc hKc hFc hz1 hk1 hP1 hK1 hD1
  rename Heap => H
  have hP : va_P (dC, dI) cls (wz_168 h0 pr kn lt h0_localCount pe h0_pendingCount h0_gives h0_depth h0_loopDepth to bo cs se pr gl fu pa pf sf pk pg pp pz pv pr_reason pr_place pr_scanner_r pr_stepCount pr_open pr_twoSides pr_waiting_r pr_waitingPlaces_r pr_waitingCount pe cpe gpe bo bob bo_length bob cbob gbob knt cknt gknt knv cknv gknv pp cpp gpp pz cpz gpz gl tr gls glz glt glv gl_length gls cgls ggls glz cglz gglz glt cglt gglt kn tr kns knz knt knv kn_length tr tx tr_length tx ctx gtx kns ckns gkns knz cknz gknz) H := hP
  have hD : va_D A (wz_168 h0 pr kn lt h0_localCount pe h0_pendingCount h0_gives h0_depth h0_loopDepth to bo cs se pr gl fu pa pf sf pk pg pp pz pv pr_reason pr_place pr_scanner_r pr_stepCount pr_open pr_twoSides pr_waiting_r pr_waitingPlaces_r pr_waitingCount pe cpe gpe bo bob bo_length bob cbob gbob knt cknt gknt knv cknv gknv pp cpp gpp pz cpz gpz gl tr gls glz glt glv gl_length gls cgls ggls glz cglz gglz glt cglt gglt kn tr kns knz knt knv kn_length tr tx tr_length tx ctx gtx kns ckns gkns knz cknz gknz) := hD
  refine lv_istore_n (lv' := [(3, .int r3), (2, .int x1), (0, .ref h0), (1, .int p0)]) hx hb d_CO_codeRead_27 rfl hl (by decide) rfl (fun ls hl => ?_)
  refine lv_aload_n hx hb d_CO_codeRead_28 rfl (lv_at hl 2 rfl) ?_
  refine va_get (D := (dC, dI)) (ci := 2) (v := .ref pr) (C := R_CO) (T := F_CO) (N := 13) hx hb hts i_CO hown hK hP 0 rfl rfl 0 (by decide) (hts _ kF_CO_36) (fun _ h9 => h9) rfl d_CO_codeRead_29 ?_
  refine va_get (D := (dC, dI)) (ci := 6) (v := .ref gl) (C := R_PR) (T := F_PR) (N := 19) hx hb hts i_PR hown hK hP 1 rfl rfl 0 (by decide) (hts _ kF_CO_42) (fun _ h9 => h9) rfl d_CO_codeRead_32 ?_
  refine lv_iload_n hx hb d_CO_codeRead_35 rfl (lv_at hl 1 rfl) ?_
  refine lv_aload_n hx hb d_CO_codeRead_36 rfl (lv_at hl 2 rfl) ?_
  refine va_get (D := (dC, dI)) (ci := 2) (v := .ref pr) (C := R_CO) (T := F_CO) (N := 13) hx hb hts i_CO hown hK hP 0 rfl rfl 0 (by decide) (hts _ kF_CO_36) (fun _ h9 => h9) rfl d_CO_codeRead_37 ?_
  refine va_get (D := (dC, dI)) (ci := 6) (v := .ref pz) (C := R_PR) (T := F_PR) (N := 19) hx hb hts i_PR hown hK hP 1 rfl rfl 8 (by decide) (hts _ kF_CO_216) (fun _ h9 => h9) rfl d_CO_codeRead_40 ?_
  refine lv_iload_n hx hb d_CO_codeRead_43 rfl (lv_at hl 3 rfl) ?_
  have g44 : vp_in p0 4100 := vp_in_iff.mpr ⟨by (first | (apply Int.le_antisymm <;> omega) | omega), by (first | (apply Int.le_antisymm <;> omega) | omega)⟩
  refine va_iald hx hb hK hP 8 8 rfl rfl g44 d_CO_codeRead_44 ?_
  refine lv_topi (fun x4 ex4 => ?_)
  have tx4 := hz
  rw [← ex4] at tx4
  have hPc := hP.sb (wq := (wz_166 gl tr gls glz glt glv gl_length tr tx tr_length tx ctx gtx gls cgls ggls glz cglz gglz)) [9, 14, 15, 10, 11] rfl
  have hDc := hD.sb (wq := (wz_166 gl tr gls glz glt glv gl_length tr tx tr_length tx ctx gtx gls cgls ggls glz cglz gglz)) [9, 14, 15, 10, 11] (by decide) rfl
  have hKc := hK.sb (tyq := [(ctx, .byte), (cgls, .int), (cglz, .int)]) [6, 9, 10] rfl
  have hFc := va_free (wc := (wz_166 gl tr gls glz glt glv gl_length tr tx tr_length tx ctx gtx gls cgls ggls glz cglz gglz)) hD hS hA [9, 14, 15, 10, 11] rfl
  refine va_calli (va_runV (As := [.int x1, .int x4]) (rest := []) ⟨hx, hb, hml, hown, hts⟩ (c_NA_indexOf l dC dI H.size gl tr gls glz glt glv tx ctx cgls cglz gl_length tr_length gtx 20 ggls gglz (b_tr_length) x1 x4 (by (first | (apply Int.le_antisymm <;> omega) | omega)) (by (first | (apply Int.le_antisymm <;> omega) | omega))) (cwV 2 hts (gV kM_CO_158 kV_NA_indexOf kS_NA_indexOf kI_NA kC_NA_indexOf) rfl rfl rfl (by decide +kernel) ⟨Nat.le_of_ble_eq_true rfl, Nat.le_of_ble_eq_true rfl⟩) ⟨fun a U g mk z => by obtain ⟨z0, z1, zP, zK, zD⟩ := z; exact ⟨z0, z1, zP, va_K.moved (u := U) (U := U.calling g mk a) (Vm.Alike.refl U.vm) zK, zD⟩, va_recv hKc hPc (ci := 5) (q0 := 0) rfl rfl, fun U hU hW => ⟨rfl, by rw [hU], va_P.he hU.symm hPc, va_K.moved hW.alike hKc, hDc.weaken (fun _ _ _ _ => trivial)⟩⟩ rfl rfl hl.1 rfl (lv_room (Nat.le_of_ble_eq_true rfl)) d_CO_codeRead_45 ⟨(Nat.zero_le _), (Nat.zero_le _)⟩) hS (fun q _ h => hFc q h) hFc (fun r5 u t H1 locs ht hvm hw hB hz1 hk1 hS => ?_)
  try dsimp only at hw
  have xr5 := hw
  try clear hw
  obtain ⟨hP1, hK1, hD1⟩ := hB
  replace hP1 := va_P.he ht hP1
  obtain ⟨hP, hD⟩ := va_join (wr := [(h0, .inr (2, [.ref pr, .ref kn, .ref lt, .int h0_localCount, .ref pe, .int h0_pendingCount, .int h0_gives, .int h0_depth, .int h0_loopDepth, .ref to, .ref bo, .ref cs, .ref se])), (pr, .inr (6, [.ref gl, .ref fu, .ref pa, .ref pf, .ref sf, .ref pk, .ref pg, .ref pp, .ref pz, .ref pv, .int pr_reason, .int pr_place, .ref pr_scanner_r, .int pr_stepCount, .int pr_open, .int pr_twoSides, .ref pr_waiting_r, .ref pr_waitingPlaces_r, .int pr_waitingCount])), (pe, .inl (cpe, 680, .inl gpe)), (bo, .inr (1, [.ref bob, .int bo_length])), (bob, .inl (cbob, 8192, .inl gbob)), (knt, .inl (cknt, 50, .inl gknt)), (knv, .inl (cknv, 50, .inr (.inl gknv))), (pp, .inl (cpp, 4100, .inl gpp)), (pz, .inl (cpz, 4100, .inl gpz)), (glt, .inl (cglt, 20, .inl gglt)), (kn, .inr (5, [.ref tr, .ref kns, .ref knz, .ref knt, .ref knv, .int kn_length])), (kns, .inl (ckns, 50, .inl gkns)), (knz, .inl (cknz, 50, .inl gknz))]) (w1 := (wz_166 gl tr gls glz glt glv gl_length tr tx tr_length tx ctx gtx gls cgls ggls glz cglz gglz)) hP hD [9, 14, 15, 10, 11] [0, 1, 2, 3, 4, 5, 6, 7, 8, 12, 13, 16, 17] rfl rfl (by decide) (by decide) hk1 hFc hP1 hD1
  clear hPc hDc hKc hFc hz1 hk1 hP1 hK1 hD1
  rename Heap => H
  have hP : va_P (dC, dI) cls (wz_169 h0 pr kn lt h0_localCount pe h0_pendingCount h0_gives h0_depth h0_loopDepth to bo cs se pr gl fu pa pf sf pk pg pp pz pv pr_reason pr_place pr_scanner_r pr_stepCount pr_open pr_twoSides pr_waiting_r pr_waitingPlaces_r pr_waitingCount pe cpe gpe bo bob bo_length bob cbob gbob knt cknt gknt knv cknv gknv pp cpp gpp pz cpz gpz glt cglt gglt kn tr kns knz knt knv kn_length kns ckns gkns knz cknz gknz gl tr gls glz glt glv gl_length tr tx tr_length tx ctx gtx gls cgls ggls glz cglz gglz) H := hP
  have hD : va_D A (wz_169 h0 pr kn lt h0_localCount pe h0_pendingCount h0_gives h0_depth h0_loopDepth to bo cs se pr gl fu pa pf sf pk pg pp pz pv pr_reason pr_place pr_scanner_r pr_stepCount pr_open pr_twoSides pr_waiting_r pr_waitingPlaces_r pr_waitingCount pe cpe gpe bo bob bo_length bob cbob gbob knt cknt gknt knv cknv gknv pp cpp gpp pz cpz gpz glt cglt gglt kn tr kns knz knt knv kn_length kns ckns gkns knz cknz gknz gl tr gls glz glt glv gl_length tr tx tr_length tx ctx gtx gls cgls ggls glz cglz gglz) := hD
  refine lv_istore (lv' := [(4, .int r5), (3, .int r3), (2, .int x1), (0, .ref h0), (1, .int p0)]) hx hb d_CO_codeRead_48 hl (by decide) rfl (fun ls hl => ?_)
  refine lv_iload_n hx hb d_CO_codeRead_50 rfl (lv_at hl 1 rfl) ?_
  refine lv_if_lt (tgt := 96) hx hb d_CO_codeRead_51 (by decide) (fun c51 => ?_) (fun c51 => ?_)
  · have q51 := ltI c51
    refine lv_iload hx hb d_CO_codeRead_96 (lv_at hl 0 rfl) ?_
    refine lv_if_lt (tgt := 139) hx hb d_CO_codeRead_98 (by decide) (fun c98 => ?_) (fun c98 => ?_)
    · have q98 := ltI c98
      refine lv_aload_n hx hb d_CO_codeRead_139 rfl (lv_at hl 3 rfl) ?_
      refine va_get (D := (dC, dI)) (ci := 2) (v := .ref pr) (C := R_CO) (T := F_CO) (N := 13) hx hb hts i_CO hown hK hP 0 rfl rfl 0 (by decide) (hts _ kF_CO_36) (fun _ h9 => h9) rfl d_CO_codeRead_140 ?_
      refine lv_iconst (v := 2) hx hb d_CO_codeRead_143 (by decide) ?_
      refine lv_iload_n hx hb d_CO_codeRead_144 rfl (lv_at hl 2 rfl) ?_
      have hPc := hP.sb (wq := (wz_110 pr gl fu pa pf sf pk pg pp pz pv pr_reason pr_place pr_scanner_r pr_stepCount pr_open pr_twoSides pr_waiting_r pr_waitingPlaces_r pr_waitingCount)) [1] rfl
      have hDc := hD.sb (wq := (wz_110 pr gl fu pa pf sf pk pg pp pz pv pr_reason pr_place pr_scanner_r pr_stepCount pr_open pr_twoSides pr_waiting_r pr_waitingPlaces_r pr_waitingCount)) [1] (by decide) rfl
      have hKc := hK.sb (tyq := []) [] rfl
      have hFc := va_free (wc := (wz_110 pr gl fu pa pf sf pk pg pp pz pv pr_reason pr_place pr_scanner_r pr_stepCount pr_open pr_twoSides pr_waiting_r pr_waitingPlaces_r pr_waitingCount)) hD hS hA [1] rfl
      refine tq_callv (tz_runV (As := [.int 2, .int x1]) (rest := []) ⟨hx, hb, hml, hown, hts⟩ (c_PR_refuse l hlt dC dI H.size sa pr gl fu pa pf sf pk pg pp pz pv pr_scanner_r pr_waiting_r pr_waitingPlaces_r pr_reason pr_place pr_stepCount pr_open pr_twoSides pr_waitingCount 2 x1) (cwV 2 hts (gV kM_CO_105 kV_PR_refuse kS_PR_refuse kI_PR kC_PR_refuse) rfl rfl rfl (by decide +kernel) ⟨Nat.le_of_ble_eq_true rfl, Nat.le_of_ble_eq_true rfl⟩) ⟨fun a U g mk z => by obtain ⟨z0, z1, zP, zK, zD, zS⟩ := z; exact ⟨z0, z1, zP, va_K.moved (u := U) (U := U.calling g mk a) (Vm.Alike.refl U.vm) zK, zD, sw.same (u := U) (U := U.calling g mk a) rfl zS⟩, va_recv hKc hPc (ci := 6) (q0 := 0) rfl rfl, fun U hU hW => ⟨rfl, by rw [hU], va_P.he hU.symm hPc, va_K.moved hW.alike hKc, hDc.weaken (fun _ _ _ _ => trivial), hSW.call hS hFc hW hU⟩⟩ rfl rfl hl.1 rfl (lv_room (Nat.le_of_ble_eq_true rfl)) d_CO_codeRead_145 ⟨Nat.le_of_ble_eq_true rfl, Nat.le_of_ble_eq_true rfl⟩) hS (fun q _ h => hFc q h) hFc (fun u t H1 locs ht hvm hw hB hz1 hk1 hS => ?_) (fun xx u t H1 locs ht hvm hw hXX hB hz1 hk1 hS => ?_)
      rotate_left
      · skip
        obtain ⟨n7, n8⟩ := u
        try dsimp only at hw
        obtain ⟨hP1, hK1, hD1⟩ := hB
        replace hP1 := va_P.he ht hP1
        obtain ⟨hP, hD⟩ := va_join (wr := [(h0, .inr (2, [.ref pr, .ref kn, .ref lt, .int h0_localCount, .ref pe, .int h0_pendingCount, .int h0_gives, .int h0_depth, .int h0_loopDepth, .ref to, .ref bo, .ref cs, .ref se])), (pe, .inl (cpe, 680, .inl gpe)), (bo, .inr (1, [.ref bob, .int bo_length])), (bob, .inl (cbob, 8192, .inl gbob)), (knt, .inl (cknt, 50, .inl gknt)), (knv, .inl (cknv, 50, .inr (.inl gknv))), (pp, .inl (cpp, 4100, .inl gpp)), (pz, .inl (cpz, 4100, .inl gpz)), (glt, .inl (cglt, 20, .inl gglt)), (kn, .inr (5, [.ref tr, .ref kns, .ref knz, .ref knt, .ref knv, .int kn_length])), (kns, .inl (ckns, 50, .inl gkns)), (knz, .inl (cknz, 50, .inl gknz)), (gl, .inr (5, [.ref tr, .ref gls, .ref glz, .ref glt, .ref glv, .int gl_length])), (tr, .inr (1, [.ref tx, .int tr_length])), (tx, .inl (ctx, 2000, .inl gtx)), (gls, .inl (cgls, 20, .inl ggls)), (glz, .inl (cglz, 20, .inl gglz))]) (w1 := (wz_110 pr gl fu pa pf sf pk pg pp pz pv n8 n7 pr_scanner_r pr_stepCount pr_open pr_twoSides pr_waiting_r pr_waitingPlaces_r pr_waitingCount)) hP hD [1] [0, 2, 3, 4, 5, 6, 7, 8, 9, 10, 11, 12, 13, 14, 15, 16, 17] rfl rfl (by decide) (by decide) hk1 hFc hP1 hD1
        have hP : va_P (dC, dI) cls [(h0, .inr (2, [.ref pr, .ref kn, .ref lt, .int h0_localCount, .ref pe, .int h0_pendingCount, .int h0_gives, .int h0_depth, .int h0_loopDepth, .ref to, .ref bo, .ref cs, .ref se])), (pe, .inl (cpe, 680, .inl gpe)), (bo, .inr (1, [.ref bob, .int bo_length])), (bob, .inl (cbob, 8192, .inl gbob)), (knt, .inl (cknt, 50, .inl gknt)), (knv, .inl (cknv, 50, .inr (.inl gknv))), (pp, .inl (cpp, 4100, .inl gpp)), (pz, .inl (cpz, 4100, .inl gpz)), (glt, .inl (cglt, 20, .inl gglt)), (kn, .inr (5, [.ref tr, .ref kns, .ref knz, .ref knt, .ref knv, .int kn_length])), (kns, .inl (ckns, 50, .inl gkns)), (knz, .inl (cknz, 50, .inl gknz)), (gl, .inr (5, [.ref tr, .ref gls, .ref glz, .ref glt, .ref glv, .int gl_length])), (tr, .inr (1, [.ref tx, .int tr_length])), (tx, .inl (ctx, 2000, .inl gtx)), (gls, .inl (cgls, 20, .inl ggls)), (glz, .inl (cglz, 20, .inl gglz)), (pr, .inr (6, [.ref gl, .ref fu, .ref pa, .ref pf, .ref sf, .ref pk, .ref pg, .ref pp, .ref pz, .ref pv, .int n8, .int n7, .ref pr_scanner_r, .int pr_stepCount, .int pr_open, .int pr_twoSides, .ref pr_waiting_r, .ref pr_waitingPlaces_r, .int pr_waitingCount]))] H1 := hP
        have hD : va_D A [(h0, .inr (2, [.ref pr, .ref kn, .ref lt, .int h0_localCount, .ref pe, .int h0_pendingCount, .int h0_gives, .int h0_depth, .int h0_loopDepth, .ref to, .ref bo, .ref cs, .ref se])), (pe, .inl (cpe, 680, .inl gpe)), (bo, .inr (1, [.ref bob, .int bo_length])), (bob, .inl (cbob, 8192, .inl gbob)), (knt, .inl (cknt, 50, .inl gknt)), (knv, .inl (cknv, 50, .inr (.inl gknv))), (pp, .inl (cpp, 4100, .inl gpp)), (pz, .inl (cpz, 4100, .inl gpz)), (glt, .inl (cglt, 20, .inl gglt)), (kn, .inr (5, [.ref tr, .ref kns, .ref knz, .ref knt, .ref knv, .int kn_length])), (kns, .inl (ckns, 50, .inl gkns)), (knz, .inl (cknz, 50, .inl gknz)), (gl, .inr (5, [.ref tr, .ref gls, .ref glz, .ref glt, .ref glv, .int gl_length])), (tr, .inr (1, [.ref tx, .int tr_length])), (tx, .inl (ctx, 2000, .inl gtx)), (gls, .inl (cgls, 20, .inl ggls)), (glz, .inl (cglz, 20, .inl gglz)), (pr, .inr (6, [.ref gl, .ref fu, .ref pa, .ref pf, .ref sf, .ref pk, .ref pg, .ref pp, .ref pz, .ref pv, .int n8, .int n7, .ref pr_scanner_r, .int pr_stepCount, .int pr_open, .int pr_twoSides, .ref pr_waiting_r, .ref pr_waitingPlaces_r, .int pr_waitingCount]))] := hD
        have hP9 := hP.sb (wq := (wz_167 h0 pr kn lt h0_localCount pe h0_pendingCount h0_gives h0_depth h0_loopDepth to bo cs se pr gl fu pa pf sf pk pg pp pz pv n8 n7 pr_scanner_r pr_stepCount pr_open pr_twoSides pr_waiting_r pr_waitingPlaces_r pr_waitingCount pe cpe gpe bo bob bo_length bob cbob gbob kn tr kns knz knt knv kn_length kns ckns gkns knz cknz gknz knt cknt gknt knv cknv gknv tr tx tr_length tx ctx gtx pp cpp gpp pz cpz gpz gl tr gls glz glt glv gl_length gls cgls ggls glz cglz gglz glt cglt gglt)) [0, 17, 1, 2, 3, 9, 10, 11, 4, 5, 13, 14, 6, 7, 12, 15, 16, 8] rfl
        have hD9 := hD.sb (wq := (wz_167 h0 pr kn lt h0_localCount pe h0_pendingCount h0_gives h0_depth h0_loopDepth to bo cs se pr gl fu pa pf sf pk pg pp pz pv n8 n7 pr_scanner_r pr_stepCount pr_open pr_twoSides pr_waiting_r pr_waitingPlaces_r pr_waitingCount pe cpe gpe bo bob bo_length bob cbob gbob kn tr kns knz knt knv kn_length kns ckns gkns knz cknz gknz knt cknt gknt knv cknv gknv tr tx tr_length tx ctx gtx pp cpp gpp pz cpz gpz gl tr gls glz glt glv gl_length gls cgls ggls glz cglz gglz glt cglt gglt)) [0, 17, 1, 2, 3, 9, 10, 11, 4, 5, 13, 14, 6, 7, 12, 15, 16, 8] (by decide) rfl
        exact tz_leave rfl hno hlocks (fun t ht hW => ⟨⟨(gbob, gpe, bo_length, h0_pendingCount, n7, n8), ⟨⟨b_bo_length, b_h0_pendingCount⟩, by rw [ht]; exact hXX.moved hW.alike⟩, va_P.he ht.symm hP9, va_K.moved hW.alike hK, hD9⟩, hS.F ht⟩) hS.2.2
      exact (show False from hw).elim
    · have q98 := nltI c98
      refine lv_aload_n hx hb d_CO_codeRead_101 rfl (lv_at hl 3 rfl) ?_
      refine va_get (D := (dC, dI)) (ci := 2) (v := .ref bo) (C := R_CO) (T := F_CO) (N := 13) hx hb hts i_CO hown hK hP 0 rfl rfl 10 (by decide) (hts _ kF_CO_26) (fun _ h9 => h9) rfl d_CO_codeRead_102 ?_
      refine lv_bipush (v := 35) hx hb d_CO_codeRead_105 (by decide) ?_
      have hPc := hP.sb (wq := (wz_94 bo bob bo_length bob cbob gbob)) [3, 4] rfl
      have hDc := hD.sb (wq := (wz_94 bo bob bo_length bob cbob gbob)) [3, 4] (by decide) rfl
      have hKc := hK.sb (tyq := [(cbob, .byte)]) [1] rfl
      have hFc := va_free (wc := (wz_94 bo bob bo_length bob cbob gbob)) hD hS hA [3, 4] rfl
      refine va_callv (va_runV (As := [.int 35]) (rest := []) ⟨hx, hb, hml, hown, hts⟩ (c_BR_put l dC dI bo bob H.size cbob 8192 bo_length gbob (by (first | (apply Int.le_antisymm <;> omega) | omega)) (by (first | (apply Int.le_antisymm <;> omega) | omega)) (by (first | (apply Int.le_antisymm <;> omega) | omega)) 35) (cwV 1 hts (gV kM_CO_76 kV_BR_put kS_BR_put kI_BR kC_BR_put) rfl rfl rfl (by decide +kernel) ⟨Nat.le_of_ble_eq_true rfl, Nat.le_of_ble_eq_true rfl⟩) ⟨fun a U g mk z => by obtain ⟨z0, z1, zP, zK, zD⟩ := z; exact ⟨z0, z1, zP, va_K.moved (u := U) (U := U.calling g mk a) (Vm.Alike.refl U.vm) zK, zD⟩, va_recv hKc hPc (ci := 1) (q0 := 0) rfl rfl, fun U hU hW => ⟨rfl, by rw [hU], va_P.he hU.symm hPc, va_K.moved hW.alike hKc, hDc.weaken (fun _ _ _ _ => trivial)⟩⟩ rfl rfl hl.1 rfl (lv_room (Nat.le_of_ble_eq_true rfl)) d_CO_codeRead_107 ⟨(Nat.zero_le _), (Nat.zero_le _)⟩) hS (fun q _ h => hFc q h) hFc (fun u t H1 locs ht hvm hw hB hz1 hk1 hS => ?_)
      obtain ⟨n10, f11⟩ := u
      try dsimp only at hw
      have tn10 := br_put_in (by (first | (apply Int.le_antisymm <;> omega) | omega)) (by (first | (apply Int.le_antisymm <;> omega) | omega)) (by (first | (apply Int.le_antisymm <;> omega) | omega)) hw
      have bn10 := br_put_bl (by (first | (apply Int.le_antisymm <;> omega) | omega)) (by (first | (apply Int.le_antisymm <;> omega) | omega)) (by (first | (apply Int.le_antisymm <;> omega) | omega)) hw
      obtain ⟨hP1, hK1, hD1⟩ := hB
      replace hP1 := va_P.he ht hP1
      obtain ⟨hP, hD⟩ := va_join (wr := (wz_170 h0 pr kn lt h0_localCount pe h0_pendingCount h0_gives h0_depth h0_loopDepth to bo cs se pr gl fu pa pf sf pk pg pp pz pv pr_reason pr_place pr_scanner_r pr_stepCount pr_open pr_twoSides pr_waiting_r pr_waitingPlaces_r pr_waitingCount pe cpe gpe knt cknt gknt knv cknv gknv pp cpp gpp pz cpz gpz glt cglt gglt kn tr kns knz knt knv kn_length kns ckns gkns knz cknz gknz gl tr gls glz glt glv gl_length tr tx tr_length tx ctx gtx gls cgls ggls glz cglz gglz)) (w1 := (wz_94 bo bob n10 bob cbob f11)) hP hD [3, 4] [0, 1, 2, 5, 6, 7, 8, 9, 10, 11, 12, 13, 14, 15, 16, 17] rfl rfl (by decide) (by decide) hk1 hFc hP1 hD1
      clear hPc hDc hKc hFc hz1 hk1 hP1 hK1 hD1
      rename Heap => H
      have hP : va_P (dC, dI) cls (wz_171 h0 pr kn lt h0_localCount pe h0_pendingCount h0_gives h0_depth h0_loopDepth to bo cs se pr gl fu pa pf sf pk pg pp pz pv pr_reason pr_place pr_scanner_r pr_stepCount pr_open pr_twoSides pr_waiting_r pr_waitingPlaces_r pr_waitingCount pe cpe gpe knt cknt gknt knv cknv gknv pp cpp gpp pz cpz gpz glt cglt gglt kn tr kns knz knt knv kn_length kns ckns gkns knz cknz gknz gl tr gls glz glt glv gl_length tr tx tr_length tx ctx gtx gls cgls ggls glz cglz gglz bo bob n10 bob cbob f11) H := hP
      have hD : va_D A (wz_171 h0 pr kn lt h0_localCount pe h0_pendingCount h0_gives h0_depth h0_loopDepth to bo cs se pr gl fu pa pf sf pk pg pp pz pv pr_reason pr_place pr_scanner_r pr_stepCount pr_open pr_twoSides pr_waiting_r pr_waitingPlaces_r pr_waitingCount pe cpe gpe knt cknt gknt knv cknv gknv pp cpp gpp pz cpz gpz glt cglt gglt kn tr kns knz knt knv kn_length kns ckns gkns knz cknz gknz gl tr gls glz glt glv gl_length tr tx tr_length tx ctx gtx gls cgls ggls glz cglz gglz bo bob n10 bob cbob f11) := hD
      refine lv_aload_n hx hb d_CO_codeRead_110 rfl (lv_at hl 3 rfl) ?_
      refine va_get (D := (dC, dI)) (ci := 2) (v := .ref bo) (C := R_CO) (T := F_CO) (N := 13) hx hb hts i_CO hown hK hP 0 rfl rfl 10 (by decide) (hts _ kF_CO_26) (fun _ h9 => h9) rfl d_CO_codeRead_111 ?_
      refine lv_iload hx hb d_CO_codeRead_114 (lv_at hl 0 rfl) ?_
      have hPc := hP.sb (wq := (wz_94 bo bob n10 bob cbob f11)) [16, 17] rfl
      have hDc := hD.sb (wq := (wz_94 bo bob n10 bob cbob f11)) [16, 17] (by decide) rfl
      have hKc := hK.sb (tyq := [(cbob, .byte)]) [1] rfl
      have hFc := va_free (wc := (wz_94 bo bob n10 bob cbob f11)) hD hS hA [16, 17] rfl
      refine va_callv (va_runV (As := [.int r5]) (rest := []) ⟨hx, hb, hml, hown, hts⟩ (c_BR_putUnsigned l dC dI bo bob H.size cbob 8192 n10 f11 (by (first | (apply Int.le_antisymm <;> omega) | omega)) (by (first | (apply Int.le_antisymm <;> omega) | omega)) (by (first | (apply Int.le_antisymm <;> omega) | omega)) r5 (by (first | (apply Int.le_antisymm <;> omega) | omega))) (cwV 1 hts (gV kM_CO_218 kV_BR_putUnsigned kS_BR_putUnsigned kI_BR kC_BR_putUnsigned) rfl rfl rfl (by decide +kernel) ⟨Nat.le_of_ble_eq_true rfl, Nat.le_of_ble_eq_true rfl⟩) ⟨fun a U g mk z => by obtain ⟨z0, z1, zP, zK, zD⟩ := z; exact ⟨z0, z1, zP, va_K.moved (u := U) (U := U.calling g mk a) (Vm.Alike.refl U.vm) zK, zD⟩, va_recv hKc hPc (ci := 1) (q0 := 0) rfl rfl, fun U hU hW => ⟨rfl, by rw [hU], va_P.he hU.symm hPc, va_K.moved hW.alike hKc, hDc.weaken (fun _ _ _ _ => trivial)⟩⟩ rfl rfl hl.1 rfl (lv_room (Nat.le_of_ble_eq_true rfl)) d_CO_codeRead_116 ⟨(Nat.zero_le _), (Nat.zero_le _)⟩) hS (fun q _ h => hFc q h) hFc (fun u t H1 locs ht hvm hw hB hz1 hk1 hS => ?_)
      obtain ⟨n13, f14⟩ := u
      try dsimp only at hw
      obtain ⟨tn13, bn13⟩ := hw
      have ln13 := leb_len 5 (un r5)
      obtain ⟨hP1, hK1, hD1⟩ := hB
      replace hP1 := va_P.he ht hP1
      obtain ⟨hP, hD⟩ := va_join (wr := (wz_170 h0 pr kn lt h0_localCount pe h0_pendingCount h0_gives h0_depth h0_loopDepth to bo cs se pr gl fu pa pf sf pk pg pp pz pv pr_reason pr_place pr_scanner_r pr_stepCount pr_open pr_twoSides pr_waiting_r pr_waitingPlaces_r pr_waitingCount pe cpe gpe knt cknt gknt knv cknv gknv pp cpp gpp pz cpz gpz glt cglt gglt kn tr kns knz knt knv kn_length kns ckns gkns knz cknz gknz gl tr gls glz glt glv gl_length tr tx tr_length tx ctx gtx gls cgls ggls glz cglz gglz)) (w1 := (wz_94 bo bob n13 bob cbob f14)) hP hD [16, 17] [0, 1, 2, 3, 4, 5, 6, 7, 8, 9, 10, 11, 12, 13, 14, 15] rfl rfl (by decide) (by decide) hk1 hFc hP1 hD1
      clear hPc hDc hKc hFc hz1 hk1 hP1 hK1 hD1
      rename Heap => H
      have hP : va_P (dC, dI) cls (wz_171 h0 pr kn lt h0_localCount pe h0_pendingCount h0_gives h0_depth h0_loopDepth to bo cs se pr gl fu pa pf sf pk pg pp pz pv pr_reason pr_place pr_scanner_r pr_stepCount pr_open pr_twoSides pr_waiting_r pr_waitingPlaces_r pr_waitingCount pe cpe gpe knt cknt gknt knv cknv gknv pp cpp gpp pz cpz gpz glt cglt gglt kn tr kns knz knt knv kn_length kns ckns gkns knz cknz gknz gl tr gls glz glt glv gl_length tr tx tr_length tx ctx gtx gls cgls ggls glz cglz gglz bo bob n13 bob cbob f14) H := hP
      have hD : va_D A (wz_171 h0 pr kn lt h0_localCount pe h0_pendingCount h0_gives h0_depth h0_loopDepth to bo cs se pr gl fu pa pf sf pk pg pp pz pv pr_reason pr_place pr_scanner_r pr_stepCount pr_open pr_twoSides pr_waiting_r pr_waitingPlaces_r pr_waitingCount pe cpe gpe knt cknt gknt knv cknv gknv pp cpp gpp pz cpz gpz glt cglt gglt kn tr kns knz knt knv kn_length kns ckns gkns knz cknz gknz gl tr gls glz glt glv gl_length tr tx tr_length tx ctx gtx gls cgls ggls glz cglz gglz bo bob n13 bob cbob f14) := hD
      refine lv_aload_n hx hb d_CO_codeRead_119 rfl (lv_at hl 3 rfl) ?_
      refine lv_aload_n hx hb d_CO_codeRead_120 rfl (lv_at hl 3 rfl) ?_
      refine va_get (D := (dC, dI)) (ci := 2) (v := .ref pr) (C := R_CO) (T := F_CO) (N := 13) hx hb hts i_CO hown hK hP 0 rfl rfl 0 (by decide) (hts _ kF_CO_36) (fun _ h9 => h9) rfl d_CO_codeRead_121 ?_
      refine va_get (D := (dC, dI)) (ci := 6) (v := .ref gl) (C := R_PR) (T := F_PR) (N := 19) hx hb hts i_PR hown hK hP 1 rfl rfl 0 (by decide) (hts _ kF_CO_42) (fun _ h9 => h9) rfl d_CO_codeRead_124 ?_
      refine va_get (D := (dC, dI)) (ci := 5) (v := .ref glt) (C := R_NA) (T := F_NA) (N := 6) hx hb hts i_NA hown hK hP 11 rfl rfl 3 (by decide) (hts _ kF_CO_121) (fun _ h9 => h9) rfl d_CO_codeRead_127 ?_
      refine lv_iload hx hb d_CO_codeRead_130 (lv_at hl 0 rfl) ?_
      have g132 : vp_in r5 20 := vp_in_iff.mpr ⟨by (first | (apply Int.le_antisymm <;> omega) | omega), by (first | (apply Int.le_antisymm <;> omega) | omega)⟩
      refine va_iald hx hb hK hP 7 11 rfl rfl g132 d_CO_codeRead_132 ?_
      refine lv_topi (fun x15 ex15 => ?_)
      have hPc := hP.sb (wq := (wz_149 h0 pr kn lt h0_localCount pe h0_pendingCount h0_gives h0_depth h0_loopDepth to bo cs se pe cpe gpe)) [0, 2] rfl
      have hDc := hD.sb (wq := (wz_149 h0 pr kn lt h0_localCount pe h0_pendingCount h0_gives h0_depth h0_loopDepth to bo cs se pe cpe gpe)) [0, 2] (by decide) rfl
      have hKc := hK.sb (tyq := [(cpe, .int)]) [0] rfl
      have hFc := va_free (wc := (wz_149 h0 pr kn lt h0_localCount pe h0_pendingCount h0_gives h0_depth h0_loopDepth to bo cs se pe cpe gpe)) hD hS hA [0, 2] rfl
      refine va_callv (va_runV (As := [.int x15]) (rest := []) ⟨hx, hb, hml, hown, hts⟩ (c_CO_push l dC dI H.size h0 pr kn lt pe to bo cs se cpe h0_localCount h0_pendingCount h0_gives h0_depth h0_loopDepth gpe (b_h0_pendingCount) x15 (by (try dsimp only) <;> (first | (apply Int.le_antisymm <;> omega) | omega))) (cwV 1 hts (gV kM_CO_183 kV_CO_push kS_CO_push kI_CO kC_CO_push) rfl rfl rfl (by decide +kernel) ⟨Nat.le_of_ble_eq_true rfl, Nat.le_of_ble_eq_true rfl⟩) ⟨fun a U g mk z => by obtain ⟨z0, z1, zP, zK, zD⟩ := z; exact ⟨z0, z1, zP, va_K.moved (u := U) (U := U.calling g mk a) (Vm.Alike.refl U.vm) zK, zD⟩, va_recv hKc hPc (ci := 2) (q0 := 0) rfl rfl, fun U hU hW => ⟨rfl, by rw [hU], va_P.he hU.symm hPc, va_K.moved hW.alike hKc, hDc.weaken (fun _ _ _ _ => trivial)⟩⟩ rfl rfl hl.1 rfl (lv_room (Nat.le_of_ble_eq_true rfl)) d_CO_codeRead_133 ⟨(Nat.zero_le _), (Nat.zero_le _)⟩) hS (fun q _ h => hFc q h) hFc (fun u t H1 locs ht hvm hw hB hz1 hk1 hS => ?_)
      obtain ⟨n17, n18⟩ := u
      try dsimp only at hw
      obtain ⟨bn18, xr16⟩ := hw
      try clear hw
      obtain ⟨hP1, hK1, hD1⟩ := hB
      replace hP1 := va_P.he ht hP1
      obtain ⟨hP, hD⟩ := va_join (wr := [(pr, .inr (6, [.ref gl, .ref fu, .ref pa, .ref pf, .ref sf, .ref pk, .ref pg, .ref pp, .ref pz, .ref pv, .int pr_reason, .int pr_place, .ref pr_scanner_r, .int pr_stepCount, .int pr_open, .int pr_twoSides, .ref pr_waiting_r, .ref pr_waitingPlaces_r, .int pr_waitingCount])), (knt, .inl (cknt, 50, .inl gknt)), (knv, .inl (cknv, 50, .inr (.inl gknv))), (pp, .inl (cpp, 4100, .inl gpp)), (pz, .inl (cpz, 4100, .inl gpz)), (glt, .inl (cglt, 20, .inl gglt)), (kn, .inr (5, [.ref tr, .ref kns, .ref knz, .ref knt, .ref knv, .int kn_length])), (kns, .inl (ckns, 50, .inl gkns)), (knz, .inl (cknz, 50, .inl gknz)), (gl, .inr (5, [.ref tr, .ref gls, .ref glz, .ref glt, .ref glv, .int gl_length])), (tr, .inr (1, [.ref tx, .int tr_length])), (tx, .inl (ctx, 2000, .inl gtx)), (gls, .inl (cgls, 20, .inl ggls)), (glz, .inl (cglz, 20, .inl gglz)), (bo, .inr (1, [.ref bob, .int n13])), (bob, .inl (cbob, 8192, .inl f14))]) (w1 := (wz_149 h0 pr kn lt h0_localCount pe n18 h0_gives h0_depth h0_loopDepth to bo cs se pe cpe n17)) hP hD [0, 2] [1, 3, 4, 5, 6, 7, 8, 9, 10, 11, 12, 13, 14, 15, 16, 17] rfl rfl (by decide) (by decide) hk1 hFc hP1 hD1
      clear hPc hDc hKc hFc hz1 hk1 hP1 hK1 hD1
      rename Heap => H
      have hP : va_P (dC, dI) cls (wz_172 pr gl fu pa pf sf pk pg pp pz pv pr_reason pr_place pr_scanner_r pr_stepCount pr_open pr_twoSides pr_waiting_r pr_waitingPlaces_r pr_waitingCount knt cknt gknt knv cknv gknv pp cpp gpp pz cpz gpz glt cglt gglt kn tr kns knz knt knv kn_length kns ckns gkns knz cknz gknz gl tr gls glz glt glv gl_length tr tx tr_length tx ctx gtx gls cgls ggls glz cglz gglz bo bob n13 bob cbob f14 h0 pr kn lt h0_localCount pe n18 h0_gives h0_depth h0_loopDepth to bo cs se pe cpe n17) H := hP
      have hD : va_D A (wz_172 pr gl fu pa pf sf pk pg pp pz pv pr_reason pr_place pr_scanner_r pr_stepCount pr_open pr_twoSides pr_waiting_r pr_waitingPlaces_r pr_waitingCount knt cknt gknt knv cknv gknv pp cpp gpp pz cpz gpz glt cglt gglt kn tr kns knz knt knv kn_length kns ckns gkns knz cknz gknz gl tr gls glz glt glv gl_length tr tx tr_length tx ctx gtx gls cgls ggls glz cglz gglz bo bob n13 bob cbob f14 h0 pr kn lt h0_localCount pe n18 h0_gives h0_depth h0_loopDepth to bo cs se pe cpe n17) := hD
      refine lv_goto (tgt := 148) hx hb d_CO_codeRead_136 (by decide) ?_
      have hP9 := hP.sb (wq := (wz_167 h0 pr kn lt h0_localCount pe n18 h0_gives h0_depth h0_loopDepth to bo cs se pr gl fu pa pf sf pk pg pp pz pv pr_reason pr_place pr_scanner_r pr_stepCount pr_open pr_twoSides pr_waiting_r pr_waitingPlaces_r pr_waitingCount pe cpe n17 bo bob n13 bob cbob f14 kn tr kns knz knt knv kn_length kns ckns gkns knz cknz gknz knt cknt gknt knv cknv gknv tr tx tr_length tx ctx gtx pp cpp gpp pz cpz gpz gl tr gls glz glt glv gl_length gls cgls ggls glz cglz gglz glt cglt gglt)) [16, 0, 17, 14, 15, 6, 7, 8, 1, 2, 10, 11, 3, 4, 9, 12, 13, 5] rfl
      have hD9 := hD.sb (wq := (wz_167 h0 pr kn lt h0_localCount pe n18 h0_gives h0_depth h0_loopDepth to bo cs se pr gl fu pa pf sf pk pg pp pz pv pr_reason pr_place pr_scanner_r pr_stepCount pr_open pr_twoSides pr_waiting_r pr_waitingPlaces_r pr_waitingCount pe cpe n17 bo bob n13 bob cbob f14 kn tr kns knz knt knv kn_length kns ckns gkns knz cknz gknz knt cknt gknt knv cknv gknv tr tx tr_length tx ctx gtx pp cpp gpp pz cpz gpz gl tr gls glz glt glv gl_length gls cgls ggls glz cglz gglz glt cglt gglt)) [16, 0, 17, 14, 15, 6, 7, 8, 1, 2, 10, 11, 3, 4, 9, 12, 13, 5] (by decide) rfl
      exact tz_up (fun _ => rfl) (W.vret hx hb hr (fun t ht hW => ⟨⟨(f14, n17, n13, n18, pr_place, pr_reason), ⟨rfl, ⟨by (try dsimp only) <;> (first | (apply Int.le_antisymm <;> omega) | omega), bn18, ⟨by (try dsimp only) <;> (first | (apply Int.le_antisymm <;> omega) | omega), x15, 35, r5.toInt, xr16.2, by rw [ex15]; exact hgq r5.toNatClampNeg (by have := i32_clamp (x := r5) (by (first | (apply Int.le_antisymm <;> omega) | omega)); (first | (apply Int.le_antisymm <;> omega) | omega)), Or.inr ⟨rfl, by (first | (apply Int.le_antisymm <;> omega) | omega), by (first | (apply Int.le_antisymm <;> omega) | omega)⟩, by have := congrArg List.length (leb_s (x := r5) (by (first | (apply Int.le_antisymm <;> omega) | omega)) (by (first | (apply Int.le_antisymm <;> omega) | omega))); rw [List.length_singleton] at this; (try dsimp only) <;> (first | (apply Int.le_antisymm <;> omega) | omega), by (try dsimp only); rw [bn13, bn10 (by (first | (apply Int.le_antisymm <;> omega) | omega)), leb_s (by (first | (apply Int.le_antisymm <;> omega) | omega)) (by (first | (apply Int.le_antisymm <;> omega) | omega)), List.append_assoc]; rfl⟩⟩⟩, va_P.he ht.symm hP9, va_K.moved hW.alike hK, hD9⟩, hS.F ht⟩) hS.2.2 d_CO_codeRead_148)
  · have q51 := nltI c51
    refine lv_aload_n hx hb d_CO_codeRead_54 rfl (lv_at hl 3 rfl) ?_
    refine va_get (D := (dC, dI)) (ci := 2) (v := .ref bo) (C := R_CO) (T := F_CO) (N := 13) hx hb hts i_CO hown hK hP 0 rfl rfl 10 (by decide) (hts _ kF_CO_26) (fun _ h9 => h9) rfl d_CO_codeRead_55 ?_
    refine lv_bipush (v := 32) hx hb d_CO_codeRead_58 (by decide) ?_
    have hPc := hP.sb (wq := (wz_94 bo bob bo_length bob cbob gbob)) [3, 4] rfl
    have hDc := hD.sb (wq := (wz_94 bo bob bo_length bob cbob gbob)) [3, 4] (by decide) rfl
    have hKc := hK.sb (tyq := [(cbob, .byte)]) [1] rfl
    have hFc := va_free (wc := (wz_94 bo bob bo_length bob cbob gbob)) hD hS hA [3, 4] rfl
    refine va_callv (va_runV (As := [.int 32]) (rest := []) ⟨hx, hb, hml, hown, hts⟩ (c_BR_put l dC dI bo bob H.size cbob 8192 bo_length gbob (by (first | (apply Int.le_antisymm <;> omega) | omega)) (by (first | (apply Int.le_antisymm <;> omega) | omega)) (by (first | (apply Int.le_antisymm <;> omega) | omega)) 32) (cwV 1 hts (gV kM_CO_76 kV_BR_put kS_BR_put kI_BR kC_BR_put) rfl rfl rfl (by decide +kernel) ⟨Nat.le_of_ble_eq_true rfl, Nat.le_of_ble_eq_true rfl⟩) ⟨fun a U g mk z => by obtain ⟨z0, z1, zP, zK, zD⟩ := z; exact ⟨z0, z1, zP, va_K.moved (u := U) (U := U.calling g mk a) (Vm.Alike.refl U.vm) zK, zD⟩, va_recv hKc hPc (ci := 1) (q0 := 0) rfl rfl, fun U hU hW => ⟨rfl, by rw [hU], va_P.he hU.symm hPc, va_K.moved hW.alike hKc, hDc.weaken (fun _ _ _ _ => trivial)⟩⟩ rfl rfl hl.1 rfl (lv_room (Nat.le_of_ble_eq_true rfl)) d_CO_codeRead_60 ⟨(Nat.zero_le _), (Nat.zero_le _)⟩) hS (fun q _ h => hFc q h) hFc (fun u t H1 locs ht hvm hw hB hz1 hk1 hS => ?_)
    obtain ⟨n20, f21⟩ := u
    try dsimp only at hw
    have tn20 := br_put_in (by (first | (apply Int.le_antisymm <;> omega) | omega)) (by (first | (apply Int.le_antisymm <;> omega) | omega)) (by (first | (apply Int.le_antisymm <;> omega) | omega)) hw
    have bn20 := br_put_bl (by (first | (apply Int.le_antisymm <;> omega) | omega)) (by (first | (apply Int.le_antisymm <;> omega) | omega)) (by (first | (apply Int.le_antisymm <;> omega) | omega)) hw
    obtain ⟨hP1, hK1, hD1⟩ := hB
    replace hP1 := va_P.he ht hP1
    obtain ⟨hP, hD⟩ := va_join (wr := (wz_170 h0 pr kn lt h0_localCount pe h0_pendingCount h0_gives h0_depth h0_loopDepth to bo cs se pr gl fu pa pf sf pk pg pp pz pv pr_reason pr_place pr_scanner_r pr_stepCount pr_open pr_twoSides pr_waiting_r pr_waitingPlaces_r pr_waitingCount pe cpe gpe knt cknt gknt knv cknv gknv pp cpp gpp pz cpz gpz glt cglt gglt kn tr kns knz knt knv kn_length kns ckns gkns knz cknz gknz gl tr gls glz glt glv gl_length tr tx tr_length tx ctx gtx gls cgls ggls glz cglz gglz)) (w1 := (wz_94 bo bob n20 bob cbob f21)) hP hD [3, 4] [0, 1, 2, 5, 6, 7, 8, 9, 10, 11, 12, 13, 14, 15, 16, 17] rfl rfl (by decide) (by decide) hk1 hFc hP1 hD1
    clear hPc hDc hKc hFc hz1 hk1 hP1 hK1 hD1
    rename Heap => H
    have hP : va_P (dC, dI) cls (wz_171 h0 pr kn lt h0_localCount pe h0_pendingCount h0_gives h0_depth h0_loopDepth to bo cs se pr gl fu pa pf sf pk pg pp pz pv pr_reason pr_place pr_scanner_r pr_stepCount pr_open pr_twoSides pr_waiting_r pr_waitingPlaces_r pr_waitingCount pe cpe gpe knt cknt gknt knv cknv gknv pp cpp gpp pz cpz gpz glt cglt gglt kn tr kns knz knt knv kn_length kns ckns gkns knz cknz gknz gl tr gls glz glt glv gl_length tr tx tr_length tx ctx gtx gls cgls ggls glz cglz gglz bo bob n20 bob cbob f21) H := hP
    have hD : va_D A (wz_171 h0 pr kn lt h0_localCount pe h0_pendingCount h0_gives h0_depth h0_loopDepth to bo cs se pr gl fu pa pf sf pk pg pp pz pv pr_reason pr_place pr_scanner_r pr_stepCount pr_open pr_twoSides pr_waiting_r pr_waitingPlaces_r pr_waitingCount pe cpe gpe knt cknt gknt knv cknv gknv pp cpp gpp pz cpz gpz glt cglt gglt kn tr kns knz knt knv kn_length kns ckns gkns knz cknz gknz gl tr gls glz glt glv gl_length tr tx tr_length tx ctx gtx gls cgls ggls glz cglz gglz bo bob n20 bob cbob f21) := hD
    refine lv_aload_n hx hb d_CO_codeRead_63 rfl (lv_at hl 3 rfl) ?_
    refine va_get (D := (dC, dI)) (ci := 2) (v := .ref bo) (C := R_CO) (T := F_CO) (N := 13) hx hb hts i_CO hown hK hP 0 rfl rfl 10 (by decide) (hts _ kF_CO_26) (fun _ h9 => h9) rfl d_CO_codeRead_64 ?_
    refine lv_aload_n hx hb d_CO_codeRead_67 rfl (lv_at hl 3 rfl) ?_
    refine va_get (D := (dC, dI)) (ci := 2) (v := .ref kn) (C := R_CO) (T := F_CO) (N := 13) hx hb hts i_CO hown hK hP 0 rfl rfl 1 (by decide) (hts _ kF_CO_54) (fun _ h9 => h9) rfl d_CO_codeRead_68 ?_
    refine va_get (D := (dC, dI)) (ci := 5) (v := .ref knv) (C := R_NA) (T := F_NA) (N := 6) hx hb hts i_NA hown hK hP 8 rfl rfl 4 (by decide) (hts _ kF_CO_217) (fun _ h9 => h9) rfl d_CO_codeRead_71 ?_
    refine lv_iload_n hx hb d_CO_codeRead_74 rfl (lv_at hl 1 rfl) ?_
    have g75 : vp_in r3 50 := vp_in_iff.mpr ⟨by (first | (apply Int.le_antisymm <;> omega) | omega), by (first | (apply Int.le_antisymm <;> omega) | omega)⟩
    refine va_lald hx hb hK hP 4 5 rfl rfl g75 d_CO_codeRead_75 ?_
    refine lv_topl (fun x22 ex22 => ?_)
    have wx22 := (hkq r3.toNatClampNeg (by have := i32_clamp (x := r3) (by (first | (apply Int.le_antisymm <;> omega) | omega)); (first | (apply Int.le_antisymm <;> omega) | omega))).2
    rw [← ex22] at wx22
    refine lv_l2i hx hb d_CO_codeRead_76 rfl ?_
    refine lv_topi (fun x23 ex23 => ?_)
    have tx23 := l2i_t ex23 (by (first | (apply Int.le_antisymm <;> omega) | omega)) (by (first | (apply Int.le_antisymm <;> omega) | omega))
    have hPc := hP.sb (wq := (wz_94 bo bob n20 bob cbob f21)) [16, 17] rfl
    have hDc := hD.sb (wq := (wz_94 bo bob n20 bob cbob f21)) [16, 17] (by decide) rfl
    have hKc := hK.sb (tyq := [(cbob, .byte)]) [1] rfl
    have hFc := va_free (wc := (wz_94 bo bob n20 bob cbob f21)) hD hS hA [16, 17] rfl
    refine va_callv (va_runV (As := [.int x23]) (rest := []) ⟨hx, hb, hml, hown, hts⟩ (c_BR_putUnsigned l dC dI bo bob H.size cbob 8192 n20 f21 (by (first | (apply Int.le_antisymm <;> omega) | omega)) (by (first | (apply Int.le_antisymm <;> omega) | omega)) (by (first | (apply Int.le_antisymm <;> omega) | omega)) x23 (by (first | (apply Int.le_antisymm <;> omega) | omega))) (cwV 1 hts (gV kM_CO_218 kV_BR_putUnsigned kS_BR_putUnsigned kI_BR kC_BR_putUnsigned) rfl rfl rfl (by decide +kernel) ⟨Nat.le_of_ble_eq_true rfl, Nat.le_of_ble_eq_true rfl⟩) ⟨fun a U g mk z => by obtain ⟨z0, z1, zP, zK, zD⟩ := z; exact ⟨z0, z1, zP, va_K.moved (u := U) (U := U.calling g mk a) (Vm.Alike.refl U.vm) zK, zD⟩, va_recv hKc hPc (ci := 1) (q0 := 0) rfl rfl, fun U hU hW => ⟨rfl, by rw [hU], va_P.he hU.symm hPc, va_K.moved hW.alike hKc, hDc.weaken (fun _ _ _ _ => trivial)⟩⟩ rfl rfl hl.1 rfl (lv_room (Nat.le_of_ble_eq_true rfl)) d_CO_codeRead_77 ⟨(Nat.zero_le _), (Nat.zero_le _)⟩) hS (fun q _ h => hFc q h) hFc (fun u t H1 locs ht hvm hw hB hz1 hk1 hS => ?_)
    obtain ⟨n25, f26⟩ := u
    try dsimp only at hw
    obtain ⟨tn25, bn25⟩ := hw
    have ln25 := leb_len 5 (un x23)
    obtain ⟨hP1, hK1, hD1⟩ := hB
    replace hP1 := va_P.he ht hP1
    obtain ⟨hP, hD⟩ := va_join (wr := (wz_170 h0 pr kn lt h0_localCount pe h0_pendingCount h0_gives h0_depth h0_loopDepth to bo cs se pr gl fu pa pf sf pk pg pp pz pv pr_reason pr_place pr_scanner_r pr_stepCount pr_open pr_twoSides pr_waiting_r pr_waitingPlaces_r pr_waitingCount pe cpe gpe knt cknt gknt knv cknv gknv pp cpp gpp pz cpz gpz glt cglt gglt kn tr kns knz knt knv kn_length kns ckns gkns knz cknz gknz gl tr gls glz glt glv gl_length tr tx tr_length tx ctx gtx gls cgls ggls glz cglz gglz)) (w1 := (wz_94 bo bob n25 bob cbob f26)) hP hD [16, 17] [0, 1, 2, 3, 4, 5, 6, 7, 8, 9, 10, 11, 12, 13, 14, 15] rfl rfl (by decide) (by decide) hk1 hFc hP1 hD1
    clear hPc hDc hKc hFc hz1 hk1 hP1 hK1 hD1
    rename Heap => H
    have hP : va_P (dC, dI) cls (wz_171 h0 pr kn lt h0_localCount pe h0_pendingCount h0_gives h0_depth h0_loopDepth to bo cs se pr gl fu pa pf sf pk pg pp pz pv pr_reason pr_place pr_scanner_r pr_stepCount pr_open pr_twoSides pr_waiting_r pr_waitingPlaces_r pr_waitingCount pe cpe gpe knt cknt gknt knv cknv gknv pp cpp gpp pz cpz gpz glt cglt gglt kn tr kns knz knt knv kn_length kns ckns gkns knz cknz gknz gl tr gls glz glt glv gl_length tr tx tr_length tx ctx gtx gls cgls ggls glz cglz gglz bo bob n25 bob cbob f26) H := hP
    have hD : va_D A (wz_171 h0 pr kn lt h0_localCount pe h0_pendingCount h0_gives h0_depth h0_loopDepth to bo cs se pr gl fu pa pf sf pk pg pp pz pv pr_reason pr_place pr_scanner_r pr_stepCount pr_open pr_twoSides pr_waiting_r pr_waitingPlaces_r pr_waitingCount pe cpe gpe knt cknt gknt knv cknv gknv pp cpp gpp pz cpz gpz glt cglt gglt kn tr kns knz knt knv kn_length kns ckns gkns knz cknz gknz gl tr gls glz glt glv gl_length tr tx tr_length tx ctx gtx gls cgls ggls glz cglz gglz bo bob n25 bob cbob f26) := hD
    refine lv_aload_n hx hb d_CO_codeRead_80 rfl (lv_at hl 3 rfl) ?_
    refine lv_aload_n hx hb d_CO_codeRead_81 rfl (lv_at hl 3 rfl) ?_
    refine va_get (D := (dC, dI)) (ci := 2) (v := .ref kn) (C := R_CO) (T := F_CO) (N := 13) hx hb hts i_CO hown hK hP 0 rfl rfl 1 (by decide) (hts _ kF_CO_54) (fun _ h9 => h9) rfl d_CO_codeRead_82 ?_
    refine va_get (D := (dC, dI)) (ci := 5) (v := .ref knt) (C := R_NA) (T := F_NA) (N := 6) hx hb hts i_NA hown hK hP 8 rfl rfl 3 (by decide) (hts _ kF_CO_121) (fun _ h9 => h9) rfl d_CO_codeRead_85 ?_
    refine lv_iload_n hx hb d_CO_codeRead_88 rfl (lv_at hl 1 rfl) ?_
    have g89 : vp_in r3 50 := vp_in_iff.mpr ⟨by (first | (apply Int.le_antisymm <;> omega) | omega), by (first | (apply Int.le_antisymm <;> omega) | omega)⟩
    refine va_iald hx hb hK hP 3 4 rfl rfl g89 d_CO_codeRead_89 ?_
    refine lv_topi (fun x27 ex27 => ?_)
    have hPc := hP.sb (wq := (wz_149 h0 pr kn lt h0_localCount pe h0_pendingCount h0_gives h0_depth h0_loopDepth to bo cs se pe cpe gpe)) [0, 2] rfl
    have hDc := hD.sb (wq := (wz_149 h0 pr kn lt h0_localCount pe h0_pendingCount h0_gives h0_depth h0_loopDepth to bo cs se pe cpe gpe)) [0, 2] (by decide) rfl
    have hKc := hK.sb (tyq := [(cpe, .int)]) [0] rfl
    have hFc := va_free (wc := (wz_149 h0 pr kn lt h0_localCount pe h0_pendingCount h0_gives h0_depth h0_loopDepth to bo cs se pe cpe gpe)) hD hS hA [0, 2] rfl
    refine va_callv (va_runV (As := [.int x27]) (rest := []) ⟨hx, hb, hml, hown, hts⟩ (c_CO_push l dC dI H.size h0 pr kn lt pe to bo cs se cpe h0_localCount h0_pendingCount h0_gives h0_depth h0_loopDepth gpe (b_h0_pendingCount) x27 (by (try dsimp only) <;> (first | (apply Int.le_antisymm <;> omega) | omega))) (cwV 1 hts (gV kM_CO_183 kV_CO_push kS_CO_push kI_CO kC_CO_push) rfl rfl rfl (by decide +kernel) ⟨Nat.le_of_ble_eq_true rfl, Nat.le_of_ble_eq_true rfl⟩) ⟨fun a U g mk z => by obtain ⟨z0, z1, zP, zK, zD⟩ := z; exact ⟨z0, z1, zP, va_K.moved (u := U) (U := U.calling g mk a) (Vm.Alike.refl U.vm) zK, zD⟩, va_recv hKc hPc (ci := 2) (q0 := 0) rfl rfl, fun U hU hW => ⟨rfl, by rw [hU], va_P.he hU.symm hPc, va_K.moved hW.alike hKc, hDc.weaken (fun _ _ _ _ => trivial)⟩⟩ rfl rfl hl.1 rfl (lv_room (Nat.le_of_ble_eq_true rfl)) d_CO_codeRead_90 ⟨(Nat.zero_le _), (Nat.zero_le _)⟩) hS (fun q _ h => hFc q h) hFc (fun u t H1 locs ht hvm hw hB hz1 hk1 hS => ?_)
    obtain ⟨n29, n30⟩ := u
    try dsimp only at hw
    obtain ⟨bn30, xr28⟩ := hw
    try clear hw
    obtain ⟨hP1, hK1, hD1⟩ := hB
    replace hP1 := va_P.he ht hP1
    obtain ⟨hP, hD⟩ := va_join (wr := [(pr, .inr (6, [.ref gl, .ref fu, .ref pa, .ref pf, .ref sf, .ref pk, .ref pg, .ref pp, .ref pz, .ref pv, .int pr_reason, .int pr_place, .ref pr_scanner_r, .int pr_stepCount, .int pr_open, .int pr_twoSides, .ref pr_waiting_r, .ref pr_waitingPlaces_r, .int pr_waitingCount])), (knt, .inl (cknt, 50, .inl gknt)), (knv, .inl (cknv, 50, .inr (.inl gknv))), (pp, .inl (cpp, 4100, .inl gpp)), (pz, .inl (cpz, 4100, .inl gpz)), (glt, .inl (cglt, 20, .inl gglt)), (kn, .inr (5, [.ref tr, .ref kns, .ref knz, .ref knt, .ref knv, .int kn_length])), (kns, .inl (ckns, 50, .inl gkns)), (knz, .inl (cknz, 50, .inl gknz)), (gl, .inr (5, [.ref tr, .ref gls, .ref glz, .ref glt, .ref glv, .int gl_length])), (tr, .inr (1, [.ref tx, .int tr_length])), (tx, .inl (ctx, 2000, .inl gtx)), (gls, .inl (cgls, 20, .inl ggls)), (glz, .inl (cglz, 20, .inl gglz)), (bo, .inr (1, [.ref bob, .int n25])), (bob, .inl (cbob, 8192, .inl f26))]) (w1 := (wz_149 h0 pr kn lt h0_localCount pe n30 h0_gives h0_depth h0_loopDepth to bo cs se pe cpe n29)) hP hD [0, 2] [1, 3, 4, 5, 6, 7, 8, 9, 10, 11, 12, 13, 14, 15, 16, 17] rfl rfl (by decide) (by decide) hk1 hFc hP1 hD1
    clear hPc hDc hKc hFc hz1 hk1 hP1 hK1 hD1
    rename Heap => H
    have hP : va_P (dC, dI) cls (wz_172 pr gl fu pa pf sf pk pg pp pz pv pr_reason pr_place pr_scanner_r pr_stepCount pr_open pr_twoSides pr_waiting_r pr_waitingPlaces_r pr_waitingCount knt cknt gknt knv cknv gknv pp cpp gpp pz cpz gpz glt cglt gglt kn tr kns knz knt knv kn_length kns ckns gkns knz cknz gknz gl tr gls glz glt glv gl_length tr tx tr_length tx ctx gtx gls cgls ggls glz cglz gglz bo bob n25 bob cbob f26 h0 pr kn lt h0_localCount pe n30 h0_gives h0_depth h0_loopDepth to bo cs se pe cpe n29) H := hP
    have hD : va_D A (wz_172 pr gl fu pa pf sf pk pg pp pz pv pr_reason pr_place pr_scanner_r pr_stepCount pr_open pr_twoSides pr_waiting_r pr_waitingPlaces_r pr_waitingCount knt cknt gknt knv cknv gknv pp cpp gpp pz cpz gpz glt cglt gglt kn tr kns knz knt knv kn_length kns ckns gkns knz cknz gknz gl tr gls glz glt glv gl_length tr tx tr_length tx ctx gtx gls cgls ggls glz cglz gglz bo bob n25 bob cbob f26 h0 pr kn lt h0_localCount pe n30 h0_gives h0_depth h0_loopDepth to bo cs se pe cpe n29) := hD
    refine lv_goto (tgt := 148) hx hb d_CO_codeRead_93 (by decide) ?_
    have hP9 := hP.sb (wq := (wz_167 h0 pr kn lt h0_localCount pe n30 h0_gives h0_depth h0_loopDepth to bo cs se pr gl fu pa pf sf pk pg pp pz pv pr_reason pr_place pr_scanner_r pr_stepCount pr_open pr_twoSides pr_waiting_r pr_waitingPlaces_r pr_waitingCount pe cpe n29 bo bob n25 bob cbob f26 kn tr kns knz knt knv kn_length kns ckns gkns knz cknz gknz knt cknt gknt knv cknv gknv tr tx tr_length tx ctx gtx pp cpp gpp pz cpz gpz gl tr gls glz glt glv gl_length gls cgls ggls glz cglz gglz glt cglt gglt)) [16, 0, 17, 14, 15, 6, 7, 8, 1, 2, 10, 11, 3, 4, 9, 12, 13, 5] rfl
    have hD9 := hD.sb (wq := (wz_167 h0 pr kn lt h0_localCount pe n30 h0_gives h0_depth h0_loopDepth to bo cs se pr gl fu pa pf sf pk pg pp pz pv pr_reason pr_place pr_scanner_r pr_stepCount pr_open pr_twoSides pr_waiting_r pr_waitingPlaces_r pr_waitingCount pe cpe n29 bo bob n25 bob cbob f26 kn tr kns knz knt knv kn_length kns ckns gkns knz cknz gknz knt cknt gknt knv cknv gknv tr tx tr_length tx ctx gtx pp cpp gpp pz cpz gpz gl tr gls glz glt glv gl_length gls cgls ggls glz cglz gglz glt cglt gglt)) [16, 0, 17, 14, 15, 6, 7, 8, 1, 2, 10, 11, 3, 4, 9, 12, 13, 5] (by decide) rfl
    exact tz_up (fun _ => rfl) (W.vret hx hb hr (fun t ht hW => ⟨⟨(f26, n29, n25, n30, pr_place, pr_reason), ⟨rfl, ⟨by (try dsimp only) <;> (first | (apply Int.le_antisymm <;> omega) | omega), bn30, ⟨by (try dsimp only) <;> (first | (apply Int.le_antisymm <;> omega) | omega), x27, 32, x23.toInt, xr28.2, by rw [ex27]; exact (hkq r3.toNatClampNeg (by have := i32_clamp (x := r3) (by (first | (apply Int.le_antisymm <;> omega) | omega)); (first | (apply Int.le_antisymm <;> omega) | omega))).1, Or.inl ⟨rfl, by (first | (apply Int.le_antisymm <;> omega) | omega), by (first | (apply Int.le_antisymm <;> omega) | omega)⟩, by have := congrArg List.length (leb_s (x := x23) (by (first | (apply Int.le_antisymm <;> omega) | omega)) (by (first | (apply Int.le_antisymm <;> omega) | omega))); rw [List.length_singleton] at this; (try dsimp only) <;> (first | (apply Int.le_antisymm <;> omega) | omega), by (try dsimp only); rw [bn25, bn20 (by (first | (apply Int.le_antisymm <;> omega) | omega)), leb_s (by (first | (apply Int.le_antisymm <;> omega) | omega)) (by (first | (apply Int.le_antisymm <;> omega) | omega)), List.append_assoc]; rfl⟩⟩⟩, va_P.he ht.symm hP9, va_K.moved hW.alike hK, hD9⟩, hS.F ht⟩) hS.2.2 d_CO_codeRead_148)
end q_68
section q_69
/-! Coder: signs of two sides -/
theorem sg_two : ∀ k, k < 55 → 38 ≤ k → two (sg_code32.getD k 0).toInt ∧ two (sg_code64.getD k 0).toInt := by
  intro k h1 h2
  have q : k = 38 ∨ k = 39 ∨ k = 40 ∨ k = 41 ∨ k = 42 ∨ k = 43 ∨ k = 44 ∨ k = 45 ∨ k = 46 ∨ k = 47 ∨ k = 48 ∨ k = 49 ∨ k = 50 ∨ k = 51 ∨ k = 52 ∨ k = 53 ∨ k = 54 := by (first | (apply Int.le_antisymm <;> omega) | omega)
  unfold two
  rcases q with rfl | rfl | rfl | rfl | rfl | rfl | rfl | rfl | rfl | rfl | rfl | rfl | rfl | rfl | rfl | rfl | rfl <;> decide
theorem sg_or : (sg_code32.getD 36 0).toInt = 71 ∧ (sg_code32.getD 37 0).toInt = 71 := by decide
abbrev b_CO_codeTwoSides : ByteArray := prog_4_method_9_code
def y_CO_codeTwoSides : MethodName := ⟨R_CO, "codeTwoSides", "(LWaferForge$Sign;I)V"⟩
abbrev w_CO_codeTwoSides : List Cond := .code y_CO_codeTwoSides b_CO_codeTwoSides 6 none :: lw_g
theorem kC_CO_codeTwoSides : Cond.code y_CO_codeTwoSides b_CO_codeTwoSides 6 none ∈ lw_g := in_c5 178 rfl rfl
theorem d_CO_codeTwoSides_0 : decode b_CO_codeTwoSides 0 = .ok (.aload_n 0, 1) := bz_c42 (by decide +kernel)
theorem d_CO_codeTwoSides_1 : decode b_CO_codeTwoSides 1 = .ok (.invokevirtual 224, 3) := bz_c182 (by decide +kernel)
theorem d_CO_codeTwoSides_4 : decode b_CO_codeTwoSides 4 = .ok (.istore_n 3, 1) := bz_c62 (by decide +kernel)
theorem d_CO_codeTwoSides_5 : decode b_CO_codeTwoSides 5 = .ok (.aload_n 0, 1) := bz_c42 (by decide +kernel)
theorem d_CO_codeTwoSides_6 : decode b_CO_codeTwoSides 6 = .ok (.invokevirtual 224, 3) := bz_c182 (by decide +kernel)
theorem d_CO_codeTwoSides_9 : decode b_CO_codeTwoSides 9 = .ok (.istore 4, 2) := bz_c54 (by decide +kernel)
theorem d_CO_codeTwoSides_11 : decode b_CO_codeTwoSides 11 = .ok (.aload_n 1, 1) := bz_c43 (by decide +kernel)
theorem d_CO_codeTwoSides_12 : decode b_CO_codeTwoSides 12 = .ok (.getstatic 221, 3) := bz_c178 (by decide +kernel)
theorem d_CO_codeTwoSides_15 : decode b_CO_codeTwoSides 15 = .ok (.if_acmp .eq 10, 3) := bz_c165 (by decide +kernel)
theorem d_CO_codeTwoSides_18 : decode b_CO_codeTwoSides 18 = .ok (.aload_n 1, 1) := bz_c43 (by decide +kernel)
theorem d_CO_codeTwoSides_19 : decode b_CO_codeTwoSides 19 = .ok (.getstatic 227, 3) := bz_c178 (by decide +kernel)
theorem d_CO_codeTwoSides_22 : decode b_CO_codeTwoSides 22 = .ok (.if_acmp .ne 7, 3) := bz_c166 (by decide +kernel)
theorem d_CO_codeTwoSides_25 : decode b_CO_codeTwoSides 25 = .ok (.iconst 1, 1) := bz_c4 (by decide +kernel)
theorem d_CO_codeTwoSides_26 : decode b_CO_codeTwoSides 26 = .ok (.goto 4, 3) := bz_c167 (by decide +kernel)
theorem d_CO_codeTwoSides_29 : decode b_CO_codeTwoSides 29 = .ok (.iconst 0, 1) := bz_c3 (by decide +kernel)
theorem d_CO_codeTwoSides_30 : decode b_CO_codeTwoSides 30 = .ok (.istore 5, 2) := bz_c54 (by decide +kernel)
theorem d_CO_codeTwoSides_32 : decode b_CO_codeTwoSides 32 = .ok (.iload 4, 2) := bz_c21 (by decide +kernel)
theorem d_CO_codeTwoSides_34 : decode b_CO_codeTwoSides 34 = .ok (.iload_n 3, 1) := bz_c29 (by decide +kernel)
theorem d_CO_codeTwoSides_35 : decode b_CO_codeTwoSides 35 = .ok (.if_icmp .ne 22, 3) := bz_c160 (by decide +kernel)
theorem d_CO_codeTwoSides_38 : decode b_CO_codeTwoSides 38 = .ok (.iload 4, 2) := bz_c21 (by decide +kernel)
theorem d_CO_codeTwoSides_40 : decode b_CO_codeTwoSides 40 = .ok (.bipush 64, 2) := bz_c16 (by decide +kernel)
theorem d_CO_codeTwoSides_42 : decode b_CO_codeTwoSides 42 = .ok (.if_icmp .eq 15, 3) := bz_c159 (by decide +kernel)
theorem d_CO_codeTwoSides_45 : decode b_CO_codeTwoSides 45 = .ok (.iload 5, 2) := bz_c21 (by decide +kernel)
theorem d_CO_codeTwoSides_47 : decode b_CO_codeTwoSides 47 = .ok (.ifCond .eq 19, 3) := bz_c153 (by decide +kernel)
theorem d_CO_codeTwoSides_50 : decode b_CO_codeTwoSides 50 = .ok (.iload 4, 2) := bz_c21 (by decide +kernel)
theorem d_CO_codeTwoSides_52 : decode b_CO_codeTwoSides 52 = .ok (.bipush 127, 2) := bz_c16 (by decide +kernel)
theorem d_CO_codeTwoSides_54 : decode b_CO_codeTwoSides 54 = .ok (.if_icmp .eq 12, 3) := bz_c159 (by decide +kernel)
theorem d_CO_codeTwoSides_57 : decode b_CO_codeTwoSides 57 = .ok (.aload_n 0, 1) := bz_c42 (by decide +kernel)
theorem d_CO_codeTwoSides_58 : decode b_CO_codeTwoSides 58 = .ok (.getfield 36, 3) := bz_c180 (by decide +kernel)
theorem d_CO_codeTwoSides_61 : decode b_CO_codeTwoSides 61 = .ok (.iconst 3, 1) := bz_c6 (by decide +kernel)
theorem d_CO_codeTwoSides_62 : decode b_CO_codeTwoSides 62 = .ok (.iload_n 2, 1) := bz_c28 (by decide +kernel)
theorem d_CO_codeTwoSides_63 : decode b_CO_codeTwoSides 63 = .ok (.invokevirtual 105, 3) := bz_c182 (by decide +kernel)
theorem d_CO_codeTwoSides_66 : decode b_CO_codeTwoSides 66 = .ok (.iload 5, 2) := bz_c21 (by decide +kernel)
theorem d_CO_codeTwoSides_68 : decode b_CO_codeTwoSides 68 = .ok (.ifCond .eq 20, 3) := bz_c153 (by decide +kernel)
theorem d_CO_codeTwoSides_71 : decode b_CO_codeTwoSides 71 = .ok (.aload_n 0, 1) := bz_c42 (by decide +kernel)
theorem d_CO_codeTwoSides_72 : decode b_CO_codeTwoSides 72 = .ok (.getfield 26, 3) := bz_c180 (by decide +kernel)
theorem d_CO_codeTwoSides_75 : decode b_CO_codeTwoSides 75 = .ok (.bipush 65, 2) := bz_c16 (by decide +kernel)
theorem d_CO_codeTwoSides_77 : decode b_CO_codeTwoSides 77 = .ok (.invokevirtual 76, 3) := bz_c182 (by decide +kernel)
theorem d_CO_codeTwoSides_80 : decode b_CO_codeTwoSides 80 = .ok (.aload_n 0, 1) := bz_c42 (by decide +kernel)
theorem d_CO_codeTwoSides_81 : decode b_CO_codeTwoSides 81 = .ok (.getfield 26, 3) := bz_c180 (by decide +kernel)
theorem d_CO_codeTwoSides_84 : decode b_CO_codeTwoSides 84 = .ok (.iconst 0, 1) := bz_c3 (by decide +kernel)
theorem d_CO_codeTwoSides_85 : decode b_CO_codeTwoSides 85 = .ok (.invokevirtual 76, 3) := bz_c182 (by decide +kernel)
theorem d_CO_codeTwoSides_88 : decode b_CO_codeTwoSides 88 = .ok (.aload_n 0, 1) := bz_c42 (by decide +kernel)
theorem d_CO_codeTwoSides_89 : decode b_CO_codeTwoSides 89 = .ok (.getfield 26, 3) := bz_c180 (by decide +kernel)
theorem d_CO_codeTwoSides_92 : decode b_CO_codeTwoSides 92 = .ok (.iload 4, 2) := bz_c21 (by decide +kernel)
theorem d_CO_codeTwoSides_94 : decode b_CO_codeTwoSides 94 = .ok (.bipush 127, 2) := bz_c16 (by decide +kernel)
theorem d_CO_codeTwoSides_96 : decode b_CO_codeTwoSides 96 = .ok (.if_icmp .ne 10, 3) := bz_c160 (by decide +kernel)
theorem d_CO_codeTwoSides_99 : decode b_CO_codeTwoSides 99 = .ok (.aload_n 1, 1) := bz_c43 (by decide +kernel)
theorem d_CO_codeTwoSides_100 : decode b_CO_codeTwoSides 100 = .ok (.getfield 230, 3) := bz_c180 (by decide +kernel)
theorem d_CO_codeTwoSides_103 : decode b_CO_codeTwoSides 103 = .ok (.goto 7, 3) := bz_c167 (by decide +kernel)
theorem d_CO_codeTwoSides_106 : decode b_CO_codeTwoSides 106 = .ok (.aload_n 1, 1) := bz_c43 (by decide +kernel)
theorem d_CO_codeTwoSides_107 : decode b_CO_codeTwoSides 107 = .ok (.getfield 233, 3) := bz_c180 (by decide +kernel)
theorem d_CO_codeTwoSides_110 : decode b_CO_codeTwoSides 110 = .ok (.invokevirtual 76, 3) := bz_c182 (by decide +kernel)
theorem d_CO_codeTwoSides_113 : decode b_CO_codeTwoSides 113 = .ok (.aload_n 1, 1) := bz_c43 (by decide +kernel)
theorem d_CO_codeTwoSides_114 : decode b_CO_codeTwoSides 114 = .ok (.getstatic 227, 3) := bz_c178 (by decide +kernel)
theorem d_CO_codeTwoSides_117 : decode b_CO_codeTwoSides 117 = .ok (.if_acmp .ne 28, 3) := bz_c166 (by decide +kernel)
theorem d_CO_codeTwoSides_120 : decode b_CO_codeTwoSides 120 = .ok (.aload_n 0, 1) := bz_c42 (by decide +kernel)
theorem d_CO_codeTwoSides_121 : decode b_CO_codeTwoSides 121 = .ok (.getfield 26, 3) := bz_c180 (by decide +kernel)
theorem d_CO_codeTwoSides_124 : decode b_CO_codeTwoSides 124 = .ok (.iconst 5, 1) := bz_c8 (by decide +kernel)
theorem d_CO_codeTwoSides_125 : decode b_CO_codeTwoSides 125 = .ok (.invokevirtual 76, 3) := bz_c182 (by decide +kernel)
theorem d_CO_codeTwoSides_128 : decode b_CO_codeTwoSides 128 = .ok (.aload_n 0, 1) := bz_c42 (by decide +kernel)
theorem d_CO_codeTwoSides_129 : decode b_CO_codeTwoSides 129 = .ok (.getfield 26, 3) := bz_c180 (by decide +kernel)
theorem d_CO_codeTwoSides_132 : decode b_CO_codeTwoSides 132 = .ok (.bipush 65, 2) := bz_c16 (by decide +kernel)
theorem d_CO_codeTwoSides_134 : decode b_CO_codeTwoSides 134 = .ok (.invokevirtual 76, 3) := bz_c182 (by decide +kernel)
theorem d_CO_codeTwoSides_137 : decode b_CO_codeTwoSides 137 = .ok (.aload_n 0, 1) := bz_c42 (by decide +kernel)
theorem d_CO_codeTwoSides_138 : decode b_CO_codeTwoSides 138 = .ok (.getfield 26, 3) := bz_c180 (by decide +kernel)
theorem d_CO_codeTwoSides_141 : decode b_CO_codeTwoSides 141 = .ok (.iconst 0, 1) := bz_c3 (by decide +kernel)
theorem d_CO_codeTwoSides_142 : decode b_CO_codeTwoSides 142 = .ok (.invokevirtual 76, 3) := bz_c182 (by decide +kernel)
theorem d_CO_codeTwoSides_145 : decode b_CO_codeTwoSides 145 = .ok (.iload 5, 2) := bz_c21 (by decide +kernel)
theorem d_CO_codeTwoSides_147 : decode b_CO_codeTwoSides 147 = .ok (.ifCond .eq 12, 3) := bz_c153 (by decide +kernel)
theorem d_CO_codeTwoSides_150 : decode b_CO_codeTwoSides 150 = .ok (.aload_n 0, 1) := bz_c42 (by decide +kernel)
theorem d_CO_codeTwoSides_151 : decode b_CO_codeTwoSides 151 = .ok (.getfield 26, 3) := bz_c180 (by decide +kernel)
theorem d_CO_codeTwoSides_154 : decode b_CO_codeTwoSides 154 = .ok (.bipush 11, 2) := bz_c16 (by decide +kernel)
theorem d_CO_codeTwoSides_156 : decode b_CO_codeTwoSides 156 = .ok (.invokevirtual 76, 3) := bz_c182 (by decide +kernel)
theorem d_CO_codeTwoSides_159 : decode b_CO_codeTwoSides 159 = .ok (.aload_n 0, 1) := bz_c42 (by decide +kernel)
theorem d_CO_codeTwoSides_160 : decode b_CO_codeTwoSides 160 = .ok (.aload_n 1, 1) := bz_c43 (by decide +kernel)
theorem d_CO_codeTwoSides_161 : decode b_CO_codeTwoSides 161 = .ok (.getfield 236, 3) := bz_c180 (by decide +kernel)
theorem d_CO_codeTwoSides_164 : decode b_CO_codeTwoSides 164 = .ok (.iconst 3, 1) := bz_c6 (by decide +kernel)
theorem d_CO_codeTwoSides_165 : decode b_CO_codeTwoSides 165 = .ok (.if_icmp .ne 8, 3) := bz_c160 (by decide +kernel)
theorem d_CO_codeTwoSides_168 : decode b_CO_codeTwoSides 168 = .ok (.bipush 127, 2) := bz_c16 (by decide +kernel)
theorem d_CO_codeTwoSides_170 : decode b_CO_codeTwoSides 170 = .ok (.goto 5, 3) := bz_c167 (by decide +kernel)
theorem d_CO_codeTwoSides_173 : decode b_CO_codeTwoSides 173 = .ok (.iload 4, 2) := bz_c21 (by decide +kernel)
theorem d_CO_codeTwoSides_175 : decode b_CO_codeTwoSides 175 = .ok (.invokevirtual 183, 3) := bz_c182 (by decide +kernel)
theorem d_CO_codeTwoSides_178 : decode b_CO_codeTwoSides 178 = .ok (.return_, 1) := bz_c177 (by decide +kernel)
theorem kF_CO_227 : Cond.fieldLink R_CO 227 "WaferForge$Sign" "AND" "LWaferForge$Sign;" ∈ lw_g := in_c5 183 rfl rfl
theorem kF_CO_236 : Cond.fieldLink R_CO 236 "WaferForge$Sign" "level" "I" ∈ lw_g := in_c13 237 rfl rfl
theorem kF_CO_233 : Cond.fieldLink R_CO 233 "WaferForge$Sign" "code64" "I" ∈ lw_g := in_c13 236 rfl rfl
theorem kF_CO_230 : Cond.fieldLink R_CO 230 "WaferForge$Sign" "code32" "I" ∈ lw_g := in_c13 235 rfl rfl
abbrev at_CO_codeTwoSides (dC : Nat → ClassId) (dI : Nat → Nat → Nat) (sa : Nat → Nat) (h0 pr kn lt pe to bo cs se gl fu pa pf sf pk pg pp pz pv pr_scanner_r pr_waiting_r pr_waitingPlaces_r bob : Nat) (cpe cbob : ClassId) (h0_localCount : Int32) (h0_gives : Int32) (h0_depth : Int32) (h0_loopDepth : Int32) (pr_stepCount : Int32) (pr_open : Int32) (pr_twoSides : Int32) (pr_waitingCount : Int32) (A : Nat → Prop) (u : (Nat → Int32) × (Nat → Int32) × Int32 × Int32 × Int32 × Int32) (t : State) : Prop := match u with | (gbob, gpe, bo_length, h0_pendingCount, pr_place, pr_reason) => va_P (dC, dI) cls (wz_160 h0 pr kn lt h0_localCount pe h0_pendingCount h0_gives h0_depth h0_loopDepth to bo cs se pr gl fu pa pf sf pk pg pp pz pv pr_reason pr_place pr_scanner_r pr_stepCount pr_open pr_twoSides pr_waiting_r pr_waitingPlaces_r pr_waitingCount pe cpe gpe bo bob bo_length bob cbob gbob) t.heap ∧ va_K (dC, dI) cls [(cpe, .int), (cbob, .byte)] t ∧ va_D A (wz_160 h0 pr kn lt h0_localCount pe h0_pendingCount h0_gives h0_depth h0_loopDepth to bo cs se pr gl fu pa pf sf pk pg pp pz pv pr_reason pr_place pr_scanner_r pr_stepCount pr_open pr_twoSides pr_waiting_r pr_waitingPlaces_r pr_waitingCount pe cpe gpe bo bob bo_length bob cbob gbob)
set_option maxHeartbeats 4000000 in
set_option maxRecDepth 100000 in
theorem c_CO_codeTwoSides (l : Launch) (hlt : l.stackTraces = false) (dC : Nat → ClassId) (dI : Nat → Nat → Nat) (sz : Nat) (sa : Nat → Nat) (h0 pr kn lt pe to bo cs se gl fu pa pf sf pk pg pp pz pv pr_scanner_r pr_waiting_r pr_waitingPlaces_r bob : Nat) (cpe cbob : ClassId) (h0_localCount : Int32) (h0_pendingCount : Int32) (h0_gives : Int32) (h0_depth : Int32) (h0_loopDepth : Int32) (pr_reason : Int32) (pr_place : Int32) (pr_stepCount : Int32) (pr_open : Int32) (pr_twoSides : Int32) (pr_waitingCount : Int32) (gpe : Nat → Int32) (bo_length : Int32) (gbob : Nat → Int32)  (b_h0_pendingCount : 0 ≤ h0_pendingCount.toInt ∧ h0_pendingCount.toInt ≤ 680) (b_bo_length : 0 ≤ bo_length.toInt ∧ bo_length.toInt ≤ 8192) (ka : Nat) (p1 : Int32) (ba0 : ka < 55) (hpc : 2 ≤ h0_pendingCount.toInt) (hka : 36 ≤ ka ∧ ka < 55) (hty : (gpe (h0_pendingCount.toInt - 2).toNat).toInt = 127 ∨ (gpe (h0_pendingCount.toInt - 2).toNat).toInt = 126 ∨ (gpe (h0_pendingCount.toInt - 2).toNat).toInt = 64) (hbo : bo_length.toInt + 7 ≤ 8192) : tz_Met l y_CO_codeTwoSides w_CO_codeTwoSides ({ frames := 7, cells := 1, slots := 6, locals := 112 }) (va_Pc [.ref h0, .ref (sg sa ka), .int p1] (fun U => U.heap.size = sz ∧ va_P (dC, dI) cls (wz_160 h0 pr kn lt h0_localCount pe h0_pendingCount h0_gives h0_depth h0_loopDepth to bo cs se pr gl fu pa pf sf pk pg pp pz pv pr_reason pr_place pr_scanner_r pr_stepCount pr_open pr_twoSides pr_waiting_r pr_waitingPlaces_r pr_waitingCount pe cpe gpe bo bob bo_length bob cbob gbob) U.heap ∧ va_K (dC, dI) cls [(cpe, .int), (cbob, .byte)] U ∧ va_D (fun _ => True) (wz_160 h0 pr kn lt h0_localCount pe h0_pendingCount h0_gives h0_depth h0_loopDepth to bo cs se pr gl fu pa pf sf pk pg pp pz pv pr_reason pr_place pr_scanner_r pr_stepCount pr_open pr_twoSides pr_waiting_r pr_waitingPlaces_r pr_waitingCount pe cpe gpe bo bob bo_length bob cbob gbob) ∧ sw sa (va_A (wz_160 h0 pr kn lt h0_localCount pe h0_pendingCount h0_gives h0_depth h0_loopDepth to bo cs se pr gl fu pa pf sf pk pg pp pz pv pr_reason pr_place pr_scanner_r pr_stepCount pr_open pr_twoSides pr_waiting_r pr_waitingPlaces_r pr_waitingCount pe cpe gpe bo bob bo_length bob cbob gbob) sz) U U.heap)) (tq_Q (tq_v (fun (u : (Nat → Int32) × (Nat → Int32) × Int32 × Int32 × Int32 × Int32) => match u with | (gbob2, gpe2, bo_length2, h0_pendingCount2, pr_place2, pr_reason2) => (0 ≤ bo_length2.toInt ∧ bo_length2.toInt ≤ 8192) ∧ (0 ≤ h0_pendingCount2.toInt ∧ h0_pendingCount2.toInt ≤ 680) ∧ (h0_pendingCount2.toInt = h0_pendingCount.toInt - 1 ∧ (gpe (h0_pendingCount.toInt - 1).toNat).toInt ≠ 64 ∧ (gpe (h0_pendingCount.toInt - 2).toNat).toInt ≠ 64 ∧ ((ka = 36 ∨ ka = 37) → (gpe (h0_pendingCount.toInt - 1).toNat).toInt = 127 ∧ (gpe (h0_pendingCount.toInt - 2).toNat).toInt = 127) ∧ (∃ y : Int32, gpe2 = upd gpe (h0_pendingCount.toInt - 2).toNat y ∧ ((ka = 36 ∨ ka = 37) → y.toInt = 127) ∧ (y.toInt = 127 ∨ y.toInt = 126)) ∧ ∃ M : List Nat, bl gbob2 bo_length2.toNatClampNeg = bl gbob bo_length.toNatClampNeg ++ M ∧ ((ka = 36 → M = [65, 0, 71, 11]) ∧ (ka = 37 → M = [65, 0, 71, 5, 65, 0, 11]) ∧ (38 ≤ ka → ∃ op : Int, two op ∧ M = [op.toNat])) ∧ bo_length2.toInt = bo_length.toInt + (M.length : Int))) "java/lang/UnsupportedOperationException" (fun (u : (Nat → Int32) × (Nat → Int32) × Int32 × Int32 × Int32 × Int32) => match u with | (gbob2, gpe2, bo_length2, h0_pendingCount2, pr_place2, pr_reason2) => (0 ≤ bo_length2.toInt ∧ bo_length2.toInt ≤ 8192) ∧ (0 ≤ h0_pendingCount2.toInt ∧ h0_pendingCount2.toInt ≤ 680))) (at_CO_codeTwoSides dC dI sa h0 pr kn lt pe to bo cs se gl fu pa pf sf pk pg pp pz pv pr_scanner_r pr_waiting_r pr_waitingPlaces_r bob cpe cbob h0_localCount h0_gives h0_depth h0_loopDepth pr_stepCount pr_open pr_twoSides pr_waitingCount (va_A (wz_160 h0 pr kn lt h0_localCount pe h0_pendingCount h0_gives h0_depth h0_loopDepth to bo cs se pr gl fu pa pf sf pk pg pp pz pv pr_reason pr_place pr_scanner_r pr_stepCount pr_open pr_twoSides pr_waiting_r pr_waitingPlaces_r pr_waitingCount pe cpe gpe bo bob bo_length bob cbob gbob) sz)) (va_A (wz_160 h0 pr kn lt h0_localCount pe h0_pendingCount h0_gives h0_depth h0_loopDepth to bo cs se pr gl fu pa pf sf pk pg pp pz pv pr_reason pr_place pr_scanner_r pr_stepCount pr_open pr_twoSides pr_waiting_r pr_waitingPlaces_r pr_waitingCount pe cpe gpe bo bob bo_length bob cbob gbob) sz)) (tz_k 0 0 1 6) (va_A (wz_160 h0 pr kn lt h0_localCount pe h0_pendingCount h0_gives h0_depth h0_loopDepth to bo cs se pr gl fu pa pf sf pk pg pp pz pv pr_reason pr_place pr_scanner_r pr_stepCount pr_open pr_twoSides pr_waiting_r pr_waitingPlaces_r pr_waitingCount pe cpe gpe bo bob bo_length bob cbob gbob) sz) := by
  refine tz_ofW (cc := b_CO_codeTwoSides) (maxL := 6) (ret := none) (by decide) rfl ?_
  intro p e s m args below meth c s₁ B hml hno hv
  obtain ⟨rfl, hsz, hP, hK, hD0, hSW⟩ := hv
  have hx := B.exec
  have hb := B.bytes
  have hr := B.returns
  have hts0 := atoms_spec (ws := w_CO_codeTwoSides) B.pre
  have hts : ∀ w ∈ lw_g, w.before _ s = true := fun w h => hts0 w (List.mem_cons_of_mem _ h)
  have hown : s.vm.findClass R_CO = some m.cls := findClass_of_methodNamed B.named
  have hlocks := B.notSynchronized
  clear hts0
  subst hsz
  have hD := hD0.self (sz := s.heap.size)
  generalize hAe : va_A (wz_160 h0 pr kn lt h0_localCount pe h0_pendingCount h0_gives h0_depth h0_loopDepth to bo cs se pr gl fu pa pf sf pk pg pp pz pv pr_reason pr_place pr_scanner_r pr_stepCount pr_open pr_twoSides pr_waiting_r pr_waitingPlaces_r pr_waitingCount pe cpe gpe bo bob bo_length bob cbob gbob) s.heap.size = A at hD hSW ⊢
  have hA : ∀ q : Nat, s.heap.size ≤ q → A q := fun q h => by rw [← hAe]; exact Or.inr h
  clear hAe
  have hP : va_P (dC, dI) cls (wz_160 h0 pr kn lt h0_localCount pe h0_pendingCount h0_gives h0_depth h0_loopDepth to bo cs se pr gl fu pa pf sf pk pg pp pz pv pr_reason pr_place pr_scanner_r pr_stepCount pr_open pr_twoSides pr_waiting_r pr_waitingPlaces_r pr_waitingCount pe cpe gpe bo bob bo_length bob cbob gbob) s.heap := hP
  have hl := lv_entry ([.ref h0, .ref (sg sa ka), .int p1]) (n := 6) (Nat.le_of_ble_eq_true rfl)
  rw [lg_entry_eq]
  generalize (lg_sl ([.ref h0, .ref (sg sa ka), .int p1]) ++ List.replicate (6 - (lg_sl ([.ref h0, .ref (sg sa ka), .int p1])).length) Slot.unset).toArray = ls at hl ⊢
  have hl : lv_has ls 6 [(0, .ref h0), (1, .ref (sg sa ka)), (2, .int p1)] := hl
  have k0 : (0 : Int32).toInt = 0 := by decide
  refine w_gen (A := A) hP (fun H locs hP hS => ?_)
  have k1 : (1 : Int32).toInt = 1 := by decide
  have k3 : (3 : Int32).toInt = 3 := by decide
  have k5 : (5 : Int32).toInt = 5 := by decide
  have k11 : (11 : Int32).toInt = 11 := by decide
  have k64 : (64 : Int32).toInt = 64 := by decide
  have k65 : (65 : Int32).toInt = 65 := by decide
  have k127 : (127 : Int32).toInt = 127 := by decide
  have lo_p1 := i32_lo p1
  have hi_p1 := i32_hi p1
  refine lv_aload_n hx hb d_CO_codeTwoSides_0 rfl (lv_at hl 0 rfl) ?_
  have hPc := hP.sb (wq := (wz_149 h0 pr kn lt h0_localCount pe h0_pendingCount h0_gives h0_depth h0_loopDepth to bo cs se pe cpe gpe)) [0, 2] rfl
  have hDc := hD.sb (wq := (wz_149 h0 pr kn lt h0_localCount pe h0_pendingCount h0_gives h0_depth h0_loopDepth to bo cs se pe cpe gpe)) [0, 2] (by decide) rfl
  have hKc := hK.sb (tyq := [(cpe, .int)]) [0] rfl
  have hFc := va_free (wc := (wz_149 h0 pr kn lt h0_localCount pe h0_pendingCount h0_gives h0_depth h0_loopDepth to bo cs se pe cpe gpe)) hD hS hA [0, 2] rfl
  refine va_calli (va_runV (As := []) (rest := []) ⟨hx, hb, hml, hown, hts⟩ (c_CO_pop l dC dI H.size h0 pr kn lt pe to bo cs se cpe h0_localCount h0_pendingCount h0_gives h0_depth h0_loopDepth gpe (b_h0_pendingCount) (by (try dsimp only) <;> (first | (apply Int.le_antisymm <;> omega) | omega))) (cwV 0 hts (gV kM_CO_224 kV_CO_pop kS_CO_pop kI_CO kC_CO_pop) rfl rfl rfl (by decide +kernel) ⟨Nat.le_of_ble_eq_true rfl, Nat.le_of_ble_eq_true rfl⟩) ⟨fun a U g mk z => by obtain ⟨z0, z1, zP, zK, zD⟩ := z; exact ⟨z0, z1, zP, va_K.moved (u := U) (U := U.calling g mk a) (Vm.Alike.refl U.vm) zK, zD⟩, va_recv hKc hPc (ci := 2) (q0 := 0) rfl rfl, fun U hU hW => ⟨rfl, by rw [hU], va_P.he hU.symm hPc, va_K.moved hW.alike hKc, hDc.weaken (fun _ _ _ _ => trivial)⟩⟩ rfl rfl hl.1 rfl (lv_room (Nat.le_of_ble_eq_true rfl)) d_CO_codeTwoSides_1 ⟨(Nat.zero_le _), (Nat.zero_le _)⟩) hS (fun q _ h => hFc q h) hFc (fun r1 u t H1 locs ht hvm hw hB hz1 hk1 hS => ?_)
  obtain ⟨n2, rfl⟩ : ∃ z, z = u := ⟨_, rfl⟩
  try dsimp only at hw
  obtain ⟨bn2, xr1⟩ := hw
  try clear hw
  obtain ⟨hP1, hK1, hD1⟩ := hB
  replace hP1 := va_P.he ht hP1
  obtain ⟨hP, hD⟩ := va_join (wr := (wz_161 pr gl fu pa pf sf pk pg pp pz pv pr_reason pr_place pr_scanner_r pr_stepCount pr_open pr_twoSides pr_waiting_r pr_waitingPlaces_r pr_waitingCount bo bob bo_length bob cbob gbob)) (w1 := (wz_149 h0 pr kn lt h0_localCount pe n2 h0_gives h0_depth h0_loopDepth to bo cs se pe cpe gpe)) hP hD [0, 2] [1, 3, 4] rfl rfl (by decide) (by decide) hk1 hFc hP1 hD1
  clear hPc hDc hKc hFc hz1 hk1 hP1 hK1 hD1
  rename Heap => H
  have hP : va_P (dC, dI) cls (wz_162 pr gl fu pa pf sf pk pg pp pz pv pr_reason pr_place pr_scanner_r pr_stepCount pr_open pr_twoSides pr_waiting_r pr_waitingPlaces_r pr_waitingCount bo bob bo_length bob cbob gbob h0 pr kn lt h0_localCount pe n2 h0_gives h0_depth h0_loopDepth to bo cs se pe cpe gpe) H := hP
  have hD : va_D A (wz_162 pr gl fu pa pf sf pk pg pp pz pv pr_reason pr_place pr_scanner_r pr_stepCount pr_open pr_twoSides pr_waiting_r pr_waitingPlaces_r pr_waitingCount bo bob bo_length bob cbob gbob h0 pr kn lt h0_localCount pe n2 h0_gives h0_depth h0_loopDepth to bo cs se pe cpe gpe) := hD
  refine lv_istore_n (lv' := [(3, .int r1), (0, .ref h0), (1, .ref (sg sa ka)), (2, .int p1)]) hx hb d_CO_codeTwoSides_4 rfl hl (by decide) rfl (fun ls hl => ?_)
  refine lv_aload_n hx hb d_CO_codeTwoSides_5 rfl (lv_at hl 1 rfl) ?_
  have hPc := hP.sb (wq := (wz_149 h0 pr kn lt h0_localCount pe n2 h0_gives h0_depth h0_loopDepth to bo cs se pe cpe gpe)) [3, 4] rfl
  have hDc := hD.sb (wq := (wz_149 h0 pr kn lt h0_localCount pe n2 h0_gives h0_depth h0_loopDepth to bo cs se pe cpe gpe)) [3, 4] (by decide) rfl
  have hKc := hK.sb (tyq := [(cpe, .int)]) [0] rfl
  have hFc := va_free (wc := (wz_149 h0 pr kn lt h0_localCount pe n2 h0_gives h0_depth h0_loopDepth to bo cs se pe cpe gpe)) hD hS hA [3, 4] rfl
  refine va_calli (va_runV (As := []) (rest := []) ⟨hx, hb, hml, hown, hts⟩ (c_CO_pop l dC dI H.size h0 pr kn lt pe to bo cs se cpe h0_localCount n2 h0_gives h0_depth h0_loopDepth gpe (bn2) (by (try dsimp only) <;> (first | (apply Int.le_antisymm <;> omega) | omega))) (cwV 0 hts (gV kM_CO_224 kV_CO_pop kS_CO_pop kI_CO kC_CO_pop) rfl rfl rfl (by decide +kernel) ⟨Nat.le_of_ble_eq_true rfl, Nat.le_of_ble_eq_true rfl⟩) ⟨fun a U g mk z => by obtain ⟨z0, z1, zP, zK, zD⟩ := z; exact ⟨z0, z1, zP, va_K.moved (u := U) (U := U.calling g mk a) (Vm.Alike.refl U.vm) zK, zD⟩, va_recv hKc hPc (ci := 2) (q0 := 0) rfl rfl, fun U hU hW => ⟨rfl, by rw [hU], va_P.he hU.symm hPc, va_K.moved hW.alike hKc, hDc.weaken (fun _ _ _ _ => trivial)⟩⟩ rfl rfl hl.1 rfl (lv_room (Nat.le_of_ble_eq_true rfl)) d_CO_codeTwoSides_6 ⟨(Nat.zero_le _), (Nat.zero_le _)⟩) hS (fun q _ h => hFc q h) hFc (fun r3 u t H1 locs ht hvm hw hB hz1 hk1 hS => ?_)
  obtain ⟨n4, rfl⟩ : ∃ z, z = u := ⟨_, rfl⟩
  try dsimp only at hw
  obtain ⟨bn4, xr3⟩ := hw
  try clear hw
  obtain ⟨hP1, hK1, hD1⟩ := hB
  replace hP1 := va_P.he ht hP1
  obtain ⟨hP, hD⟩ := va_join (wr := (wz_161 pr gl fu pa pf sf pk pg pp pz pv pr_reason pr_place pr_scanner_r pr_stepCount pr_open pr_twoSides pr_waiting_r pr_waitingPlaces_r pr_waitingCount bo bob bo_length bob cbob gbob)) (w1 := (wz_149 h0 pr kn lt h0_localCount pe n4 h0_gives h0_depth h0_loopDepth to bo cs se pe cpe gpe)) hP hD [3, 4] [0, 1, 2] rfl rfl (by decide) (by decide) hk1 hFc hP1 hD1
  clear hPc hDc hKc hFc hz1 hk1 hP1 hK1 hD1
  rename Heap => H
  have hP : va_P (dC, dI) cls (wz_162 pr gl fu pa pf sf pk pg pp pz pv pr_reason pr_place pr_scanner_r pr_stepCount pr_open pr_twoSides pr_waiting_r pr_waitingPlaces_r pr_waitingCount bo bob bo_length bob cbob gbob h0 pr kn lt h0_localCount pe n4 h0_gives h0_depth h0_loopDepth to bo cs se pe cpe gpe) H := hP
  have hD : va_D A (wz_162 pr gl fu pa pf sf pk pg pp pz pv pr_reason pr_place pr_scanner_r pr_stepCount pr_open pr_twoSides pr_waiting_r pr_waitingPlaces_r pr_waitingCount bo bob bo_length bob cbob gbob h0 pr kn lt h0_localCount pe n4 h0_gives h0_depth h0_loopDepth to bo cs se pe cpe gpe) := hD
  refine lv_istore (lv' := [(4, .int r3), (3, .int r1), (0, .ref h0), (1, .ref (sg sa ka)), (2, .int p1)]) hx hb d_CO_codeTwoSides_9 hl (by decide) rfl (fun ls hl => ?_)
  refine lv_aload_n hx hb d_CO_codeTwoSides_11 rfl (lv_at hl 3 rfl) ?_
  refine va_gets (C := "WaferForge$Sign") (n := "OR") (d := "LWaferForge$Sign;") (v := .ref (sg sa 36)) hx hb ((hSW.2.2.2.1.1 36 (by decide)).1) hS hown (hts _ kF_CO_221) (fun _ h9 => h9) d_CO_codeTwoSides_12 ?_
  refine w_cut (pc2 := 30) (σ := Int32) (fun u H locs ls => match u with | j30_s0 => (j30_s0 = 0 ∨ j30_s0 = 1) ∧ ((j30_s0 = 1 ∧ (ka = 36 ∨ ka = 37)) ∨ (j30_s0 = 0 ∧ (ka ≠ 36 ∧ ka ≠ 37))) ∧ va_P (dC, dI) cls (wz_162 pr gl fu pa pf sf pk pg pp pz pv pr_reason pr_place pr_scanner_r pr_stepCount pr_open pr_twoSides pr_waiting_r pr_waitingPlaces_r pr_waitingCount bo bob bo_length bob cbob gbob h0 pr kn lt h0_localCount pe n4 h0_gives h0_depth h0_loopDepth to bo cs se pe cpe gpe) H ∧ va_D A (wz_162 pr gl fu pa pf sf pk pg pp pz pv pr_reason pr_place pr_scanner_r pr_stepCount pr_open pr_twoSides pr_waiting_r pr_waitingPlaces_r pr_waitingCount bo bob bo_length bob cbob gbob h0 pr kn lt h0_localCount pe n4 h0_gives h0_depth h0_loopDepth to bo cs se pe cpe gpe) ∧ va_S A s.heap H locs ∧ lv_has ls 6 [(0, .ref h0), (1, .ref (sg sa ka)), (2, .int p1), (3, .int r1), (4, .int r3)]) (fun u => match u with | j30_s0 => [.int j30_s0]) ?_ (fun jn30 => ?_)
  · intro u H locs ls hI
    obtain ⟨j30_s0, rfl⟩ : ∃ z, z = u := ⟨_, rfl⟩
    obtain ⟨b_j30_s0, y30, hP, hD, hS, hl⟩ := hI
    have tj30_s0 := b01 b_j30_s0
    refine lv_istore (lv' := [(5, .int j30_s0), (0, .ref h0), (1, .ref (sg sa ka)), (2, .int p1), (3, .int r1), (4, .int r3)]) hx hb d_CO_codeTwoSides_30 hl (by decide) rfl (fun ls hl => ?_)
    refine lv_iload hx hb d_CO_codeTwoSides_32 (lv_at hl 5 rfl) ?_
    refine lv_iload_n hx hb d_CO_codeTwoSides_34 rfl (lv_at hl 4 rfl) ?_
    refine w_cut (pc2 := 57) (σ := Unit) (fun u H locs ls => match u with | _ => va_P (dC, dI) cls (wz_162 pr gl fu pa pf sf pk pg pp pz pv pr_reason pr_place pr_scanner_r pr_stepCount pr_open pr_twoSides pr_waiting_r pr_waitingPlaces_r pr_waitingCount bo bob bo_length bob cbob gbob h0 pr kn lt h0_localCount pe n4 h0_gives h0_depth h0_loopDepth to bo cs se pe cpe gpe) H ∧ va_D A (wz_162 pr gl fu pa pf sf pk pg pp pz pv pr_reason pr_place pr_scanner_r pr_stepCount pr_open pr_twoSides pr_waiting_r pr_waitingPlaces_r pr_waitingCount bo bob bo_length bob cbob gbob h0 pr kn lt h0_localCount pe n4 h0_gives h0_depth h0_loopDepth to bo cs se pe cpe gpe) ∧ va_S A s.heap H locs ∧ lv_has ls 6 [(0, .ref h0), (2, .int p1)]) (fun u => match u with | _ => []) ?_ (fun jn57 => ?_)
    · intro u H locs ls hI
      obtain ⟨hP, hD, hS, hl⟩ := hI
      refine lv_aload_n hx hb d_CO_codeTwoSides_57 rfl (lv_at hl 0 rfl) ?_
      refine va_get (D := (dC, dI)) (ci := 2) (v := .ref pr) (C := R_CO) (T := F_CO) (N := 13) hx hb hts i_CO hown hK hP 3 rfl rfl 0 (by decide) (hts _ kF_CO_36) (fun _ h9 => h9) rfl d_CO_codeTwoSides_58 ?_
      refine lv_iconst (v := 3) hx hb d_CO_codeTwoSides_61 (by decide) ?_
      refine lv_iload_n hx hb d_CO_codeTwoSides_62 rfl (lv_at hl 1 rfl) ?_
      have hPc := hP.sb (wq := (wz_110 pr gl fu pa pf sf pk pg pp pz pv pr_reason pr_place pr_scanner_r pr_stepCount pr_open pr_twoSides pr_waiting_r pr_waitingPlaces_r pr_waitingCount)) [0] rfl
      have hDc := hD.sb (wq := (wz_110 pr gl fu pa pf sf pk pg pp pz pv pr_reason pr_place pr_scanner_r pr_stepCount pr_open pr_twoSides pr_waiting_r pr_waitingPlaces_r pr_waitingCount)) [0] (by decide) rfl
      have hKc := hK.sb (tyq := []) [] rfl
      have hFc := va_free (wc := (wz_110 pr gl fu pa pf sf pk pg pp pz pv pr_reason pr_place pr_scanner_r pr_stepCount pr_open pr_twoSides pr_waiting_r pr_waitingPlaces_r pr_waitingCount)) hD hS hA [0] rfl
      refine tq_callv (tz_runV (As := [.int 3, .int p1]) (rest := []) ⟨hx, hb, hml, hown, hts⟩ (c_PR_refuse l hlt dC dI H.size sa pr gl fu pa pf sf pk pg pp pz pv pr_scanner_r pr_waiting_r pr_waitingPlaces_r pr_reason pr_place pr_stepCount pr_open pr_twoSides pr_waitingCount 3 p1) (cwV 2 hts (gV kM_CO_105 kV_PR_refuse kS_PR_refuse kI_PR kC_PR_refuse) rfl rfl rfl (by decide +kernel) ⟨Nat.le_of_ble_eq_true rfl, Nat.le_of_ble_eq_true rfl⟩) ⟨fun a U g mk z => by obtain ⟨z0, z1, zP, zK, zD, zS⟩ := z; exact ⟨z0, z1, zP, va_K.moved (u := U) (U := U.calling g mk a) (Vm.Alike.refl U.vm) zK, zD, sw.same (u := U) (U := U.calling g mk a) rfl zS⟩, va_recv hKc hPc (ci := 6) (q0 := 0) rfl rfl, fun U hU hW => ⟨rfl, by rw [hU], va_P.he hU.symm hPc, va_K.moved hW.alike hKc, hDc.weaken (fun _ _ _ _ => trivial), hSW.call hS hFc hW hU⟩⟩ rfl rfl hl.1 rfl (lv_room (Nat.le_of_ble_eq_true rfl)) d_CO_codeTwoSides_63 ⟨Nat.le_of_ble_eq_true rfl, Nat.le_of_ble_eq_true rfl⟩) hS (fun q _ h => hFc q h) hFc (fun u t H1 locs ht hvm hw hB hz1 hk1 hS => ?_) (fun xx u t H1 locs ht hvm hw hXX hB hz1 hk1 hS => ?_)
      rotate_left
      · skip
        obtain ⟨n6, n7⟩ := u
        try dsimp only at hw
        obtain ⟨hP1, hK1, hD1⟩ := hB
        replace hP1 := va_P.he ht hP1
        obtain ⟨hP, hD⟩ := va_join (wr := (wz_157 bo bob bo_length bob cbob gbob h0 pr kn lt h0_localCount pe n4 h0_gives h0_depth h0_loopDepth to bo cs se pe cpe gpe)) (w1 := (wz_110 pr gl fu pa pf sf pk pg pp pz pv n7 n6 pr_scanner_r pr_stepCount pr_open pr_twoSides pr_waiting_r pr_waitingPlaces_r pr_waitingCount)) hP hD [0] [1, 2, 3, 4] rfl rfl (by decide) (by decide) hk1 hFc hP1 hD1
        have hP : va_P (dC, dI) cls (wz_164 bo bob bo_length bob cbob gbob h0 pr kn lt h0_localCount pe n4 h0_gives h0_depth h0_loopDepth to bo cs se pe cpe gpe pr gl fu pa pf sf pk pg pp pz pv n7 n6 pr_scanner_r pr_stepCount pr_open pr_twoSides pr_waiting_r pr_waitingPlaces_r pr_waitingCount) H1 := hP
        have hD : va_D A (wz_164 bo bob bo_length bob cbob gbob h0 pr kn lt h0_localCount pe n4 h0_gives h0_depth h0_loopDepth to bo cs se pe cpe gpe pr gl fu pa pf sf pk pg pp pz pv n7 n6 pr_scanner_r pr_stepCount pr_open pr_twoSides pr_waiting_r pr_waitingPlaces_r pr_waitingCount) := hD
        have hP9 := hP.sb (wq := (wz_160 h0 pr kn lt h0_localCount pe n4 h0_gives h0_depth h0_loopDepth to bo cs se pr gl fu pa pf sf pk pg pp pz pv n7 n6 pr_scanner_r pr_stepCount pr_open pr_twoSides pr_waiting_r pr_waitingPlaces_r pr_waitingCount pe cpe gpe bo bob bo_length bob cbob gbob)) [2, 4, 3, 0, 1] rfl
        have hD9 := hD.sb (wq := (wz_160 h0 pr kn lt h0_localCount pe n4 h0_gives h0_depth h0_loopDepth to bo cs se pr gl fu pa pf sf pk pg pp pz pv n7 n6 pr_scanner_r pr_stepCount pr_open pr_twoSides pr_waiting_r pr_waitingPlaces_r pr_waitingCount pe cpe gpe bo bob bo_length bob cbob gbob)) [2, 4, 3, 0, 1] (by decide) rfl
        exact tz_leave rfl hno hlocks (fun t ht hW => ⟨⟨(gbob, gpe, bo_length, n4, n6, n7), ⟨⟨b_bo_length, bn4⟩, by rw [ht]; exact hXX.moved hW.alike⟩, va_P.he ht.symm hP9, va_K.moved hW.alike hK, hD9⟩, hS.F ht⟩) hS.2.2
      exact (show False from hw).elim
    · skip
      refine lv_icmp_ne (tgt := 57) hx hb d_CO_codeTwoSides_35 (by decide) (fun c35 => ?_) (fun c35 => ?_)
      · have q35 := neI c35
        exact jn57 () _ _ _ ⟨hP, hD, hS, lv_sub hl [1, 3] rfl⟩
      · have q35 := eqI c35
        refine lv_iload hx hb d_CO_codeTwoSides_38 (lv_at hl 5 rfl) ?_
        refine lv_bipush (v := 64) hx hb d_CO_codeTwoSides_40 (by decide) ?_
        refine lv_icmp_eq (tgt := 57) hx hb d_CO_codeTwoSides_42 (by decide) (fun c42 => ?_) (fun c42 => ?_)
        · have q42 := eqI c42
          exact jn57 () _ _ _ ⟨hP, hD, hS, lv_sub hl [1, 3] rfl⟩
        · have q42 := neI c42
          refine lv_iload hx hb d_CO_codeTwoSides_45 (lv_at hl 0 rfl) ?_
          refine w_cut (pc2 := 66) (σ := Unit) (fun u H locs ls => match u with | _ => (r3.toInt = r1.toInt ∧ r3.toInt ≠ 64 ∧ ((ka = 36 ∨ ka = 37) → r3.toInt = 127)) ∧ va_P (dC, dI) cls (wz_162 pr gl fu pa pf sf pk pg pp pz pv pr_reason pr_place pr_scanner_r pr_stepCount pr_open pr_twoSides pr_waiting_r pr_waitingPlaces_r pr_waitingCount bo bob bo_length bob cbob gbob h0 pr kn lt h0_localCount pe n4 h0_gives h0_depth h0_loopDepth to bo cs se pe cpe gpe) H ∧ va_D A (wz_162 pr gl fu pa pf sf pk pg pp pz pv pr_reason pr_place pr_scanner_r pr_stepCount pr_open pr_twoSides pr_waiting_r pr_waitingPlaces_r pr_waitingCount bo bob bo_length bob cbob gbob h0 pr kn lt h0_localCount pe n4 h0_gives h0_depth h0_loopDepth to bo cs se pe cpe gpe) ∧ va_S A s.heap H locs ∧ lv_has ls 6 [(0, .ref h0), (1, .ref (sg sa ka)), (4, .int r3), (5, .int j30_s0)]) (fun u => match u with | _ => []) ?_ (fun jn66 => ?_)
          · intro u H locs ls hI
            obtain ⟨y66, hP, hD, hS, hl⟩ := hI
            refine lv_iload hx hb d_CO_codeTwoSides_66 (lv_at hl 3 rfl) ?_
            refine w_cut (pc2 := 88) (σ := (Nat → Int32) × Int32) (fun u H locs ls => match u with | (j88_bob, j88_bo_length) => (0 ≤ j88_bo_length.toInt ∧ j88_bo_length.toInt ≤ 8192) ∧ (∃ M : List Nat, bl j88_bob j88_bo_length.toNatClampNeg = bl gbob bo_length.toNatClampNeg ++ M ∧ (((ka = 36 ∨ ka = 37) ∧ M = [65, 0]) ∨ ((ka ≠ 36 ∧ ka ≠ 37) ∧ M = [])) ∧ j88_bo_length.toInt = bo_length.toInt + (M.length : Int)) ∧ va_P (dC, dI) cls (wz_162 pr gl fu pa pf sf pk pg pp pz pv pr_reason pr_place pr_scanner_r pr_stepCount pr_open pr_twoSides pr_waiting_r pr_waitingPlaces_r pr_waitingCount bo bob j88_bo_length bob cbob j88_bob h0 pr kn lt h0_localCount pe n4 h0_gives h0_depth h0_loopDepth to bo cs se pe cpe gpe) H ∧ va_D A (wz_162 pr gl fu pa pf sf pk pg pp pz pv pr_reason pr_place pr_scanner_r pr_stepCount pr_open pr_twoSides pr_waiting_r pr_waitingPlaces_r pr_waitingCount bo bob j88_bo_length bob cbob j88_bob h0 pr kn lt h0_localCount pe n4 h0_gives h0_depth h0_loopDepth to bo cs se pe cpe gpe) ∧ va_S A s.heap H locs ∧ lv_has ls 6 [(0, .ref h0), (1, .ref (sg sa ka)), (4, .int r3), (5, .int j30_s0)]) (fun u => match u with | (j88_bob, j88_bo_length) => []) ?_ (fun jn88 => ?_)
            · intro u H locs ls hI
              obtain ⟨j88_bob, j88_bo_length⟩ := u
              obtain ⟨b_j88_bo_length, hm, hP, hD, hS, hl⟩ := hI
              obtain ⟨M88, e88, c88, n88⟩ := hm
              have l88 : (M88.length : Int) ≤ 2 := by rcases c88 with z | z <;> rw [z.2] <;> decide
              refine lv_aload_n hx hb d_CO_codeTwoSides_88 rfl (lv_at hl 0 rfl) ?_
              refine va_get (D := (dC, dI)) (ci := 2) (v := .ref bo) (C := R_CO) (T := F_CO) (N := 13) hx hb hts i_CO hown hK hP 3 rfl rfl 10 (by decide) (hts _ kF_CO_26) (fun _ h9 => h9) rfl d_CO_codeTwoSides_89 ?_
              refine lv_iload hx hb d_CO_codeTwoSides_92 (lv_at hl 2 rfl) ?_
              refine lv_bipush (v := 127) hx hb d_CO_codeTwoSides_94 (by decide) ?_
              refine w_cut (pc2 := 110) (σ := Int32) (fun u H locs ls => match u with | j110_s0 => ((j110_s0 = sg_code32.getD ka 0 ∧ r3.toInt = 127) ∨ (j110_s0 = sg_code64.getD ka 0 ∧ r3.toInt ≠ 127)) ∧ va_P (dC, dI) cls (wz_162 pr gl fu pa pf sf pk pg pp pz pv pr_reason pr_place pr_scanner_r pr_stepCount pr_open pr_twoSides pr_waiting_r pr_waitingPlaces_r pr_waitingCount bo bob j88_bo_length bob cbob j88_bob h0 pr kn lt h0_localCount pe n4 h0_gives h0_depth h0_loopDepth to bo cs se pe cpe gpe) H ∧ va_D A (wz_162 pr gl fu pa pf sf pk pg pp pz pv pr_reason pr_place pr_scanner_r pr_stepCount pr_open pr_twoSides pr_waiting_r pr_waitingPlaces_r pr_waitingCount bo bob j88_bo_length bob cbob j88_bob h0 pr kn lt h0_localCount pe n4 h0_gives h0_depth h0_loopDepth to bo cs se pe cpe gpe) ∧ va_S A s.heap H locs ∧ lv_has ls 6 [(0, .ref h0), (1, .ref (sg sa ka)), (4, .int r3), (5, .int j30_s0)]) (fun u => match u with | j110_s0 => [.int j110_s0, .ref bo]) ?_ (fun jn110 => ?_)
              · intro u H locs ls hI
                obtain ⟨j110_s0, rfl⟩ : ∃ z, z = u := ⟨_, rfl⟩
                obtain ⟨y110, hP, hD, hS, hl⟩ := hI
                have hPc := hP.sb (wq := (wz_94 bo bob j88_bo_length bob cbob j88_bob)) [1, 2] rfl
                have hDc := hD.sb (wq := (wz_94 bo bob j88_bo_length bob cbob j88_bob)) [1, 2] (by decide) rfl
                have hKc := hK.sb (tyq := [(cbob, .byte)]) [1] rfl
                have hFc := va_free (wc := (wz_94 bo bob j88_bo_length bob cbob j88_bob)) hD hS hA [1, 2] rfl
                refine va_callv (va_runV (As := [.int j110_s0]) (rest := []) ⟨hx, hb, hml, hown, hts⟩ (c_BR_put l dC dI bo bob H.size cbob 8192 j88_bo_length j88_bob (by (first | (apply Int.le_antisymm <;> omega) | omega)) (by (first | (apply Int.le_antisymm <;> omega) | omega)) (by (first | (apply Int.le_antisymm <;> omega) | omega)) j110_s0) (cwV 1 hts (gV kM_CO_76 kV_BR_put kS_BR_put kI_BR kC_BR_put) rfl rfl rfl (by decide +kernel) ⟨Nat.le_of_ble_eq_true rfl, Nat.le_of_ble_eq_true rfl⟩) ⟨fun a U g mk z => by obtain ⟨z0, z1, zP, zK, zD⟩ := z; exact ⟨z0, z1, zP, va_K.moved (u := U) (U := U.calling g mk a) (Vm.Alike.refl U.vm) zK, zD⟩, va_recv hKc hPc (ci := 1) (q0 := 0) rfl rfl, fun U hU hW => ⟨rfl, by rw [hU], va_P.he hU.symm hPc, va_K.moved hW.alike hKc, hDc.weaken (fun _ _ _ _ => trivial)⟩⟩ rfl rfl hl.1 rfl (lv_room (Nat.le_of_ble_eq_true rfl)) d_CO_codeTwoSides_110 ⟨(Nat.zero_le _), (Nat.zero_le _)⟩) hS (fun q _ h => hFc q h) hFc (fun u t H1 locs ht hvm hw hB hz1 hk1 hS => ?_)
                obtain ⟨n9, f10⟩ := u
                try dsimp only at hw
                have tn9 := br_put_in (by (first | (apply Int.le_antisymm <;> omega) | omega)) (by (first | (apply Int.le_antisymm <;> omega) | omega)) (by (first | (apply Int.le_antisymm <;> omega) | omega)) hw
                have bn9 := br_put_bl (by (first | (apply Int.le_antisymm <;> omega) | omega)) (by (first | (apply Int.le_antisymm <;> omega) | omega)) (by (first | (apply Int.le_antisymm <;> omega) | omega)) hw
                obtain ⟨hP1, hK1, hD1⟩ := hB
                replace hP1 := va_P.he ht hP1
                obtain ⟨hP, hD⟩ := va_join (wr := (wz_155 pr gl fu pa pf sf pk pg pp pz pv pr_reason pr_place pr_scanner_r pr_stepCount pr_open pr_twoSides pr_waiting_r pr_waitingPlaces_r pr_waitingCount h0 pr kn lt h0_localCount pe n4 h0_gives h0_depth h0_loopDepth to bo cs se pe cpe gpe)) (w1 := (wz_94 bo bob n9 bob cbob f10)) hP hD [1, 2] [0, 3, 4] rfl rfl (by decide) (by decide) hk1 hFc hP1 hD1
                clear hPc hDc hKc hFc hz1 hk1 hP1 hK1 hD1
                rename Heap => H
                have hP : va_P (dC, dI) cls (wz_163 pr gl fu pa pf sf pk pg pp pz pv pr_reason pr_place pr_scanner_r pr_stepCount pr_open pr_twoSides pr_waiting_r pr_waitingPlaces_r pr_waitingCount h0 pr kn lt h0_localCount pe n4 h0_gives h0_depth h0_loopDepth to bo cs se pe cpe gpe bo bob n9 bob cbob f10) H := hP
                have hD : va_D A (wz_163 pr gl fu pa pf sf pk pg pp pz pv pr_reason pr_place pr_scanner_r pr_stepCount pr_open pr_twoSides pr_waiting_r pr_waitingPlaces_r pr_waitingCount h0 pr kn lt h0_localCount pe n4 h0_gives h0_depth h0_loopDepth to bo cs se pe cpe gpe bo bob n9 bob cbob f10) := hD
                have hm3 := bn9 (by (first | (apply Int.le_antisymm <;> omega) | omega))
                rw [e88, List.append_assoc] at hm3
                have cm3 : (ka = 36 → (M88 ++ [bn j110_s0]) = [65, 0, 71]) ∧ (ka = 37 → (M88 ++ [bn j110_s0]) = [65, 0, 71]) ∧ (38 ≤ ka → ∃ op : Int, two op ∧ (M88 ++ [bn j110_s0]) = [op.toNat]) := by
                  refine ⟨fun z => ?_, fun z => ?_, fun z => ?_⟩
                  · have q : j110_s0 = sg_code32.getD 36 0 := by rcases y110 with y | y; (rw [z] at y; exact y.1); exact absurd (y66.2.2 (Or.inl z)) y.2
                    rcases c88 with w | w; (rw [w.2, q]; decide); exact absurd z w.1.1
                  · have q : j110_s0 = sg_code32.getD 37 0 := by rcases y110 with y | y; (rw [z] at y; exact y.1); exact absurd (y66.2.2 (Or.inr z)) y.2
                    rcases c88 with w | w; (rw [w.2, q]; decide); exact absurd z w.1.2
                  · have q : two j110_s0.toInt := by have q := sg_two ka hka.2 z; rcases y110 with y | y; (rw [y.1]; exact q.1); (rw [y.1]; exact q.2)
                    have q2 := q; unfold two at q2
                    rcases c88 with w | w; (exfalso; (first | (apply Int.le_antisymm <;> omega) | omega)); exact ⟨_, q, by rw [w.2, bn_s (by (first | (apply Int.le_antisymm <;> omega) | omega)) (by (first | (apply Int.le_antisymm <;> omega) | omega))]; rfl⟩
                refine lv_aload_n hx hb d_CO_codeTwoSides_113 rfl (lv_at hl 1 rfl) ?_
                refine va_gets (C := "WaferForge$Sign") (n := "AND") (d := "LWaferForge$Sign;") (v := .ref (sg sa 37)) hx hb ((hSW.2.2.2.1.1 37 (by decide)).1) hS hown (hts _ kF_CO_227) (fun _ h9 => h9) d_CO_codeTwoSides_114 ?_
                refine w_cut (pc2 := 145) (σ := (Nat → Int32) × Int32) (fun u H locs ls => match u with | (j145_bob, j145_bo_length) => (0 ≤ j145_bo_length.toInt ∧ j145_bo_length.toInt ≤ 8192) ∧ (∃ M : List Nat, bl j145_bob j145_bo_length.toNatClampNeg = bl gbob bo_length.toNatClampNeg ++ M ∧ ((ka = 36 → M = [65, 0, 71]) ∧ (ka = 37 → M = [65, 0, 71, 5, 65, 0]) ∧ (38 ≤ ka → ∃ op : Int, two op ∧ M = [op.toNat])) ∧ j145_bo_length.toInt = bo_length.toInt + (M.length : Int)) ∧ va_P (dC, dI) cls (wz_163 pr gl fu pa pf sf pk pg pp pz pv pr_reason pr_place pr_scanner_r pr_stepCount pr_open pr_twoSides pr_waiting_r pr_waitingPlaces_r pr_waitingCount h0 pr kn lt h0_localCount pe n4 h0_gives h0_depth h0_loopDepth to bo cs se pe cpe gpe bo bob j145_bo_length bob cbob j145_bob) H ∧ va_D A (wz_163 pr gl fu pa pf sf pk pg pp pz pv pr_reason pr_place pr_scanner_r pr_stepCount pr_open pr_twoSides pr_waiting_r pr_waitingPlaces_r pr_waitingCount h0 pr kn lt h0_localCount pe n4 h0_gives h0_depth h0_loopDepth to bo cs se pe cpe gpe bo bob j145_bo_length bob cbob j145_bob) ∧ va_S A s.heap H locs ∧ lv_has ls 6 [(0, .ref h0), (1, .ref (sg sa ka)), (4, .int r3), (5, .int j30_s0)]) (fun u => match u with | (j145_bob, j145_bo_length) => []) ?_ (fun jn145 => ?_)
                · intro u H locs ls hI
                  obtain ⟨j145_bob, j145_bo_length⟩ := u
                  obtain ⟨b_j145_bo_length, hm, hP, hD, hS, hl⟩ := hI
                  obtain ⟨M145, e145, cc145, n145⟩ := hm
                  have l145 : (M145.length : Int) ≤ 6 := by rcases (show ka = 36 ∨ ka = 37 ∨ 38 ≤ ka from by clear cc145 n145; (first | (apply Int.le_antisymm <;> omega) | omega)) with z | z | z; (rw [cc145.1 z]; decide); (rw [cc145.2.1 z]; decide); (obtain ⟨op, -, e⟩ := cc145.2.2 z; rw [e, List.length_singleton]; decide)
                  have cb145 := (show bx _ from cc145)
                  refine lv_iload hx hb d_CO_codeTwoSides_145 (lv_at hl 3 rfl) ?_
                  refine w_cut (pc2 := 159) (σ := (Nat → Int32) × Int32) (fun u H locs ls => match u with | (j159_bob, j159_bo_length) => (0 ≤ j159_bo_length.toInt ∧ j159_bo_length.toInt ≤ 8192) ∧ (∃ M : List Nat, bl j159_bob j159_bo_length.toNatClampNeg = bl gbob bo_length.toNatClampNeg ++ M ∧ ((ka = 36 → M = [65, 0, 71, 11]) ∧ (ka = 37 → M = [65, 0, 71, 5, 65, 0, 11]) ∧ (38 ≤ ka → ∃ op : Int, two op ∧ M = [op.toNat])) ∧ j159_bo_length.toInt = bo_length.toInt + (M.length : Int)) ∧ va_P (dC, dI) cls (wz_163 pr gl fu pa pf sf pk pg pp pz pv pr_reason pr_place pr_scanner_r pr_stepCount pr_open pr_twoSides pr_waiting_r pr_waitingPlaces_r pr_waitingCount h0 pr kn lt h0_localCount pe n4 h0_gives h0_depth h0_loopDepth to bo cs se pe cpe gpe bo bob j159_bo_length bob cbob j159_bob) H ∧ va_D A (wz_163 pr gl fu pa pf sf pk pg pp pz pv pr_reason pr_place pr_scanner_r pr_stepCount pr_open pr_twoSides pr_waiting_r pr_waitingPlaces_r pr_waitingCount h0 pr kn lt h0_localCount pe n4 h0_gives h0_depth h0_loopDepth to bo cs se pe cpe gpe bo bob j159_bo_length bob cbob j159_bob) ∧ va_S A s.heap H locs ∧ lv_has ls 6 [(0, .ref h0), (1, .ref (sg sa ka)), (4, .int r3)]) (fun u => match u with | (j159_bob, j159_bo_length) => []) ?_ (fun jn159 => ?_)
                  · intro u H locs ls hI
                    obtain ⟨j159_bob, j159_bo_length⟩ := u
                    obtain ⟨b_j159_bo_length, hm, hP, hD, hS, hl⟩ := hI
                    obtain ⟨M159, e159, cc159, n159⟩ := hm
                    refine lv_aload_n hx hb d_CO_codeTwoSides_159 rfl (lv_at hl 0 rfl) ?_
                    refine lv_aload_n hx hb d_CO_codeTwoSides_160 rfl (lv_at hl 1 rfl) ?_
                    refine va_getE (i := ka) (q := ("WaferForge$Sign", "level", "I", sg_level)) hx hb hSW.2.2.2.1 ba0 hS hown (List.mem_of_getElem? (i := 1) rfl) (hts _ kF_CO_236) (fun _ h9 => h9) d_CO_codeTwoSides_161 ?_
                    refine lv_topi (fun x11 ex11 => ?_)
                    have ex11 : x11 = sg_level.getD ka 0 := ex11
                    refine lv_iconst (v := 3) hx hb d_CO_codeTwoSides_164 (by decide) ?_
                    refine w_cut (pc2 := 175) (σ := Int32) (fun u H locs ls => match u with | j175_s0 => (((ka = 36 ∨ ka = 37) → j175_s0.toInt = 127) ∧ (j175_s0.toInt = 127 ∨ j175_s0.toInt = r3.toInt)) ∧ va_P (dC, dI) cls (wz_163 pr gl fu pa pf sf pk pg pp pz pv pr_reason pr_place pr_scanner_r pr_stepCount pr_open pr_twoSides pr_waiting_r pr_waitingPlaces_r pr_waitingCount h0 pr kn lt h0_localCount pe n4 h0_gives h0_depth h0_loopDepth to bo cs se pe cpe gpe bo bob j159_bo_length bob cbob j159_bob) H ∧ va_D A (wz_163 pr gl fu pa pf sf pk pg pp pz pv pr_reason pr_place pr_scanner_r pr_stepCount pr_open pr_twoSides pr_waiting_r pr_waitingPlaces_r pr_waitingCount h0 pr kn lt h0_localCount pe n4 h0_gives h0_depth h0_loopDepth to bo cs se pe cpe gpe bo bob j159_bo_length bob cbob j159_bob) ∧ va_S A s.heap H locs ∧ lv_has ls 6 []) (fun u => match u with | j175_s0 => [.int j175_s0, .ref h0]) ?_ (fun jn175 => ?_)
                    · intro u H locs ls hI
                      obtain ⟨j175_s0, rfl⟩ : ∃ z, z = u := ⟨_, rfl⟩
                      obtain ⟨y175, hP, hD, hS, hl⟩ := hI
                      have hPc := hP.sb (wq := (wz_149 h0 pr kn lt h0_localCount pe n4 h0_gives h0_depth h0_loopDepth to bo cs se pe cpe gpe)) [1, 2] rfl
                      have hDc := hD.sb (wq := (wz_149 h0 pr kn lt h0_localCount pe n4 h0_gives h0_depth h0_loopDepth to bo cs se pe cpe gpe)) [1, 2] (by decide) rfl
                      have hKc := hK.sb (tyq := [(cpe, .int)]) [0] rfl
                      have hFc := va_free (wc := (wz_149 h0 pr kn lt h0_localCount pe n4 h0_gives h0_depth h0_loopDepth to bo cs se pe cpe gpe)) hD hS hA [1, 2] rfl
                      refine va_callv (va_runV (As := [.int j175_s0]) (rest := []) ⟨hx, hb, hml, hown, hts⟩ (c_CO_push l dC dI H.size h0 pr kn lt pe to bo cs se cpe h0_localCount n4 h0_gives h0_depth h0_loopDepth gpe (bn4) j175_s0 (by (try dsimp only) <;> (first | (apply Int.le_antisymm <;> omega) | omega))) (cwV 1 hts (gV kM_CO_183 kV_CO_push kS_CO_push kI_CO kC_CO_push) rfl rfl rfl (by decide +kernel) ⟨Nat.le_of_ble_eq_true rfl, Nat.le_of_ble_eq_true rfl⟩) ⟨fun a U g mk z => by obtain ⟨z0, z1, zP, zK, zD⟩ := z; exact ⟨z0, z1, zP, va_K.moved (u := U) (U := U.calling g mk a) (Vm.Alike.refl U.vm) zK, zD⟩, va_recv hKc hPc (ci := 2) (q0 := 0) rfl rfl, fun U hU hW => ⟨rfl, by rw [hU], va_P.he hU.symm hPc, va_K.moved hW.alike hKc, hDc.weaken (fun _ _ _ _ => trivial)⟩⟩ rfl rfl hl.1 rfl (lv_room (Nat.le_of_ble_eq_true rfl)) d_CO_codeTwoSides_175 ⟨(Nat.zero_le _), (Nat.zero_le _)⟩) hS (fun q _ h => hFc q h) hFc (fun u t H1 locs ht hvm hw hB hz1 hk1 hS => ?_)
                      obtain ⟨n13, n14⟩ := u
                      try dsimp only at hw
                      obtain ⟨bn14, xr12⟩ := hw
                      try clear hw
                      obtain ⟨hP1, hK1, hD1⟩ := hB
                      replace hP1 := va_P.he ht hP1
                      obtain ⟨hP, hD⟩ := va_join (wr := (wz_161 pr gl fu pa pf sf pk pg pp pz pv pr_reason pr_place pr_scanner_r pr_stepCount pr_open pr_twoSides pr_waiting_r pr_waitingPlaces_r pr_waitingCount bo bob j159_bo_length bob cbob j159_bob)) (w1 := (wz_149 h0 pr kn lt h0_localCount pe n14 h0_gives h0_depth h0_loopDepth to bo cs se pe cpe n13)) hP hD [1, 2] [0, 3, 4] rfl rfl (by decide) (by decide) hk1 hFc hP1 hD1
                      clear hPc hDc hKc hFc hz1 hk1 hP1 hK1 hD1
                      rename Heap => H
                      have hP : va_P (dC, dI) cls (wz_162 pr gl fu pa pf sf pk pg pp pz pv pr_reason pr_place pr_scanner_r pr_stepCount pr_open pr_twoSides pr_waiting_r pr_waitingPlaces_r pr_waitingCount bo bob j159_bo_length bob cbob j159_bob h0 pr kn lt h0_localCount pe n14 h0_gives h0_depth h0_loopDepth to bo cs se pe cpe n13) H := hP
                      have hD : va_D A (wz_162 pr gl fu pa pf sf pk pg pp pz pv pr_reason pr_place pr_scanner_r pr_stepCount pr_open pr_twoSides pr_waiting_r pr_waitingPlaces_r pr_waitingCount bo bob j159_bo_length bob cbob j159_bob h0 pr kn lt h0_localCount pe n14 h0_gives h0_depth h0_loopDepth to bo cs se pe cpe n13) := hD
                      have hP9 := hP.sb (wq := (wz_160 h0 pr kn lt h0_localCount pe n14 h0_gives h0_depth h0_loopDepth to bo cs se pr gl fu pa pf sf pk pg pp pz pv pr_reason pr_place pr_scanner_r pr_stepCount pr_open pr_twoSides pr_waiting_r pr_waitingPlaces_r pr_waitingCount pe cpe n13 bo bob j159_bo_length bob cbob j159_bob)) [3, 0, 4, 1, 2] rfl
                      have hD9 := hD.sb (wq := (wz_160 h0 pr kn lt h0_localCount pe n14 h0_gives h0_depth h0_loopDepth to bo cs se pr gl fu pa pf sf pk pg pp pz pv pr_reason pr_place pr_scanner_r pr_stepCount pr_open pr_twoSides pr_waiting_r pr_waitingPlaces_r pr_waitingCount pe cpe n13 bo bob j159_bo_length bob cbob j159_bob)) [3, 0, 4, 1, 2] (by decide) rfl
                      exact tz_up (fun _ => rfl) (W.vret hx hb hr (fun t ht hW => ⟨⟨(j159_bob, n13, j159_bo_length, n14, pr_place, pr_reason), ⟨rfl, ⟨b_j159_bo_length, bn14, ⟨by (try dsimp only) <;> (first | (apply Int.le_antisymm <;> omega) | omega), by rw [show (h0_pendingCount.toInt - 1).toNat = n2.toNatClampNeg from by have := i32_clamp (x := n2) (by (first | (apply Int.le_antisymm <;> omega) | omega)); (first | (apply Int.le_antisymm <;> omega) | omega), ← xr1.2]; (first | (apply Int.le_antisymm <;> omega) | omega), by rw [show (h0_pendingCount.toInt - 2).toNat = n4.toNatClampNeg from by have := i32_clamp (x := n4) (by (first | (apply Int.le_antisymm <;> omega) | omega)); (first | (apply Int.le_antisymm <;> omega) | omega), ← xr3.2]; (first | (apply Int.le_antisymm <;> omega) | omega), by rw [show (h0_pendingCount.toInt - 1).toNat = n2.toNatClampNeg from by have := i32_clamp (x := n2) (by (first | (apply Int.le_antisymm <;> omega) | omega)); (first | (apply Int.le_antisymm <;> omega) | omega), ← xr1.2, show (h0_pendingCount.toInt - 2).toNat = n4.toNatClampNeg from by have := i32_clamp (x := n4) (by (first | (apply Int.le_antisymm <;> omega) | omega)); (first | (apply Int.le_antisymm <;> omega) | omega), ← xr3.2]; intro z; have := y66.2.2 z; (first | (apply Int.le_antisymm <;> omega) | omega), ⟨j175_s0, by rw [show (h0_pendingCount.toInt - 2).toNat = n4.toNatClampNeg from by have := i32_clamp (x := n4) (by (first | (apply Int.le_antisymm <;> omega) | omega)); (first | (apply Int.le_antisymm <;> omega) | omega)]; exact xr12.2, y175.1, by have := hty; rw [show (h0_pendingCount.toInt - 2).toNat = n4.toNatClampNeg from by have := i32_clamp (x := n4) (by (first | (apply Int.le_antisymm <;> omega) | omega)); (first | (apply Int.le_antisymm <;> omega) | omega), ← xr3.2] at this; have := y175.2; (first | (apply Int.le_antisymm <;> omega) | omega)⟩, M159, e159, cc159, n159⟩⟩⟩, va_P.he ht.symm hP9, va_K.moved hW.alike hK, hD9⟩, hS.F ht⟩) hS.2.2 d_CO_codeTwoSides_178)
                    · skip
                      refine lv_icmp_ne (tgt := 173) hx hb d_CO_codeTwoSides_165 (by decide) (fun c165 => ?_) (fun c165 => ?_)
                      · have q165 := neI c165
                        refine lv_iload hx hb d_CO_codeTwoSides_173 (lv_at hl 2 rfl) ?_
                        exact jn175 r3 _ _ _ ⟨⟨fun z => y66.2.2 z, Or.inr rfl⟩, hP, hD, hS, lv_sub hl [] rfl⟩
                      · have q165 := eqI c165
                        refine lv_bipush (v := 127) hx hb d_CO_codeTwoSides_168 (by decide) ?_
                        refine lv_goto (tgt := 175) hx hb d_CO_codeTwoSides_170 (by decide) ?_
                        exact jn175 127 _ _ _ ⟨⟨fun _ => by decide, Or.inl (by decide)⟩, hP, hD, hS, lv_sub hl [] rfl⟩
                  · skip
                    refine lv_if_eq (tgt := 159) hx hb d_CO_codeTwoSides_147 (by decide) (fun c147 => ?_) (fun c147 => ?_)
                    · have q147 := eqI c147
                      exact jn159 (j145_bob, j145_bo_length) _ _ _ ⟨b_j145_bo_length, ⟨M145, e145, (by have nl : (ka ≠ 36 ∧ ka ≠ 37) := (by rcases y30 with z | z; (exfalso; rw [z.1] at c147; exact absurd c147 (by decide)); exact z.2); exact ⟨fun z => absurd z nl.1, fun z => absurd z nl.2, cc145.2.2⟩), n145⟩, hP, hD, hS, lv_sub hl [0, 1, 2] rfl⟩
                    · have q147 := neI c147
                      have k150 : (ka = 36 ∨ ka = 37) := (by rcases y30 with z | z; exact z.2; (exfalso; rw [z.1] at q147; exact q147 rfl))
                      refine lv_aload_n hx hb d_CO_codeTwoSides_150 rfl (lv_at hl 0 rfl) ?_
                      refine va_get (D := (dC, dI)) (ci := 2) (v := .ref bo) (C := R_CO) (T := F_CO) (N := 13) hx hb hts i_CO hown hK hP 1 rfl rfl 10 (by decide) (hts _ kF_CO_26) (fun _ h9 => h9) rfl d_CO_codeTwoSides_151 ?_
                      refine lv_bipush (v := 11) hx hb d_CO_codeTwoSides_154 (by decide) ?_
                      have hPc := hP.sb (wq := (wz_94 bo bob j145_bo_length bob cbob j145_bob)) [3, 4] rfl
                      have hDc := hD.sb (wq := (wz_94 bo bob j145_bo_length bob cbob j145_bob)) [3, 4] (by decide) rfl
                      have hKc := hK.sb (tyq := [(cbob, .byte)]) [1] rfl
                      have hFc := va_free (wc := (wz_94 bo bob j145_bo_length bob cbob j145_bob)) hD hS hA [3, 4] rfl
                      refine va_callv (va_runV (As := [.int 11]) (rest := []) ⟨hx, hb, hml, hown, hts⟩ (c_BR_put l dC dI bo bob H.size cbob 8192 j145_bo_length j145_bob (by (first | (apply Int.le_antisymm <;> omega) | omega)) (by (first | (apply Int.le_antisymm <;> omega) | omega)) (by (first | (apply Int.le_antisymm <;> omega) | omega)) 11) (cwV 1 hts (gV kM_CO_76 kV_BR_put kS_BR_put kI_BR kC_BR_put) rfl rfl rfl (by decide +kernel) ⟨Nat.le_of_ble_eq_true rfl, Nat.le_of_ble_eq_true rfl⟩) ⟨fun a U g mk z => by obtain ⟨z0, z1, zP, zK, zD⟩ := z; exact ⟨z0, z1, zP, va_K.moved (u := U) (U := U.calling g mk a) (Vm.Alike.refl U.vm) zK, zD⟩, va_recv hKc hPc (ci := 1) (q0 := 0) rfl rfl, fun U hU hW => ⟨rfl, by rw [hU], va_P.he hU.symm hPc, va_K.moved hW.alike hKc, hDc.weaken (fun _ _ _ _ => trivial)⟩⟩ rfl rfl hl.1 rfl (lv_room (Nat.le_of_ble_eq_true rfl)) d_CO_codeTwoSides_156 ⟨(Nat.zero_le _), (Nat.zero_le _)⟩) hS (fun q _ h => hFc q h) hFc (fun u t H1 locs ht hvm hw hB hz1 hk1 hS => ?_)
                      obtain ⟨n16, f17⟩ := u
                      try dsimp only at hw
                      have tn16 := br_put_in (by (first | (apply Int.le_antisymm <;> omega) | omega)) (by (first | (apply Int.le_antisymm <;> omega) | omega)) (by (first | (apply Int.le_antisymm <;> omega) | omega)) hw
                      have bn16 := br_put_bl (by (first | (apply Int.le_antisymm <;> omega) | omega)) (by (first | (apply Int.le_antisymm <;> omega) | omega)) (by (first | (apply Int.le_antisymm <;> omega) | omega)) hw
                      obtain ⟨hP1, hK1, hD1⟩ := hB
                      replace hP1 := va_P.he ht hP1
                      obtain ⟨hP, hD⟩ := va_join (wr := (wz_155 pr gl fu pa pf sf pk pg pp pz pv pr_reason pr_place pr_scanner_r pr_stepCount pr_open pr_twoSides pr_waiting_r pr_waitingPlaces_r pr_waitingCount h0 pr kn lt h0_localCount pe n4 h0_gives h0_depth h0_loopDepth to bo cs se pe cpe gpe)) (w1 := (wz_94 bo bob n16 bob cbob f17)) hP hD [3, 4] [0, 1, 2] rfl rfl (by decide) (by decide) hk1 hFc hP1 hD1
                      clear hPc hDc hKc hFc hz1 hk1 hP1 hK1 hD1
                      rename Heap => H
                      have hP : va_P (dC, dI) cls (wz_163 pr gl fu pa pf sf pk pg pp pz pv pr_reason pr_place pr_scanner_r pr_stepCount pr_open pr_twoSides pr_waiting_r pr_waitingPlaces_r pr_waitingCount h0 pr kn lt h0_localCount pe n4 h0_gives h0_depth h0_loopDepth to bo cs se pe cpe gpe bo bob n16 bob cbob f17) H := hP
                      have hD : va_D A (wz_163 pr gl fu pa pf sf pk pg pp pz pv pr_reason pr_place pr_scanner_r pr_stepCount pr_open pr_twoSides pr_waiting_r pr_waitingPlaces_r pr_waitingCount h0 pr kn lt h0_localCount pe n4 h0_gives h0_depth h0_loopDepth to bo cs se pe cpe gpe bo bob n16 bob cbob f17) := hD
                      exact jn159 (f17, n16) _ _ _ ⟨by (try dsimp only) <;> (first | (apply Int.le_antisymm <;> omega) | omega), ⟨M145 ++ [11], by rw [bn16 (by (first | (apply Int.le_antisymm <;> omega) | omega)), e145, List.append_assoc]; rfl, ⟨fun z => by rw [cc145.1 z]; rfl, fun z => by rw [cc145.2.1 z]; rfl, fun z => absurd k150 (by (first | (apply Int.le_antisymm <;> omega) | omega))⟩, by rw [List.length_append, List.length_singleton]; (first | (apply Int.le_antisymm <;> omega) | omega)⟩, hP, hD, hS, lv_sub hl [0, 1, 2] rfl⟩
                · skip
                  refine lv_acmp_ne (rx := some (sg sa ka)) (ry := some (sg sa 37)) (tgt := 145) hx hb d_CO_codeTwoSides_117 (by decide) (fun c117 => ?_) (fun c117 => ?_)
                  · have q117 : ka ≠ 37 := fun z => c117 (by rw [z])
                    exact jn145 (f10, n9) _ _ _ ⟨by (try dsimp only) <;> (first | (apply Int.le_antisymm <;> omega) | omega), ⟨M88 ++ [bn j110_s0], hm3, ⟨cm3.1, fun z => absurd z q117, cm3.2.2⟩, by rw [List.length_append, List.length_singleton]; (first | (apply Int.le_antisymm <;> omega) | omega)⟩, hP, hD, hS, lv_sub hl [0, 1, 2, 3] rfl⟩
                  · have q117 : ka = 37 := hSW.2.2.2.1.2 ka 37 ba0 (by decide : 37 < 55) (Option.some.inj c117)
                    refine lv_aload_n hx hb d_CO_codeTwoSides_120 rfl (lv_at hl 0 rfl) ?_
                    refine va_get (D := (dC, dI)) (ci := 2) (v := .ref bo) (C := R_CO) (T := F_CO) (N := 13) hx hb hts i_CO hown hK hP 1 rfl rfl 10 (by decide) (hts _ kF_CO_26) (fun _ h9 => h9) rfl d_CO_codeTwoSides_121 ?_
                    refine lv_iconst (v := 5) hx hb d_CO_codeTwoSides_124 (by decide) ?_
                    have hPc := hP.sb (wq := (wz_94 bo bob n9 bob cbob f10)) [3, 4] rfl
                    have hDc := hD.sb (wq := (wz_94 bo bob n9 bob cbob f10)) [3, 4] (by decide) rfl
                    have hKc := hK.sb (tyq := [(cbob, .byte)]) [1] rfl
                    have hFc := va_free (wc := (wz_94 bo bob n9 bob cbob f10)) hD hS hA [3, 4] rfl
                    refine va_callv (va_runV (As := [.int 5]) (rest := []) ⟨hx, hb, hml, hown, hts⟩ (c_BR_put l dC dI bo bob H.size cbob 8192 n9 f10 (by (first | (apply Int.le_antisymm <;> omega) | omega)) (by (first | (apply Int.le_antisymm <;> omega) | omega)) (by (first | (apply Int.le_antisymm <;> omega) | omega)) 5) (cwV 1 hts (gV kM_CO_76 kV_BR_put kS_BR_put kI_BR kC_BR_put) rfl rfl rfl (by decide +kernel) ⟨Nat.le_of_ble_eq_true rfl, Nat.le_of_ble_eq_true rfl⟩) ⟨fun a U g mk z => by obtain ⟨z0, z1, zP, zK, zD⟩ := z; exact ⟨z0, z1, zP, va_K.moved (u := U) (U := U.calling g mk a) (Vm.Alike.refl U.vm) zK, zD⟩, va_recv hKc hPc (ci := 1) (q0 := 0) rfl rfl, fun U hU hW => ⟨rfl, by rw [hU], va_P.he hU.symm hPc, va_K.moved hW.alike hKc, hDc.weaken (fun _ _ _ _ => trivial)⟩⟩ rfl rfl hl.1 rfl (lv_room (Nat.le_of_ble_eq_true rfl)) d_CO_codeTwoSides_125 ⟨(Nat.zero_le _), (Nat.zero_le _)⟩) hS (fun q _ h => hFc q h) hFc (fun u t H1 locs ht hvm hw hB hz1 hk1 hS => ?_)
                    obtain ⟨n19, f20⟩ := u
                    try dsimp only at hw
                    have tn19 := br_put_in (by (first | (apply Int.le_antisymm <;> omega) | omega)) (by (first | (apply Int.le_antisymm <;> omega) | omega)) (by (first | (apply Int.le_antisymm <;> omega) | omega)) hw
                    have bn19 := br_put_bl (by (first | (apply Int.le_antisymm <;> omega) | omega)) (by (first | (apply Int.le_antisymm <;> omega) | omega)) (by (first | (apply Int.le_antisymm <;> omega) | omega)) hw
                    obtain ⟨hP1, hK1, hD1⟩ := hB
                    replace hP1 := va_P.he ht hP1
                    obtain ⟨hP, hD⟩ := va_join (wr := (wz_155 pr gl fu pa pf sf pk pg pp pz pv pr_reason pr_place pr_scanner_r pr_stepCount pr_open pr_twoSides pr_waiting_r pr_waitingPlaces_r pr_waitingCount h0 pr kn lt h0_localCount pe n4 h0_gives h0_depth h0_loopDepth to bo cs se pe cpe gpe)) (w1 := (wz_94 bo bob n19 bob cbob f20)) hP hD [3, 4] [0, 1, 2] rfl rfl (by decide) (by decide) hk1 hFc hP1 hD1
                    clear hPc hDc hKc hFc hz1 hk1 hP1 hK1 hD1
                    rename Heap => H
                    have hP : va_P (dC, dI) cls (wz_163 pr gl fu pa pf sf pk pg pp pz pv pr_reason pr_place pr_scanner_r pr_stepCount pr_open pr_twoSides pr_waiting_r pr_waitingPlaces_r pr_waitingCount h0 pr kn lt h0_localCount pe n4 h0_gives h0_depth h0_loopDepth to bo cs se pe cpe gpe bo bob n19 bob cbob f20) H := hP
                    have hD : va_D A (wz_163 pr gl fu pa pf sf pk pg pp pz pv pr_reason pr_place pr_scanner_r pr_stepCount pr_open pr_twoSides pr_waiting_r pr_waitingPlaces_r pr_waitingCount h0 pr kn lt h0_localCount pe n4 h0_gives h0_depth h0_loopDepth to bo cs se pe cpe gpe bo bob n19 bob cbob f20) := hD
                    refine lv_aload_n hx hb d_CO_codeTwoSides_128 rfl (lv_at hl 0 rfl) ?_
                    refine va_get (D := (dC, dI)) (ci := 2) (v := .ref bo) (C := R_CO) (T := F_CO) (N := 13) hx hb hts i_CO hown hK hP 1 rfl rfl 10 (by decide) (hts _ kF_CO_26) (fun _ h9 => h9) rfl d_CO_codeTwoSides_129 ?_
                    refine lv_bipush (v := 65) hx hb d_CO_codeTwoSides_132 (by decide) ?_
                    have hPc := hP.sb (wq := (wz_94 bo bob n19 bob cbob f20)) [3, 4] rfl
                    have hDc := hD.sb (wq := (wz_94 bo bob n19 bob cbob f20)) [3, 4] (by decide) rfl
                    have hKc := hK.sb (tyq := [(cbob, .byte)]) [1] rfl
                    have hFc := va_free (wc := (wz_94 bo bob n19 bob cbob f20)) hD hS hA [3, 4] rfl
                    refine va_callv (va_runV (As := [.int 65]) (rest := []) ⟨hx, hb, hml, hown, hts⟩ (c_BR_put l dC dI bo bob H.size cbob 8192 n19 f20 (by (first | (apply Int.le_antisymm <;> omega) | omega)) (by (first | (apply Int.le_antisymm <;> omega) | omega)) (by (first | (apply Int.le_antisymm <;> omega) | omega)) 65) (cwV 1 hts (gV kM_CO_76 kV_BR_put kS_BR_put kI_BR kC_BR_put) rfl rfl rfl (by decide +kernel) ⟨Nat.le_of_ble_eq_true rfl, Nat.le_of_ble_eq_true rfl⟩) ⟨fun a U g mk z => by obtain ⟨z0, z1, zP, zK, zD⟩ := z; exact ⟨z0, z1, zP, va_K.moved (u := U) (U := U.calling g mk a) (Vm.Alike.refl U.vm) zK, zD⟩, va_recv hKc hPc (ci := 1) (q0 := 0) rfl rfl, fun U hU hW => ⟨rfl, by rw [hU], va_P.he hU.symm hPc, va_K.moved hW.alike hKc, hDc.weaken (fun _ _ _ _ => trivial)⟩⟩ rfl rfl hl.1 rfl (lv_room (Nat.le_of_ble_eq_true rfl)) d_CO_codeTwoSides_134 ⟨(Nat.zero_le _), (Nat.zero_le _)⟩) hS (fun q _ h => hFc q h) hFc (fun u t H1 locs ht hvm hw hB hz1 hk1 hS => ?_)
                    obtain ⟨n22, f23⟩ := u
                    try dsimp only at hw
                    have tn22 := br_put_in (by (first | (apply Int.le_antisymm <;> omega) | omega)) (by (first | (apply Int.le_antisymm <;> omega) | omega)) (by (first | (apply Int.le_antisymm <;> omega) | omega)) hw
                    have bn22 := br_put_bl (by (first | (apply Int.le_antisymm <;> omega) | omega)) (by (first | (apply Int.le_antisymm <;> omega) | omega)) (by (first | (apply Int.le_antisymm <;> omega) | omega)) hw
                    obtain ⟨hP1, hK1, hD1⟩ := hB
                    replace hP1 := va_P.he ht hP1
                    obtain ⟨hP, hD⟩ := va_join (wr := (wz_155 pr gl fu pa pf sf pk pg pp pz pv pr_reason pr_place pr_scanner_r pr_stepCount pr_open pr_twoSides pr_waiting_r pr_waitingPlaces_r pr_waitingCount h0 pr kn lt h0_localCount pe n4 h0_gives h0_depth h0_loopDepth to bo cs se pe cpe gpe)) (w1 := (wz_94 bo bob n22 bob cbob f23)) hP hD [3, 4] [0, 1, 2] rfl rfl (by decide) (by decide) hk1 hFc hP1 hD1
                    clear hPc hDc hKc hFc hz1 hk1 hP1 hK1 hD1
                    rename Heap => H
                    have hP : va_P (dC, dI) cls (wz_163 pr gl fu pa pf sf pk pg pp pz pv pr_reason pr_place pr_scanner_r pr_stepCount pr_open pr_twoSides pr_waiting_r pr_waitingPlaces_r pr_waitingCount h0 pr kn lt h0_localCount pe n4 h0_gives h0_depth h0_loopDepth to bo cs se pe cpe gpe bo bob n22 bob cbob f23) H := hP
                    have hD : va_D A (wz_163 pr gl fu pa pf sf pk pg pp pz pv pr_reason pr_place pr_scanner_r pr_stepCount pr_open pr_twoSides pr_waiting_r pr_waitingPlaces_r pr_waitingCount h0 pr kn lt h0_localCount pe n4 h0_gives h0_depth h0_loopDepth to bo cs se pe cpe gpe bo bob n22 bob cbob f23) := hD
                    refine lv_aload_n hx hb d_CO_codeTwoSides_137 rfl (lv_at hl 0 rfl) ?_
                    refine va_get (D := (dC, dI)) (ci := 2) (v := .ref bo) (C := R_CO) (T := F_CO) (N := 13) hx hb hts i_CO hown hK hP 1 rfl rfl 10 (by decide) (hts _ kF_CO_26) (fun _ h9 => h9) rfl d_CO_codeTwoSides_138 ?_
                    refine lv_iconst (v := 0) hx hb d_CO_codeTwoSides_141 (by decide) ?_
                    have hPc := hP.sb (wq := (wz_94 bo bob n22 bob cbob f23)) [3, 4] rfl
                    have hDc := hD.sb (wq := (wz_94 bo bob n22 bob cbob f23)) [3, 4] (by decide) rfl
                    have hKc := hK.sb (tyq := [(cbob, .byte)]) [1] rfl
                    have hFc := va_free (wc := (wz_94 bo bob n22 bob cbob f23)) hD hS hA [3, 4] rfl
                    refine va_callv (va_runV (As := [.int 0]) (rest := []) ⟨hx, hb, hml, hown, hts⟩ (c_BR_put l dC dI bo bob H.size cbob 8192 n22 f23 (by (first | (apply Int.le_antisymm <;> omega) | omega)) (by (first | (apply Int.le_antisymm <;> omega) | omega)) (by (first | (apply Int.le_antisymm <;> omega) | omega)) 0) (cwV 1 hts (gV kM_CO_76 kV_BR_put kS_BR_put kI_BR kC_BR_put) rfl rfl rfl (by decide +kernel) ⟨Nat.le_of_ble_eq_true rfl, Nat.le_of_ble_eq_true rfl⟩) ⟨fun a U g mk z => by obtain ⟨z0, z1, zP, zK, zD⟩ := z; exact ⟨z0, z1, zP, va_K.moved (u := U) (U := U.calling g mk a) (Vm.Alike.refl U.vm) zK, zD⟩, va_recv hKc hPc (ci := 1) (q0 := 0) rfl rfl, fun U hU hW => ⟨rfl, by rw [hU], va_P.he hU.symm hPc, va_K.moved hW.alike hKc, hDc.weaken (fun _ _ _ _ => trivial)⟩⟩ rfl rfl hl.1 rfl (lv_room (Nat.le_of_ble_eq_true rfl)) d_CO_codeTwoSides_142 ⟨(Nat.zero_le _), (Nat.zero_le _)⟩) hS (fun q _ h => hFc q h) hFc (fun u t H1 locs ht hvm hw hB hz1 hk1 hS => ?_)
                    obtain ⟨n25, f26⟩ := u
                    try dsimp only at hw
                    have tn25 := br_put_in (by (first | (apply Int.le_antisymm <;> omega) | omega)) (by (first | (apply Int.le_antisymm <;> omega) | omega)) (by (first | (apply Int.le_antisymm <;> omega) | omega)) hw
                    have bn25 := br_put_bl (by (first | (apply Int.le_antisymm <;> omega) | omega)) (by (first | (apply Int.le_antisymm <;> omega) | omega)) (by (first | (apply Int.le_antisymm <;> omega) | omega)) hw
                    obtain ⟨hP1, hK1, hD1⟩ := hB
                    replace hP1 := va_P.he ht hP1
                    obtain ⟨hP, hD⟩ := va_join (wr := (wz_155 pr gl fu pa pf sf pk pg pp pz pv pr_reason pr_place pr_scanner_r pr_stepCount pr_open pr_twoSides pr_waiting_r pr_waitingPlaces_r pr_waitingCount h0 pr kn lt h0_localCount pe n4 h0_gives h0_depth h0_loopDepth to bo cs se pe cpe gpe)) (w1 := (wz_94 bo bob n25 bob cbob f26)) hP hD [3, 4] [0, 1, 2] rfl rfl (by decide) (by decide) hk1 hFc hP1 hD1
                    clear hPc hDc hKc hFc hz1 hk1 hP1 hK1 hD1
                    rename Heap => H
                    have hP : va_P (dC, dI) cls (wz_163 pr gl fu pa pf sf pk pg pp pz pv pr_reason pr_place pr_scanner_r pr_stepCount pr_open pr_twoSides pr_waiting_r pr_waitingPlaces_r pr_waitingCount h0 pr kn lt h0_localCount pe n4 h0_gives h0_depth h0_loopDepth to bo cs se pe cpe gpe bo bob n25 bob cbob f26) H := hP
                    have hD : va_D A (wz_163 pr gl fu pa pf sf pk pg pp pz pv pr_reason pr_place pr_scanner_r pr_stepCount pr_open pr_twoSides pr_waiting_r pr_waitingPlaces_r pr_waitingCount h0 pr kn lt h0_localCount pe n4 h0_gives h0_depth h0_loopDepth to bo cs se pe cpe gpe bo bob n25 bob cbob f26) := hD
                    exact jn145 (f26, n25) _ _ _ ⟨by (try dsimp only) <;> (first | (apply Int.le_antisymm <;> omega) | omega), ⟨(M88 ++ [bn j110_s0]) ++ [5, 65, 0], by rw [bn25 (by (first | (apply Int.le_antisymm <;> omega) | omega)), bn22 (by (first | (apply Int.le_antisymm <;> omega) | omega)), bn19 (by (first | (apply Int.le_antisymm <;> omega) | omega)), hm3]; simp only [List.append_assoc]; rfl, ⟨fun z => absurd (q117.symm.trans z) (by decide), fun z => by rw [cm3.2.1 z]; rfl, fun z => absurd q117 (by (first | (apply Int.le_antisymm <;> omega) | omega))⟩, by rw [List.length_append, List.length_append, List.length_singleton]; simp only [List.length_cons, List.length_nil]; (first | (apply Int.le_antisymm <;> omega) | omega)⟩, hP, hD, hS, lv_sub hl [0, 1, 2, 3] rfl⟩
              · skip
                refine lv_icmp_ne (tgt := 106) hx hb d_CO_codeTwoSides_96 (by decide) (fun c96 => ?_) (fun c96 => ?_)
                · have q96 := neI c96
                  refine lv_aload_n hx hb d_CO_codeTwoSides_106 rfl (lv_at hl 1 rfl) ?_
                  refine va_getE (i := ka) (q := ("WaferForge$Sign", "code64", "I", sg_code64)) hx hb hSW.2.2.2.1 ba0 hS hown (List.mem_of_getElem? (i := 3) rfl) (hts _ kF_CO_233) (fun _ h9 => h9) d_CO_codeTwoSides_107 ?_
                  refine lv_topi (fun x27 ex27 => ?_)
                  have ex27 : x27 = sg_code64.getD ka 0 := ex27
                  exact jn110 x27 _ _ _ ⟨Or.inr ⟨ex27, by (first | (apply Int.le_antisymm <;> omega) | omega)⟩, hP, hD, hS, lv_sub hl [0, 1, 2, 3] rfl⟩
                · have q96 := eqI c96
                  refine lv_aload_n hx hb d_CO_codeTwoSides_99 rfl (lv_at hl 1 rfl) ?_
                  refine va_getE (i := ka) (q := ("WaferForge$Sign", "code32", "I", sg_code32)) hx hb hSW.2.2.2.1 ba0 hS hown (List.mem_of_getElem? (i := 2) rfl) (hts _ kF_CO_230) (fun _ h9 => h9) d_CO_codeTwoSides_100 ?_
                  refine lv_topi (fun x28 ex28 => ?_)
                  have ex28 : x28 = sg_code32.getD ka 0 := ex28
                  refine lv_goto (tgt := 110) hx hb d_CO_codeTwoSides_103 (by decide) ?_
                  exact jn110 x28 _ _ _ ⟨Or.inl ⟨ex28, by (first | (apply Int.le_antisymm <;> omega) | omega)⟩, hP, hD, hS, lv_sub hl [0, 1, 2, 3] rfl⟩
            · skip
              refine lv_if_eq (tgt := 88) hx hb d_CO_codeTwoSides_68 (by decide) (fun c68 => ?_) (fun c68 => ?_)
              · have q68 := eqI c68
                exact jn88 (gbob, bo_length) _ _ _ ⟨b_bo_length, ⟨[], by simp, Or.inr ⟨(by rcases y30 with z | z; (exfalso; rw [z.1] at c68; exact absurd c68 (by decide)); exact z.2), rfl⟩, by simp⟩, hP, hD, hS, lv_sub hl [0, 1, 2, 3] rfl⟩
              · have q68 := neI c68
                have k71 : (ka = 36 ∨ ka = 37) := (by rcases y30 with z | z; exact z.2; (exfalso; rw [z.1] at q68; exact q68 rfl))
                refine lv_aload_n hx hb d_CO_codeTwoSides_71 rfl (lv_at hl 0 rfl) ?_
                refine va_get (D := (dC, dI)) (ci := 2) (v := .ref bo) (C := R_CO) (T := F_CO) (N := 13) hx hb hts i_CO hown hK hP 3 rfl rfl 10 (by decide) (hts _ kF_CO_26) (fun _ h9 => h9) rfl d_CO_codeTwoSides_72 ?_
                refine lv_bipush (v := 65) hx hb d_CO_codeTwoSides_75 (by decide) ?_
                have hPc := hP.sb (wq := (wz_94 bo bob bo_length bob cbob gbob)) [1, 2] rfl
                have hDc := hD.sb (wq := (wz_94 bo bob bo_length bob cbob gbob)) [1, 2] (by decide) rfl
                have hKc := hK.sb (tyq := [(cbob, .byte)]) [1] rfl
                have hFc := va_free (wc := (wz_94 bo bob bo_length bob cbob gbob)) hD hS hA [1, 2] rfl
                refine va_callv (va_runV (As := [.int 65]) (rest := []) ⟨hx, hb, hml, hown, hts⟩ (c_BR_put l dC dI bo bob H.size cbob 8192 bo_length gbob (by (first | (apply Int.le_antisymm <;> omega) | omega)) (by (first | (apply Int.le_antisymm <;> omega) | omega)) (by (first | (apply Int.le_antisymm <;> omega) | omega)) 65) (cwV 1 hts (gV kM_CO_76 kV_BR_put kS_BR_put kI_BR kC_BR_put) rfl rfl rfl (by decide +kernel) ⟨Nat.le_of_ble_eq_true rfl, Nat.le_of_ble_eq_true rfl⟩) ⟨fun a U g mk z => by obtain ⟨z0, z1, zP, zK, zD⟩ := z; exact ⟨z0, z1, zP, va_K.moved (u := U) (U := U.calling g mk a) (Vm.Alike.refl U.vm) zK, zD⟩, va_recv hKc hPc (ci := 1) (q0 := 0) rfl rfl, fun U hU hW => ⟨rfl, by rw [hU], va_P.he hU.symm hPc, va_K.moved hW.alike hKc, hDc.weaken (fun _ _ _ _ => trivial)⟩⟩ rfl rfl hl.1 rfl (lv_room (Nat.le_of_ble_eq_true rfl)) d_CO_codeTwoSides_77 ⟨(Nat.zero_le _), (Nat.zero_le _)⟩) hS (fun q _ h => hFc q h) hFc (fun u t H1 locs ht hvm hw hB hz1 hk1 hS => ?_)
                obtain ⟨n30, f31⟩ := u
                try dsimp only at hw
                have tn30 := br_put_in (by (first | (apply Int.le_antisymm <;> omega) | omega)) (by (first | (apply Int.le_antisymm <;> omega) | omega)) (by (first | (apply Int.le_antisymm <;> omega) | omega)) hw
                have bn30 := br_put_bl (by (first | (apply Int.le_antisymm <;> omega) | omega)) (by (first | (apply Int.le_antisymm <;> omega) | omega)) (by (first | (apply Int.le_antisymm <;> omega) | omega)) hw
                obtain ⟨hP1, hK1, hD1⟩ := hB
                replace hP1 := va_P.he ht hP1
                obtain ⟨hP, hD⟩ := va_join (wr := (wz_155 pr gl fu pa pf sf pk pg pp pz pv pr_reason pr_place pr_scanner_r pr_stepCount pr_open pr_twoSides pr_waiting_r pr_waitingPlaces_r pr_waitingCount h0 pr kn lt h0_localCount pe n4 h0_gives h0_depth h0_loopDepth to bo cs se pe cpe gpe)) (w1 := (wz_94 bo bob n30 bob cbob f31)) hP hD [1, 2] [0, 3, 4] rfl rfl (by decide) (by decide) hk1 hFc hP1 hD1
                clear hPc hDc hKc hFc hz1 hk1 hP1 hK1 hD1
                rename Heap => H
                have hP : va_P (dC, dI) cls (wz_163 pr gl fu pa pf sf pk pg pp pz pv pr_reason pr_place pr_scanner_r pr_stepCount pr_open pr_twoSides pr_waiting_r pr_waitingPlaces_r pr_waitingCount h0 pr kn lt h0_localCount pe n4 h0_gives h0_depth h0_loopDepth to bo cs se pe cpe gpe bo bob n30 bob cbob f31) H := hP
                have hD : va_D A (wz_163 pr gl fu pa pf sf pk pg pp pz pv pr_reason pr_place pr_scanner_r pr_stepCount pr_open pr_twoSides pr_waiting_r pr_waitingPlaces_r pr_waitingCount h0 pr kn lt h0_localCount pe n4 h0_gives h0_depth h0_loopDepth to bo cs se pe cpe gpe bo bob n30 bob cbob f31) := hD
                refine lv_aload_n hx hb d_CO_codeTwoSides_80 rfl (lv_at hl 0 rfl) ?_
                refine va_get (D := (dC, dI)) (ci := 2) (v := .ref bo) (C := R_CO) (T := F_CO) (N := 13) hx hb hts i_CO hown hK hP 1 rfl rfl 10 (by decide) (hts _ kF_CO_26) (fun _ h9 => h9) rfl d_CO_codeTwoSides_81 ?_
                refine lv_iconst (v := 0) hx hb d_CO_codeTwoSides_84 (by decide) ?_
                have hPc := hP.sb (wq := (wz_94 bo bob n30 bob cbob f31)) [3, 4] rfl
                have hDc := hD.sb (wq := (wz_94 bo bob n30 bob cbob f31)) [3, 4] (by decide) rfl
                have hKc := hK.sb (tyq := [(cbob, .byte)]) [1] rfl
                have hFc := va_free (wc := (wz_94 bo bob n30 bob cbob f31)) hD hS hA [3, 4] rfl
                refine va_callv (va_runV (As := [.int 0]) (rest := []) ⟨hx, hb, hml, hown, hts⟩ (c_BR_put l dC dI bo bob H.size cbob 8192 n30 f31 (by (first | (apply Int.le_antisymm <;> omega) | omega)) (by (first | (apply Int.le_antisymm <;> omega) | omega)) (by (first | (apply Int.le_antisymm <;> omega) | omega)) 0) (cwV 1 hts (gV kM_CO_76 kV_BR_put kS_BR_put kI_BR kC_BR_put) rfl rfl rfl (by decide +kernel) ⟨Nat.le_of_ble_eq_true rfl, Nat.le_of_ble_eq_true rfl⟩) ⟨fun a U g mk z => by obtain ⟨z0, z1, zP, zK, zD⟩ := z; exact ⟨z0, z1, zP, va_K.moved (u := U) (U := U.calling g mk a) (Vm.Alike.refl U.vm) zK, zD⟩, va_recv hKc hPc (ci := 1) (q0 := 0) rfl rfl, fun U hU hW => ⟨rfl, by rw [hU], va_P.he hU.symm hPc, va_K.moved hW.alike hKc, hDc.weaken (fun _ _ _ _ => trivial)⟩⟩ rfl rfl hl.1 rfl (lv_room (Nat.le_of_ble_eq_true rfl)) d_CO_codeTwoSides_85 ⟨(Nat.zero_le _), (Nat.zero_le _)⟩) hS (fun q _ h => hFc q h) hFc (fun u t H1 locs ht hvm hw hB hz1 hk1 hS => ?_)
                obtain ⟨n33, f34⟩ := u
                try dsimp only at hw
                have tn33 := br_put_in (by (first | (apply Int.le_antisymm <;> omega) | omega)) (by (first | (apply Int.le_antisymm <;> omega) | omega)) (by (first | (apply Int.le_antisymm <;> omega) | omega)) hw
                have bn33 := br_put_bl (by (first | (apply Int.le_antisymm <;> omega) | omega)) (by (first | (apply Int.le_antisymm <;> omega) | omega)) (by (first | (apply Int.le_antisymm <;> omega) | omega)) hw
                obtain ⟨hP1, hK1, hD1⟩ := hB
                replace hP1 := va_P.he ht hP1
                obtain ⟨hP, hD⟩ := va_join (wr := (wz_155 pr gl fu pa pf sf pk pg pp pz pv pr_reason pr_place pr_scanner_r pr_stepCount pr_open pr_twoSides pr_waiting_r pr_waitingPlaces_r pr_waitingCount h0 pr kn lt h0_localCount pe n4 h0_gives h0_depth h0_loopDepth to bo cs se pe cpe gpe)) (w1 := (wz_94 bo bob n33 bob cbob f34)) hP hD [3, 4] [0, 1, 2] rfl rfl (by decide) (by decide) hk1 hFc hP1 hD1
                clear hPc hDc hKc hFc hz1 hk1 hP1 hK1 hD1
                rename Heap => H
                have hP : va_P (dC, dI) cls (wz_163 pr gl fu pa pf sf pk pg pp pz pv pr_reason pr_place pr_scanner_r pr_stepCount pr_open pr_twoSides pr_waiting_r pr_waitingPlaces_r pr_waitingCount h0 pr kn lt h0_localCount pe n4 h0_gives h0_depth h0_loopDepth to bo cs se pe cpe gpe bo bob n33 bob cbob f34) H := hP
                have hD : va_D A (wz_163 pr gl fu pa pf sf pk pg pp pz pv pr_reason pr_place pr_scanner_r pr_stepCount pr_open pr_twoSides pr_waiting_r pr_waitingPlaces_r pr_waitingCount h0 pr kn lt h0_localCount pe n4 h0_gives h0_depth h0_loopDepth to bo cs se pe cpe gpe bo bob n33 bob cbob f34) := hD
                exact jn88 (f34, n33) _ _ _ ⟨by (try dsimp only) <;> (first | (apply Int.le_antisymm <;> omega) | omega), ⟨[65, 0], by rw [bn33 (by (first | (apply Int.le_antisymm <;> omega) | omega)), bn30 (by (first | (apply Int.le_antisymm <;> omega) | omega)), List.append_assoc]; rfl, Or.inl ⟨k71, rfl⟩, by rw [List.length_cons, List.length_singleton]; (first | (apply Int.le_antisymm <;> omega) | omega)⟩, hP.sub [0, 3, 4, 1, 2] rfl, hD.sub [0, 3, 4, 1, 2] (by decide) rfl, hS, lv_sub hl [0, 1, 2, 3] rfl⟩
          · skip
            refine lv_if_eq (tgt := 66) hx hb d_CO_codeTwoSides_47 (by decide) (fun c47 => ?_) (fun c47 => ?_)
            · have q47 := eqI c47
              exact jn66 () _ _ _ ⟨⟨by (first | (apply Int.le_antisymm <;> omega) | omega), by (first | (apply Int.le_antisymm <;> omega) | omega), fun z => absurd z (by have nl : (ka ≠ 36 ∧ ka ≠ 37) := (by rcases y30 with z | z; (exfalso; rw [z.1] at c47; exact absurd c47 (by decide)); exact z.2); (first | (apply Int.le_antisymm <;> omega) | omega))⟩, hP, hD, hS, lv_sub hl [1, 2, 5, 0] rfl⟩
            · have q47 := neI c47
              refine lv_iload hx hb d_CO_codeTwoSides_50 (lv_at hl 5 rfl) ?_
              refine lv_bipush (v := 127) hx hb d_CO_codeTwoSides_52 (by decide) ?_
              refine lv_icmp_eq (tgt := 66) hx hb d_CO_codeTwoSides_54 (by decide) (fun c54 => ?_) (fun c54 => ?_)
              · have q54 := eqI c54
                exact jn66 () _ _ _ ⟨⟨by (first | (apply Int.le_antisymm <;> omega) | omega), by (first | (apply Int.le_antisymm <;> omega) | omega), fun z => by (first | (apply Int.le_antisymm <;> omega) | omega)⟩, hP, hD, hS, lv_sub hl [1, 2, 5, 0] rfl⟩
              · have q54 := neI c54
                exact jn57 () _ _ _ ⟨hP, hD, hS, lv_sub hl [1, 3] rfl⟩
  · skip
    refine w_cut (pc2 := 25) (σ := Unit) (fun u H locs ls => match u with | _ => ((ka = 36 ∨ ka = 37)) ∧ va_P (dC, dI) cls (wz_162 pr gl fu pa pf sf pk pg pp pz pv pr_reason pr_place pr_scanner_r pr_stepCount pr_open pr_twoSides pr_waiting_r pr_waitingPlaces_r pr_waitingCount bo bob bo_length bob cbob gbob h0 pr kn lt h0_localCount pe n4 h0_gives h0_depth h0_loopDepth to bo cs se pe cpe gpe) H ∧ va_D A (wz_162 pr gl fu pa pf sf pk pg pp pz pv pr_reason pr_place pr_scanner_r pr_stepCount pr_open pr_twoSides pr_waiting_r pr_waitingPlaces_r pr_waitingCount bo bob bo_length bob cbob gbob h0 pr kn lt h0_localCount pe n4 h0_gives h0_depth h0_loopDepth to bo cs se pe cpe gpe) ∧ va_S A s.heap H locs ∧ lv_has ls 6 [(0, .ref h0), (1, .ref (sg sa ka)), (2, .int p1), (3, .int r1), (4, .int r3)]) (fun u => match u with | _ => []) ?_ (fun jn25 => ?_)
    · intro u H locs ls hI
      obtain ⟨y25, hP, hD, hS, hl⟩ := hI
      refine lv_iconst (v := 1) hx hb d_CO_codeTwoSides_25 (by decide) ?_
      refine lv_goto (tgt := 30) hx hb d_CO_codeTwoSides_26 (by decide) ?_
      exact jn30 1 _ _ _ ⟨Or.inr rfl, Or.inl ⟨rfl, y25⟩, hP, hD, hS, lv_sub hl [0, 1, 2, 3, 4] rfl⟩
    · skip
      refine lv_acmp_eq (rx := some (sg sa ka)) (ry := some (sg sa 36)) (tgt := 25) hx hb d_CO_codeTwoSides_15 (by decide) (fun c15 => ?_) (fun c15 => ?_)
      · have q15 : ka = 36 := hSW.2.2.2.1.2 ka 36 ba0 (by decide : 36 < 55) (Option.some.inj c15)
        exact jn25 () _ _ _ ⟨Or.inl q15, hP, hD, hS, lv_sub hl [2, 3, 4, 1, 0] rfl⟩
      · have q15 : ka ≠ 36 := fun z => c15 (by rw [z])
        refine lv_aload_n hx hb d_CO_codeTwoSides_18 rfl (lv_at hl 3 rfl) ?_
        refine va_gets (C := "WaferForge$Sign") (n := "AND") (d := "LWaferForge$Sign;") (v := .ref (sg sa 37)) hx hb ((hSW.2.2.2.1.1 37 (by decide)).1) hS hown (hts _ kF_CO_227) (fun _ h9 => h9) d_CO_codeTwoSides_19 ?_
        refine lv_acmp_ne (rx := some (sg sa ka)) (ry := some (sg sa 37)) (tgt := 29) hx hb d_CO_codeTwoSides_22 (by decide) (fun c22 => ?_) (fun c22 => ?_)
        · have q22 : ka ≠ 37 := fun z => c22 (by rw [z])
          refine lv_iconst (v := 0) hx hb d_CO_codeTwoSides_29 (by decide) ?_
          exact jn30 0 _ _ _ ⟨Or.inl rfl, Or.inr ⟨rfl, q15, q22⟩, hP, hD, hS, lv_sub hl [2, 3, 4, 1, 0] rfl⟩
        · have q22 : ka = 37 := hSW.2.2.2.1.2 ka 37 ba0 (by decide : 37 < 55) (Option.some.inj c22)
          exact jn25 () _ _ _ ⟨Or.inr q22, hP, hD, hS, lv_sub hl [2, 3, 4, 1, 0] rfl⟩
end q_69
section q_70
/-! Coder: signs in front -/
abbrev b_CO_codePrefix : ByteArray := prog_4_method_10_code
def y_CO_codePrefix : MethodName := ⟨R_CO, "codePrefix", "(LWaferForge$Sign;I)V"⟩
abbrev w_CO_codePrefix : List Cond := .code y_CO_codePrefix b_CO_codePrefix 5 none :: lw_g
theorem kC_CO_codePrefix : Cond.code y_CO_codePrefix b_CO_codePrefix 5 none ∈ lw_g := in_c5 187 rfl rfl
theorem d_CO_codePrefix_0 : decode b_CO_codePrefix 0 = .ok (.aload_n 0, 1) := bz_c42 (by decide +kernel)
theorem d_CO_codePrefix_1 : decode b_CO_codePrefix 1 = .ok (.invokevirtual 224, 3) := bz_c182 (by decide +kernel)
theorem d_CO_codePrefix_4 : decode b_CO_codePrefix 4 = .ok (.istore_n 3, 1) := bz_c62 (by decide +kernel)
theorem d_CO_codePrefix_5 : decode b_CO_codePrefix 5 = .ok (.iload_n 3, 1) := bz_c29 (by decide +kernel)
theorem d_CO_codePrefix_6 : decode b_CO_codePrefix 6 = .ok (.bipush 64, 2) := bz_c16 (by decide +kernel)
theorem d_CO_codePrefix_8 : decode b_CO_codePrefix 8 = .ok (.if_icmp .eq 16, 3) := bz_c159 (by decide +kernel)
theorem d_CO_codePrefix_11 : decode b_CO_codePrefix 11 = .ok (.aload_n 1, 1) := bz_c43 (by decide +kernel)
theorem d_CO_codePrefix_12 : decode b_CO_codePrefix 12 = .ok (.getstatic 239, 3) := bz_c178 (by decide +kernel)
theorem d_CO_codePrefix_15 : decode b_CO_codePrefix 15 = .ok (.if_acmp .ne 18, 3) := bz_c166 (by decide +kernel)
theorem d_CO_codePrefix_18 : decode b_CO_codePrefix 18 = .ok (.iload_n 3, 1) := bz_c29 (by decide +kernel)
theorem d_CO_codePrefix_19 : decode b_CO_codePrefix 19 = .ok (.bipush 127, 2) := bz_c16 (by decide +kernel)
theorem d_CO_codePrefix_21 : decode b_CO_codePrefix 21 = .ok (.if_icmp .eq 12, 3) := bz_c159 (by decide +kernel)
theorem d_CO_codePrefix_24 : decode b_CO_codePrefix 24 = .ok (.aload_n 0, 1) := bz_c42 (by decide +kernel)
theorem d_CO_codePrefix_25 : decode b_CO_codePrefix 25 = .ok (.getfield 36, 3) := bz_c180 (by decide +kernel)
theorem d_CO_codePrefix_28 : decode b_CO_codePrefix 28 = .ok (.iconst 3, 1) := bz_c6 (by decide +kernel)
theorem d_CO_codePrefix_29 : decode b_CO_codePrefix 29 = .ok (.iload_n 2, 1) := bz_c28 (by decide +kernel)
theorem d_CO_codePrefix_30 : decode b_CO_codePrefix 30 = .ok (.invokevirtual 105, 3) := bz_c182 (by decide +kernel)
theorem d_CO_codePrefix_33 : decode b_CO_codePrefix 33 = .ok (.iload_n 3, 1) := bz_c29 (by decide +kernel)
theorem d_CO_codePrefix_34 : decode b_CO_codePrefix 34 = .ok (.bipush 127, 2) := bz_c16 (by decide +kernel)
theorem d_CO_codePrefix_36 : decode b_CO_codePrefix 36 = .ok (.if_icmp .ne 7, 3) := bz_c160 (by decide +kernel)
theorem d_CO_codePrefix_39 : decode b_CO_codePrefix 39 = .ok (.iconst 1, 1) := bz_c4 (by decide +kernel)
theorem d_CO_codePrefix_40 : decode b_CO_codePrefix 40 = .ok (.goto 4, 3) := bz_c167 (by decide +kernel)
theorem d_CO_codePrefix_43 : decode b_CO_codePrefix 43 = .ok (.iconst 0, 1) := bz_c3 (by decide +kernel)
theorem d_CO_codePrefix_44 : decode b_CO_codePrefix 44 = .ok (.istore 4, 2) := bz_c54 (by decide +kernel)
theorem d_CO_codePrefix_46 : decode b_CO_codePrefix 46 = .ok (.aload_n 1, 1) := bz_c43 (by decide +kernel)
theorem d_CO_codePrefix_47 : decode b_CO_codePrefix 47 = .ok (.getstatic 239, 3) := bz_c178 (by decide +kernel)
theorem d_CO_codePrefix_50 : decode b_CO_codePrefix 50 = .ok (.if_acmp .ne 15, 3) := bz_c166 (by decide +kernel)
theorem d_CO_codePrefix_53 : decode b_CO_codePrefix 53 = .ok (.aload_n 0, 1) := bz_c42 (by decide +kernel)
theorem d_CO_codePrefix_54 : decode b_CO_codePrefix 54 = .ok (.getfield 26, 3) := bz_c180 (by decide +kernel)
theorem d_CO_codePrefix_57 : decode b_CO_codePrefix 57 = .ok (.bipush 69, 2) := bz_c16 (by decide +kernel)
theorem d_CO_codePrefix_59 : decode b_CO_codePrefix 59 = .ok (.invokevirtual 76, 3) := bz_c182 (by decide +kernel)
theorem d_CO_codePrefix_62 : decode b_CO_codePrefix 62 = .ok (.goto 104, 3) := bz_c167 (by decide +kernel)
theorem d_CO_codePrefix_65 : decode b_CO_codePrefix 65 = .ok (.aload_n 1, 1) := bz_c43 (by decide +kernel)
theorem d_CO_codePrefix_66 : decode b_CO_codePrefix 66 = .ok (.getstatic 242, 3) := bz_c178 (by decide +kernel)
theorem d_CO_codePrefix_69 : decode b_CO_codePrefix 69 = .ok (.if_acmp .ne 48, 3) := bz_c166 (by decide +kernel)
theorem d_CO_codePrefix_72 : decode b_CO_codePrefix 72 = .ok (.aload_n 0, 1) := bz_c42 (by decide +kernel)
theorem d_CO_codePrefix_73 : decode b_CO_codePrefix 73 = .ok (.getfield 26, 3) := bz_c180 (by decide +kernel)
theorem d_CO_codePrefix_76 : decode b_CO_codePrefix 76 = .ok (.aload_n 0, 1) := bz_c42 (by decide +kernel)
theorem d_CO_codePrefix_77 : decode b_CO_codePrefix 77 = .ok (.invokevirtual 224, 3) := bz_c182 (by decide +kernel)
theorem d_CO_codePrefix_80 : decode b_CO_codePrefix 80 = .ok (.iload 4, 2) := bz_c21 (by decide +kernel)
theorem d_CO_codePrefix_82 : decode b_CO_codePrefix 82 = .ok (.ifCond .eq 8, 3) := bz_c153 (by decide +kernel)
theorem d_CO_codePrefix_85 : decode b_CO_codePrefix 85 = .ok (.bipush 65, 2) := bz_c16 (by decide +kernel)
theorem d_CO_codePrefix_87 : decode b_CO_codePrefix 87 = .ok (.goto 5, 3) := bz_c167 (by decide +kernel)
theorem d_CO_codePrefix_90 : decode b_CO_codePrefix 90 = .ok (.bipush 66, 2) := bz_c16 (by decide +kernel)
theorem d_CO_codePrefix_92 : decode b_CO_codePrefix 92 = .ok (.invokevirtual 245, 3) := bz_c182 (by decide +kernel)
theorem d_CO_codePrefix_95 : decode b_CO_codePrefix 95 = .ok (.aload_n 0, 1) := bz_c42 (by decide +kernel)
theorem d_CO_codePrefix_96 : decode b_CO_codePrefix 96 = .ok (.getfield 26, 3) := bz_c180 (by decide +kernel)
theorem d_CO_codePrefix_99 : decode b_CO_codePrefix 99 = .ok (.iload 4, 2) := bz_c21 (by decide +kernel)
theorem d_CO_codePrefix_101 : decode b_CO_codePrefix 101 = .ok (.ifCond .eq 8, 3) := bz_c153 (by decide +kernel)
theorem d_CO_codePrefix_104 : decode b_CO_codePrefix 104 = .ok (.bipush 107, 2) := bz_c16 (by decide +kernel)
theorem d_CO_codePrefix_106 : decode b_CO_codePrefix 106 = .ok (.goto 5, 3) := bz_c167 (by decide +kernel)
theorem d_CO_codePrefix_109 : decode b_CO_codePrefix 109 = .ok (.bipush 125, 2) := bz_c16 (by decide +kernel)
theorem d_CO_codePrefix_111 : decode b_CO_codePrefix 111 = .ok (.invokevirtual 76, 3) := bz_c182 (by decide +kernel)
theorem d_CO_codePrefix_114 : decode b_CO_codePrefix 114 = .ok (.goto 52, 3) := bz_c167 (by decide +kernel)
theorem d_CO_codePrefix_117 : decode b_CO_codePrefix 117 = .ok (.aload_n 0, 1) := bz_c42 (by decide +kernel)
theorem d_CO_codePrefix_118 : decode b_CO_codePrefix 118 = .ok (.getfield 26, 3) := bz_c180 (by decide +kernel)
theorem d_CO_codePrefix_121 : decode b_CO_codePrefix 121 = .ok (.iload 4, 2) := bz_c21 (by decide +kernel)
theorem d_CO_codePrefix_123 : decode b_CO_codePrefix 123 = .ok (.ifCond .eq 8, 3) := bz_c153 (by decide +kernel)
theorem d_CO_codePrefix_126 : decode b_CO_codePrefix 126 = .ok (.bipush 65, 2) := bz_c16 (by decide +kernel)
theorem d_CO_codePrefix_128 : decode b_CO_codePrefix 128 = .ok (.goto 5, 3) := bz_c167 (by decide +kernel)
theorem d_CO_codePrefix_131 : decode b_CO_codePrefix 131 = .ok (.bipush 66, 2) := bz_c16 (by decide +kernel)
theorem d_CO_codePrefix_133 : decode b_CO_codePrefix 133 = .ok (.invokevirtual 76, 3) := bz_c182 (by decide +kernel)
theorem d_CO_codePrefix_136 : decode b_CO_codePrefix 136 = .ok (.aload_n 0, 1) := bz_c42 (by decide +kernel)
theorem d_CO_codePrefix_137 : decode b_CO_codePrefix 137 = .ok (.getfield 26, 3) := bz_c180 (by decide +kernel)
theorem d_CO_codePrefix_140 : decode b_CO_codePrefix 140 = .ok (.ldc2_w 248, 3) := bz_c20 (by decide +kernel)
theorem d_CO_codePrefix_143 : decode b_CO_codePrefix 143 = .ok (.invokevirtual 179, 3) := bz_c182 (by decide +kernel)
theorem d_CO_codePrefix_146 : decode b_CO_codePrefix 146 = .ok (.aload_n 0, 1) := bz_c42 (by decide +kernel)
theorem d_CO_codePrefix_147 : decode b_CO_codePrefix 147 = .ok (.getfield 26, 3) := bz_c180 (by decide +kernel)
theorem d_CO_codePrefix_150 : decode b_CO_codePrefix 150 = .ok (.iload 4, 2) := bz_c21 (by decide +kernel)
theorem d_CO_codePrefix_152 : decode b_CO_codePrefix 152 = .ok (.ifCond .eq 8, 3) := bz_c153 (by decide +kernel)
theorem d_CO_codePrefix_155 : decode b_CO_codePrefix 155 = .ok (.bipush 115, 2) := bz_c16 (by decide +kernel)
theorem d_CO_codePrefix_157 : decode b_CO_codePrefix 157 = .ok (.goto 6, 3) := bz_c167 (by decide +kernel)
theorem d_CO_codePrefix_160 : decode b_CO_codePrefix 160 = .ok (.sipush 133, 3) := bz_c17 (by decide +kernel)
theorem d_CO_codePrefix_163 : decode b_CO_codePrefix 163 = .ok (.invokevirtual 76, 3) := bz_c182 (by decide +kernel)
theorem d_CO_codePrefix_166 : decode b_CO_codePrefix 166 = .ok (.aload_n 0, 1) := bz_c42 (by decide +kernel)
theorem d_CO_codePrefix_167 : decode b_CO_codePrefix 167 = .ok (.iload_n 3, 1) := bz_c29 (by decide +kernel)
theorem d_CO_codePrefix_168 : decode b_CO_codePrefix 168 = .ok (.invokevirtual 183, 3) := bz_c182 (by decide +kernel)
theorem d_CO_codePrefix_171 : decode b_CO_codePrefix 171 = .ok (.return_, 1) := bz_c177 (by decide +kernel)
theorem kM_CO_245 : Cond.methodLink R_CO 245 y_BR_change ∈ lw_g := in_c5 190 rfl rfl
theorem kV_BR_change : Cond.instanceMethod y_BR_change ∈ lw_g := in_c5 191 rfl rfl
theorem kS_BR_change : Cond.selects R_BR y_BR_change y_BR_change ∈ lw_g := in_c5 192 rfl rfl
theorem kM_CO_179 : Cond.methodLink R_CO 179 y_BR_putSigned ∈ lw_g := in_c5 151 rfl rfl
theorem kV_BR_putSigned : Cond.instanceMethod y_BR_putSigned ∈ lw_g := in_c5 152 rfl rfl
theorem kS_BR_putSigned : Cond.selects R_BR y_BR_putSigned y_BR_putSigned ∈ lw_g := in_c5 153 rfl rfl
theorem kF_CO_239 : Cond.fieldLink R_CO 239 "WaferForge$Sign" "NOT" "LWaferForge$Sign;" ∈ lw_g := in_c5 188 rfl rfl
theorem kF_CO_242 : Cond.fieldLink R_CO 242 "WaferForge$Sign" "MINUS" "LWaferForge$Sign;" ∈ lw_g := in_c5 189 rfl rfl
theorem kL_CO_248 : Cond.constantLong R_CO 248 (-1) ∈ lw_g := in_c5 194 rfl rfl
abbrev at_CO_codePrefix (dC : Nat → ClassId) (dI : Nat → Nat → Nat) (sa : Nat → Nat) (h0 pr kn lt pe to bo cs se gl fu pa pf sf pk pg pp pz pv pr_scanner_r pr_waiting_r pr_waitingPlaces_r bob : Nat) (cpe cbob : ClassId) (h0_localCount : Int32) (h0_gives : Int32) (h0_depth : Int32) (h0_loopDepth : Int32) (pr_stepCount : Int32) (pr_open : Int32) (pr_twoSides : Int32) (pr_waitingCount : Int32) (A : Nat → Prop) (u : (Nat → Int32) × (Nat → Int32) × Int32 × Int32 × Int32 × Int32) (t : State) : Prop := match u with | (gbob, gpe, bo_length, h0_pendingCount, pr_place, pr_reason) => va_P (dC, dI) cls (wz_160 h0 pr kn lt h0_localCount pe h0_pendingCount h0_gives h0_depth h0_loopDepth to bo cs se pr gl fu pa pf sf pk pg pp pz pv pr_reason pr_place pr_scanner_r pr_stepCount pr_open pr_twoSides pr_waiting_r pr_waitingPlaces_r pr_waitingCount pe cpe gpe bo bob bo_length bob cbob gbob) t.heap ∧ va_K (dC, dI) cls [(cpe, .int), (cbob, .byte)] t ∧ va_D A (wz_160 h0 pr kn lt h0_localCount pe h0_pendingCount h0_gives h0_depth h0_loopDepth to bo cs se pr gl fu pa pf sf pk pg pp pz pv pr_reason pr_place pr_scanner_r pr_stepCount pr_open pr_twoSides pr_waiting_r pr_waitingPlaces_r pr_waitingCount pe cpe gpe bo bob bo_length bob cbob gbob)
set_option maxHeartbeats 4000000 in
set_option maxRecDepth 100000 in
theorem c_CO_codePrefix (l : Launch) (hlt : l.stackTraces = false) (dC : Nat → ClassId) (dI : Nat → Nat → Nat) (sz : Nat) (sa : Nat → Nat) (h0 pr kn lt pe to bo cs se gl fu pa pf sf pk pg pp pz pv pr_scanner_r pr_waiting_r pr_waitingPlaces_r bob : Nat) (cpe cbob : ClassId) (h0_localCount : Int32) (h0_pendingCount : Int32) (h0_gives : Int32) (h0_depth : Int32) (h0_loopDepth : Int32) (pr_reason : Int32) (pr_place : Int32) (pr_stepCount : Int32) (pr_open : Int32) (pr_twoSides : Int32) (pr_waitingCount : Int32) (gpe : Nat → Int32) (bo_length : Int32) (gbob : Nat → Int32)  (b_h0_pendingCount : 0 ≤ h0_pendingCount.toInt ∧ h0_pendingCount.toInt ≤ 680) (b_bo_length : 0 ≤ bo_length.toInt ∧ bo_length.toInt ≤ 8192) (ka : Nat) (p1 : Int32) (ba0 : ka < 55) (hpc : 1 ≤ h0_pendingCount.toInt) (hka : ka = 34 ∨ ka = 35 ∨ ka = 51) (hmi : bx (ka = 51 → 2 ≤ h0_pendingCount.toInt ∧ 0 ≤ (gpe (h0_pendingCount.toInt - 2).toNat).toInt ∧ (gpe (h0_pendingCount.toInt - 2).toNat).toInt < bo_length.toInt)) (hbo : bo_length.toInt + 13 ≤ 8192) : tz_Met l y_CO_codePrefix w_CO_codePrefix ({ frames := 7, cells := 1, slots := 6, locals := 112 }) (va_Pc [.ref h0, .ref (sg sa ka), .int p1] (fun U => U.heap.size = sz ∧ va_P (dC, dI) cls (wz_160 h0 pr kn lt h0_localCount pe h0_pendingCount h0_gives h0_depth h0_loopDepth to bo cs se pr gl fu pa pf sf pk pg pp pz pv pr_reason pr_place pr_scanner_r pr_stepCount pr_open pr_twoSides pr_waiting_r pr_waitingPlaces_r pr_waitingCount pe cpe gpe bo bob bo_length bob cbob gbob) U.heap ∧ va_K (dC, dI) cls [(cpe, .int), (cbob, .byte)] U ∧ va_D (fun _ => True) (wz_160 h0 pr kn lt h0_localCount pe h0_pendingCount h0_gives h0_depth h0_loopDepth to bo cs se pr gl fu pa pf sf pk pg pp pz pv pr_reason pr_place pr_scanner_r pr_stepCount pr_open pr_twoSides pr_waiting_r pr_waitingPlaces_r pr_waitingCount pe cpe gpe bo bob bo_length bob cbob gbob) ∧ sw sa (va_A (wz_160 h0 pr kn lt h0_localCount pe h0_pendingCount h0_gives h0_depth h0_loopDepth to bo cs se pr gl fu pa pf sf pk pg pp pz pv pr_reason pr_place pr_scanner_r pr_stepCount pr_open pr_twoSides pr_waiting_r pr_waitingPlaces_r pr_waitingCount pe cpe gpe bo bob bo_length bob cbob gbob) sz) U U.heap)) (tq_Q (tq_v (fun (u : (Nat → Int32) × (Nat → Int32) × Int32 × Int32 × Int32 × Int32) => match u with | (gbob2, gpe2, bo_length2, h0_pendingCount2, pr_place2, pr_reason2) => (0 ≤ bo_length2.toInt ∧ bo_length2.toInt ≤ 8192) ∧ (0 ≤ h0_pendingCount2.toInt ∧ h0_pendingCount2.toInt ≤ 680) ∧ ((gpe (h0_pendingCount.toInt - 1).toNat).toInt ≠ 64 ∧ (ka = 34 → h0_pendingCount2.toInt = h0_pendingCount.toInt ∧ (gpe (h0_pendingCount.toInt - 1).toNat).toInt = 127 ∧ gpe2 = upd gpe (h0_pendingCount.toInt - 1).toNat (gpe (h0_pendingCount.toInt - 1).toNat) ∧ bo_length2.toInt = bo_length.toInt + 1 ∧ bl gbob2 bo_length2.toNatClampNeg = bl gbob bo_length.toNatClampNeg ++ [69]) ∧ (ka = 35 → h0_pendingCount2.toInt = h0_pendingCount.toInt ∧ gpe2 = upd gpe (h0_pendingCount.toInt - 1).toNat (gpe (h0_pendingCount.toInt - 1).toNat) ∧ bo_length2.toInt = bo_length.toInt + 3 ∧ ∃ a b : Nat, (a = 65 ∨ a = 66) ∧ (b = 115 ∨ b = 133) ∧ bl gbob2 bo_length2.toNatClampNeg = bl gbob bo_length.toNatClampNeg ++ [a, 127, b]) ∧ (ka = 51 → h0_pendingCount2.toInt = h0_pendingCount.toInt - 1 ∧ gpe2 = upd gpe (h0_pendingCount.toInt - 2).toNat (gpe (h0_pendingCount.toInt - 1).toNat) ∧ bo_length2.toInt = bo_length.toInt + 1 ∧ ∃ a b : Nat, (a = 65 ∨ a = 66) ∧ (b = 107 ∨ b = 125) ∧ bl gbob2 bo_length2.toNatClampNeg = (bl gbob bo_length.toNatClampNeg).set (gpe (h0_pendingCount.toInt - 2).toNat).toInt.toNat a ++ [b]))) "java/lang/UnsupportedOperationException" (fun (u : (Nat → Int32) × (Nat → Int32) × Int32 × Int32 × Int32 × Int32) => match u with | (gbob2, gpe2, bo_length2, h0_pendingCount2, pr_place2, pr_reason2) => (0 ≤ bo_length2.toInt ∧ bo_length2.toInt ≤ 8192) ∧ (0 ≤ h0_pendingCount2.toInt ∧ h0_pendingCount2.toInt ≤ 680))) (at_CO_codePrefix dC dI sa h0 pr kn lt pe to bo cs se gl fu pa pf sf pk pg pp pz pv pr_scanner_r pr_waiting_r pr_waitingPlaces_r bob cpe cbob h0_localCount h0_gives h0_depth h0_loopDepth pr_stepCount pr_open pr_twoSides pr_waitingCount (va_A (wz_160 h0 pr kn lt h0_localCount pe h0_pendingCount h0_gives h0_depth h0_loopDepth to bo cs se pr gl fu pa pf sf pk pg pp pz pv pr_reason pr_place pr_scanner_r pr_stepCount pr_open pr_twoSides pr_waiting_r pr_waitingPlaces_r pr_waitingCount pe cpe gpe bo bob bo_length bob cbob gbob) sz)) (va_A (wz_160 h0 pr kn lt h0_localCount pe h0_pendingCount h0_gives h0_depth h0_loopDepth to bo cs se pr gl fu pa pf sf pk pg pp pz pv pr_reason pr_place pr_scanner_r pr_stepCount pr_open pr_twoSides pr_waiting_r pr_waitingPlaces_r pr_waitingCount pe cpe gpe bo bob bo_length bob cbob gbob) sz)) (tz_k 0 0 1 6) (va_A (wz_160 h0 pr kn lt h0_localCount pe h0_pendingCount h0_gives h0_depth h0_loopDepth to bo cs se pr gl fu pa pf sf pk pg pp pz pv pr_reason pr_place pr_scanner_r pr_stepCount pr_open pr_twoSides pr_waiting_r pr_waitingPlaces_r pr_waitingCount pe cpe gpe bo bob bo_length bob cbob gbob) sz) := by
  refine tz_ofW (cc := b_CO_codePrefix) (maxL := 5) (ret := none) (by decide) rfl ?_
  intro p e s m args below meth c s₁ B hml hno hv
  obtain ⟨rfl, hsz, hP, hK, hD0, hSW⟩ := hv
  have hx := B.exec
  have hb := B.bytes
  have hr := B.returns
  have hts0 := atoms_spec (ws := w_CO_codePrefix) B.pre
  have hts : ∀ w ∈ lw_g, w.before _ s = true := fun w h => hts0 w (List.mem_cons_of_mem _ h)
  have hown : s.vm.findClass R_CO = some m.cls := findClass_of_methodNamed B.named
  have hlocks := B.notSynchronized
  clear hts0
  subst hsz
  have hD := hD0.self (sz := s.heap.size)
  generalize hAe : va_A (wz_160 h0 pr kn lt h0_localCount pe h0_pendingCount h0_gives h0_depth h0_loopDepth to bo cs se pr gl fu pa pf sf pk pg pp pz pv pr_reason pr_place pr_scanner_r pr_stepCount pr_open pr_twoSides pr_waiting_r pr_waitingPlaces_r pr_waitingCount pe cpe gpe bo bob bo_length bob cbob gbob) s.heap.size = A at hD hSW ⊢
  have hA : ∀ q : Nat, s.heap.size ≤ q → A q := fun q h => by rw [← hAe]; exact Or.inr h
  clear hAe
  have hP : va_P (dC, dI) cls (wz_160 h0 pr kn lt h0_localCount pe h0_pendingCount h0_gives h0_depth h0_loopDepth to bo cs se pr gl fu pa pf sf pk pg pp pz pv pr_reason pr_place pr_scanner_r pr_stepCount pr_open pr_twoSides pr_waiting_r pr_waitingPlaces_r pr_waitingCount pe cpe gpe bo bob bo_length bob cbob gbob) s.heap := hP
  have hl := lv_entry ([.ref h0, .ref (sg sa ka), .int p1]) (n := 5) (Nat.le_of_ble_eq_true rfl)
  rw [lg_entry_eq]
  generalize (lg_sl ([.ref h0, .ref (sg sa ka), .int p1]) ++ List.replicate (5 - (lg_sl ([.ref h0, .ref (sg sa ka), .int p1])).length) Slot.unset).toArray = ls at hl ⊢
  have hl : lv_has ls 5 [(0, .ref h0), (1, .ref (sg sa ka)), (2, .int p1)] := hl
  have k0 : (0 : Int32).toInt = 0 := by decide
  refine w_gen (A := A) hP (fun H locs hP hS => ?_)
  have k1 : (1 : Int32).toInt = 1 := by decide
  have k3 : (3 : Int32).toInt = 3 := by decide
  have k64 : (64 : Int32).toInt = 64 := by decide
  have k65 : (65 : Int32).toInt = 65 := by decide
  have k66 : (66 : Int32).toInt = 66 := by decide
  have k69 : (69 : Int32).toInt = 69 := by decide
  have k107 : (107 : Int32).toInt = 107 := by decide
  have k115 : (115 : Int32).toInt = 115 := by decide
  have k125 : (125 : Int32).toInt = 125 := by decide
  have k127 : (127 : Int32).toInt = 127 := by decide
  have k133 : (133 : Int32).toInt = 133 := by decide
  have lo_p1 := i32_lo p1
  have hi_p1 := i32_hi p1
  refine lv_aload_n hx hb d_CO_codePrefix_0 rfl (lv_at hl 0 rfl) ?_
  have hPc := hP.sb (wq := (wz_149 h0 pr kn lt h0_localCount pe h0_pendingCount h0_gives h0_depth h0_loopDepth to bo cs se pe cpe gpe)) [0, 2] rfl
  have hDc := hD.sb (wq := (wz_149 h0 pr kn lt h0_localCount pe h0_pendingCount h0_gives h0_depth h0_loopDepth to bo cs se pe cpe gpe)) [0, 2] (by decide) rfl
  have hKc := hK.sb (tyq := [(cpe, .int)]) [0] rfl
  have hFc := va_free (wc := (wz_149 h0 pr kn lt h0_localCount pe h0_pendingCount h0_gives h0_depth h0_loopDepth to bo cs se pe cpe gpe)) hD hS hA [0, 2] rfl
  refine va_calli (va_runV (As := []) (rest := []) ⟨hx, hb, hml, hown, hts⟩ (c_CO_pop l dC dI H.size h0 pr kn lt pe to bo cs se cpe h0_localCount h0_pendingCount h0_gives h0_depth h0_loopDepth gpe (b_h0_pendingCount) (by (try dsimp only) <;> (first | (apply Int.le_antisymm <;> omega) | omega))) (cwV 0 hts (gV kM_CO_224 kV_CO_pop kS_CO_pop kI_CO kC_CO_pop) rfl rfl rfl (by decide +kernel) ⟨Nat.le_of_ble_eq_true rfl, Nat.le_of_ble_eq_true rfl⟩) ⟨fun a U g mk z => by obtain ⟨z0, z1, zP, zK, zD⟩ := z; exact ⟨z0, z1, zP, va_K.moved (u := U) (U := U.calling g mk a) (Vm.Alike.refl U.vm) zK, zD⟩, va_recv hKc hPc (ci := 2) (q0 := 0) rfl rfl, fun U hU hW => ⟨rfl, by rw [hU], va_P.he hU.symm hPc, va_K.moved hW.alike hKc, hDc.weaken (fun _ _ _ _ => trivial)⟩⟩ rfl rfl hl.1 rfl (lv_room (Nat.le_of_ble_eq_true rfl)) d_CO_codePrefix_1 ⟨(Nat.zero_le _), (Nat.zero_le _)⟩) hS (fun q _ h => hFc q h) hFc (fun r1 u t H1 locs ht hvm hw hB hz1 hk1 hS => ?_)
  obtain ⟨n2, rfl⟩ : ∃ z, z = u := ⟨_, rfl⟩
  try dsimp only at hw
  obtain ⟨bn2, xr1⟩ := hw
  try clear hw
  obtain ⟨hP1, hK1, hD1⟩ := hB
  replace hP1 := va_P.he ht hP1
  obtain ⟨hP, hD⟩ := va_join (wr := (wz_161 pr gl fu pa pf sf pk pg pp pz pv pr_reason pr_place pr_scanner_r pr_stepCount pr_open pr_twoSides pr_waiting_r pr_waitingPlaces_r pr_waitingCount bo bob bo_length bob cbob gbob)) (w1 := (wz_149 h0 pr kn lt h0_localCount pe n2 h0_gives h0_depth h0_loopDepth to bo cs se pe cpe gpe)) hP hD [0, 2] [1, 3, 4] rfl rfl (by decide) (by decide) hk1 hFc hP1 hD1
  clear hPc hDc hKc hFc hz1 hk1 hP1 hK1 hD1
  rename Heap => H
  have hP : va_P (dC, dI) cls (wz_162 pr gl fu pa pf sf pk pg pp pz pv pr_reason pr_place pr_scanner_r pr_stepCount pr_open pr_twoSides pr_waiting_r pr_waitingPlaces_r pr_waitingCount bo bob bo_length bob cbob gbob h0 pr kn lt h0_localCount pe n2 h0_gives h0_depth h0_loopDepth to bo cs se pe cpe gpe) H := hP
  have hD : va_D A (wz_162 pr gl fu pa pf sf pk pg pp pz pv pr_reason pr_place pr_scanner_r pr_stepCount pr_open pr_twoSides pr_waiting_r pr_waitingPlaces_r pr_waitingCount bo bob bo_length bob cbob gbob h0 pr kn lt h0_localCount pe n2 h0_gives h0_depth h0_loopDepth to bo cs se pe cpe gpe) := hD
  refine lv_istore_n (lv' := [(3, .int r1), (0, .ref h0), (1, .ref (sg sa ka)), (2, .int p1)]) hx hb d_CO_codePrefix_4 rfl hl (by decide) rfl (fun ls hl => ?_)
  refine lv_iload_n hx hb d_CO_codePrefix_5 rfl (lv_at hl 0 rfl) ?_
  refine lv_bipush (v := 64) hx hb d_CO_codePrefix_6 (by decide) ?_
  refine w_cut (pc2 := 24) (σ := Unit) (fun u H locs ls => match u with | _ => va_P (dC, dI) cls (wz_162 pr gl fu pa pf sf pk pg pp pz pv pr_reason pr_place pr_scanner_r pr_stepCount pr_open pr_twoSides pr_waiting_r pr_waitingPlaces_r pr_waitingCount bo bob bo_length bob cbob gbob h0 pr kn lt h0_localCount pe n2 h0_gives h0_depth h0_loopDepth to bo cs se pe cpe gpe) H ∧ va_D A (wz_162 pr gl fu pa pf sf pk pg pp pz pv pr_reason pr_place pr_scanner_r pr_stepCount pr_open pr_twoSides pr_waiting_r pr_waitingPlaces_r pr_waitingCount bo bob bo_length bob cbob gbob h0 pr kn lt h0_localCount pe n2 h0_gives h0_depth h0_loopDepth to bo cs se pe cpe gpe) ∧ va_S A s.heap H locs ∧ lv_has ls 5 [(0, .ref h0), (2, .int p1)]) (fun u => match u with | _ => []) ?_ (fun jn24 => ?_)
  · intro u H locs ls hI
    obtain ⟨hP, hD, hS, hl⟩ := hI
    refine lv_aload_n hx hb d_CO_codePrefix_24 rfl (lv_at hl 0 rfl) ?_
    refine va_get (D := (dC, dI)) (ci := 2) (v := .ref pr) (C := R_CO) (T := F_CO) (N := 13) hx hb hts i_CO hown hK hP 3 rfl rfl 0 (by decide) (hts _ kF_CO_36) (fun _ h9 => h9) rfl d_CO_codePrefix_25 ?_
    refine lv_iconst (v := 3) hx hb d_CO_codePrefix_28 (by decide) ?_
    refine lv_iload_n hx hb d_CO_codePrefix_29 rfl (lv_at hl 1 rfl) ?_
    have hPc := hP.sb (wq := (wz_110 pr gl fu pa pf sf pk pg pp pz pv pr_reason pr_place pr_scanner_r pr_stepCount pr_open pr_twoSides pr_waiting_r pr_waitingPlaces_r pr_waitingCount)) [0] rfl
    have hDc := hD.sb (wq := (wz_110 pr gl fu pa pf sf pk pg pp pz pv pr_reason pr_place pr_scanner_r pr_stepCount pr_open pr_twoSides pr_waiting_r pr_waitingPlaces_r pr_waitingCount)) [0] (by decide) rfl
    have hKc := hK.sb (tyq := []) [] rfl
    have hFc := va_free (wc := (wz_110 pr gl fu pa pf sf pk pg pp pz pv pr_reason pr_place pr_scanner_r pr_stepCount pr_open pr_twoSides pr_waiting_r pr_waitingPlaces_r pr_waitingCount)) hD hS hA [0] rfl
    refine tq_callv (tz_runV (As := [.int 3, .int p1]) (rest := []) ⟨hx, hb, hml, hown, hts⟩ (c_PR_refuse l hlt dC dI H.size sa pr gl fu pa pf sf pk pg pp pz pv pr_scanner_r pr_waiting_r pr_waitingPlaces_r pr_reason pr_place pr_stepCount pr_open pr_twoSides pr_waitingCount 3 p1) (cwV 2 hts (gV kM_CO_105 kV_PR_refuse kS_PR_refuse kI_PR kC_PR_refuse) rfl rfl rfl (by decide +kernel) ⟨Nat.le_of_ble_eq_true rfl, Nat.le_of_ble_eq_true rfl⟩) ⟨fun a U g mk z => by obtain ⟨z0, z1, zP, zK, zD, zS⟩ := z; exact ⟨z0, z1, zP, va_K.moved (u := U) (U := U.calling g mk a) (Vm.Alike.refl U.vm) zK, zD, sw.same (u := U) (U := U.calling g mk a) rfl zS⟩, va_recv hKc hPc (ci := 6) (q0 := 0) rfl rfl, fun U hU hW => ⟨rfl, by rw [hU], va_P.he hU.symm hPc, va_K.moved hW.alike hKc, hDc.weaken (fun _ _ _ _ => trivial), hSW.call hS hFc hW hU⟩⟩ rfl rfl hl.1 rfl (lv_room (Nat.le_of_ble_eq_true rfl)) d_CO_codePrefix_30 ⟨Nat.le_of_ble_eq_true rfl, Nat.le_of_ble_eq_true rfl⟩) hS (fun q _ h => hFc q h) hFc (fun u t H1 locs ht hvm hw hB hz1 hk1 hS => ?_) (fun xx u t H1 locs ht hvm hw hXX hB hz1 hk1 hS => ?_)
    rotate_left
    · skip
      obtain ⟨n4, n5⟩ := u
      try dsimp only at hw
      obtain ⟨hP1, hK1, hD1⟩ := hB
      replace hP1 := va_P.he ht hP1
      obtain ⟨hP, hD⟩ := va_join (wr := (wz_157 bo bob bo_length bob cbob gbob h0 pr kn lt h0_localCount pe n2 h0_gives h0_depth h0_loopDepth to bo cs se pe cpe gpe)) (w1 := (wz_110 pr gl fu pa pf sf pk pg pp pz pv n5 n4 pr_scanner_r pr_stepCount pr_open pr_twoSides pr_waiting_r pr_waitingPlaces_r pr_waitingCount)) hP hD [0] [1, 2, 3, 4] rfl rfl (by decide) (by decide) hk1 hFc hP1 hD1
      have hP : va_P (dC, dI) cls (wz_164 bo bob bo_length bob cbob gbob h0 pr kn lt h0_localCount pe n2 h0_gives h0_depth h0_loopDepth to bo cs se pe cpe gpe pr gl fu pa pf sf pk pg pp pz pv n5 n4 pr_scanner_r pr_stepCount pr_open pr_twoSides pr_waiting_r pr_waitingPlaces_r pr_waitingCount) H1 := hP
      have hD : va_D A (wz_164 bo bob bo_length bob cbob gbob h0 pr kn lt h0_localCount pe n2 h0_gives h0_depth h0_loopDepth to bo cs se pe cpe gpe pr gl fu pa pf sf pk pg pp pz pv n5 n4 pr_scanner_r pr_stepCount pr_open pr_twoSides pr_waiting_r pr_waitingPlaces_r pr_waitingCount) := hD
      have hP9 := hP.sb (wq := (wz_160 h0 pr kn lt h0_localCount pe n2 h0_gives h0_depth h0_loopDepth to bo cs se pr gl fu pa pf sf pk pg pp pz pv n5 n4 pr_scanner_r pr_stepCount pr_open pr_twoSides pr_waiting_r pr_waitingPlaces_r pr_waitingCount pe cpe gpe bo bob bo_length bob cbob gbob)) [2, 4, 3, 0, 1] rfl
      have hD9 := hD.sb (wq := (wz_160 h0 pr kn lt h0_localCount pe n2 h0_gives h0_depth h0_loopDepth to bo cs se pr gl fu pa pf sf pk pg pp pz pv n5 n4 pr_scanner_r pr_stepCount pr_open pr_twoSides pr_waiting_r pr_waitingPlaces_r pr_waitingCount pe cpe gpe bo bob bo_length bob cbob gbob)) [2, 4, 3, 0, 1] (by decide) rfl
      exact tz_leave rfl hno hlocks (fun t ht hW => ⟨⟨(gbob, gpe, bo_length, n2, n4, n5), ⟨⟨b_bo_length, bn2⟩, by rw [ht]; exact hXX.moved hW.alike⟩, va_P.he ht.symm hP9, va_K.moved hW.alike hK, hD9⟩, hS.F ht⟩) hS.2.2
    exact (show False from hw).elim
  · skip
    refine lv_icmp_eq (tgt := 24) hx hb d_CO_codePrefix_8 (by decide) (fun c8 => ?_) (fun c8 => ?_)
    · have q8 := eqI c8
      exact jn24 () _ _ _ ⟨hP, hD, hS, lv_sub hl [1, 3] rfl⟩
    · have q8 := neI c8
      refine lv_aload_n hx hb d_CO_codePrefix_11 rfl (lv_at hl 2 rfl) ?_
      refine va_gets (C := "WaferForge$Sign") (n := "NOT") (d := "LWaferForge$Sign;") (v := .ref (sg sa 34)) hx hb ((hSW.2.2.2.1.1 34 (by decide)).1) hS hown (hts _ kF_CO_239) (fun _ h9 => h9) d_CO_codePrefix_12 ?_
      refine w_cut (pc2 := 33) (σ := Unit) (fun u H locs ls => match u with | _ => (r1.toInt ≠ 64 ∧ (ka = 34 → r1.toInt = 127)) ∧ va_P (dC, dI) cls (wz_162 pr gl fu pa pf sf pk pg pp pz pv pr_reason pr_place pr_scanner_r pr_stepCount pr_open pr_twoSides pr_waiting_r pr_waitingPlaces_r pr_waitingCount bo bob bo_length bob cbob gbob h0 pr kn lt h0_localCount pe n2 h0_gives h0_depth h0_loopDepth to bo cs se pe cpe gpe) H ∧ va_D A (wz_162 pr gl fu pa pf sf pk pg pp pz pv pr_reason pr_place pr_scanner_r pr_stepCount pr_open pr_twoSides pr_waiting_r pr_waitingPlaces_r pr_waitingCount bo bob bo_length bob cbob gbob h0 pr kn lt h0_localCount pe n2 h0_gives h0_depth h0_loopDepth to bo cs se pe cpe gpe) ∧ va_S A s.heap H locs ∧ lv_has ls 5 [(0, .ref h0), (1, .ref (sg sa ka)), (3, .int r1)]) (fun u => match u with | _ => []) ?_ (fun jn33 => ?_)
      · intro u H locs ls hI
        obtain ⟨y33, hP, hD, hS, hl⟩ := hI
        refine lv_iload_n hx hb d_CO_codePrefix_33 rfl (lv_at hl 2 rfl) ?_
        refine lv_bipush (v := 127) hx hb d_CO_codePrefix_34 (by decide) ?_
        refine w_cut (pc2 := 44) (σ := Int32) (fun u H locs ls => match u with | j44_s0 => (j44_s0 = 0 ∨ j44_s0 = 1) ∧ va_P (dC, dI) cls (wz_162 pr gl fu pa pf sf pk pg pp pz pv pr_reason pr_place pr_scanner_r pr_stepCount pr_open pr_twoSides pr_waiting_r pr_waitingPlaces_r pr_waitingCount bo bob bo_length bob cbob gbob h0 pr kn lt h0_localCount pe n2 h0_gives h0_depth h0_loopDepth to bo cs se pe cpe gpe) H ∧ va_D A (wz_162 pr gl fu pa pf sf pk pg pp pz pv pr_reason pr_place pr_scanner_r pr_stepCount pr_open pr_twoSides pr_waiting_r pr_waitingPlaces_r pr_waitingCount bo bob bo_length bob cbob gbob h0 pr kn lt h0_localCount pe n2 h0_gives h0_depth h0_loopDepth to bo cs se pe cpe gpe) ∧ va_S A s.heap H locs ∧ lv_has ls 5 [(0, .ref h0), (1, .ref (sg sa ka)), (3, .int r1)]) (fun u => match u with | j44_s0 => [.int j44_s0]) ?_ (fun jn44 => ?_)
        · intro u H locs ls hI
          obtain ⟨j44_s0, rfl⟩ : ∃ z, z = u := ⟨_, rfl⟩
          obtain ⟨b_j44_s0, hP, hD, hS, hl⟩ := hI
          have tj44_s0 := b01 b_j44_s0
          refine lv_istore (lv' := [(4, .int j44_s0), (0, .ref h0), (1, .ref (sg sa ka)), (3, .int r1)]) hx hb d_CO_codePrefix_44 hl (by decide) rfl (fun ls hl => ?_)
          refine lv_aload_n hx hb d_CO_codePrefix_46 rfl (lv_at hl 2 rfl) ?_
          refine va_gets (C := "WaferForge$Sign") (n := "NOT") (d := "LWaferForge$Sign;") (v := .ref (sg sa 34)) hx hb ((hSW.2.2.2.1.1 34 (by decide)).1) hS hown (hts _ kF_CO_239) (fun _ h9 => h9) d_CO_codePrefix_47 ?_
          refine lv_acmp_ne (rx := some (sg sa ka)) (ry := some (sg sa 34)) (tgt := 65) hx hb d_CO_codePrefix_50 (by decide) (fun c50 => ?_) (fun c50 => ?_)
          · have q50 : ka ≠ 34 := fun z => c50 (by rw [z])
            refine lv_aload_n hx hb d_CO_codePrefix_65 rfl (lv_at hl 2 rfl) ?_
            refine va_gets (C := "WaferForge$Sign") (n := "MINUS") (d := "LWaferForge$Sign;") (v := .ref (sg sa 51)) hx hb ((hSW.2.2.2.1.1 51 (by decide)).1) hS hown (hts _ kF_CO_242) (fun _ h9 => h9) d_CO_codePrefix_66 ?_
            refine lv_acmp_ne (rx := some (sg sa ka)) (ry := some (sg sa 51)) (tgt := 117) hx hb d_CO_codePrefix_69 (by decide) (fun c69 => ?_) (fun c69 => ?_)
            · have q69 : ka ≠ 51 := fun z => c69 (by rw [z])
              refine lv_aload_n hx hb d_CO_codePrefix_117 rfl (lv_at hl 1 rfl) ?_
              refine va_get (D := (dC, dI)) (ci := 2) (v := .ref bo) (C := R_CO) (T := F_CO) (N := 13) hx hb hts i_CO hown hK hP 3 rfl rfl 10 (by decide) (hts _ kF_CO_26) (fun _ h9 => h9) rfl d_CO_codePrefix_118 ?_
              refine lv_iload hx hb d_CO_codePrefix_121 (lv_at hl 0 rfl) ?_
              refine w_cut (pc2 := 133) (σ := Int32) (fun u H locs ls => match u with | j133_s0 => (j133_s0 = 65 ∨ j133_s0 = 66) ∧ va_P (dC, dI) cls (wz_162 pr gl fu pa pf sf pk pg pp pz pv pr_reason pr_place pr_scanner_r pr_stepCount pr_open pr_twoSides pr_waiting_r pr_waitingPlaces_r pr_waitingCount bo bob bo_length bob cbob gbob h0 pr kn lt h0_localCount pe n2 h0_gives h0_depth h0_loopDepth to bo cs se pe cpe gpe) H ∧ va_D A (wz_162 pr gl fu pa pf sf pk pg pp pz pv pr_reason pr_place pr_scanner_r pr_stepCount pr_open pr_twoSides pr_waiting_r pr_waitingPlaces_r pr_waitingCount bo bob bo_length bob cbob gbob h0 pr kn lt h0_localCount pe n2 h0_gives h0_depth h0_loopDepth to bo cs se pe cpe gpe) ∧ va_S A s.heap H locs ∧ lv_has ls 5 [(0, .ref h0), (3, .int r1), (4, .int j44_s0)]) (fun u => match u with | j133_s0 => [.int j133_s0, .ref bo]) ?_ (fun jn133 => ?_)
              · intro u H locs ls hI
                obtain ⟨j133_s0, rfl⟩ : ∃ z, z = u := ⟨_, rfl⟩
                obtain ⟨y133, hP, hD, hS, hl⟩ := hI
                have bb133 : bn j133_s0 = 65 ∨ bn j133_s0 = 66 := by rcases y133 with z | z <;> rw [z]; exact Or.inl rfl; exact Or.inr rfl
                have rg133 : j133_s0.toInt = 65 ∨ j133_s0.toInt = 66 := by rcases y133 with z | z <;> rw [z]; exact Or.inl rfl; exact Or.inr rfl
                have hPc := hP.sb (wq := (wz_94 bo bob bo_length bob cbob gbob)) [1, 2] rfl
                have hDc := hD.sb (wq := (wz_94 bo bob bo_length bob cbob gbob)) [1, 2] (by decide) rfl
                have hKc := hK.sb (tyq := [(cbob, .byte)]) [1] rfl
                have hFc := va_free (wc := (wz_94 bo bob bo_length bob cbob gbob)) hD hS hA [1, 2] rfl
                refine va_callv (va_runV (As := [.int j133_s0]) (rest := []) ⟨hx, hb, hml, hown, hts⟩ (c_BR_put l dC dI bo bob H.size cbob 8192 bo_length gbob (by (first | (apply Int.le_antisymm <;> omega) | omega)) (by (first | (apply Int.le_antisymm <;> omega) | omega)) (by (first | (apply Int.le_antisymm <;> omega) | omega)) j133_s0) (cwV 1 hts (gV kM_CO_76 kV_BR_put kS_BR_put kI_BR kC_BR_put) rfl rfl rfl (by decide +kernel) ⟨Nat.le_of_ble_eq_true rfl, Nat.le_of_ble_eq_true rfl⟩) ⟨fun a U g mk z => by obtain ⟨z0, z1, zP, zK, zD⟩ := z; exact ⟨z0, z1, zP, va_K.moved (u := U) (U := U.calling g mk a) (Vm.Alike.refl U.vm) zK, zD⟩, va_recv hKc hPc (ci := 1) (q0 := 0) rfl rfl, fun U hU hW => ⟨rfl, by rw [hU], va_P.he hU.symm hPc, va_K.moved hW.alike hKc, hDc.weaken (fun _ _ _ _ => trivial)⟩⟩ rfl rfl hl.1 rfl (lv_room (Nat.le_of_ble_eq_true rfl)) d_CO_codePrefix_133 ⟨(Nat.zero_le _), (Nat.zero_le _)⟩) hS (fun q _ h => hFc q h) hFc (fun u t H1 locs ht hvm hw hB hz1 hk1 hS => ?_)
                obtain ⟨n7, f8⟩ := u
                try dsimp only at hw
                have tn7 := br_put_in (by (first | (apply Int.le_antisymm <;> omega) | omega)) (by (first | (apply Int.le_antisymm <;> omega) | omega)) (by (first | (apply Int.le_antisymm <;> omega) | omega)) hw
                have bn7 := br_put_bl (by (first | (apply Int.le_antisymm <;> omega) | omega)) (by (first | (apply Int.le_antisymm <;> omega) | omega)) (by (first | (apply Int.le_antisymm <;> omega) | omega)) hw
                obtain ⟨hP1, hK1, hD1⟩ := hB
                replace hP1 := va_P.he ht hP1
                obtain ⟨hP, hD⟩ := va_join (wr := (wz_155 pr gl fu pa pf sf pk pg pp pz pv pr_reason pr_place pr_scanner_r pr_stepCount pr_open pr_twoSides pr_waiting_r pr_waitingPlaces_r pr_waitingCount h0 pr kn lt h0_localCount pe n2 h0_gives h0_depth h0_loopDepth to bo cs se pe cpe gpe)) (w1 := (wz_94 bo bob n7 bob cbob f8)) hP hD [1, 2] [0, 3, 4] rfl rfl (by decide) (by decide) hk1 hFc hP1 hD1
                clear hPc hDc hKc hFc hz1 hk1 hP1 hK1 hD1
                rename Heap => H
                have hP : va_P (dC, dI) cls (wz_163 pr gl fu pa pf sf pk pg pp pz pv pr_reason pr_place pr_scanner_r pr_stepCount pr_open pr_twoSides pr_waiting_r pr_waitingPlaces_r pr_waitingCount h0 pr kn lt h0_localCount pe n2 h0_gives h0_depth h0_loopDepth to bo cs se pe cpe gpe bo bob n7 bob cbob f8) H := hP
                have hD : va_D A (wz_163 pr gl fu pa pf sf pk pg pp pz pv pr_reason pr_place pr_scanner_r pr_stepCount pr_open pr_twoSides pr_waiting_r pr_waitingPlaces_r pr_waitingCount h0 pr kn lt h0_localCount pe n2 h0_gives h0_depth h0_loopDepth to bo cs se pe cpe gpe bo bob n7 bob cbob f8) := hD
                refine lv_aload_n hx hb d_CO_codePrefix_136 rfl (lv_at hl 0 rfl) ?_
                refine va_get (D := (dC, dI)) (ci := 2) (v := .ref bo) (C := R_CO) (T := F_CO) (N := 13) hx hb hts i_CO hown hK hP 1 rfl rfl 10 (by decide) (hts _ kF_CO_26) (fun _ h9 => h9) rfl d_CO_codePrefix_137 ?_
                refine lv_ldc2 hx hb hown (hts _ kL_CO_248) d_CO_codePrefix_140 ?_
                refine lv_topl (fun x9 ex9 => ?_)
                have tx9 : x9.toInt = -1 := by rw [ex9]; decide
                have hPc := hP.sb (wq := (wz_94 bo bob n7 bob cbob f8)) [3, 4] rfl
                have hDc := hD.sb (wq := (wz_94 bo bob n7 bob cbob f8)) [3, 4] (by decide) rfl
                have hKc := hK.sb (tyq := [(cbob, .byte)]) [1] rfl
                have hFc := va_free (wc := (wz_94 bo bob n7 bob cbob f8)) hD hS hA [3, 4] rfl
                refine va_callv (va_runV (As := [.long x9]) (rest := []) ⟨hx, hb, hml, hown, hts⟩ (c_BR_putSigned l dC dI H.size bo bob cbob n7 8192 f8 x9 (by (try dsimp only) <;> (first | (apply Int.le_antisymm <;> omega) | omega))) (cwV 1 hts (gV kM_CO_179 kV_BR_putSigned kS_BR_putSigned kI_BR kC_BR_putSigned) rfl rfl rfl (by decide +kernel) ⟨Nat.le_of_ble_eq_true rfl, Nat.le_of_ble_eq_true rfl⟩) ⟨fun a U g mk z => by obtain ⟨z0, z1, zP, zK, zD⟩ := z; exact ⟨z0, z1, zP, va_K.moved (u := U) (U := U.calling g mk a) (Vm.Alike.refl U.vm) zK, zD⟩, va_recv hKc hPc (ci := 1) (q0 := 0) rfl rfl, fun U hU hW => ⟨rfl, by rw [hU], va_P.he hU.symm hPc, va_K.moved hW.alike hKc, hDc.weaken (fun _ _ _ _ => trivial)⟩⟩ rfl rfl hl.1 rfl (lv_room (Nat.le_of_ble_eq_true rfl)) d_CO_codePrefix_143 ⟨(Nat.zero_le _), (Nat.zero_le _)⟩) hS (fun q _ h => hFc q h) hFc (fun u t H1 locs ht hvm hw hB hz1 hk1 hS => ?_)
                obtain ⟨n11, n12⟩ := u
                try dsimp only at hw
                have xr10 := hw
                try clear hw
                have l143 : (sleb 10 x9.toInt).length = 1 := by rw [tx9]; decide
                have s143 : sleb 10 x9.toInt = [127] := by rw [tx9]; decide
                obtain ⟨hP1, hK1, hD1⟩ := hB
                replace hP1 := va_P.he ht hP1
                obtain ⟨hP, hD⟩ := va_join (wr := (wz_155 pr gl fu pa pf sf pk pg pp pz pv pr_reason pr_place pr_scanner_r pr_stepCount pr_open pr_twoSides pr_waiting_r pr_waitingPlaces_r pr_waitingCount h0 pr kn lt h0_localCount pe n2 h0_gives h0_depth h0_loopDepth to bo cs se pe cpe gpe)) (w1 := (wz_94 bo bob n12 bob cbob n11)) hP hD [3, 4] [0, 1, 2] rfl rfl (by decide) (by decide) hk1 hFc hP1 hD1
                clear hPc hDc hKc hFc hz1 hk1 hP1 hK1 hD1
                rename Heap => H
                have hP : va_P (dC, dI) cls (wz_163 pr gl fu pa pf sf pk pg pp pz pv pr_reason pr_place pr_scanner_r pr_stepCount pr_open pr_twoSides pr_waiting_r pr_waitingPlaces_r pr_waitingCount h0 pr kn lt h0_localCount pe n2 h0_gives h0_depth h0_loopDepth to bo cs se pe cpe gpe bo bob n12 bob cbob n11) H := hP
                have hD : va_D A (wz_163 pr gl fu pa pf sf pk pg pp pz pv pr_reason pr_place pr_scanner_r pr_stepCount pr_open pr_twoSides pr_waiting_r pr_waitingPlaces_r pr_waitingCount h0 pr kn lt h0_localCount pe n2 h0_gives h0_depth h0_loopDepth to bo cs se pe cpe gpe bo bob n12 bob cbob n11) := hD
                refine lv_aload_n hx hb d_CO_codePrefix_146 rfl (lv_at hl 0 rfl) ?_
                refine va_get (D := (dC, dI)) (ci := 2) (v := .ref bo) (C := R_CO) (T := F_CO) (N := 13) hx hb hts i_CO hown hK hP 1 rfl rfl 10 (by decide) (hts _ kF_CO_26) (fun _ h9 => h9) rfl d_CO_codePrefix_147 ?_
                refine lv_iload hx hb d_CO_codePrefix_150 (lv_at hl 2 rfl) ?_
                refine w_cut (pc2 := 163) (σ := Int32) (fun u H locs ls => match u with | j163_s0 => (j163_s0 = 115 ∨ j163_s0 = 133) ∧ va_P (dC, dI) cls (wz_163 pr gl fu pa pf sf pk pg pp pz pv pr_reason pr_place pr_scanner_r pr_stepCount pr_open pr_twoSides pr_waiting_r pr_waitingPlaces_r pr_waitingCount h0 pr kn lt h0_localCount pe n2 h0_gives h0_depth h0_loopDepth to bo cs se pe cpe gpe bo bob n12 bob cbob n11) H ∧ va_D A (wz_163 pr gl fu pa pf sf pk pg pp pz pv pr_reason pr_place pr_scanner_r pr_stepCount pr_open pr_twoSides pr_waiting_r pr_waitingPlaces_r pr_waitingCount h0 pr kn lt h0_localCount pe n2 h0_gives h0_depth h0_loopDepth to bo cs se pe cpe gpe bo bob n12 bob cbob n11) ∧ va_S A s.heap H locs ∧ lv_has ls 5 [(0, .ref h0), (3, .int r1)]) (fun u => match u with | j163_s0 => [.int j163_s0, .ref bo]) ?_ (fun jn163 => ?_)
                · intro u H locs ls hI
                  obtain ⟨j163_s0, rfl⟩ : ∃ z, z = u := ⟨_, rfl⟩
                  obtain ⟨y163, hP, hD, hS, hl⟩ := hI
                  have bb163 : bn j163_s0 = 115 ∨ bn j163_s0 = 133 := by rcases y163 with z | z <;> rw [z]; exact Or.inl rfl; exact Or.inr rfl
                  have rg163 : j163_s0.toInt = 115 ∨ j163_s0.toInt = 133 := by rcases y163 with z | z <;> rw [z]; exact Or.inl rfl; exact Or.inr rfl
                  have hPc := hP.sb (wq := (wz_94 bo bob n12 bob cbob n11)) [3, 4] rfl
                  have hDc := hD.sb (wq := (wz_94 bo bob n12 bob cbob n11)) [3, 4] (by decide) rfl
                  have hKc := hK.sb (tyq := [(cbob, .byte)]) [1] rfl
                  have hFc := va_free (wc := (wz_94 bo bob n12 bob cbob n11)) hD hS hA [3, 4] rfl
                  refine va_callv (va_runV (As := [.int j163_s0]) (rest := []) ⟨hx, hb, hml, hown, hts⟩ (c_BR_put l dC dI bo bob H.size cbob 8192 n12 n11 (by (first | (apply Int.le_antisymm <;> omega) | omega)) (by (first | (apply Int.le_antisymm <;> omega) | omega)) (by (first | (apply Int.le_antisymm <;> omega) | omega)) j163_s0) (cwV 1 hts (gV kM_CO_76 kV_BR_put kS_BR_put kI_BR kC_BR_put) rfl rfl rfl (by decide +kernel) ⟨Nat.le_of_ble_eq_true rfl, Nat.le_of_ble_eq_true rfl⟩) ⟨fun a U g mk z => by obtain ⟨z0, z1, zP, zK, zD⟩ := z; exact ⟨z0, z1, zP, va_K.moved (u := U) (U := U.calling g mk a) (Vm.Alike.refl U.vm) zK, zD⟩, va_recv hKc hPc (ci := 1) (q0 := 0) rfl rfl, fun U hU hW => ⟨rfl, by rw [hU], va_P.he hU.symm hPc, va_K.moved hW.alike hKc, hDc.weaken (fun _ _ _ _ => trivial)⟩⟩ rfl rfl hl.1 rfl (lv_room (Nat.le_of_ble_eq_true rfl)) d_CO_codePrefix_163 ⟨(Nat.zero_le _), (Nat.zero_le _)⟩) hS (fun q _ h => hFc q h) hFc (fun u t H1 locs ht hvm hw hB hz1 hk1 hS => ?_)
                  obtain ⟨n14, f15⟩ := u
                  try dsimp only at hw
                  have tn14 := br_put_in (by (first | (apply Int.le_antisymm <;> omega) | omega)) (by (first | (apply Int.le_antisymm <;> omega) | omega)) (by (first | (apply Int.le_antisymm <;> omega) | omega)) hw
                  have bn14 := br_put_bl (by (first | (apply Int.le_antisymm <;> omega) | omega)) (by (first | (apply Int.le_antisymm <;> omega) | omega)) (by (first | (apply Int.le_antisymm <;> omega) | omega)) hw
                  obtain ⟨hP1, hK1, hD1⟩ := hB
                  replace hP1 := va_P.he ht hP1
                  obtain ⟨hP, hD⟩ := va_join (wr := (wz_155 pr gl fu pa pf sf pk pg pp pz pv pr_reason pr_place pr_scanner_r pr_stepCount pr_open pr_twoSides pr_waiting_r pr_waitingPlaces_r pr_waitingCount h0 pr kn lt h0_localCount pe n2 h0_gives h0_depth h0_loopDepth to bo cs se pe cpe gpe)) (w1 := (wz_94 bo bob n14 bob cbob f15)) hP hD [3, 4] [0, 1, 2] rfl rfl (by decide) (by decide) hk1 hFc hP1 hD1
                  clear hPc hDc hKc hFc hz1 hk1 hP1 hK1 hD1
                  rename Heap => H
                  have hP : va_P (dC, dI) cls (wz_163 pr gl fu pa pf sf pk pg pp pz pv pr_reason pr_place pr_scanner_r pr_stepCount pr_open pr_twoSides pr_waiting_r pr_waitingPlaces_r pr_waitingCount h0 pr kn lt h0_localCount pe n2 h0_gives h0_depth h0_loopDepth to bo cs se pe cpe gpe bo bob n14 bob cbob f15) H := hP
                  have hD : va_D A (wz_163 pr gl fu pa pf sf pk pg pp pz pv pr_reason pr_place pr_scanner_r pr_stepCount pr_open pr_twoSides pr_waiting_r pr_waitingPlaces_r pr_waitingCount h0 pr kn lt h0_localCount pe n2 h0_gives h0_depth h0_loopDepth to bo cs se pe cpe gpe bo bob n14 bob cbob f15) := hD
                  refine lv_aload_n hx hb d_CO_codePrefix_166 rfl (lv_at hl 0 rfl) ?_
                  refine lv_iload_n hx hb d_CO_codePrefix_167 rfl (lv_at hl 1 rfl) ?_
                  have hPc := hP.sb (wq := (wz_149 h0 pr kn lt h0_localCount pe n2 h0_gives h0_depth h0_loopDepth to bo cs se pe cpe gpe)) [1, 2] rfl
                  have hDc := hD.sb (wq := (wz_149 h0 pr kn lt h0_localCount pe n2 h0_gives h0_depth h0_loopDepth to bo cs se pe cpe gpe)) [1, 2] (by decide) rfl
                  have hKc := hK.sb (tyq := [(cpe, .int)]) [0] rfl
                  have hFc := va_free (wc := (wz_149 h0 pr kn lt h0_localCount pe n2 h0_gives h0_depth h0_loopDepth to bo cs se pe cpe gpe)) hD hS hA [1, 2] rfl
                  refine va_callv (va_runV (As := [.int r1]) (rest := []) ⟨hx, hb, hml, hown, hts⟩ (c_CO_push l dC dI H.size h0 pr kn lt pe to bo cs se cpe h0_localCount n2 h0_gives h0_depth h0_loopDepth gpe (bn2) r1 (by (try dsimp only) <;> (first | (apply Int.le_antisymm <;> omega) | omega))) (cwV 1 hts (gV kM_CO_183 kV_CO_push kS_CO_push kI_CO kC_CO_push) rfl rfl rfl (by decide +kernel) ⟨Nat.le_of_ble_eq_true rfl, Nat.le_of_ble_eq_true rfl⟩) ⟨fun a U g mk z => by obtain ⟨z0, z1, zP, zK, zD⟩ := z; exact ⟨z0, z1, zP, va_K.moved (u := U) (U := U.calling g mk a) (Vm.Alike.refl U.vm) zK, zD⟩, va_recv hKc hPc (ci := 2) (q0 := 0) rfl rfl, fun U hU hW => ⟨rfl, by rw [hU], va_P.he hU.symm hPc, va_K.moved hW.alike hKc, hDc.weaken (fun _ _ _ _ => trivial)⟩⟩ rfl rfl hl.1 rfl (lv_room (Nat.le_of_ble_eq_true rfl)) d_CO_codePrefix_168 ⟨(Nat.zero_le _), (Nat.zero_le _)⟩) hS (fun q _ h => hFc q h) hFc (fun u t H1 locs ht hvm hw hB hz1 hk1 hS => ?_)
                  obtain ⟨n17, n18⟩ := u
                  try dsimp only at hw
                  obtain ⟨bn18, xr16⟩ := hw
                  try clear hw
                  obtain ⟨hP1, hK1, hD1⟩ := hB
                  replace hP1 := va_P.he ht hP1
                  obtain ⟨hP, hD⟩ := va_join (wr := (wz_161 pr gl fu pa pf sf pk pg pp pz pv pr_reason pr_place pr_scanner_r pr_stepCount pr_open pr_twoSides pr_waiting_r pr_waitingPlaces_r pr_waitingCount bo bob n14 bob cbob f15)) (w1 := (wz_149 h0 pr kn lt h0_localCount pe n18 h0_gives h0_depth h0_loopDepth to bo cs se pe cpe n17)) hP hD [1, 2] [0, 3, 4] rfl rfl (by decide) (by decide) hk1 hFc hP1 hD1
                  clear hPc hDc hKc hFc hz1 hk1 hP1 hK1 hD1
                  rename Heap => H
                  have hP : va_P (dC, dI) cls (wz_162 pr gl fu pa pf sf pk pg pp pz pv pr_reason pr_place pr_scanner_r pr_stepCount pr_open pr_twoSides pr_waiting_r pr_waitingPlaces_r pr_waitingCount bo bob n14 bob cbob f15 h0 pr kn lt h0_localCount pe n18 h0_gives h0_depth h0_loopDepth to bo cs se pe cpe n17) H := hP
                  have hD : va_D A (wz_162 pr gl fu pa pf sf pk pg pp pz pv pr_reason pr_place pr_scanner_r pr_stepCount pr_open pr_twoSides pr_waiting_r pr_waitingPlaces_r pr_waitingCount bo bob n14 bob cbob f15 h0 pr kn lt h0_localCount pe n18 h0_gives h0_depth h0_loopDepth to bo cs se pe cpe n17) := hD
                  have hP9 := hP.sb (wq := (wz_160 h0 pr kn lt h0_localCount pe n18 h0_gives h0_depth h0_loopDepth to bo cs se pr gl fu pa pf sf pk pg pp pz pv pr_reason pr_place pr_scanner_r pr_stepCount pr_open pr_twoSides pr_waiting_r pr_waitingPlaces_r pr_waitingCount pe cpe n17 bo bob n14 bob cbob f15)) [3, 0, 4, 1, 2] rfl
                  have hD9 := hD.sb (wq := (wz_160 h0 pr kn lt h0_localCount pe n18 h0_gives h0_depth h0_loopDepth to bo cs se pr gl fu pa pf sf pk pg pp pz pv pr_reason pr_place pr_scanner_r pr_stepCount pr_open pr_twoSides pr_waiting_r pr_waitingPlaces_r pr_waitingCount pe cpe n17 bo bob n14 bob cbob f15)) [3, 0, 4, 1, 2] (by decide) rfl
                  exact tz_up (fun _ => rfl) (W.vret hx hb hr (fun t ht hW => ⟨⟨(f15, n17, n14, n18, pr_place, pr_reason), ⟨rfl, ⟨by (try dsimp only) <;> (first | (apply Int.le_antisymm <;> omega) | omega), bn18, ⟨by rw [show (h0_pendingCount.toInt - 1).toNat = n2.toNatClampNeg from by have := i32_clamp (x := n2) (by (first | (apply Int.le_antisymm <;> omega) | omega)); (first | (apply Int.le_antisymm <;> omega) | omega), ← xr1.2]; (first | (apply Int.le_antisymm <;> omega) | omega), fun z => absurd z (by (first | (apply Int.le_antisymm <;> omega) | omega)), fun _ => ⟨by (try dsimp only) <;> (first | (apply Int.le_antisymm <;> omega) | omega), by rw [show (h0_pendingCount.toInt - 1).toNat = n2.toNatClampNeg from by have := i32_clamp (x := n2) (by (first | (apply Int.le_antisymm <;> omega) | omega)); (first | (apply Int.le_antisymm <;> omega) | omega), ← xr1.2]; exact xr16.2, by (try dsimp only) <;> (first | (apply Int.le_antisymm <;> omega) | omega), _, _, bb133, bb163, by (try dsimp only); rw [bn14 (by (first | (apply Int.le_antisymm <;> omega) | omega)), xr10.2, s143, bn7 (by (first | (apply Int.le_antisymm <;> omega) | omega))]; simp only [List.append_assoc]; rfl⟩, fun z => absurd z (by (first | (apply Int.le_antisymm <;> omega) | omega))⟩⟩⟩, va_P.he ht.symm hP9, va_K.moved hW.alike hK, hD9⟩, hS.F ht⟩) hS.2.2 d_CO_codePrefix_171)
                · skip
                  refine lv_if_eq (tgt := 160) hx hb d_CO_codePrefix_152 (by decide) (fun c152 => ?_) (fun c152 => ?_)
                  · have q152 := eqI c152
                    refine lv_sipush (v := 133) hx hb d_CO_codePrefix_160 (by decide) ?_
                    exact jn163 133 _ _ _ ⟨Or.inr rfl, hP, hD, hS, lv_sub hl [0, 1] rfl⟩
                  · have q152 := neI c152
                    refine lv_bipush (v := 115) hx hb d_CO_codePrefix_155 (by decide) ?_
                    refine lv_goto (tgt := 163) hx hb d_CO_codePrefix_157 (by decide) ?_
                    exact jn163 115 _ _ _ ⟨Or.inl rfl, hP, hD, hS, lv_sub hl [0, 1] rfl⟩
              · skip
                refine lv_if_eq (tgt := 131) hx hb d_CO_codePrefix_123 (by decide) (fun c123 => ?_) (fun c123 => ?_)
                · have q123 := eqI c123
                  refine lv_bipush (v := 66) hx hb d_CO_codePrefix_131 (by decide) ?_
                  exact jn133 66 _ _ _ ⟨Or.inr rfl, hP, hD, hS, lv_sub hl [1, 3, 0] rfl⟩
                · have q123 := neI c123
                  refine lv_bipush (v := 65) hx hb d_CO_codePrefix_126 (by decide) ?_
                  refine lv_goto (tgt := 133) hx hb d_CO_codePrefix_128 (by decide) ?_
                  exact jn133 65 _ _ _ ⟨Or.inl rfl, hP, hD, hS, lv_sub hl [1, 3, 0] rfl⟩
            · have q69 : ka = 51 := hSW.2.2.2.1.2 ka 51 ba0 (by decide : 51 < 55) (Option.some.inj c69)
              have k72 := hmi.out q69
              refine lv_aload_n hx hb d_CO_codePrefix_72 rfl (lv_at hl 1 rfl) ?_
              refine va_get (D := (dC, dI)) (ci := 2) (v := .ref bo) (C := R_CO) (T := F_CO) (N := 13) hx hb hts i_CO hown hK hP 3 rfl rfl 10 (by decide) (hts _ kF_CO_26) (fun _ h9 => h9) rfl d_CO_codePrefix_73 ?_
              refine lv_aload_n hx hb d_CO_codePrefix_76 rfl (lv_at hl 1 rfl) ?_
              have hPc := hP.sb (wq := (wz_149 h0 pr kn lt h0_localCount pe n2 h0_gives h0_depth h0_loopDepth to bo cs se pe cpe gpe)) [3, 4] rfl
              have hDc := hD.sb (wq := (wz_149 h0 pr kn lt h0_localCount pe n2 h0_gives h0_depth h0_loopDepth to bo cs se pe cpe gpe)) [3, 4] (by decide) rfl
              have hKc := hK.sb (tyq := [(cpe, .int)]) [0] rfl
              have hFc := va_free (wc := (wz_149 h0 pr kn lt h0_localCount pe n2 h0_gives h0_depth h0_loopDepth to bo cs se pe cpe gpe)) hD hS hA [3, 4] rfl
              refine va_calli (va_runV (As := []) (rest := [.ref bo]) ⟨hx, hb, hml, hown, hts⟩ (c_CO_pop l dC dI H.size h0 pr kn lt pe to bo cs se cpe h0_localCount n2 h0_gives h0_depth h0_loopDepth gpe (bn2) (by (try dsimp only) <;> (first | (apply Int.le_antisymm <;> omega) | omega))) (cwV 0 hts (gV kM_CO_224 kV_CO_pop kS_CO_pop kI_CO kC_CO_pop) rfl rfl rfl (by decide +kernel) ⟨Nat.le_of_ble_eq_true rfl, Nat.le_of_ble_eq_true rfl⟩) ⟨fun a U g mk z => by obtain ⟨z0, z1, zP, zK, zD⟩ := z; exact ⟨z0, z1, zP, va_K.moved (u := U) (U := U.calling g mk a) (Vm.Alike.refl U.vm) zK, zD⟩, va_recv hKc hPc (ci := 2) (q0 := 0) rfl rfl, fun U hU hW => ⟨rfl, by rw [hU], va_P.he hU.symm hPc, va_K.moved hW.alike hKc, hDc.weaken (fun _ _ _ _ => trivial)⟩⟩ rfl rfl hl.1 rfl (lv_room (Nat.le_of_ble_eq_true rfl)) d_CO_codePrefix_77 ⟨(Nat.zero_le _), (Nat.zero_le _)⟩) hS (fun q _ h => hFc q h) hFc (fun r19 u t H1 locs ht hvm hw hB hz1 hk1 hS => ?_)
              obtain ⟨n20, rfl⟩ : ∃ z, z = u := ⟨_, rfl⟩
              try dsimp only at hw
              obtain ⟨bn20, xr19⟩ := hw
              try clear hw
              have k77 := k72.2
              rw [show (h0_pendingCount.toInt - 2).toNat = n20.toNatClampNeg from by have := i32_clamp (x := n20) (by (first | (apply Int.le_antisymm <;> omega) | omega)); (first | (apply Int.le_antisymm <;> omega) | omega), ← xr19.2] at k77
              obtain ⟨hP1, hK1, hD1⟩ := hB
              replace hP1 := va_P.he ht hP1
              obtain ⟨hP, hD⟩ := va_join (wr := (wz_161 pr gl fu pa pf sf pk pg pp pz pv pr_reason pr_place pr_scanner_r pr_stepCount pr_open pr_twoSides pr_waiting_r pr_waitingPlaces_r pr_waitingCount bo bob bo_length bob cbob gbob)) (w1 := (wz_149 h0 pr kn lt h0_localCount pe n20 h0_gives h0_depth h0_loopDepth to bo cs se pe cpe gpe)) hP hD [3, 4] [0, 1, 2] rfl rfl (by decide) (by decide) hk1 hFc hP1 hD1
              clear hPc hDc hKc hFc hz1 hk1 hP1 hK1 hD1
              rename Heap => H
              have hP : va_P (dC, dI) cls (wz_162 pr gl fu pa pf sf pk pg pp pz pv pr_reason pr_place pr_scanner_r pr_stepCount pr_open pr_twoSides pr_waiting_r pr_waitingPlaces_r pr_waitingCount bo bob bo_length bob cbob gbob h0 pr kn lt h0_localCount pe n20 h0_gives h0_depth h0_loopDepth to bo cs se pe cpe gpe) H := hP
              have hD : va_D A (wz_162 pr gl fu pa pf sf pk pg pp pz pv pr_reason pr_place pr_scanner_r pr_stepCount pr_open pr_twoSides pr_waiting_r pr_waitingPlaces_r pr_waitingCount bo bob bo_length bob cbob gbob h0 pr kn lt h0_localCount pe n20 h0_gives h0_depth h0_loopDepth to bo cs se pe cpe gpe) := hD
              refine lv_iload hx hb d_CO_codePrefix_80 (lv_at hl 0 rfl) ?_
              refine w_cut (pc2 := 92) (σ := Int32) (fun u H locs ls => match u with | j92_s0 => (j92_s0 = 65 ∨ j92_s0 = 66) ∧ va_P (dC, dI) cls (wz_162 pr gl fu pa pf sf pk pg pp pz pv pr_reason pr_place pr_scanner_r pr_stepCount pr_open pr_twoSides pr_waiting_r pr_waitingPlaces_r pr_waitingCount bo bob bo_length bob cbob gbob h0 pr kn lt h0_localCount pe n20 h0_gives h0_depth h0_loopDepth to bo cs se pe cpe gpe) H ∧ va_D A (wz_162 pr gl fu pa pf sf pk pg pp pz pv pr_reason pr_place pr_scanner_r pr_stepCount pr_open pr_twoSides pr_waiting_r pr_waitingPlaces_r pr_waitingCount bo bob bo_length bob cbob gbob h0 pr kn lt h0_localCount pe n20 h0_gives h0_depth h0_loopDepth to bo cs se pe cpe gpe) ∧ va_S A s.heap H locs ∧ lv_has ls 5 [(0, .ref h0), (3, .int r1), (4, .int j44_s0)]) (fun u => match u with | j92_s0 => [.int j92_s0, .int r19, .ref bo]) ?_ (fun jn92 => ?_)
              · intro u H locs ls hI
                obtain ⟨j92_s0, rfl⟩ : ∃ z, z = u := ⟨_, rfl⟩
                obtain ⟨y92, hP, hD, hS, hl⟩ := hI
                have bb92 : bn j92_s0 = 65 ∨ bn j92_s0 = 66 := by rcases y92 with z | z <;> rw [z]; exact Or.inl rfl; exact Or.inr rfl
                have rg92 : j92_s0.toInt = 65 ∨ j92_s0.toInt = 66 := by rcases y92 with z | z <;> rw [z]; exact Or.inl rfl; exact Or.inr rfl
                have hPc := hP.sb (wq := (wz_94 bo bob bo_length bob cbob gbob)) [1, 2] rfl
                have hDc := hD.sb (wq := (wz_94 bo bob bo_length bob cbob gbob)) [1, 2] (by decide) rfl
                have hKc := hK.sb (tyq := [(cbob, .byte)]) [1] rfl
                have hFc := va_free (wc := (wz_94 bo bob bo_length bob cbob gbob)) hD hS hA [1, 2] rfl
                refine va_callv (va_runV (As := [.int r19, .int j92_s0]) (rest := []) ⟨hx, hb, hml, hown, hts⟩ (c_BR_change l dC dI bo bob H.size cbob 8192 bo_length gbob (by (first | (apply Int.le_antisymm <;> omega) | omega)) (by (first | (apply Int.le_antisymm <;> omega) | omega)) (by (first | (apply Int.le_antisymm <;> omega) | omega)) r19 j92_s0) (cwV 2 hts (gV kM_CO_245 kV_BR_change kS_BR_change kI_BR kC_BR_change) rfl rfl rfl (by decide +kernel) ⟨Nat.le_of_ble_eq_true rfl, Nat.le_of_ble_eq_true rfl⟩) ⟨fun a U g mk z => by obtain ⟨z0, z1, zP, zK, zD⟩ := z; exact ⟨z0, z1, zP, va_K.moved (u := U) (U := U.calling g mk a) (Vm.Alike.refl U.vm) zK, zD⟩, va_recv hKc hPc (ci := 1) (q0 := 0) rfl rfl, fun U hU hW => ⟨rfl, by rw [hU], va_P.he hU.symm hPc, va_K.moved hW.alike hKc, hDc.weaken (fun _ _ _ _ => trivial)⟩⟩ rfl rfl hl.1 rfl (lv_room (Nat.le_of_ble_eq_true rfl)) d_CO_codePrefix_92 ⟨(Nat.zero_le _), (Nat.zero_le _)⟩) hS (fun q _ h => hFc q h) hFc (fun u t H1 locs ht hvm hw hB hz1 hk1 hS => ?_)
                obtain ⟨n22, f23⟩ := u
                try dsimp only at hw
                obtain ⟨tn22, cn22, -⟩ := hw
                have tn22 := congrArg Int32.toInt tn22
                obtain ⟨hP1, hK1, hD1⟩ := hB
                replace hP1 := va_P.he ht hP1
                obtain ⟨hP, hD⟩ := va_join (wr := (wz_155 pr gl fu pa pf sf pk pg pp pz pv pr_reason pr_place pr_scanner_r pr_stepCount pr_open pr_twoSides pr_waiting_r pr_waitingPlaces_r pr_waitingCount h0 pr kn lt h0_localCount pe n20 h0_gives h0_depth h0_loopDepth to bo cs se pe cpe gpe)) (w1 := (wz_94 bo bob n22 bob cbob f23)) hP hD [1, 2] [0, 3, 4] rfl rfl (by decide) (by decide) hk1 hFc hP1 hD1
                clear hPc hDc hKc hFc hz1 hk1 hP1 hK1 hD1
                rename Heap => H
                have hP : va_P (dC, dI) cls (wz_163 pr gl fu pa pf sf pk pg pp pz pv pr_reason pr_place pr_scanner_r pr_stepCount pr_open pr_twoSides pr_waiting_r pr_waitingPlaces_r pr_waitingCount h0 pr kn lt h0_localCount pe n20 h0_gives h0_depth h0_loopDepth to bo cs se pe cpe gpe bo bob n22 bob cbob f23) H := hP
                have hD : va_D A (wz_163 pr gl fu pa pf sf pk pg pp pz pv pr_reason pr_place pr_scanner_r pr_stepCount pr_open pr_twoSides pr_waiting_r pr_waitingPlaces_r pr_waitingCount h0 pr kn lt h0_localCount pe n20 h0_gives h0_depth h0_loopDepth to bo cs se pe cpe gpe bo bob n22 bob cbob f23) := hD
                refine lv_aload_n hx hb d_CO_codePrefix_95 rfl (lv_at hl 0 rfl) ?_
                refine va_get (D := (dC, dI)) (ci := 2) (v := .ref bo) (C := R_CO) (T := F_CO) (N := 13) hx hb hts i_CO hown hK hP 1 rfl rfl 10 (by decide) (hts _ kF_CO_26) (fun _ h9 => h9) rfl d_CO_codePrefix_96 ?_
                refine lv_iload hx hb d_CO_codePrefix_99 (lv_at hl 2 rfl) ?_
                refine w_cut (pc2 := 111) (σ := Int32) (fun u H locs ls => match u with | j111_s0 => (j111_s0 = 107 ∨ j111_s0 = 125) ∧ va_P (dC, dI) cls (wz_163 pr gl fu pa pf sf pk pg pp pz pv pr_reason pr_place pr_scanner_r pr_stepCount pr_open pr_twoSides pr_waiting_r pr_waitingPlaces_r pr_waitingCount h0 pr kn lt h0_localCount pe n20 h0_gives h0_depth h0_loopDepth to bo cs se pe cpe gpe bo bob n22 bob cbob f23) H ∧ va_D A (wz_163 pr gl fu pa pf sf pk pg pp pz pv pr_reason pr_place pr_scanner_r pr_stepCount pr_open pr_twoSides pr_waiting_r pr_waitingPlaces_r pr_waitingCount h0 pr kn lt h0_localCount pe n20 h0_gives h0_depth h0_loopDepth to bo cs se pe cpe gpe bo bob n22 bob cbob f23) ∧ va_S A s.heap H locs ∧ lv_has ls 5 [(0, .ref h0), (3, .int r1)]) (fun u => match u with | j111_s0 => [.int j111_s0, .ref bo]) ?_ (fun jn111 => ?_)
                · intro u H locs ls hI
                  obtain ⟨j111_s0, rfl⟩ : ∃ z, z = u := ⟨_, rfl⟩
                  obtain ⟨y111, hP, hD, hS, hl⟩ := hI
                  have bb111 : bn j111_s0 = 107 ∨ bn j111_s0 = 125 := by rcases y111 with z | z <;> rw [z]; exact Or.inl rfl; exact Or.inr rfl
                  have rg111 : j111_s0.toInt = 107 ∨ j111_s0.toInt = 125 := by rcases y111 with z | z <;> rw [z]; exact Or.inl rfl; exact Or.inr rfl
                  have hPc := hP.sb (wq := (wz_94 bo bob n22 bob cbob f23)) [3, 4] rfl
                  have hDc := hD.sb (wq := (wz_94 bo bob n22 bob cbob f23)) [3, 4] (by decide) rfl
                  have hKc := hK.sb (tyq := [(cbob, .byte)]) [1] rfl
                  have hFc := va_free (wc := (wz_94 bo bob n22 bob cbob f23)) hD hS hA [3, 4] rfl
                  refine va_callv (va_runV (As := [.int j111_s0]) (rest := []) ⟨hx, hb, hml, hown, hts⟩ (c_BR_put l dC dI bo bob H.size cbob 8192 n22 f23 (by (first | (apply Int.le_antisymm <;> omega) | omega)) (by (first | (apply Int.le_antisymm <;> omega) | omega)) (by (first | (apply Int.le_antisymm <;> omega) | omega)) j111_s0) (cwV 1 hts (gV kM_CO_76 kV_BR_put kS_BR_put kI_BR kC_BR_put) rfl rfl rfl (by decide +kernel) ⟨Nat.le_of_ble_eq_true rfl, Nat.le_of_ble_eq_true rfl⟩) ⟨fun a U g mk z => by obtain ⟨z0, z1, zP, zK, zD⟩ := z; exact ⟨z0, z1, zP, va_K.moved (u := U) (U := U.calling g mk a) (Vm.Alike.refl U.vm) zK, zD⟩, va_recv hKc hPc (ci := 1) (q0 := 0) rfl rfl, fun U hU hW => ⟨rfl, by rw [hU], va_P.he hU.symm hPc, va_K.moved hW.alike hKc, hDc.weaken (fun _ _ _ _ => trivial)⟩⟩ rfl rfl hl.1 rfl (lv_room (Nat.le_of_ble_eq_true rfl)) d_CO_codePrefix_111 ⟨(Nat.zero_le _), (Nat.zero_le _)⟩) hS (fun q _ h => hFc q h) hFc (fun u t H1 locs ht hvm hw hB hz1 hk1 hS => ?_)
                  obtain ⟨n25, f26⟩ := u
                  try dsimp only at hw
                  have tn25 := br_put_in (by (first | (apply Int.le_antisymm <;> omega) | omega)) (by (first | (apply Int.le_antisymm <;> omega) | omega)) (by (first | (apply Int.le_antisymm <;> omega) | omega)) hw
                  have bn25 := br_put_bl (by (first | (apply Int.le_antisymm <;> omega) | omega)) (by (first | (apply Int.le_antisymm <;> omega) | omega)) (by (first | (apply Int.le_antisymm <;> omega) | omega)) hw
                  obtain ⟨hP1, hK1, hD1⟩ := hB
                  replace hP1 := va_P.he ht hP1
                  obtain ⟨hP, hD⟩ := va_join (wr := (wz_155 pr gl fu pa pf sf pk pg pp pz pv pr_reason pr_place pr_scanner_r pr_stepCount pr_open pr_twoSides pr_waiting_r pr_waitingPlaces_r pr_waitingCount h0 pr kn lt h0_localCount pe n20 h0_gives h0_depth h0_loopDepth to bo cs se pe cpe gpe)) (w1 := (wz_94 bo bob n25 bob cbob f26)) hP hD [3, 4] [0, 1, 2] rfl rfl (by decide) (by decide) hk1 hFc hP1 hD1
                  clear hPc hDc hKc hFc hz1 hk1 hP1 hK1 hD1
                  rename Heap => H
                  have hP : va_P (dC, dI) cls (wz_163 pr gl fu pa pf sf pk pg pp pz pv pr_reason pr_place pr_scanner_r pr_stepCount pr_open pr_twoSides pr_waiting_r pr_waitingPlaces_r pr_waitingCount h0 pr kn lt h0_localCount pe n20 h0_gives h0_depth h0_loopDepth to bo cs se pe cpe gpe bo bob n25 bob cbob f26) H := hP
                  have hD : va_D A (wz_163 pr gl fu pa pf sf pk pg pp pz pv pr_reason pr_place pr_scanner_r pr_stepCount pr_open pr_twoSides pr_waiting_r pr_waitingPlaces_r pr_waitingCount h0 pr kn lt h0_localCount pe n20 h0_gives h0_depth h0_loopDepth to bo cs se pe cpe gpe bo bob n25 bob cbob f26) := hD
                  refine lv_goto (tgt := 166) hx hb d_CO_codePrefix_114 (by decide) ?_
                  refine lv_aload_n hx hb d_CO_codePrefix_166 rfl (lv_at hl 0 rfl) ?_
                  refine lv_iload_n hx hb d_CO_codePrefix_167 rfl (lv_at hl 1 rfl) ?_
                  have hPc := hP.sb (wq := (wz_149 h0 pr kn lt h0_localCount pe n20 h0_gives h0_depth h0_loopDepth to bo cs se pe cpe gpe)) [1, 2] rfl
                  have hDc := hD.sb (wq := (wz_149 h0 pr kn lt h0_localCount pe n20 h0_gives h0_depth h0_loopDepth to bo cs se pe cpe gpe)) [1, 2] (by decide) rfl
                  have hKc := hK.sb (tyq := [(cpe, .int)]) [0] rfl
                  have hFc := va_free (wc := (wz_149 h0 pr kn lt h0_localCount pe n20 h0_gives h0_depth h0_loopDepth to bo cs se pe cpe gpe)) hD hS hA [1, 2] rfl
                  refine va_callv (va_runV (As := [.int r1]) (rest := []) ⟨hx, hb, hml, hown, hts⟩ (c_CO_push l dC dI H.size h0 pr kn lt pe to bo cs se cpe h0_localCount n20 h0_gives h0_depth h0_loopDepth gpe (bn20) r1 (by (try dsimp only) <;> (first | (apply Int.le_antisymm <;> omega) | omega))) (cwV 1 hts (gV kM_CO_183 kV_CO_push kS_CO_push kI_CO kC_CO_push) rfl rfl rfl (by decide +kernel) ⟨Nat.le_of_ble_eq_true rfl, Nat.le_of_ble_eq_true rfl⟩) ⟨fun a U g mk z => by obtain ⟨z0, z1, zP, zK, zD⟩ := z; exact ⟨z0, z1, zP, va_K.moved (u := U) (U := U.calling g mk a) (Vm.Alike.refl U.vm) zK, zD⟩, va_recv hKc hPc (ci := 2) (q0 := 0) rfl rfl, fun U hU hW => ⟨rfl, by rw [hU], va_P.he hU.symm hPc, va_K.moved hW.alike hKc, hDc.weaken (fun _ _ _ _ => trivial)⟩⟩ rfl rfl hl.1 rfl (lv_room (Nat.le_of_ble_eq_true rfl)) d_CO_codePrefix_168 ⟨(Nat.zero_le _), (Nat.zero_le _)⟩) hS (fun q _ h => hFc q h) hFc (fun u t H1 locs ht hvm hw hB hz1 hk1 hS => ?_)
                  obtain ⟨n28, n29⟩ := u
                  try dsimp only at hw
                  obtain ⟨bn29, xr27⟩ := hw
                  try clear hw
                  obtain ⟨hP1, hK1, hD1⟩ := hB
                  replace hP1 := va_P.he ht hP1
                  obtain ⟨hP, hD⟩ := va_join (wr := (wz_161 pr gl fu pa pf sf pk pg pp pz pv pr_reason pr_place pr_scanner_r pr_stepCount pr_open pr_twoSides pr_waiting_r pr_waitingPlaces_r pr_waitingCount bo bob n25 bob cbob f26)) (w1 := (wz_149 h0 pr kn lt h0_localCount pe n29 h0_gives h0_depth h0_loopDepth to bo cs se pe cpe n28)) hP hD [1, 2] [0, 3, 4] rfl rfl (by decide) (by decide) hk1 hFc hP1 hD1
                  clear hPc hDc hKc hFc hz1 hk1 hP1 hK1 hD1
                  rename Heap => H
                  have hP : va_P (dC, dI) cls (wz_162 pr gl fu pa pf sf pk pg pp pz pv pr_reason pr_place pr_scanner_r pr_stepCount pr_open pr_twoSides pr_waiting_r pr_waitingPlaces_r pr_waitingCount bo bob n25 bob cbob f26 h0 pr kn lt h0_localCount pe n29 h0_gives h0_depth h0_loopDepth to bo cs se pe cpe n28) H := hP
                  have hD : va_D A (wz_162 pr gl fu pa pf sf pk pg pp pz pv pr_reason pr_place pr_scanner_r pr_stepCount pr_open pr_twoSides pr_waiting_r pr_waitingPlaces_r pr_waitingCount bo bob n25 bob cbob f26 h0 pr kn lt h0_localCount pe n29 h0_gives h0_depth h0_loopDepth to bo cs se pe cpe n28) := hD
                  have hP9 := hP.sb (wq := (wz_160 h0 pr kn lt h0_localCount pe n29 h0_gives h0_depth h0_loopDepth to bo cs se pr gl fu pa pf sf pk pg pp pz pv pr_reason pr_place pr_scanner_r pr_stepCount pr_open pr_twoSides pr_waiting_r pr_waitingPlaces_r pr_waitingCount pe cpe n28 bo bob n25 bob cbob f26)) [3, 0, 4, 1, 2] rfl
                  have hD9 := hD.sb (wq := (wz_160 h0 pr kn lt h0_localCount pe n29 h0_gives h0_depth h0_loopDepth to bo cs se pr gl fu pa pf sf pk pg pp pz pv pr_reason pr_place pr_scanner_r pr_stepCount pr_open pr_twoSides pr_waiting_r pr_waitingPlaces_r pr_waitingCount pe cpe n28 bo bob n25 bob cbob f26)) [3, 0, 4, 1, 2] (by decide) rfl
                  exact tz_up (fun _ => rfl) (W.vret hx hb hr (fun t ht hW => ⟨⟨(f26, n28, n25, n29, pr_place, pr_reason), ⟨rfl, ⟨by (try dsimp only) <;> (first | (apply Int.le_antisymm <;> omega) | omega), bn29, ⟨by rw [show (h0_pendingCount.toInt - 1).toNat = n2.toNatClampNeg from by have := i32_clamp (x := n2) (by (first | (apply Int.le_antisymm <;> omega) | omega)); (first | (apply Int.le_antisymm <;> omega) | omega), ← xr1.2]; (first | (apply Int.le_antisymm <;> omega) | omega), fun z => absurd z (by (first | (apply Int.le_antisymm <;> omega) | omega)), fun z => absurd z (by (first | (apply Int.le_antisymm <;> omega) | omega)), fun _ => ⟨by (try dsimp only) <;> (first | (apply Int.le_antisymm <;> omega) | omega), by rw [show (h0_pendingCount.toInt - 2).toNat = n20.toNatClampNeg from by have := i32_clamp (x := n20) (by (first | (apply Int.le_antisymm <;> omega) | omega)); (first | (apply Int.le_antisymm <;> omega) | omega), show (h0_pendingCount.toInt - 1).toNat = n2.toNatClampNeg from by have := i32_clamp (x := n2) (by (first | (apply Int.le_antisymm <;> omega) | omega)); (first | (apply Int.le_antisymm <;> omega) | omega), ← xr1.2]; exact xr27.2, by (try dsimp only) <;> (first | (apply Int.le_antisymm <;> omega) | omega), _, _, bb92, bb111, by (try dsimp only); rw [bn25 (by (first | (apply Int.le_antisymm <;> omega) | omega)), cn22 (by (first | (apply Int.le_antisymm <;> omega) | omega)) (by (first | (apply Int.le_antisymm <;> omega) | omega)), show n22 = bo_length from Int32.toInt_inj.mp (by (first | (apply Int.le_antisymm <;> omega) | omega)), bl_set, show (gpe (h0_pendingCount.toInt - 2).toNat).toInt.toNat = r19.toNatClampNeg from by rw [show (h0_pendingCount.toInt - 2).toNat = n20.toNatClampNeg from by have := i32_clamp (x := n20) (by (first | (apply Int.le_antisymm <;> omega) | omega)); (first | (apply Int.le_antisymm <;> omega) | omega), ← xr19.2]; have := i32_clamp (x := r19) (by (first | (apply Int.le_antisymm <;> omega) | omega)); (first | (apply Int.le_antisymm <;> omega) | omega)]⟩⟩⟩⟩, va_P.he ht.symm hP9, va_K.moved hW.alike hK, hD9⟩, hS.F ht⟩) hS.2.2 d_CO_codePrefix_171)
                · skip
                  refine lv_if_eq (tgt := 109) hx hb d_CO_codePrefix_101 (by decide) (fun c101 => ?_) (fun c101 => ?_)
                  · have q101 := eqI c101
                    refine lv_bipush (v := 125) hx hb d_CO_codePrefix_109 (by decide) ?_
                    exact jn111 125 _ _ _ ⟨Or.inr rfl, hP, hD, hS, lv_sub hl [0, 1] rfl⟩
                  · have q101 := neI c101
                    refine lv_bipush (v := 107) hx hb d_CO_codePrefix_104 (by decide) ?_
                    refine lv_goto (tgt := 111) hx hb d_CO_codePrefix_106 (by decide) ?_
                    exact jn111 107 _ _ _ ⟨Or.inl rfl, hP, hD, hS, lv_sub hl [0, 1] rfl⟩
              · skip
                refine lv_if_eq (tgt := 90) hx hb d_CO_codePrefix_82 (by decide) (fun c82 => ?_) (fun c82 => ?_)
                · have q82 := eqI c82
                  refine lv_bipush (v := 66) hx hb d_CO_codePrefix_90 (by decide) ?_
                  exact jn92 66 _ _ _ ⟨Or.inr rfl, hP, hD, hS, lv_sub hl [1, 3, 0] rfl⟩
                · have q82 := neI c82
                  refine lv_bipush (v := 65) hx hb d_CO_codePrefix_85 (by decide) ?_
                  refine lv_goto (tgt := 92) hx hb d_CO_codePrefix_87 (by decide) ?_
                  exact jn92 65 _ _ _ ⟨Or.inl rfl, hP, hD, hS, lv_sub hl [1, 3, 0] rfl⟩
          · have q50 : ka = 34 := hSW.2.2.2.1.2 ka 34 ba0 (by decide : 34 < 55) (Option.some.inj c50)
            have k53 := y33.2 q50
            refine lv_aload_n hx hb d_CO_codePrefix_53 rfl (lv_at hl 1 rfl) ?_
            refine va_get (D := (dC, dI)) (ci := 2) (v := .ref bo) (C := R_CO) (T := F_CO) (N := 13) hx hb hts i_CO hown hK hP 3 rfl rfl 10 (by decide) (hts _ kF_CO_26) (fun _ h9 => h9) rfl d_CO_codePrefix_54 ?_
            refine lv_bipush (v := 69) hx hb d_CO_codePrefix_57 (by decide) ?_
            have hPc := hP.sb (wq := (wz_94 bo bob bo_length bob cbob gbob)) [1, 2] rfl
            have hDc := hD.sb (wq := (wz_94 bo bob bo_length bob cbob gbob)) [1, 2] (by decide) rfl
            have hKc := hK.sb (tyq := [(cbob, .byte)]) [1] rfl
            have hFc := va_free (wc := (wz_94 bo bob bo_length bob cbob gbob)) hD hS hA [1, 2] rfl
            refine va_callv (va_runV (As := [.int 69]) (rest := []) ⟨hx, hb, hml, hown, hts⟩ (c_BR_put l dC dI bo bob H.size cbob 8192 bo_length gbob (by (first | (apply Int.le_antisymm <;> omega) | omega)) (by (first | (apply Int.le_antisymm <;> omega) | omega)) (by (first | (apply Int.le_antisymm <;> omega) | omega)) 69) (cwV 1 hts (gV kM_CO_76 kV_BR_put kS_BR_put kI_BR kC_BR_put) rfl rfl rfl (by decide +kernel) ⟨Nat.le_of_ble_eq_true rfl, Nat.le_of_ble_eq_true rfl⟩) ⟨fun a U g mk z => by obtain ⟨z0, z1, zP, zK, zD⟩ := z; exact ⟨z0, z1, zP, va_K.moved (u := U) (U := U.calling g mk a) (Vm.Alike.refl U.vm) zK, zD⟩, va_recv hKc hPc (ci := 1) (q0 := 0) rfl rfl, fun U hU hW => ⟨rfl, by rw [hU], va_P.he hU.symm hPc, va_K.moved hW.alike hKc, hDc.weaken (fun _ _ _ _ => trivial)⟩⟩ rfl rfl hl.1 rfl (lv_room (Nat.le_of_ble_eq_true rfl)) d_CO_codePrefix_59 ⟨(Nat.zero_le _), (Nat.zero_le _)⟩) hS (fun q _ h => hFc q h) hFc (fun u t H1 locs ht hvm hw hB hz1 hk1 hS => ?_)
            obtain ⟨n31, f32⟩ := u
            try dsimp only at hw
            have tn31 := br_put_in (by (first | (apply Int.le_antisymm <;> omega) | omega)) (by (first | (apply Int.le_antisymm <;> omega) | omega)) (by (first | (apply Int.le_antisymm <;> omega) | omega)) hw
            have bn31 := br_put_bl (by (first | (apply Int.le_antisymm <;> omega) | omega)) (by (first | (apply Int.le_antisymm <;> omega) | omega)) (by (first | (apply Int.le_antisymm <;> omega) | omega)) hw
            obtain ⟨hP1, hK1, hD1⟩ := hB
            replace hP1 := va_P.he ht hP1
            obtain ⟨hP, hD⟩ := va_join (wr := (wz_155 pr gl fu pa pf sf pk pg pp pz pv pr_reason pr_place pr_scanner_r pr_stepCount pr_open pr_twoSides pr_waiting_r pr_waitingPlaces_r pr_waitingCount h0 pr kn lt h0_localCount pe n2 h0_gives h0_depth h0_loopDepth to bo cs se pe cpe gpe)) (w1 := (wz_94 bo bob n31 bob cbob f32)) hP hD [1, 2] [0, 3, 4] rfl rfl (by decide) (by decide) hk1 hFc hP1 hD1
            clear hPc hDc hKc hFc hz1 hk1 hP1 hK1 hD1
            rename Heap => H
            have hP : va_P (dC, dI) cls (wz_163 pr gl fu pa pf sf pk pg pp pz pv pr_reason pr_place pr_scanner_r pr_stepCount pr_open pr_twoSides pr_waiting_r pr_waitingPlaces_r pr_waitingCount h0 pr kn lt h0_localCount pe n2 h0_gives h0_depth h0_loopDepth to bo cs se pe cpe gpe bo bob n31 bob cbob f32) H := hP
            have hD : va_D A (wz_163 pr gl fu pa pf sf pk pg pp pz pv pr_reason pr_place pr_scanner_r pr_stepCount pr_open pr_twoSides pr_waiting_r pr_waitingPlaces_r pr_waitingCount h0 pr kn lt h0_localCount pe n2 h0_gives h0_depth h0_loopDepth to bo cs se pe cpe gpe bo bob n31 bob cbob f32) := hD
            refine lv_goto (tgt := 166) hx hb d_CO_codePrefix_62 (by decide) ?_
            refine lv_aload_n hx hb d_CO_codePrefix_166 rfl (lv_at hl 1 rfl) ?_
            refine lv_iload_n hx hb d_CO_codePrefix_167 rfl (lv_at hl 3 rfl) ?_
            have hPc := hP.sb (wq := (wz_149 h0 pr kn lt h0_localCount pe n2 h0_gives h0_depth h0_loopDepth to bo cs se pe cpe gpe)) [1, 2] rfl
            have hDc := hD.sb (wq := (wz_149 h0 pr kn lt h0_localCount pe n2 h0_gives h0_depth h0_loopDepth to bo cs se pe cpe gpe)) [1, 2] (by decide) rfl
            have hKc := hK.sb (tyq := [(cpe, .int)]) [0] rfl
            have hFc := va_free (wc := (wz_149 h0 pr kn lt h0_localCount pe n2 h0_gives h0_depth h0_loopDepth to bo cs se pe cpe gpe)) hD hS hA [1, 2] rfl
            refine va_callv (va_runV (As := [.int r1]) (rest := []) ⟨hx, hb, hml, hown, hts⟩ (c_CO_push l dC dI H.size h0 pr kn lt pe to bo cs se cpe h0_localCount n2 h0_gives h0_depth h0_loopDepth gpe (bn2) r1 (by (try dsimp only) <;> (first | (apply Int.le_antisymm <;> omega) | omega))) (cwV 1 hts (gV kM_CO_183 kV_CO_push kS_CO_push kI_CO kC_CO_push) rfl rfl rfl (by decide +kernel) ⟨Nat.le_of_ble_eq_true rfl, Nat.le_of_ble_eq_true rfl⟩) ⟨fun a U g mk z => by obtain ⟨z0, z1, zP, zK, zD⟩ := z; exact ⟨z0, z1, zP, va_K.moved (u := U) (U := U.calling g mk a) (Vm.Alike.refl U.vm) zK, zD⟩, va_recv hKc hPc (ci := 2) (q0 := 0) rfl rfl, fun U hU hW => ⟨rfl, by rw [hU], va_P.he hU.symm hPc, va_K.moved hW.alike hKc, hDc.weaken (fun _ _ _ _ => trivial)⟩⟩ rfl rfl hl.1 rfl (lv_room (Nat.le_of_ble_eq_true rfl)) d_CO_codePrefix_168 ⟨(Nat.zero_le _), (Nat.zero_le _)⟩) hS (fun q _ h => hFc q h) hFc (fun u t H1 locs ht hvm hw hB hz1 hk1 hS => ?_)
            obtain ⟨n34, n35⟩ := u
            try dsimp only at hw
            obtain ⟨bn35, xr33⟩ := hw
            try clear hw
            obtain ⟨hP1, hK1, hD1⟩ := hB
            replace hP1 := va_P.he ht hP1
            obtain ⟨hP, hD⟩ := va_join (wr := (wz_161 pr gl fu pa pf sf pk pg pp pz pv pr_reason pr_place pr_scanner_r pr_stepCount pr_open pr_twoSides pr_waiting_r pr_waitingPlaces_r pr_waitingCount bo bob n31 bob cbob f32)) (w1 := (wz_149 h0 pr kn lt h0_localCount pe n35 h0_gives h0_depth h0_loopDepth to bo cs se pe cpe n34)) hP hD [1, 2] [0, 3, 4] rfl rfl (by decide) (by decide) hk1 hFc hP1 hD1
            clear hPc hDc hKc hFc hz1 hk1 hP1 hK1 hD1
            rename Heap => H
            have hP : va_P (dC, dI) cls (wz_162 pr gl fu pa pf sf pk pg pp pz pv pr_reason pr_place pr_scanner_r pr_stepCount pr_open pr_twoSides pr_waiting_r pr_waitingPlaces_r pr_waitingCount bo bob n31 bob cbob f32 h0 pr kn lt h0_localCount pe n35 h0_gives h0_depth h0_loopDepth to bo cs se pe cpe n34) H := hP
            have hD : va_D A (wz_162 pr gl fu pa pf sf pk pg pp pz pv pr_reason pr_place pr_scanner_r pr_stepCount pr_open pr_twoSides pr_waiting_r pr_waitingPlaces_r pr_waitingCount bo bob n31 bob cbob f32 h0 pr kn lt h0_localCount pe n35 h0_gives h0_depth h0_loopDepth to bo cs se pe cpe n34) := hD
            have hP9 := hP.sb (wq := (wz_160 h0 pr kn lt h0_localCount pe n35 h0_gives h0_depth h0_loopDepth to bo cs se pr gl fu pa pf sf pk pg pp pz pv pr_reason pr_place pr_scanner_r pr_stepCount pr_open pr_twoSides pr_waiting_r pr_waitingPlaces_r pr_waitingCount pe cpe n34 bo bob n31 bob cbob f32)) [3, 0, 4, 1, 2] rfl
            have hD9 := hD.sb (wq := (wz_160 h0 pr kn lt h0_localCount pe n35 h0_gives h0_depth h0_loopDepth to bo cs se pr gl fu pa pf sf pk pg pp pz pv pr_reason pr_place pr_scanner_r pr_stepCount pr_open pr_twoSides pr_waiting_r pr_waitingPlaces_r pr_waitingCount pe cpe n34 bo bob n31 bob cbob f32)) [3, 0, 4, 1, 2] (by decide) rfl
            exact tz_up (fun _ => rfl) (W.vret hx hb hr (fun t ht hW => ⟨⟨(f32, n34, n31, n35, pr_place, pr_reason), ⟨rfl, ⟨by (try dsimp only) <;> (first | (apply Int.le_antisymm <;> omega) | omega), bn35, ⟨by rw [show (h0_pendingCount.toInt - 1).toNat = n2.toNatClampNeg from by have := i32_clamp (x := n2) (by (first | (apply Int.le_antisymm <;> omega) | omega)); (first | (apply Int.le_antisymm <;> omega) | omega), ← xr1.2]; (first | (apply Int.le_antisymm <;> omega) | omega), fun _ => ⟨by (try dsimp only) <;> (first | (apply Int.le_antisymm <;> omega) | omega), by rw [show (h0_pendingCount.toInt - 1).toNat = n2.toNatClampNeg from by have := i32_clamp (x := n2) (by (first | (apply Int.le_antisymm <;> omega) | omega)); (first | (apply Int.le_antisymm <;> omega) | omega), ← xr1.2]; (first | (apply Int.le_antisymm <;> omega) | omega), by rw [show (h0_pendingCount.toInt - 1).toNat = n2.toNatClampNeg from by have := i32_clamp (x := n2) (by (first | (apply Int.le_antisymm <;> omega) | omega)); (first | (apply Int.le_antisymm <;> omega) | omega), ← xr1.2]; exact xr33.2, by (try dsimp only) <;> (first | (apply Int.le_antisymm <;> omega) | omega), by (try dsimp only); rw [bn31 (by (first | (apply Int.le_antisymm <;> omega) | omega))]; rfl⟩, fun z => absurd z (by (first | (apply Int.le_antisymm <;> omega) | omega)), fun z => absurd z (by (first | (apply Int.le_antisymm <;> omega) | omega))⟩⟩⟩, va_P.he ht.symm hP9, va_K.moved hW.alike hK, hD9⟩, hS.F ht⟩) hS.2.2 d_CO_codePrefix_171)
        · skip
          refine lv_icmp_ne (tgt := 43) hx hb d_CO_codePrefix_36 (by decide) (fun c36 => ?_) (fun c36 => ?_)
          · have q36 := neI c36
            refine lv_iconst (v := 0) hx hb d_CO_codePrefix_43 (by decide) ?_
            exact jn44 0 _ _ _ ⟨Or.inl rfl, hP, hD, hS, lv_sub hl [0, 1, 2] rfl⟩
          · have q36 := eqI c36
            refine lv_iconst (v := 1) hx hb d_CO_codePrefix_39 (by decide) ?_
            refine lv_goto (tgt := 44) hx hb d_CO_codePrefix_40 (by decide) ?_
            exact jn44 1 _ _ _ ⟨Or.inr rfl, hP, hD, hS, lv_sub hl [0, 1, 2] rfl⟩
      · skip
        refine lv_acmp_ne (rx := some (sg sa ka)) (ry := some (sg sa 34)) (tgt := 33) hx hb d_CO_codePrefix_15 (by decide) (fun c15 => ?_) (fun c15 => ?_)
        · have q15 : ka ≠ 34 := fun z => c15 (by rw [z])
          exact jn33 () _ _ _ ⟨⟨by (first | (apply Int.le_antisymm <;> omega) | omega), fun z => absurd z q15⟩, hP, hD, hS, lv_sub hl [1, 2, 0] rfl⟩
        · have q15 : ka = 34 := hSW.2.2.2.1.2 ka 34 ba0 (by decide : 34 < 55) (Option.some.inj c15)
          refine lv_iload_n hx hb d_CO_codePrefix_18 rfl (lv_at hl 0 rfl) ?_
          refine lv_bipush (v := 127) hx hb d_CO_codePrefix_19 (by decide) ?_
          refine lv_icmp_eq (tgt := 33) hx hb d_CO_codePrefix_21 (by decide) (fun c21 => ?_) (fun c21 => ?_)
          · have q21 := eqI c21
            exact jn33 () _ _ _ ⟨⟨by (first | (apply Int.le_antisymm <;> omega) | omega), fun _ => by (first | (apply Int.le_antisymm <;> omega) | omega)⟩, hP, hD, hS, lv_sub hl [1, 2, 0] rfl⟩
          · have q21 := neI c21
            exact jn24 () _ _ _ ⟨hP, hD, hS, lv_sub hl [1, 3] rfl⟩
end q_70
