section q_n56
/-! the law: a call and its case -/
set_option maxHeartbeats 4000000 in
theorem lc_feed {p : Program} {l : Launch} {e : Env} {s : State} {m : MethodId} {below : List Frame} {meth : Method} {c : Code} {Q : State → Prop} {dC : Nat → ClassId} {dI : Nat → Nat → Nat} {sa : Nat → Nat} {A : Nat → Prop} {b L h0 h1 ou : Nat} {xs : Nat → Int32} (hx : p.tables.exec = Jvm.exec) (hb : c.code = code) (hml : c.maxLocals = 8) (hown : s.vm.findClass R_LW = some m.cls) (hts : ∀ w ∈ lw_g, w.before #[Value.ref b] s = true) (hX : va_X b L xs s s.heap) (hbl : b < s.heap.size) (hbA : ¬ A b) (hA : ∀ q, s.heap.size ≤ q → A q) (hSM : sm sa A s s.heap) (hlt : l.stackTraces = false) {i : Int32} {j : Nat} {tl : Int} {kc kn : Nat} {H : Heap} {locs : List Loc} {ls : Array Slot} (hi : i.toInt = 6 * j) (hj : j ≤ 511) (hiL : i.toInt + 6 ≤ L) (hLL : L ≤ 3072) (hl : lv_has ls 8 [(4, .int i), (3, .ref ou), (2, .ref h1), (1, .ref h0), (0, .ref b)]) (hs : LST dC dI sa s A h0 h1 ou tl H locs) (hkc : (kc : Int) + 52 * tl ≤ 300 + 1060 * j) (hkn : (kn : Int) + 540 * tl ≤ 680000 + 10820 * j)
    (jn : ∀ (tl : Int) (kc kn : Nat) (H : Heap) (locs : List Loc) (ls : Array Slot), LST dC dI sa s A h0 h1 ou tl H locs → lv_has ls 8 [(4, .int i), (3, .ref ou), (2, .ref h1), (1, .ref h0), (0, .ref b)] → (kc : Int) + 52 * tl ≤ 300 + 1060 * (j + 1) → (kn : Int) + 540 * tl ≤ 680000 + 10820 * (j + 1) → W p l e room_1 s m #[Value.ref b] below meth c H locs kc kn Q (F0 m 497 ls [])) :
    W p l e room_1 s m #[Value.ref b] below meth c H locs kc kn Q (F0 m 104 ls []) := by
  obtain ⟨ov, cv, wx, wy, hXw, hYw, hP, hD, hS, hal⟩ := hs
  have htl := hXw.tl
  refine lv_aload_n hx hb d_law_104 rfl (lv_at hl 3 rfl) ?_
  refine lv_aload_n hx hb d_law_105 rfl (lv_at hl 4 rfl) ?_
  refine lv_iload hx hb d_law_106 (lv_at hl 0 rfl) ?_
  refine lv_iconst (v := 1) hx hb d_law_108 (by decide) ?_
  have k1 : (1 : Int32).toInt = 1 := by decide
  refine lv_iadd hx hb d_law_109 ?_
  refine lv_topi (fun x1 ex1 => ?_)
  have tx1 : x1.toInt = i.toInt + 1 := by have z := i32_add ex1 (by (first | (apply Int.le_antisymm <;> omega) | omega)) (by (first | (apply Int.le_antisymm <;> omega) | omega)); first | exact z | (first | (apply Int.le_antisymm <;> omega) | omega)
  refine va_sld hx hb hX hbl hbA hS (vp_in_iff.mpr ⟨by (first | (apply Int.le_antisymm <;> omega) | omega), by (first | (apply Int.le_antisymm <;> omega) | omega)⟩) d_law_110 ?_
  refine lv_topi (fun v2 ev2 => ?_)
  refine lv_aload_n hx hb d_law_111 rfl (lv_at hl 4 rfl) ?_
  refine lv_iload hx hb d_law_112 (lv_at hl 0 rfl) ?_
  refine lv_iconst (v := 2) hx hb d_law_114 (by decide) ?_
  have k2 : (2 : Int32).toInt = 2 := by decide
  refine lv_iadd hx hb d_law_115 ?_
  refine lv_topi (fun x3 ex3 => ?_)
  have tx3 : x3.toInt = i.toInt + 2 := by have z := i32_add ex3 (by (first | (apply Int.le_antisymm <;> omega) | omega)) (by (first | (apply Int.le_antisymm <;> omega) | omega)); first | exact z | (first | (apply Int.le_antisymm <;> omega) | omega)
  refine va_sld hx hb hX hbl hbA hS (vp_in_iff.mpr ⟨by (first | (apply Int.le_antisymm <;> omega) | omega), by (first | (apply Int.le_antisymm <;> omega) | omega)⟩) d_law_116 ?_
  refine lv_topi (fun v4 ev4 => ?_)
  refine lv_aload_n hx hb d_law_117 rfl (lv_at hl 4 rfl) ?_
  refine lv_iload hx hb d_law_118 (lv_at hl 0 rfl) ?_
  refine lv_iconst (v := 3) hx hb d_law_120 (by decide) ?_
  have k3 : (3 : Int32).toInt = 3 := by decide
  refine lv_iadd hx hb d_law_121 ?_
  refine lv_topi (fun x5 ex5 => ?_)
  have tx5 : x5.toInt = i.toInt + 3 := by have z := i32_add ex5 (by (first | (apply Int.le_antisymm <;> omega) | omega)) (by (first | (apply Int.le_antisymm <;> omega) | omega)); first | exact z | (first | (apply Int.le_antisymm <;> omega) | omega)
  refine va_sld hx hb hX hbl hbA hS (vp_in_iff.mpr ⟨by (first | (apply Int.le_antisymm <;> omega) | omega), by (first | (apply Int.le_antisymm <;> omega) | omega)⟩) d_law_122 ?_
  refine lv_topi (fun v6 ev6 => ?_)
  refine lv_aload_n hx hb d_law_123 rfl (lv_at hl 4 rfl) ?_
  refine lv_iload hx hb d_law_124 (lv_at hl 0 rfl) ?_
  refine lv_iconst (v := 4) hx hb d_law_126 (by decide) ?_
  have k4 : (4 : Int32).toInt = 4 := by decide
  refine lv_iadd hx hb d_law_127 ?_
  refine lv_topi (fun x7 ex7 => ?_)
  have tx7 : x7.toInt = i.toInt + 4 := by have z := i32_add ex7 (by (first | (apply Int.le_antisymm <;> omega) | omega)) (by (first | (apply Int.le_antisymm <;> omega) | omega)); first | exact z | (first | (apply Int.le_antisymm <;> omega) | omega)
  refine va_sld hx hb hX hbl hbA hS (vp_in_iff.mpr ⟨by (first | (apply Int.le_antisymm <;> omega) | omega), by (first | (apply Int.le_antisymm <;> omega) | omega)⟩) d_law_128 ?_
  refine lv_topi (fun v8 ev8 => ?_)
  refine lv_aload_n hx hb d_law_129 rfl (lv_at hl 4 rfl) ?_
  refine lv_iload hx hb d_law_130 (lv_at hl 0 rfl) ?_
  refine lv_iconst (v := 5) hx hb d_law_132 (by decide) ?_
  have k5 : (5 : Int32).toInt = 5 := by decide
  refine lv_iadd hx hb d_law_133 ?_
  refine lv_topi (fun x9 ex9 => ?_)
  have tx9 : x9.toInt = i.toInt + 5 := by have z := i32_add ex9 (by (first | (apply Int.le_antisymm <;> omega) | omega)) (by (first | (apply Int.le_antisymm <;> omega) | omega)); first | exact z | (first | (apply Int.le_antisymm <;> omega) | omega)
  refine va_sld hx hb hX hbl hbA hS (vp_in_iff.mpr ⟨by (first | (apply Int.le_antisymm <;> omega) | omega), by (first | (apply Int.le_antisymm <;> omega) | omega)⟩) d_law_134 ?_
  refine lv_topi (fun v10 ev10 => ?_)
  refine lv_aload_n hx hb d_law_135 rfl (lv_at hl 1 rfl) ?_
  refine lx_i (wy := wy) (fun hp => uw_runS (As := [.ref h0, .int v2, .int v4, .int v6, .int v8, .int v10, .ref ou]) (rest := []) ⟨hx, hb, hml, hown, hts⟩ (o_LW_feed l hlt dC dI H.size sa h0 ou tl ov wx v2 v4 v6 v8 v10) ⟨uw_of 7 hts (gW kC_LW_feed) rfl rfl rfl (hts _ kI_LW) (hts _ kM_LW_61) (by decide +kernel) ⟨Nat.le_of_ble_eq_true rfl, Nat.le_of_ble_eq_true rfl⟩, hts _ kT_LW_feed⟩ hp rfl rfl hl.1 rfl (lv_room (Nat.le_of_ble_eq_true rfl)) d_law_136 ⟨by show _ ≤ (601024 : Nat); (first | (apply Int.le_antisymm <;> omega) | omega), by show _ ≤ (7293034 : Nat); (first | (apply Int.le_antisymm <;> omega) | omega)⟩) hXw hP hD hS hA hSM (fun r w2 t2 o2 H locs hw hXw hP hD hS => ?_)
  have htl2 := hXw.tl
  refine lv_istore (lv' := [(5, .int r), (4, .int i), (3, .ref ou), (2, .ref h1), (1, .ref h0), (0, .ref b)]) hx hb d_law_139 hl (by decide) rfl (fun ls hl => ?_)
  refine lv_aload_n hx hb d_law_141 rfl (lv_at hl 3 rfl) ?_
  refine lv_aload_n hx hb d_law_142 rfl (lv_at hl 5 rfl) ?_
  refine lv_iload hx hb d_law_143 (lv_at hl 1 rfl) ?_
  refine lv_iconst (v := 1) hx hb d_law_145 (by decide) ?_
  have k1 : (1 : Int32).toInt = 1 := by decide
  refine lv_iadd hx hb d_law_146 ?_
  refine lv_topi (fun x11 ex11 => ?_)
  have tx11 : x11.toInt = i.toInt + 1 := by have z := i32_add ex11 (by (first | (apply Int.le_antisymm <;> omega) | omega)) (by (first | (apply Int.le_antisymm <;> omega) | omega)); first | exact z | (first | (apply Int.le_antisymm <;> omega) | omega)
  refine va_sld hx hb hX hbl hbA hS (vp_in_iff.mpr ⟨by (first | (apply Int.le_antisymm <;> omega) | omega), by (first | (apply Int.le_antisymm <;> omega) | omega)⟩) d_law_147 ?_
  refine lv_topi (fun v12 ev12 => ?_)
  refine lv_aload_n hx hb d_law_148 rfl (lv_at hl 5 rfl) ?_
  refine lv_iload hx hb d_law_149 (lv_at hl 1 rfl) ?_
  refine lv_iconst (v := 2) hx hb d_law_151 (by decide) ?_
  have k2 : (2 : Int32).toInt = 2 := by decide
  refine lv_iadd hx hb d_law_152 ?_
  refine lv_topi (fun x13 ex13 => ?_)
  have tx13 : x13.toInt = i.toInt + 2 := by have z := i32_add ex13 (by (first | (apply Int.le_antisymm <;> omega) | omega)) (by (first | (apply Int.le_antisymm <;> omega) | omega)); first | exact z | (first | (apply Int.le_antisymm <;> omega) | omega)
  refine va_sld hx hb hX hbl hbA hS (vp_in_iff.mpr ⟨by (first | (apply Int.le_antisymm <;> omega) | omega), by (first | (apply Int.le_antisymm <;> omega) | omega)⟩) d_law_153 ?_
  refine lv_topi (fun v14 ev14 => ?_)
  refine lv_aload_n hx hb d_law_154 rfl (lv_at hl 5 rfl) ?_
  refine lv_iload hx hb d_law_155 (lv_at hl 1 rfl) ?_
  refine lv_iconst (v := 3) hx hb d_law_157 (by decide) ?_
  have k3 : (3 : Int32).toInt = 3 := by decide
  refine lv_iadd hx hb d_law_158 ?_
  refine lv_topi (fun x15 ex15 => ?_)
  have tx15 : x15.toInt = i.toInt + 3 := by have z := i32_add ex15 (by (first | (apply Int.le_antisymm <;> omega) | omega)) (by (first | (apply Int.le_antisymm <;> omega) | omega)); first | exact z | (first | (apply Int.le_antisymm <;> omega) | omega)
  refine va_sld hx hb hX hbl hbA hS (vp_in_iff.mpr ⟨by (first | (apply Int.le_antisymm <;> omega) | omega), by (first | (apply Int.le_antisymm <;> omega) | omega)⟩) d_law_159 ?_
  refine lv_topi (fun v16 ev16 => ?_)
  refine lv_aload_n hx hb d_law_160 rfl (lv_at hl 5 rfl) ?_
  refine lv_iload hx hb d_law_161 (lv_at hl 1 rfl) ?_
  refine lv_iconst (v := 4) hx hb d_law_163 (by decide) ?_
  have k4 : (4 : Int32).toInt = 4 := by decide
  refine lv_iadd hx hb d_law_164 ?_
  refine lv_topi (fun x17 ex17 => ?_)
  have tx17 : x17.toInt = i.toInt + 4 := by have z := i32_add ex17 (by (first | (apply Int.le_antisymm <;> omega) | omega)) (by (first | (apply Int.le_antisymm <;> omega) | omega)); first | exact z | (first | (apply Int.le_antisymm <;> omega) | omega)
  refine va_sld hx hb hX hbl hbA hS (vp_in_iff.mpr ⟨by (first | (apply Int.le_antisymm <;> omega) | omega), by (first | (apply Int.le_antisymm <;> omega) | omega)⟩) d_law_165 ?_
  refine lv_topi (fun v18 ev18 => ?_)
  refine lv_aload_n hx hb d_law_166 rfl (lv_at hl 5 rfl) ?_
  refine lv_iload hx hb d_law_167 (lv_at hl 1 rfl) ?_
  refine lv_iconst (v := 5) hx hb d_law_169 (by decide) ?_
  have k5 : (5 : Int32).toInt = 5 := by decide
  refine lv_iadd hx hb d_law_170 ?_
  refine lv_topi (fun x19 ex19 => ?_)
  have tx19 : x19.toInt = i.toInt + 5 := by have z := i32_add ex19 (by (first | (apply Int.le_antisymm <;> omega) | omega)) (by (first | (apply Int.le_antisymm <;> omega) | omega)); first | exact z | (first | (apply Int.le_antisymm <;> omega) | omega)
  refine va_sld hx hb hX hbl hbA hS (vp_in_iff.mpr ⟨by (first | (apply Int.le_antisymm <;> omega) | omega), by (first | (apply Int.le_antisymm <;> omega) | omega)⟩) d_law_171 ?_
  refine lv_topi (fun v20 ev20 => ?_)
  refine ly_i (wx := w2) (fun hp => va_runV (As := [.int v12, .int v14, .int v16, .int v18, .int v20]) (rest := []) ⟨hx, hb, hml, hown, hts⟩ (o_MD_feed l dC dI H.size sa h1 tl cv wy v12 v14 v16 v18 v20) (cwV 5 hts (gV kM_LW_66 kV_MD_feed kS_MD_feed kI_MD kC_MD_feed) rfl rfl rfl (by decide +kernel) ⟨Nat.le_of_ble_eq_true rfl, Nat.le_of_ble_eq_true rfl⟩) hp rfl rfl hl.1 rfl (lv_room (Nat.le_of_ble_eq_true rfl)) d_law_172 ⟨by show _ ≤ (601024 : Nat); (first | (apply Int.le_antisymm <;> omega) | omega), by show _ ≤ (7293034 : Nat); (first | (apply Int.le_antisymm <;> omega) | omega)⟩) hYw hP hD hS hA hSM (fun r22 y22 z22 c22 H locs hy22 hYw hP hD hS => ?_)
  try dsimp only at hy22
  have ep_v12 : v12 = v2 := by rw [ev12, ev2, show x11 = x1 from Int32.toInt_inj.mp (by (first | (apply Int.le_antisymm <;> omega) | omega))]
  rw [ep_v12] at hy22
  have ep_v14 : v14 = v4 := by rw [ev14, ev4, show x13 = x3 from Int32.toInt_inj.mp (by (first | (apply Int.le_antisymm <;> omega) | omega))]
  rw [ep_v14] at hy22
  have ep_v16 : v16 = v6 := by rw [ev16, ev6, show x15 = x5 from Int32.toInt_inj.mp (by (first | (apply Int.le_antisymm <;> omega) | omega))]
  rw [ep_v16] at hy22
  have ep_v18 : v18 = v8 := by rw [ev18, ev8, show x17 = x7 from Int32.toInt_inj.mp (by (first | (apply Int.le_antisymm <;> omega) | omega))]
  rw [ep_v18] at hy22
  have ep_v20 : v20 = v10 := by rw [ev20, ev10, show x19 = x9 from Int32.toInt_inj.mp (by (first | (apply Int.le_antisymm <;> omega) | omega))]
  rw [ep_v20] at hy22
  refine lv_istore (lv' := [(6, .int r22), (5, .int r), (4, .int i), (3, .ref ou), (2, .ref h1), (1, .ref h0), (0, .ref b)]) hx hb d_law_175 hl (by decide) rfl (fun ls hl => ?_)
  refine lv_goto (tgt := 497) hx hb d_law_177 (by decide) ?_
  try dsimp only at hw
  have ety : z22 = t2 := by (first | (apply Int.le_antisymm <;> omega) | omega)
  rw [ety] at hYw
  have hal2 : alk (tpx w2) (tpy y22) t2.toNat := by
    rcases hw with ⟨a1, a2, a3⟩ | ⟨a1, a2, a3, a4⟩
    · have b := (hy22.1 (by (first | (apply Int.le_antisymm <;> omega) | omega))).2
      rw [ety] at b
      exact alk_bl (by rw [a3, b, bl_alk hal])
    · have b := (hy22.2 a3).2
      rw [a4, b]
      exact alk_le hal (by (first | (apply Int.le_antisymm <;> omega) | omega))
  exact jn t2 _ _ H locs ls ⟨o2, c22, w2, y22, hXw, hYw, hP, hD, hS, hal2⟩ (lv_sub hl [2, 3, 4, 5, 6] rfl) (by (first | (apply Int.le_antisymm <;> omega) | omega)) (by (first | (apply Int.le_antisymm <;> omega) | omega))
set_option maxHeartbeats 4000000 in
theorem lc_end {p : Program} {l : Launch} {e : Env} {s : State} {m : MethodId} {below : List Frame} {meth : Method} {c : Code} {Q : State → Prop} {dC : Nat → ClassId} {dI : Nat → Nat → Nat} {sa : Nat → Nat} {A : Nat → Prop} {b L h0 h1 ou : Nat} {xs : Nat → Int32} (hx : p.tables.exec = Jvm.exec) (hb : c.code = code) (hml : c.maxLocals = 8) (hown : s.vm.findClass R_LW = some m.cls) (hts : ∀ w ∈ lw_g, w.before #[Value.ref b] s = true) (hX : va_X b L xs s s.heap) (hbl : b < s.heap.size) (hbA : ¬ A b) (hA : ∀ q, s.heap.size ≤ q → A q) (hSM : sm sa A s s.heap) (hlt : l.stackTraces = false) {i : Int32} {j : Nat} {tl : Int} {kc kn : Nat} {H : Heap} {locs : List Loc} {ls : Array Slot} (hi : i.toInt = 6 * j) (hj : j ≤ 511) (hiL : i.toInt + 6 ≤ L) (hLL : L ≤ 3072) (hl : lv_has ls 8 [(4, .int i), (3, .ref ou), (2, .ref h1), (1, .ref h0), (0, .ref b)]) (hs : LST dC dI sa s A h0 h1 ou tl H locs) (hkc : (kc : Int) + 52 * tl ≤ 300 + 1060 * j) (hkn : (kn : Int) + 540 * tl ≤ 680000 + 10820 * j)
    (jn : ∀ (tl : Int) (kc kn : Nat) (H : Heap) (locs : List Loc) (ls : Array Slot), LST dC dI sa s A h0 h1 ou tl H locs → lv_has ls 8 [(4, .int i), (3, .ref ou), (2, .ref h1), (1, .ref h0), (0, .ref b)] → (kc : Int) + 52 * tl ≤ 300 + 1060 * (j + 1) → (kn : Int) + 540 * tl ≤ 680000 + 10820 * (j + 1) → W p l e room_1 s m #[Value.ref b] below meth c H locs kc kn Q (F0 m 497 ls [])) :
    W p l e room_1 s m #[Value.ref b] below meth c H locs kc kn Q (F0 m 180 ls []) := by
  obtain ⟨ov, cv, wx, wy, hXw, hYw, hP, hD, hS, hal⟩ := hs
  have htl := hXw.tl
  refine lv_aload_n hx hb d_law_180 rfl (lv_at hl 3 rfl) ?_
  refine lv_aload_n hx hb d_law_181 rfl (lv_at hl 4 rfl) ?_
  refine lv_iload hx hb d_law_182 (lv_at hl 0 rfl) ?_
  refine lv_iconst (v := 1) hx hb d_law_184 (by decide) ?_
  have k1 : (1 : Int32).toInt = 1 := by decide
  refine lv_iadd hx hb d_law_185 ?_
  refine lv_topi (fun x1 ex1 => ?_)
  have tx1 : x1.toInt = i.toInt + 1 := by have z := i32_add ex1 (by (first | (apply Int.le_antisymm <;> omega) | omega)) (by (first | (apply Int.le_antisymm <;> omega) | omega)); first | exact z | (first | (apply Int.le_antisymm <;> omega) | omega)
  refine va_sld hx hb hX hbl hbA hS (vp_in_iff.mpr ⟨by (first | (apply Int.le_antisymm <;> omega) | omega), by (first | (apply Int.le_antisymm <;> omega) | omega)⟩) d_law_186 ?_
  refine lv_topi (fun v2 ev2 => ?_)
  refine lv_aload_n hx hb d_law_187 rfl (lv_at hl 1 rfl) ?_
  refine lx_i (wy := wy) (fun hp => uw_runS (As := [.ref h0, .int v2, .ref ou]) (rest := []) ⟨hx, hb, hml, hown, hts⟩ (o_LW_end l hlt dC dI H.size sa h0 ou tl ov wx v2) ⟨uw_of 3 hts (gW kC_LW_end) rfl rfl rfl (hts _ kI_LW) (hts _ kM_LW_67) (by decide +kernel) ⟨Nat.le_of_ble_eq_true rfl, Nat.le_of_ble_eq_true rfl⟩, hts _ kT_LW_end⟩ hp rfl rfl hl.1 rfl (lv_room (Nat.le_of_ble_eq_true rfl)) d_law_188 ⟨by show _ ≤ (601024 : Nat); (first | (apply Int.le_antisymm <;> omega) | omega), by show _ ≤ (7293034 : Nat); (first | (apply Int.le_antisymm <;> omega) | omega)⟩) hXw hP hD hS hA hSM (fun r w2 t2 o2 H locs hw hXw hP hD hS => ?_)
  have htl2 := hXw.tl
  refine lv_istore (lv' := [(5, .int r), (4, .int i), (3, .ref ou), (2, .ref h1), (1, .ref h0), (0, .ref b)]) hx hb d_law_191 hl (by decide) rfl (fun ls hl => ?_)
  refine lv_aload_n hx hb d_law_193 rfl (lv_at hl 3 rfl) ?_
  refine lv_aload_n hx hb d_law_194 rfl (lv_at hl 5 rfl) ?_
  refine lv_iload hx hb d_law_195 (lv_at hl 1 rfl) ?_
  refine lv_iconst (v := 1) hx hb d_law_197 (by decide) ?_
  have k1 : (1 : Int32).toInt = 1 := by decide
  refine lv_iadd hx hb d_law_198 ?_
  refine lv_topi (fun x3 ex3 => ?_)
  have tx3 : x3.toInt = i.toInt + 1 := by have z := i32_add ex3 (by (first | (apply Int.le_antisymm <;> omega) | omega)) (by (first | (apply Int.le_antisymm <;> omega) | omega)); first | exact z | (first | (apply Int.le_antisymm <;> omega) | omega)
  refine va_sld hx hb hX hbl hbA hS (vp_in_iff.mpr ⟨by (first | (apply Int.le_antisymm <;> omega) | omega), by (first | (apply Int.le_antisymm <;> omega) | omega)⟩) d_law_199 ?_
  refine lv_topi (fun v4 ev4 => ?_)
  refine ly_i (wx := w2) (fun hp => va_runV (As := [.int v4]) (rest := []) ⟨hx, hb, hml, hown, hts⟩ (o_MD_end l dC dI H.size sa h1 tl cv wy v4) (cwV 1 hts (gV kM_LW_70 kV_MD_end kS_MD_end kI_MD kC_MD_end) rfl rfl rfl (by decide +kernel) ⟨Nat.le_of_ble_eq_true rfl, Nat.le_of_ble_eq_true rfl⟩) hp rfl rfl hl.1 rfl (lv_room (Nat.le_of_ble_eq_true rfl)) d_law_200 ⟨by show _ ≤ (601024 : Nat); (first | (apply Int.le_antisymm <;> omega) | omega), by show _ ≤ (7293034 : Nat); (first | (apply Int.le_antisymm <;> omega) | omega)⟩) hYw hP hD hS hA hSM (fun r6 y6 z6 c6 H locs hy6 hYw hP hD hS => ?_)
  try dsimp only at hy6
  have ep_v4 : v4 = v2 := by rw [ev4, ev2, show x3 = x1 from Int32.toInt_inj.mp (by (first | (apply Int.le_antisymm <;> omega) | omega))]
  rw [ep_v4] at hy6
  refine lv_istore (lv' := [(6, .int r6), (5, .int r), (4, .int i), (3, .ref ou), (2, .ref h1), (1, .ref h0), (0, .ref b)]) hx hb d_law_203 hl (by decide) rfl (fun ls hl => ?_)
  refine lv_goto (tgt := 497) hx hb d_law_205 (by decide) ?_
  try dsimp only at hw
  have ety : z6 = t2 := by (first | (apply Int.le_antisymm <;> omega) | omega)
  rw [ety] at hYw
  have hal2 : alk (tpx w2) (tpy y6) t2.toNat := by rw [hw.2, hy6.2]; exact alk_le hal (by (first | (apply Int.le_antisymm <;> omega) | omega))
  exact jn t2 _ _ H locs ls ⟨o2, c6, w2, y6, hXw, hYw, hP, hD, hS, hal2⟩ (lv_sub hl [2, 3, 4, 5, 6] rfl) (by (first | (apply Int.le_antisymm <;> omega) | omega)) (by (first | (apply Int.le_antisymm <;> omega) | omega))
set_option maxHeartbeats 4000000 in
theorem lc_compile {p : Program} {l : Launch} {e : Env} {s : State} {m : MethodId} {below : List Frame} {meth : Method} {c : Code} {Q : State → Prop} {dC : Nat → ClassId} {dI : Nat → Nat → Nat} {sa : Nat → Nat} {A : Nat → Prop} {b L h0 h1 ou : Nat} {xs : Nat → Int32} (hx : p.tables.exec = Jvm.exec) (hb : c.code = code) (hml : c.maxLocals = 8) (hown : s.vm.findClass R_LW = some m.cls) (hts : ∀ w ∈ lw_g, w.before #[Value.ref b] s = true) (hX : va_X b L xs s s.heap) (hbl : b < s.heap.size) (hbA : ¬ A b) (hA : ∀ q, s.heap.size ≤ q → A q) (hSM : sm sa A s s.heap) (hlt : l.stackTraces = false) {i : Int32} {j : Nat} {tl : Int} {kc kn : Nat} {H : Heap} {locs : List Loc} {ls : Array Slot} (hi : i.toInt = 6 * j) (hj : j ≤ 511) (hiL : i.toInt + 6 ≤ L) (hLL : L ≤ 3072) (hl : lv_has ls 8 [(4, .int i), (3, .ref ou), (2, .ref h1), (1, .ref h0), (0, .ref b)]) (hs : LST dC dI sa s A h0 h1 ou tl H locs) (hkc : (kc : Int) + 52 * tl ≤ 300 + 1060 * j) (hkn : (kn : Int) + 540 * tl ≤ 680000 + 10820 * j)
    (jn : ∀ (tl : Int) (kc kn : Nat) (H : Heap) (locs : List Loc) (ls : Array Slot), LST dC dI sa s A h0 h1 ou tl H locs → lv_has ls 8 [(4, .int i), (3, .ref ou), (2, .ref h1), (1, .ref h0), (0, .ref b)] → (kc : Int) + 52 * tl ≤ 300 + 1060 * (j + 1) → (kn : Int) + 540 * tl ≤ 680000 + 10820 * (j + 1) → W p l e room_1 s m #[Value.ref b] below meth c H locs kc kn Q (F0 m 497 ls [])) :
    W p l e room_1 s m #[Value.ref b] below meth c H locs kc kn Q (F0 m 208 ls []) := by
  obtain ⟨ov, cv, wx, wy, hXw, hYw, hP, hD, hS, hal⟩ := hs
  have htl := hXw.tl
  refine lv_aload_n hx hb d_law_208 rfl (lv_at hl 3 rfl) ?_
  refine lv_aload_n hx hb d_law_209 rfl (lv_at hl 1 rfl) ?_
  refine lx_i (wy := wy) (fun hp => uw_runS (As := [.ref h0, .ref ou]) (rest := []) ⟨hx, hb, hml, hown, hts⟩ (o_LW_compile l hlt dC dI H.size sa h0 ou tl ov wx ) ⟨uw_of 2 hts (gW kC_LW_compile) rfl rfl rfl (hts _ kI_LW) (hts _ kM_LW_71) (by decide +kernel) ⟨Nat.le_of_ble_eq_true rfl, Nat.le_of_ble_eq_true rfl⟩, hts _ kT_LW_compile⟩ hp rfl rfl hl.1 rfl (lv_room (Nat.le_of_ble_eq_true rfl)) d_law_210 ⟨by show _ ≤ (601024 : Nat); (first | (apply Int.le_antisymm <;> omega) | omega), by show _ ≤ (7293034 : Nat); (first | (apply Int.le_antisymm <;> omega) | omega)⟩) hXw hP hD hS hA hSM (fun r w2 t2 o2 H locs hw hXw hP hD hS => ?_)
  have htl2 := hXw.tl
  refine lv_istore (lv' := [(5, .int r), (4, .int i), (3, .ref ou), (2, .ref h1), (1, .ref h0), (0, .ref b)]) hx hb d_law_213 hl (by decide) rfl (fun ls hl => ?_)
  refine lv_aload_n hx hb d_law_215 rfl (lv_at hl 3 rfl) ?_
  refine ly_i (wx := w2) (fun hp => uw_runV (As := []) (rest := []) ⟨hx, hb, hml, hown, hts⟩ (o_MD_compile l hlt dC dI H.size sa h1 tl cv wy ) ⟨uw_of 0 hts (gW kC_MD_compile) rfl rfl rfl (hts _ kI_MD) (hts _ kM_LW_74) (by decide +kernel) ⟨Nat.le_of_ble_eq_true rfl, Nat.le_of_ble_eq_true rfl⟩, hts _ kV_MD_compile, hts _ kS_MD_compile⟩ hp rfl rfl hl.1 rfl (lv_room (Nat.le_of_ble_eq_true rfl)) d_law_216 ⟨by show _ ≤ (601024 : Nat); (first | (apply Int.le_antisymm <;> omega) | omega), by show _ ≤ (7293034 : Nat); (first | (apply Int.le_antisymm <;> omega) | omega)⟩) hYw hP hD hS hA hSM (fun r2 y2 z2 c2 H locs hy2 hYw hP hD hS => ?_)
  try dsimp only at hy2
  refine lv_istore (lv' := [(6, .int r2), (5, .int r), (4, .int i), (3, .ref ou), (2, .ref h1), (1, .ref h0), (0, .ref b)]) hx hb d_law_219 hl (by decide) rfl (fun ls hl => ?_)
  refine lv_goto (tgt := 497) hx hb d_law_221 (by decide) ?_
  try dsimp only at hw
  have ety : z2 = t2 := by (first | (apply Int.le_antisymm <;> omega) | omega)
  rw [ety] at hYw
  have hal2 : alk (tpx w2) (tpy y2) t2.toNat := fun a ha => absurd ha (by (first | (apply Int.le_antisymm <;> omega) | omega))
  exact jn t2 _ _ H locs ls ⟨o2, c2, w2, y2, hXw, hYw, hP, hD, hS, hal2⟩ (lv_sub hl [2, 3, 4, 5, 6] rfl) (by (first | (apply Int.le_antisymm <;> omega) | omega)) (by (first | (apply Int.le_antisymm <;> omega) | omega))
set_option maxHeartbeats 4000000 in
theorem lc_emit {p : Program} {l : Launch} {e : Env} {s : State} {m : MethodId} {below : List Frame} {meth : Method} {c : Code} {Q : State → Prop} {dC : Nat → ClassId} {dI : Nat → Nat → Nat} {sa : Nat → Nat} {A : Nat → Prop} {b L h0 h1 ou : Nat} {xs : Nat → Int32} (hx : p.tables.exec = Jvm.exec) (hb : c.code = code) (hml : c.maxLocals = 8) (hown : s.vm.findClass R_LW = some m.cls) (hts : ∀ w ∈ lw_g, w.before #[Value.ref b] s = true) (hX : va_X b L xs s s.heap) (hbl : b < s.heap.size) (hbA : ¬ A b) (hA : ∀ q, s.heap.size ≤ q → A q) (hSM : sm sa A s s.heap) (hlt : l.stackTraces = false) {i : Int32} {j : Nat} {tl : Int} {kc kn : Nat} {H : Heap} {locs : List Loc} {ls : Array Slot} (hi : i.toInt = 6 * j) (hj : j ≤ 511) (hiL : i.toInt + 6 ≤ L) (hLL : L ≤ 3072) (hl : lv_has ls 8 [(4, .int i), (3, .ref ou), (2, .ref h1), (1, .ref h0), (0, .ref b)]) (hs : LST dC dI sa s A h0 h1 ou tl H locs) (hkc : (kc : Int) + 52 * tl ≤ 300 + 1060 * j) (hkn : (kn : Int) + 540 * tl ≤ 680000 + 10820 * j)
    (jn : ∀ (tl : Int) (kc kn : Nat) (H : Heap) (locs : List Loc) (ls : Array Slot), LST dC dI sa s A h0 h1 ou tl H locs → lv_has ls 8 [(4, .int i), (3, .ref ou), (2, .ref h1), (1, .ref h0), (0, .ref b)] → (kc : Int) + 52 * tl ≤ 300 + 1060 * (j + 1) → (kn : Int) + 540 * tl ≤ 680000 + 10820 * (j + 1) → W p l e room_1 s m #[Value.ref b] below meth c H locs kc kn Q (F0 m 497 ls [])) :
    W p l e room_1 s m #[Value.ref b] below meth c H locs kc kn Q (F0 m 268 ls []) := by
  obtain ⟨ov, cv, wx, wy, hXw, hYw, hP, hD, hS, hal⟩ := hs
  have htl := hXw.tl
  refine lv_aload_n hx hb d_law_268 rfl (lv_at hl 3 rfl) ?_
  refine lv_aload_n hx hb d_law_269 rfl (lv_at hl 1 rfl) ?_
  refine lx_i (wy := wy) (fun hp => uw_runS (As := [.ref h0, .ref ou]) (rest := []) ⟨hx, hb, hml, hown, hts⟩ (o_LW_emit l hlt dC dI H.size sa h0 ou tl ov wx ) ⟨uw_of 2 hts (gW kC_LW_emit) rfl rfl rfl (hts _ kI_LW) (hts _ kM_LW_81) (by decide +kernel) ⟨Nat.le_of_ble_eq_true rfl, Nat.le_of_ble_eq_true rfl⟩, hts _ kT_LW_emit⟩ hp rfl rfl hl.1 rfl (lv_room (Nat.le_of_ble_eq_true rfl)) d_law_270 ⟨by show _ ≤ (601024 : Nat); (first | (apply Int.le_antisymm <;> omega) | omega), by show _ ≤ (7293034 : Nat); (first | (apply Int.le_antisymm <;> omega) | omega)⟩) hXw hP hD hS hA hSM (fun r w2 t2 o2 H locs hw hXw hP hD hS => ?_)
  have htl2 := hXw.tl
  refine lv_istore (lv' := [(5, .int r), (4, .int i), (3, .ref ou), (2, .ref h1), (1, .ref h0), (0, .ref b)]) hx hb d_law_273 hl (by decide) rfl (fun ls hl => ?_)
  refine lv_aload_n hx hb d_law_275 rfl (lv_at hl 3 rfl) ?_
  refine ly_i (wx := w2) (fun hp => va_runV (As := []) (rest := []) ⟨hx, hb, hml, hown, hts⟩ (o_MD_emit0 l dC dI H.size sa h1 tl cv wy ) (cwV 0 hts (gV kM_LW_83 kV_MD_emit0 kS_MD_emit0 kI_MD kC_MD_emit0) rfl rfl rfl (by decide +kernel) ⟨Nat.le_of_ble_eq_true rfl, Nat.le_of_ble_eq_true rfl⟩) hp rfl rfl hl.1 rfl (lv_room (Nat.le_of_ble_eq_true rfl)) d_law_276 ⟨by show _ ≤ (601024 : Nat); (first | (apply Int.le_antisymm <;> omega) | omega), by show _ ≤ (7293034 : Nat); (first | (apply Int.le_antisymm <;> omega) | omega)⟩) hYw hP hD hS hA hSM (fun r2 y2 z2 c2 H locs hy2 hYw hP hD hS => ?_)
  try dsimp only at hy2
  refine lv_istore (lv' := [(6, .int r2), (5, .int r), (4, .int i), (3, .ref ou), (2, .ref h1), (1, .ref h0), (0, .ref b)]) hx hb d_law_279 hl (by decide) rfl (fun ls hl => ?_)
  refine lv_goto (tgt := 497) hx hb d_law_281 (by decide) ?_
  try dsimp only at hw
  have ety : z2 = t2 := by (first | (apply Int.le_antisymm <;> omega) | omega)
  rw [ety] at hYw
  have hal2 : alk (tpx w2) (tpy y2) t2.toNat := by rw [hw.2, hy2.2]; exact alk_le hal (by (first | (apply Int.le_antisymm <;> omega) | omega))
  exact jn t2 _ _ H locs ls ⟨o2, c2, w2, y2, hXw, hYw, hP, hD, hS, hal2⟩ (lv_sub hl [2, 3, 4, 5, 6] rfl) (by (first | (apply Int.le_antisymm <;> omega) | omega)) (by (first | (apply Int.le_antisymm <;> omega) | omega))
set_option maxHeartbeats 4000000 in
theorem lc_find {p : Program} {l : Launch} {e : Env} {s : State} {m : MethodId} {below : List Frame} {meth : Method} {c : Code} {Q : State → Prop} {dC : Nat → ClassId} {dI : Nat → Nat → Nat} {sa : Nat → Nat} {A : Nat → Prop} {b L h0 h1 ou : Nat} {xs : Nat → Int32} (hx : p.tables.exec = Jvm.exec) (hb : c.code = code) (hml : c.maxLocals = 8) (hown : s.vm.findClass R_LW = some m.cls) (hts : ∀ w ∈ lw_g, w.before #[Value.ref b] s = true) (hX : va_X b L xs s s.heap) (hbl : b < s.heap.size) (hbA : ¬ A b) (hA : ∀ q, s.heap.size ≤ q → A q) (hSM : sm sa A s s.heap) (hlt : l.stackTraces = false) {i : Int32} {j : Nat} {tl : Int} {kc kn : Nat} {H : Heap} {locs : List Loc} {ls : Array Slot} (hi : i.toInt = 6 * j) (hj : j ≤ 511) (hiL : i.toInt + 6 ≤ L) (hLL : L ≤ 3072) (hl : lv_has ls 8 [(4, .int i), (3, .ref ou), (2, .ref h1), (1, .ref h0), (0, .ref b)]) (hs : LST dC dI sa s A h0 h1 ou tl H locs) (hkc : (kc : Int) + 52 * tl ≤ 300 + 1060 * j) (hkn : (kn : Int) + 540 * tl ≤ 680000 + 10820 * j)
    (jn : ∀ (tl : Int) (kc kn : Nat) (H : Heap) (locs : List Loc) (ls : Array Slot), LST dC dI sa s A h0 h1 ou tl H locs → lv_has ls 8 [(4, .int i), (3, .ref ou), (2, .ref h1), (1, .ref h0), (0, .ref b)] → (kc : Int) + 52 * tl ≤ 300 + 1060 * (j + 1) → (kn : Int) + 540 * tl ≤ 680000 + 10820 * (j + 1) → W p l e room_1 s m #[Value.ref b] below meth c H locs kc kn Q (F0 m 497 ls [])) :
    W p l e room_1 s m #[Value.ref b] below meth c H locs kc kn Q (F0 m 284 ls []) := by
  obtain ⟨ov, cv, wx, wy, hXw, hYw, hP, hD, hS, hal⟩ := hs
  have htl := hXw.tl
  refine lv_aload_n hx hb d_law_284 rfl (lv_at hl 3 rfl) ?_
  refine lx_v (wy := wy) (fun hp => va_runV (As := []) (rest := []) ⟨hx, hb, hml, hown, hts⟩ (o_WF_find l dC dI H.size sa h0 ou tl ov wx) (cwV 0 hts (gV kM_LW_84 kV_WF_find kS_WF_find kI_WF kC_WF_find) rfl rfl rfl (by decide +kernel) ⟨Nat.le_of_ble_eq_true rfl, Nat.le_of_ble_eq_true rfl⟩) hp rfl rfl hl.1 rfl (lv_room (Nat.le_of_ble_eq_true rfl)) d_law_285 ⟨by show _ ≤ (601024 : Nat); (first | (apply Int.le_antisymm <;> omega) | omega), by show _ ≤ (7293034 : Nat); (first | (apply Int.le_antisymm <;> omega) | omega)⟩) hXw hP hD hS hA hSM (fun r w2 t2 o2 H locs hw hXw hP hD hS => ?_)
  have htl2 := hXw.tl
  refine lv_pop hx hb d_law_288 rfl ?_
  refine lv_aload_n hx hb d_law_289 rfl (lv_at hl 2 rfl) ?_
  refine ly_i (wx := w2) (fun hp => va_runV (As := []) (rest := []) ⟨hx, hb, hml, hown, hts⟩ (o_MD_find l dC dI H.size sa h1 tl cv wy ) (cwV 0 hts (gV kM_LW_87 kV_MD_find kS_MD_find kI_MD kC_MD_find) rfl rfl rfl (by decide +kernel) ⟨Nat.le_of_ble_eq_true rfl, Nat.le_of_ble_eq_true rfl⟩) hp rfl rfl hl.1 rfl (lv_room (Nat.le_of_ble_eq_true rfl)) d_law_290 ⟨by show _ ≤ (601024 : Nat); (first | (apply Int.le_antisymm <;> omega) | omega), by show _ ≤ (7293034 : Nat); (first | (apply Int.le_antisymm <;> omega) | omega)⟩) hYw hP hD hS hA hSM (fun r2 y2 z2 c2 H locs hy2 hYw hP hD hS => ?_)
  try dsimp only at hy2
  refine lv_pop hx hb d_law_293 rfl ?_
  refine lv_goto (tgt := 497) hx hb d_law_294 (by decide) ?_
  try dsimp only at hw
  have ety : z2 = t2 := by (first | (apply Int.le_antisymm <;> omega) | omega)
  rw [ety] at hYw
  have hal2 : alk (tpx w2) (tpy y2) t2.toNat := fun a ha => absurd ha (by (first | (apply Int.le_antisymm <;> omega) | omega))
  exact jn t2 _ _ H locs ls ⟨o2, c2, w2, y2, hXw, hYw, hP, hD, hS, hal2⟩ (lv_sub hl [0, 1, 2, 3, 4] rfl) (by (first | (apply Int.le_antisymm <;> omega) | omega)) (by (first | (apply Int.le_antisymm <;> omega) | omega))
set_option maxHeartbeats 4000000 in
theorem lc_argument {p : Program} {l : Launch} {e : Env} {s : State} {m : MethodId} {below : List Frame} {meth : Method} {c : Code} {Q : State → Prop} {dC : Nat → ClassId} {dI : Nat → Nat → Nat} {sa : Nat → Nat} {A : Nat → Prop} {b L h0 h1 ou : Nat} {xs : Nat → Int32} (hx : p.tables.exec = Jvm.exec) (hb : c.code = code) (hml : c.maxLocals = 8) (hown : s.vm.findClass R_LW = some m.cls) (hts : ∀ w ∈ lw_g, w.before #[Value.ref b] s = true) (hX : va_X b L xs s s.heap) (hbl : b < s.heap.size) (hbA : ¬ A b) (hA : ∀ q, s.heap.size ≤ q → A q) (hSM : sm sa A s s.heap) (hlt : l.stackTraces = false) {i : Int32} {j : Nat} {tl : Int} {kc kn : Nat} {H : Heap} {locs : List Loc} {ls : Array Slot} (hi : i.toInt = 6 * j) (hj : j ≤ 511) (hiL : i.toInt + 6 ≤ L) (hLL : L ≤ 3072) (hl : lv_has ls 8 [(4, .int i), (3, .ref ou), (2, .ref h1), (1, .ref h0), (0, .ref b)]) (hs : LST dC dI sa s A h0 h1 ou tl H locs) (hkc : (kc : Int) + 52 * tl ≤ 300 + 1060 * j) (hkn : (kn : Int) + 540 * tl ≤ 680000 + 10820 * j)
    (jn : ∀ (tl : Int) (kc kn : Nat) (H : Heap) (locs : List Loc) (ls : Array Slot), LST dC dI sa s A h0 h1 ou tl H locs → lv_has ls 8 [(4, .int i), (3, .ref ou), (2, .ref h1), (1, .ref h0), (0, .ref b)] → (kc : Int) + 52 * tl ≤ 300 + 1060 * (j + 1) → (kn : Int) + 540 * tl ≤ 680000 + 10820 * (j + 1) → W p l e room_1 s m #[Value.ref b] below meth c H locs kc kn Q (F0 m 497 ls [])) :
    W p l e room_1 s m #[Value.ref b] below meth c H locs kc kn Q (F0 m 297 ls []) := by
  obtain ⟨ov, cv, wx, wy, hXw, hYw, hP, hD, hS, hal⟩ := hs
  have htl := hXw.tl
  refine lv_aload_n hx hb d_law_297 rfl (lv_at hl 3 rfl) ?_
  refine lv_aload_n hx hb d_law_298 rfl (lv_at hl 4 rfl) ?_
  refine lv_iload hx hb d_law_299 (lv_at hl 0 rfl) ?_
  refine lv_iconst (v := 1) hx hb d_law_301 (by decide) ?_
  have k1 : (1 : Int32).toInt = 1 := by decide
  refine lv_iadd hx hb d_law_302 ?_
  refine lv_topi (fun x1 ex1 => ?_)
  have tx1 : x1.toInt = i.toInt + 1 := by have z := i32_add ex1 (by (first | (apply Int.le_antisymm <;> omega) | omega)) (by (first | (apply Int.le_antisymm <;> omega) | omega)); first | exact z | (first | (apply Int.le_antisymm <;> omega) | omega)
  refine va_sld hx hb hX hbl hbA hS (vp_in_iff.mpr ⟨by (first | (apply Int.le_antisymm <;> omega) | omega), by (first | (apply Int.le_antisymm <;> omega) | omega)⟩) d_law_303 ?_
  refine lv_topi (fun v2 ev2 => ?_)
  refine lv_i2l hx hb d_law_304 rfl ?_
  refine lv_topl (fun x3 ex3 => ?_)
  refine lv_bipush (v := 32) hx hb d_law_305 (by decide) ?_
  have k32 : (32 : Int32).toInt = 32 := by decide
  refine lv_lshl hx hb d_law_307 rfl ?_
  refine lv_topl (fun x4 ex4 => ?_)
  refine lv_aload_n hx hb d_law_308 rfl (lv_at hl 4 rfl) ?_
  refine lv_iload hx hb d_law_309 (lv_at hl 0 rfl) ?_
  refine lv_iconst (v := 2) hx hb d_law_311 (by decide) ?_
  have k2 : (2 : Int32).toInt = 2 := by decide
  refine lv_iadd hx hb d_law_312 ?_
  refine lv_topi (fun x5 ex5 => ?_)
  have tx5 : x5.toInt = i.toInt + 2 := by have z := i32_add ex5 (by (first | (apply Int.le_antisymm <;> omega) | omega)) (by (first | (apply Int.le_antisymm <;> omega) | omega)); first | exact z | (first | (apply Int.le_antisymm <;> omega) | omega)
  refine va_sld hx hb hX hbl hbA hS (vp_in_iff.mpr ⟨by (first | (apply Int.le_antisymm <;> omega) | omega), by (first | (apply Int.le_antisymm <;> omega) | omega)⟩) d_law_313 ?_
  refine lv_topi (fun v6 ev6 => ?_)
  refine lv_i2l hx hb d_law_314 rfl ?_
  refine lv_topl (fun x7 ex7 => ?_)
  refine lv_ldc2 hx hb hown (hts _ kL_LW_88) d_law_315 ?_
  refine lv_topl (fun x8 ex8 => ?_)
  refine lv_land hx hb d_law_318 ?_
  refine lv_topl (fun x9 ex9 => ?_)
  refine lv_lor hx hb d_law_319 ?_
  refine lv_topl (fun x10 ex10 => ?_)
  refine lv_aload_n hx hb d_law_320 rfl (lv_at hl 1 rfl) ?_
  refine lx_i (wy := wy) (fun hp => uw_runS (As := [.ref h0, .long x10, .ref ou]) (rest := []) ⟨hx, hb, hml, hown, hts⟩ (o_LW_argument l hlt dC dI H.size sa h0 ou tl ov wx x10) ⟨uw_of 3 hts (gW kC_LW_argument) rfl rfl rfl (hts _ kI_LW) (hts _ kM_LW_90) (by decide +kernel) ⟨Nat.le_of_ble_eq_true rfl, Nat.le_of_ble_eq_true rfl⟩, hts _ kT_LW_argument⟩ hp rfl rfl hl.1 rfl (lv_room (Nat.le_of_ble_eq_true rfl)) d_law_321 ⟨by show _ ≤ (601024 : Nat); (first | (apply Int.le_antisymm <;> omega) | omega), by show _ ≤ (7293034 : Nat); (first | (apply Int.le_antisymm <;> omega) | omega)⟩) hXw hP hD hS hA hSM (fun r w2 t2 o2 H locs hw hXw hP hD hS => ?_)
  have htl2 := hXw.tl
  refine lv_istore (lv' := [(5, .int r), (4, .int i), (3, .ref ou), (2, .ref h1), (1, .ref h0), (0, .ref b)]) hx hb d_law_324 hl (by decide) rfl (fun ls hl => ?_)
  refine lv_aload_n hx hb d_law_326 rfl (lv_at hl 3 rfl) ?_
  refine lv_aload_n hx hb d_law_327 rfl (lv_at hl 5 rfl) ?_
  refine lv_iload hx hb d_law_328 (lv_at hl 1 rfl) ?_
  refine lv_iconst (v := 1) hx hb d_law_330 (by decide) ?_
  have k1 : (1 : Int32).toInt = 1 := by decide
  refine lv_iadd hx hb d_law_331 ?_
  refine lv_topi (fun x11 ex11 => ?_)
  have tx11 : x11.toInt = i.toInt + 1 := by have z := i32_add ex11 (by (first | (apply Int.le_antisymm <;> omega) | omega)) (by (first | (apply Int.le_antisymm <;> omega) | omega)); first | exact z | (first | (apply Int.le_antisymm <;> omega) | omega)
  refine va_sld hx hb hX hbl hbA hS (vp_in_iff.mpr ⟨by (first | (apply Int.le_antisymm <;> omega) | omega), by (first | (apply Int.le_antisymm <;> omega) | omega)⟩) d_law_332 ?_
  refine lv_topi (fun v12 ev12 => ?_)
  refine lv_i2l hx hb d_law_333 rfl ?_
  refine lv_topl (fun x13 ex13 => ?_)
  refine lv_bipush (v := 32) hx hb d_law_334 (by decide) ?_
  have k32 : (32 : Int32).toInt = 32 := by decide
  refine lv_lshl hx hb d_law_336 rfl ?_
  refine lv_topl (fun x14 ex14 => ?_)
  refine lv_aload_n hx hb d_law_337 rfl (lv_at hl 5 rfl) ?_
  refine lv_iload hx hb d_law_338 (lv_at hl 1 rfl) ?_
  refine lv_iconst (v := 2) hx hb d_law_340 (by decide) ?_
  have k2 : (2 : Int32).toInt = 2 := by decide
  refine lv_iadd hx hb d_law_341 ?_
  refine lv_topi (fun x15 ex15 => ?_)
  have tx15 : x15.toInt = i.toInt + 2 := by have z := i32_add ex15 (by (first | (apply Int.le_antisymm <;> omega) | omega)) (by (first | (apply Int.le_antisymm <;> omega) | omega)); first | exact z | (first | (apply Int.le_antisymm <;> omega) | omega)
  refine va_sld hx hb hX hbl hbA hS (vp_in_iff.mpr ⟨by (first | (apply Int.le_antisymm <;> omega) | omega), by (first | (apply Int.le_antisymm <;> omega) | omega)⟩) d_law_342 ?_
  refine lv_topi (fun v16 ev16 => ?_)
  refine lv_i2l hx hb d_law_343 rfl ?_
  refine lv_topl (fun x17 ex17 => ?_)
  refine lv_ldc2 hx hb hown (hts _ kL_LW_88) d_law_344 ?_
  refine lv_topl (fun x18 ex18 => ?_)
  refine lv_land hx hb d_law_347 ?_
  refine lv_topl (fun x19 ex19 => ?_)
  refine lv_lor hx hb d_law_348 ?_
  refine lv_topl (fun x20 ex20 => ?_)
  refine ly_i (wx := w2) (fun hp => va_runV (As := [.long x20]) (rest := []) ⟨hx, hb, hml, hown, hts⟩ (o_MD_argument l dC dI H.size sa h1 tl cv wy x20) (cwV 1 hts (gV kM_LW_93 kV_MD_argument kS_MD_argument kI_MD kC_MD_argument) rfl rfl rfl (by decide +kernel) ⟨Nat.le_of_ble_eq_true rfl, Nat.le_of_ble_eq_true rfl⟩) hp rfl rfl hl.1 rfl (lv_room (Nat.le_of_ble_eq_true rfl)) d_law_349 ⟨by show _ ≤ (601024 : Nat); (first | (apply Int.le_antisymm <;> omega) | omega), by show _ ≤ (7293034 : Nat); (first | (apply Int.le_antisymm <;> omega) | omega)⟩) hYw hP hD hS hA hSM (fun r22 y22 z22 c22 H locs hy22 hYw hP hD hS => ?_)
  try dsimp only at hy22
  refine lv_istore (lv' := [(6, .int r22), (5, .int r), (4, .int i), (3, .ref ou), (2, .ref h1), (1, .ref h0), (0, .ref b)]) hx hb d_law_352 hl (by decide) rfl (fun ls hl => ?_)
  refine lv_goto (tgt := 497) hx hb d_law_354 (by decide) ?_
  try dsimp only at hw
  have ety : z22 = t2 := by (first | (apply Int.le_antisymm <;> omega) | omega)
  rw [ety] at hYw
  have hal2 : alk (tpx w2) (tpy y22) t2.toNat := by rw [hw.2, hy22.2]; exact alk_le hal (by (first | (apply Int.le_antisymm <;> omega) | omega))
  exact jn t2 _ _ H locs ls ⟨o2, c22, w2, y22, hXw, hYw, hP, hD, hS, hal2⟩ (lv_sub hl [2, 3, 4, 5, 6] rfl) (by (first | (apply Int.le_antisymm <;> omega) | omega)) (by (first | (apply Int.le_antisymm <;> omega) | omega))
set_option maxHeartbeats 4000000 in
theorem lc_call {p : Program} {l : Launch} {e : Env} {s : State} {m : MethodId} {below : List Frame} {meth : Method} {c : Code} {Q : State → Prop} {dC : Nat → ClassId} {dI : Nat → Nat → Nat} {sa : Nat → Nat} {A : Nat → Prop} {b L h0 h1 ou : Nat} {xs : Nat → Int32} (hx : p.tables.exec = Jvm.exec) (hb : c.code = code) (hml : c.maxLocals = 8) (hown : s.vm.findClass R_LW = some m.cls) (hts : ∀ w ∈ lw_g, w.before #[Value.ref b] s = true) (hX : va_X b L xs s s.heap) (hbl : b < s.heap.size) (hbA : ¬ A b) (hA : ∀ q, s.heap.size ≤ q → A q) (hSM : sm sa A s s.heap) (hlt : l.stackTraces = false) {i : Int32} {j : Nat} {tl : Int} {kc kn : Nat} {H : Heap} {locs : List Loc} {ls : Array Slot} (hi : i.toInt = 6 * j) (hj : j ≤ 511) (hiL : i.toInt + 6 ≤ L) (hLL : L ≤ 3072) (hl : lv_has ls 8 [(4, .int i), (3, .ref ou), (2, .ref h1), (1, .ref h0), (0, .ref b)]) (hs : LST dC dI sa s A h0 h1 ou tl H locs) (hkc : (kc : Int) + 52 * tl ≤ 300 + 1060 * j) (hkn : (kn : Int) + 540 * tl ≤ 680000 + 10820 * j)
    (jn : ∀ (tl : Int) (kc kn : Nat) (H : Heap) (locs : List Loc) (ls : Array Slot), LST dC dI sa s A h0 h1 ou tl H locs → lv_has ls 8 [(4, .int i), (3, .ref ou), (2, .ref h1), (1, .ref h0), (0, .ref b)] → (kc : Int) + 52 * tl ≤ 300 + 1060 * (j + 1) → (kn : Int) + 540 * tl ≤ 680000 + 10820 * (j + 1) → W p l e room_1 s m #[Value.ref b] below meth c H locs kc kn Q (F0 m 497 ls [])) :
    W p l e room_1 s m #[Value.ref b] below meth c H locs kc kn Q (F0 m 357 ls []) := by
  obtain ⟨ov, cv, wx, wy, hXw, hYw, hP, hD, hS, hal⟩ := hs
  have htl := hXw.tl
  refine lv_aload_n hx hb d_law_357 rfl (lv_at hl 3 rfl) ?_
  refine lv_aload_n hx hb d_law_358 rfl (lv_at hl 4 rfl) ?_
  refine lv_iload hx hb d_law_359 (lv_at hl 0 rfl) ?_
  refine lv_iconst (v := 1) hx hb d_law_361 (by decide) ?_
  have k1 : (1 : Int32).toInt = 1 := by decide
  refine lv_iadd hx hb d_law_362 ?_
  refine lv_topi (fun x1 ex1 => ?_)
  have tx1 : x1.toInt = i.toInt + 1 := by have z := i32_add ex1 (by (first | (apply Int.le_antisymm <;> omega) | omega)) (by (first | (apply Int.le_antisymm <;> omega) | omega)); first | exact z | (first | (apply Int.le_antisymm <;> omega) | omega)
  refine va_sld hx hb hX hbl hbA hS (vp_in_iff.mpr ⟨by (first | (apply Int.le_antisymm <;> omega) | omega), by (first | (apply Int.le_antisymm <;> omega) | omega)⟩) d_law_363 ?_
  refine lv_topi (fun v2 ev2 => ?_)
  refine lv_aload_n hx hb d_law_364 rfl (lv_at hl 1 rfl) ?_
  refine lx_i (wy := wy) (fun hp => uw_runS (As := [.ref h0, .int v2, .ref ou]) (rest := []) ⟨hx, hb, hml, hown, hts⟩ (o_LW_call l hlt dC dI H.size sa h0 ou tl ov wx v2) ⟨uw_of 3 hts (gW kC_LW_call) rfl rfl rfl (hts _ kI_LW) (hts _ kM_LW_94) (by decide +kernel) ⟨Nat.le_of_ble_eq_true rfl, Nat.le_of_ble_eq_true rfl⟩, hts _ kT_LW_call⟩ hp rfl rfl hl.1 rfl (lv_room (Nat.le_of_ble_eq_true rfl)) d_law_365 ⟨by show _ ≤ (601024 : Nat); (first | (apply Int.le_antisymm <;> omega) | omega), by show _ ≤ (7293034 : Nat); (first | (apply Int.le_antisymm <;> omega) | omega)⟩) hXw hP hD hS hA hSM (fun r w2 t2 o2 H locs hw hXw hP hD hS => ?_)
  have htl2 := hXw.tl
  refine lv_istore (lv' := [(5, .int r), (4, .int i), (3, .ref ou), (2, .ref h1), (1, .ref h0), (0, .ref b)]) hx hb d_law_368 hl (by decide) rfl (fun ls hl => ?_)
  refine lv_aload_n hx hb d_law_370 rfl (lv_at hl 3 rfl) ?_
  refine lv_aload_n hx hb d_law_371 rfl (lv_at hl 5 rfl) ?_
  refine lv_iload hx hb d_law_372 (lv_at hl 1 rfl) ?_
  refine lv_iconst (v := 1) hx hb d_law_374 (by decide) ?_
  have k1 : (1 : Int32).toInt = 1 := by decide
  refine lv_iadd hx hb d_law_375 ?_
  refine lv_topi (fun x3 ex3 => ?_)
  have tx3 : x3.toInt = i.toInt + 1 := by have z := i32_add ex3 (by (first | (apply Int.le_antisymm <;> omega) | omega)) (by (first | (apply Int.le_antisymm <;> omega) | omega)); first | exact z | (first | (apply Int.le_antisymm <;> omega) | omega)
  refine va_sld hx hb hX hbl hbA hS (vp_in_iff.mpr ⟨by (first | (apply Int.le_antisymm <;> omega) | omega), by (first | (apply Int.le_antisymm <;> omega) | omega)⟩) d_law_376 ?_
  refine lv_topi (fun v4 ev4 => ?_)
  refine ly_l (wx := w2) (fun hp => uw_runV (As := [.int v4]) (rest := []) ⟨hx, hb, hml, hown, hts⟩ (o_MD_call l hlt dC dI H.size sa h1 tl cv wy v4) ⟨uw_of 1 hts (gW kC_MD_call) rfl rfl rfl (hts _ kI_MD) (hts _ kM_LW_96) (by decide +kernel) ⟨Nat.le_of_ble_eq_true rfl, Nat.le_of_ble_eq_true rfl⟩, hts _ kV_MD_call, hts _ kS_MD_call⟩ hp rfl rfl hl.1 rfl (lv_room (Nat.le_of_ble_eq_true rfl)) d_law_377 ⟨by show _ ≤ (601024 : Nat); (first | (apply Int.le_antisymm <;> omega) | omega), by show _ ≤ (7293034 : Nat); (first | (apply Int.le_antisymm <;> omega) | omega)⟩) hYw hP hD hS hA hSM (fun r6 y6 z6 c6 H locs hy6 hYw hP hD hS => ?_)
  try dsimp only at hy6
  refine lv_lstore (lv' := [(6, .long r6), (5, .int r), (4, .int i), (3, .ref ou), (2, .ref h1), (1, .ref h0), (0, .ref b)]) hx hb d_law_380 hl (by decide) rfl (fun ls hl => ?_)
  refine lv_goto (tgt := 497) hx hb d_law_382 (by decide) ?_
  try dsimp only at hw
  have ety : z6 = t2 := by (first | (apply Int.le_antisymm <;> omega) | omega)
  rw [ety] at hYw
  have hal2 : alk (tpx w2) (tpy y6) t2.toNat := by rw [hw.2, hy6.2]; exact alk_le hal (by (first | (apply Int.le_antisymm <;> omega) | omega))
  exact jn t2 _ _ H locs ls ⟨o2, c6, w2, y6, hXw, hYw, hP, hD, hS, hal2⟩ (lv_sub hl [2, 3, 4, 5, 6] rfl) (by (first | (apply Int.le_antisymm <;> omega) | omega)) (by (first | (apply Int.le_antisymm <;> omega) | omega))
set_option maxHeartbeats 4000000 in
theorem lc_global {p : Program} {l : Launch} {e : Env} {s : State} {m : MethodId} {below : List Frame} {meth : Method} {c : Code} {Q : State → Prop} {dC : Nat → ClassId} {dI : Nat → Nat → Nat} {sa : Nat → Nat} {A : Nat → Prop} {b L h0 h1 ou : Nat} {xs : Nat → Int32} (hx : p.tables.exec = Jvm.exec) (hb : c.code = code) (hml : c.maxLocals = 8) (hown : s.vm.findClass R_LW = some m.cls) (hts : ∀ w ∈ lw_g, w.before #[Value.ref b] s = true) (hX : va_X b L xs s s.heap) (hbl : b < s.heap.size) (hbA : ¬ A b) (hA : ∀ q, s.heap.size ≤ q → A q) (hSM : sm sa A s s.heap) (hlt : l.stackTraces = false) {i : Int32} {j : Nat} {tl : Int} {kc kn : Nat} {H : Heap} {locs : List Loc} {ls : Array Slot} (hi : i.toInt = 6 * j) (hj : j ≤ 511) (hiL : i.toInt + 6 ≤ L) (hLL : L ≤ 3072) (hl : lv_has ls 8 [(4, .int i), (3, .ref ou), (2, .ref h1), (1, .ref h0), (0, .ref b)]) (hs : LST dC dI sa s A h0 h1 ou tl H locs) (hkc : (kc : Int) + 52 * tl ≤ 300 + 1060 * j) (hkn : (kn : Int) + 540 * tl ≤ 680000 + 10820 * j)
    (jn : ∀ (tl : Int) (kc kn : Nat) (H : Heap) (locs : List Loc) (ls : Array Slot), LST dC dI sa s A h0 h1 ou tl H locs → lv_has ls 8 [(4, .int i), (3, .ref ou), (2, .ref h1), (1, .ref h0), (0, .ref b)] → (kc : Int) + 52 * tl ≤ 300 + 1060 * (j + 1) → (kn : Int) + 540 * tl ≤ 680000 + 10820 * (j + 1) → W p l e room_1 s m #[Value.ref b] below meth c H locs kc kn Q (F0 m 497 ls [])) :
    W p l e room_1 s m #[Value.ref b] below meth c H locs kc kn Q (F0 m 385 ls []) := by
  obtain ⟨ov, cv, wx, wy, hXw, hYw, hP, hD, hS, hal⟩ := hs
  have htl := hXw.tl
  refine lv_aload_n hx hb d_law_385 rfl (lv_at hl 3 rfl) ?_
  refine lv_aload_n hx hb d_law_386 rfl (lv_at hl 4 rfl) ?_
  refine lv_iload hx hb d_law_387 (lv_at hl 0 rfl) ?_
  refine lv_iconst (v := 1) hx hb d_law_389 (by decide) ?_
  have k1 : (1 : Int32).toInt = 1 := by decide
  refine lv_iadd hx hb d_law_390 ?_
  refine lv_topi (fun x1 ex1 => ?_)
  have tx1 : x1.toInt = i.toInt + 1 := by have z := i32_add ex1 (by (first | (apply Int.le_antisymm <;> omega) | omega)) (by (first | (apply Int.le_antisymm <;> omega) | omega)); first | exact z | (first | (apply Int.le_antisymm <;> omega) | omega)
  refine va_sld hx hb hX hbl hbA hS (vp_in_iff.mpr ⟨by (first | (apply Int.le_antisymm <;> omega) | omega), by (first | (apply Int.le_antisymm <;> omega) | omega)⟩) d_law_391 ?_
  refine lv_topi (fun v2 ev2 => ?_)
  refine lv_aload_n hx hb d_law_392 rfl (lv_at hl 1 rfl) ?_
  refine lx_i (wy := wy) (fun hp => uw_runS (As := [.ref h0, .int v2, .ref ou]) (rest := []) ⟨hx, hb, hml, hown, hts⟩ (o_LW_global l hlt dC dI H.size sa h0 ou tl ov wx v2) ⟨uw_of 3 hts (gW kC_LW_global) rfl rfl rfl (hts _ kI_LW) (hts _ kM_LW_97) (by decide +kernel) ⟨Nat.le_of_ble_eq_true rfl, Nat.le_of_ble_eq_true rfl⟩, hts _ kT_LW_global⟩ hp rfl rfl hl.1 rfl (lv_room (Nat.le_of_ble_eq_true rfl)) d_law_393 ⟨by show _ ≤ (601024 : Nat); (first | (apply Int.le_antisymm <;> omega) | omega), by show _ ≤ (7293034 : Nat); (first | (apply Int.le_antisymm <;> omega) | omega)⟩) hXw hP hD hS hA hSM (fun r w2 t2 o2 H locs hw hXw hP hD hS => ?_)
  have htl2 := hXw.tl
  refine lv_istore (lv' := [(5, .int r), (4, .int i), (3, .ref ou), (2, .ref h1), (1, .ref h0), (0, .ref b)]) hx hb d_law_396 hl (by decide) rfl (fun ls hl => ?_)
  refine lv_aload_n hx hb d_law_398 rfl (lv_at hl 3 rfl) ?_
  refine lv_aload_n hx hb d_law_399 rfl (lv_at hl 5 rfl) ?_
  refine lv_iload hx hb d_law_400 (lv_at hl 1 rfl) ?_
  refine lv_iconst (v := 1) hx hb d_law_402 (by decide) ?_
  have k1 : (1 : Int32).toInt = 1 := by decide
  refine lv_iadd hx hb d_law_403 ?_
  refine lv_topi (fun x3 ex3 => ?_)
  have tx3 : x3.toInt = i.toInt + 1 := by have z := i32_add ex3 (by (first | (apply Int.le_antisymm <;> omega) | omega)) (by (first | (apply Int.le_antisymm <;> omega) | omega)); first | exact z | (first | (apply Int.le_antisymm <;> omega) | omega)
  refine va_sld hx hb hX hbl hbA hS (vp_in_iff.mpr ⟨by (first | (apply Int.le_antisymm <;> omega) | omega), by (first | (apply Int.le_antisymm <;> omega) | omega)⟩) d_law_404 ?_
  refine lv_topi (fun v4 ev4 => ?_)
  refine ly_l (wx := w2) (fun hp => va_runV (As := [.int v4]) (rest := []) ⟨hx, hb, hml, hown, hts⟩ (o_MD_global1 l dC dI H.size sa h1 tl cv wy v4) (cwV 1 hts (gV kM_LW_99 kV_MD_global1 kS_MD_global1 kI_MD kC_MD_global1) rfl rfl rfl (by decide +kernel) ⟨Nat.le_of_ble_eq_true rfl, Nat.le_of_ble_eq_true rfl⟩) hp rfl rfl hl.1 rfl (lv_room (Nat.le_of_ble_eq_true rfl)) d_law_405 ⟨by show _ ≤ (601024 : Nat); (first | (apply Int.le_antisymm <;> omega) | omega), by show _ ≤ (7293034 : Nat); (first | (apply Int.le_antisymm <;> omega) | omega)⟩) hYw hP hD hS hA hSM (fun r6 y6 z6 c6 H locs hy6 hYw hP hD hS => ?_)
  try dsimp only at hy6
  refine lv_lstore (lv' := [(6, .long r6), (5, .int r), (4, .int i), (3, .ref ou), (2, .ref h1), (1, .ref h0), (0, .ref b)]) hx hb d_law_408 hl (by decide) rfl (fun ls hl => ?_)
  refine lv_goto (tgt := 497) hx hb d_law_410 (by decide) ?_
  try dsimp only at hw
  have ety : z6 = t2 := by (first | (apply Int.le_antisymm <;> omega) | omega)
  rw [ety] at hYw
  have hal2 : alk (tpx w2) (tpy y6) t2.toNat := by rw [hw.2, hy6.2]; exact alk_le hal (by (first | (apply Int.le_antisymm <;> omega) | omega))
  exact jn t2 _ _ H locs ls ⟨o2, c6, w2, y6, hXw, hYw, hP, hD, hS, hal2⟩ (lv_sub hl [2, 3, 4, 5, 6] rfl) (by (first | (apply Int.le_antisymm <;> omega) | omega)) (by (first | (apply Int.le_antisymm <;> omega) | omega))
set_option maxHeartbeats 4000000 in
theorem lc_memory {p : Program} {l : Launch} {e : Env} {s : State} {m : MethodId} {below : List Frame} {meth : Method} {c : Code} {Q : State → Prop} {dC : Nat → ClassId} {dI : Nat → Nat → Nat} {sa : Nat → Nat} {A : Nat → Prop} {b L h0 h1 ou : Nat} {xs : Nat → Int32} (hx : p.tables.exec = Jvm.exec) (hb : c.code = code) (hml : c.maxLocals = 8) (hown : s.vm.findClass R_LW = some m.cls) (hts : ∀ w ∈ lw_g, w.before #[Value.ref b] s = true) (hX : va_X b L xs s s.heap) (hbl : b < s.heap.size) (hbA : ¬ A b) (hA : ∀ q, s.heap.size ≤ q → A q) (hSM : sm sa A s s.heap) (hlt : l.stackTraces = false) {i : Int32} {j : Nat} {tl : Int} {kc kn : Nat} {H : Heap} {locs : List Loc} {ls : Array Slot} (hi : i.toInt = 6 * j) (hj : j ≤ 511) (hiL : i.toInt + 6 ≤ L) (hLL : L ≤ 3072) (hl : lv_has ls 8 [(4, .int i), (3, .ref ou), (2, .ref h1), (1, .ref h0), (0, .ref b)]) (hs : LST dC dI sa s A h0 h1 ou tl H locs) (hkc : (kc : Int) + 52 * tl ≤ 300 + 1060 * j) (hkn : (kn : Int) + 540 * tl ≤ 680000 + 10820 * j)
    (jn : ∀ (tl : Int) (kc kn : Nat) (H : Heap) (locs : List Loc) (ls : Array Slot), LST dC dI sa s A h0 h1 ou tl H locs → lv_has ls 8 [(4, .int i), (3, .ref ou), (2, .ref h1), (1, .ref h0), (0, .ref b)] → (kc : Int) + 52 * tl ≤ 300 + 1060 * (j + 1) → (kn : Int) + 540 * tl ≤ 680000 + 10820 * (j + 1) → W p l e room_1 s m #[Value.ref b] below meth c H locs kc kn Q (F0 m 497 ls [])) :
    W p l e room_1 s m #[Value.ref b] below meth c H locs kc kn Q (F0 m 413 ls []) := by
  obtain ⟨ov, cv, wx, wy, hXw, hYw, hP, hD, hS, hal⟩ := hs
  have htl := hXw.tl
  refine lv_aload_n hx hb d_law_413 rfl (lv_at hl 3 rfl) ?_
  refine lv_aload_n hx hb d_law_414 rfl (lv_at hl 4 rfl) ?_
  refine lv_iload hx hb d_law_415 (lv_at hl 0 rfl) ?_
  refine lv_iconst (v := 1) hx hb d_law_417 (by decide) ?_
  have k1 : (1 : Int32).toInt = 1 := by decide
  refine lv_iadd hx hb d_law_418 ?_
  refine lv_topi (fun x1 ex1 => ?_)
  have tx1 : x1.toInt = i.toInt + 1 := by have z := i32_add ex1 (by (first | (apply Int.le_antisymm <;> omega) | omega)) (by (first | (apply Int.le_antisymm <;> omega) | omega)); first | exact z | (first | (apply Int.le_antisymm <;> omega) | omega)
  refine va_sld hx hb hX hbl hbA hS (vp_in_iff.mpr ⟨by (first | (apply Int.le_antisymm <;> omega) | omega), by (first | (apply Int.le_antisymm <;> omega) | omega)⟩) d_law_419 ?_
  refine lv_topi (fun v2 ev2 => ?_)
  refine lv_aload_n hx hb d_law_420 rfl (lv_at hl 1 rfl) ?_
  refine lx_i (wy := wy) (fun hp => uw_runS (As := [.ref h0, .int v2, .ref ou]) (rest := []) ⟨hx, hb, hml, hown, hts⟩ (o_LW_memory l hlt dC dI H.size sa h0 ou tl ov wx v2) ⟨uw_of 3 hts (gW kC_LW_memory) rfl rfl rfl (hts _ kI_LW) (hts _ kM_LW_100) (by decide +kernel) ⟨Nat.le_of_ble_eq_true rfl, Nat.le_of_ble_eq_true rfl⟩, hts _ kT_LW_memory⟩ hp rfl rfl hl.1 rfl (lv_room (Nat.le_of_ble_eq_true rfl)) d_law_421 ⟨by show _ ≤ (601024 : Nat); (first | (apply Int.le_antisymm <;> omega) | omega), by show _ ≤ (7293034 : Nat); (first | (apply Int.le_antisymm <;> omega) | omega)⟩) hXw hP hD hS hA hSM (fun r w2 t2 o2 H locs hw hXw hP hD hS => ?_)
  have htl2 := hXw.tl
  refine lv_istore (lv' := [(5, .int r), (4, .int i), (3, .ref ou), (2, .ref h1), (1, .ref h0), (0, .ref b)]) hx hb d_law_424 hl (by decide) rfl (fun ls hl => ?_)
  refine lv_aload_n hx hb d_law_426 rfl (lv_at hl 3 rfl) ?_
  refine lv_aload_n hx hb d_law_427 rfl (lv_at hl 5 rfl) ?_
  refine lv_iload hx hb d_law_428 (lv_at hl 1 rfl) ?_
  refine lv_iconst (v := 1) hx hb d_law_430 (by decide) ?_
  have k1 : (1 : Int32).toInt = 1 := by decide
  refine lv_iadd hx hb d_law_431 ?_
  refine lv_topi (fun x3 ex3 => ?_)
  have tx3 : x3.toInt = i.toInt + 1 := by have z := i32_add ex3 (by (first | (apply Int.le_antisymm <;> omega) | omega)) (by (first | (apply Int.le_antisymm <;> omega) | omega)); first | exact z | (first | (apply Int.le_antisymm <;> omega) | omega)
  refine va_sld hx hb hX hbl hbA hS (vp_in_iff.mpr ⟨by (first | (apply Int.le_antisymm <;> omega) | omega), by (first | (apply Int.le_antisymm <;> omega) | omega)⟩) d_law_432 ?_
  refine lv_topi (fun v4 ev4 => ?_)
  refine ly_i (wx := w2) (fun hp => va_runV (As := [.int v4]) (rest := []) ⟨hx, hb, hml, hown, hts⟩ (o_MD_memory0 l dC dI H.size sa h1 tl cv wy v4) (cwV 1 hts (gV kM_LW_102 kV_MD_memory0 kS_MD_memory0 kI_MD kC_MD_memory0) rfl rfl rfl (by decide +kernel) ⟨Nat.le_of_ble_eq_true rfl, Nat.le_of_ble_eq_true rfl⟩) hp rfl rfl hl.1 rfl (lv_room (Nat.le_of_ble_eq_true rfl)) d_law_433 ⟨by show _ ≤ (601024 : Nat); (first | (apply Int.le_antisymm <;> omega) | omega), by show _ ≤ (7293034 : Nat); (first | (apply Int.le_antisymm <;> omega) | omega)⟩) hYw hP hD hS hA hSM (fun r6 y6 z6 c6 H locs hy6 hYw hP hD hS => ?_)
  try dsimp only at hy6
  refine lv_istore (lv' := [(6, .int r6), (5, .int r), (4, .int i), (3, .ref ou), (2, .ref h1), (1, .ref h0), (0, .ref b)]) hx hb d_law_436 hl (by decide) rfl (fun ls hl => ?_)
  refine lv_goto (tgt := 497) hx hb d_law_438 (by decide) ?_
  try dsimp only at hw
  have ety : z6 = t2 := by (first | (apply Int.le_antisymm <;> omega) | omega)
  rw [ety] at hYw
  have hal2 : alk (tpx w2) (tpy y6) t2.toNat := by rw [hw.2, hy6.2]; exact alk_le hal (by (first | (apply Int.le_antisymm <;> omega) | omega))
  exact jn t2 _ _ H locs ls ⟨o2, c6, w2, y6, hXw, hYw, hP, hD, hS, hal2⟩ (lv_sub hl [2, 3, 4, 5, 6] rfl) (by (first | (apply Int.le_antisymm <;> omega) | omega)) (by (first | (apply Int.le_antisymm <;> omega) | omega))
set_option maxHeartbeats 4000000 in
theorem lc_word {p : Program} {l : Launch} {e : Env} {s : State} {m : MethodId} {below : List Frame} {meth : Method} {c : Code} {Q : State → Prop} {dC : Nat → ClassId} {dI : Nat → Nat → Nat} {sa : Nat → Nat} {A : Nat → Prop} {b L h0 h1 ou : Nat} {xs : Nat → Int32} (hx : p.tables.exec = Jvm.exec) (hb : c.code = code) (hml : c.maxLocals = 8) (hown : s.vm.findClass R_LW = some m.cls) (hts : ∀ w ∈ lw_g, w.before #[Value.ref b] s = true) (hX : va_X b L xs s s.heap) (hbl : b < s.heap.size) (hbA : ¬ A b) (hA : ∀ q, s.heap.size ≤ q → A q) (hSM : sm sa A s s.heap) (hlt : l.stackTraces = false) {i : Int32} {j : Nat} {tl : Int} {kc kn : Nat} {H : Heap} {locs : List Loc} {ls : Array Slot} (hi : i.toInt = 6 * j) (hj : j ≤ 511) (hiL : i.toInt + 6 ≤ L) (hLL : L ≤ 3072) (hl : lv_has ls 8 [(4, .int i), (3, .ref ou), (2, .ref h1), (1, .ref h0), (0, .ref b)]) (hs : LST dC dI sa s A h0 h1 ou tl H locs) (hkc : (kc : Int) + 52 * tl ≤ 300 + 1060 * j) (hkn : (kn : Int) + 540 * tl ≤ 680000 + 10820 * j)
    (jn : ∀ (tl : Int) (kc kn : Nat) (H : Heap) (locs : List Loc) (ls : Array Slot), LST dC dI sa s A h0 h1 ou tl H locs → lv_has ls 8 [(4, .int i), (3, .ref ou), (2, .ref h1), (1, .ref h0), (0, .ref b)] → (kc : Int) + 52 * tl ≤ 300 + 1060 * (j + 1) → (kn : Int) + 540 * tl ≤ 680000 + 10820 * (j + 1) → W p l e room_1 s m #[Value.ref b] below meth c H locs kc kn Q (F0 m 497 ls [])) :
    W p l e room_1 s m #[Value.ref b] below meth c H locs kc kn Q (F0 m 441 ls []) := by
  obtain ⟨ov, cv, wx, wy, hXw, hYw, hP, hD, hS, hal⟩ := hs
  have htl := hXw.tl
  refine lv_aload_n hx hb d_law_441 rfl (lv_at hl 3 rfl) ?_
  refine lv_aload_n hx hb d_law_442 rfl (lv_at hl 4 rfl) ?_
  refine lv_iload hx hb d_law_443 (lv_at hl 0 rfl) ?_
  refine lv_iconst (v := 1) hx hb d_law_445 (by decide) ?_
  have k1 : (1 : Int32).toInt = 1 := by decide
  refine lv_iadd hx hb d_law_446 ?_
  refine lv_topi (fun x1 ex1 => ?_)
  have tx1 : x1.toInt = i.toInt + 1 := by have z := i32_add ex1 (by (first | (apply Int.le_antisymm <;> omega) | omega)) (by (first | (apply Int.le_antisymm <;> omega) | omega)); first | exact z | (first | (apply Int.le_antisymm <;> omega) | omega)
  refine va_sld hx hb hX hbl hbA hS (vp_in_iff.mpr ⟨by (first | (apply Int.le_antisymm <;> omega) | omega), by (first | (apply Int.le_antisymm <;> omega) | omega)⟩) d_law_447 ?_
  refine lv_topi (fun v2 ev2 => ?_)
  refine lv_aload_n hx hb d_law_448 rfl (lv_at hl 1 rfl) ?_
  refine lx_i (wy := wy) (fun hp => uw_runS (As := [.ref h0, .int v2, .ref ou]) (rest := []) ⟨hx, hb, hml, hown, hts⟩ (o_LW_word l hlt dC dI H.size sa h0 ou tl ov wx v2) ⟨uw_of 3 hts (gW kC_LW_word) rfl rfl rfl (hts _ kI_LW) (hts _ kM_LW_103) (by decide +kernel) ⟨Nat.le_of_ble_eq_true rfl, Nat.le_of_ble_eq_true rfl⟩, hts _ kT_LW_word⟩ hp rfl rfl hl.1 rfl (lv_room (Nat.le_of_ble_eq_true rfl)) d_law_449 ⟨by show _ ≤ (601024 : Nat); (first | (apply Int.le_antisymm <;> omega) | omega), by show _ ≤ (7293034 : Nat); (first | (apply Int.le_antisymm <;> omega) | omega)⟩) hXw hP hD hS hA hSM (fun r w2 t2 o2 H locs hw hXw hP hD hS => ?_)
  have htl2 := hXw.tl
  refine lv_istore (lv' := [(5, .int r), (4, .int i), (3, .ref ou), (2, .ref h1), (1, .ref h0), (0, .ref b)]) hx hb d_law_452 hl (by decide) rfl (fun ls hl => ?_)
  refine lv_aload_n hx hb d_law_454 rfl (lv_at hl 3 rfl) ?_
  refine lv_aload_n hx hb d_law_455 rfl (lv_at hl 5 rfl) ?_
  refine lv_iload hx hb d_law_456 (lv_at hl 1 rfl) ?_
  refine lv_iconst (v := 1) hx hb d_law_458 (by decide) ?_
  have k1 : (1 : Int32).toInt = 1 := by decide
  refine lv_iadd hx hb d_law_459 ?_
  refine lv_topi (fun x3 ex3 => ?_)
  have tx3 : x3.toInt = i.toInt + 1 := by have z := i32_add ex3 (by (first | (apply Int.le_antisymm <;> omega) | omega)) (by (first | (apply Int.le_antisymm <;> omega) | omega)); first | exact z | (first | (apply Int.le_antisymm <;> omega) | omega)
  refine va_sld hx hb hX hbl hbA hS (vp_in_iff.mpr ⟨by (first | (apply Int.le_antisymm <;> omega) | omega), by (first | (apply Int.le_antisymm <;> omega) | omega)⟩) d_law_460 ?_
  refine lv_topi (fun v4 ev4 => ?_)
  refine ly_l (wx := w2) (fun hp => va_runV (As := [.int v4]) (rest := []) ⟨hx, hb, hml, hown, hts⟩ (o_MD_word l dC dI H.size sa h1 tl cv wy v4) (cwV 1 hts (gV kM_LW_105 kV_MD_word kS_MD_word kI_MD kC_MD_word) rfl rfl rfl (by decide +kernel) ⟨Nat.le_of_ble_eq_true rfl, Nat.le_of_ble_eq_true rfl⟩) hp rfl rfl hl.1 rfl (lv_room (Nat.le_of_ble_eq_true rfl)) d_law_461 ⟨by show _ ≤ (601024 : Nat); (first | (apply Int.le_antisymm <;> omega) | omega), by show _ ≤ (7293034 : Nat); (first | (apply Int.le_antisymm <;> omega) | omega)⟩) hYw hP hD hS hA hSM (fun r6 y6 z6 c6 H locs hy6 hYw hP hD hS => ?_)
  try dsimp only at hy6
  refine lv_lstore (lv' := [(6, .long r6), (5, .int r), (4, .int i), (3, .ref ou), (2, .ref h1), (1, .ref h0), (0, .ref b)]) hx hb d_law_464 hl (by decide) rfl (fun ls hl => ?_)
  refine lv_goto (tgt := 497) hx hb d_law_466 (by decide) ?_
  try dsimp only at hw
  have ety : z6 = t2 := by (first | (apply Int.le_antisymm <;> omega) | omega)
  rw [ety] at hYw
  have hal2 : alk (tpx w2) (tpy y6) t2.toNat := by rw [hw.2, hy6.2]; exact alk_le hal (by (first | (apply Int.le_antisymm <;> omega) | omega))
  exact jn t2 _ _ H locs ls ⟨o2, c6, w2, y6, hXw, hYw, hP, hD, hS, hal2⟩ (lv_sub hl [2, 3, 4, 5, 6] rfl) (by (first | (apply Int.le_antisymm <;> omega) | omega)) (by (first | (apply Int.le_antisymm <;> omega) | omega))
set_option maxHeartbeats 4000000 in
theorem lc_count {p : Program} {l : Launch} {e : Env} {s : State} {m : MethodId} {below : List Frame} {meth : Method} {c : Code} {Q : State → Prop} {dC : Nat → ClassId} {dI : Nat → Nat → Nat} {sa : Nat → Nat} {A : Nat → Prop} {b L h0 h1 ou : Nat} {xs : Nat → Int32} (hx : p.tables.exec = Jvm.exec) (hb : c.code = code) (hml : c.maxLocals = 8) (hown : s.vm.findClass R_LW = some m.cls) (hts : ∀ w ∈ lw_g, w.before #[Value.ref b] s = true) (hX : va_X b L xs s s.heap) (hbl : b < s.heap.size) (hbA : ¬ A b) (hA : ∀ q, s.heap.size ≤ q → A q) (hSM : sm sa A s s.heap) (hlt : l.stackTraces = false) {i : Int32} {j : Nat} {tl : Int} {kc kn : Nat} {H : Heap} {locs : List Loc} {ls : Array Slot} (hi : i.toInt = 6 * j) (hj : j ≤ 511) (hiL : i.toInt + 6 ≤ L) (hLL : L ≤ 3072) (hl : lv_has ls 8 [(4, .int i), (3, .ref ou), (2, .ref h1), (1, .ref h0), (0, .ref b)]) (hs : LST dC dI sa s A h0 h1 ou tl H locs) (hkc : (kc : Int) + 52 * tl ≤ 300 + 1060 * j) (hkn : (kn : Int) + 540 * tl ≤ 680000 + 10820 * j)
    (jn : ∀ (tl : Int) (kc kn : Nat) (H : Heap) (locs : List Loc) (ls : Array Slot), LST dC dI sa s A h0 h1 ou tl H locs → lv_has ls 8 [(4, .int i), (3, .ref ou), (2, .ref h1), (1, .ref h0), (0, .ref b)] → (kc : Int) + 52 * tl ≤ 300 + 1060 * (j + 1) → (kn : Int) + 540 * tl ≤ 680000 + 10820 * (j + 1) → W p l e room_1 s m #[Value.ref b] below meth c H locs kc kn Q (F0 m 497 ls [])) :
    W p l e room_1 s m #[Value.ref b] below meth c H locs kc kn Q (F0 m 469 ls []) := by
  obtain ⟨ov, cv, wx, wy, hXw, hYw, hP, hD, hS, hal⟩ := hs
  have htl := hXw.tl
  refine lv_aload_n hx hb d_law_469 rfl (lv_at hl 3 rfl) ?_
  refine lv_aload_n hx hb d_law_470 rfl (lv_at hl 4 rfl) ?_
  refine lv_iload hx hb d_law_471 (lv_at hl 0 rfl) ?_
  refine lv_iconst (v := 1) hx hb d_law_473 (by decide) ?_
  have k1 : (1 : Int32).toInt = 1 := by decide
  refine lv_iadd hx hb d_law_474 ?_
  refine lv_topi (fun x1 ex1 => ?_)
  have tx1 : x1.toInt = i.toInt + 1 := by have z := i32_add ex1 (by (first | (apply Int.le_antisymm <;> omega) | omega)) (by (first | (apply Int.le_antisymm <;> omega) | omega)); first | exact z | (first | (apply Int.le_antisymm <;> omega) | omega)
  refine va_sld hx hb hX hbl hbA hS (vp_in_iff.mpr ⟨by (first | (apply Int.le_antisymm <;> omega) | omega), by (first | (apply Int.le_antisymm <;> omega) | omega)⟩) d_law_475 ?_
  refine lv_topi (fun v2 ev2 => ?_)
  refine lv_aload_n hx hb d_law_476 rfl (lv_at hl 1 rfl) ?_
  refine lx_i (wy := wy) (fun hp => uw_runS (As := [.ref h0, .int v2, .ref ou]) (rest := []) ⟨hx, hb, hml, hown, hts⟩ (o_LW_count l hlt dC dI H.size sa h0 ou tl ov wx v2) ⟨uw_of 3 hts (gW kC_LW_count) rfl rfl rfl (hts _ kI_LW) (hts _ kM_LW_106) (by decide +kernel) ⟨Nat.le_of_ble_eq_true rfl, Nat.le_of_ble_eq_true rfl⟩, hts _ kT_LW_count⟩ hp rfl rfl hl.1 rfl (lv_room (Nat.le_of_ble_eq_true rfl)) d_law_477 ⟨by show _ ≤ (601024 : Nat); (first | (apply Int.le_antisymm <;> omega) | omega), by show _ ≤ (7293034 : Nat); (first | (apply Int.le_antisymm <;> omega) | omega)⟩) hXw hP hD hS hA hSM (fun r w2 t2 o2 H locs hw hXw hP hD hS => ?_)
  have htl2 := hXw.tl
  refine lv_istore (lv' := [(5, .int r), (4, .int i), (3, .ref ou), (2, .ref h1), (1, .ref h0), (0, .ref b)]) hx hb d_law_480 hl (by decide) rfl (fun ls hl => ?_)
  refine lv_aload_n hx hb d_law_482 rfl (lv_at hl 3 rfl) ?_
  refine lv_aload_n hx hb d_law_483 rfl (lv_at hl 5 rfl) ?_
  refine lv_iload hx hb d_law_484 (lv_at hl 1 rfl) ?_
  refine lv_iconst (v := 1) hx hb d_law_486 (by decide) ?_
  have k1 : (1 : Int32).toInt = 1 := by decide
  refine lv_iadd hx hb d_law_487 ?_
  refine lv_topi (fun x3 ex3 => ?_)
  have tx3 : x3.toInt = i.toInt + 1 := by have z := i32_add ex3 (by (first | (apply Int.le_antisymm <;> omega) | omega)) (by (first | (apply Int.le_antisymm <;> omega) | omega)); first | exact z | (first | (apply Int.le_antisymm <;> omega) | omega)
  refine va_sld hx hb hX hbl hbA hS (vp_in_iff.mpr ⟨by (first | (apply Int.le_antisymm <;> omega) | omega), by (first | (apply Int.le_antisymm <;> omega) | omega)⟩) d_law_488 ?_
  refine lv_topi (fun v4 ev4 => ?_)
  refine ly_i (wx := w2) (fun hp => va_runV (As := [.int v4]) (rest := []) ⟨hx, hb, hml, hown, hts⟩ (o_MD_count1 l dC dI H.size sa h1 tl cv wy v4) (cwV 1 hts (gV kM_LW_108 kV_MD_count1 kS_MD_count1 kI_MD kC_MD_count1) rfl rfl rfl (by decide +kernel) ⟨Nat.le_of_ble_eq_true rfl, Nat.le_of_ble_eq_true rfl⟩) hp rfl rfl hl.1 rfl (lv_room (Nat.le_of_ble_eq_true rfl)) d_law_489 ⟨by show _ ≤ (601024 : Nat); (first | (apply Int.le_antisymm <;> omega) | omega), by show _ ≤ (7293034 : Nat); (first | (apply Int.le_antisymm <;> omega) | omega)⟩) hYw hP hD hS hA hSM (fun r6 y6 z6 c6 H locs hy6 hYw hP hD hS => ?_)
  try dsimp only at hy6
  refine lv_istore (lv' := [(6, .int r6), (5, .int r), (4, .int i), (3, .ref ou), (2, .ref h1), (1, .ref h0), (0, .ref b)]) hx hb d_law_492 hl (by decide) rfl (fun ls hl => ?_)
  refine lv_goto (tgt := 497) hx hb d_law_494 (by decide) ?_
  try dsimp only at hw
  have ety : z6 = t2 := by (first | (apply Int.le_antisymm <;> omega) | omega)
  rw [ety] at hYw
  have hal2 : alk (tpx w2) (tpy y6) t2.toNat := by rw [hw.2, hy6.2]; exact alk_le hal (by (first | (apply Int.le_antisymm <;> omega) | omega))
  exact jn t2 _ _ H locs ls ⟨o2, c6, w2, y6, hXw, hYw, hP, hD, hS, hal2⟩ (lv_sub hl [2, 3, 4, 5, 6] rfl) (by (first | (apply Int.le_antisymm <;> omega) | omega)) (by (first | (apply Int.le_antisymm <;> omega) | omega))
set_option maxHeartbeats 4000000 in
theorem lc_module {p : Program} {l : Launch} {e : Env} {s : State} {m : MethodId} {below : List Frame} {meth : Method} {c : Code} {Q : State → Prop} {dC : Nat → ClassId} {dI : Nat → Nat → Nat} {sa : Nat → Nat} {A : Nat → Prop} {b L h0 h1 ou : Nat} {xs : Nat → Int32} (hx : p.tables.exec = Jvm.exec) (hb : c.code = code) (hml : c.maxLocals = 8) (hown : s.vm.findClass R_LW = some m.cls) (hts : ∀ w ∈ lw_g, w.before #[Value.ref b] s = true) (hX : va_X b L xs s s.heap) (hbl : b < s.heap.size) (hbA : ¬ A b) (hA : ∀ q, s.heap.size ≤ q → A q) (hSM : sm sa A s s.heap) (hlt : l.stackTraces = false) {i : Int32} {j : Nat} {tl : Int} {kc kn : Nat} {H : Heap} {locs : List Loc} {ls : Array Slot} (hi : i.toInt = 6 * j) (hj : j ≤ 511) (hiL : i.toInt + 6 ≤ L) (hLL : L ≤ 3072) (hl : lv_has ls 8 [(4, .int i), (3, .ref ou), (2, .ref h1), (1, .ref h0), (0, .ref b)]) (hs : LST dC dI sa s A h0 h1 ou tl H locs) (hkc : (kc : Int) + 52 * tl ≤ 300 + 1060 * j) (hkn : (kn : Int) + 540 * tl ≤ 680000 + 10820 * j)
    (jn : ∀ (tl : Int) (kc kn : Nat) (H : Heap) (locs : List Loc) (ls : Array Slot), LST dC dI sa s A h0 h1 ou tl H locs → lv_has ls 8 [(4, .int i), (3, .ref ou), (2, .ref h1), (1, .ref h0), (0, .ref b)] → (kc : Int) + 52 * tl ≤ 300 + 1060 * (j + 1) → (kn : Int) + 540 * tl ≤ 680000 + 10820 * (j + 1) → W p l e room_1 s m #[Value.ref b] below meth c H locs kc kn Q (F0 m 497 ls [])) :
    W p l e room_1 s m #[Value.ref b] below meth c H locs kc kn Q (F0 m 224 ls []) := by
  obtain ⟨ov, cv, wx, wy, hXw, hYw, hP, hD, hS, hal⟩ := hs
  have htl := hXw.tl
  refine lv_aload_n hx hb d_law_224 rfl (lv_at hl 3 rfl) ?_
  refine lv_aload_n hx hb d_law_225 rfl (lv_at hl 1 rfl) ?_
  refine lx_i (wy := wy) (fun hp => uw_runS (As := [.ref h0, .ref ou]) (rest := []) ⟨hx, hb, hml, hown, hts⟩ (o_LW_module l hlt dC dI H.size sa h0 ou tl ov wx ) ⟨uw_of 2 hts (gW kC_LW_module) rfl rfl rfl (hts _ kI_LW) (hts _ kM_LW_75) (by decide +kernel) ⟨Nat.le_of_ble_eq_true rfl, Nat.le_of_ble_eq_true rfl⟩, hts _ kT_LW_module⟩ hp rfl rfl hl.1 rfl (lv_room (Nat.le_of_ble_eq_true rfl)) d_law_226 ⟨by show _ ≤ (601024 : Nat); (first | (apply Int.le_antisymm <;> omega) | omega), by show _ ≤ (7293034 : Nat); (first | (apply Int.le_antisymm <;> omega) | omega)⟩) hXw hP hD hS hA hSM (fun r w2 t2 o2 H locs hw hXw hP hD hS => ?_)
  have htl2 := hXw.tl
  refine lv_istore (lv' := [(5, .int r), (4, .int i), (3, .ref ou), (2, .ref h1), (1, .ref h0), (0, .ref b)]) hx hb d_law_229 hl (by decide) rfl (fun ls hl => ?_)
  refine lv_aload_n hx hb d_law_231 rfl (lv_at hl 3 rfl) ?_
  refine ly_i (wx := w2) (fun hp => uw_runV (As := []) (rest := []) ⟨hx, hb, hml, hown, hts⟩ (o_MD_module l hlt dC dI H.size sa h1 tl cv wy ) ⟨uw_of 0 hts (gW kC_MD_module) rfl rfl rfl (hts _ kI_MD) (hts _ kM_LW_77) (by decide +kernel) ⟨Nat.le_of_ble_eq_true rfl, Nat.le_of_ble_eq_true rfl⟩, hts _ kV_MD_module, hts _ kS_MD_module⟩ hp rfl rfl hl.1 rfl (lv_room (Nat.le_of_ble_eq_true rfl)) d_law_232 ⟨by show _ ≤ (601024 : Nat); (first | (apply Int.le_antisymm <;> omega) | omega), by show _ ≤ (7293034 : Nat); (first | (apply Int.le_antisymm <;> omega) | omega)⟩) hYw hP hD hS hA hSM (fun r2 y2 z2 c2 H locs hy2 hYw hP hD hS => ?_)
  try dsimp only at hy2
  dsimp only at hw
  refine lv_istore (lv' := [(6, .int r2), (5, .int r), (4, .int i), (3, .ref ou), (2, .ref h1), (1, .ref h0), (0, .ref b)]) hx hb d_law_235 hl (by decide) rfl (fun ls hl => ?_)
  refine lv_aload_n hx hb d_law_237 rfl (lv_at hl 4 rfl) ?_
  refine ly_i (wx := w2) (fun hp => va_runV (As := []) (rest := []) ⟨hx, hb, hml, hown, hts⟩ (o_MD_thrown l dC dI H.size sa h1 z2 c2 y2 ) (cwV 0 hts (gV kM_LW_78 kV_MD_thrown kS_MD_thrown kI_MD kC_MD_thrown) rfl rfl rfl (by decide +kernel) ⟨Nat.le_of_ble_eq_true rfl, Nat.le_of_ble_eq_true rfl⟩) hp rfl rfl hl.1 rfl (lv_room (Nat.le_of_ble_eq_true rfl)) d_law_238 ⟨by show _ ≤ (601024 : Nat); (first | (apply Int.le_antisymm <;> omega) | omega), by show _ ≤ (7293034 : Nat); (first | (apply Int.le_antisymm <;> omega) | omega)⟩) hYw hP hD hS hA hSM (fun r4 y4 z4 c4 H locs hy4 hYw hP hD hS => ?_)
  try dsimp only at hy4
  obtain ⟨⟨et3, ez3⟩, -⟩ := hy4
  have hz := zOK_cg hal
  have hc : (r.toInt = 0 ∧ c2.toInt = 0 ∧ o2.toInt = r2.toInt) ∨ (r.toInt = 1 ∧ c2.toInt = 1) := by
    rcases hw.2 with ⟨a1, a2, a3⟩ | ⟨a1, a2⟩
    · rcases hy2.2 with ⟨b1, b2⟩ | ⟨b1, b2, b3⟩
      · rw [hz, b2] at a3
        cases a3
      · rw [hz, b3] at a3
        have a4 := Option.some.inj a3
        exact Or.inl ⟨a1, b1, by (first | (apply Int.le_antisymm <;> omega) | omega)⟩
    · rcases hy2.2 with ⟨b1, b2⟩ | ⟨b1, b2, b3⟩
      · exact Or.inr ⟨a1, b1⟩
      · rw [hz, b3] at a2
        cases a2
  have ehk : r4 = r := by
    rw [et3]
    apply Int32.toInt_inj.mp
    (first | (apply Int.le_antisymm <;> omega) | omega)
  have etz : z4 = t2 := by
    have h1 := hy2.1
    have h2 := hw.1
    (first | (apply Int.le_antisymm <;> omega) | omega)
  refine lv_iload hx hb d_law_241 (lv_at hl 1 rfl) ?_
  refine lv_icmp_eq (tgt := 248) hx hb d_law_243 (by decide) (fun c211 => ?_) (fun c211 => absurd ehk c211)
  refine lv_iload hx hb d_law_248 (lv_at hl 1 rfl) ?_
  refine lv_if_ne (tgt := 265) hx hb d_law_250 (by decide) (fun c218 => ?_) (fun c218 => ?_)
  · skip
    refine lv_goto (tgt := 497) hx hb d_law_265 (by decide) ?_
    try dsimp only at hw
    have ety : z4 = t2 := by exact etz
    rw [ety] at hYw
    have hal2 : alk (tpx w2) (tpy y4) t2.toNat := fun a ha => absurd ha (by (first | (apply Int.le_antisymm <;> omega) | omega))
    exact jn t2 _ _ H locs ls ⟨o2, c4, w2, y4, hXw, hYw, hP, hD, hS, hal2⟩ (lv_sub hl [2, 3, 4, 5, 6] rfl) (by (first | (apply Int.le_antisymm <;> omega) | omega)) (by (first | (apply Int.le_antisymm <;> omega) | omega))
  · skip
    refine lv_aload_n hx hb d_law_253 rfl (lv_at hl 3 rfl) ?_
    refine lv_iconst (v := 0) hx hb d_law_254 (by decide) ?_
    have k0 : (0 : Int32).toInt = 0 := by decide
    obtain ⟨cou, gou, hgo, ego, hKo, hlo⟩ := hXw.out
    have hK2 : va_K (dC, dI) cls2 [(cou, .long)] s := ⟨hYw.kk.1, hKo.2⟩
    have hgo2 : (w2 ++ y4)[117]? = some (ou, .inl (cou, 1, .inr (.inl gou))) := by rw [List.getElem?_append_left (by rw [hlo]; decide)]; exact hgo
    refine va_lald hx hb hK2 hP 117 0 hgo2 rfl (vp_in_iff.mpr ⟨by decide, by decide⟩) d_law_255 ?_
    refine lv_topl (fun o9 eo9 => ?_)
    have eo8 : o9 = o2 := eo9.trans ego
    refine lv_iload hx hb d_law_256 (lv_at hl 0 rfl) ?_
    refine lv_i2l hx hb d_law_258 rfl ?_
    refine lv_topl (fun b9 eb9 => ?_)
    have tb9 := i2l_t eb9
    refine W.lcmp hx hb d_law_259 ?_
    refine lv_topi (fun q9 eq9 => ?_)
    have tq9 := lgc eq9
    have z9 : q9 = 0 := by
      apply Int32.toInt_inj.mp
      rcases hc with ⟨a1, -, a3⟩ | ⟨a1, -⟩
      · exact tq9.2.1.mpr (by rw [tb9, eo8]; (first | (apply Int.le_antisymm <;> omega) | omega))
      · exact absurd (show r = 0 from by first | exact c218 | exact Classical.not_not.mp c218) (fun z => by rw [z] at a1; exact absurd a1 (by decide))
    refine lv_if_eq (tgt := 265) hx hb d_law_260 (by decide) (fun c228 => ?_) (fun c228 => absurd z9 c228)
    refine lv_goto (tgt := 497) hx hb d_law_265 (by decide) ?_
    try dsimp only at hw
    have ety : z4 = t2 := by exact etz
    rw [ety] at hYw
    have hal2 : alk (tpx w2) (tpy y4) t2.toNat := fun a ha => absurd ha (by (first | (apply Int.le_antisymm <;> omega) | omega))
    exact jn t2 _ _ H locs ls ⟨o2, c4, w2, y4, hXw, hYw, hP, hD, hS, hal2⟩ (lv_sub hl [2, 3, 4, 5, 6] rfl) (by (first | (apply Int.le_antisymm <;> omega) | omega)) (by (first | (apply Int.le_antisymm <;> omega) | omega))
end q_n56
section q_n57
/-! the law: its loop -/
/-! THE CLAIM OUT OF ONE WALK OF THE LAW'S BODY. Your part is whole_start (and what it stands on); all else here is the same for every law, but numbers. -/
def R_law : String := "WaferForgeLaw"
def lw_P (b : Addr) (xs : List Int32) (args : Array Value) (s : State) : Prop := args = #[.ref b] ∧ s.IntsAt b xs ∧ xs.length ≤ 3072 ∧ (Jvm.Cond.and given_1 narrow_1).before args s = true
def lw_Q (_ : Array Value) (s : State) (o : Outcome) (t : State) : Prop := o = .returned (some (.int 1)) ∧ Framed s o t [] 601024 7293034
def lw_Z (below : List Frame) (a : Array Value) (s : State) : State → Prop := fun t => ∃ o, t.status = .running ∧ Ended t below o ∧ lw_Q a s o t
/-- the law's own end, with 1 on the stack, nothing written that was there before, its room as the claim has it -/
theorem lw_ret {p : Program} {l : Launch} {e : Env} {s : State} {m : MethodId} {below : List Frame} {meth : Method} {c : Code} {b : Nat} (hx : p.tables.exec = Jvm.exec) (hb : c.code = code) (hr : meth.sig.returnType = ret) (hlocks : meth.locks = false) {pc : Nat} {H : Heap} {ls : Array Slot} (hdg : decode code pc = .ok (.ireturn, 1)) : W p l e room_1 s m #[Value.ref b] below meth c H [] 601024 7293034 (lw_Z below #[Value.ref b] s) (F0 m pc ls [.int 1]) := by
  intro T hT X
  obtain ⟨fs, hret, hrun, hended, hW, hframe⟩ := X.leave (v := some (.int 1)) (hlocks := hlocks) (fun h => by rw [hr] at h; cases h)
  have hmeth' : T.vm.method? m = some meth := X.method'
  refine ⟨T.setFrames fs, ?_, .returned (some (.int 1)), hrun, hended, rfl, ⟨_, rfl⟩, hW, hframe⟩
  jvm_step X.here [X.here.top, hx, hb, hdg, hmeth', hr, ret, narrow_b1]
  (try refine ⟨rfl, ?_⟩); (try refine ⟨rfl, ?_⟩)
  first | (intro acts; rw [hret _ acts rfl rfl rfl]) | rw [hret _ _ rfl rfl rfl]
  exact Steps.refl _
/-- what holds at the law's entry: the machine, the code, the tables' words (any of lw_tbl by 'hts w (by decide +kernel)'), the script of L ints xs at the cell b, what the Statement gives of the start (any of its parts by flat_of_before) -/
def lw_At (p : Program) (s : State) (m : MethodId) (meth : Method) (c : Code) (b L : Nat) (xs : Nat → Int32) : Prop :=
  p.tables.exec = Jvm.exec ∧ c.code = code ∧ meth.sig.returnType = ret ∧ c.maxLocals = 8 ∧ s.vm.findClass R_law = some m.cls ∧ (∀ w ∈ lw_tbl, w.before #[Value.ref b] s = true) ∧ va_X b L xs s s.heap ∧ b < s.heap.size ∧ meth.locks = false ∧ (Jvm.Cond.and given_1 narrow_1).before #[Value.ref b] s = true
set_option maxHeartbeats 4000000 in
theorem law_loop {p : Program} {l : Launch} {e : Env} {s : State} {m : MethodId} {below : List Frame} {meth : Method} {c : Code} {Q : State → Prop} {dC : Nat → ClassId} {dI : Nat → Nat → Nat} {sa : Nat → Nat} {A : Nat → Prop} {b L h0 h1 ou : Nat} {xs : Nat → Int32} (hx : p.tables.exec = Jvm.exec) (hb : c.code = code) (hml : c.maxLocals = 8) (hown : s.vm.findClass R_LW = some m.cls) (hts : ∀ w ∈ lw_g, w.before #[Value.ref b] s = true) (hX : va_X b L xs s s.heap) (hbl : b < s.heap.size) (hbA : ¬ A b) (hA : ∀ q, s.heap.size ≤ q → A q) (hSM : sm sa A s s.heap) (hlt : l.stackTraces = false) (hr : meth.sig.returnType = ret) (hlocks : meth.locks = false) (hAe : ∀ q, A q → s.heap.size ≤ q) (hLL : L ≤ 3072) :
    ∀ (n j : Nat) (i : Int32) (tl : Int) (kc kn : Nat) (H : Heap) (locs : List Loc) (ls : Array Slot), i.toInt = 6 * j → j ≤ 512 → 512 < n + j → LST dC dI sa s A h0 h1 ou tl H locs → lv_has ls 8 [(4, .int i), (3, .ref ou), (2, .ref h1), (1, .ref h0), (0, .ref b)] → (kc : Int) + 52 * tl ≤ 300 + 1060 * j → (kn : Int) + 540 * tl ≤ 680000 + 10820 * j → W p l e room_1 s m #[Value.ref b] below meth c H locs kc kn (lw_Z below #[Value.ref b] s) (F0 m 23 ls []) := by
  intro n
  induction n with
  | zero =>
    intro j i tl kc kn H locs ls hi hj hn
    exact absurd hn (by (first | (apply Int.le_antisymm <;> omega) | omega))
  | succ n ih =>
    intro j i tl kc kn H locs ls hi hj hn hs hl hkc hkn
    have hS : va_S A s.heap H locs := by obtain ⟨_, _, _, _, _, _, _, _, z, _⟩ := hs; exact z
    have htl : 0 ≤ tl ∧ tl ≤ 2000 := by obtain ⟨_, _, _, _, z, _⟩ := hs; exact z.tl
    refine lv_iload hx hb d_law_23 (lv_at hl 0 rfl) ?_
    refine lv_aload_n hx hb d_law_25 rfl (lv_at hl 4 rfl) ?_
    refine va_slen hx hb hX hbl hbA hS d_law_26 ?_
    refine lv_topi (fun x1 ex1 => ?_)
    have tx1 : x1.toInt = (L : Int) := by rw [ex1]; exact nI_toInt (by (first | (apply Int.le_antisymm <;> omega) | omega))
    refine lv_bipush (v := 6) hx hb d_law_27 (by decide) ?_
    have k6 : (6 : Int32).toInt = 6 := by decide
    refine lv_isub hx hb d_law_29 ?_
    refine lv_topi (fun x2 ex2 => ?_)
    have tx2 : x2.toInt = x1.toInt - 6 := by have z := i32_sub ex2 (by (first | (apply Int.le_antisymm <;> omega) | omega)) (by (first | (apply Int.le_antisymm <;> omega) | omega)); first | exact z | (first | (apply Int.le_antisymm <;> omega) | omega)
    refine lv_icmp_gt (tgt := 503) hx hb d_law_30 (by decide) (fun c30 => ?_) (fun c30 => ?_)
    · refine lv_iconst (v := 1) hx hb d_law_503 (by decide) ?_
      refine va_forget (fun q hq => hAe _ (hS.2.2 q hq)) ?_
      refine W.widen (k := 601024) (n := 7293034) (by (first | (apply Int.le_antisymm <;> omega) | omega)) (by (first | (apply Int.le_antisymm <;> omega) | omega)) ?_
      exact lw_ret hx hb hr hlocks d_law_504
    · have q30 := nltI c30
      have hiL : i.toInt + 6 ≤ L := by (first | (apply Int.le_antisymm <;> omega) | omega)
      have hj5 : j ≤ 511 := by (first | (apply Int.le_antisymm <;> omega) | omega)
      have jn : ∀ (tl : Int) (kc kn : Nat) (H : Heap) (locs : List Loc) (ls : Array Slot), LST dC dI sa s A h0 h1 ou tl H locs → lv_has ls 8 [(4, .int i), (3, .ref ou), (2, .ref h1), (1, .ref h0), (0, .ref b)] → (kc : Int) + 52 * tl ≤ 300 + 1060 * (j + 1) → (kn : Int) + 540 * tl ≤ 680000 + 10820 * (j + 1) → W p l e room_1 s m #[Value.ref b] below meth c H locs kc kn (lw_Z below #[Value.ref b] s) (F0 m 497 ls []) := by
        intro tl kc kn H locs ls hs hl hkc hkn
        obtain ⟨i2, ei2⟩ : ∃ z : Int32, z = i + 6 := ⟨_, rfl⟩
        have ti2 : i2.toInt = i.toInt + 6 := by have z := i32_add ei2 (by (first | (apply Int.le_antisymm <;> omega) | omega)) (by (first | (apply Int.le_antisymm <;> omega) | omega)); first | exact z | (first | (apply Int.le_antisymm <;> omega) | omega)
        refine lv_iinc (v := i2) (lv' := [(4, .int i2), (3, .ref ou), (2, .ref h1), (1, .ref h0), (0, .ref b)]) hx hb d_law_497 hl (k := 0) rfl (by rw [ei2]; rfl) (by decide) rfl (fun ls hl => ?_)
        refine lv_goto (tgt := 23) hx hb d_law_500 (by decide) ?_
        exact ih (j + 1) i2 tl kc kn H locs ls (by push_cast; (first | (apply Int.le_antisymm <;> omega) | omega)) (by (first | (apply Int.le_antisymm <;> omega) | omega)) (by (first | (apply Int.le_antisymm <;> omega) | omega)) hs hl (by push_cast; exact hkc) (by push_cast; exact hkn)
      refine lv_aload_n hx hb d_law_33 rfl (lv_at hl 4 rfl) ?_
      refine lv_iload hx hb d_law_34 (lv_at hl 0 rfl) ?_
      refine va_sld hx hb hX hbl hbA hS (vp_in_iff.mpr ⟨by (first | (apply Int.le_antisymm <;> omega) | omega), by (first | (apply Int.le_antisymm <;> omega) | omega)⟩) d_law_36 ?_
      refine lv_topi (fun v3 ev3 => ?_)
      refine lv_bipush (v := 15) hx hb d_law_37 (by decide) ?_
      refine lv_iand hx hb d_law_39 ?_
      refine lv_topi (fun v4 ev4 => ?_)
      by_cases g0 : v4.toInt = 0
      · have ho : tab_off 457 0 11 #[64, 140, 168, 184, 228, 244, 257, 317, 345, 373, 401, 429] v4.toInt = 64 := by rw [g0]; rfl
        refine lv_tab (tgt := 104) hx hb d_law_40 (by decide) ho (by decide) ?_
        exact lc_feed hx hb hml hown hts hX hbl hbA hA hSM hlt hi hj5 hiL hLL hl hs hkc hkn jn
      · skip
        by_cases g1 : v4.toInt = 1
        · have ho : tab_off 457 0 11 #[64, 140, 168, 184, 228, 244, 257, 317, 345, 373, 401, 429] v4.toInt = 140 := by rw [g1]; rfl
          refine lv_tab (tgt := 180) hx hb d_law_40 (by decide) ho (by decide) ?_
          exact lc_end hx hb hml hown hts hX hbl hbA hA hSM hlt hi hj5 hiL hLL hl hs hkc hkn jn
        · skip
          by_cases g2 : v4.toInt = 2
          · have ho : tab_off 457 0 11 #[64, 140, 168, 184, 228, 244, 257, 317, 345, 373, 401, 429] v4.toInt = 168 := by rw [g2]; rfl
            refine lv_tab (tgt := 208) hx hb d_law_40 (by decide) ho (by decide) ?_
            exact lc_compile hx hb hml hown hts hX hbl hbA hA hSM hlt hi hj5 hiL hLL hl hs hkc hkn jn
          · skip
            by_cases g3 : v4.toInt = 3
            · have ho : tab_off 457 0 11 #[64, 140, 168, 184, 228, 244, 257, 317, 345, 373, 401, 429] v4.toInt = 184 := by rw [g3]; rfl
              refine lv_tab (tgt := 224) hx hb d_law_40 (by decide) ho (by decide) ?_
              exact lc_module hx hb hml hown hts hX hbl hbA hA hSM hlt hi hj5 hiL hLL hl hs hkc hkn jn
            · skip
              by_cases g4 : v4.toInt = 4
              · have ho : tab_off 457 0 11 #[64, 140, 168, 184, 228, 244, 257, 317, 345, 373, 401, 429] v4.toInt = 228 := by rw [g4]; rfl
                refine lv_tab (tgt := 268) hx hb d_law_40 (by decide) ho (by decide) ?_
                exact lc_emit hx hb hml hown hts hX hbl hbA hA hSM hlt hi hj5 hiL hLL hl hs hkc hkn jn
              · skip
                by_cases g5 : v4.toInt = 5
                · have ho : tab_off 457 0 11 #[64, 140, 168, 184, 228, 244, 257, 317, 345, 373, 401, 429] v4.toInt = 244 := by rw [g5]; rfl
                  refine lv_tab (tgt := 284) hx hb d_law_40 (by decide) ho (by decide) ?_
                  exact lc_find hx hb hml hown hts hX hbl hbA hA hSM hlt hi hj5 hiL hLL hl hs hkc hkn jn
                · skip
                  by_cases g6 : v4.toInt = 6
                  · have ho : tab_off 457 0 11 #[64, 140, 168, 184, 228, 244, 257, 317, 345, 373, 401, 429] v4.toInt = 257 := by rw [g6]; rfl
                    refine lv_tab (tgt := 297) hx hb d_law_40 (by decide) ho (by decide) ?_
                    exact lc_argument hx hb hml hown hts hX hbl hbA hA hSM hlt hi hj5 hiL hLL hl hs hkc hkn jn
                  · skip
                    by_cases g7 : v4.toInt = 7
                    · have ho : tab_off 457 0 11 #[64, 140, 168, 184, 228, 244, 257, 317, 345, 373, 401, 429] v4.toInt = 317 := by rw [g7]; rfl
                      refine lv_tab (tgt := 357) hx hb d_law_40 (by decide) ho (by decide) ?_
                      exact lc_call hx hb hml hown hts hX hbl hbA hA hSM hlt hi hj5 hiL hLL hl hs hkc hkn jn
                    · skip
                      by_cases g8 : v4.toInt = 8
                      · have ho : tab_off 457 0 11 #[64, 140, 168, 184, 228, 244, 257, 317, 345, 373, 401, 429] v4.toInt = 345 := by rw [g8]; rfl
                        refine lv_tab (tgt := 385) hx hb d_law_40 (by decide) ho (by decide) ?_
                        exact lc_global hx hb hml hown hts hX hbl hbA hA hSM hlt hi hj5 hiL hLL hl hs hkc hkn jn
                      · skip
                        by_cases g9 : v4.toInt = 9
                        · have ho : tab_off 457 0 11 #[64, 140, 168, 184, 228, 244, 257, 317, 345, 373, 401, 429] v4.toInt = 373 := by rw [g9]; rfl
                          refine lv_tab (tgt := 413) hx hb d_law_40 (by decide) ho (by decide) ?_
                          exact lc_memory hx hb hml hown hts hX hbl hbA hA hSM hlt hi hj5 hiL hLL hl hs hkc hkn jn
                        · skip
                          by_cases g10 : v4.toInt = 10
                          · have ho : tab_off 457 0 11 #[64, 140, 168, 184, 228, 244, 257, 317, 345, 373, 401, 429] v4.toInt = 401 := by rw [g10]; rfl
                            refine lv_tab (tgt := 441) hx hb d_law_40 (by decide) ho (by decide) ?_
                            exact lc_word hx hb hml hown hts hX hbl hbA hA hSM hlt hi hj5 hiL hLL hl hs hkc hkn jn
                          · skip
                            by_cases g11 : v4.toInt = 11
                            · have ho : tab_off 457 0 11 #[64, 140, 168, 184, 228, 244, 257, 317, 345, 373, 401, 429] v4.toInt = 429 := by rw [g11]; rfl
                              refine lv_tab (tgt := 469) hx hb d_law_40 (by decide) ho (by decide) ?_
                              exact lc_count hx hb hml hown hts hX hbl hbA hA hSM hlt hi hj5 hiL hLL hl hs hkc hkn jn
                            · skip
                              have ho : tab_off 457 0 11 #[64, 140, 168, 184, 228, 244, 257, 317, 345, 373, 401, 429] v4.toInt = 457 := by
                                unfold tab_off
                                split
                                · rfl
                                · exfalso; (first | (apply Int.le_antisymm <;> omega) | omega)
                              refine lv_tab (tgt := 497) hx hb d_law_40 (by decide) ho (by decide) ?_
                              exact jn tl kc kn H locs ls hs hl (by (first | (apply Int.le_antisymm <;> omega) | omega)) (by (first | (apply Int.le_antisymm <;> omega) | omega))
end q_n57
