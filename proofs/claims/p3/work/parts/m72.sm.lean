/-! the static world with the texts of the reference -/
def litB : List (List Int32) := ([32, 124, 124, 32] :: [32, 38, 38, 32] :: [32, 61, 61, 32, 33, 61, 32, 60, 32, 62, 32, 60, 61, 32, 62, 61, 32] :: [32, 38, 32, 124, 32, 94, 32] :: [32, 60, 60, 32, 62, 62, 32, 62, 62, 62, 32] :: [32, 43, 32, 45, 32] :: [32, 42, 32, 47, 32, 37, 32] :: (32 :: 102 :: 110 :: 32 :: 103 :: 108 :: 111 :: 98 :: 97 :: 108 :: 32 :: 118 :: 97 :: 114 :: 32 :: 105 :: 102 :: 32 :: 101 :: 108 :: 115 :: 101 :: 32 :: 119 :: 104 :: 105 :: 108 :: 101 :: 32 :: 98 :: 114 :: 101 :: 97 :: 107 :: 32 :: 99 :: 111 :: 110 :: 116 :: 105 :: 110 :: 117 :: 101 :: 32 :: 114 :: 101 :: 116 :: 117 :: 114 :: 110 :: 32 :: 105 :: 51 :: 50 :: 32 :: 105 :: 54 :: 52 :: 32 :: 109 :: 101 :: 109 :: 111 :: 114 :: 121 :: 32 :: 108 :: 111 :: 97 :: 100 :: 56 :: 32 :: 108 :: 111 :: 97 :: 100 :: 51 :: 50 :: 32 :: 108 :: 111 :: 97 :: 100 :: 54 :: 52 :: 32 :: 115 :: 116 :: 111 :: 114 :: 101 :: 56 :: [ 32, 115, 116, 111, 114, 101, 51, 50, 32, 115, 116, 111, 114, 101, 54, 52, 32, 115, 105, 122, 101, 32, 103, 114, 111, 119, 32, 116, 114, 97, 112, 32]) :: [40, 41, 123, 125, 58, 61, 59, 44, 60, 62, 38, 124, 94, 43, 45, 42, 47, 37, 33, 126] :: [103, 108, 111, 98, 97, 108] :: [58] :: [105, 51, 50] :: [105, 54, 52] :: [61] :: [45] :: [59] :: [102, 110] :: [40] :: [41] :: [44] :: [123] :: [ [125], [105, 102], [33], [126], (32 :: 108 :: 111 :: 97 :: 100 :: 56 :: 32 :: 108 :: 111 :: 97 :: 100 :: 51 :: 50 :: 32 :: 108 :: 111 :: 97 :: 100 :: 54 :: 52 :: 32 :: 115 :: 116 :: 111 :: 114 :: 101 :: 56 :: [ 32, 115, 116, 111, 114, 101, 51, 50, 32, 115, 116, 111, 114, 101, 54, 52, 32, 115, 105, 122, 101, 32, 103, 114, 111, 119, 32, 116, 114, 97, 112, 32]), [101, 108, 115, 101], [118, 97, 114], [119, 104, 105, 108, 101], [98, 114, 101, 97, 107], [99, 111, 110, 116, 105, 110, 117, 101], [114, 101, 116, 117, 114, 110], [115, 116, 111, 114, 101], [108, 111, 97, 100], [103, 114, 111, 119], [115, 116, 111, 114, 101, 54, 52], [116, 114, 97, 112], [108, 111, 97, 100, 54, 52], [124, 124], [38, 38], [61, 61], [33, 61], [60], [62], [60, 61], [62, 61], [109, 101, 109, 111, 114, 121], [108, 111, 97, 100, 56], [108, 111, 97, 100, 51, 50], [115, 116, 111, 114, 101, 56], [115, 116, 111, 114, 101, 51, 50], [115, 105, 122, 101], (32 :: 61 :: 61 :: 32 :: 33 :: 61 :: 32 :: 60 :: 32 :: 62 :: 32 :: [ 60, 61, 32, 62, 61, 32, 43, 32, 45, 32, 42, 32, 47, 32, 37, 32, 38, 32, 124, 32, 94, 32, 60, 60, 32, 62, 62, 32, 62, 62, 62, 32])])
def litR : List (Nat × String × Nat) := ((815, " || ", 0) :: (817, " && ", 1) :: (819, " == != < > <= >= ", 2) :: (821, " & | ^ ", 3) :: (823, " << >> >>> ", 4) :: (825, " + - ", 5) :: (827, " * / % ", 6) :: (61, " fn global var if else while break continue return i32 i64 memory load8 load32 load64 store8 store32 store64 size grow trap ", 7) :: (96, "(){}:=;,<>&|^+-*/%!~", 8) :: (146, "global", 9) :: (173, ":", 10) :: (133, "i32", 11) :: (135, "i64", 12) :: (181, "=", 13) :: (183, "-", 14) :: (189, ";", 15) :: (150, "fn", 16) :: (204, "(", 17) :: (206, ")", 18) :: (220, ",", 19) :: (233, "{", 20) :: [ (242, "}", 21), (251, "if", 22), (291, "!", 23), (293, "~", 24), (298, " load8 load32 load64 store8 store32 store64 size grow trap ", 25), (276, "else", 26), (256, "var", 27), (264, "while", 28), (266, "break", 29), (268, "continue", 30), (270, "return", 31), (373, "store", 32), (378, "load", 33), (380, "grow", 34), (382, "store64", 35), (384, "trap", 36), (386, "load64", 37), (354, "||", 38), (356, "&&", 39), (361, "==", 40), (363, "!=", 41), (365, "<", 42), (367, ">", 43), (369, "<=", 44), (371, ">=", 45), (435, "memory", 46), (458, "load8", 47), (460, "load32", 48), (462, "store8", 49), (464, "store32", 50), (469, "size", 51), (475, " == != < > <= >= + - * / % & | ^ << >> >>> ", 52)])
def sm_sel : List MethodName := [⟨"java/lang/AbstractStringBuilder", "ensureCapacityInternal", "(I)V"⟩, ⟨"java/lang/AbstractStringBuilder", "newCapacity", "(I)I"⟩, ⟨"java/lang/AbstractStringBuilder", "putStringAt", "(ILjava/lang/String;)V"⟩, ⟨"java/lang/AbstractStringBuilder", "inflateIfNeededFor", "(Ljava/lang/String;)V"⟩]
def sm (sa : Nat → Nat) (A : Nat → Prop) (U : State) (H : Heap) : Prop :=
  sw sa A U H ∧ (∀ k : Nat, k < 53 → sw_str (sa (400 + k)) (sa (500 + k)) (litB.getD k []) A U H) ∧ (∀ q ∈ litR, vk_R "WaferForgeModel" q.1 q.2.1 (sa (400 + q.2.2)) U) ∧ va_Nw (.castable "[B" "java/lang/Cloneable") U ∧ va_AO "WaferForgeModel$N" U ∧ va_AO "java/lang/String" U ∧ ∀ y ∈ sm_sel, (Cond.selects "java/lang/StringBuilder" y y).before #[] U = true
section SM
variable {sa : Nat → Nat} {A : Nat → Prop} {u U : State} {H : Heap}
theorem sm.ls (h : sm sa A U H) (k : Nat) (hk : k < 53) : sw_str (sa (400 + k)) (sa (500 + k)) (litB.getD k []) A U H := h.2.1 k hk
theorem sm.lr (h : sm sa A U H) (j : Nat) {i k : Nat} {t : String} (hj : litR[j]? = some (i, t, k)) : vk_R "WaferForgeModel" i t (sa (400 + k)) U := h.2.2.1 _ (List.mem_of_getElem? hj)
theorem sm.cl (h : sm sa A U H) : va_Nw (.castable "[B" "java/lang/Cloneable") U := h.2.2.2.1
theorem sm.aoN (h : sm sa A U H) : va_AO "WaferForgeModel$N" U := h.2.2.2.2.1
theorem sm.aoS (h : sm sa A U H) : va_AO "java/lang/String" U := h.2.2.2.2.2.1
theorem sm.sel (h : sm sa A U H) (j : Nat) {args : Array Value} {y : MethodName} (hj : sm_sel[j]? = some y) : (Cond.selects "java/lang/StringBuilder" y y).before args U = true := word_at (s := U) (U := U) (State.WarmedH.refl U) (Or.inl rfl) (h.2.2.2.2.2.2 _ (List.mem_of_getElem? hj))
theorem sm.nest (h : sm sa A U H) : sw_nest U := h.1.2.2.2.2.2.2.2.2.1
theorem sm.warm (hW : u.WarmedH U.vm) (h : sm sa A u H) : sm sa A U H := ⟨h.1.warm hW, fun k hk => (h.2.1 k hk).moved hW.alike, fun q hq => vk_R.warm hW (h.2.2.1 q hq), va_Nw.warmC hW h.2.2.2.1, va_AO.moved hW.alike h.2.2.2.2.1, va_AO.moved hW.alike h.2.2.2.2.2.1, fun y hy => word_at hW (Or.inl rfl) (h.2.2.2.2.2.2 y hy)⟩
theorem sm.same (hv : u.vm = U.vm) (h : sm sa A u H) : sm sa A U H := ⟨h.1.same hv, fun k hk => (h.2.1 k hk).moved (by rw [hv]; exact Vm.Alike.refl _), fun q hq => vk_R.same hv.symm (h.2.2.1 q hq), va_Nw.same rfl hv h.2.2.2.1, va_AO.moved (by rw [hv]; exact Vm.Alike.refl _) h.2.2.2.2.1, va_AO.moved (by rw [hv]; exact Vm.Alike.refl _) h.2.2.2.2.2.1, fun y hy => va_tabs rfl hv (h.2.2.2.2.2.2 y hy)⟩
theorem sm.kept {H1 : Heap} (h : sm sa A U H) (hq : ∀ a : Nat, a < H.size → ¬ A a → H1[a]? = H[a]?) : sm sa A U H1 := ⟨h.1.kept hq, fun k hk => (h.2.1 k hk).kept hq, h.2.2⟩
theorem sm.narrow {B : Nat → Prop} (h : sm sa A U H) (hAB : ∀ q, B q → A q) : sm sa B U H := ⟨h.1.narrow hAB, fun k hk => (h.2.1 k hk).narrow hAB, h.2.2⟩
theorem sm.call {A1 : Nat → Prop} {s : State} {locs : List Loc} (h : sm sa A s s.heap) (hS : va_S A s.heap H locs) (hA : ∀ q, A1 q → A q) (hW : s.WarmedH U.vm) (hU : U.heap = H) : sm sa A1 U U.heap := by
  rw [hU]
  exact ((h.kept hS.2.1).narrow hA).warm hW
theorem sm_f {k : Nat} {a b n d h : String} {i : Nat} {s : State} {args : Array Value} (hs : sm sa A s H) (hq : sw_nestF[k]? = some (a, i, b, n, d, h)) : (Cond.fieldLinkNest a i b n d h).before args s = true := sw_nf hs.1 hq
theorem sm_nm {k : Nat} {a h : String} {y : MethodName} {i : Nat} {s : State} (hs : sm sa A s H) (hq : sw_nestM[k]? = some (a, i, y, h)) : va_Nw (.methodLinkNest a i y h) s := sw_nm hs.1 hq
end SM
theorem vp_nil {D : va_G} {cl : List vw_C} {H : Heap} : va_P D cl [] H := fun k q h => by simp at h
theorem vd_part0 {A : Nat → Prop} : va_D A [] := ⟨fun i j p q h => by simp at h, fun k q h => by simp at h⟩
theorem va_D.part0 {A : Nat → Prop} {ws : va_W} (_h : va_D A ws) : va_D A [] := vd_part0
theorem k2_of {D : va_G} {tys : List (ClassId × FieldType)} {s : State} (h : va_K D cls2 tys s) : va_K D cls tys s := ⟨fun c q hq => h.1 c q (by
  have e : cls2 = cls ++ [(R_MR, F_MR, 8), (R_JS, F_JS, 4), (R_JB, F_JB, 4)] := rfl
  rw [e, List.getElem?_append_left (List.getElem?_eq_some_iff.mp hq).1]
  exact hq), h.2⟩
theorem nneg9 {x : Int32} (h : 0 ≤ x.toInt) : ¬ x < 0 := by
  rw [Int32.lt_iff_toInt_lt]
  have : (0 : Int32).toInt = 0 := by decide
  omega
theorem max32 {a b x : Int32} (e : x = if a < b then b else a) : x.toInt = max a.toInt b.toInt := by
  rw [e]
  split
  · rename_i h
    rw [Int32.lt_iff_toInt_lt] at h
    omega
  · rename_i h
    rw [Int32.lt_iff_toInt_lt] at h
    omega
theorem min32 {a b x : Int32} (e : x = if b < a then b else a) : x.toInt = min a.toInt b.toInt := by
  rw [e]
  split
  · rename_i h
    rw [Int32.lt_iff_toInt_lt] at h
    omega
  · rename_i h
    rw [Int32.lt_iff_toInt_lt] at h
    omega
theorem zero_el : ∀ j : Nat, -128 ≤ (((fun _ => 0) : Nat → Int32) j).toInt ∧ (((fun _ => 0) : Nat → Int32) j).toInt ≤ 127 := fun _ => by show -128 ≤ (0 : Int32).toInt ∧ (0 : Int32).toInt ≤ 127; decide
theorem i8_el (x : Int32) : -128 ≤ x.toInt8.toInt32.toInt ∧ x.toInt8.toInt32.toInt ≤ 127 := by
  rw [Int8.toInt_toInt32]
  exact ⟨Int8.le_toInt _, by have := Int8.toInt_lt x.toInt8; omega⟩
theorem fits_b {x : Int32} (h : -128 ≤ x.toInt ∧ x.toInt ≤ 127) : fits .byte (.int x) = true := by
  show (decide ((-128 : Int32) ≤ x) && decide (x ≤ (127 : Int32))) = true
  have a1 : (-128 : Int32).toInt = -128 := by decide
  have a2 : (127 : Int32).toInt = 127 := by decide
  simp only [Bool.and_eq_true, decide_eq_true_eq, Int32.le_iff_toInt_le]
  omega
theorem cpy_el {f g : Nat → Int32} {a b n : Nat} (hf : ∀ j : Nat, -128 ≤ (f j).toInt ∧ (f j).toInt ≤ 127) (hg : ∀ j : Nat, -128 ≤ (g j).toInt ∧ (g j).toInt ≤ 127) : ∀ j : Nat, -128 ≤ (va_cpy f g a b n j).toInt ∧ (va_cpy f g a b n j).toInt ≤ 127 := fun j => by
  unfold va_cpy
  split
  · exact hf _
  · exact hg j
theorem fit_cell {cA : ClassId} {n : Nat} {f : Nat → Int32} (h : ∀ j : Nat, -128 ≤ (f j).toInt ∧ (f j).toInt ≤ 127) : ∀ (i : Nat) (v : Value), (vp_cell cA (n, .inl f)).slots[i]? = some v → fits .byte v = true := fun i v hv => by
  have hv : (arrV cA n (fun j => .int (f j))).slots[i]? = some v := hv
  have hi : i < n := by
    have := (Array.getElem?_eq_some_iff.mp hv).1
    rw [arrV_size] at this
    exact this
  rw [arrV_read _ _ hi] at hv
  rw [← Option.some.inj hv]
  exact fits_b (h i)
section LW
variable {p : Program} {l : Launch} {e : Env} {R : Room} {s : State} {m : MethodId} {args : Array Value} {below : List Frame} {meth : Method} {c : Code} {H : Heap} {locs : List Loc} {cells slots : Nat} {Q : State → Prop} {cc : ByteArray} {pc : Nat} {ls : Array Slot} {rest : List Value} {T : State}
theorem ldcwStr (X : Stand p l e R s m args below meth c T locs cells slots) (hexec : p.tables.exec = Jvm.exec) {own text : String} {index : Nat} {a : Addr} (hown : s.vm.findClass own = some m.cls)
    (hconst : (Cond.stringRef own index text).before args s = true) (hev : (Term.string own index).eval args s none [] s = some (.ref a)) {g : JFrame} (hg : g.method = m) (hdg : decode c.code g.pc = .ok (.ldc_w index, 3)) :
    ∀ target, Steps p.tables e below (T.setTop { g with pc := g.pc + 3, stack := .ref a :: g.stack }) target → Steps p.tables e below (T.setTop g) target := by
  obtain ⟨k, cf, i, a', hk, hcf, hcp, -, hr, hev'⟩ := Cond.stringRef_spec hown hconst
  cases hev.symm.trans hev'
  obtain ⟨k', hk', he⟩ := X.warmed.alike.2.2 _ _ hk
  have hr' : k'.resolved[index]? = some (some (.string a)) := by
    rcases X.warmed.entry hk hk' index with h | ⟨h, -⟩
    · rw [h]; exact hr
    · rw [hr] at h; cases h
  intro target hrest
  subst hg
  jvm_step X.here [hexec, hdg, ldc_w.wp_string (e := e) (s := T) (f := g) X.here.top hk' (by rw [he]; exact hcf) hcp hr']
  exact hrest
theorem va_ldcSw (hexec : p.tables.exec = Jvm.exec) (hb : c.code = cc) {own tx : String} {index q : Nat} (hown : s.vm.findClass own = some m.cls) (hZ : vk_R own index tx q s) (hdg : decode cc pc = .ok (.ldc_w index, 3))
    (k : W p l e R s m args below meth c H locs cells slots Q (F0 m (pc + 3) ls (.ref q :: rest))) : W p l e R s m args below meth c H locs cells slots Q (F0 m pc ls rest) := by
  intro T hT X
  obtain ⟨t, a1, b1⟩ := k T hT X
  exact ⟨t, ldcwStr X hexec hown (text := tx) (a := q) hZ.1 hZ.2 (g := F0 m pc ls rest) rfl (by rw [hb]; exact hdg) t a1, b1⟩
theorem lv_ifnull_ref (hexec : p.tables.exec = Jvm.exec) (hb : c.code = cc) {x : Nat} {off : Int} (hdg : decode cc pc = .ok (.ifnull off, 3)) (k : W p l e R s m args below meth c H locs cells slots Q (F0 m (pc + 3) ls rest)) : W p l e R s m args below meth c H locs cells slots Q (F0 m pc ls (.ref x :: rest)) := lv_ifnull hexec hb hdg k
end LW
theorem cpy0 {f g : Nat → Int32} {n j : Nat} {z : Int32} (hj : j < n) (hz : z.toNatClampNeg = 0 := by rfl) : va_cpy f g z.toNatClampNeg z.toNatClampNeg n j = f j := by
  unfold va_cpy
  rw [hz, if_pos ⟨by omega, by omega⟩, Nat.zero_add, Nat.sub_zero]
theorem cpy1 {f g : Nat → Int32} {n j a b : Nat} (ha : a = 0) (hb : b = 0) (hj : j < n) : va_cpy f g a b n j = f j := by
  unfold va_cpy
  rw [ha, hb, if_pos ⟨by omega, by omega⟩, Nat.zero_add, Nat.sub_zero]
/-- behind what is there, another is laid -/
theorem cpy2 {f g : Nat → Int32} {n j b : Nat} : (j < b → va_cpy f g 0 b n j = g j) ∧ (j < n → va_cpy f g 0 b n (b + j) = f j) := by
  unfold va_cpy
  refine ⟨fun h => by rw [if_neg (by omega)], fun h => ?_⟩
  rw [if_pos ⟨by omega, by omega⟩, Nat.zero_add, Nat.add_sub_cancel_left]
theorem sh0l {a x : Int32} (e : x = a <<< ((0 : Int32) &&& 31)) : x.toInt = a.toInt := by
  rw [e, show ((0 : Int32) &&& 31) = 0 from rfl, Int32.shiftLeft_zero]
theorem sh0r {a x : Int32} (e : x = a >>> ((0 : Int32) &&& 31)) : x.toInt = a.toInt := by
  rw [e, show ((0 : Int32) &&& 31) = 0 from rfl, Int32.shiftRight_zero]
theorem nar_el (x : Int32) : -128 ≤ (vp_nar .byte x).toInt ∧ (vp_nar .byte x).toInt ≤ 127 := by
  rw [vp_nar_byte]
  exact i8_el x
theorem nar2 {x : Int32} : x.toInt8.toInt32.toInt8.toInt32 = x.toInt8.toInt32 := by rw [Int8.toInt8_toInt32]
theorem no_Aw {A : Nat → Prop} {D : va_G} {cl : List vw_C} {X WC : va_W} {L : List Nat} {f : Nat → va_E} {H : Heap} (hP : va_P D cl (X ++ va_pl L f) H) (hD : va_D A (X ++ va_pl L f)) (is : List Nat) (hC : is.map (fun i => X[i]?) = WC.map some) : ∀ x ∈ L, ¬ va_A WC H.size x := fun x hx h => by
  rcases h with ⟨k, e, h⟩ | h
  · have h1 : (is.map (fun i => X[i]?))[k]? = some (some (x, e)) := by rw [hC, List.getElem?_map, h]; rfl
    rw [List.getElem?_map] at h1
    cases hi : is[k]? with
    | none => rw [hi] at h1; cases h1
    | some i =>
      rw [hi] at h1
      have h2 : X[i]? = some (x, e) := Option.some.inj h1
      have hl := (List.getElem?_eq_some_iff.mp h2).1
      obtain ⟨j, hj⟩ := List.getElem?_of_mem hx
      have h3 : (X ++ va_pl L f)[X.length + j]? = some (x, f x) := by
        rw [List.getElem?_append_right (by omega), Nat.add_sub_cancel_left]
        unfold va_pl
        rw [List.getElem?_map, hj]
        rfl
      have h4 : (X ++ va_pl L f)[i]? = some (x, e) := by rw [List.getElem?_append_left hl]; exact h2
      have := hD.1 i (X.length + j) _ _ h4 h3 rfl
      omega
  · have := va_pl_lt hP hx
    omega
theorem sh0p {a x p : Int32} (hp : p = 0) (e : x = a <<< (p &&& 31)) : x.toInt = a.toInt := by
  subst hp
  exact sh0l e
theorem gO {own C owner : String} {idx : Nat} {x y : MethodName} {q : Cond} (h1 : Cond.methodLink own idx x ∈ lw_g) (h2 : Cond.sameMethod x.cls owner x.name x.desc ∈ lw_g) (h3 : Cond.instanceMethod ⟨owner, x.name, x.desc⟩ ∈ lw_g) (h4 : Cond.selects C x y ∈ lw_g) (h5 : Cond.instanceMethod y ∈ lw_g) (h6 : Cond.initialized y.cls ∈ lw_g) (hq : q ∈ lw_g) : GoodIn lw_g (va_wsO own idx C owner x y (q :: lw_g)) := fun w h => by
  have h : w ∈ ([.methodLink own idx x, .sameMethod x.cls owner x.name x.desc, .instanceMethod ⟨owner, x.name, x.desc⟩, .selects C x y, .instanceMethod y, .initialized y.cls] : List Cond) ++ (q :: lw_g) := h
  rcases List.mem_append.mp h with h | h
  · simp only [List.mem_cons, List.not_mem_nil, or_false] at h
    rcases h with rfl | rfl | rfl | rfl | rfl | rfl
    · exact ⟨h1, good_of_word (g_all h1)⟩
    · exact ⟨h2, good_of_word (g_all h2)⟩
    · exact ⟨h3, good_of_word (g_all h3)⟩
    · exact ⟨h4, good_of_word (g_all h4)⟩
    · exact ⟨h5, good_of_word (g_all h5)⟩
    · exact ⟨h6, good_of_word (g_all h6)⟩
  · exact gW hq w h
theorem no_A0 {D : va_G} {cl : List vw_C} {ws : va_W} {H : Heap} {k : Nat} {q : Nat × va_E} (hP : va_P D cl ws H) (h : ws[k]? = some q) : ¬ va_A [] H.size q.1 := fun z => by
  have := (hP k q h).lt
  rcases z with ⟨k, e, h⟩ | h
  · simp at h
  · omega
theorem ro_Sx {D : va_G} {tys : List (ClassId × FieldType)} {ws : va_W} {s : State} {args : Array Value} {H : Heap} {A1 : Nat → Prop} {a v k k2 t0 n : Nat} {h z : Int32} {g : Nat → Int32} {cpb : ClassId} {nb : List Int32} (hts : ∀ w ∈ lw_g, w.before args s = true) (hK : va_K D cls2 tys s) (hP : va_P D cls2 ws H) (ht : tys[t0]? = some (cpb, .byte)) (ha : ws[k]? = some (a, .inr (16, [.ref v, .int 0, .int h, .int z]))) (hb : ws[k2]? = some (v, .inl (cpb, n, .inl g))) (hn : nb.length = n) (hg : ∀ j, j < n → g j = nb.getD j 0) (hA : ¬ A1 a) (hA2 : ¬ A1 v) : sw_str a v nb A1 s H := by
  subst hn
  refine ⟨ro_O (q := (R_JS, F_JS, 4)) hK hP (ci := 16) rfl ha hA, ?_, ?_, ?_⟩
  · exact ro_OF (j := 1) hts i_JS hK hP (ci := 16) rfl ha (by decide) rfl hA
  · exact ro_OF (j := 0) hts i_JS hK hP (ci := 16) rfl ha (by decide) rfl hA
  · exact (ro_T hK hP hb ht hA2).cg (fun j hj => by rw [hg j hj])
theorem ro_rv {E : String} {t : Nat} {A : Nat → Prop} {s : State} {H : Heap} (h : va_O E t A s H) : ∃ cell : Cell, H[t]? = some cell ∧ cell.vm.isStatics = false ∧ s.vm.findClass E = some cell.cls := by
  obtain ⟨cell, h1, h2, h3, -⟩ := h
  exact ⟨cell, h1, h2, h3⟩
theorem ro_N {a n : Nat} {f : Nat → Value} {A : Nat → Prop} {s : State} {H : Heap} {nb : List Int32} (hn : nb.length = n) (h : va_T .byte a n f A s H) : va_T .byte a nb.length f A s H := by rw [hn]; exact h
section HA
variable {g : Nat → Int32} {n : Nat} {h z r : Int32}
theorem z_of {x : Int32} (h : x.toInt = 0) : x = 0 := Int32.toInt_inj.mp (by rw [h]; decide)
theorem hash_a (hr : rht (sbl g n) h z) (h0 : h.toInt ≠ 0) : h = hs9 (sbl g n) n := by
  rcases hr.1 with q | q
  · rw [q] at h0; exact absurd rfl h0
  · rw [sbl_len] at q; exact q
theorem hash_b (hr : rht (sbl g n) h z) (hh : h.toInt = 0) (hz : z.toInt ≠ 0) : h = hs9 (sbl g n) n := by
  have q := hr.2 hz
  rw [sbl_len] at q
  rw [q]
  exact z_of hh
theorem hash_c (e : r = hs9 (sbl g n) n) (h0 : r.toInt = 0) (hr : rht (sbl g n) h z) : rht (sbl g n) h 1 := by
  refine ⟨hr.1, fun _ => ?_⟩
  rw [sbl_len, ← e]
  exact z_of h0
theorem hash_d (e : r = hs9 (sbl g n) n) (hr : rht (sbl g n) h z) : rht (sbl g n) r z := by
  refine ⟨Or.inr ?_, hr.2⟩
  rw [sbl_len]
  exact e
end HA
