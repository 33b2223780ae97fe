/-! Reader: an instruction -/
/-- what reading one instruction more does to the tables of the code (o: its op, at the place cl) -/
def rstep (cl o oc lc r oc2 lc2 : Int32) (gop gpt gel glb go gop2 gpt2 gel2 glb2 go2 : Nat → Int32) (gva gva2 : Nat → Int64) : Prop :=
  gop2 = upd gop cl.toNatClampNeg o ∧
  (((o.toInt = 2 ∨ o.toInt = 3 ∨ o.toInt = 4) ∧ r.toInt = 1 ∧ oc.toInt < 100 ∧ oc2.toInt = oc.toInt + 1 ∧ go2 = upd go oc.toNatClampNeg cl ∧ lc2 = lc ∧ glb2 = glb ∧ gpt2 = upd gpt cl.toNatClampNeg 0 ∧ gel2 = upd gel cl.toNatClampNeg (-1) ∧ ∃ v : Int64, (v.toInt = 64 ∨ v.toInt = 127 ∨ v.toInt = 126) ∧ gva2 = vp_updL (vp_updL gva cl.toNatClampNeg 0) cl.toNatClampNeg v) ∨
   (o.toInt = 5 ∧ r.toInt = 1 ∧ oc2 = oc ∧ go2 = go ∧ lc2 = lc ∧ glb2 = glb ∧ gpt2 = upd gpt cl.toNatClampNeg 0 ∧ gva2 = vp_updL gva cl.toNatClampNeg 0 ∧ 0 < oc.toInt ∧ (gop2 (go (oc.toNatClampNeg - 1)).toNatClampNeg).toInt = 4 ∧ (upd gel cl.toNatClampNeg (-1) (go (oc.toNatClampNeg - 1)).toNatClampNeg).toInt < 0 ∧ gel2 = upd (upd gel cl.toNatClampNeg (-1)) (go (oc.toNatClampNeg - 1)).toNatClampNeg cl) ∨
   (o.toInt = 11 ∧ go2 = go ∧ lc2 = lc ∧ glb2 = glb ∧ gel2 = upd gel cl.toNatClampNeg (-1) ∧ gva2 = vp_updL gva cl.toNatClampNeg 0 ∧ (r.toInt = 0 → oc.toInt = 0 ∧ oc2 = oc ∧ gpt2 = upd gpt cl.toNatClampNeg 0) ∧ (r.toInt = 1 → 0 < oc.toInt ∧ oc2.toInt = oc.toInt - 1 ∧ gpt2 = if 0 ≤ (upd gel cl.toNatClampNeg (-1) (go (oc.toNatClampNeg - 1)).toNatClampNeg).toInt then upd (upd (upd gpt cl.toNatClampNeg 0) (go (oc.toNatClampNeg - 1)).toNatClampNeg cl) (upd gel cl.toNatClampNeg (-1) (go (oc.toNatClampNeg - 1)).toNatClampNeg).toNatClampNeg cl else upd (upd gpt cl.toNatClampNeg 0) (go (oc.toNatClampNeg - 1)).toNatClampNeg cl)) ∨
   ((o.toInt = 12 ∨ o.toInt = 13 ∨ o.toInt = 16 ∨ o.toInt = 32 ∨ o.toInt = 33 ∨ o.toInt = 34 ∨ o.toInt = 35 ∨ o.toInt = 36) ∧ r.toInt = 1 ∧ oc2 = oc ∧ go2 = go ∧ lc2 = lc ∧ glb2 = glb ∧ gpt2 = upd gpt cl.toNatClampNeg 0 ∧ gel2 = upd gel cl.toNatClampNeg (-1) ∧ ∃ v : Int64, 0 ≤ v.toInt ∧ v.toInt ≤ 2147483647 ∧ gva2 = vp_updL (vp_updL gva cl.toNatClampNeg 0) cl.toNatClampNeg v) ∨
   (o.toInt = 14 ∧ r.toInt = 1 ∧ oc2 = oc ∧ go2 = go ∧ gel2 = upd gel cl.toNatClampNeg (-1) ∧ ∃ (b : Int32) (x : Int64), 0 ≤ b.toInt ∧ b.toInt ≤ 50 ∧ x.toInt = lc.toInt ∧ lc2.toInt = lc.toInt + b.toInt + 1 ∧ gva2 = vp_updL (vp_updL gva cl.toNatClampNeg 0) cl.toNatClampNeg x ∧ gpt2 = upd (upd gpt cl.toNatClampNeg 0) cl.toNatClampNeg b) ∨
   ((o.toInt = 63 ∨ o.toInt = 64 ∨ o.toInt = 0 ∨ o.toInt = 1 ∨ o.toInt = 15 ∨ o.toInt = 26 ∨ o.toInt = 27 ∨ (69 ≤ o.toInt ∧ o.toInt ≤ 90) ∨ (103 ≤ o.toInt ∧ o.toInt ≤ 138) ∨ o.toInt = 167 ∨ o.toInt = 172 ∨ o.toInt = 173) ∧ r.toInt = 1 ∧ oc2 = oc ∧ go2 = go ∧ lc2 = lc ∧ glb2 = glb ∧ gpt2 = upd gpt cl.toNatClampNeg 0 ∧ gel2 = upd gel cl.toNatClampNeg (-1) ∧ gva2 = vp_updL gva cl.toNatClampNeg 0) ∨
   ((o.toInt = 65 ∨ o.toInt = 66) ∧ r.toInt = 1 ∧ oc2 = oc ∧ go2 = go ∧ lc2 = lc ∧ glb2 = glb ∧ gpt2 = upd gpt cl.toNatClampNeg 0 ∧ gel2 = upd gel cl.toNatClampNeg (-1) ∧ ∃ v : Int64, gva2 = vp_updL (vp_updL gva cl.toNatClampNeg 0) cl.toNatClampNeg v) ∨
   ((o.toInt = 44 ∨ o.toInt = 45 ∨ o.toInt = 58 ∨ o.toInt = 40 ∨ o.toInt = 54 ∨ o.toInt = 41 ∨ o.toInt = 55) ∧ r.toInt = 1 ∧ oc2 = oc ∧ go2 = go ∧ lc2 = lc ∧ glb2 = glb ∧ gel2 = upd gel cl.toNatClampNeg (-1) ∧ ∃ (b : Int32) (x : Int64), 0 ≤ b.toInt ∧ 0 ≤ x.toInt ∧ x.toInt ≤ 4294967295 ∧ gpt2 = upd (upd gpt cl.toNatClampNeg 0) cl.toNatClampNeg b ∧ gva2 = vp_updL (vp_updL gva cl.toNatClampNeg 0) cl.toNatClampNeg x))
theorem upd_lt {g : Nat → Int32} {k : Nat} {v : Int32} (h : ∀ j : Nat, (g j).toInt < 5000) (hv : v.toInt < 5000) : ∀ j : Nat, (upd g k v j).toInt < 5000 := by
  intro j
  by_cases e : j = k
  · rw [e, pk_us]
    exact hv
  · rw [pk_un e]
    exact h j
abbrev b_RE_readInstruction : ByteArray := prog_9_method_10_code
def y_RE_readInstruction : MethodName := ⟨R_RE, "readInstruction", "()Z"⟩
abbrev w_RE_readInstruction : List Cond := .code y_RE_readInstruction b_RE_readInstruction 3 (Option.some .boolean) :: lw_g
theorem kC_RE_readInstruction : Cond.code y_RE_readInstruction b_RE_readInstruction 3 (Option.some .boolean) ∈ lw_g := in_g 1340 (by decide +kernel) rfl
theorem d_RE_readInstruction_0 : decode b_RE_readInstruction 0 = .ok (.aload_n 0, 1) := by decide +kernel
theorem d_RE_readInstruction_1 : decode b_RE_readInstruction 1 = .ok (.invokevirtual 60, 3) := by decide +kernel
theorem d_RE_readInstruction_4 : decode b_RE_readInstruction 4 = .ok (.istore_n 1, 1) := by decide +kernel
theorem d_RE_readInstruction_5 : decode b_RE_readInstruction 5 = .ok (.aload_n 0, 1) := by decide +kernel
theorem d_RE_readInstruction_6 : decode b_RE_readInstruction 6 = .ok (.getfield 25, 3) := by decide +kernel
theorem d_RE_readInstruction_9 : decode b_RE_readInstruction 9 = .ok (.getfield 175, 3) := by decide +kernel
theorem d_RE_readInstruction_12 : decode b_RE_readInstruction 12 = .ok (.istore_n 2, 1) := by decide +kernel
theorem d_RE_readInstruction_13 : decode b_RE_readInstruction 13 = .ok (.aload_n 0, 1) := by decide +kernel
theorem d_RE_readInstruction_14 : decode b_RE_readInstruction 14 = .ok (.aload_n 0, 1) := by decide +kernel
theorem d_RE_readInstruction_15 : decode b_RE_readInstruction 15 = .ok (.getfield 45, 3) := by decide +kernel
theorem d_RE_readInstruction_18 : decode b_RE_readInstruction 18 = .ok (.ifCond .eq 14, 3) := by decide +kernel
theorem d_RE_readInstruction_21 : decode b_RE_readInstruction 21 = .ok (.iload_n 2, 1) := by decide +kernel
theorem d_RE_readInstruction_22 : decode b_RE_readInstruction 22 = .ok (.sipush 5000, 3) := by decide +kernel
theorem d_RE_readInstruction_25 : decode b_RE_readInstruction 25 = .ok (.if_icmp .ge 7, 3) := by decide +kernel
theorem d_RE_readInstruction_28 : decode b_RE_readInstruction 28 = .ok (.iconst 1, 1) := by decide +kernel
theorem d_RE_readInstruction_29 : decode b_RE_readInstruction 29 = .ok (.goto 4, 3) := by decide +kernel
theorem d_RE_readInstruction_32 : decode b_RE_readInstruction 32 = .ok (.iconst 0, 1) := by decide +kernel
theorem d_RE_readInstruction_33 : decode b_RE_readInstruction 33 = .ok (.putfield 45, 3) := by decide +kernel
theorem d_RE_readInstruction_36 : decode b_RE_readInstruction 36 = .ok (.aload_n 0, 1) := by decide +kernel
theorem d_RE_readInstruction_37 : decode b_RE_readInstruction 37 = .ok (.getfield 45, 3) := by decide +kernel
theorem d_RE_readInstruction_40 : decode b_RE_readInstruction 40 = .ok (.ifCond .ne 5, 3) := by decide +kernel
theorem d_RE_readInstruction_43 : decode b_RE_readInstruction 43 = .ok (.iconst 0, 1) := by decide +kernel
theorem d_RE_readInstruction_44 : decode b_RE_readInstruction 44 = .ok (.ireturn, 1) := by decide +kernel
theorem d_RE_readInstruction_45 : decode b_RE_readInstruction 45 = .ok (.aload_n 0, 1) := by decide +kernel
theorem d_RE_readInstruction_46 : decode b_RE_readInstruction 46 = .ok (.getfield 25, 3) := by decide +kernel
theorem d_RE_readInstruction_49 : decode b_RE_readInstruction 49 = .ok (.dup, 1) := by decide +kernel
theorem d_RE_readInstruction_50 : decode b_RE_readInstruction 50 = .ok (.getfield 175, 3) := by decide +kernel
theorem d_RE_readInstruction_53 : decode b_RE_readInstruction 53 = .ok (.iconst 1, 1) := by decide +kernel
theorem d_RE_readInstruction_54 : decode b_RE_readInstruction 54 = .ok (.iadd, 1) := by decide +kernel
theorem d_RE_readInstruction_55 : decode b_RE_readInstruction 55 = .ok (.putfield 175, 3) := by decide +kernel
theorem d_RE_readInstruction_58 : decode b_RE_readInstruction 58 = .ok (.aload_n 0, 1) := by decide +kernel
theorem d_RE_readInstruction_59 : decode b_RE_readInstruction 59 = .ok (.getfield 25, 3) := by decide +kernel
theorem d_RE_readInstruction_62 : decode b_RE_readInstruction 62 = .ok (.getfield 194, 3) := by decide +kernel
theorem d_RE_readInstruction_65 : decode b_RE_readInstruction 65 = .ok (.iload_n 2, 1) := by decide +kernel
theorem d_RE_readInstruction_66 : decode b_RE_readInstruction 66 = .ok (.iload_n 1, 1) := by decide +kernel
theorem d_RE_readInstruction_67 : decode b_RE_readInstruction 67 = .ok (.iastore, 1) := by decide +kernel
theorem d_RE_readInstruction_68 : decode b_RE_readInstruction 68 = .ok (.aload_n 0, 1) := by decide +kernel
theorem d_RE_readInstruction_69 : decode b_RE_readInstruction 69 = .ok (.getfield 25, 3) := by decide +kernel
theorem d_RE_readInstruction_72 : decode b_RE_readInstruction 72 = .ok (.getfield 197, 3) := by decide +kernel
theorem d_RE_readInstruction_75 : decode b_RE_readInstruction 75 = .ok (.iload_n 2, 1) := by decide +kernel
theorem d_RE_readInstruction_76 : decode b_RE_readInstruction 76 = .ok (.lconst 0, 1) := by decide +kernel
theorem d_RE_readInstruction_77 : decode b_RE_readInstruction 77 = .ok (.lastore, 1) := by decide +kernel
theorem d_RE_readInstruction_78 : decode b_RE_readInstruction 78 = .ok (.aload_n 0, 1) := by decide +kernel
theorem d_RE_readInstruction_79 : decode b_RE_readInstruction 79 = .ok (.getfield 25, 3) := by decide +kernel
theorem d_RE_readInstruction_82 : decode b_RE_readInstruction 82 = .ok (.getfield 200, 3) := by decide +kernel
theorem d_RE_readInstruction_85 : decode b_RE_readInstruction 85 = .ok (.iload_n 2, 1) := by decide +kernel
theorem d_RE_readInstruction_86 : decode b_RE_readInstruction 86 = .ok (.iconst 0, 1) := by decide +kernel
theorem d_RE_readInstruction_87 : decode b_RE_readInstruction 87 = .ok (.iastore, 1) := by decide +kernel
theorem d_RE_readInstruction_88 : decode b_RE_readInstruction 88 = .ok (.aload_n 0, 1) := by decide +kernel
theorem d_RE_readInstruction_89 : decode b_RE_readInstruction 89 = .ok (.getfield 25, 3) := by decide +kernel
theorem d_RE_readInstruction_92 : decode b_RE_readInstruction 92 = .ok (.getfield 203, 3) := by decide +kernel
theorem d_RE_readInstruction_95 : decode b_RE_readInstruction 95 = .ok (.iload_n 2, 1) := by decide +kernel
theorem d_RE_readInstruction_96 : decode b_RE_readInstruction 96 = .ok (.iconst (-1), 1) := by decide +kernel
theorem d_RE_readInstruction_97 : decode b_RE_readInstruction 97 = .ok (.iastore, 1) := by decide +kernel
theorem d_RE_readInstruction_98 : decode b_RE_readInstruction 98 = .ok (.iload_n 1, 1) := by decide +kernel
theorem d_RE_readInstruction_99 : decode b_RE_readInstruction 99 = .ok (.tableswitch 366 2 66 #[273, 273, 273, 281, 366, 366, 366, 366, 366, 289, 295, 295, 314, 366, 295, 366, 366, 366, 366, 366, 366, 366, 366, 366, 366, 366, 366, 366, 366, 366, 295, 295, 295, 295, 295, 366, 366, 366, 366, 366, 366, 366, 366, 366, 366, 366, 366, 366, 366, 366, 366, 366, 366, 366, 366, 366, 366, 366, 366, 366, 366, 322, 322, 330, 348], 273) := by decide +kernel
theorem d_RE_readInstruction_372 : decode b_RE_readInstruction 372 = .ok (.aload_n 0, 1) := by decide +kernel
theorem d_RE_readInstruction_373 : decode b_RE_readInstruction 373 = .ok (.iload_n 2, 1) := by decide +kernel
theorem d_RE_readInstruction_374 : decode b_RE_readInstruction 374 = .ok (.invokevirtual 206, 3) := by decide +kernel
theorem d_RE_readInstruction_377 : decode b_RE_readInstruction 377 = .ok (.goto 94, 3) := by decide +kernel
theorem d_RE_readInstruction_380 : decode b_RE_readInstruction 380 = .ok (.aload_n 0, 1) := by decide +kernel
theorem d_RE_readInstruction_381 : decode b_RE_readInstruction 381 = .ok (.iload_n 2, 1) := by decide +kernel
theorem d_RE_readInstruction_382 : decode b_RE_readInstruction 382 = .ok (.invokevirtual 209, 3) := by decide +kernel
theorem d_RE_readInstruction_385 : decode b_RE_readInstruction 385 = .ok (.goto 86, 3) := by decide +kernel
theorem d_RE_readInstruction_388 : decode b_RE_readInstruction 388 = .ok (.aload_n 0, 1) := by decide +kernel
theorem d_RE_readInstruction_389 : decode b_RE_readInstruction 389 = .ok (.iload_n 2, 1) := by decide +kernel
theorem d_RE_readInstruction_390 : decode b_RE_readInstruction 390 = .ok (.invokevirtual 212, 3) := by decide +kernel
theorem d_RE_readInstruction_393 : decode b_RE_readInstruction 393 = .ok (.ireturn, 1) := by decide +kernel
theorem d_RE_readInstruction_394 : decode b_RE_readInstruction 394 = .ok (.aload_n 0, 1) := by decide +kernel
theorem d_RE_readInstruction_395 : decode b_RE_readInstruction 395 = .ok (.getfield 25, 3) := by decide +kernel
theorem d_RE_readInstruction_398 : decode b_RE_readInstruction 398 = .ok (.getfield 197, 3) := by decide +kernel
theorem d_RE_readInstruction_401 : decode b_RE_readInstruction 401 = .ok (.iload_n 2, 1) := by decide +kernel
theorem d_RE_readInstruction_402 : decode b_RE_readInstruction 402 = .ok (.aload_n 0, 1) := by decide +kernel
theorem d_RE_readInstruction_403 : decode b_RE_readInstruction 403 = .ok (.ldc2_w 82, 3) := by decide +kernel
theorem d_RE_readInstruction_406 : decode b_RE_readInstruction 406 = .ok (.invokevirtual 64, 3) := by decide +kernel
theorem d_RE_readInstruction_409 : decode b_RE_readInstruction 409 = .ok (.lastore, 1) := by decide +kernel
theorem d_RE_readInstruction_410 : decode b_RE_readInstruction 410 = .ok (.goto 61, 3) := by decide +kernel
theorem d_RE_readInstruction_413 : decode b_RE_readInstruction 413 = .ok (.aload_n 0, 1) := by decide +kernel
theorem d_RE_readInstruction_414 : decode b_RE_readInstruction 414 = .ok (.iload_n 2, 1) := by decide +kernel
theorem d_RE_readInstruction_415 : decode b_RE_readInstruction 415 = .ok (.invokevirtual 216, 3) := by decide +kernel
theorem d_RE_readInstruction_418 : decode b_RE_readInstruction 418 = .ok (.goto 53, 3) := by decide +kernel
theorem d_RE_readInstruction_421 : decode b_RE_readInstruction 421 = .ok (.aload_n 0, 1) := by decide +kernel
theorem d_RE_readInstruction_422 : decode b_RE_readInstruction 422 = .ok (.iconst 0, 1) := by decide +kernel
theorem d_RE_readInstruction_423 : decode b_RE_readInstruction 423 = .ok (.invokevirtual 56, 3) := by decide +kernel
theorem d_RE_readInstruction_426 : decode b_RE_readInstruction 426 = .ok (.goto 45, 3) := by decide +kernel
theorem d_RE_readInstruction_429 : decode b_RE_readInstruction 429 = .ok (.aload_n 0, 1) := by decide +kernel
theorem d_RE_readInstruction_430 : decode b_RE_readInstruction 430 = .ok (.getfield 25, 3) := by decide +kernel
theorem d_RE_readInstruction_433 : decode b_RE_readInstruction 433 = .ok (.getfield 197, 3) := by decide +kernel
theorem d_RE_readInstruction_436 : decode b_RE_readInstruction 436 = .ok (.iload_n 2, 1) := by decide +kernel
theorem d_RE_readInstruction_437 : decode b_RE_readInstruction 437 = .ok (.aload_n 0, 1) := by decide +kernel
theorem d_RE_readInstruction_438 : decode b_RE_readInstruction 438 = .ok (.bipush 32, 2) := by decide +kernel
theorem d_RE_readInstruction_440 : decode b_RE_readInstruction 440 = .ok (.invokevirtual 149, 3) := by decide +kernel
theorem d_RE_readInstruction_443 : decode b_RE_readInstruction 443 = .ok (.lastore, 1) := by decide +kernel
theorem d_RE_readInstruction_444 : decode b_RE_readInstruction 444 = .ok (.goto 27, 3) := by decide +kernel
theorem d_RE_readInstruction_447 : decode b_RE_readInstruction 447 = .ok (.aload_n 0, 1) := by decide +kernel
theorem d_RE_readInstruction_448 : decode b_RE_readInstruction 448 = .ok (.getfield 25, 3) := by decide +kernel
theorem d_RE_readInstruction_451 : decode b_RE_readInstruction 451 = .ok (.getfield 197, 3) := by decide +kernel
theorem d_RE_readInstruction_454 : decode b_RE_readInstruction 454 = .ok (.iload_n 2, 1) := by decide +kernel
theorem d_RE_readInstruction_455 : decode b_RE_readInstruction 455 = .ok (.aload_n 0, 1) := by decide +kernel
theorem d_RE_readInstruction_456 : decode b_RE_readInstruction 456 = .ok (.bipush 64, 2) := by decide +kernel
theorem d_RE_readInstruction_458 : decode b_RE_readInstruction 458 = .ok (.invokevirtual 149, 3) := by decide +kernel
theorem d_RE_readInstruction_461 : decode b_RE_readInstruction 461 = .ok (.lastore, 1) := by decide +kernel
theorem d_RE_readInstruction_462 : decode b_RE_readInstruction 462 = .ok (.goto 9, 3) := by decide +kernel
theorem d_RE_readInstruction_465 : decode b_RE_readInstruction 465 = .ok (.aload_n 0, 1) := by decide +kernel
theorem d_RE_readInstruction_466 : decode b_RE_readInstruction 466 = .ok (.iload_n 2, 1) := by decide +kernel
theorem d_RE_readInstruction_467 : decode b_RE_readInstruction 467 = .ok (.iload_n 1, 1) := by decide +kernel
theorem d_RE_readInstruction_468 : decode b_RE_readInstruction 468 = .ok (.invokevirtual 219, 3) := by decide +kernel
theorem d_RE_readInstruction_471 : decode b_RE_readInstruction 471 = .ok (.iconst 1, 1) := by decide +kernel
theorem d_RE_readInstruction_472 : decode b_RE_readInstruction 472 = .ok (.ireturn, 1) := by decide +kernel
theorem kF_RE_175 : Cond.fieldLink R_RE 175 "WaferForge$Codes" "length" "I" ∈ lw_g := in_g 96 (by decide +kernel) rfl
theorem kM_RE_206 : Cond.methodLink R_RE 206 y_RE_openBlock ∈ lw_g := in_g 1341 (by decide +kernel) rfl
theorem kV_RE_openBlock : Cond.instanceMethod y_RE_openBlock ∈ lw_g := in_g 1343 (by decide +kernel) rfl
theorem kS_RE_openBlock : Cond.selects R_RE y_RE_openBlock y_RE_openBlock ∈ lw_g := in_s 75 (by decide +kernel) rfl
theorem kM_RE_209 : Cond.methodLink R_RE 209 y_RE_turnToElse ∈ lw_g := in_g 1345 (by decide +kernel) rfl
theorem kV_RE_turnToElse : Cond.instanceMethod y_RE_turnToElse ∈ lw_g := in_g 1347 (by decide +kernel) rfl
theorem kS_RE_turnToElse : Cond.selects R_RE y_RE_turnToElse y_RE_turnToElse ∈ lw_g := in_s 76 (by decide +kernel) rfl
theorem kM_RE_212 : Cond.methodLink R_RE 212 y_RE_closeBlock ∈ lw_g := in_g 1349 (by decide +kernel) rfl
theorem kV_RE_closeBlock : Cond.instanceMethod y_RE_closeBlock ∈ lw_g := in_g 1351 (by decide +kernel) rfl
theorem kS_RE_closeBlock : Cond.selects R_RE y_RE_closeBlock y_RE_closeBlock ∈ lw_g := in_s 77 (by decide +kernel) rfl
theorem kM_RE_216 : Cond.methodLink R_RE 216 y_RE_readTable ∈ lw_g := in_g 1353 (by decide +kernel) rfl
theorem kV_RE_readTable : Cond.instanceMethod y_RE_readTable ∈ lw_g := in_g 1355 (by decide +kernel) rfl
theorem kS_RE_readTable : Cond.selects R_RE y_RE_readTable y_RE_readTable ∈ lw_g := in_s 78 (by decide +kernel) rfl
theorem kM_RE_56 : Cond.methodLink R_RE 56 y_RE_expect ∈ lw_g := in_g 1277 (by decide +kernel) rfl
theorem kV_RE_expect : Cond.instanceMethod y_RE_expect ∈ lw_g := in_g 1279 (by decide +kernel) rfl
theorem kS_RE_expect : Cond.selects R_RE y_RE_expect y_RE_expect ∈ lw_g := in_s 61 (by decide +kernel) rfl
theorem kM_RE_149 : Cond.methodLink R_RE 149 y_RE_readSigned ∈ lw_g := in_g 1319 (by decide +kernel) rfl
theorem kV_RE_readSigned : Cond.instanceMethod y_RE_readSigned ∈ lw_g := in_g 1321 (by decide +kernel) rfl
theorem kS_RE_readSigned : Cond.selects R_RE y_RE_readSigned y_RE_readSigned ∈ lw_g := in_s 70 (by decide +kernel) rfl
theorem kM_RE_219 : Cond.methodLink R_RE 219 y_RE_readOther ∈ lw_g := in_g 1358 (by decide +kernel) rfl
theorem kV_RE_readOther : Cond.instanceMethod y_RE_readOther ∈ lw_g := in_g 1360 (by decide +kernel) rfl
theorem kS_RE_readOther : Cond.selects R_RE y_RE_readOther y_RE_readOther ∈ lw_g := in_s 79 (by decide +kernel) rfl
abbrev at_RE_readInstruction (dC : Nat → ClassId) (dI : Nat → Nat → Nat) (h0 aw ac ao ab ax : Nat) (lim cc : Int32) (cB : ClassId) (n : Nat) (len : Int32) (f : Nat → Int32) (wf : List Value) (afi alk alt aop ava apt ael alb : Nat) (cop : ClassId) (cva : ClassId) (cpt : ClassId) (cel : ClassId) (clb : ClassId) (co : ClassId) (A : Nat → Prop) (u : Int32 × Int32 × Int32 × Int32 × Int32 × (Nat → Int32) × (Nat → Int64) × (Nat → Int32) × (Nat → Int32) × (Nat → Int32) × (Nat → Int32)) (t : State) : Prop := match u with
  | (pa, snd, oc, cl, lc, gop, gva, gpt, gel, glb, go) => va_P (dC, dI) cls [(h0, .inr (7, [.ref aw, .ref ac, .int pa, .int lim, .int snd, .int cc, .ref ao, .int oc])), (aw, .inr (10, wf)), (ab, .inr (1, [.ref ax, .int len])), (ax, .inl (cB, n, .inl f)), (ac, .inr (3, [.ref afi, .ref alk, .ref alt, .int cl, .ref aop, .ref ava, .ref apt, .ref ael, .int lc, .ref alb])), (aop, .inl (cop, 5000, .inl gop)), (ava, .inl (cva, 5000, .inr (.inl gva))), (apt, .inl (cpt, 5000, .inl gpt)), (ael, .inl (cel, 5000, .inl gel)), (alb, .inl (clb, 2000, .inl glb)), (ao, .inl (co, 100, .inl go))] t.heap ∧ va_K (dC, dI) cls [(cB, .byte), (cop, .int), (cva, .long), (cpt, .int), (cel, .int), (clb, .int), (co, .int)] t ∧ va_D A [(h0, .inr (7, [.ref aw, .ref ac, .int pa, .int lim, .int snd, .int cc, .ref ao, .int oc])), (aw, .inr (10, wf)), (ab, .inr (1, [.ref ax, .int len])), (ax, .inl (cB, n, .inl f)), (ac, .inr (3, [.ref afi, .ref alk, .ref alt, .int cl, .ref aop, .ref ava, .ref apt, .ref ael, .int lc, .ref alb])), (aop, .inl (cop, 5000, .inl gop)), (ava, .inl (cva, 5000, .inr (.inl gva))), (apt, .inl (cpt, 5000, .inl gpt)), (ael, .inl (cel, 5000, .inl gel)), (alb, .inl (clb, 2000, .inl glb)), (ao, .inl (co, 100, .inl go))]
set_option maxHeartbeats 4000000 in
set_option maxRecDepth 100000 in
theorem c_RE_readInstruction (l : Launch) (dC : Nat → ClassId) (dI : Nat → Nat → Nat) (sz : Nat) (h0 aw ac ao ab ax : Nat) (lim cc : Int32) (cB : ClassId) (n : Nat) (len : Int32) (f : Nat → Int32) (wf : List Value) (pwf : wf[0]? = some (.ref ab)) (pwl : wf.length = 21) (afi alk alt aop ava apt ael alb : Nat) (cop : ClassId) (cva : ClassId) (cpt : ClassId) (cel : ClassId) (clb : ClassId) (co : ClassId) (pa : Int32) (snd : Int32) (oc : Int32) (cl : Int32) (lc : Int32) (gop : Nat → Int32) (gva : Nat → Int64) (gpt : Nat → Int32) (gel : Nat → Int32) (glb : Nat → Int32) (go : Nat → Int32) (hs : snd = 0 ∨ snd = 1) (ho : 0 ≤ oc.toInt ∧ oc.toInt ≤ 100) (ha : 0 ≤ pa.toInt ∧ pa.toInt ≤ lim.toInt ∧ lim.toInt ≤ len.toInt ∧ len.toInt ≤ n ∧ n < 2147483648)  (hgo : ∀ j : Nat, (j : Int) < oc.toInt → 0 ≤ (go j).toInt ∧ (go j).toInt < 5000) (hel : ∀ j : Nat, (gel j).toInt < 5000) (hlb : ∀ j : Nat, (j : Int) < lc.toInt → 0 ≤ (glb j).toInt) (hlc : 0 ≤ lc.toInt ∧ lc.toInt ≤ 2000) (hcl : 0 ≤ cl.toInt ∧ cl.toInt ≤ 5000) : Met l y_RE_readInstruction w_RE_readInstruction ({ frames := 3, cells := 0, slots := 0, locals := 69 }) (va_Pc [.ref h0] (fun U => U.heap.size = sz ∧ va_P (dC, dI) cls [(h0, .inr (7, [.ref aw, .ref ac, .int pa, .int lim, .int snd, .int cc, .ref ao, .int oc])), (aw, .inr (10, wf)), (ab, .inr (1, [.ref ax, .int len])), (ax, .inl (cB, n, .inl f)), (ac, .inr (3, [.ref afi, .ref alk, .ref alt, .int cl, .ref aop, .ref ava, .ref apt, .ref ael, .int lc, .ref alb])), (aop, .inl (cop, 5000, .inl gop)), (ava, .inl (cva, 5000, .inr (.inl gva))), (apt, .inl (cpt, 5000, .inl gpt)), (ael, .inl (cel, 5000, .inl gel)), (alb, .inl (clb, 2000, .inl glb)), (ao, .inl (co, 100, .inl go))] U.heap ∧ va_K (dC, dI) cls [(cB, .byte), (cop, .int), (cva, .long), (cpt, .int), (cel, .int), (clb, .int), (co, .int)] U ∧ va_D (fun _ => True) [(h0, .inr (7, [.ref aw, .ref ac, .int pa, .int lim, .int snd, .int cc, .ref ao, .int oc])), (aw, .inr (10, wf)), (ab, .inr (1, [.ref ax, .int len])), (ax, .inl (cB, n, .inl f)), (ac, .inr (3, [.ref afi, .ref alk, .ref alt, .int cl, .ref aop, .ref ava, .ref apt, .ref ael, .int lc, .ref alb])), (aop, .inl (cop, 5000, .inl gop)), (ava, .inl (cva, 5000, .inr (.inl gva))), (apt, .inl (cpt, 5000, .inl gpt)), (ael, .inl (cel, 5000, .inl gel)), (alb, .inl (clb, 2000, .inl glb)), (ao, .inl (co, 100, .inl go))])) (va_Qi (fun (r : Int32) (u : Int32 × Int32 × Int32 × Int32 × Int32 × (Nat → Int32) × (Nat → Int64) × (Nat → Int32) × (Nat → Int32) × (Nat → Int32) × (Nat → Int32)) => match u with | (pa2, snd2, oc2, cl2, lc2, gop2, gva2, gpt2, gel2, glb2, go2) => (r = 0 ∨ r = 1) ∧ (snd2 = 0 ∨ snd2 = 1) ∧ pa.toInt ≤ pa2.toInt ∧ pa2.toInt ≤ lim.toInt ∧ 0 ≤ oc2.toInt ∧ oc2.toInt ≤ 100 ∧ cl.toInt ≤ cl2.toInt ∧ cl2.toInt ≤ 5000 ∧ lc.toInt ≤ lc2.toInt ∧ lc2.toInt ≤ 2000 ∧ (∀ j : Nat, (j : Int) < lc2.toInt → 0 ≤ (glb2 j).toInt) ∧ (∀ j : Nat, (gel2 j).toInt < 5000) ∧ (snd2.toInt = 1 → snd.toInt = 1 ∧ pa.toInt < pa2.toInt ∧ cl2.toInt = cl.toInt + 1 ∧ ∃ o : Int32, o.toInt = (bn (f pa.toNatClampNeg) : Nat) ∧ rstep cl o oc lc r oc2 lc2 gop gpt gel glb go gop2 gpt2 gel2 glb2 go2 gva gva2)) (at_RE_readInstruction dC dI h0 aw ac ao ab ax lim cc cB n len f wf afi alk alt aop ava apt ael alb cop cva cpt cel clb co (va_A [(h0, .inr (7, [.ref aw, .ref ac, .int pa, .int lim, .int snd, .int cc, .ref ao, .int oc])), (aw, .inr (10, wf)), (ab, .inr (1, [.ref ax, .int len])), (ax, .inl (cB, n, .inl f)), (ac, .inr (3, [.ref afi, .ref alk, .ref alt, .int cl, .ref aop, .ref ava, .ref apt, .ref ael, .int lc, .ref alb])), (aop, .inl (cop, 5000, .inl gop)), (ava, .inl (cva, 5000, .inr (.inl gva))), (apt, .inl (cpt, 5000, .inl gpt)), (ael, .inl (cel, 5000, .inl gel)), (alb, .inl (clb, 2000, .inl glb)), (ao, .inl (co, 100, .inl go))] sz)) (va_A [(h0, .inr (7, [.ref aw, .ref ac, .int pa, .int lim, .int snd, .int cc, .ref ao, .int oc])), (aw, .inr (10, wf)), (ab, .inr (1, [.ref ax, .int len])), (ax, .inl (cB, n, .inl f)), (ac, .inr (3, [.ref afi, .ref alk, .ref alt, .int cl, .ref aop, .ref ava, .ref apt, .ref ael, .int lc, .ref alb])), (aop, .inl (cop, 5000, .inl gop)), (ava, .inl (cva, 5000, .inr (.inl gva))), (apt, .inl (cpt, 5000, .inl gpt)), (ael, .inl (cel, 5000, .inl gel)), (alb, .inl (clb, 2000, .inl glb)), (ao, .inl (co, 100, .inl go))] sz)) 0 0 (va_A [(h0, .inr (7, [.ref aw, .ref ac, .int pa, .int lim, .int snd, .int cc, .ref ao, .int oc])), (aw, .inr (10, wf)), (ab, .inr (1, [.ref ax, .int len])), (ax, .inl (cB, n, .inl f)), (ac, .inr (3, [.ref afi, .ref alk, .ref alt, .int cl, .ref aop, .ref ava, .ref apt, .ref ael, .int lc, .ref alb])), (aop, .inl (cop, 5000, .inl gop)), (ava, .inl (cva, 5000, .inr (.inl gva))), (apt, .inl (cpt, 5000, .inl gpt)), (ael, .inl (cel, 5000, .inl gel)), (alb, .inl (clb, 2000, .inl glb)), (ao, .inl (co, 100, .inl go))] sz) := by
  refine Met.ofW (cc := b_RE_readInstruction) (maxL := 3) (ret := (Option.some .boolean)) (by decide) rfl ?_
  intro p e s m args below meth c s₁ B hml hv
  obtain ⟨rfl, hsz, hP, hK, hD0⟩ := hv
  have hx := B.exec
  have hb := B.bytes
  have hr := B.returns
  have hts0 := atoms_spec (ws := w_RE_readInstruction) B.pre
  have hts : ∀ w ∈ lw_g, w.before _ s = true := fun w h => hts0 w (List.mem_cons_of_mem _ h)
  have hown : s.vm.findClass R_RE = some m.cls := findClass_of_methodNamed B.named
  have hlocks := B.notSynchronized
  clear hts0
  subst hsz
  have hD := hD0.self (sz := s.heap.size)
  generalize hAe : va_A [(h0, .inr (7, [.ref aw, .ref ac, .int pa, .int lim, .int snd, .int cc, .ref ao, .int oc])), (aw, .inr (10, wf)), (ab, .inr (1, [.ref ax, .int len])), (ax, .inl (cB, n, .inl f)), (ac, .inr (3, [.ref afi, .ref alk, .ref alt, .int cl, .ref aop, .ref ava, .ref apt, .ref ael, .int lc, .ref alb])), (aop, .inl (cop, 5000, .inl gop)), (ava, .inl (cva, 5000, .inr (.inl gva))), (apt, .inl (cpt, 5000, .inl gpt)), (ael, .inl (cel, 5000, .inl gel)), (alb, .inl (clb, 2000, .inl glb)), (ao, .inl (co, 100, .inl go))] s.heap.size = A at hD ⊢
  have hA : ∀ q : Nat, s.heap.size ≤ q → A q := fun q h => by rw [← hAe]; exact Or.inr h
  clear hAe
  have hP : va_P (dC, dI) cls [(h0, .inr (7, [.ref aw, .ref ac, .int pa, .int lim, .int snd, .int cc, .ref ao, .int oc])), (aw, .inr (10, wf)), (ab, .inr (1, [.ref ax, .int len])), (ax, .inl (cB, n, .inl f)), (ac, .inr (3, [.ref afi, .ref alk, .ref alt, .int cl, .ref aop, .ref ava, .ref apt, .ref ael, .int lc, .ref alb])), (aop, .inl (cop, 5000, .inl gop)), (ava, .inl (cva, 5000, .inr (.inl gva))), (apt, .inl (cpt, 5000, .inl gpt)), (ael, .inl (cel, 5000, .inl gel)), (alb, .inl (clb, 2000, .inl glb)), (ao, .inl (co, 100, .inl go))] s.heap := hP
  have hl := lv_entry ([.ref h0]) (n := 3) (Nat.le_of_ble_eq_true rfl)
  rw [lg_entry_eq]
  generalize (lg_sl ([.ref h0]) ++ List.replicate (3 - (lg_sl ([.ref h0])).length) Slot.unset).toArray = ls at hl ⊢
  have hl : lv_has ls 3 [(0, .ref h0)] := hl
  have k0 : (0 : Int32).toInt = 0 := by decide
  refine w_gen (A := A) hP (fun H locs hP hS => ?_)
  have km1 : (-1 : Int32).toInt = -1 := by decide
  have k1 : (1 : Int32).toInt = 1 := by decide
  have k32 : (32 : Int32).toInt = 32 := by decide
  have k64 : (64 : Int32).toInt = 64 := by decide
  have k5000 : (5000 : Int32).toInt = 5000 := by decide
  have hs0 := b01 hs
  refine lv_aload_n hx hb d_RE_readInstruction_0 rfl (lv_at hl 0 rfl) ?_
  have hPc := hP.sub (ws' := [(h0, .inr (7, [.ref aw, .ref ac, .int pa, .int lim, .int snd, .int cc, .ref ao, .int oc])), (aw, .inr (10, wf)), (ab, .inr (1, [.ref ax, .int len])), (ax, .inl (cB, n, .inl f))]) [0, 1, 2, 3] rfl
  have hDc := hD.sub (ws' := [(h0, .inr (7, [.ref aw, .ref ac, .int pa, .int lim, .int snd, .int cc, .ref ao, .int oc])), (aw, .inr (10, wf)), (ab, .inr (1, [.ref ax, .int len])), (ax, .inl (cB, n, .inl f))]) [0, 1, 2, 3] (by decide) rfl
  have hKc := hK.sub (tys' := [(cB, .byte)]) [0] rfl
  have hFc := va_free (wc := [(h0, .inr (7, [.ref aw, .ref ac, .int pa, .int lim, .int snd, .int cc, .ref ao, .int oc])), (aw, .inr (10, wf)), (ab, .inr (1, [.ref ax, .int len])), (ax, .inl (cB, n, .inl f))]) hD hS hA [0, 1, 2, 3] rfl
  refine va_calli (va_runV (As := []) (rest := []) ⟨hx, hb, hml, hown, hts⟩ (c_RE_next l dC dI h0 aw ac ao ab ax H.size cB n pa lim snd cc oc len f wf pwf pwl hs (by omega) ) (cwV 0 hts (gV kM_RE_60 kV_RE_next kS_RE_next kI_RE kC_RE_next) rfl rfl rfl (by decide +kernel) ⟨Nat.le_of_ble_eq_true rfl, Nat.le_of_ble_eq_true rfl⟩) ⟨fun a U g mk z => by obtain ⟨z0, z1, zP, zK, zD⟩ := z; exact ⟨z0, z1, zP, va_K.moved (u := U) (U := U.calling g mk a) (Vm.Alike.refl U.vm) zK, zD⟩, va_recv hKc hPc (ci := 7) (q0 := 0) rfl rfl, fun U hU hW => ⟨rfl, by rw [hU], by rw [hU]; exact hPc, va_K.moved hW.alike hKc, hDc.weaken (fun _ _ _ _ => trivial)⟩⟩ rfl rfl hl.1 rfl (lv_room (Nat.le_of_ble_eq_true rfl)) d_RE_readInstruction_1 ⟨(Nat.zero_le _), (Nat.zero_le _)⟩) hS (fun q _ h => hFc q h) hFc (fun r1 u t H1 locs ht hvm hw hB hz1 hk1 hS => ?_)
  obtain ⟨n2, n3⟩ := u
  try dsimp only at hw
  obtain ⟨hsn3, tn2⟩ := hw
  have bsn3 := b01 hsn3
  obtain ⟨hP1, hK1, hD1⟩ := hB
  rw [ht] at hP1
  obtain ⟨hP, hD⟩ := va_join (wr := [(ac, .inr (3, [.ref afi, .ref alk, .ref alt, .int cl, .ref aop, .ref ava, .ref apt, .ref ael, .int lc, .ref alb])), (aop, .inl (cop, 5000, .inl gop)), (ava, .inl (cva, 5000, .inr (.inl gva))), (apt, .inl (cpt, 5000, .inl gpt)), (ael, .inl (cel, 5000, .inl gel)), (alb, .inl (clb, 2000, .inl glb)), (ao, .inl (co, 100, .inl go))]) (w1 := [(h0, .inr (7, [.ref aw, .ref ac, .int n2, .int lim, .int n3, .int cc, .ref ao, .int oc])), (aw, .inr (10, wf)), (ab, .inr (1, [.ref ax, .int len])), (ax, .inl (cB, n, .inl f))]) hP hD [0, 1, 2, 3] [4, 5, 6, 7, 8, 9, 10] rfl rfl (by decide) (by decide) hk1 hFc hP1 hD1
  clear hPc hDc hKc hFc hz1 hk1 hP1 hK1 hD1
  generalize H1 = H at hP hS ⊢
  have hP : va_P (dC, dI) cls [(ac, .inr (3, [.ref afi, .ref alk, .ref alt, .int cl, .ref aop, .ref ava, .ref apt, .ref ael, .int lc, .ref alb])), (aop, .inl (cop, 5000, .inl gop)), (ava, .inl (cva, 5000, .inr (.inl gva))), (apt, .inl (cpt, 5000, .inl gpt)), (ael, .inl (cel, 5000, .inl gel)), (alb, .inl (clb, 2000, .inl glb)), (ao, .inl (co, 100, .inl go)), (h0, .inr (7, [.ref aw, .ref ac, .int n2, .int lim, .int n3, .int cc, .ref ao, .int oc])), (aw, .inr (10, wf)), (ab, .inr (1, [.ref ax, .int len])), (ax, .inl (cB, n, .inl f))] H := hP
  have hD : va_D A [(ac, .inr (3, [.ref afi, .ref alk, .ref alt, .int cl, .ref aop, .ref ava, .ref apt, .ref ael, .int lc, .ref alb])), (aop, .inl (cop, 5000, .inl gop)), (ava, .inl (cva, 5000, .inr (.inl gva))), (apt, .inl (cpt, 5000, .inl gpt)), (ael, .inl (cel, 5000, .inl gel)), (alb, .inl (clb, 2000, .inl glb)), (ao, .inl (co, 100, .inl go)), (h0, .inr (7, [.ref aw, .ref ac, .int n2, .int lim, .int n3, .int cc, .ref ao, .int oc])), (aw, .inr (10, wf)), (ab, .inr (1, [.ref ax, .int len])), (ax, .inl (cB, n, .inl f))] := hD
  refine lv_istore_n (lv' := [(1, .int r1), (0, .ref h0)]) hx hb d_RE_readInstruction_4 rfl hl (by decide) rfl (fun ls hl => ?_)
  refine lv_aload_n hx hb d_RE_readInstruction_5 rfl (lv_at hl 1 rfl) ?_
  refine va_get (D := (dC, dI)) (ci := 7) (v := .ref ac) (C := R_RE) (T := F_RE) (N := 8) hx hb hts i_RE hown hK hP 7 rfl rfl 1 (by decide) (hts _ kF_RE_25) (fun _ h9 => h9) rfl d_RE_readInstruction_6 ?_
  refine va_get (D := (dC, dI)) (ci := 3) (v := .int cl) (C := R_CD) (T := F_CD) (N := 10) hx hb hts i_CD hown hK hP 0 rfl rfl 3 (by decide) (hts _ kF_RE_175) (fun _ h9 => h9) rfl d_RE_readInstruction_9 ?_
  refine lv_istore_n (lv' := [(2, .int cl), (1, .int r1), (0, .ref h0)]) hx hb d_RE_readInstruction_12 rfl hl (by decide) rfl (fun ls hl => ?_)
  refine lv_aload_n hx hb d_RE_readInstruction_13 rfl (lv_at hl 2 rfl) ?_
  refine lv_aload_n hx hb d_RE_readInstruction_14 rfl (lv_at hl 2 rfl) ?_
  refine va_get (D := (dC, dI)) (ci := 7) (v := .int n3) (C := R_RE) (T := F_RE) (N := 8) hx hb hts i_RE hown hK hP 7 rfl rfl 4 (by decide) (hts _ kF_RE_45) (fun _ h9 => h9) rfl d_RE_readInstruction_15 ?_
  refine lv_if_eq (tgt := 32) hx hb d_RE_readInstruction_18 (by decide) (fun c18 => ?_) (fun c18 => ?_)
  · have q18 := eqI c18
    refine lv_iconst (v := 0) hx hb d_RE_readInstruction_32 (by decide) ?_
    refine va_put (D := (dC, dI)) (ci := 7) (v := .int 0) (ty := .boolean) (C := R_RE) (T := F_RE) (N := 8) hx hb hts i_RE t_RE t_RE_ok n_RE hown hK hP hD hS 7 rfl rfl 4 (by decide) (hts _ kF_RE_45) (fun _ h9 => h9) rfl (by decide +kernel) rfl rfl (Nat.le_of_ble_eq_true rfl) d_RE_readInstruction_33 (fun H locs hP hD hS => ?_)
    refine lv_aload_n hx hb d_RE_readInstruction_36 rfl (lv_at hl 2 rfl) ?_
    refine va_get (D := (dC, dI)) (ci := 7) (v := .int 0) (C := R_RE) (T := F_RE) (N := 8) hx hb hts i_RE hown hK hP 7 rfl rfl 4 (by decide) (hts _ kF_RE_45) (fun _ h9 => h9) rfl d_RE_readInstruction_37 ?_
    refine lv_if_ne (tgt := 45) hx hb d_RE_readInstruction_40 (by decide) (fun c40 => absurd (neI c40) (by omega)) (fun c40 => ?_)
    have q40 := eqI c40
    refine lv_iconst (v := 0) hx hb d_RE_readInstruction_43 (by decide) ?_
    have hP9 := hP.sub (ws' := [(h0, .inr (7, [.ref aw, .ref ac, .int n2, .int lim, .int 0, .int cc, .ref ao, .int oc])), (aw, .inr (10, wf)), (ab, .inr (1, [.ref ax, .int len])), (ax, .inl (cB, n, .inl f)), (ac, .inr (3, [.ref afi, .ref alk, .ref alt, .int cl, .ref aop, .ref ava, .ref apt, .ref ael, .int lc, .ref alb])), (aop, .inl (cop, 5000, .inl gop)), (ava, .inl (cva, 5000, .inr (.inl gva))), (apt, .inl (cpt, 5000, .inl gpt)), (ael, .inl (cel, 5000, .inl gel)), (alb, .inl (clb, 2000, .inl glb)), (ao, .inl (co, 100, .inl go))]) [7, 8, 9, 10, 0, 1, 2, 3, 4, 5, 6] rfl
    have hD9 := hD.sub (ws' := [(h0, .inr (7, [.ref aw, .ref ac, .int n2, .int lim, .int 0, .int cc, .ref ao, .int oc])), (aw, .inr (10, wf)), (ab, .inr (1, [.ref ax, .int len])), (ax, .inl (cB, n, .inl f)), (ac, .inr (3, [.ref afi, .ref alk, .ref alt, .int cl, .ref aop, .ref ava, .ref apt, .ref ael, .int lc, .ref alb])), (aop, .inl (cop, 5000, .inl gop)), (ava, .inl (cva, 5000, .inr (.inl gva))), (apt, .inl (cpt, 5000, .inl gpt)), (ael, .inl (cel, 5000, .inl gel)), (alb, .inl (clb, 2000, .inl glb)), (ao, .inl (co, 100, .inl go))]) [7, 8, 9, 10, 0, 1, 2, 3, 4, 5, 6] (by decide) rfl
    exact W.zret (v := 0) hx hb hr (zn01 (by first | exact Or.inl rfl | exact Or.inr rfl | exact hr0)) (fun t ht hW => ⟨⟨0, (n2, 0, oc, cl, lc, gop, gva, gpt, gel, glb, go), rfl, ⟨Or.inl rfl, (Or.inl rfl), by (try dsimp only); omega, by (try dsimp only); omega, by (try dsimp only); omega, by (try dsimp only); omega, by (try dsimp only); omega, by (try dsimp only); omega, by (try dsimp only); omega, by (try dsimp only); omega, hlb, hel, fun z => absurd z (by (try dsimp only); omega)⟩, by rw [ht]; exact hP9, va_K.moved hW.alike hK, hD9⟩, hS.F ht⟩) hS.2.2 d_RE_readInstruction_44
  · have q18 := neI c18
    refine lv_iload_n hx hb d_RE_readInstruction_21 rfl (lv_at hl 0 rfl) ?_
    refine lv_sipush (v := 5000) hx hb d_RE_readInstruction_22 (by decide) ?_
    refine lv_icmp_ge (tgt := 32) hx hb d_RE_readInstruction_25 (by decide) (fun c25 => ?_) (fun c25 => ?_)
    · have q25 := leI c25
      refine lv_iconst (v := 0) hx hb d_RE_readInstruction_32 (by decide) ?_
      refine va_put (D := (dC, dI)) (ci := 7) (v := .int 0) (ty := .boolean) (C := R_RE) (T := F_RE) (N := 8) hx hb hts i_RE t_RE t_RE_ok n_RE hown hK hP hD hS 7 rfl rfl 4 (by decide) (hts _ kF_RE_45) (fun _ h9 => h9) rfl (by decide +kernel) rfl rfl (Nat.le_of_ble_eq_true rfl) d_RE_readInstruction_33 (fun H locs hP hD hS => ?_)
      refine lv_aload_n hx hb d_RE_readInstruction_36 rfl (lv_at hl 2 rfl) ?_
      refine va_get (D := (dC, dI)) (ci := 7) (v := .int 0) (C := R_RE) (T := F_RE) (N := 8) hx hb hts i_RE hown hK hP 7 rfl rfl 4 (by decide) (hts _ kF_RE_45) (fun _ h9 => h9) rfl d_RE_readInstruction_37 ?_
      refine lv_if_ne (tgt := 45) hx hb d_RE_readInstruction_40 (by decide) (fun c40 => absurd (neI c40) (by omega)) (fun c40 => ?_)
      have q40 := eqI c40
      refine lv_iconst (v := 0) hx hb d_RE_readInstruction_43 (by decide) ?_
      have hP9 := hP.sub (ws' := [(h0, .inr (7, [.ref aw, .ref ac, .int n2, .int lim, .int 0, .int cc, .ref ao, .int oc])), (aw, .inr (10, wf)), (ab, .inr (1, [.ref ax, .int len])), (ax, .inl (cB, n, .inl f)), (ac, .inr (3, [.ref afi, .ref alk, .ref alt, .int cl, .ref aop, .ref ava, .ref apt, .ref ael, .int lc, .ref alb])), (aop, .inl (cop, 5000, .inl gop)), (ava, .inl (cva, 5000, .inr (.inl gva))), (apt, .inl (cpt, 5000, .inl gpt)), (ael, .inl (cel, 5000, .inl gel)), (alb, .inl (clb, 2000, .inl glb)), (ao, .inl (co, 100, .inl go))]) [7, 8, 9, 10, 0, 1, 2, 3, 4, 5, 6] rfl
      have hD9 := hD.sub (ws' := [(h0, .inr (7, [.ref aw, .ref ac, .int n2, .int lim, .int 0, .int cc, .ref ao, .int oc])), (aw, .inr (10, wf)), (ab, .inr (1, [.ref ax, .int len])), (ax, .inl (cB, n, .inl f)), (ac, .inr (3, [.ref afi, .ref alk, .ref alt, .int cl, .ref aop, .ref ava, .ref apt, .ref ael, .int lc, .ref alb])), (aop, .inl (cop, 5000, .inl gop)), (ava, .inl (cva, 5000, .inr (.inl gva))), (apt, .inl (cpt, 5000, .inl gpt)), (ael, .inl (cel, 5000, .inl gel)), (alb, .inl (clb, 2000, .inl glb)), (ao, .inl (co, 100, .inl go))]) [7, 8, 9, 10, 0, 1, 2, 3, 4, 5, 6] (by decide) rfl
      exact W.zret (v := 0) hx hb hr (zn01 (by first | exact Or.inl rfl | exact Or.inr rfl | exact hr0)) (fun t ht hW => ⟨⟨0, (n2, 0, oc, cl, lc, gop, gva, gpt, gel, glb, go), rfl, ⟨Or.inl rfl, (Or.inl rfl), by (try dsimp only); omega, by (try dsimp only); omega, by (try dsimp only); omega, by (try dsimp only); omega, by (try dsimp only); omega, by (try dsimp only); omega, by (try dsimp only); omega, by (try dsimp only); omega, hlb, hel, fun z => absurd z (by (try dsimp only); omega)⟩, by rw [ht]; exact hP9, va_K.moved hW.alike hK, hD9⟩, hS.F ht⟩) hS.2.2 d_RE_readInstruction_44
    · have q25 := nleI c25
      refine lv_iconst (v := 1) hx hb d_RE_readInstruction_28 (by decide) ?_
      refine lv_goto (tgt := 33) hx hb d_RE_readInstruction_29 (by decide) ?_
      refine va_put (D := (dC, dI)) (ci := 7) (v := .int 1) (ty := .boolean) (C := R_RE) (T := F_RE) (N := 8) hx hb hts i_RE t_RE t_RE_ok n_RE hown hK hP hD hS 7 rfl rfl 4 (by decide) (hts _ kF_RE_45) (fun _ h9 => h9) rfl (by decide +kernel) rfl rfl (Nat.le_of_ble_eq_true rfl) d_RE_readInstruction_33 (fun H locs hP hD hS => ?_)
      refine lv_aload_n hx hb d_RE_readInstruction_36 rfl (lv_at hl 2 rfl) ?_
      refine va_get (D := (dC, dI)) (ci := 7) (v := .int 1) (C := R_RE) (T := F_RE) (N := 8) hx hb hts i_RE hown hK hP 7 rfl rfl 4 (by decide) (hts _ kF_RE_45) (fun _ h9 => h9) rfl d_RE_readInstruction_37 ?_
      refine lv_if_ne (tgt := 45) hx hb d_RE_readInstruction_40 (by decide) (fun c40 => ?_) (fun c40 => absurd (eqI c40) (by omega))
      have q40 := neI c40
      refine lv_aload_n hx hb d_RE_readInstruction_45 rfl (lv_at hl 2 rfl) ?_
      refine va_get (D := (dC, dI)) (ci := 7) (v := .ref ac) (C := R_RE) (T := F_RE) (N := 8) hx hb hts i_RE hown hK hP 7 rfl rfl 1 (by decide) (hts _ kF_RE_25) (fun _ h9 => h9) rfl d_RE_readInstruction_46 ?_
      refine lv_dup hx hb d_RE_readInstruction_49 rfl ?_
      refine va_get (D := (dC, dI)) (ci := 3) (v := .int cl) (C := R_CD) (T := F_CD) (N := 10) hx hb hts i_CD hown hK hP 0 rfl rfl 3 (by decide) (hts _ kF_RE_175) (fun _ h9 => h9) rfl d_RE_readInstruction_50 ?_
      refine lv_iconst (v := 1) hx hb d_RE_readInstruction_53 (by decide) ?_
      refine lv_iadd hx hb d_RE_readInstruction_54 ?_
      refine lv_topi (fun x4 ex4 => ?_)
      have tx4 : x4.toInt = cl.toInt + 1 := by have z := i32_add ex4 (by omega) (by omega); omega
      refine va_put (D := (dC, dI)) (ci := 3) (v := .int x4) (ty := .int) (C := R_CD) (T := F_CD) (N := 10) hx hb hts i_CD t_CD t_CD_ok n_CD hown hK hP hD hS 0 rfl rfl 3 (by decide) (hts _ kF_RE_175) (fun _ h9 => h9) rfl (by decide +kernel) rfl rfl (Nat.le_of_ble_eq_true rfl) d_RE_readInstruction_55 (fun H locs hP hD hS => ?_)
      refine lv_aload_n hx hb d_RE_readInstruction_58 rfl (lv_at hl 2 rfl) ?_
      refine va_get (D := (dC, dI)) (ci := 7) (v := .ref ac) (C := R_RE) (T := F_RE) (N := 8) hx hb hts i_RE hown hK hP 7 rfl rfl 1 (by decide) (hts _ kF_RE_25) (fun _ h9 => h9) rfl d_RE_readInstruction_59 ?_
      refine va_get (D := (dC, dI)) (ci := 3) (v := .ref aop) (C := R_CD) (T := F_CD) (N := 10) hx hb hts i_CD hown hK hP 0 rfl rfl 4 (by decide) (hts _ kF_RE_194) (fun _ h9 => h9) rfl d_RE_readInstruction_62 ?_
      refine lv_iload_n hx hb d_RE_readInstruction_65 rfl (lv_at hl 0 rfl) ?_
      refine lv_iload_n hx hb d_RE_readInstruction_66 rfl (lv_at hl 1 rfl) ?_
      have g67 : vp_in cl 5000 := vp_in_iff.mpr ⟨by omega, by omega⟩
      refine va_iast hx hb hK hP hD hS 1 1 rfl rfl g67 d_RE_readInstruction_67 (fun H locs hP hD hS => ?_)
      generalize ef5 : upd gop cl.toNatClampNeg r1 = f5 at hP hD
      refine lv_aload_n hx hb d_RE_readInstruction_68 rfl (lv_at hl 2 rfl) ?_
      refine va_get (D := (dC, dI)) (ci := 7) (v := .ref ac) (C := R_RE) (T := F_RE) (N := 8) hx hb hts i_RE hown hK hP 7 rfl rfl 1 (by decide) (hts _ kF_RE_25) (fun _ h9 => h9) rfl d_RE_readInstruction_69 ?_
      refine va_get (D := (dC, dI)) (ci := 3) (v := .ref ava) (C := R_CD) (T := F_CD) (N := 10) hx hb hts i_CD hown hK hP 0 rfl rfl 5 (by decide) (hts _ kF_RE_197) (fun _ h9 => h9) rfl d_RE_readInstruction_72 ?_
      refine lv_iload_n hx hb d_RE_readInstruction_75 rfl (lv_at hl 0 rfl) ?_
      refine lv_lconst (v := 0) hx hb d_RE_readInstruction_76 (by decide) ?_
      have kl0 : (0 : Int64).toInt = 0 := by decide
      have g77 : vp_in cl 5000 := vp_in_iff.mpr ⟨by omega, by omega⟩
      refine va_last hx hb hK hP hD hS 2 2 rfl rfl g77 d_RE_readInstruction_77 (fun H locs hP hD hS => ?_)
      generalize ef6 : vp_updL gva cl.toNatClampNeg 0 = f6 at hP hD
      refine lv_aload_n hx hb d_RE_readInstruction_78 rfl (lv_at hl 2 rfl) ?_
      refine va_get (D := (dC, dI)) (ci := 7) (v := .ref ac) (C := R_RE) (T := F_RE) (N := 8) hx hb hts i_RE hown hK hP 7 rfl rfl 1 (by decide) (hts _ kF_RE_25) (fun _ h9 => h9) rfl d_RE_readInstruction_79 ?_
      refine va_get (D := (dC, dI)) (ci := 3) (v := .ref apt) (C := R_CD) (T := F_CD) (N := 10) hx hb hts i_CD hown hK hP 0 rfl rfl 6 (by decide) (hts _ kF_RE_200) (fun _ h9 => h9) rfl d_RE_readInstruction_82 ?_
      refine lv_iload_n hx hb d_RE_readInstruction_85 rfl (lv_at hl 0 rfl) ?_
      refine lv_iconst (v := 0) hx hb d_RE_readInstruction_86 (by decide) ?_
      have g87 : vp_in cl 5000 := vp_in_iff.mpr ⟨by omega, by omega⟩
      refine va_iast hx hb hK hP hD hS 3 3 rfl rfl g87 d_RE_readInstruction_87 (fun H locs hP hD hS => ?_)
      generalize ef7 : upd gpt cl.toNatClampNeg 0 = f7 at hP hD
      refine lv_aload_n hx hb d_RE_readInstruction_88 rfl (lv_at hl 2 rfl) ?_
      refine va_get (D := (dC, dI)) (ci := 7) (v := .ref ac) (C := R_RE) (T := F_RE) (N := 8) hx hb hts i_RE hown hK hP 7 rfl rfl 1 (by decide) (hts _ kF_RE_25) (fun _ h9 => h9) rfl d_RE_readInstruction_89 ?_
      refine va_get (D := (dC, dI)) (ci := 3) (v := .ref ael) (C := R_CD) (T := F_CD) (N := 10) hx hb hts i_CD hown hK hP 0 rfl rfl 7 (by decide) (hts _ kF_RE_203) (fun _ h9 => h9) rfl d_RE_readInstruction_92 ?_
      refine lv_iload_n hx hb d_RE_readInstruction_95 rfl (lv_at hl 0 rfl) ?_
      refine lv_iconst (v := (-1)) hx hb d_RE_readInstruction_96 (by decide) ?_
      have g97 : vp_in cl 5000 := vp_in_iff.mpr ⟨by omega, by omega⟩
      refine va_iast hx hb hK hP hD hS 4 4 rfl rfl g97 d_RE_readInstruction_97 (fun H locs hP hD hS => ?_)
      generalize ef8 : upd gel cl.toNatClampNeg ((-1)) = f8 at hP hD
      have hel : ∀ j : Nat, (f8 j).toInt < 5000 := fun j => by rw [← ef8]; exact upd_lt hel (by omega) j
      refine lv_iload_n hx hb d_RE_readInstruction_98 rfl (lv_at hl 1 rfl) ?_
      by_cases g99_372 : r1.toInt = 2 ∨ r1.toInt = 3 ∨ r1.toInt = 4
      · have ho99 : tab_off 366 2 66 #[273, 273, 273, 281, 366, 366, 366, 366, 366, 289, 295, 295, 314, 366, 295, 366, 366, 366, 366, 366, 366, 366, 366, 366, 366, 366, 366, 366, 366, 366, 295, 295, 295, 295, 295, 366, 366, 366, 366, 366, 366, 366, 366, 366, 366, 366, 366, 366, 366, 366, 366, 366, 366, 366, 366, 366, 366, 366, 366, 366, 366, 322, 322, 330, 348] r1.toInt = 273 := by rcases g99_372 with z | z | z <;> (rw [z]; rfl)
        refine lv_tab (tgt := 372) hx hb d_RE_readInstruction_99 (by decide) ho99 (by decide) ?_
        clear ho99
        refine lv_aload_n hx hb d_RE_readInstruction_372 rfl (lv_at hl 2 rfl) ?_
        refine lv_iload_n hx hb d_RE_readInstruction_373 rfl (lv_at hl 0 rfl) ?_
        have hPc := hP.sub (ws' := [(h0, .inr (7, [.ref aw, .ref ac, .int n2, .int lim, .int 1, .int cc, .ref ao, .int oc])), (aw, .inr (10, wf)), (ab, .inr (1, [.ref ax, .int len])), (ax, .inl (cB, n, .inl f)), (ac, .inr (3, [.ref afi, .ref alk, .ref alt, .int x4, .ref aop, .ref ava, .ref apt, .ref ael, .int lc, .ref alb])), (ava, .inl (cva, 5000, .inr (.inl f6))), (ao, .inl (co, 100, .inl go))]) [7, 8, 9, 10, 0, 2, 6] rfl
        have hDc := hD.sub (ws' := [(h0, .inr (7, [.ref aw, .ref ac, .int n2, .int lim, .int 1, .int cc, .ref ao, .int oc])), (aw, .inr (10, wf)), (ab, .inr (1, [.ref ax, .int len])), (ax, .inl (cB, n, .inl f)), (ac, .inr (3, [.ref afi, .ref alk, .ref alt, .int x4, .ref aop, .ref ava, .ref apt, .ref ael, .int lc, .ref alb])), (ava, .inl (cva, 5000, .inr (.inl f6))), (ao, .inl (co, 100, .inl go))]) [7, 8, 9, 10, 0, 2, 6] (by decide) rfl
        have hKc := hK.sub (tys' := [(cB, .byte), (cva, .long), (co, .int)]) [0, 2, 6] rfl
        have hFc := va_free (wc := [(h0, .inr (7, [.ref aw, .ref ac, .int n2, .int lim, .int 1, .int cc, .ref ao, .int oc])), (aw, .inr (10, wf)), (ab, .inr (1, [.ref ax, .int len])), (ax, .inl (cB, n, .inl f)), (ac, .inr (3, [.ref afi, .ref alk, .ref alt, .int x4, .ref aop, .ref ava, .ref apt, .ref ael, .int lc, .ref alb])), (ava, .inl (cva, 5000, .inr (.inl f6))), (ao, .inl (co, 100, .inl go))]) hD hS hA [7, 8, 9, 10, 0, 2, 6] rfl
        refine va_callv (va_runV (As := [.int cl]) (rest := []) ⟨hx, hb, hml, hown, hts⟩ (c_RE_openBlock l dC dI H.size h0 aw ac ao ab ax lim cc cB n len f wf pwf pwl afi alk alt aop ava apt ael alb cva co n2 1 oc x4 lc f6 go (Or.inr rfl) (by omega) (by omega) cl (by omega)) (cwV 1 hts (gV kM_RE_206 kV_RE_openBlock kS_RE_openBlock kI_RE kC_RE_openBlock) rfl rfl rfl (by decide +kernel) ⟨Nat.le_of_ble_eq_true rfl, Nat.le_of_ble_eq_true rfl⟩) ⟨fun a U g mk z => by obtain ⟨z0, z1, zP, zK, zD⟩ := z; exact ⟨z0, z1, zP, va_K.moved (u := U) (U := U.calling g mk a) (Vm.Alike.refl U.vm) zK, zD⟩, va_recv hKc hPc (ci := 7) (q0 := 0) rfl rfl, fun U hU hW => ⟨rfl, by rw [hU], by rw [hU]; exact hPc, va_K.moved hW.alike hKc, hDc.weaken (fun _ _ _ _ => trivial)⟩⟩ rfl rfl hl.1 rfl (lv_room (Nat.le_of_ble_eq_true rfl)) d_RE_readInstruction_374 ⟨(Nat.zero_le _), (Nat.zero_le _)⟩) hS (fun q _ h => hFc q h) hFc (fun u t H1 locs ht hvm hw hB hz1 hk1 hS => ?_)
        obtain ⟨n10, n11, n12, n13, n14, n15, n16⟩ := u
        try dsimp only at hw
        have hwn10 := hw
        clear hw
        obtain ⟨hsn11, i1, i2, i3, i4, rfl, rfl, iT, iF⟩ := hwn10
        have bsn11 := b01 hsn11
        obtain ⟨hP1, hK1, hD1⟩ := hB
        rw [ht] at hP1
        obtain ⟨hP, hD⟩ := va_join (wr := [(aop, .inl (cop, 5000, .inl f5)), (apt, .inl (cpt, 5000, .inl f7)), (ael, .inl (cel, 5000, .inl f8)), (alb, .inl (clb, 2000, .inl glb))]) (w1 := [(h0, .inr (7, [.ref aw, .ref ac, .int n10, .int lim, .int n11, .int cc, .ref ao, .int n12])), (aw, .inr (10, wf)), (ab, .inr (1, [.ref ax, .int len])), (ax, .inl (cB, n, .inl f)), (ac, .inr (3, [.ref afi, .ref alk, .ref alt, .int x4, .ref aop, .ref ava, .ref apt, .ref ael, .int lc, .ref alb])), (ava, .inl (cva, 5000, .inr (.inl n15))), (ao, .inl (co, 100, .inl n16))]) hP hD [7, 8, 9, 10, 0, 2, 6] [1, 3, 4, 5] rfl rfl (by decide) (by decide) hk1 hFc hP1 hD1
        clear hPc hDc hKc hFc hz1 hk1 hP1 hK1 hD1
        generalize H1 = H at hP hS ⊢
        have hP : va_P (dC, dI) cls [(aop, .inl (cop, 5000, .inl f5)), (apt, .inl (cpt, 5000, .inl f7)), (ael, .inl (cel, 5000, .inl f8)), (alb, .inl (clb, 2000, .inl glb)), (h0, .inr (7, [.ref aw, .ref ac, .int n10, .int lim, .int n11, .int cc, .ref ao, .int n12])), (aw, .inr (10, wf)), (ab, .inr (1, [.ref ax, .int len])), (ax, .inl (cB, n, .inl f)), (ac, .inr (3, [.ref afi, .ref alk, .ref alt, .int x4, .ref aop, .ref ava, .ref apt, .ref ael, .int lc, .ref alb])), (ava, .inl (cva, 5000, .inr (.inl n15))), (ao, .inl (co, 100, .inl n16))] H := hP
        have hD : va_D A [(aop, .inl (cop, 5000, .inl f5)), (apt, .inl (cpt, 5000, .inl f7)), (ael, .inl (cel, 5000, .inl f8)), (alb, .inl (clb, 2000, .inl glb)), (h0, .inr (7, [.ref aw, .ref ac, .int n10, .int lim, .int n11, .int cc, .ref ao, .int n12])), (aw, .inr (10, wf)), (ab, .inr (1, [.ref ax, .int len])), (ax, .inl (cB, n, .inl f)), (ac, .inr (3, [.ref afi, .ref alk, .ref alt, .int x4, .ref aop, .ref ava, .ref apt, .ref ael, .int lc, .ref alb])), (ava, .inl (cva, 5000, .inr (.inl n15))), (ao, .inl (co, 100, .inl n16))] := hD
        refine lv_goto (tgt := 471) hx hb d_RE_readInstruction_377 (by decide) ?_
        refine lv_iconst (v := 1) hx hb d_RE_readInstruction_471 (by decide) ?_
        have hP9 := hP.sub (ws' := [(h0, .inr (7, [.ref aw, .ref ac, .int n10, .int lim, .int n11, .int cc, .ref ao, .int n12])), (aw, .inr (10, wf)), (ab, .inr (1, [.ref ax, .int len])), (ax, .inl (cB, n, .inl f)), (ac, .inr (3, [.ref afi, .ref alk, .ref alt, .int x4, .ref aop, .ref ava, .ref apt, .ref ael, .int lc, .ref alb])), (aop, .inl (cop, 5000, .inl f5)), (ava, .inl (cva, 5000, .inr (.inl n15))), (apt, .inl (cpt, 5000, .inl f7)), (ael, .inl (cel, 5000, .inl f8)), (alb, .inl (clb, 2000, .inl glb)), (ao, .inl (co, 100, .inl n16))]) [4, 5, 6, 7, 8, 0, 9, 1, 2, 3, 10] rfl
        have hD9 := hD.sub (ws' := [(h0, .inr (7, [.ref aw, .ref ac, .int n10, .int lim, .int n11, .int cc, .ref ao, .int n12])), (aw, .inr (10, wf)), (ab, .inr (1, [.ref ax, .int len])), (ax, .inl (cB, n, .inl f)), (ac, .inr (3, [.ref afi, .ref alk, .ref alt, .int x4, .ref aop, .ref ava, .ref apt, .ref ael, .int lc, .ref alb])), (aop, .inl (cop, 5000, .inl f5)), (ava, .inl (cva, 5000, .inr (.inl n15))), (apt, .inl (cpt, 5000, .inl f7)), (ael, .inl (cel, 5000, .inl f8)), (alb, .inl (clb, 2000, .inl glb)), (ao, .inl (co, 100, .inl n16))]) [4, 5, 6, 7, 8, 0, 9, 1, 2, 3, 10] (by decide) rfl
        exact W.zret (v := 1) hx hb hr (zn01 (by first | exact Or.inl rfl | exact Or.inr rfl | exact hr1)) (fun t ht hW => ⟨⟨1, (n10, n11, n12, x4, lc, f5, n15, f7, f8, glb, n16), rfl, ⟨Or.inr rfl, hsn11, by (try dsimp only); clear iT iF; omega, by (try dsimp only); clear iT iF; omega, i3, i4, by (try dsimp only); clear iT iF; omega, by (try dsimp only); clear iT iF; omega, by (try dsimp only); clear iT iF; omega, by (try dsimp only); clear iT iF; omega, hlb, hel, fun z => by have y : n11.toInt = 1 := z; have y1 := (iT y).1; have y2 := (iT y).2.1; have y3 := (iT y).2.2.2.2.1; exact ⟨by clear iT iF; omega, by (try dsimp only); clear iT iF; omega, by (try dsimp only); clear iT iF; omega, ⟨r1, by clear iT iF; omega, ef5.symm, Or.inl ⟨by clear iT iF; omega, k1, (iT y).2.2.2.1, (iT y).2.2.2.2.1, (iT y).2.2.2.2.2.2, rfl, rfl, ef7.symm, ef8.symm, by obtain ⟨v, hv, ev⟩ := (iT y).2.2.2.2.2.1; have := (iT y).2.2.1; exact ⟨v, by omega, by rw [ev, ef6]⟩⟩⟩⟩⟩, by rw [ht]; exact hP9, va_K.moved hW.alike hK, hD9⟩, hS.F ht⟩) hS.2.2 d_RE_readInstruction_472
      · skip
        by_cases g99_380 : r1.toInt = 5
        · have ho99 : tab_off 366 2 66 #[273, 273, 273, 281, 366, 366, 366, 366, 366, 289, 295, 295, 314, 366, 295, 366, 366, 366, 366, 366, 366, 366, 366, 366, 366, 366, 366, 366, 366, 366, 295, 295, 295, 295, 295, 366, 366, 366, 366, 366, 366, 366, 366, 366, 366, 366, 366, 366, 366, 366, 366, 366, 366, 366, 366, 366, 366, 366, 366, 366, 366, 322, 322, 330, 348] r1.toInt = 281 := by rw [g99_380]; rfl
          refine lv_tab (tgt := 380) hx hb d_RE_readInstruction_99 (by decide) ho99 (by decide) ?_
          clear ho99
          refine lv_aload_n hx hb d_RE_readInstruction_380 rfl (lv_at hl 2 rfl) ?_
          refine lv_iload_n hx hb d_RE_readInstruction_381 rfl (lv_at hl 0 rfl) ?_
          have hPc := hP.sub (ws' := [(h0, .inr (7, [.ref aw, .ref ac, .int n2, .int lim, .int 1, .int cc, .ref ao, .int oc])), (ac, .inr (3, [.ref afi, .ref alk, .ref alt, .int x4, .ref aop, .ref ava, .ref apt, .ref ael, .int lc, .ref alb])), (aop, .inl (cop, 5000, .inl f5)), (ael, .inl (cel, 5000, .inl f8)), (ao, .inl (co, 100, .inl go))]) [7, 0, 1, 4, 6] rfl
          have hDc := hD.sub (ws' := [(h0, .inr (7, [.ref aw, .ref ac, .int n2, .int lim, .int 1, .int cc, .ref ao, .int oc])), (ac, .inr (3, [.ref afi, .ref alk, .ref alt, .int x4, .ref aop, .ref ava, .ref apt, .ref ael, .int lc, .ref alb])), (aop, .inl (cop, 5000, .inl f5)), (ael, .inl (cel, 5000, .inl f8)), (ao, .inl (co, 100, .inl go))]) [7, 0, 1, 4, 6] (by decide) rfl
          have hKc := hK.sub (tys' := [(cop, .int), (cel, .int), (co, .int)]) [1, 4, 6] rfl
          have hFc := va_free (wc := [(h0, .inr (7, [.ref aw, .ref ac, .int n2, .int lim, .int 1, .int cc, .ref ao, .int oc])), (ac, .inr (3, [.ref afi, .ref alk, .ref alt, .int x4, .ref aop, .ref ava, .ref apt, .ref ael, .int lc, .ref alb])), (aop, .inl (cop, 5000, .inl f5)), (ael, .inl (cel, 5000, .inl f8)), (ao, .inl (co, 100, .inl go))]) hD hS hA [7, 0, 1, 4, 6] rfl
          refine va_callv (va_runV (As := [.int cl]) (rest := []) ⟨hx, hb, hml, hown, hts⟩ (c_RE_turnToElse l dC dI H.size h0 aw ac ao ab ax lim cc afi alk alt aop ava apt ael alb cop cel co n2 1 oc x4 lc f5 f8 go (Or.inr rfl) (by omega) cl hgo) (cwV 1 hts (gV kM_RE_209 kV_RE_turnToElse kS_RE_turnToElse kI_RE kC_RE_turnToElse) rfl rfl rfl (by decide +kernel) ⟨Nat.le_of_ble_eq_true rfl, Nat.le_of_ble_eq_true rfl⟩) ⟨fun a U g mk z => by obtain ⟨z0, z1, zP, zK, zD⟩ := z; exact ⟨z0, z1, zP, va_K.moved (u := U) (U := U.calling g mk a) (Vm.Alike.refl U.vm) zK, zD⟩, va_recv hKc hPc (ci := 7) (q0 := 0) rfl rfl, fun U hU hW => ⟨rfl, by rw [hU], by rw [hU]; exact hPc, va_K.moved hW.alike hKc, hDc.weaken (fun _ _ _ _ => trivial)⟩⟩ rfl rfl hl.1 rfl (lv_room (Nat.le_of_ble_eq_true rfl)) d_RE_readInstruction_382 ⟨(Nat.zero_le _), (Nat.zero_le _)⟩) hS (fun q _ h => hFc q h) hFc (fun u t H1 locs ht hvm hw hB hz1 hk1 hS => ?_)
          obtain ⟨n18, n19, n20, n21, n22, n23, n24, n25⟩ := u
          try dsimp only at hw
          have hwn18 := hw
          clear hw
          obtain ⟨hsn19, rfl, rfl, rfl, rfl, rfl, rfl, iT, iF⟩ := hwn18
          have bsn19 := b01 hsn19
          obtain ⟨hP1, hK1, hD1⟩ := hB
          rw [ht] at hP1
          obtain ⟨hP, hD⟩ := va_join (wr := [(ava, .inl (cva, 5000, .inr (.inl f6))), (apt, .inl (cpt, 5000, .inl f7)), (alb, .inl (clb, 2000, .inl glb)), (aw, .inr (10, wf)), (ab, .inr (1, [.ref ax, .int len])), (ax, .inl (cB, n, .inl f))]) (w1 := [(h0, .inr (7, [.ref aw, .ref ac, .int n2, .int lim, .int n19, .int cc, .ref ao, .int oc])), (ac, .inr (3, [.ref afi, .ref alk, .ref alt, .int x4, .ref aop, .ref ava, .ref apt, .ref ael, .int lc, .ref alb])), (aop, .inl (cop, 5000, .inl f5)), (ael, .inl (cel, 5000, .inl n24)), (ao, .inl (co, 100, .inl go))]) hP hD [7, 0, 1, 4, 6] [2, 3, 5, 8, 9, 10] rfl rfl (by decide) (by decide) hk1 hFc hP1 hD1
          clear hPc hDc hKc hFc hz1 hk1 hP1 hK1 hD1
          generalize H1 = H at hP hS ⊢
          have hP : va_P (dC, dI) cls [(ava, .inl (cva, 5000, .inr (.inl f6))), (apt, .inl (cpt, 5000, .inl f7)), (alb, .inl (clb, 2000, .inl glb)), (aw, .inr (10, wf)), (ab, .inr (1, [.ref ax, .int len])), (ax, .inl (cB, n, .inl f)), (h0, .inr (7, [.ref aw, .ref ac, .int n2, .int lim, .int n19, .int cc, .ref ao, .int oc])), (ac, .inr (3, [.ref afi, .ref alk, .ref alt, .int x4, .ref aop, .ref ava, .ref apt, .ref ael, .int lc, .ref alb])), (aop, .inl (cop, 5000, .inl f5)), (ael, .inl (cel, 5000, .inl n24)), (ao, .inl (co, 100, .inl go))] H := hP
          have hD : va_D A [(ava, .inl (cva, 5000, .inr (.inl f6))), (apt, .inl (cpt, 5000, .inl f7)), (alb, .inl (clb, 2000, .inl glb)), (aw, .inr (10, wf)), (ab, .inr (1, [.ref ax, .int len])), (ax, .inl (cB, n, .inl f)), (h0, .inr (7, [.ref aw, .ref ac, .int n2, .int lim, .int n19, .int cc, .ref ao, .int oc])), (ac, .inr (3, [.ref afi, .ref alk, .ref alt, .int x4, .ref aop, .ref ava, .ref apt, .ref ael, .int lc, .ref alb])), (aop, .inl (cop, 5000, .inl f5)), (ael, .inl (cel, 5000, .inl n24)), (ao, .inl (co, 100, .inl go))] := hD
          refine lv_goto (tgt := 471) hx hb d_RE_readInstruction_385 (by decide) ?_
          refine lv_iconst (v := 1) hx hb d_RE_readInstruction_471 (by decide) ?_
          have hP9 := hP.sub (ws' := [(h0, .inr (7, [.ref aw, .ref ac, .int n2, .int lim, .int n19, .int cc, .ref ao, .int oc])), (aw, .inr (10, wf)), (ab, .inr (1, [.ref ax, .int len])), (ax, .inl (cB, n, .inl f)), (ac, .inr (3, [.ref afi, .ref alk, .ref alt, .int x4, .ref aop, .ref ava, .ref apt, .ref ael, .int lc, .ref alb])), (aop, .inl (cop, 5000, .inl f5)), (ava, .inl (cva, 5000, .inr (.inl f6))), (apt, .inl (cpt, 5000, .inl f7)), (ael, .inl (cel, 5000, .inl n24)), (alb, .inl (clb, 2000, .inl glb)), (ao, .inl (co, 100, .inl go))]) [6, 3, 4, 5, 7, 8, 0, 1, 9, 2, 10] rfl
          have hD9 := hD.sub (ws' := [(h0, .inr (7, [.ref aw, .ref ac, .int n2, .int lim, .int n19, .int cc, .ref ao, .int oc])), (aw, .inr (10, wf)), (ab, .inr (1, [.ref ax, .int len])), (ax, .inl (cB, n, .inl f)), (ac, .inr (3, [.ref afi, .ref alk, .ref alt, .int x4, .ref aop, .ref ava, .ref apt, .ref ael, .int lc, .ref alb])), (aop, .inl (cop, 5000, .inl f5)), (ava, .inl (cva, 5000, .inr (.inl f6))), (apt, .inl (cpt, 5000, .inl f7)), (ael, .inl (cel, 5000, .inl n24)), (alb, .inl (clb, 2000, .inl glb)), (ao, .inl (co, 100, .inl go))]) [6, 3, 4, 5, 7, 8, 0, 1, 9, 2, 10] (by decide) rfl
          exact W.zret (v := 1) hx hb hr (zn01 (by first | exact Or.inl rfl | exact Or.inr rfl | exact hr1)) (fun t ht hW => ⟨⟨1, (n2, n19, oc, x4, lc, f5, f6, f7, n24, glb, go), rfl, ⟨Or.inr rfl, hsn19, by (try dsimp only); clear iT; omega, by (try dsimp only); clear iT; omega, by (try dsimp only); clear iT; omega, by (try dsimp only); clear iT; omega, by (try dsimp only); clear iT; omega, by (try dsimp only); clear iT; omega, by (try dsimp only); clear iT; omega, by (try dsimp only); clear iT; omega, hlb, (fun j => bsn19.elim (fun q => by rw [iF q]; exact hel j) (fun q => by rw [(iT q).2.2.2]; exact upd_lt hel (by clear iT iF; omega) j)), fun z => by have y : n19.toInt = 1 := z; have y1 := (iT y).1; exact ⟨by clear iT iF; omega, by (try dsimp only); clear iT iF; omega, by (try dsimp only); clear iT iF; omega, ⟨r1, by clear iT iF; omega, ef5.symm, Or.inr (Or.inl ⟨by clear iT iF; omega, k1, rfl, rfl, rfl, rfl, ef7.symm, ef6.symm, (iT y).1, (iT y).2.1, by rw [ef8]; exact (iT y).2.2.1, by rw [ef8]; exact (iT y).2.2.2⟩)⟩⟩⟩, by rw [ht]; exact hP9, va_K.moved hW.alike hK, hD9⟩, hS.F ht⟩) hS.2.2 d_RE_readInstruction_472
        · skip
          by_cases g99_388 : r1.toInt = 11
          · have ho99 : tab_off 366 2 66 #[273, 273, 273, 281, 366, 366, 366, 366, 366, 289, 295, 295, 314, 366, 295, 366, 366, 366, 366, 366, 366, 366, 366, 366, 366, 366, 366, 366, 366, 366, 295, 295, 295, 295, 295, 366, 366, 366, 366, 366, 366, 366, 366, 366, 366, 366, 366, 366, 366, 366, 366, 366, 366, 366, 366, 366, 366, 366, 366, 366, 366, 322, 322, 330, 348] r1.toInt = 289 := by rw [g99_388]; rfl
            refine lv_tab (tgt := 388) hx hb d_RE_readInstruction_99 (by decide) ho99 (by decide) ?_
            clear ho99
            refine lv_aload_n hx hb d_RE_readInstruction_388 rfl (lv_at hl 2 rfl) ?_
            refine lv_iload_n hx hb d_RE_readInstruction_389 rfl (lv_at hl 0 rfl) ?_
            have hPc := hP.sub (ws' := [(h0, .inr (7, [.ref aw, .ref ac, .int n2, .int lim, .int 1, .int cc, .ref ao, .int oc])), (ac, .inr (3, [.ref afi, .ref alk, .ref alt, .int x4, .ref aop, .ref ava, .ref apt, .ref ael, .int lc, .ref alb])), (apt, .inl (cpt, 5000, .inl f7)), (ael, .inl (cel, 5000, .inl f8)), (ao, .inl (co, 100, .inl go))]) [7, 0, 3, 4, 6] rfl
            have hDc := hD.sub (ws' := [(h0, .inr (7, [.ref aw, .ref ac, .int n2, .int lim, .int 1, .int cc, .ref ao, .int oc])), (ac, .inr (3, [.ref afi, .ref alk, .ref alt, .int x4, .ref aop, .ref ava, .ref apt, .ref ael, .int lc, .ref alb])), (apt, .inl (cpt, 5000, .inl f7)), (ael, .inl (cel, 5000, .inl f8)), (ao, .inl (co, 100, .inl go))]) [7, 0, 3, 4, 6] (by decide) rfl
            have hKc := hK.sub (tys' := [(cpt, .int), (cel, .int), (co, .int)]) [3, 4, 6] rfl
            have hFc := va_free (wc := [(h0, .inr (7, [.ref aw, .ref ac, .int n2, .int lim, .int 1, .int cc, .ref ao, .int oc])), (ac, .inr (3, [.ref afi, .ref alk, .ref alt, .int x4, .ref aop, .ref ava, .ref apt, .ref ael, .int lc, .ref alb])), (apt, .inl (cpt, 5000, .inl f7)), (ael, .inl (cel, 5000, .inl f8)), (ao, .inl (co, 100, .inl go))]) hD hS hA [7, 0, 3, 4, 6] rfl
            refine va_calli (va_runV (As := [.int cl]) (rest := []) ⟨hx, hb, hml, hown, hts⟩ (c_RE_closeBlock l dC dI H.size h0 aw ac ao ab ax lim cc afi alk alt aop ava apt ael alb cpt cel co n2 1 oc x4 lc f7 f8 go (Or.inr rfl) (by omega) cl hgo hel) (cwV 1 hts (gV kM_RE_212 kV_RE_closeBlock kS_RE_closeBlock kI_RE kC_RE_closeBlock) rfl rfl rfl (by decide +kernel) ⟨Nat.le_of_ble_eq_true rfl, Nat.le_of_ble_eq_true rfl⟩) ⟨fun a U g mk z => by obtain ⟨z0, z1, zP, zK, zD⟩ := z; exact ⟨z0, z1, zP, va_K.moved (u := U) (U := U.calling g mk a) (Vm.Alike.refl U.vm) zK, zD⟩, va_recv hKc hPc (ci := 7) (q0 := 0) rfl rfl, fun U hU hW => ⟨rfl, by rw [hU], by rw [hU]; exact hPc, va_K.moved hW.alike hKc, hDc.weaken (fun _ _ _ _ => trivial)⟩⟩ rfl rfl hl.1 rfl (lv_room (Nat.le_of_ble_eq_true rfl)) d_RE_readInstruction_390 ⟨(Nat.zero_le _), (Nat.zero_le _)⟩) hS (fun q _ h => hFc q h) hFc (fun r26 u t H1 locs ht hvm hw hB hz1 hk1 hS => ?_)
            obtain ⟨n27, n28, n29, n30, n31, n32, n33, n34⟩ := u
            try dsimp only at hw
            have hwn27 := hw
            clear hw
            obtain ⟨hrr26, rfl, rfl, rfl, rfl, rfl, rfl, iZ, iO⟩ := hwn27
            have bsr26 := b01 hrr26
            obtain ⟨hP1, hK1, hD1⟩ := hB
            rw [ht] at hP1
            obtain ⟨hP, hD⟩ := va_join (wr := [(aop, .inl (cop, 5000, .inl f5)), (ava, .inl (cva, 5000, .inr (.inl f6))), (alb, .inl (clb, 2000, .inl glb)), (aw, .inr (10, wf)), (ab, .inr (1, [.ref ax, .int len])), (ax, .inl (cB, n, .inl f))]) (w1 := [(h0, .inr (7, [.ref aw, .ref ac, .int n2, .int lim, .int 1, .int cc, .ref ao, .int n29])), (ac, .inr (3, [.ref afi, .ref alk, .ref alt, .int x4, .ref aop, .ref ava, .ref apt, .ref ael, .int lc, .ref alb])), (apt, .inl (cpt, 5000, .inl n32)), (ael, .inl (cel, 5000, .inl f8)), (ao, .inl (co, 100, .inl go))]) hP hD [7, 0, 3, 4, 6] [1, 2, 5, 8, 9, 10] rfl rfl (by decide) (by decide) hk1 hFc hP1 hD1
            clear hPc hDc hKc hFc hz1 hk1 hP1 hK1 hD1
            generalize H1 = H at hP hS ⊢
            have hP : va_P (dC, dI) cls [(aop, .inl (cop, 5000, .inl f5)), (ava, .inl (cva, 5000, .inr (.inl f6))), (alb, .inl (clb, 2000, .inl glb)), (aw, .inr (10, wf)), (ab, .inr (1, [.ref ax, .int len])), (ax, .inl (cB, n, .inl f)), (h0, .inr (7, [.ref aw, .ref ac, .int n2, .int lim, .int 1, .int cc, .ref ao, .int n29])), (ac, .inr (3, [.ref afi, .ref alk, .ref alt, .int x4, .ref aop, .ref ava, .ref apt, .ref ael, .int lc, .ref alb])), (apt, .inl (cpt, 5000, .inl n32)), (ael, .inl (cel, 5000, .inl f8)), (ao, .inl (co, 100, .inl go))] H := hP
            have hD : va_D A [(aop, .inl (cop, 5000, .inl f5)), (ava, .inl (cva, 5000, .inr (.inl f6))), (alb, .inl (clb, 2000, .inl glb)), (aw, .inr (10, wf)), (ab, .inr (1, [.ref ax, .int len])), (ax, .inl (cB, n, .inl f)), (h0, .inr (7, [.ref aw, .ref ac, .int n2, .int lim, .int 1, .int cc, .ref ao, .int n29])), (ac, .inr (3, [.ref afi, .ref alk, .ref alt, .int x4, .ref aop, .ref ava, .ref apt, .ref ael, .int lc, .ref alb])), (apt, .inl (cpt, 5000, .inl n32)), (ael, .inl (cel, 5000, .inl f8)), (ao, .inl (co, 100, .inl go))] := hD
            have zz : 0 ≤ n29.toInt ∧ n29.toInt ≤ 100 := bsr26.elim (fun q => by have w1 := eqI (iZ q).2.1; omega) (fun q => by have w1 := (iO q).2.1; have w2 := (iO q).1; omega)
            have hP9 := hP.sub (ws' := [(h0, .inr (7, [.ref aw, .ref ac, .int n2, .int lim, .int 1, .int cc, .ref ao, .int n29])), (aw, .inr (10, wf)), (ab, .inr (1, [.ref ax, .int len])), (ax, .inl (cB, n, .inl f)), (ac, .inr (3, [.ref afi, .ref alk, .ref alt, .int x4, .ref aop, .ref ava, .ref apt, .ref ael, .int lc, .ref alb])), (aop, .inl (cop, 5000, .inl f5)), (ava, .inl (cva, 5000, .inr (.inl f6))), (apt, .inl (cpt, 5000, .inl n32)), (ael, .inl (cel, 5000, .inl f8)), (alb, .inl (clb, 2000, .inl glb)), (ao, .inl (co, 100, .inl go))]) [6, 3, 4, 5, 7, 0, 1, 8, 9, 2, 10] rfl
            have hD9 := hD.sub (ws' := [(h0, .inr (7, [.ref aw, .ref ac, .int n2, .int lim, .int 1, .int cc, .ref ao, .int n29])), (aw, .inr (10, wf)), (ab, .inr (1, [.ref ax, .int len])), (ax, .inl (cB, n, .inl f)), (ac, .inr (3, [.ref afi, .ref alk, .ref alt, .int x4, .ref aop, .ref ava, .ref apt, .ref ael, .int lc, .ref alb])), (aop, .inl (cop, 5000, .inl f5)), (ava, .inl (cva, 5000, .inr (.inl f6))), (apt, .inl (cpt, 5000, .inl n32)), (ael, .inl (cel, 5000, .inl f8)), (alb, .inl (clb, 2000, .inl glb)), (ao, .inl (co, 100, .inl go))]) [6, 3, 4, 5, 7, 0, 1, 8, 9, 2, 10] (by decide) rfl
            exact W.zret (v := r26) hx hb hr (zn01 (by first | exact Or.inl rfl | exact Or.inr rfl | exact hrr26)) (fun t ht hW => ⟨⟨r26, (n2, 1, n29, x4, lc, f5, f6, n32, f8, glb, go), rfl, ⟨hrr26, (Or.inr rfl), by (try dsimp only); clear iZ iO; omega, by (try dsimp only); clear iZ iO; omega, by (try dsimp only); clear iZ iO; omega, by (try dsimp only); clear iZ iO; omega, by (try dsimp only); clear iZ iO; omega, by (try dsimp only); clear iZ iO; omega, by (try dsimp only); clear iZ iO; omega, by (try dsimp only); clear iZ iO; omega, hlb, hel, fun z => ⟨by clear iZ iO; omega, by (try dsimp only); clear iZ iO; omega, by (try dsimp only); clear iZ iO; omega, ⟨r1, by clear iZ iO; omega, ef5.symm, Or.inr (Or.inr (Or.inl ⟨by clear iZ iO; omega, rfl, rfl, rfl, ef8.symm, ef6.symm, fun z => ⟨(iZ z).1, (iZ z).2.1.symm, by rw [(iZ z).2.2, ef7]⟩, fun z => ⟨(iO z).1, (iO z).2.1, by rw [(iO z).2.2, ef8, ef7]⟩⟩))⟩⟩⟩, by rw [ht]; exact hP9, va_K.moved hW.alike hK, hD9⟩, hS.F ht⟩) hS.2.2 d_RE_readInstruction_393
          · skip
            by_cases g99_394 : r1.toInt = 12 ∨ r1.toInt = 13 ∨ r1.toInt = 16 ∨ r1.toInt = 32 ∨ r1.toInt = 33 ∨ r1.toInt = 34 ∨ r1.toInt = 35 ∨ r1.toInt = 36
            · have ho99 : tab_off 366 2 66 #[273, 273, 273, 281, 366, 366, 366, 366, 366, 289, 295, 295, 314, 366, 295, 366, 366, 366, 366, 366, 366, 366, 366, 366, 366, 366, 366, 366, 366, 366, 295, 295, 295, 295, 295, 366, 366, 366, 366, 366, 366, 366, 366, 366, 366, 366, 366, 366, 366, 366, 366, 366, 366, 366, 366, 366, 366, 366, 366, 366, 366, 322, 322, 330, 348] r1.toInt = 295 := by rcases g99_394 with z | z | z | z | z | z | z | z <;> (rw [z]; rfl)
              refine lv_tab (tgt := 394) hx hb d_RE_readInstruction_99 (by decide) ho99 (by decide) ?_
              clear ho99
              refine lv_aload_n hx hb d_RE_readInstruction_394 rfl (lv_at hl 2 rfl) ?_
              refine va_get (D := (dC, dI)) (ci := 7) (v := .ref ac) (C := R_RE) (T := F_RE) (N := 8) hx hb hts i_RE hown hK hP 7 rfl rfl 1 (by decide) (hts _ kF_RE_25) (fun _ h9 => h9) rfl d_RE_readInstruction_395 ?_
              refine va_get (D := (dC, dI)) (ci := 3) (v := .ref ava) (C := R_CD) (T := F_CD) (N := 10) hx hb hts i_CD hown hK hP 0 rfl rfl 5 (by decide) (hts _ kF_RE_197) (fun _ h9 => h9) rfl d_RE_readInstruction_398 ?_
              refine lv_iload_n hx hb d_RE_readInstruction_401 rfl (lv_at hl 0 rfl) ?_
              refine lv_aload_n hx hb d_RE_readInstruction_402 rfl (lv_at hl 2 rfl) ?_
              refine lv_ldc2 hx hb hown (hts _ kL_RE_82) d_RE_readInstruction_403 ?_
              refine lv_topl (fun x35 ex35 => ?_)
              have tx35 : x35.toInt = 2147483647 := by rw [ex35]; decide
              have hPc := hP.sub (ws' := [(h0, .inr (7, [.ref aw, .ref ac, .int n2, .int lim, .int 1, .int cc, .ref ao, .int oc])), (aw, .inr (10, wf)), (ab, .inr (1, [.ref ax, .int len])), (ax, .inl (cB, n, .inl f))]) [7, 8, 9, 10] rfl
              have hDc := hD.sub (ws' := [(h0, .inr (7, [.ref aw, .ref ac, .int n2, .int lim, .int 1, .int cc, .ref ao, .int oc])), (aw, .inr (10, wf)), (ab, .inr (1, [.ref ax, .int len])), (ax, .inl (cB, n, .inl f))]) [7, 8, 9, 10] (by decide) rfl
              have hKc := hK.sub (tys' := [(cB, .byte)]) [0] rfl
              have hFc := va_free (wc := [(h0, .inr (7, [.ref aw, .ref ac, .int n2, .int lim, .int 1, .int cc, .ref ao, .int oc])), (aw, .inr (10, wf)), (ab, .inr (1, [.ref ax, .int len])), (ax, .inl (cB, n, .inl f))]) hD hS hA [7, 8, 9, 10] rfl
              refine va_calll (va_runV (As := [.long x35]) (rest := [.int cl, .ref ava]) ⟨hx, hb, hml, hown, hts⟩ (c_RE_readUnsigned l dC dI h0 aw ac ao ab ax H.size cB n n2 lim 1 cc oc len f wf pwf pwl (Or.inr rfl) (by omega) x35 (by omega)) (cwV 1 hts (gV kM_RE_64 kV_RE_readUnsigned kS_RE_readUnsigned kI_RE kC_RE_readUnsigned) rfl rfl rfl (by decide +kernel) ⟨Nat.le_of_ble_eq_true rfl, Nat.le_of_ble_eq_true rfl⟩) ⟨fun a U g mk z => by obtain ⟨z0, z1, zP, zK, zD⟩ := z; exact ⟨z0, z1, zP, va_K.moved (u := U) (U := U.calling g mk a) (Vm.Alike.refl U.vm) zK, zD⟩, va_recv hKc hPc (ci := 7) (q0 := 0) rfl rfl, fun U hU hW => ⟨rfl, by rw [hU], by rw [hU]; exact hPc, va_K.moved hW.alike hKc, hDc.weaken (fun _ _ _ _ => trivial)⟩⟩ rfl rfl hl.1 rfl (lv_room (Nat.le_of_ble_eq_true rfl)) d_RE_readInstruction_406 ⟨(Nat.zero_le _), (Nat.zero_le _)⟩) hS (fun q _ h => hFc q h) hFc (fun r36 u t H1 locs ht hvm hw hB hz1 hk1 hS => ?_)
              obtain ⟨n37, n38⟩ := u
              try dsimp only at hw
              obtain ⟨hsn38, tn37⟩ := hw
              have bsn38 := b01 hsn38
              obtain ⟨hP1, hK1, hD1⟩ := hB
              rw [ht] at hP1
              obtain ⟨hP, hD⟩ := va_join (wr := [(ac, .inr (3, [.ref afi, .ref alk, .ref alt, .int x4, .ref aop, .ref ava, .ref apt, .ref ael, .int lc, .ref alb])), (aop, .inl (cop, 5000, .inl f5)), (ava, .inl (cva, 5000, .inr (.inl f6))), (apt, .inl (cpt, 5000, .inl f7)), (ael, .inl (cel, 5000, .inl f8)), (alb, .inl (clb, 2000, .inl glb)), (ao, .inl (co, 100, .inl go))]) (w1 := [(h0, .inr (7, [.ref aw, .ref ac, .int n37, .int lim, .int n38, .int cc, .ref ao, .int oc])), (aw, .inr (10, wf)), (ab, .inr (1, [.ref ax, .int len])), (ax, .inl (cB, n, .inl f))]) hP hD [7, 8, 9, 10] [0, 1, 2, 3, 4, 5, 6] rfl rfl (by decide) (by decide) hk1 hFc hP1 hD1
              clear hPc hDc hKc hFc hz1 hk1 hP1 hK1 hD1
              generalize H1 = H at hP hS ⊢
              have hP : va_P (dC, dI) cls [(ac, .inr (3, [.ref afi, .ref alk, .ref alt, .int x4, .ref aop, .ref ava, .ref apt, .ref ael, .int lc, .ref alb])), (aop, .inl (cop, 5000, .inl f5)), (ava, .inl (cva, 5000, .inr (.inl f6))), (apt, .inl (cpt, 5000, .inl f7)), (ael, .inl (cel, 5000, .inl f8)), (alb, .inl (clb, 2000, .inl glb)), (ao, .inl (co, 100, .inl go)), (h0, .inr (7, [.ref aw, .ref ac, .int n37, .int lim, .int n38, .int cc, .ref ao, .int oc])), (aw, .inr (10, wf)), (ab, .inr (1, [.ref ax, .int len])), (ax, .inl (cB, n, .inl f))] H := hP
              have hD : va_D A [(ac, .inr (3, [.ref afi, .ref alk, .ref alt, .int x4, .ref aop, .ref ava, .ref apt, .ref ael, .int lc, .ref alb])), (aop, .inl (cop, 5000, .inl f5)), (ava, .inl (cva, 5000, .inr (.inl f6))), (apt, .inl (cpt, 5000, .inl f7)), (ael, .inl (cel, 5000, .inl f8)), (alb, .inl (clb, 2000, .inl glb)), (ao, .inl (co, 100, .inl go)), (h0, .inr (7, [.ref aw, .ref ac, .int n37, .int lim, .int n38, .int cc, .ref ao, .int oc])), (aw, .inr (10, wf)), (ab, .inr (1, [.ref ax, .int len])), (ax, .inl (cB, n, .inl f))] := hD
              have g409 : vp_in cl 5000 := vp_in_iff.mpr ⟨by omega, by omega⟩
              refine va_last hx hb hK hP hD hS 2 2 rfl rfl g409 d_RE_readInstruction_409 (fun H locs hP hD hS => ?_)
              generalize ef39 : vp_updL f6 cl.toNatClampNeg r36 = f39 at hP hD
              refine lv_goto (tgt := 471) hx hb d_RE_readInstruction_410 (by decide) ?_
              refine lv_iconst (v := 1) hx hb d_RE_readInstruction_471 (by decide) ?_
              have hP9 := hP.sub (ws' := [(h0, .inr (7, [.ref aw, .ref ac, .int n37, .int lim, .int n38, .int cc, .ref ao, .int oc])), (aw, .inr (10, wf)), (ab, .inr (1, [.ref ax, .int len])), (ax, .inl (cB, n, .inl f)), (ac, .inr (3, [.ref afi, .ref alk, .ref alt, .int x4, .ref aop, .ref ava, .ref apt, .ref ael, .int lc, .ref alb])), (aop, .inl (cop, 5000, .inl f5)), (ava, .inl (cva, 5000, .inr (.inl f39))), (apt, .inl (cpt, 5000, .inl f7)), (ael, .inl (cel, 5000, .inl f8)), (alb, .inl (clb, 2000, .inl glb)), (ao, .inl (co, 100, .inl go))]) [7, 8, 9, 10, 0, 1, 2, 3, 4, 5, 6] rfl
              have hD9 := hD.sub (ws' := [(h0, .inr (7, [.ref aw, .ref ac, .int n37, .int lim, .int n38, .int cc, .ref ao, .int oc])), (aw, .inr (10, wf)), (ab, .inr (1, [.ref ax, .int len])), (ax, .inl (cB, n, .inl f)), (ac, .inr (3, [.ref afi, .ref alk, .ref alt, .int x4, .ref aop, .ref ava, .ref apt, .ref ael, .int lc, .ref alb])), (aop, .inl (cop, 5000, .inl f5)), (ava, .inl (cva, 5000, .inr (.inl f39))), (apt, .inl (cpt, 5000, .inl f7)), (ael, .inl (cel, 5000, .inl f8)), (alb, .inl (clb, 2000, .inl glb)), (ao, .inl (co, 100, .inl go))]) [7, 8, 9, 10, 0, 1, 2, 3, 4, 5, 6] (by decide) rfl
              exact W.zret (v := 1) hx hb hr (zn01 (by first | exact Or.inl rfl | exact Or.inr rfl | exact hr1)) (fun t ht hW => ⟨⟨1, (n37, n38, oc, x4, lc, f5, f39, f7, f8, glb, go), rfl, ⟨Or.inr rfl, hsn38, by (try dsimp only); omega, by (try dsimp only); omega, by (try dsimp only); omega, by (try dsimp only); omega, by (try dsimp only); omega, by (try dsimp only); omega, by (try dsimp only); omega, by (try dsimp only); omega, hlb, hel, fun z => by have y : n38.toInt = 1 := z; exact ⟨by omega, by (try dsimp only); omega, by (try dsimp only); omega, ⟨r1, by omega, ef5.symm, Or.inr (Or.inr (Or.inr (Or.inl ⟨by omega, k1, rfl, rfl, rfl, rfl, ef7.symm, ef8.symm, r36, by omega, by omega, by rw [ef6]; exact ef39.symm⟩)))⟩⟩⟩, by rw [ht]; exact hP9, va_K.moved hW.alike hK, hD9⟩, hS.F ht⟩) hS.2.2 d_RE_readInstruction_472
            · skip
              by_cases g99_413 : r1.toInt = 14
              · have ho99 : tab_off 366 2 66 #[273, 273, 273, 281, 366, 366, 366, 366, 366, 289, 295, 295, 314, 366, 295, 366, 366, 366, 366, 366, 366, 366, 366, 366, 366, 366, 366, 366, 366, 366, 295, 295, 295, 295, 295, 366, 366, 366, 366, 366, 366, 366, 366, 366, 366, 366, 366, 366, 366, 366, 366, 366, 366, 366, 366, 366, 366, 366, 366, 366, 366, 322, 322, 330, 348] r1.toInt = 314 := by rw [g99_413]; rfl
                refine lv_tab (tgt := 413) hx hb d_RE_readInstruction_99 (by decide) ho99 (by decide) ?_
                clear ho99
                refine lv_aload_n hx hb d_RE_readInstruction_413 rfl (lv_at hl 2 rfl) ?_
                refine lv_iload_n hx hb d_RE_readInstruction_414 rfl (lv_at hl 0 rfl) ?_
                have hPc := hP.sub (ws' := [(h0, .inr (7, [.ref aw, .ref ac, .int n2, .int lim, .int 1, .int cc, .ref ao, .int oc])), (aw, .inr (10, wf)), (ab, .inr (1, [.ref ax, .int len])), (ax, .inl (cB, n, .inl f)), (ac, .inr (3, [.ref afi, .ref alk, .ref alt, .int x4, .ref aop, .ref ava, .ref apt, .ref ael, .int lc, .ref alb])), (ava, .inl (cva, 5000, .inr (.inl f6))), (apt, .inl (cpt, 5000, .inl f7)), (alb, .inl (clb, 2000, .inl glb))]) [7, 8, 9, 10, 0, 2, 3, 5] rfl
                have hDc := hD.sub (ws' := [(h0, .inr (7, [.ref aw, .ref ac, .int n2, .int lim, .int 1, .int cc, .ref ao, .int oc])), (aw, .inr (10, wf)), (ab, .inr (1, [.ref ax, .int len])), (ax, .inl (cB, n, .inl f)), (ac, .inr (3, [.ref afi, .ref alk, .ref alt, .int x4, .ref aop, .ref ava, .ref apt, .ref ael, .int lc, .ref alb])), (ava, .inl (cva, 5000, .inr (.inl f6))), (apt, .inl (cpt, 5000, .inl f7)), (alb, .inl (clb, 2000, .inl glb))]) [7, 8, 9, 10, 0, 2, 3, 5] (by decide) rfl
                have hKc := hK.sub (tys' := [(cB, .byte), (cva, .long), (cpt, .int), (clb, .int)]) [0, 2, 3, 5] rfl
                have hFc := va_free (wc := [(h0, .inr (7, [.ref aw, .ref ac, .int n2, .int lim, .int 1, .int cc, .ref ao, .int oc])), (aw, .inr (10, wf)), (ab, .inr (1, [.ref ax, .int len])), (ax, .inl (cB, n, .inl f)), (ac, .inr (3, [.ref afi, .ref alk, .ref alt, .int x4, .ref aop, .ref ava, .ref apt, .ref ael, .int lc, .ref alb])), (ava, .inl (cva, 5000, .inr (.inl f6))), (apt, .inl (cpt, 5000, .inl f7)), (alb, .inl (clb, 2000, .inl glb))]) hD hS hA [7, 8, 9, 10, 0, 2, 3, 5] rfl
                refine va_callv (va_runV (As := [.int cl]) (rest := []) ⟨hx, hb, hml, hown, hts⟩ (c_RE_readTable l dC dI H.size h0 aw ac ao ab ax lim cc cB n len f wf pwf pwl afi alk alt aop ava apt ael alb cva cpt clb n2 1 oc x4 lc f6 f7 glb (Or.inr rfl) (by omega) (by omega) cl (by omega) hlb (by omega)) (cwV 1 hts (gV kM_RE_216 kV_RE_readTable kS_RE_readTable kI_RE kC_RE_readTable) rfl rfl rfl (by decide +kernel) ⟨Nat.le_of_ble_eq_true rfl, Nat.le_of_ble_eq_true rfl⟩) ⟨fun a U g mk z => by obtain ⟨z0, z1, zP, zK, zD⟩ := z; exact ⟨z0, z1, zP, va_K.moved (u := U) (U := U.calling g mk a) (Vm.Alike.refl U.vm) zK, zD⟩, va_recv hKc hPc (ci := 7) (q0 := 0) rfl rfl, fun U hU hW => ⟨rfl, by rw [hU], by rw [hU]; exact hPc, va_K.moved hW.alike hKc, hDc.weaken (fun _ _ _ _ => trivial)⟩⟩ rfl rfl hl.1 rfl (lv_room (Nat.le_of_ble_eq_true rfl)) d_RE_readInstruction_415 ⟨(Nat.zero_le _), (Nat.zero_le _)⟩) hS (fun q _ h => hFc q h) hFc (fun u t H1 locs ht hvm hw hB hz1 hk1 hS => ?_)
                obtain ⟨n41, n42, n43, n44, n45, n46, n47, n48⟩ := u
                try dsimp only at hw
                have hwn41 := hw
                clear hw
                obtain ⟨hsn42, i1, i2, rfl, rfl, i3, i4, iL, iT⟩ := hwn41
                have bsn42 := b01 hsn42
                obtain ⟨hP1, hK1, hD1⟩ := hB
                rw [ht] at hP1
                obtain ⟨hP, hD⟩ := va_join (wr := [(aop, .inl (cop, 5000, .inl f5)), (ael, .inl (cel, 5000, .inl f8)), (ao, .inl (co, 100, .inl go))]) (w1 := [(h0, .inr (7, [.ref aw, .ref ac, .int n41, .int lim, .int n42, .int cc, .ref ao, .int oc])), (aw, .inr (10, wf)), (ab, .inr (1, [.ref ax, .int len])), (ax, .inl (cB, n, .inl f)), (ac, .inr (3, [.ref afi, .ref alk, .ref alt, .int x4, .ref aop, .ref ava, .ref apt, .ref ael, .int n45, .ref alb])), (ava, .inl (cva, 5000, .inr (.inl n46))), (apt, .inl (cpt, 5000, .inl n47)), (alb, .inl (clb, 2000, .inl n48))]) hP hD [7, 8, 9, 10, 0, 2, 3, 5] [1, 4, 6] rfl rfl (by decide) (by decide) hk1 hFc hP1 hD1
                clear hPc hDc hKc hFc hz1 hk1 hP1 hK1 hD1
                generalize H1 = H at hP hS ⊢
                have hP : va_P (dC, dI) cls [(aop, .inl (cop, 5000, .inl f5)), (ael, .inl (cel, 5000, .inl f8)), (ao, .inl (co, 100, .inl go)), (h0, .inr (7, [.ref aw, .ref ac, .int n41, .int lim, .int n42, .int cc, .ref ao, .int oc])), (aw, .inr (10, wf)), (ab, .inr (1, [.ref ax, .int len])), (ax, .inl (cB, n, .inl f)), (ac, .inr (3, [.ref afi, .ref alk, .ref alt, .int x4, .ref aop, .ref ava, .ref apt, .ref ael, .int n45, .ref alb])), (ava, .inl (cva, 5000, .inr (.inl n46))), (apt, .inl (cpt, 5000, .inl n47)), (alb, .inl (clb, 2000, .inl n48))] H := hP
                have hD : va_D A [(aop, .inl (cop, 5000, .inl f5)), (ael, .inl (cel, 5000, .inl f8)), (ao, .inl (co, 100, .inl go)), (h0, .inr (7, [.ref aw, .ref ac, .int n41, .int lim, .int n42, .int cc, .ref ao, .int oc])), (aw, .inr (10, wf)), (ab, .inr (1, [.ref ax, .int len])), (ax, .inl (cB, n, .inl f)), (ac, .inr (3, [.ref afi, .ref alk, .ref alt, .int x4, .ref aop, .ref ava, .ref apt, .ref ael, .int n45, .ref alb])), (ava, .inl (cva, 5000, .inr (.inl n46))), (apt, .inl (cpt, 5000, .inl n47)), (alb, .inl (clb, 2000, .inl n48))] := hD
                refine lv_goto (tgt := 471) hx hb d_RE_readInstruction_418 (by decide) ?_
                refine lv_iconst (v := 1) hx hb d_RE_readInstruction_471 (by decide) ?_
                have hP9 := hP.sub (ws' := [(h0, .inr (7, [.ref aw, .ref ac, .int n41, .int lim, .int n42, .int cc, .ref ao, .int oc])), (aw, .inr (10, wf)), (ab, .inr (1, [.ref ax, .int len])), (ax, .inl (cB, n, .inl f)), (ac, .inr (3, [.ref afi, .ref alk, .ref alt, .int x4, .ref aop, .ref ava, .ref apt, .ref ael, .int n45, .ref alb])), (aop, .inl (cop, 5000, .inl f5)), (ava, .inl (cva, 5000, .inr (.inl n46))), (apt, .inl (cpt, 5000, .inl n47)), (ael, .inl (cel, 5000, .inl f8)), (alb, .inl (clb, 2000, .inl n48)), (ao, .inl (co, 100, .inl go))]) [3, 4, 5, 6, 7, 0, 8, 9, 1, 10, 2] rfl
                have hD9 := hD.sub (ws' := [(h0, .inr (7, [.ref aw, .ref ac, .int n41, .int lim, .int n42, .int cc, .ref ao, .int oc])), (aw, .inr (10, wf)), (ab, .inr (1, [.ref ax, .int len])), (ax, .inl (cB, n, .inl f)), (ac, .inr (3, [.ref afi, .ref alk, .ref alt, .int x4, .ref aop, .ref ava, .ref apt, .ref ael, .int n45, .ref alb])), (aop, .inl (cop, 5000, .inl f5)), (ava, .inl (cva, 5000, .inr (.inl n46))), (apt, .inl (cpt, 5000, .inl n47)), (ael, .inl (cel, 5000, .inl f8)), (alb, .inl (clb, 2000, .inl n48)), (ao, .inl (co, 100, .inl go))]) [3, 4, 5, 6, 7, 0, 8, 9, 1, 10, 2] (by decide) rfl
                exact W.zret (v := 1) hx hb hr (zn01 (by first | exact Or.inl rfl | exact Or.inr rfl | exact hr1)) (fun t ht hW => ⟨⟨1, (n41, n42, oc, x4, n45, f5, n46, n47, f8, n48, go), rfl, ⟨Or.inr rfl, hsn42, by (try dsimp only); clear iT; omega, by (try dsimp only); clear iT; omega, by (try dsimp only); clear iT; omega, by (try dsimp only); clear iT; omega, by (try dsimp only); clear iT; omega, by (try dsimp only); clear iT; omega, by (try dsimp only); clear iT; omega, by (try dsimp only); clear iT; omega, iL, hel, fun z => by have y : n42.toInt = 1 := z; have y1 := (iT y).1; have y2 := (iT y).2.1; exact ⟨by clear iT; omega, by (try dsimp only); clear iT; omega, by (try dsimp only); clear iT; omega, ⟨r1, by clear iT; omega, ef5.symm, Or.inr (Or.inr (Or.inr (Or.inr (Or.inl ⟨by clear iT; omega, k1, rfl, rfl, ef8.symm, by obtain ⟨b9, x9, q1, q2, q3, q4, q5, q6⟩ := (iT y).2.2; exact ⟨b9, x9, q1, q2, q3, q4, by rw [q5, ef6], by rw [q6, ef7]⟩⟩))))⟩⟩⟩, by rw [ht]; exact hP9, va_K.moved hW.alike hK, hD9⟩, hS.F ht⟩) hS.2.2 d_RE_readInstruction_472
              · skip
                by_cases g99_421 : r1.toInt = 63 ∨ r1.toInt = 64
                · have ho99 : tab_off 366 2 66 #[273, 273, 273, 281, 366, 366, 366, 366, 366, 289, 295, 295, 314, 366, 295, 366, 366, 366, 366, 366, 366, 366, 366, 366, 366, 366, 366, 366, 366, 366, 295, 295, 295, 295, 295, 366, 366, 366, 366, 366, 366, 366, 366, 366, 366, 366, 366, 366, 366, 366, 366, 366, 366, 366, 366, 366, 366, 366, 366, 366, 366, 322, 322, 330, 348] r1.toInt = 322 := by rcases g99_421 with z | z <;> (rw [z]; rfl)
                  refine lv_tab (tgt := 421) hx hb d_RE_readInstruction_99 (by decide) ho99 (by decide) ?_
                  clear ho99
                  refine lv_aload_n hx hb d_RE_readInstruction_421 rfl (lv_at hl 2 rfl) ?_
                  refine lv_iconst (v := 0) hx hb d_RE_readInstruction_422 (by decide) ?_
                  have hPc := hP.sub (ws' := [(h0, .inr (7, [.ref aw, .ref ac, .int n2, .int lim, .int 1, .int cc, .ref ao, .int oc])), (aw, .inr (10, wf)), (ab, .inr (1, [.ref ax, .int len])), (ax, .inl (cB, n, .inl f))]) [7, 8, 9, 10] rfl
                  have hDc := hD.sub (ws' := [(h0, .inr (7, [.ref aw, .ref ac, .int n2, .int lim, .int 1, .int cc, .ref ao, .int oc])), (aw, .inr (10, wf)), (ab, .inr (1, [.ref ax, .int len])), (ax, .inl (cB, n, .inl f))]) [7, 8, 9, 10] (by decide) rfl
                  have hKc := hK.sub (tys' := [(cB, .byte)]) [0] rfl
                  have hFc := va_free (wc := [(h0, .inr (7, [.ref aw, .ref ac, .int n2, .int lim, .int 1, .int cc, .ref ao, .int oc])), (aw, .inr (10, wf)), (ab, .inr (1, [.ref ax, .int len])), (ax, .inl (cB, n, .inl f))]) hD hS hA [7, 8, 9, 10] rfl
                  refine va_callv (va_runV (As := [.int 0]) (rest := []) ⟨hx, hb, hml, hown, hts⟩ (c_RE_expect l dC dI h0 aw ac ao ab ax H.size cB n n2 lim 1 cc oc len f wf pwf pwl (Or.inr rfl) (by omega) 0) (cwV 1 hts (gV kM_RE_56 kV_RE_expect kS_RE_expect kI_RE kC_RE_expect) rfl rfl rfl (by decide +kernel) ⟨Nat.le_of_ble_eq_true rfl, Nat.le_of_ble_eq_true rfl⟩) ⟨fun a U g mk z => by obtain ⟨z0, z1, zP, zK, zD⟩ := z; exact ⟨z0, z1, zP, va_K.moved (u := U) (U := U.calling g mk a) (Vm.Alike.refl U.vm) zK, zD⟩, va_recv hKc hPc (ci := 7) (q0 := 0) rfl rfl, fun U hU hW => ⟨rfl, by rw [hU], by rw [hU]; exact hPc, va_K.moved hW.alike hKc, hDc.weaken (fun _ _ _ _ => trivial)⟩⟩ rfl rfl hl.1 rfl (lv_room (Nat.le_of_ble_eq_true rfl)) d_RE_readInstruction_423 ⟨(Nat.zero_le _), (Nat.zero_le _)⟩) hS (fun q _ h => hFc q h) hFc (fun u t H1 locs ht hvm hw hB hz1 hk1 hS => ?_)
                  obtain ⟨n50, n51⟩ := u
                  try dsimp only at hw
                  obtain ⟨hsn51, tn50⟩ := hw
                  have bsn51 := b01 hsn51
                  obtain ⟨hP1, hK1, hD1⟩ := hB
                  rw [ht] at hP1
                  obtain ⟨hP, hD⟩ := va_join (wr := [(ac, .inr (3, [.ref afi, .ref alk, .ref alt, .int x4, .ref aop, .ref ava, .ref apt, .ref ael, .int lc, .ref alb])), (aop, .inl (cop, 5000, .inl f5)), (ava, .inl (cva, 5000, .inr (.inl f6))), (apt, .inl (cpt, 5000, .inl f7)), (ael, .inl (cel, 5000, .inl f8)), (alb, .inl (clb, 2000, .inl glb)), (ao, .inl (co, 100, .inl go))]) (w1 := [(h0, .inr (7, [.ref aw, .ref ac, .int n50, .int lim, .int n51, .int cc, .ref ao, .int oc])), (aw, .inr (10, wf)), (ab, .inr (1, [.ref ax, .int len])), (ax, .inl (cB, n, .inl f))]) hP hD [7, 8, 9, 10] [0, 1, 2, 3, 4, 5, 6] rfl rfl (by decide) (by decide) hk1 hFc hP1 hD1
                  clear hPc hDc hKc hFc hz1 hk1 hP1 hK1 hD1
                  generalize H1 = H at hP hS ⊢
                  have hP : va_P (dC, dI) cls [(ac, .inr (3, [.ref afi, .ref alk, .ref alt, .int x4, .ref aop, .ref ava, .ref apt, .ref ael, .int lc, .ref alb])), (aop, .inl (cop, 5000, .inl f5)), (ava, .inl (cva, 5000, .inr (.inl f6))), (apt, .inl (cpt, 5000, .inl f7)), (ael, .inl (cel, 5000, .inl f8)), (alb, .inl (clb, 2000, .inl glb)), (ao, .inl (co, 100, .inl go)), (h0, .inr (7, [.ref aw, .ref ac, .int n50, .int lim, .int n51, .int cc, .ref ao, .int oc])), (aw, .inr (10, wf)), (ab, .inr (1, [.ref ax, .int len])), (ax, .inl (cB, n, .inl f))] H := hP
                  have hD : va_D A [(ac, .inr (3, [.ref afi, .ref alk, .ref alt, .int x4, .ref aop, .ref ava, .ref apt, .ref ael, .int lc, .ref alb])), (aop, .inl (cop, 5000, .inl f5)), (ava, .inl (cva, 5000, .inr (.inl f6))), (apt, .inl (cpt, 5000, .inl f7)), (ael, .inl (cel, 5000, .inl f8)), (alb, .inl (clb, 2000, .inl glb)), (ao, .inl (co, 100, .inl go)), (h0, .inr (7, [.ref aw, .ref ac, .int n50, .int lim, .int n51, .int cc, .ref ao, .int oc])), (aw, .inr (10, wf)), (ab, .inr (1, [.ref ax, .int len])), (ax, .inl (cB, n, .inl f))] := hD
                  refine lv_goto (tgt := 471) hx hb d_RE_readInstruction_426 (by decide) ?_
                  refine lv_iconst (v := 1) hx hb d_RE_readInstruction_471 (by decide) ?_
                  have hP9 := hP.sub (ws' := [(h0, .inr (7, [.ref aw, .ref ac, .int n50, .int lim, .int n51, .int cc, .ref ao, .int oc])), (aw, .inr (10, wf)), (ab, .inr (1, [.ref ax, .int len])), (ax, .inl (cB, n, .inl f)), (ac, .inr (3, [.ref afi, .ref alk, .ref alt, .int x4, .ref aop, .ref ava, .ref apt, .ref ael, .int lc, .ref alb])), (aop, .inl (cop, 5000, .inl f5)), (ava, .inl (cva, 5000, .inr (.inl f6))), (apt, .inl (cpt, 5000, .inl f7)), (ael, .inl (cel, 5000, .inl f8)), (alb, .inl (clb, 2000, .inl glb)), (ao, .inl (co, 100, .inl go))]) [7, 8, 9, 10, 0, 1, 2, 3, 4, 5, 6] rfl
                  have hD9 := hD.sub (ws' := [(h0, .inr (7, [.ref aw, .ref ac, .int n50, .int lim, .int n51, .int cc, .ref ao, .int oc])), (aw, .inr (10, wf)), (ab, .inr (1, [.ref ax, .int len])), (ax, .inl (cB, n, .inl f)), (ac, .inr (3, [.ref afi, .ref alk, .ref alt, .int x4, .ref aop, .ref ava, .ref apt, .ref ael, .int lc, .ref alb])), (aop, .inl (cop, 5000, .inl f5)), (ava, .inl (cva, 5000, .inr (.inl f6))), (apt, .inl (cpt, 5000, .inl f7)), (ael, .inl (cel, 5000, .inl f8)), (alb, .inl (clb, 2000, .inl glb)), (ao, .inl (co, 100, .inl go))]) [7, 8, 9, 10, 0, 1, 2, 3, 4, 5, 6] (by decide) rfl
                  exact W.zret (v := 1) hx hb hr (zn01 (by first | exact Or.inl rfl | exact Or.inr rfl | exact hr1)) (fun t ht hW => ⟨⟨1, (n50, n51, oc, x4, lc, f5, f6, f7, f8, glb, go), rfl, ⟨Or.inr rfl, hsn51, by (try dsimp only); omega, by (try dsimp only); omega, by (try dsimp only); omega, by (try dsimp only); omega, by (try dsimp only); omega, by (try dsimp only); omega, by (try dsimp only); omega, by (try dsimp only); omega, hlb, hel, fun z => by have y : n51.toInt = 1 := z; exact ⟨by omega, by (try dsimp only); omega, by (try dsimp only); omega, ⟨r1, by omega, ef5.symm, Or.inr (Or.inr (Or.inr (Or.inr (Or.inr (Or.inl ⟨by omega, k1, rfl, rfl, rfl, rfl, ef7.symm, ef8.symm, ef6.symm⟩)))))⟩⟩⟩, by rw [ht]; exact hP9, va_K.moved hW.alike hK, hD9⟩, hS.F ht⟩) hS.2.2 d_RE_readInstruction_472
                · skip
                  by_cases g99_429 : r1.toInt = 65
                  · have ho99 : tab_off 366 2 66 #[273, 273, 273, 281, 366, 366, 366, 366, 366, 289, 295, 295, 314, 366, 295, 366, 366, 366, 366, 366, 366, 366, 366, 366, 366, 366, 366, 366, 366, 366, 295, 295, 295, 295, 295, 366, 366, 366, 366, 366, 366, 366, 366, 366, 366, 366, 366, 366, 366, 366, 366, 366, 366, 366, 366, 366, 366, 366, 366, 366, 366, 322, 322, 330, 348] r1.toInt = 330 := by rw [g99_429]; rfl
                    refine lv_tab (tgt := 429) hx hb d_RE_readInstruction_99 (by decide) ho99 (by decide) ?_
                    clear ho99
                    refine lv_aload_n hx hb d_RE_readInstruction_429 rfl (lv_at hl 2 rfl) ?_
                    refine va_get (D := (dC, dI)) (ci := 7) (v := .ref ac) (C := R_RE) (T := F_RE) (N := 8) hx hb hts i_RE hown hK hP 7 rfl rfl 1 (by decide) (hts _ kF_RE_25) (fun _ h9 => h9) rfl d_RE_readInstruction_430 ?_
                    refine va_get (D := (dC, dI)) (ci := 3) (v := .ref ava) (C := R_CD) (T := F_CD) (N := 10) hx hb hts i_CD hown hK hP 0 rfl rfl 5 (by decide) (hts _ kF_RE_197) (fun _ h9 => h9) rfl d_RE_readInstruction_433 ?_
                    refine lv_iload_n hx hb d_RE_readInstruction_436 rfl (lv_at hl 0 rfl) ?_
                    refine lv_aload_n hx hb d_RE_readInstruction_437 rfl (lv_at hl 2 rfl) ?_
                    refine lv_bipush (v := 32) hx hb d_RE_readInstruction_438 (by decide) ?_
                    have hPc := hP.sub (ws' := [(h0, .inr (7, [.ref aw, .ref ac, .int n2, .int lim, .int 1, .int cc, .ref ao, .int oc])), (aw, .inr (10, wf)), (ab, .inr (1, [.ref ax, .int len])), (ax, .inl (cB, n, .inl f))]) [7, 8, 9, 10] rfl
                    have hDc := hD.sub (ws' := [(h0, .inr (7, [.ref aw, .ref ac, .int n2, .int lim, .int 1, .int cc, .ref ao, .int oc])), (aw, .inr (10, wf)), (ab, .inr (1, [.ref ax, .int len])), (ax, .inl (cB, n, .inl f))]) [7, 8, 9, 10] (by decide) rfl
                    have hKc := hK.sub (tys' := [(cB, .byte)]) [0] rfl
                    have hFc := va_free (wc := [(h0, .inr (7, [.ref aw, .ref ac, .int n2, .int lim, .int 1, .int cc, .ref ao, .int oc])), (aw, .inr (10, wf)), (ab, .inr (1, [.ref ax, .int len])), (ax, .inl (cB, n, .inl f))]) hD hS hA [7, 8, 9, 10] rfl
                    refine va_calll (va_runV (As := [.int 32]) (rest := [.int cl, .ref ava]) ⟨hx, hb, hml, hown, hts⟩ (c_RE_readSigned l dC dI h0 aw ac ao ab ax H.size cB n n2 lim 1 cc oc len f wf pwf pwl (Or.inr rfl) (by omega) 32 (by omega)) (cwV 1 hts (gV kM_RE_149 kV_RE_readSigned kS_RE_readSigned kI_RE kC_RE_readSigned) rfl rfl rfl (by decide +kernel) ⟨Nat.le_of_ble_eq_true rfl, Nat.le_of_ble_eq_true rfl⟩) ⟨fun a U g mk z => by obtain ⟨z0, z1, zP, zK, zD⟩ := z; exact ⟨z0, z1, zP, va_K.moved (u := U) (U := U.calling g mk a) (Vm.Alike.refl U.vm) zK, zD⟩, va_recv hKc hPc (ci := 7) (q0 := 0) rfl rfl, fun U hU hW => ⟨rfl, by rw [hU], by rw [hU]; exact hPc, va_K.moved hW.alike hKc, hDc.weaken (fun _ _ _ _ => trivial)⟩⟩ rfl rfl hl.1 rfl (lv_room (Nat.le_of_ble_eq_true rfl)) d_RE_readInstruction_440 ⟨(Nat.zero_le _), (Nat.zero_le _)⟩) hS (fun q _ h => hFc q h) hFc (fun r52 u t H1 locs ht hvm hw hB hz1 hk1 hS => ?_)
                    obtain ⟨n53, n54⟩ := u
                    try dsimp only at hw
                    obtain ⟨hsn54, tn53⟩ := hw
                    have bsn54 := b01 hsn54
                    obtain ⟨hP1, hK1, hD1⟩ := hB
                    rw [ht] at hP1
                    obtain ⟨hP, hD⟩ := va_join (wr := [(ac, .inr (3, [.ref afi, .ref alk, .ref alt, .int x4, .ref aop, .ref ava, .ref apt, .ref ael, .int lc, .ref alb])), (aop, .inl (cop, 5000, .inl f5)), (ava, .inl (cva, 5000, .inr (.inl f6))), (apt, .inl (cpt, 5000, .inl f7)), (ael, .inl (cel, 5000, .inl f8)), (alb, .inl (clb, 2000, .inl glb)), (ao, .inl (co, 100, .inl go))]) (w1 := [(h0, .inr (7, [.ref aw, .ref ac, .int n53, .int lim, .int n54, .int cc, .ref ao, .int oc])), (aw, .inr (10, wf)), (ab, .inr (1, [.ref ax, .int len])), (ax, .inl (cB, n, .inl f))]) hP hD [7, 8, 9, 10] [0, 1, 2, 3, 4, 5, 6] rfl rfl (by decide) (by decide) hk1 hFc hP1 hD1
                    clear hPc hDc hKc hFc hz1 hk1 hP1 hK1 hD1
                    generalize H1 = H at hP hS ⊢
                    have hP : va_P (dC, dI) cls [(ac, .inr (3, [.ref afi, .ref alk, .ref alt, .int x4, .ref aop, .ref ava, .ref apt, .ref ael, .int lc, .ref alb])), (aop, .inl (cop, 5000, .inl f5)), (ava, .inl (cva, 5000, .inr (.inl f6))), (apt, .inl (cpt, 5000, .inl f7)), (ael, .inl (cel, 5000, .inl f8)), (alb, .inl (clb, 2000, .inl glb)), (ao, .inl (co, 100, .inl go)), (h0, .inr (7, [.ref aw, .ref ac, .int n53, .int lim, .int n54, .int cc, .ref ao, .int oc])), (aw, .inr (10, wf)), (ab, .inr (1, [.ref ax, .int len])), (ax, .inl (cB, n, .inl f))] H := hP
                    have hD : va_D A [(ac, .inr (3, [.ref afi, .ref alk, .ref alt, .int x4, .ref aop, .ref ava, .ref apt, .ref ael, .int lc, .ref alb])), (aop, .inl (cop, 5000, .inl f5)), (ava, .inl (cva, 5000, .inr (.inl f6))), (apt, .inl (cpt, 5000, .inl f7)), (ael, .inl (cel, 5000, .inl f8)), (alb, .inl (clb, 2000, .inl glb)), (ao, .inl (co, 100, .inl go)), (h0, .inr (7, [.ref aw, .ref ac, .int n53, .int lim, .int n54, .int cc, .ref ao, .int oc])), (aw, .inr (10, wf)), (ab, .inr (1, [.ref ax, .int len])), (ax, .inl (cB, n, .inl f))] := hD
                    have g443 : vp_in cl 5000 := vp_in_iff.mpr ⟨by omega, by omega⟩
                    refine va_last hx hb hK hP hD hS 2 2 rfl rfl g443 d_RE_readInstruction_443 (fun H locs hP hD hS => ?_)
                    generalize ef55 : vp_updL f6 cl.toNatClampNeg r52 = f55 at hP hD
                    refine lv_goto (tgt := 471) hx hb d_RE_readInstruction_444 (by decide) ?_
                    refine lv_iconst (v := 1) hx hb d_RE_readInstruction_471 (by decide) ?_
                    have hP9 := hP.sub (ws' := [(h0, .inr (7, [.ref aw, .ref ac, .int n53, .int lim, .int n54, .int cc, .ref ao, .int oc])), (aw, .inr (10, wf)), (ab, .inr (1, [.ref ax, .int len])), (ax, .inl (cB, n, .inl f)), (ac, .inr (3, [.ref afi, .ref alk, .ref alt, .int x4, .ref aop, .ref ava, .ref apt, .ref ael, .int lc, .ref alb])), (aop, .inl (cop, 5000, .inl f5)), (ava, .inl (cva, 5000, .inr (.inl f55))), (apt, .inl (cpt, 5000, .inl f7)), (ael, .inl (cel, 5000, .inl f8)), (alb, .inl (clb, 2000, .inl glb)), (ao, .inl (co, 100, .inl go))]) [7, 8, 9, 10, 0, 1, 2, 3, 4, 5, 6] rfl
                    have hD9 := hD.sub (ws' := [(h0, .inr (7, [.ref aw, .ref ac, .int n53, .int lim, .int n54, .int cc, .ref ao, .int oc])), (aw, .inr (10, wf)), (ab, .inr (1, [.ref ax, .int len])), (ax, .inl (cB, n, .inl f)), (ac, .inr (3, [.ref afi, .ref alk, .ref alt, .int x4, .ref aop, .ref ava, .ref apt, .ref ael, .int lc, .ref alb])), (aop, .inl (cop, 5000, .inl f5)), (ava, .inl (cva, 5000, .inr (.inl f55))), (apt, .inl (cpt, 5000, .inl f7)), (ael, .inl (cel, 5000, .inl f8)), (alb, .inl (clb, 2000, .inl glb)), (ao, .inl (co, 100, .inl go))]) [7, 8, 9, 10, 0, 1, 2, 3, 4, 5, 6] (by decide) rfl
                    exact W.zret (v := 1) hx hb hr (zn01 (by first | exact Or.inl rfl | exact Or.inr rfl | exact hr1)) (fun t ht hW => ⟨⟨1, (n53, n54, oc, x4, lc, f5, f55, f7, f8, glb, go), rfl, ⟨Or.inr rfl, hsn54, by (try dsimp only); omega, by (try dsimp only); omega, by (try dsimp only); omega, by (try dsimp only); omega, by (try dsimp only); omega, by (try dsimp only); omega, by (try dsimp only); omega, by (try dsimp only); omega, hlb, hel, fun z => by have y : n54.toInt = 1 := z; exact ⟨by omega, by (try dsimp only); omega, by (try dsimp only); omega, ⟨r1, by omega, ef5.symm, Or.inr (Or.inr (Or.inr (Or.inr (Or.inr (Or.inr (Or.inl ⟨by omega, k1, rfl, rfl, rfl, rfl, ef7.symm, ef8.symm, r52, by rw [ef6]; exact ef55.symm⟩))))))⟩⟩⟩, by rw [ht]; exact hP9, va_K.moved hW.alike hK, hD9⟩, hS.F ht⟩) hS.2.2 d_RE_readInstruction_472
                  · skip
                    by_cases g99_447 : r1.toInt = 66
                    · have ho99 : tab_off 366 2 66 #[273, 273, 273, 281, 366, 366, 366, 366, 366, 289, 295, 295, 314, 366, 295, 366, 366, 366, 366, 366, 366, 366, 366, 366, 366, 366, 366, 366, 366, 366, 295, 295, 295, 295, 295, 366, 366, 366, 366, 366, 366, 366, 366, 366, 366, 366, 366, 366, 366, 366, 366, 366, 366, 366, 366, 366, 366, 366, 366, 366, 366, 322, 322, 330, 348] r1.toInt = 348 := by rw [g99_447]; rfl
                      refine lv_tab (tgt := 447) hx hb d_RE_readInstruction_99 (by decide) ho99 (by decide) ?_
                      clear ho99
                      refine lv_aload_n hx hb d_RE_readInstruction_447 rfl (lv_at hl 2 rfl) ?_
                      refine va_get (D := (dC, dI)) (ci := 7) (v := .ref ac) (C := R_RE) (T := F_RE) (N := 8) hx hb hts i_RE hown hK hP 7 rfl rfl 1 (by decide) (hts _ kF_RE_25) (fun _ h9 => h9) rfl d_RE_readInstruction_448 ?_
                      refine va_get (D := (dC, dI)) (ci := 3) (v := .ref ava) (C := R_CD) (T := F_CD) (N := 10) hx hb hts i_CD hown hK hP 0 rfl rfl 5 (by decide) (hts _ kF_RE_197) (fun _ h9 => h9) rfl d_RE_readInstruction_451 ?_
                      refine lv_iload_n hx hb d_RE_readInstruction_454 rfl (lv_at hl 0 rfl) ?_
                      refine lv_aload_n hx hb d_RE_readInstruction_455 rfl (lv_at hl 2 rfl) ?_
                      refine lv_bipush (v := 64) hx hb d_RE_readInstruction_456 (by decide) ?_
                      have hPc := hP.sub (ws' := [(h0, .inr (7, [.ref aw, .ref ac, .int n2, .int lim, .int 1, .int cc, .ref ao, .int oc])), (aw, .inr (10, wf)), (ab, .inr (1, [.ref ax, .int len])), (ax, .inl (cB, n, .inl f))]) [7, 8, 9, 10] rfl
                      have hDc := hD.sub (ws' := [(h0, .inr (7, [.ref aw, .ref ac, .int n2, .int lim, .int 1, .int cc, .ref ao, .int oc])), (aw, .inr (10, wf)), (ab, .inr (1, [.ref ax, .int len])), (ax, .inl (cB, n, .inl f))]) [7, 8, 9, 10] (by decide) rfl
                      have hKc := hK.sub (tys' := [(cB, .byte)]) [0] rfl
                      have hFc := va_free (wc := [(h0, .inr (7, [.ref aw, .ref ac, .int n2, .int lim, .int 1, .int cc, .ref ao, .int oc])), (aw, .inr (10, wf)), (ab, .inr (1, [.ref ax, .int len])), (ax, .inl (cB, n, .inl f))]) hD hS hA [7, 8, 9, 10] rfl
                      refine va_calll (va_runV (As := [.int 64]) (rest := [.int cl, .ref ava]) ⟨hx, hb, hml, hown, hts⟩ (c_RE_readSigned l dC dI h0 aw ac ao ab ax H.size cB n n2 lim 1 cc oc len f wf pwf pwl (Or.inr rfl) (by omega) 64 (by omega)) (cwV 1 hts (gV kM_RE_149 kV_RE_readSigned kS_RE_readSigned kI_RE kC_RE_readSigned) rfl rfl rfl (by decide +kernel) ⟨Nat.le_of_ble_eq_true rfl, Nat.le_of_ble_eq_true rfl⟩) ⟨fun a U g mk z => by obtain ⟨z0, z1, zP, zK, zD⟩ := z; exact ⟨z0, z1, zP, va_K.moved (u := U) (U := U.calling g mk a) (Vm.Alike.refl U.vm) zK, zD⟩, va_recv hKc hPc (ci := 7) (q0 := 0) rfl rfl, fun U hU hW => ⟨rfl, by rw [hU], by rw [hU]; exact hPc, va_K.moved hW.alike hKc, hDc.weaken (fun _ _ _ _ => trivial)⟩⟩ rfl rfl hl.1 rfl (lv_room (Nat.le_of_ble_eq_true rfl)) d_RE_readInstruction_458 ⟨(Nat.zero_le _), (Nat.zero_le _)⟩) hS (fun q _ h => hFc q h) hFc (fun r56 u t H1 locs ht hvm hw hB hz1 hk1 hS => ?_)
                      obtain ⟨n57, n58⟩ := u
                      try dsimp only at hw
                      obtain ⟨hsn58, tn57⟩ := hw
                      have bsn58 := b01 hsn58
                      obtain ⟨hP1, hK1, hD1⟩ := hB
                      rw [ht] at hP1
                      obtain ⟨hP, hD⟩ := va_join (wr := [(ac, .inr (3, [.ref afi, .ref alk, .ref alt, .int x4, .ref aop, .ref ava, .ref apt, .ref ael, .int lc, .ref alb])), (aop, .inl (cop, 5000, .inl f5)), (ava, .inl (cva, 5000, .inr (.inl f6))), (apt, .inl (cpt, 5000, .inl f7)), (ael, .inl (cel, 5000, .inl f8)), (alb, .inl (clb, 2000, .inl glb)), (ao, .inl (co, 100, .inl go))]) (w1 := [(h0, .inr (7, [.ref aw, .ref ac, .int n57, .int lim, .int n58, .int cc, .ref ao, .int oc])), (aw, .inr (10, wf)), (ab, .inr (1, [.ref ax, .int len])), (ax, .inl (cB, n, .inl f))]) hP hD [7, 8, 9, 10] [0, 1, 2, 3, 4, 5, 6] rfl rfl (by decide) (by decide) hk1 hFc hP1 hD1
                      clear hPc hDc hKc hFc hz1 hk1 hP1 hK1 hD1
                      generalize H1 = H at hP hS ⊢
                      have hP : va_P (dC, dI) cls [(ac, .inr (3, [.ref afi, .ref alk, .ref alt, .int x4, .ref aop, .ref ava, .ref apt, .ref ael, .int lc, .ref alb])), (aop, .inl (cop, 5000, .inl f5)), (ava, .inl (cva, 5000, .inr (.inl f6))), (apt, .inl (cpt, 5000, .inl f7)), (ael, .inl (cel, 5000, .inl f8)), (alb, .inl (clb, 2000, .inl glb)), (ao, .inl (co, 100, .inl go)), (h0, .inr (7, [.ref aw, .ref ac, .int n57, .int lim, .int n58, .int cc, .ref ao, .int oc])), (aw, .inr (10, wf)), (ab, .inr (1, [.ref ax, .int len])), (ax, .inl (cB, n, .inl f))] H := hP
                      have hD : va_D A [(ac, .inr (3, [.ref afi, .ref alk, .ref alt, .int x4, .ref aop, .ref ava, .ref apt, .ref ael, .int lc, .ref alb])), (aop, .inl (cop, 5000, .inl f5)), (ava, .inl (cva, 5000, .inr (.inl f6))), (apt, .inl (cpt, 5000, .inl f7)), (ael, .inl (cel, 5000, .inl f8)), (alb, .inl (clb, 2000, .inl glb)), (ao, .inl (co, 100, .inl go)), (h0, .inr (7, [.ref aw, .ref ac, .int n57, .int lim, .int n58, .int cc, .ref ao, .int oc])), (aw, .inr (10, wf)), (ab, .inr (1, [.ref ax, .int len])), (ax, .inl (cB, n, .inl f))] := hD
                      have g461 : vp_in cl 5000 := vp_in_iff.mpr ⟨by omega, by omega⟩
                      refine va_last hx hb hK hP hD hS 2 2 rfl rfl g461 d_RE_readInstruction_461 (fun H locs hP hD hS => ?_)
                      generalize ef59 : vp_updL f6 cl.toNatClampNeg r56 = f59 at hP hD
                      refine lv_goto (tgt := 471) hx hb d_RE_readInstruction_462 (by decide) ?_
                      refine lv_iconst (v := 1) hx hb d_RE_readInstruction_471 (by decide) ?_
                      have hP9 := hP.sub (ws' := [(h0, .inr (7, [.ref aw, .ref ac, .int n57, .int lim, .int n58, .int cc, .ref ao, .int oc])), (aw, .inr (10, wf)), (ab, .inr (1, [.ref ax, .int len])), (ax, .inl (cB, n, .inl f)), (ac, .inr (3, [.ref afi, .ref alk, .ref alt, .int x4, .ref aop, .ref ava, .ref apt, .ref ael, .int lc, .ref alb])), (aop, .inl (cop, 5000, .inl f5)), (ava, .inl (cva, 5000, .inr (.inl f59))), (apt, .inl (cpt, 5000, .inl f7)), (ael, .inl (cel, 5000, .inl f8)), (alb, .inl (clb, 2000, .inl glb)), (ao, .inl (co, 100, .inl go))]) [7, 8, 9, 10, 0, 1, 2, 3, 4, 5, 6] rfl
                      have hD9 := hD.sub (ws' := [(h0, .inr (7, [.ref aw, .ref ac, .int n57, .int lim, .int n58, .int cc, .ref ao, .int oc])), (aw, .inr (10, wf)), (ab, .inr (1, [.ref ax, .int len])), (ax, .inl (cB, n, .inl f)), (ac, .inr (3, [.ref afi, .ref alk, .ref alt, .int x4, .ref aop, .ref ava, .ref apt, .ref ael, .int lc, .ref alb])), (aop, .inl (cop, 5000, .inl f5)), (ava, .inl (cva, 5000, .inr (.inl f59))), (apt, .inl (cpt, 5000, .inl f7)), (ael, .inl (cel, 5000, .inl f8)), (alb, .inl (clb, 2000, .inl glb)), (ao, .inl (co, 100, .inl go))]) [7, 8, 9, 10, 0, 1, 2, 3, 4, 5, 6] (by decide) rfl
                      exact W.zret (v := 1) hx hb hr (zn01 (by first | exact Or.inl rfl | exact Or.inr rfl | exact hr1)) (fun t ht hW => ⟨⟨1, (n57, n58, oc, x4, lc, f5, f59, f7, f8, glb, go), rfl, ⟨Or.inr rfl, hsn58, by (try dsimp only); omega, by (try dsimp only); omega, by (try dsimp only); omega, by (try dsimp only); omega, by (try dsimp only); omega, by (try dsimp only); omega, by (try dsimp only); omega, by (try dsimp only); omega, hlb, hel, fun z => by have y : n58.toInt = 1 := z; exact ⟨by omega, by (try dsimp only); omega, by (try dsimp only); omega, ⟨r1, by omega, ef5.symm, Or.inr (Or.inr (Or.inr (Or.inr (Or.inr (Or.inr (Or.inl ⟨by omega, k1, rfl, rfl, rfl, rfl, ef7.symm, ef8.symm, r56, by rw [ef6]; exact ef59.symm⟩))))))⟩⟩⟩, by rw [ht]; exact hP9, va_K.moved hW.alike hK, hD9⟩, hS.F ht⟩) hS.2.2 d_RE_readInstruction_472
                    · skip
                      have ho99 : tab_off 366 2 66 #[273, 273, 273, 281, 366, 366, 366, 366, 366, 289, 295, 295, 314, 366, 295, 366, 366, 366, 366, 366, 366, 366, 366, 366, 366, 366, 366, 366, 366, 366, 295, 295, 295, 295, 295, 366, 366, 366, 366, 366, 366, 366, 366, 366, 366, 366, 366, 366, 366, 366, 366, 366, 366, 366, 366, 366, 366, 366, 366, 366, 366, 322, 322, 330, 348] r1.toInt = 366 := by
                        unfold tab_off
                        split
                        · rfl
                        · rcases (by omega : r1.toInt = 6 ∨ r1.toInt = 7 ∨ r1.toInt = 8 ∨ r1.toInt = 9 ∨ r1.toInt = 10 ∨ r1.toInt = 15 ∨ r1.toInt = 17 ∨ r1.toInt = 18 ∨ r1.toInt = 19 ∨ r1.toInt = 20 ∨ r1.toInt = 21 ∨ r1.toInt = 22 ∨ r1.toInt = 23 ∨ r1.toInt = 24 ∨ r1.toInt = 25 ∨ r1.toInt = 26 ∨ r1.toInt = 27 ∨ r1.toInt = 28 ∨ r1.toInt = 29 ∨ r1.toInt = 30 ∨ r1.toInt = 31 ∨ r1.toInt = 37 ∨ r1.toInt = 38 ∨ r1.toInt = 39 ∨ r1.toInt = 40 ∨ r1.toInt = 41 ∨ r1.toInt = 42 ∨ r1.toInt = 43 ∨ r1.toInt = 44 ∨ r1.toInt = 45 ∨ r1.toInt = 46 ∨ r1.toInt = 47 ∨ r1.toInt = 48 ∨ r1.toInt = 49 ∨ r1.toInt = 50 ∨ r1.toInt = 51 ∨ r1.toInt = 52 ∨ r1.toInt = 53 ∨ r1.toInt = 54 ∨ r1.toInt = 55 ∨ r1.toInt = 56 ∨ r1.toInt = 57 ∨ r1.toInt = 58 ∨ r1.toInt = 59 ∨ r1.toInt = 60 ∨ r1.toInt = 61 ∨ r1.toInt = 62) with z | z | z | z | z | z | z | z | z | z | z | z | z | z | z | z | z | z | z | z | z | z | z | z | z | z | z | z | z | z | z | z | z | z | z | z | z | z | z | z | z | z | z | z | z | z | z <;> (rw [z]; rfl)
                      refine lv_tab (tgt := 465) hx hb d_RE_readInstruction_99 (by decide) ho99 (by decide) ?_
                      clear ho99
                      refine lv_aload_n hx hb d_RE_readInstruction_465 rfl (lv_at hl 2 rfl) ?_
                      refine lv_iload_n hx hb d_RE_readInstruction_466 rfl (lv_at hl 0 rfl) ?_
                      refine lv_iload_n hx hb d_RE_readInstruction_467 rfl (lv_at hl 1 rfl) ?_
                      have hPc := hP.sub (ws' := [(h0, .inr (7, [.ref aw, .ref ac, .int n2, .int lim, .int 1, .int cc, .ref ao, .int oc])), (aw, .inr (10, wf)), (ab, .inr (1, [.ref ax, .int len])), (ax, .inl (cB, n, .inl f)), (ac, .inr (3, [.ref afi, .ref alk, .ref alt, .int x4, .ref aop, .ref ava, .ref apt, .ref ael, .int lc, .ref alb])), (ava, .inl (cva, 5000, .inr (.inl f6))), (apt, .inl (cpt, 5000, .inl f7))]) [7, 8, 9, 10, 0, 2, 3] rfl
                      have hDc := hD.sub (ws' := [(h0, .inr (7, [.ref aw, .ref ac, .int n2, .int lim, .int 1, .int cc, .ref ao, .int oc])), (aw, .inr (10, wf)), (ab, .inr (1, [.ref ax, .int len])), (ax, .inl (cB, n, .inl f)), (ac, .inr (3, [.ref afi, .ref alk, .ref alt, .int x4, .ref aop, .ref ava, .ref apt, .ref ael, .int lc, .ref alb])), (ava, .inl (cva, 5000, .inr (.inl f6))), (apt, .inl (cpt, 5000, .inl f7))]) [7, 8, 9, 10, 0, 2, 3] (by decide) rfl
                      have hKc := hK.sub (tys' := [(cB, .byte), (cva, .long), (cpt, .int)]) [0, 2, 3] rfl
                      have hFc := va_free (wc := [(h0, .inr (7, [.ref aw, .ref ac, .int n2, .int lim, .int 1, .int cc, .ref ao, .int oc])), (aw, .inr (10, wf)), (ab, .inr (1, [.ref ax, .int len])), (ax, .inl (cB, n, .inl f)), (ac, .inr (3, [.ref afi, .ref alk, .ref alt, .int x4, .ref aop, .ref ava, .ref apt, .ref ael, .int lc, .ref alb])), (ava, .inl (cva, 5000, .inr (.inl f6))), (apt, .inl (cpt, 5000, .inl f7))]) hD hS hA [7, 8, 9, 10, 0, 2, 3] rfl
                      refine va_callv (va_runV (As := [.int cl, .int r1]) (rest := []) ⟨hx, hb, hml, hown, hts⟩ (c_RE_readOther l dC dI H.size h0 aw ac ao ab ax lim cc cB n len f wf pwf pwl afi alk alt aop ava apt ael alb cva cpt n2 1 oc x4 lc f6 f7 (Or.inr rfl) (by omega) (by omega) cl r1 (by omega)) (cwV 2 hts (gV kM_RE_219 kV_RE_readOther kS_RE_readOther kI_RE kC_RE_readOther) rfl rfl rfl (by decide +kernel) ⟨Nat.le_of_ble_eq_true rfl, Nat.le_of_ble_eq_true rfl⟩) ⟨fun a U g mk z => by obtain ⟨z0, z1, zP, zK, zD⟩ := z; exact ⟨z0, z1, zP, va_K.moved (u := U) (U := U.calling g mk a) (Vm.Alike.refl U.vm) zK, zD⟩, va_recv hKc hPc (ci := 7) (q0 := 0) rfl rfl, fun U hU hW => ⟨rfl, by rw [hU], by rw [hU]; exact hPc, va_K.moved hW.alike hKc, hDc.weaken (fun _ _ _ _ => trivial)⟩⟩ rfl rfl hl.1 rfl (lv_room (Nat.le_of_ble_eq_true rfl)) d_RE_readInstruction_468 ⟨(Nat.zero_le _), (Nat.zero_le _)⟩) hS (fun q _ h => hFc q h) hFc (fun u t H1 locs ht hvm hw hB hz1 hk1 hS => ?_)
                      obtain ⟨n61, n62, n63, n64, n65, n66, n67⟩ := u
                      try dsimp only at hw
                      have hwn61 := hw
                      clear hw
                      obtain ⟨hsn62, i1, i2, rfl, rfl, rfl, iT⟩ := hwn61
                      have bsn62 := b01 hsn62
                      obtain ⟨hP1, hK1, hD1⟩ := hB
                      rw [ht] at hP1
                      obtain ⟨hP, hD⟩ := va_join (wr := [(aop, .inl (cop, 5000, .inl f5)), (ael, .inl (cel, 5000, .inl f8)), (alb, .inl (clb, 2000, .inl glb)), (ao, .inl (co, 100, .inl go))]) (w1 := [(h0, .inr (7, [.ref aw, .ref ac, .int n61, .int lim, .int n62, .int cc, .ref ao, .int oc])), (aw, .inr (10, wf)), (ab, .inr (1, [.ref ax, .int len])), (ax, .inl (cB, n, .inl f)), (ac, .inr (3, [.ref afi, .ref alk, .ref alt, .int x4, .ref aop, .ref ava, .ref apt, .ref ael, .int lc, .ref alb])), (ava, .inl (cva, 5000, .inr (.inl n66))), (apt, .inl (cpt, 5000, .inl n67))]) hP hD [7, 8, 9, 10, 0, 2, 3] [1, 4, 5, 6] rfl rfl (by decide) (by decide) hk1 hFc hP1 hD1
                      clear hPc hDc hKc hFc hz1 hk1 hP1 hK1 hD1
                      generalize H1 = H at hP hS ⊢
                      have hP : va_P (dC, dI) cls [(aop, .inl (cop, 5000, .inl f5)), (ael, .inl (cel, 5000, .inl f8)), (alb, .inl (clb, 2000, .inl glb)), (ao, .inl (co, 100, .inl go)), (h0, .inr (7, [.ref aw, .ref ac, .int n61, .int lim, .int n62, .int cc, .ref ao, .int oc])), (aw, .inr (10, wf)), (ab, .inr (1, [.ref ax, .int len])), (ax, .inl (cB, n, .inl f)), (ac, .inr (3, [.ref afi, .ref alk, .ref alt, .int x4, .ref aop, .ref ava, .ref apt, .ref ael, .int lc, .ref alb])), (ava, .inl (cva, 5000, .inr (.inl n66))), (apt, .inl (cpt, 5000, .inl n67))] H := hP
                      have hD : va_D A [(aop, .inl (cop, 5000, .inl f5)), (ael, .inl (cel, 5000, .inl f8)), (alb, .inl (clb, 2000, .inl glb)), (ao, .inl (co, 100, .inl go)), (h0, .inr (7, [.ref aw, .ref ac, .int n61, .int lim, .int n62, .int cc, .ref ao, .int oc])), (aw, .inr (10, wf)), (ab, .inr (1, [.ref ax, .int len])), (ax, .inl (cB, n, .inl f)), (ac, .inr (3, [.ref afi, .ref alk, .ref alt, .int x4, .ref aop, .ref ava, .ref apt, .ref ael, .int lc, .ref alb])), (ava, .inl (cva, 5000, .inr (.inl n66))), (apt, .inl (cpt, 5000, .inl n67))] := hD
                      refine lv_iconst (v := 1) hx hb d_RE_readInstruction_471 (by decide) ?_
                      have hP9 := hP.sub (ws' := [(h0, .inr (7, [.ref aw, .ref ac, .int n61, .int lim, .int n62, .int cc, .ref ao, .int oc])), (aw, .inr (10, wf)), (ab, .inr (1, [.ref ax, .int len])), (ax, .inl (cB, n, .inl f)), (ac, .inr (3, [.ref afi, .ref alk, .ref alt, .int x4, .ref aop, .ref ava, .ref apt, .ref ael, .int lc, .ref alb])), (aop, .inl (cop, 5000, .inl f5)), (ava, .inl (cva, 5000, .inr (.inl n66))), (apt, .inl (cpt, 5000, .inl n67)), (ael, .inl (cel, 5000, .inl f8)), (alb, .inl (clb, 2000, .inl glb)), (ao, .inl (co, 100, .inl go))]) [4, 5, 6, 7, 8, 0, 9, 10, 1, 2, 3] rfl
                      have hD9 := hD.sub (ws' := [(h0, .inr (7, [.ref aw, .ref ac, .int n61, .int lim, .int n62, .int cc, .ref ao, .int oc])), (aw, .inr (10, wf)), (ab, .inr (1, [.ref ax, .int len])), (ax, .inl (cB, n, .inl f)), (ac, .inr (3, [.ref afi, .ref alk, .ref alt, .int x4, .ref aop, .ref ava, .ref apt, .ref ael, .int lc, .ref alb])), (aop, .inl (cop, 5000, .inl f5)), (ava, .inl (cva, 5000, .inr (.inl n66))), (apt, .inl (cpt, 5000, .inl n67)), (ael, .inl (cel, 5000, .inl f8)), (alb, .inl (clb, 2000, .inl glb)), (ao, .inl (co, 100, .inl go))]) [4, 5, 6, 7, 8, 0, 9, 10, 1, 2, 3] (by decide) rfl
                      exact W.zret (v := 1) hx hb hr (zn01 (by first | exact Or.inl rfl | exact Or.inr rfl | exact hr1)) (fun t ht hW => ⟨⟨1, (n61, n62, oc, x4, lc, f5, n66, n67, f8, glb, go), rfl, ⟨Or.inr rfl, hsn62, by (try dsimp only); clear iT; omega, by (try dsimp only); clear iT; omega, by (try dsimp only); clear iT; omega, by (try dsimp only); clear iT; omega, by (try dsimp only); clear iT; omega, by (try dsimp only); clear iT; omega, by (try dsimp only); clear iT; omega, by (try dsimp only); clear iT; omega, hlb, hel, fun z => by have y : n62.toInt = 1 := z; have y1 := (iT y).1; exact ⟨by clear iT; omega, by (try dsimp only); clear iT; omega, by (try dsimp only); clear iT; omega, ⟨r1, by clear iT; omega, ef5.symm, (Classical.em (r1.toInt = 44 ∨ r1.toInt = 45 ∨ r1.toInt = 58 ∨ r1.toInt = 40 ∨ r1.toInt = 54 ∨ r1.toInt = 41 ∨ r1.toInt = 55)).elim (fun hac => Or.inr (Or.inr (Or.inr (Or.inr (Or.inr (Or.inr (Or.inr (⟨hac, k1, rfl, rfl, rfl, rfl, ef8.symm, by obtain ⟨b9, x9, q1, q2, q3, q4, q5⟩ := ((iT y).2.1 hac).2; exact ⟨b9, x9, q1, q2, q3, by rw [q4, ef7], by rw [q5, ef6]⟩⟩)))))))) (fun hac => Or.inr (Or.inr (Or.inr (Or.inr (Or.inr (Or.inl ⟨by have := (iT y).1; omega, k1, rfl, rfl, rfl, rfl, by rw [← ((iT y).2.2 hac).1, ef7], ef8.symm, by rw [((iT y).2.2 hac).2, ef6]⟩))))))⟩⟩⟩, by rw [ht]; exact hP9, va_K.moved hW.alike hK, hD9⟩, hS.F ht⟩) hS.2.2 d_RE_readInstruction_472
