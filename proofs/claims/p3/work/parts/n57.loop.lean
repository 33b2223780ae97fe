/-! the law: its loop -/
/-! THE CLAIM OUT OF ONE WALK OF THE LAW'S BODY. Your part is whole_start (and what it stands on); all else here is the same for every law, but numbers. -/
def R_law : String := "WaferForgeLaw"
def lw_P (b : Addr) (xs : List Int32) (args : Array Value) (s : State) : Prop := args = #[.ref b] ∧ s.IntsAt b xs ∧ xs.length ≤ 3072 ∧ (Jvm.Cond.and given_1 narrow_1).before args s = true
def lw_Q (_ : Array Value) (s : State) (o : Outcome) (t : State) : Prop := o = .returned (some (.int 1)) ∧ Framed s o t [] 601024 7293034
def lw_Z (below : List Frame) (a : Array Value) (s : State) : State → Prop := fun t => ∃ o, t.status = .running ∧ Ended t below o ∧ lw_Q a s o t
/-- the law's own end, with 1 on the stack, nothing written that was there before, its room as the claim has it -/
theorem lw_ret {p : Program} {l : Launch} {e : Env} {s : State} {m : MethodId} {below : List Frame} {meth : Method} {c : Code} {b : Nat} (hx : p.tables.exec = Jvm.exec) (hb : c.code = code) (hr : meth.sig.returnType = ret) (hlocks : meth.locks = false) {pc : Nat} {H : Heap} {ls : Array Slot} (hdg : decode code pc = .ok (.ireturn, 1)) : W p l e room_1 s m #[Value.ref b] below meth c H [] 601024 7293034 (lw_Z below #[Value.ref b] s) (F0 m pc ls [.int 1]) := by
  intro T hT X
  obtain ⟨fs, hret, hrun, hended, hW, hframe⟩ := X.leave (v := some (.int 1)) (hlocks := hlocks) (fun h => by rw [hr] at h; cases h)
  have hmeth' : T.vm.method? m = some meth := X.method'
  refine ⟨T.setFrames fs, ?_, .returned (some (.int 1)), hrun, hended, rfl, ⟨_, rfl⟩, hW, hframe⟩
  jvm_step X.here [X.here.top, hx, hb, hdg, hmeth', hr, ret, narrow_b1]
  (try refine ⟨rfl, ?_⟩); (try refine ⟨rfl, ?_⟩)
  first | (intro acts; rw [hret _ acts rfl rfl rfl]) | rw [hret _ _ rfl rfl rfl]
  exact Steps.refl _
/-- what holds at the law's entry: the machine, the code, the tables' words (any of lw_tbl by 'hts w (by decide +kernel)'), the script of L ints xs at the cell b, what the Statement gives of the start (any of its parts by flat_of_before) -/
def lw_At (p : Program) (s : State) (m : MethodId) (meth : Method) (c : Code) (b L : Nat) (xs : Nat → Int32) : Prop :=
  p.tables.exec = Jvm.exec ∧ c.code = code ∧ meth.sig.returnType = ret ∧ c.maxLocals = 8 ∧ s.vm.findClass R_law = some m.cls ∧ (∀ w ∈ lw_tbl, w.before #[Value.ref b] s = true) ∧ va_X b L xs s s.heap ∧ b < s.heap.size ∧ meth.locks = false ∧ (Jvm.Cond.and given_1 narrow_1).before #[Value.ref b] s = true
set_option maxHeartbeats 4000000 in
theorem law_loop {p : Program} {l : Launch} {e : Env} {s : State} {m : MethodId} {below : List Frame} {meth : Method} {c : Code} {Q : State → Prop} {dC : Nat → ClassId} {dI : Nat → Nat → Nat} {sa : Nat → Nat} {A : Nat → Prop} {b L h0 h1 ou : Nat} {xs : Nat → Int32} (hx : p.tables.exec = Jvm.exec) (hb : c.code = code) (hml : c.maxLocals = 8) (hown : s.vm.findClass R_LW = some m.cls) (hts : ∀ w ∈ lw_g, w.before #[Value.ref b] s = true) (hX : va_X b L xs s s.heap) (hbl : b < s.heap.size) (hbA : ¬ A b) (hA : ∀ q, s.heap.size ≤ q → A q) (hSM : sm sa A s s.heap) (hlt : l.stackTraces = false) (hr : meth.sig.returnType = ret) (hlocks : meth.locks = false) (hAe : ∀ q, A q → s.heap.size ≤ q) (hLL : L ≤ 3072) :
    ∀ (n j : Nat) (i : Int32) (tl : Int) (kc kn : Nat) (H : Heap) (locs : List Loc) (ls : Array Slot), i.toInt = 6 * j → j ≤ 512 → 512 < n + j → LST dC dI sa s A h0 h1 ou tl H locs → lv_has ls 8 [(4, .int i), (3, .ref ou), (2, .ref h1), (1, .ref h0), (0, .ref b)] → (kc : Int) + 52 * tl ≤ 300 + 1060 * j → (kn : Int) + 540 * tl ≤ 680000 + 10820 * j → W p l e room_1 s m #[Value.ref b] below meth c H locs kc kn (lw_Z below #[Value.ref b] s) (F0 m 23 ls []) := by
  intro n
  induction n with
  | zero =>
    intro j i tl kc kn H locs ls hi hj hn
    exact absurd hn (by omega)
  | succ n ih =>
    intro j i tl kc kn H locs ls hi hj hn hs hl hkc hkn
    have hS : va_S A s.heap H locs := by obtain ⟨_, _, _, _, _, _, _, _, z⟩ := hs; exact z
    have htl : 0 ≤ tl ∧ tl ≤ 2000 := by obtain ⟨_, _, _, _, z, _⟩ := hs; exact z.tl
    refine lv_iload hx hb d_law_23 (lv_at hl 0 rfl) ?_
    refine lv_aload_n hx hb d_law_25 rfl (lv_at hl 4 rfl) ?_
    refine va_slen hx hb hX hbl hbA hS d_law_26 ?_
    refine lv_topi (fun x1 ex1 => ?_)
    have tx1 : x1.toInt = (L : Int) := by rw [ex1]; exact nI_toInt (by omega)
    refine lv_bipush (v := 6) hx hb d_law_27 (by decide) ?_
    have k6 : (6 : Int32).toInt = 6 := by decide
    refine lv_isub hx hb d_law_29 ?_
    refine lv_topi (fun x2 ex2 => ?_)
    have tx2 : x2.toInt = x1.toInt - 6 := by have z := i32_sub ex2 (by omega) (by omega); omega
    refine lv_icmp_gt (tgt := 503) hx hb d_law_30 (by decide) (fun c30 => ?_) (fun c30 => ?_)
    · refine lv_iconst (v := 1) hx hb d_law_503 (by decide) ?_
      refine va_forget (fun q hq => hAe _ (hS.2.2 q hq)) ?_
      refine W.widen (k := 601024) (n := 7293034) (by omega) (by omega) ?_
      exact lw_ret hx hb hr hlocks d_law_504
    · have q30 := nltI c30
      have hiL : i.toInt + 6 ≤ L := by omega
      have hj5 : j ≤ 511 := by omega
      have jn : ∀ (tl : Int) (kc kn : Nat) (H : Heap) (locs : List Loc) (ls : Array Slot), LST dC dI sa s A h0 h1 ou tl H locs → lv_has ls 8 [(4, .int i), (3, .ref ou), (2, .ref h1), (1, .ref h0), (0, .ref b)] → (kc : Int) + 52 * tl ≤ 300 + 1060 * (j + 1) → (kn : Int) + 540 * tl ≤ 680000 + 10820 * (j + 1) → W p l e room_1 s m #[Value.ref b] below meth c H locs kc kn (lw_Z below #[Value.ref b] s) (F0 m 497 ls []) := by
        intro tl kc kn H locs ls hs hl hkc hkn
        obtain ⟨i2, ei2⟩ : ∃ z : Int32, z = i + 6 := ⟨_, rfl⟩
        have ti2 : i2.toInt = i.toInt + 6 := by have z := i32_add ei2 (by omega) (by omega); omega
        refine lv_iinc (v := i2) (lv' := [(4, .int i2), (3, .ref ou), (2, .ref h1), (1, .ref h0), (0, .ref b)]) hx hb d_law_497 hl (k := 0) rfl (by rw [ei2]; rfl) (by decide) rfl (fun ls hl => ?_)
        refine lv_goto (tgt := 23) hx hb d_law_500 (by decide) ?_
        exact ih (j + 1) i2 tl kc kn H locs ls (by push_cast; omega) (by omega) (by omega) hs hl (by push_cast; exact hkc) (by push_cast; exact hkn)
      refine lv_aload_n hx hb d_law_33 rfl (lv_at hl 4 rfl) ?_
      refine lv_iload hx hb d_law_34 (lv_at hl 0 rfl) ?_
      refine va_sld hx hb hX hbl hbA hS (vp_in_iff.mpr ⟨by omega, by omega⟩) d_law_36 ?_
      refine lv_topi (fun v3 ev3 => ?_)
      refine lv_bipush (v := 15) hx hb d_law_37 (by decide) ?_
      refine lv_iand hx hb d_law_39 ?_
      refine lv_topi (fun v4 ev4 => ?_)
      by_cases g0 : v4.toInt = 0
      · have ho : tab_off 457 0 11 #[64, 140, 196, 212, 228, 244, 257, 317, 345, 373, 401, 429] v4.toInt = 64 := by rw [g0]; rfl
        refine lv_tab (tgt := 104) hx hb d_law_40 (by decide) ho (by decide) ?_
        exact lc_feed hx hb hml hown hts hX hbl hbA hA hSM hlt hi hj5 hiL hLL hl hs hkc hkn jn
      · skip
        by_cases g1 : v4.toInt = 1
        · have ho : tab_off 457 0 11 #[64, 140, 196, 212, 228, 244, 257, 317, 345, 373, 401, 429] v4.toInt = 140 := by rw [g1]; rfl
          refine lv_tab (tgt := 180) hx hb d_law_40 (by decide) ho (by decide) ?_
          exact lc_end hx hb hml hown hts hX hbl hbA hA hSM hlt hi hj5 hiL hLL hl hs hkc hkn jn
        · skip
          by_cases g2 : v4.toInt = 2
          · have ho : tab_off 457 0 11 #[64, 140, 196, 212, 228, 244, 257, 317, 345, 373, 401, 429] v4.toInt = 196 := by rw [g2]; rfl
            refine lv_tab (tgt := 236) hx hb d_law_40 (by decide) ho (by decide) ?_
            exact lc_compile hx hb hml hown hts hX hbl hbA hA hSM hlt hi hj5 hiL hLL hl hs hkc hkn jn
          · skip
            by_cases g3 : v4.toInt = 3
            · have ho : tab_off 457 0 11 #[64, 140, 196, 212, 228, 244, 257, 317, 345, 373, 401, 429] v4.toInt = 212 := by rw [g3]; rfl
              refine lv_tab (tgt := 252) hx hb d_law_40 (by decide) ho (by decide) ?_
              exact lc_module hx hb hml hown hts hX hbl hbA hA hSM hlt hi hj5 hiL hLL hl hs hkc hkn jn
            · skip
              by_cases g4 : v4.toInt = 4
              · have ho : tab_off 457 0 11 #[64, 140, 196, 212, 228, 244, 257, 317, 345, 373, 401, 429] v4.toInt = 228 := by rw [g4]; rfl
                refine lv_tab (tgt := 268) hx hb d_law_40 (by decide) ho (by decide) ?_
                exact lc_emit hx hb hml hown hts hX hbl hbA hA hSM hlt hi hj5 hiL hLL hl hs hkc hkn jn
              · skip
                by_cases g5 : v4.toInt = 5
                · have ho : tab_off 457 0 11 #[64, 140, 196, 212, 228, 244, 257, 317, 345, 373, 401, 429] v4.toInt = 244 := by rw [g5]; rfl
                  refine lv_tab (tgt := 284) hx hb d_law_40 (by decide) ho (by decide) ?_
                  exact lc_find hx hb hml hown hts hX hbl hbA hA hSM hlt hi hj5 hiL hLL hl hs hkc hkn jn
                · skip
                  by_cases g6 : v4.toInt = 6
                  · have ho : tab_off 457 0 11 #[64, 140, 196, 212, 228, 244, 257, 317, 345, 373, 401, 429] v4.toInt = 257 := by rw [g6]; rfl
                    refine lv_tab (tgt := 297) hx hb d_law_40 (by decide) ho (by decide) ?_
                    exact lc_argument hx hb hml hown hts hX hbl hbA hA hSM hlt hi hj5 hiL hLL hl hs hkc hkn jn
                  · skip
                    by_cases g7 : v4.toInt = 7
                    · have ho : tab_off 457 0 11 #[64, 140, 196, 212, 228, 244, 257, 317, 345, 373, 401, 429] v4.toInt = 317 := by rw [g7]; rfl
                      refine lv_tab (tgt := 357) hx hb d_law_40 (by decide) ho (by decide) ?_
                      exact lc_call hx hb hml hown hts hX hbl hbA hA hSM hlt hi hj5 hiL hLL hl hs hkc hkn jn
                    · skip
                      by_cases g8 : v4.toInt = 8
                      · have ho : tab_off 457 0 11 #[64, 140, 196, 212, 228, 244, 257, 317, 345, 373, 401, 429] v4.toInt = 345 := by rw [g8]; rfl
                        refine lv_tab (tgt := 385) hx hb d_law_40 (by decide) ho (by decide) ?_
                        exact lc_global hx hb hml hown hts hX hbl hbA hA hSM hlt hi hj5 hiL hLL hl hs hkc hkn jn
                      · skip
                        by_cases g9 : v4.toInt = 9
                        · have ho : tab_off 457 0 11 #[64, 140, 196, 212, 228, 244, 257, 317, 345, 373, 401, 429] v4.toInt = 373 := by rw [g9]; rfl
                          refine lv_tab (tgt := 413) hx hb d_law_40 (by decide) ho (by decide) ?_
                          exact lc_memory hx hb hml hown hts hX hbl hbA hA hSM hlt hi hj5 hiL hLL hl hs hkc hkn jn
                        · skip
                          by_cases g10 : v4.toInt = 10
                          · have ho : tab_off 457 0 11 #[64, 140, 196, 212, 228, 244, 257, 317, 345, 373, 401, 429] v4.toInt = 401 := by rw [g10]; rfl
                            refine lv_tab (tgt := 441) hx hb d_law_40 (by decide) ho (by decide) ?_
                            exact lc_word hx hb hml hown hts hX hbl hbA hA hSM hlt hi hj5 hiL hLL hl hs hkc hkn jn
                          · skip
                            by_cases g11 : v4.toInt = 11
                            · have ho : tab_off 457 0 11 #[64, 140, 196, 212, 228, 244, 257, 317, 345, 373, 401, 429] v4.toInt = 429 := by rw [g11]; rfl
                              refine lv_tab (tgt := 469) hx hb d_law_40 (by decide) ho (by decide) ?_
                              exact lc_count hx hb hml hown hts hX hbl hbA hA hSM hlt hi hj5 hiL hLL hl hs hkc hkn jn
                            · skip
                              have ho : tab_off 457 0 11 #[64, 140, 196, 212, 228, 244, 257, 317, 345, 373, 401, 429] v4.toInt = 457 := by
                                unfold tab_off
                                split
                                · rfl
                                · exfalso; omega
                              refine lv_tab (tgt := 497) hx hb d_law_40 (by decide) ho (by decide) ?_
                              exact jn tl kc kn H locs ls hs hl (by omega) (by omega)
