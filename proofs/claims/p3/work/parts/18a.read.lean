/-! what a module's tables say, once it is read -/
def rd_T (tc : Int) (wat wap : Nat → Int32) : Prop := (∀ t : Nat, (t : Int) < tc → 0 ≤ (wat t).toInt ∧ (wat t).toInt ≤ 8) ∧ ∀ j : Nat, (j : Int) < 8 * tc → ((j % 8 : Nat) : Int) < (wat (j / 8)).toInt → ((wap j).toInt = 127 ∨ (wap j).toInt = 126)
def rd_F (fc : Int) (waf : Nat → Int32) : Prop := ∀ f : Nat, (f : Int) < fc → 0 ≤ (waf f).toInt
def rd_M (a b : Int64) : Prop := 0 ≤ a.toInt ∧ -1 ≤ b.toInt
def rd_G (gc : Int) (wgt : Nat → Int32) : Prop := ∀ g : Nat, (g : Int) < gc → (wgt g).toInt = 127 ∨ (wgt g).toInt = 126
def rd_E (ec : Int) (wez : Nat → Int32) : Prop := ∀ e : Nat, (e : Int) < ec → 0 ≤ (wez e).toInt
def rd_C (k len lc : Int) (cfi clk clt cop cpt cel : Nat → Int32) (cva : Nat → Int64) : Prop :=
  (∀ f : Nat, (f : Int) < k → 0 ≤ (cfi f).toInt ∧ (cfi f).toInt ≤ (cfi (f + 1)).toInt ∧ (cfi (f + 1)).toInt ≤ len ∧ rc_fin (cfi f).toNatClampNeg (cfi (f + 1)).toNatClampNeg cop cpt cel cva lc ∧ 0 ≤ (clk f).toInt ∧ (clk f).toInt ≤ 60 ∧ ∀ j : Nat, 60 * (f : Int) ≤ (j : Int) → (j : Int) < 60 * (f : Int) + (clk f).toInt → (clt j).toInt = 127 ∨ (clt j).toInt = 126) ∧ (0 < k → (cfi k.toNat).toInt = len)
theorem rc_fin.ext {a n m : Nat} {gop gpt gel gop2 gpt2 gel2 : Nat → Int32} {gva gva2 : Nat → Int64} {lc lc2 : Int} (h : rc_fin a n gop gpt gel gva lc) (hn : n ≤ m) (hl : lc ≤ lc2) (hs : rc_same m gop gpt gel gop2 gpt2 gel2 gva gva2) : rc_fin a n gop2 gpt2 gel2 gva2 lc2 := by
  obtain ⟨sb, h1, h2, h3, h4⟩ := h
  exact ⟨sb, h1, rs_ext h2 hl (fun j hj => (hs j (by omega)).1) (fun j hj => (hs j (by omega)).2.1) (fun j hj => (hs j (by omega)).2.2.1) (fun j hj => (hs j (by omega)).2.2.2), h3, by rw [(hs (n - 1) (by omega)).1]; exact h4⟩
theorem rd_C.next {k len lc len2 lc2 t : Int32} {cfi clk clt cop cpt cel cfi2 clk2 clt2 cop2 cpt2 cel2 : Nat → Int32} {cva cva2 : Nat → Int64} (hk : 0 ≤ k.toInt) (h : rd_C k.toInt len.toInt lc.toInt cfi clk clt cop cpt cel cva) (hl0 : 0 ≤ len.toInt) (hl1 : len.toInt ≤ len2.toInt) (hl2 : lc.toInt ≤ lc2.toInt)
    (q1 : rc_fin len.toNatClampNeg len2.toNatClampNeg cop2 cpt2 cel2 cva2 lc2.toInt) (q2 : rc_same len.toNatClampNeg cop cpt cel cop2 cpt2 cel2 cva cva2) (q3 : cfi2 = upd (upd cfi k.toNatClampNeg len) (k.toNatClampNeg + 1) len2) (q4 : ∀ j : Nat, ((j : Int) < 60 * k.toInt ∨ 60 * k.toInt + 60 ≤ (j : Int)) → clt2 j = clt j) (q5 : 0 ≤ t.toInt) (q6 : t.toInt ≤ 60) (q7 : clk2 = upd clk k.toNatClampNeg t)
    (q8 : ∀ j : Nat, 60 * k.toInt ≤ (j : Int) → (j : Int) < 60 * k.toInt + t.toInt → (clt2 j).toInt = 127 ∨ (clt2 j).toInt = 126) : rd_C (k.toInt + 1) len2.toInt lc2.toInt cfi2 clk2 clt2 cop2 cpt2 cel2 cva2 := by
  obtain ⟨hF, hL⟩ := h
  have kn := i32_clamp (x := k) hk
  have ln := i32_clamp (x := len) hl0
  refine ⟨fun f hf => ?_, fun _ => ?_⟩
  · by_cases e : (f : Int) < k.toInt
    · obtain ⟨a1, a2, a3, a4, a5, a6, a7⟩ := hF f e
      have c1 : cfi2 f = cfi f := by rw [q3, pk_un (show f ≠ k.toNatClampNeg + 1 by omega), pk_un (show f ≠ k.toNatClampNeg by omega)]
      have c2 : (cfi2 (f + 1)).toInt = (cfi (f + 1)).toInt := by
        rw [q3, pk_un (show f + 1 ≠ k.toNatClampNeg + 1 by omega)]
        by_cases e2 : f + 1 = k.toNatClampNeg
        · rw [e2, pk_us]
          have := hL (by omega)
          rw [show k.toInt.toNat = k.toNatClampNeg from (i32_natI rfl).symm] at this
          exact this.symm
        · rw [pk_un e2]
      have c3 : clk2 f = clk f := by rw [q7, pk_un (show f ≠ k.toNatClampNeg by omega)]
      have c4 : (cfi2 (f + 1)).toNatClampNeg = (cfi (f + 1)).toNatClampNeg := by rw [i32_natI c2, i32_natI rfl]
      rw [c1, c2, c3, c4]
      refine ⟨a1, a2, by omega, a4.ext (m := len.toNatClampNeg) (by have := i32_clamp (x := cfi (f + 1)) (by omega); omega) hl2 q2, a5, a6, fun j j1 j2 => ?_⟩
      rw [q4 j (by omega)]
      exact a7 j j1 j2
    · have e2 : f = k.toNatClampNeg := by omega
      subst e2
      have c1 : cfi2 k.toNatClampNeg = len := by rw [q3, pk_un (show k.toNatClampNeg ≠ k.toNatClampNeg + 1 by omega), pk_us]
      have c2 : cfi2 (k.toNatClampNeg + 1) = len2 := by rw [q3, pk_us]
      rw [c1, c2, q7, pk_us]
      exact ⟨hl0, hl1, by omega, q1, q5, q6, fun j j1 j2 => q8 j (by omega) (by omega)⟩
  · rw [show (k.toInt + 1).toNat = k.toNatClampNeg + 1 from by omega, q3, pk_us]
theorem rd_C.nil {len lc : Int} {cfi clk clt cop cpt cel : Nat → Int32} {cva : Nat → Int64} : rd_C 0 len lc cfi clk clt cop cpt cel cva := ⟨fun f hf => absurd hf (by omega), fun h => absurd h (by omega)⟩
