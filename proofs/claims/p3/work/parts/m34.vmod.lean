/-! the reference: the tables of a module as its validator and its machine use them -/
def tkM (mpc : Nat → Int32) (mto : Nat → Int64) (g : Nat) : Int := (mpc (mto g).toInt.toNat).toInt
def rtM (mre : Nat → Int32) (mto : Nat → Int64) (g : Nat) : Int := (mre (mto g).toInt.toNat).toInt
def gvM (mre : Nat → Int32) (mto : Nat → Int64) (g : Nat) : Int := if rtM mre mto g = 0 then 0 else 1
def nlM (mpc mlc : Nat → Int32) (mto : Nat → Int64) (g : Nat) : Int := tkM mpc mto g + (mlc g).toInt
def ltM (mpc : Nat → Int32) (mto : Nat → Int64) (M1 M2 : Nat → Nat → Int32) (g k : Nat) : Int := if (k : Int) < tkM mpc mto g then (M1 (mto g).toInt.toNat k).toInt else (M2 g (k - tkM mpc mto g).toNat).toInt
def gtM (mgt : Nat → Int32) (g : Nat) : Int := (mgt g).toInt
theorem vctx_of {tc fc gc cu : Int} {b en el mca mpc mre mlc mgt mgk : Nat → Int32} {mto mst : Nat → Int64} {M1 M2 : Nat → Nat → Int32} {n lc : Int32} {cfi gop gpt gel glb : Nat → Int32} {gva : Nat → Int64} {pos : Nat → Nat} (hT : mdT tc mpc mre M1) (hF : mdF fc mto) (hG : mdG gc mgt mgk mst) (hC : mdc b en el mca mlc M2 fc cu n lc cfi gop gpt gel glb gva pos) (htc : tc ≤ 20) (ht : ∀ f : Nat, (f : Int) < fc → (mto f).toInt < tc) :
    vctx fc gc mpc mre mlc mgt mto M1 M2 (ltM mpc mto M1 M2) (rtM mre mto) (nlM mpc mlc mto) (gvM mre mto) (tkM mpc mto) (gtM mgt) := by
  refine ⟨fun g hg => ?_, fun g hg => ⟨rfl, (hG g hg).1⟩⟩
  have h0 := (hF g hg).1
  have h1 := ht g hg
  obtain ⟨t1, t2⟩ := hT (mto g).toInt.toNat (by omega)
  obtain ⟨-, -, -, -, -, -, h7⟩ := hC.2.2 g hg
  refine ⟨h0, by omega, rfl, rfl, t2, rfl, rfl, fun k hk => ?_, fun k k1 k2 => ?_⟩
  · have e : ltM mpc mto M1 M2 g k = (M1 (mto g).toInt.toNat k).toInt := if_pos hk
    exact ⟨e, by rw [e]; exact t1 k hk⟩
  · have e : ltM mpc mto M1 M2 g k = (M2 g (k - tkM mpc mto g).toNat).toInt := if_neg (by omega)
    refine ⟨e, ?_⟩
    rw [e]
    unfold nlM at k2
    exact h7 _ (by omega)
theorem uF_b (g : Nat → Int32) : ∀ (f p : Nat) (k : Int32) (v : Int64), 0 ≤ k.toInt → k.toInt + f ≤ 5 → 0 ≤ v.toInt → v.toInt < 34359738368 → 0 ≤ (uF g f p k v).toInt ∧ (uF g f p k v).toInt < 34359738368
  | 0, _, _, v, _, _, h1, h2 => ⟨h1, h2⟩
  | f + 1, p, k, v, h0, hk, h1, h2 => by
    have s7 : (7 * k).toInt = 7 * k.toInt := by
      have z := i32_mul (x := 7 * k) (a := 7) (b := k) rfl (by rw [show (7 : Int32).toInt = 7 from by decide]; omega) (by rw [show (7 : Int32).toInt = 7 from by decide]; omega)
      rw [show (7 : Int32).toInt = 7 from by decide] at z
      exact z
    have q := i32_and127 (g p &&& 255)
    have w := lor_b (v := v) (p := ((g p &&& 255) &&& 127).toInt64) (sh := 7 * k) rfl rfl ⟨h1, h2⟩ (by rw [Int32.toInt_toInt64]; omega) (by rw [s7]; omega)
    rw [uF]
    split
    · exact w
    · have k1 : (k + 1).toInt = k.toInt + 1 := by
        have z := i32_add (x := k + 1) (a := k) (b := 1) rfl (by rw [show (1 : Int32).toInt = 1 from by decide]; omega) (by rw [show (1 : Int32).toInt = 1 from by decide]; omega)
        rw [show (1 : Int32).toInt = 1 from by decide] at z
        exact z
      exact uF_b g f (p + 1) (k + 1) _ (by omega) (by omega) w.1 w.2
theorem uF_0 (g : Nat → Int32) (p : Nat) : 0 ≤ (uF g 5 p 0 0).toInt := (uF_b g 5 p 0 0 (by decide) (by decide) (by decide) (by decide)).1
