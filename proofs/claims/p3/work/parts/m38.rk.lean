/-! the reference: what its machine knows of a module -/
theorem byt3 {x : Int32} {o : Int} (h : -128 ≤ x.toInt ∧ x.toInt ≤ 127) (e : (x &&& 255).toInt = o) : x.toInt = 3 ↔ o = 3 := by
  constructor
  · intro z
    have : x = 3 := Int32.toInt_inj.mp (z.trans (by decide))
    rw [← e, this]
    decide
  · intro z
    have key : ∀ k : Nat, k < 256 → (Int32.ofInt ((k : Int) - 128) &&& 255).toInt = 3 → k = 131 := by decide +kernel
    have ex : x = Int32.ofInt (((x.toInt + 128).toNat : Int) - 128) := Int32.toInt_inj.mp (by rw [Int32.toInt_ofInt_of_le (by omega) (by omega)]; omega)
    have q := key (x.toInt + 128).toNat (by omega) (by rw [← ex, e]; exact z)
    omega
/-- a block in the bytes and in the numbers -/
def rkb (b en el : Nat → Int32) (pos : Nat → Nat) (gop gpt gel gla : Nat → Int32) (gva : Nat → Int64) (x : Nat) : Prop :=
  lkD b pos gop gpt gla gva x ∧ blk3 (gop x).toInt ∧ (en (pos x)).toInt + 1 = (pos ((gpt x).toNatClampNeg + 1) : Int) ∧ (pos ((gpt x).toNatClampNeg + 1) : Int) < 32768 ∧ ((gel x).toInt < 0 → (el (pos x)).toInt < 0) ∧ (0 ≤ (gel x).toInt → 0 ≤ (el (pos x)).toInt ∧ (el (pos x)).toInt + 1 = (pos ((gel x).toNatClampNeg + 1) : Int) ∧ (pos ((gel x).toNatClampNeg + 1) : Int) < 32768) ∧ pos (x + 1) = pos x + 2 ∧ (pos (x + 1) : Int) < 32768
def rko (b en el mca mpc mre mlc : Nat → Int32) (mto : Nat → Int64) (fc gc : Int) (lt T : Nat → Nat → Int) (rt nl gv tk gt : Nat → Int) (an : mc_A) (pos : Nat → Nat) (gop gpt gel gla : Nat → Int32) (gva : Nat → Int64) : Prop :=
  (∀ j, -128 ≤ (b j).toInt ∧ (b j).toInt ≤ 127) ∧
  (∀ f : Nat, (f : Int) < fc → (0 ≤ (mto f).toInt ∧ (mto f).toInt < 20) ∧ tk f = (mpc (mto f).toInt.toNat).toInt ∧ (rt f = 0 ↔ (mre (mto f).toInt.toNat).toInt = 0) ∧ (rt f = 0 ∨ rt f = 127 ∨ rt f = 126) ∧ gv f = ga0 (rt f) ∧ nl f = tk f + (mlc f).toInt ∧ (∀ k : Nat, (k : Int) < nl f → lt f k = 127 ∨ lt f k = 126) ∧ ∃ s, an s = some (f, [], 0) ∧ (pos s : Int) = (mca f).toInt) ∧
  (∀ g : Nat, (g : Int) < gc → gt g = 127 ∨ gt g = 126) ∧
  (∀ (i f : Nat) (bs : List (Nat × Int)) (h : Int), an i = some (f, bs, h) → (f : Int) < fc ∧ 0 ≤ h ∧ mr_at an T lt rt nl gv tk gt fc gc gop gpt gel gla gva i f bs h ∧ lkD b pos gop gpt gla gva i ∧ rs_val gop gpt gva 2000000 i ∧ (pos i : Int) < 32767 ∧ (blk3 (gop i).toInt → rkb b en el pos gop gpt gel gla gva i) ∧ (∀ x ∈ bs, 0 ≤ x.2 ∧ rkb b en el pos gop gpt gel gla gva x.1) ∧ (¬ ((gop i).toInt = 11 ∧ bs = []) → (pos (i + 1) : Int) = (nxo b (gop i).toInt (pos i + 1) : Int)))
section MRL
variable {an : mc_A} {T lt : Nat → Nat → Int} {rt nl : Nat → Int} {pos : Nat → Nat} {fb fs ff fl lb lh : Nat → Int32} {val val' : Nat → Int64}
theorem mst_lv {k f : Nat} {bs : List (Nat × Int)} {LC R : Int} {x : Int64} {fr2 lt2 cu2 vt2 : Int32} (hT : mr_tp an T lt rt nl pos fb fs ff fl lb lh val k f bs LC) (hR : rt f = 0 ↔ R = 0) (e1 : fr2.toInt = (k : Int)) (e2 : lt2 = fl k) (e3 : cu2 = fb k) (e4 : R = 0 → vt2 = fs k ∧ val' = val) (e5 : R ≠ 0 → vt2.toInt = (fs k).toInt + 1 ∧ val' = vp_updL val (fs k).toInt.toNat x) (hx : rt f ≠ 0 → rt f ≠ 126 → in32 x) (h1 : 1 ≤ fr2.toInt) :
    mcst an T lt rt nl pos fb fs ff fl lb lh val' fr2.toInt cu2.toInt vt2.toInt lt2.toInt := by
  have g := ga0_b (rt f)
  have b0 := hT.1.2.1
  by_cases q : R = 0
  · obtain ⟨k1, k2⟩ := e4 q
    subst k2
    rcases mst_leave hT (val' := val') (fun _ _ => rfl) (fun z => absurd (hR.mpr q) z) with w | w
    · omega
    · rw [g.2.2.2 (hR.mpr q), Int.add_zero] at w
      rw [e1, e2, e3, k1]
      exact w
  · obtain ⟨k1, k2⟩ := e5 q
    have r0 : rt f ≠ 0 := fun z => q (hR.mp z)
    rcases mst_leave hT (val' := val') (fun j hj => by rw [k2]; exact uLn (by omega)) (fun c0 c6 => by rw [k2, uLs]; exact hx c0 c6) with w | w
    · omega
    · rw [g.2.2.1 r0] at w
      rw [e1, e2, e3, k1]
      exact w
end MRL
