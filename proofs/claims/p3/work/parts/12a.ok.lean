/-! where an instruction may lead: what the picture 'an' must say for the machine to be safe -/
def mc_lab (an : mc_A) (gop gpt : Nat → Int32) (gva : Nat → Int64) (f : Nat) (bs : List (Nat × Int)) (l : Int) : Prop :=
  0 ≤ l ∧ ∀ (n : Nat) (b : Nat × Int), (n : Int) = l → bs[n]? = some b → ((gop b.1).toInt = 3 → an (b.1 + 1) = some (f, bs.drop n, b.2)) ∧ ((gop b.1).toInt ≠ 3 → 0 ≤ (gpt b.1).toInt ∧ (gpt b.1).toInt < 5000 ∧ an ((gpt b.1).toInt.toNat + 1) = some (f, bs.drop (n + 1), b.2 + if (gva b.1).toInt = 64 then 0 else 1))
def mc_if (an : mc_A) (gpt gel : Nat → Int32) (i f : Nat) (bs : List (Nat × Int)) (h : Int) : Prop :=
  bs.length < 100 ∧ an (i + 1) = some (f, (i, h - 1) :: bs, h - 1) ∧ (0 ≤ (gel i).toInt → (gel i).toInt < 5000 ∧ an ((gel i).toInt.toNat + 1) = some (f, (i, h - 1) :: bs, h - 1)) ∧ ((gel i).toInt < 0 → 0 ≤ (gpt i).toInt ∧ (gpt i).toInt < 5000 ∧ an ((gpt i).toInt.toNat + 1) = some (f, bs, h - 1))
def mc_at (an : mc_A) (nl gv tk : Nat → Int) (fc gc : Int) (gop gpt gel gla : Nat → Int32) (gva : Nat → Int64) (i f : Nat) (bs : List (Nat × Int)) (h : Int) : Prop :=
  ((gop i).toInt = 1 → an (i + 1) = some (f, bs, h)) ∧
  ((gop i).toInt = 2 ∨ (gop i).toInt = 3 → bs.length < 100 ∧ an (i + 1) = some (f, (i, h) :: bs, h)) ∧
  ((gop i).toInt = 4 → 1 ≤ h ∧ mc_if an gpt gel i f bs h) ∧
  ((gop i).toInt = 5 → 0 ≤ (gpt i).toInt ∧ an (gpt i).toInt.toNat = some (f, bs, h)) ∧
  ((gop i).toInt = 11 → ∀ (b : Nat × Int) (r : List (Nat × Int)), bs = b :: r → an (i + 1) = some (f, r, h)) ∧
  ((gop i).toInt = 12 → (gva i).toInt ≤ 2147483647 ∧ mc_lab an gop gpt gva f bs (gva i).toInt) ∧
  ((gop i).toInt = 13 → 1 ≤ h ∧ (gva i).toInt ≤ 2147483647 ∧ mc_lab an gop gpt gva f bs (gva i).toInt ∧ an (i + 1) = some (f, bs, h - 1)) ∧
  ((gop i).toInt = 14 → 1 ≤ h ∧ 0 ≤ (gva i).toInt ∧ 0 ≤ (gpt i).toInt ∧ (gva i).toInt + (gpt i).toInt < 2000 ∧ ∀ k : Nat, (k : Int) ≤ (gpt i).toInt → mc_lab an gop gpt gva f bs (gla ((gva i).toInt.toNat + k)).toInt) ∧
  ((gop i).toInt = 16 → 0 ≤ (gva i).toInt ∧ (gva i).toInt < fc ∧ tk (gva i).toInt.toNat ≤ h ∧ an (i + 1) = some (f, bs, h - tk (gva i).toInt.toNat + gv (gva i).toInt.toNat)) ∧
  ((gop i).toInt = 26 → 1 ≤ h ∧ an (i + 1) = some (f, bs, h - 1)) ∧
  ((gop i).toInt = 27 → 3 ≤ h ∧ an (i + 1) = some (f, bs, h - 2)) ∧
  (32 ≤ (gop i).toInt ∧ (gop i).toInt ≤ 34 → 0 ≤ (gva i).toInt ∧ (gva i).toInt < nl f ∧ nl f ≤ 68) ∧
  ((gop i).toInt = 32 → an (i + 1) = some (f, bs, h + 1)) ∧
  ((gop i).toInt = 33 → 1 ≤ h ∧ an (i + 1) = some (f, bs, h - 1)) ∧
  ((gop i).toInt = 34 → 1 ≤ h ∧ an (i + 1) = some (f, bs, h)) ∧
  ((gop i).toInt = 35 → 0 ≤ (gva i).toInt ∧ (gva i).toInt < gc ∧ an (i + 1) = some (f, bs, h + 1)) ∧
  ((gop i).toInt = 36 → 0 ≤ (gva i).toInt ∧ (gva i).toInt < gc ∧ 1 ≤ h ∧ an (i + 1) = some (f, bs, h - 1)) ∧
  ((gop i).toInt = 63 → an (i + 1) = some (f, bs, h + 1)) ∧
  ((gop i).toInt = 64 → 1 ≤ h ∧ an (i + 1) = some (f, bs, h)) ∧
  ((gop i).toInt = 54 ∨ (gop i).toInt = 55 ∨ (gop i).toInt = 58 → 2 ≤ h ∧ an (i + 1) = some (f, bs, h - 2)) ∧
  ((gop i).toInt = 40 ∨ (gop i).toInt = 41 ∨ (gop i).toInt = 44 ∨ (gop i).toInt = 45 → 1 ≤ h ∧ an (i + 1) = some (f, bs, h)) ∧
  ((gop i).toInt = 65 ∨ (gop i).toInt = 66 → an (i + 1) = some (f, bs, h + 1)) ∧
  ((gop i).toInt = 69 ∨ (gop i).toInt = 80 ∨ (103 ≤ (gop i).toInt ∧ (gop i).toInt < 106) ∨ (121 ≤ (gop i).toInt ∧ (gop i).toInt < 124) ∨ 138 < (gop i).toInt → 1 ≤ h ∧ an (i + 1) = some (f, bs, h)) ∧
  ((69 < (gop i).toInt ∧ (gop i).toInt < 80) ∨ (80 < (gop i).toInt ∧ (gop i).toInt ≤ 90) ∨ (106 ≤ (gop i).toInt ∧ (gop i).toInt < 121) ∨ (124 ≤ (gop i).toInt ∧ (gop i).toInt ≤ 138) → 2 ≤ h ∧ an (i + 1) = some (f, bs, h - 1)) ∧
  ((0 ≤ (gop i).toInt ∧ (gop i).toInt ≤ 5) ∨ (11 ≤ (gop i).toInt ∧ (gop i).toInt ≤ 16) ∨ (gop i).toInt = 26 ∨ (gop i).toInt = 27 ∨ (32 ≤ (gop i).toInt ∧ (gop i).toInt ≤ 36) ∨ (gop i).toInt = 40 ∨ (gop i).toInt = 41 ∨ (gop i).toInt = 44 ∨ (gop i).toInt = 45 ∨ (gop i).toInt = 54 ∨ (gop i).toInt = 55 ∨ (gop i).toInt = 58 ∨ (63 ≤ (gop i).toInt ∧ (gop i).toInt ≤ 66) ∨ (69 ≤ (gop i).toInt ∧ (gop i).toInt ≤ 90) ∨ (103 ≤ (gop i).toInt ∧ (gop i).toInt ≤ 138) ∨ (gop i).toInt = 167 ∨ (gop i).toInt = 172 ∨ (gop i).toInt = 173)
