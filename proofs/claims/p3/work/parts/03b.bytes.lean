/-! bytes: what a row of bytes holds, as a list of numbers below 256; numbers in groups of seven bits -/
def un (x : Int32) : Nat := x.toBitVec.toNat
def bn (x : Int32) : Nat := x.toBitVec.toNat % 256
def bl (f : Nat → Int32) (k : Nat) : List Nat := (List.range k).map (fun j => bn (f j))
theorem bl_succ (f : Nat → Int32) (k : Nat) : bl f (k + 1) = bl f k ++ [bn (f k)] := by simp [bl, List.range_succ]
theorem bl_len (f : Nat → Int32) (k : Nat) : (bl f k).length = k := by simp [bl]
theorem bl_cong {f g : Nat → Int32} {k : Nat} (h : ∀ j, j < k → bn (f j) = bn (g j)) : bl f k = bl g k := by
  unfold bl
  exact List.map_congr_left (fun j hj => h j (List.mem_range.mp hj))
theorem bl_upd (f : Nat → Int32) (k : Nat) (v : Int32) : bl (upd f k v) k = bl f k := bl_cong (fun j hj => by rw [pk_un (Nat.ne_of_lt hj)])
theorem bn_and (x : Int32) : x &&& 255 = nI (bn x) := pk_and x (m := 255) 8 (by decide)
theorem bn_byte (v : Int32) : bn v.toInt8.toInt32 = bn v := by
  have h : (v.toInt8.toInt32).toBitVec.setWidth 8 = v.toBitVec.setWidth 8 := by
    rw [Int8.toBitVec_toInt32, Int32.toBitVec_toInt8]
    ext i hi
    simp [BitVec.getElem_setWidth, BitVec.getLsbD_signExtend, hi]
    have h32 : i < 32 := by omega
    simp [BitVec.getElem_signExtend, h32]
    try exact (BitVec.getLsbD_eq_getElem h32).symm
  have h2 := congrArg BitVec.toNat h
  simpa [bn, BitVec.toNat_setWidth] using h2
theorem bl_put (f : Nat → Int32) (k : Nat) (v : Int32) : bl (upd f k v.toInt8.toInt32) (k + 1) = bl f k ++ [bn v] := by rw [bl_succ, bl_upd, pk_us, bn_byte]
theorem un_eq0 {x : Int32} : x = 0 ↔ un x = 0 := by
  constructor
  · intro h; rw [h]; decide
  · intro h
    apply Int32.toBitVec_inj.mp
    exact BitVec.eq_of_toNat_eq h
theorem un_ushr7 (x : Int32) : un (x.toUInt32 >>> ((7 : Int32).toUInt32 &&& Int32.toUInt32 31)).toInt32 = un x / 128 := pk_ushr x 7 7 (by decide)
theorem bn_low (x : Int32) : bn ((x &&& 127) ||| 128) = un x % 128 + 128 := by
  rw [pk_and x (m := 127) 7 (by decide)]
  have h : ∀ a : Fin 128, bn (nI a.val ||| 128) = a.val + 128 := by decide +kernel
  exact h ⟨un x % 128, Nat.mod_lt _ (by decide)⟩
/-- a number without sign, in at most k + 1 groups -/
def leb : Nat → Nat → List Nat
  | 0, v => [v % 256]
  | k + 1, v => if v / 128 = 0 then [v % 256] else (v % 128 + 128) :: leb k (v / 128)
theorem leb_len : ∀ (k v : Nat), 1 ≤ (leb k v).length ∧ (leb k v).length ≤ k + 1
  | 0, v => by simp [leb]
  | k + 1, v => by
    unfold leb
    split
    · simp
    · have := leb_len k (v / 128)
      simp only [List.length_cons]
      omega
theorem leb_go {k v : Nat} (h : v / 128 ≠ 0) : leb (k + 1) v = (v % 128 + 128) :: leb k (v / 128) := by rw [leb, if_neg h]
theorem leb_end {k v : Nat} (h : v / 128 = 0) : leb k v = [v % 256] := by
  cases k with
  | zero => rfl
  | succ k => rw [leb, if_pos h]
theorem bl_part (f : Nat → Int32) {k a i : Nat} (h : a + i < k) : ((bl f k).drop a).take (i + 1) = ((bl f k).drop a).take i ++ [bn (f (a + i))] := by
  rw [List.take_succ]
  congr 1
  rw [List.getElem?_drop]
  simp [bl, h]
theorem bn_nI {b : Nat} (h : b < 256) : bn (nI b) = b := by
  have h1 : (nI b).toBitVec.toNat = b := pk_tn (by omega)
  unfold bn
  rw [h1]
  omega
theorem bn_lt (x : Int32) : bn x < 256 := Nat.mod_lt _ (by decide)
theorem clampN {x : Int32} {k : Nat} (h : x.toInt = (k : Int)) : x.toNatClampNeg = k := by
  have := i32_clamp (x := x) (by omega)
  omega
