/-! decode rows by lemmas of opcodes: the bytes alone are looked up for each row -/
def bz (b : ByteArray) (p : Nat) : Nat := match b.data.toList[p]? with | some x => x.toNat | none => 256
theorem bz_lt {b : ByteArray} {p v : Nat} (h : bz b p = v) (hv : v < 256) : ∃ hp : p < b.size, (b[p]'hp).toNat = v := by
  unfold bz at h
  split at h
  · rename_i x hx
    obtain ⟨hp, e⟩ := List.getElem?_eq_some_iff.mp hx
    refine ⟨hp, ?_⟩
    have e2 : b[p]'hp = x := e
    rw [e2]; exact h
  · (first | (apply Int.le_antisymm <;> omega) | omega)
theorem bz_u1 {b : ByteArray} {p v : Nat} (h : bz b p = v) (hv : v < 256) : (Reader.u1 : Decoder Nat) b p = .ok (v, p + 1) := by
  obtain ⟨hp, e⟩ := bz_lt h hv
  show (dite (p < b.size) (fun h => ((MonadStateOf.set (p + 1) : Decoder PUnit) >>= fun _ => (Pure.pure (b[p]'h).toNat : Decoder Nat))) (fun _ => (throw (HasTruncated.truncated p) : Decoder Nat)) : Decoder Nat) b p = _
  rw [dif_pos hp]
  show (Except.ok ((b[p]'hp).toNat, p + 1) : Except DecodeError (Nat × Nat)) = _
  rw [e]
theorem bz_b {α : Type} {f : Nat → Decoder α} {b : ByteArray} {p v : Nat} (h : bz b p = v) (hv : v < 256) : ((Reader.u1 : Decoder Nat) >>= f) b p = f v b (p + 1) := by
  show ((Reader.u1 : Decoder Nat) b p).bind (fun q => f q.1 b q.2) = _
  rw [bz_u1 h hv]; rfl
theorem bz_d {b : ByteArray} {pc q : Nat} {I : Instr} (h : Decoder.instr pc b pc = .ok (I, q)) : decode b pc = .ok (I, q - pc) := by
  show ((Decoder.instr pc b pc).bind (fun r => (.ok (r.1, r.2 - pc) : Except DecodeError (Instr × Nat)))) = _
  rw [h]; rfl
theorem bz_1 {b : ByteArray} {pc c : Nat} {I : Instr} (hc : c < 256) (e : ∀ (b : ByteArray) (pc : Nat), bz b pc = c → Decoder.instr pc b pc = .ok (I, pc + 1)) (h : bz b pc = c) : decode b pc = .ok (I, 1) := by
  rw [bz_d (e b pc h), Nat.add_sub_cancel_left]
theorem bz_r {α β : Type} {r : Decoder α} {f : α → Decoder β} {b : ByteArray} {p q : Nat} {v : α} (h : r b p = .ok (v, q)) : (r >>= f) b p = f v b q := by
  show (r b p).bind (fun z => f z.1 b z.2) = _
  rw [h]; rfl
theorem bz_u2 {b : ByteArray} {p x y : Nat} (hx : bz b p = x) (h1 : x < 256) (hy : bz b (p + 1) = y) (h2 : y < 256) : (Reader.u2 : Decoder Nat) b p = .ok (x * 256 + y, p + 2) := by
  unfold Reader.u2
  rw [bz_b hx h1, bz_b hy h2]; rfl
theorem bz_s2 {b : ByteArray} {p x y : Nat} (hx : bz b p = x) (h1 : x < 256) (hy : bz b (p + 1) = y) (h2 : y < 256) : (Reader.s2 : Decoder Int) b p = .ok (Reader.signed 16 (x * 256 + y), p + 2) := by
  show ((Reader.u2 : Decoder Nat) b p).bind (fun z => (.ok (Reader.signed 16 z.1, z.2) : Except DecodeError (Int × Nat))) = _
  rw [bz_u2 hx h1 hy h2]; rfl
theorem bz_s1 {b : ByteArray} {p x : Nat} (hx : bz b p = x) (h1 : x < 256) : (Reader.s1 : Decoder Int) b p = .ok (Reader.signed 8 x, p + 1) := by
  show ((Reader.u1 : Decoder Nat) b p).bind (fun z => (.ok (Reader.signed 8 z.1, z.2) : Except DecodeError (Int × Nat))) = _
  rw [bz_u1 hx h1]; rfl
def bw1 (b : ByteArray) (p c n : Nat) : Bool := Nat.beq (bz b p) c && (Nat.beq (bz b (p + 1)) n && Nat.blt n 256)
def bv1 (b : ByteArray) (p c : Nat) (n : Int) : Bool := Nat.beq (bz b p) c && (Nat.blt (bz b (p + 1)) 256 && decide (Reader.signed 8 (bz b (p + 1)) = n))
def bw2 (b : ByteArray) (p c n : Nat) : Bool := Nat.beq (bz b p) c && (Nat.blt (bz b (p + 1)) 256 && (Nat.blt (bz b (p + 2)) 256 && Nat.beq (bz b (p + 1) * 256 + bz b (p + 2)) n))
def bv2 (b : ByteArray) (p c : Nat) (n : Int) : Bool := Nat.beq (bz b p) c && (Nat.blt (bz b (p + 1)) 256 && (Nat.blt (bz b (p + 2)) 256 && decide (Reader.signed 16 (bz b (p + 1) * 256 + bz b (p + 2)) = n)))
def bwi (b : ByteArray) (p n : Nat) (k : Int) : Bool := Nat.beq (bz b p) 132 && (Nat.beq (bz b (p + 1)) n && (Nat.blt n 256 && (Nat.blt (bz b (p + 2)) 256 && decide (Reader.signed 8 (bz b (p + 2)) = k))))
theorem bz_lt2 {a b : Nat} (h : Nat.blt a b = true) : a < b := Nat.le_of_ble_eq_true h
theorem bz_q1 {b : ByteArray} {pc c n : Nat} {f : Nat → Instr} (hc : c < 256) (e : ∀ (b : ByteArray) (pc : Nat), bz b pc = c → Decoder.instr pc b pc = ((Reader.u1 : Decoder Nat) >>= fun z => (Pure.pure (f z) : Decoder Instr)) b (pc + 1)) (h : bw1 b pc c n = true) : decode b pc = .ok (f n, 2) := by
  unfold bw1 at h
  simp only [Bool.and_eq_true] at h
  have e2 := e b pc (Nat.eq_of_beq_eq_true h.1)
  rw [bz_b (Nat.eq_of_beq_eq_true h.2.1) (bz_lt2 h.2.2)] at e2
  rw [bz_d (q := pc + 2) e2, Nat.add_sub_cancel_left]
theorem bz_t1 {b : ByteArray} {pc c : Nat} {n : Int} {f : Int → Instr} (hc : c < 256) (e : ∀ (b : ByteArray) (pc : Nat), bz b pc = c → Decoder.instr pc b pc = ((Reader.s1 : Decoder Int) >>= fun z => (Pure.pure (f z) : Decoder Instr)) b (pc + 1)) (h : bv1 b pc c n = true) : decode b pc = .ok (f n, 2) := by
  unfold bv1 at h
  simp only [Bool.and_eq_true, decide_eq_true_eq] at h
  have e2 := e b pc (Nat.eq_of_beq_eq_true h.1)
  rw [bz_r (bz_s1 rfl (bz_lt2 h.2.1)), h.2.2] at e2
  rw [bz_d (q := pc + 2) e2, Nat.add_sub_cancel_left]
theorem bz_q2 {b : ByteArray} {pc c n : Nat} {f : Nat → Instr} (hc : c < 256) (e : ∀ (b : ByteArray) (pc : Nat), bz b pc = c → Decoder.instr pc b pc = ((Reader.u2 : Decoder Nat) >>= fun z => (Pure.pure (f z) : Decoder Instr)) b (pc + 1)) (h : bw2 b pc c n = true) : decode b pc = .ok (f n, 3) := by
  unfold bw2 at h
  simp only [Bool.and_eq_true] at h
  have e2 := e b pc (Nat.eq_of_beq_eq_true h.1)
  rw [bz_r (bz_u2 (p := pc + 1) rfl (bz_lt2 h.2.1) rfl (bz_lt2 h.2.2.1)), Nat.eq_of_beq_eq_true h.2.2.2] at e2
  rw [bz_d (q := pc + 3) e2, Nat.add_sub_cancel_left]
theorem bz_t2 {b : ByteArray} {pc c : Nat} {n : Int} {f : Int → Instr} (hc : c < 256) (e : ∀ (b : ByteArray) (pc : Nat), bz b pc = c → Decoder.instr pc b pc = ((Reader.s2 : Decoder Int) >>= fun z => (Pure.pure (f z) : Decoder Instr)) b (pc + 1)) (h : bv2 b pc c n = true) : decode b pc = .ok (f n, 3) := by
  unfold bv2 at h
  simp only [Bool.and_eq_true, decide_eq_true_eq] at h
  have e2 := e b pc (Nat.eq_of_beq_eq_true h.1)
  rw [bz_r (bz_s2 (p := pc + 1) rfl (bz_lt2 h.2.1) rfl (bz_lt2 h.2.2.1)), h.2.2.2] at e2
  rw [bz_d (q := pc + 3) e2, Nat.add_sub_cancel_left]
set_option maxRecDepth 100000 in
theorem bz_c1 {b : ByteArray} {pc : Nat} (h : bz b pc = 1) : decode b pc = .ok (.aconst_null, 1) := bz_1 (c := 1) (by decide) (fun b pc h => by unfold Decoder.instr; rw [bz_b h (by decide)]; rfl) h
set_option maxRecDepth 100000 in
theorem bz_c2 {b : ByteArray} {pc : Nat} (h : bz b pc = 2) : decode b pc = .ok (.iconst (-1), 1) := bz_1 (c := 2) (by decide) (fun b pc h => by unfold Decoder.instr; rw [bz_b h (by decide)]; rfl) h
set_option maxRecDepth 100000 in
theorem bz_c3 {b : ByteArray} {pc : Nat} (h : bz b pc = 3) : decode b pc = .ok (.iconst 0, 1) := bz_1 (c := 3) (by decide) (fun b pc h => by unfold Decoder.instr; rw [bz_b h (by decide)]; rfl) h
set_option maxRecDepth 100000 in
theorem bz_c4 {b : ByteArray} {pc : Nat} (h : bz b pc = 4) : decode b pc = .ok (.iconst 1, 1) := bz_1 (c := 4) (by decide) (fun b pc h => by unfold Decoder.instr; rw [bz_b h (by decide)]; rfl) h
set_option maxRecDepth 100000 in
theorem bz_c5 {b : ByteArray} {pc : Nat} (h : bz b pc = 5) : decode b pc = .ok (.iconst 2, 1) := bz_1 (c := 5) (by decide) (fun b pc h => by unfold Decoder.instr; rw [bz_b h (by decide)]; rfl) h
set_option maxRecDepth 100000 in
theorem bz_c6 {b : ByteArray} {pc : Nat} (h : bz b pc = 6) : decode b pc = .ok (.iconst 3, 1) := bz_1 (c := 6) (by decide) (fun b pc h => by unfold Decoder.instr; rw [bz_b h (by decide)]; rfl) h
set_option maxRecDepth 100000 in
theorem bz_c7 {b : ByteArray} {pc : Nat} (h : bz b pc = 7) : decode b pc = .ok (.iconst 4, 1) := bz_1 (c := 7) (by decide) (fun b pc h => by unfold Decoder.instr; rw [bz_b h (by decide)]; rfl) h
set_option maxRecDepth 100000 in
theorem bz_c8 {b : ByteArray} {pc : Nat} (h : bz b pc = 8) : decode b pc = .ok (.iconst 5, 1) := bz_1 (c := 8) (by decide) (fun b pc h => by unfold Decoder.instr; rw [bz_b h (by decide)]; rfl) h
set_option maxRecDepth 100000 in
theorem bz_c9 {b : ByteArray} {pc : Nat} (h : bz b pc = 9) : decode b pc = .ok (.lconst 0, 1) := bz_1 (c := 9) (by decide) (fun b pc h => by unfold Decoder.instr; rw [bz_b h (by decide)]; rfl) h
set_option maxRecDepth 100000 in
theorem bz_c10 {b : ByteArray} {pc : Nat} (h : bz b pc = 10) : decode b pc = .ok (.lconst 1, 1) := bz_1 (c := 10) (by decide) (fun b pc h => by unfold Decoder.instr; rw [bz_b h (by decide)]; rfl) h
set_option maxRecDepth 100000 in
theorem bz_c26 {b : ByteArray} {pc : Nat} (h : bz b pc = 26) : decode b pc = .ok (.iload_n 0, 1) := bz_1 (c := 26) (by decide) (fun b pc h => by unfold Decoder.instr; rw [bz_b h (by decide)]; rfl) h
set_option maxRecDepth 100000 in
theorem bz_c27 {b : ByteArray} {pc : Nat} (h : bz b pc = 27) : decode b pc = .ok (.iload_n 1, 1) := bz_1 (c := 27) (by decide) (fun b pc h => by unfold Decoder.instr; rw [bz_b h (by decide)]; rfl) h
set_option maxRecDepth 100000 in
theorem bz_c28 {b : ByteArray} {pc : Nat} (h : bz b pc = 28) : decode b pc = .ok (.iload_n 2, 1) := bz_1 (c := 28) (by decide) (fun b pc h => by unfold Decoder.instr; rw [bz_b h (by decide)]; rfl) h
set_option maxRecDepth 100000 in
theorem bz_c29 {b : ByteArray} {pc : Nat} (h : bz b pc = 29) : decode b pc = .ok (.iload_n 3, 1) := bz_1 (c := 29) (by decide) (fun b pc h => by unfold Decoder.instr; rw [bz_b h (by decide)]; rfl) h
set_option maxRecDepth 100000 in
theorem bz_c30 {b : ByteArray} {pc : Nat} (h : bz b pc = 30) : decode b pc = .ok (.lload_n 0, 1) := bz_1 (c := 30) (by decide) (fun b pc h => by unfold Decoder.instr; rw [bz_b h (by decide)]; rfl) h
set_option maxRecDepth 100000 in
theorem bz_c31 {b : ByteArray} {pc : Nat} (h : bz b pc = 31) : decode b pc = .ok (.lload_n 1, 1) := bz_1 (c := 31) (by decide) (fun b pc h => by unfold Decoder.instr; rw [bz_b h (by decide)]; rfl) h
set_option maxRecDepth 100000 in
theorem bz_c32 {b : ByteArray} {pc : Nat} (h : bz b pc = 32) : decode b pc = .ok (.lload_n 2, 1) := bz_1 (c := 32) (by decide) (fun b pc h => by unfold Decoder.instr; rw [bz_b h (by decide)]; rfl) h
set_option maxRecDepth 100000 in
theorem bz_c33 {b : ByteArray} {pc : Nat} (h : bz b pc = 33) : decode b pc = .ok (.lload_n 3, 1) := bz_1 (c := 33) (by decide) (fun b pc h => by unfold Decoder.instr; rw [bz_b h (by decide)]; rfl) h
set_option maxRecDepth 100000 in
theorem bz_c42 {b : ByteArray} {pc : Nat} (h : bz b pc = 42) : decode b pc = .ok (.aload_n 0, 1) := bz_1 (c := 42) (by decide) (fun b pc h => by unfold Decoder.instr; rw [bz_b h (by decide)]; rfl) h
set_option maxRecDepth 100000 in
theorem bz_c43 {b : ByteArray} {pc : Nat} (h : bz b pc = 43) : decode b pc = .ok (.aload_n 1, 1) := bz_1 (c := 43) (by decide) (fun b pc h => by unfold Decoder.instr; rw [bz_b h (by decide)]; rfl) h
set_option maxRecDepth 100000 in
theorem bz_c44 {b : ByteArray} {pc : Nat} (h : bz b pc = 44) : decode b pc = .ok (.aload_n 2, 1) := bz_1 (c := 44) (by decide) (fun b pc h => by unfold Decoder.instr; rw [bz_b h (by decide)]; rfl) h
set_option maxRecDepth 100000 in
theorem bz_c45 {b : ByteArray} {pc : Nat} (h : bz b pc = 45) : decode b pc = .ok (.aload_n 3, 1) := bz_1 (c := 45) (by decide) (fun b pc h => by unfold Decoder.instr; rw [bz_b h (by decide)]; rfl) h
set_option maxRecDepth 100000 in
theorem bz_c46 {b : ByteArray} {pc : Nat} (h : bz b pc = 46) : decode b pc = .ok (.iaload, 1) := bz_1 (c := 46) (by decide) (fun b pc h => by unfold Decoder.instr; rw [bz_b h (by decide)]; rfl) h
set_option maxRecDepth 100000 in
theorem bz_c47 {b : ByteArray} {pc : Nat} (h : bz b pc = 47) : decode b pc = .ok (.laload, 1) := bz_1 (c := 47) (by decide) (fun b pc h => by unfold Decoder.instr; rw [bz_b h (by decide)]; rfl) h
set_option maxRecDepth 100000 in
theorem bz_c50 {b : ByteArray} {pc : Nat} (h : bz b pc = 50) : decode b pc = .ok (.aaload, 1) := bz_1 (c := 50) (by decide) (fun b pc h => by unfold Decoder.instr; rw [bz_b h (by decide)]; rfl) h
set_option maxRecDepth 100000 in
theorem bz_c51 {b : ByteArray} {pc : Nat} (h : bz b pc = 51) : decode b pc = .ok (.baload, 1) := bz_1 (c := 51) (by decide) (fun b pc h => by unfold Decoder.instr; rw [bz_b h (by decide)]; rfl) h
set_option maxRecDepth 100000 in
theorem bz_c59 {b : ByteArray} {pc : Nat} (h : bz b pc = 59) : decode b pc = .ok (.istore_n 0, 1) := bz_1 (c := 59) (by decide) (fun b pc h => by unfold Decoder.instr; rw [bz_b h (by decide)]; rfl) h
set_option maxRecDepth 100000 in
theorem bz_c60 {b : ByteArray} {pc : Nat} (h : bz b pc = 60) : decode b pc = .ok (.istore_n 1, 1) := bz_1 (c := 60) (by decide) (fun b pc h => by unfold Decoder.instr; rw [bz_b h (by decide)]; rfl) h
set_option maxRecDepth 100000 in
theorem bz_c61 {b : ByteArray} {pc : Nat} (h : bz b pc = 61) : decode b pc = .ok (.istore_n 2, 1) := bz_1 (c := 61) (by decide) (fun b pc h => by unfold Decoder.instr; rw [bz_b h (by decide)]; rfl) h
set_option maxRecDepth 100000 in
theorem bz_c62 {b : ByteArray} {pc : Nat} (h : bz b pc = 62) : decode b pc = .ok (.istore_n 3, 1) := bz_1 (c := 62) (by decide) (fun b pc h => by unfold Decoder.instr; rw [bz_b h (by decide)]; rfl) h
set_option maxRecDepth 100000 in
theorem bz_c63 {b : ByteArray} {pc : Nat} (h : bz b pc = 63) : decode b pc = .ok (.lstore_n 0, 1) := bz_1 (c := 63) (by decide) (fun b pc h => by unfold Decoder.instr; rw [bz_b h (by decide)]; rfl) h
set_option maxRecDepth 100000 in
theorem bz_c64 {b : ByteArray} {pc : Nat} (h : bz b pc = 64) : decode b pc = .ok (.lstore_n 1, 1) := bz_1 (c := 64) (by decide) (fun b pc h => by unfold Decoder.instr; rw [bz_b h (by decide)]; rfl) h
set_option maxRecDepth 100000 in
theorem bz_c65 {b : ByteArray} {pc : Nat} (h : bz b pc = 65) : decode b pc = .ok (.lstore_n 2, 1) := bz_1 (c := 65) (by decide) (fun b pc h => by unfold Decoder.instr; rw [bz_b h (by decide)]; rfl) h
set_option maxRecDepth 100000 in
theorem bz_c66 {b : ByteArray} {pc : Nat} (h : bz b pc = 66) : decode b pc = .ok (.lstore_n 3, 1) := bz_1 (c := 66) (by decide) (fun b pc h => by unfold Decoder.instr; rw [bz_b h (by decide)]; rfl) h
set_option maxRecDepth 100000 in
theorem bz_c75 {b : ByteArray} {pc : Nat} (h : bz b pc = 75) : decode b pc = .ok (.astore_n 0, 1) := bz_1 (c := 75) (by decide) (fun b pc h => by unfold Decoder.instr; rw [bz_b h (by decide)]; rfl) h
set_option maxRecDepth 100000 in
theorem bz_c76 {b : ByteArray} {pc : Nat} (h : bz b pc = 76) : decode b pc = .ok (.astore_n 1, 1) := bz_1 (c := 76) (by decide) (fun b pc h => by unfold Decoder.instr; rw [bz_b h (by decide)]; rfl) h
set_option maxRecDepth 100000 in
theorem bz_c77 {b : ByteArray} {pc : Nat} (h : bz b pc = 77) : decode b pc = .ok (.astore_n 2, 1) := bz_1 (c := 77) (by decide) (fun b pc h => by unfold Decoder.instr; rw [bz_b h (by decide)]; rfl) h
set_option maxRecDepth 100000 in
theorem bz_c78 {b : ByteArray} {pc : Nat} (h : bz b pc = 78) : decode b pc = .ok (.astore_n 3, 1) := bz_1 (c := 78) (by decide) (fun b pc h => by unfold Decoder.instr; rw [bz_b h (by decide)]; rfl) h
set_option maxRecDepth 100000 in
theorem bz_c79 {b : ByteArray} {pc : Nat} (h : bz b pc = 79) : decode b pc = .ok (.iastore, 1) := bz_1 (c := 79) (by decide) (fun b pc h => by unfold Decoder.instr; rw [bz_b h (by decide)]; rfl) h
set_option maxRecDepth 100000 in
theorem bz_c80 {b : ByteArray} {pc : Nat} (h : bz b pc = 80) : decode b pc = .ok (.lastore, 1) := bz_1 (c := 80) (by decide) (fun b pc h => by unfold Decoder.instr; rw [bz_b h (by decide)]; rfl) h
set_option maxRecDepth 100000 in
theorem bz_c83 {b : ByteArray} {pc : Nat} (h : bz b pc = 83) : decode b pc = .ok (.aastore, 1) := bz_1 (c := 83) (by decide) (fun b pc h => by unfold Decoder.instr; rw [bz_b h (by decide)]; rfl) h
set_option maxRecDepth 100000 in
theorem bz_c84 {b : ByteArray} {pc : Nat} (h : bz b pc = 84) : decode b pc = .ok (.bastore, 1) := bz_1 (c := 84) (by decide) (fun b pc h => by unfold Decoder.instr; rw [bz_b h (by decide)]; rfl) h
set_option maxRecDepth 100000 in
theorem bz_c87 {b : ByteArray} {pc : Nat} (h : bz b pc = 87) : decode b pc = .ok (.pop, 1) := bz_1 (c := 87) (by decide) (fun b pc h => by unfold Decoder.instr; rw [bz_b h (by decide)]; rfl) h
set_option maxRecDepth 100000 in
theorem bz_c89 {b : ByteArray} {pc : Nat} (h : bz b pc = 89) : decode b pc = .ok (.dup, 1) := bz_1 (c := 89) (by decide) (fun b pc h => by unfold Decoder.instr; rw [bz_b h (by decide)]; rfl) h
set_option maxRecDepth 100000 in
theorem bz_c96 {b : ByteArray} {pc : Nat} (h : bz b pc = 96) : decode b pc = .ok (.iadd, 1) := bz_1 (c := 96) (by decide) (fun b pc h => by unfold Decoder.instr; rw [bz_b h (by decide)]; rfl) h
set_option maxRecDepth 100000 in
theorem bz_c97 {b : ByteArray} {pc : Nat} (h : bz b pc = 97) : decode b pc = .ok (.ladd, 1) := bz_1 (c := 97) (by decide) (fun b pc h => by unfold Decoder.instr; rw [bz_b h (by decide)]; rfl) h
set_option maxRecDepth 100000 in
theorem bz_c100 {b : ByteArray} {pc : Nat} (h : bz b pc = 100) : decode b pc = .ok (.isub, 1) := bz_1 (c := 100) (by decide) (fun b pc h => by unfold Decoder.instr; rw [bz_b h (by decide)]; rfl) h
set_option maxRecDepth 100000 in
theorem bz_c104 {b : ByteArray} {pc : Nat} (h : bz b pc = 104) : decode b pc = .ok (.imul, 1) := bz_1 (c := 104) (by decide) (fun b pc h => by unfold Decoder.instr; rw [bz_b h (by decide)]; rfl) h
set_option maxRecDepth 100000 in
theorem bz_c121 {b : ByteArray} {pc : Nat} (h : bz b pc = 121) : decode b pc = .ok (.lshl, 1) := bz_1 (c := 121) (by decide) (fun b pc h => by unfold Decoder.instr; rw [bz_b h (by decide)]; rfl) h
set_option maxRecDepth 100000 in
theorem bz_c124 {b : ByteArray} {pc : Nat} (h : bz b pc = 124) : decode b pc = .ok (.iushr, 1) := bz_1 (c := 124) (by decide) (fun b pc h => by unfold Decoder.instr; rw [bz_b h (by decide)]; rfl) h
set_option maxRecDepth 100000 in
theorem bz_c125 {b : ByteArray} {pc : Nat} (h : bz b pc = 125) : decode b pc = .ok (.lushr, 1) := bz_1 (c := 125) (by decide) (fun b pc h => by unfold Decoder.instr; rw [bz_b h (by decide)]; rfl) h
set_option maxRecDepth 100000 in
theorem bz_c126 {b : ByteArray} {pc : Nat} (h : bz b pc = 126) : decode b pc = .ok (.iand, 1) := bz_1 (c := 126) (by decide) (fun b pc h => by unfold Decoder.instr; rw [bz_b h (by decide)]; rfl) h
set_option maxRecDepth 100000 in
theorem bz_c127 {b : ByteArray} {pc : Nat} (h : bz b pc = 127) : decode b pc = .ok (.land, 1) := bz_1 (c := 127) (by decide) (fun b pc h => by unfold Decoder.instr; rw [bz_b h (by decide)]; rfl) h
set_option maxRecDepth 100000 in
theorem bz_c129 {b : ByteArray} {pc : Nat} (h : bz b pc = 129) : decode b pc = .ok (.lor, 1) := bz_1 (c := 129) (by decide) (fun b pc h => by unfold Decoder.instr; rw [bz_b h (by decide)]; rfl) h
set_option maxRecDepth 100000 in
theorem bz_c133 {b : ByteArray} {pc : Nat} (h : bz b pc = 133) : decode b pc = .ok (.i2l, 1) := bz_1 (c := 133) (by decide) (fun b pc h => by unfold Decoder.instr; rw [bz_b h (by decide)]; rfl) h
set_option maxRecDepth 100000 in
theorem bz_c136 {b : ByteArray} {pc : Nat} (h : bz b pc = 136) : decode b pc = .ok (.l2i, 1) := bz_1 (c := 136) (by decide) (fun b pc h => by unfold Decoder.instr; rw [bz_b h (by decide)]; rfl) h
set_option maxRecDepth 100000 in
theorem bz_c148 {b : ByteArray} {pc : Nat} (h : bz b pc = 148) : decode b pc = .ok (.lcmp, 1) := bz_1 (c := 148) (by decide) (fun b pc h => by unfold Decoder.instr; rw [bz_b h (by decide)]; rfl) h
set_option maxRecDepth 100000 in
theorem bz_c172 {b : ByteArray} {pc : Nat} (h : bz b pc = 172) : decode b pc = .ok (.ireturn, 1) := bz_1 (c := 172) (by decide) (fun b pc h => by unfold Decoder.instr; rw [bz_b h (by decide)]; rfl) h
set_option maxRecDepth 100000 in
theorem bz_c173 {b : ByteArray} {pc : Nat} (h : bz b pc = 173) : decode b pc = .ok (.lreturn, 1) := bz_1 (c := 173) (by decide) (fun b pc h => by unfold Decoder.instr; rw [bz_b h (by decide)]; rfl) h
set_option maxRecDepth 100000 in
theorem bz_c176 {b : ByteArray} {pc : Nat} (h : bz b pc = 176) : decode b pc = .ok (.areturn, 1) := bz_1 (c := 176) (by decide) (fun b pc h => by unfold Decoder.instr; rw [bz_b h (by decide)]; rfl) h
set_option maxRecDepth 100000 in
theorem bz_c177 {b : ByteArray} {pc : Nat} (h : bz b pc = 177) : decode b pc = .ok (.return_, 1) := bz_1 (c := 177) (by decide) (fun b pc h => by unfold Decoder.instr; rw [bz_b h (by decide)]; rfl) h
set_option maxRecDepth 100000 in
theorem bz_c190 {b : ByteArray} {pc : Nat} (h : bz b pc = 190) : decode b pc = .ok (.arraylength, 1) := bz_1 (c := 190) (by decide) (fun b pc h => by unfold Decoder.instr; rw [bz_b h (by decide)]; rfl) h
set_option maxRecDepth 100000 in
theorem bz_c191 {b : ByteArray} {pc : Nat} (h : bz b pc = 191) : decode b pc = .ok (.athrow, 1) := bz_1 (c := 191) (by decide) (fun b pc h => by unfold Decoder.instr; rw [bz_b h (by decide)]; rfl) h
set_option maxRecDepth 100000 in
theorem bz_c18 {b : ByteArray} {pc : Nat} {n : Nat} (h : bw1 b pc 18 n = true) : decode b pc = .ok (.ldc n, 2) := bz_q1 (f := fun z => .ldc z) (c := 18) (by decide) (fun b pc h => by unfold Decoder.instr; rw [bz_b h (by decide)]; rfl) h
set_option maxRecDepth 100000 in
theorem bz_c21 {b : ByteArray} {pc : Nat} {n : Nat} (h : bw1 b pc 21 n = true) : decode b pc = .ok (.iload n, 2) := bz_q1 (f := fun z => .iload z) (c := 21) (by decide) (fun b pc h => by unfold Decoder.instr; rw [bz_b h (by decide)]; rfl) h
set_option maxRecDepth 100000 in
theorem bz_c22 {b : ByteArray} {pc : Nat} {n : Nat} (h : bw1 b pc 22 n = true) : decode b pc = .ok (.lload n, 2) := bz_q1 (f := fun z => .lload z) (c := 22) (by decide) (fun b pc h => by unfold Decoder.instr; rw [bz_b h (by decide)]; rfl) h
set_option maxRecDepth 100000 in
theorem bz_c25 {b : ByteArray} {pc : Nat} {n : Nat} (h : bw1 b pc 25 n = true) : decode b pc = .ok (.aload n, 2) := bz_q1 (f := fun z => .aload z) (c := 25) (by decide) (fun b pc h => by unfold Decoder.instr; rw [bz_b h (by decide)]; rfl) h
set_option maxRecDepth 100000 in
theorem bz_c54 {b : ByteArray} {pc : Nat} {n : Nat} (h : bw1 b pc 54 n = true) : decode b pc = .ok (.istore n, 2) := bz_q1 (f := fun z => .istore z) (c := 54) (by decide) (fun b pc h => by unfold Decoder.instr; rw [bz_b h (by decide)]; rfl) h
set_option maxRecDepth 100000 in
theorem bz_c55 {b : ByteArray} {pc : Nat} {n : Nat} (h : bw1 b pc 55 n = true) : decode b pc = .ok (.lstore n, 2) := bz_q1 (f := fun z => .lstore z) (c := 55) (by decide) (fun b pc h => by unfold Decoder.instr; rw [bz_b h (by decide)]; rfl) h
set_option maxRecDepth 100000 in
theorem bz_c58 {b : ByteArray} {pc : Nat} {n : Nat} (h : bw1 b pc 58 n = true) : decode b pc = .ok (.astore n, 2) := bz_q1 (f := fun z => .astore z) (c := 58) (by decide) (fun b pc h => by unfold Decoder.instr; rw [bz_b h (by decide)]; rfl) h
set_option maxRecDepth 100000 in
theorem bz_c16 {b : ByteArray} {pc : Nat} {n : Int} (h : bv1 b pc 16 n = true) : decode b pc = .ok (.bipush n, 2) := bz_t1 (f := fun z => .bipush z) (c := 16) (by decide) (fun b pc h => by unfold Decoder.instr; rw [bz_b h (by decide)]; rfl) h
set_option maxRecDepth 100000 in
theorem bz_c19 {b : ByteArray} {pc : Nat} {n : Nat} (h : bw2 b pc 19 n = true) : decode b pc = .ok (.ldc_w n, 3) := bz_q2 (f := fun z => .ldc_w z) (c := 19) (by decide) (fun b pc h => by unfold Decoder.instr; rw [bz_b h (by decide)]; rfl) h
set_option maxRecDepth 100000 in
theorem bz_c20 {b : ByteArray} {pc : Nat} {n : Nat} (h : bw2 b pc 20 n = true) : decode b pc = .ok (.ldc2_w n, 3) := bz_q2 (f := fun z => .ldc2_w z) (c := 20) (by decide) (fun b pc h => by unfold Decoder.instr; rw [bz_b h (by decide)]; rfl) h
set_option maxRecDepth 100000 in
theorem bz_c178 {b : ByteArray} {pc : Nat} {n : Nat} (h : bw2 b pc 178 n = true) : decode b pc = .ok (.getstatic n, 3) := bz_q2 (f := fun z => .getstatic z) (c := 178) (by decide) (fun b pc h => by unfold Decoder.instr; rw [bz_b h (by decide)]; rfl) h
set_option maxRecDepth 100000 in
theorem bz_c179 {b : ByteArray} {pc : Nat} {n : Nat} (h : bw2 b pc 179 n = true) : decode b pc = .ok (.putstatic n, 3) := bz_q2 (f := fun z => .putstatic z) (c := 179) (by decide) (fun b pc h => by unfold Decoder.instr; rw [bz_b h (by decide)]; rfl) h
set_option maxRecDepth 100000 in
theorem bz_c180 {b : ByteArray} {pc : Nat} {n : Nat} (h : bw2 b pc 180 n = true) : decode b pc = .ok (.getfield n, 3) := bz_q2 (f := fun z => .getfield z) (c := 180) (by decide) (fun b pc h => by unfold Decoder.instr; rw [bz_b h (by decide)]; rfl) h
set_option maxRecDepth 100000 in
theorem bz_c181 {b : ByteArray} {pc : Nat} {n : Nat} (h : bw2 b pc 181 n = true) : decode b pc = .ok (.putfield n, 3) := bz_q2 (f := fun z => .putfield z) (c := 181) (by decide) (fun b pc h => by unfold Decoder.instr; rw [bz_b h (by decide)]; rfl) h
set_option maxRecDepth 100000 in
theorem bz_c182 {b : ByteArray} {pc : Nat} {n : Nat} (h : bw2 b pc 182 n = true) : decode b pc = .ok (.invokevirtual n, 3) := bz_q2 (f := fun z => .invokevirtual z) (c := 182) (by decide) (fun b pc h => by unfold Decoder.instr; rw [bz_b h (by decide)]; rfl) h
set_option maxRecDepth 100000 in
theorem bz_c183 {b : ByteArray} {pc : Nat} {n : Nat} (h : bw2 b pc 183 n = true) : decode b pc = .ok (.invokespecial n, 3) := bz_q2 (f := fun z => .invokespecial z) (c := 183) (by decide) (fun b pc h => by unfold Decoder.instr; rw [bz_b h (by decide)]; rfl) h
set_option maxRecDepth 100000 in
theorem bz_c184 {b : ByteArray} {pc : Nat} {n : Nat} (h : bw2 b pc 184 n = true) : decode b pc = .ok (.invokestatic n, 3) := bz_q2 (f := fun z => .invokestatic z) (c := 184) (by decide) (fun b pc h => by unfold Decoder.instr; rw [bz_b h (by decide)]; rfl) h
set_option maxRecDepth 100000 in
theorem bz_c187 {b : ByteArray} {pc : Nat} {n : Nat} (h : bw2 b pc 187 n = true) : decode b pc = .ok (.new n, 3) := bz_q2 (f := fun z => .new z) (c := 187) (by decide) (fun b pc h => by unfold Decoder.instr; rw [bz_b h (by decide)]; rfl) h
set_option maxRecDepth 100000 in
theorem bz_c189 {b : ByteArray} {pc : Nat} {n : Nat} (h : bw2 b pc 189 n = true) : decode b pc = .ok (.anewarray n, 3) := bz_q2 (f := fun z => .anewarray z) (c := 189) (by decide) (fun b pc h => by unfold Decoder.instr; rw [bz_b h (by decide)]; rfl) h
set_option maxRecDepth 100000 in
theorem bz_c192 {b : ByteArray} {pc : Nat} {n : Nat} (h : bw2 b pc 192 n = true) : decode b pc = .ok (.checkcast n, 3) := bz_q2 (f := fun z => .checkcast z) (c := 192) (by decide) (fun b pc h => by unfold Decoder.instr; rw [bz_b h (by decide)]; rfl) h
set_option maxRecDepth 100000 in
theorem bz_c193 {b : ByteArray} {pc : Nat} {n : Nat} (h : bw2 b pc 193 n = true) : decode b pc = .ok (.instanceof n, 3) := bz_q2 (f := fun z => .instanceof z) (c := 193) (by decide) (fun b pc h => by unfold Decoder.instr; rw [bz_b h (by decide)]; rfl) h
set_option maxRecDepth 100000 in
theorem bz_c17 {b : ByteArray} {pc : Nat} {n : Int} (h : bv2 b pc 17 n = true) : decode b pc = .ok (.sipush n, 3) := bz_t2 (f := fun z => .sipush z) (c := 17) (by decide) (fun b pc h => by unfold Decoder.instr; rw [bz_b h (by decide)]; rfl) h
set_option maxRecDepth 100000 in
theorem bz_c153 {b : ByteArray} {pc : Nat} {n : Int} (h : bv2 b pc 153 n = true) : decode b pc = .ok (.ifCond .eq n, 3) := bz_t2 (f := fun z => .ifCond .eq z) (c := 153) (by decide) (fun b pc h => by unfold Decoder.instr; rw [bz_b h (by decide)]; rfl) h
set_option maxRecDepth 100000 in
theorem bz_c154 {b : ByteArray} {pc : Nat} {n : Int} (h : bv2 b pc 154 n = true) : decode b pc = .ok (.ifCond .ne n, 3) := bz_t2 (f := fun z => .ifCond .ne z) (c := 154) (by decide) (fun b pc h => by unfold Decoder.instr; rw [bz_b h (by decide)]; rfl) h
set_option maxRecDepth 100000 in
theorem bz_c155 {b : ByteArray} {pc : Nat} {n : Int} (h : bv2 b pc 155 n = true) : decode b pc = .ok (.ifCond .lt n, 3) := bz_t2 (f := fun z => .ifCond .lt z) (c := 155) (by decide) (fun b pc h => by unfold Decoder.instr; rw [bz_b h (by decide)]; rfl) h
set_option maxRecDepth 100000 in
theorem bz_c156 {b : ByteArray} {pc : Nat} {n : Int} (h : bv2 b pc 156 n = true) : decode b pc = .ok (.ifCond .ge n, 3) := bz_t2 (f := fun z => .ifCond .ge z) (c := 156) (by decide) (fun b pc h => by unfold Decoder.instr; rw [bz_b h (by decide)]; rfl) h
set_option maxRecDepth 100000 in
theorem bz_c157 {b : ByteArray} {pc : Nat} {n : Int} (h : bv2 b pc 157 n = true) : decode b pc = .ok (.ifCond .gt n, 3) := bz_t2 (f := fun z => .ifCond .gt z) (c := 157) (by decide) (fun b pc h => by unfold Decoder.instr; rw [bz_b h (by decide)]; rfl) h
set_option maxRecDepth 100000 in
theorem bz_c158 {b : ByteArray} {pc : Nat} {n : Int} (h : bv2 b pc 158 n = true) : decode b pc = .ok (.ifCond .le n, 3) := bz_t2 (f := fun z => .ifCond .le z) (c := 158) (by decide) (fun b pc h => by unfold Decoder.instr; rw [bz_b h (by decide)]; rfl) h
set_option maxRecDepth 100000 in
theorem bz_c159 {b : ByteArray} {pc : Nat} {n : Int} (h : bv2 b pc 159 n = true) : decode b pc = .ok (.if_icmp .eq n, 3) := bz_t2 (f := fun z => .if_icmp .eq z) (c := 159) (by decide) (fun b pc h => by unfold Decoder.instr; rw [bz_b h (by decide)]; rfl) h
set_option maxRecDepth 100000 in
theorem bz_c160 {b : ByteArray} {pc : Nat} {n : Int} (h : bv2 b pc 160 n = true) : decode b pc = .ok (.if_icmp .ne n, 3) := bz_t2 (f := fun z => .if_icmp .ne z) (c := 160) (by decide) (fun b pc h => by unfold Decoder.instr; rw [bz_b h (by decide)]; rfl) h
set_option maxRecDepth 100000 in
theorem bz_c161 {b : ByteArray} {pc : Nat} {n : Int} (h : bv2 b pc 161 n = true) : decode b pc = .ok (.if_icmp .lt n, 3) := bz_t2 (f := fun z => .if_icmp .lt z) (c := 161) (by decide) (fun b pc h => by unfold Decoder.instr; rw [bz_b h (by decide)]; rfl) h
set_option maxRecDepth 100000 in
theorem bz_c162 {b : ByteArray} {pc : Nat} {n : Int} (h : bv2 b pc 162 n = true) : decode b pc = .ok (.if_icmp .ge n, 3) := bz_t2 (f := fun z => .if_icmp .ge z) (c := 162) (by decide) (fun b pc h => by unfold Decoder.instr; rw [bz_b h (by decide)]; rfl) h
set_option maxRecDepth 100000 in
theorem bz_c163 {b : ByteArray} {pc : Nat} {n : Int} (h : bv2 b pc 163 n = true) : decode b pc = .ok (.if_icmp .gt n, 3) := bz_t2 (f := fun z => .if_icmp .gt z) (c := 163) (by decide) (fun b pc h => by unfold Decoder.instr; rw [bz_b h (by decide)]; rfl) h
set_option maxRecDepth 100000 in
theorem bz_c164 {b : ByteArray} {pc : Nat} {n : Int} (h : bv2 b pc 164 n = true) : decode b pc = .ok (.if_icmp .le n, 3) := bz_t2 (f := fun z => .if_icmp .le z) (c := 164) (by decide) (fun b pc h => by unfold Decoder.instr; rw [bz_b h (by decide)]; rfl) h
set_option maxRecDepth 100000 in
theorem bz_c165 {b : ByteArray} {pc : Nat} {n : Int} (h : bv2 b pc 165 n = true) : decode b pc = .ok (.if_acmp .eq n, 3) := bz_t2 (f := fun z => .if_acmp .eq z) (c := 165) (by decide) (fun b pc h => by unfold Decoder.instr; rw [bz_b h (by decide)]; rfl) h
set_option maxRecDepth 100000 in
theorem bz_c166 {b : ByteArray} {pc : Nat} {n : Int} (h : bv2 b pc 166 n = true) : decode b pc = .ok (.if_acmp .ne n, 3) := bz_t2 (f := fun z => .if_acmp .ne z) (c := 166) (by decide) (fun b pc h => by unfold Decoder.instr; rw [bz_b h (by decide)]; rfl) h
set_option maxRecDepth 100000 in
theorem bz_c167 {b : ByteArray} {pc : Nat} {n : Int} (h : bv2 b pc 167 n = true) : decode b pc = .ok (.goto n, 3) := bz_t2 (f := fun z => .goto z) (c := 167) (by decide) (fun b pc h => by unfold Decoder.instr; rw [bz_b h (by decide)]; rfl) h
set_option maxRecDepth 100000 in
theorem bz_c198 {b : ByteArray} {pc : Nat} {n : Int} (h : bv2 b pc 198 n = true) : decode b pc = .ok (.ifnull n, 3) := bz_t2 (f := fun z => .ifnull z) (c := 198) (by decide) (fun b pc h => by unfold Decoder.instr; rw [bz_b h (by decide)]; rfl) h
set_option maxRecDepth 100000 in
theorem bz_c199 {b : ByteArray} {pc : Nat} {n : Int} (h : bv2 b pc 199 n = true) : decode b pc = .ok (.ifnonnull n, 3) := bz_t2 (f := fun z => .ifnonnull z) (c := 199) (by decide) (fun b pc h => by unfold Decoder.instr; rw [bz_b h (by decide)]; rfl) h
