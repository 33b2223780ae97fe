/-! the reference's machine: its frames, labels and values -/
def ga0 (c : Int) : Int := if c = 0 then 0 else 1
def mr_lb (pos : Nat → Nat) (lb lh : Nat → Int32) (bs : List (Nat × Int)) (base LC : Int) : Prop :=
  ∀ (n : Nat) (b : Nat × Int), bs[n]? = some b → (lb (LC - 1 - n).toNat).toInt = (pos b.1 : Int) ∧ (lh (LC - 1 - n).toNat).toInt = base + b.2
def mr_one (lt : Nat → Nat → Int) (nl : Nat → Int) (pos : Nat → Nat) (fs ff fl lb lh : Nat → Int32) (val : Nat → Int64) (k f : Nat) (bs : List (Nat × Int)) (LC : Int) : Prop :=
  (ff k).toInt = (f : Int) ∧ 0 ≤ (fs k).toInt ∧ 0 ≤ (fl k).toInt ∧ (fl k).toInt ≤ 101 * k ∧ LC = (fl k).toInt + 1 + bs.length ∧ (lb (fl k).toInt.toNat).toInt = -1 ∧ bs.length ≤ 100 ∧ 0 ≤ nl f ∧ mr_lb pos lb lh bs ((fs k).toInt + nl f) LC ∧ (∀ j : Nat, (j : Int) < nl f → lt f j ≠ 126 → in32 (val ((fs k).toInt + j).toNat))
def mr_st (Ti : Nat → Int) (h base : Int) (val : Nat → Int64) : Prop := ∀ j : Nat, (j : Int) < h → Ti j ≠ 126 → in32 (val (base + j).toNat)
def mr_fr (an : mc_A) (T lt : Nat → Nat → Int) (rt nl : Nat → Int) (pos : Nat → Nat) (fb fs ff fl lb lh : Nat → Int32) (val : Nat → Int64) : Nat → Int → Int → Int → Int → Prop
  | 0, pc, H, LC, c => ∃ (i f : Nat) (bs : List (Nat × Int)) (h : Int), pc = (pos i : Int) ∧ an i = some (f, bs, h) ∧ 0 ≤ h ∧ H = (fs 0).toInt + nl f + h ∧ mr_one lt nl pos fs ff fl lb lh val 0 f bs LC ∧ mr_st (T i) (h - ga0 c) ((fs 0).toInt + nl f) val ∧ (c ≠ 0 → 1 ≤ h ∧ (T i (h - 1).toNat ≠ 126 → c ≠ 126))
  | k + 1, pc, H, LC, c => ∃ (i f : Nat) (bs : List (Nat × Int)) (h : Int), (pc = (pos i : Int) ∧ an i = some (f, bs, h) ∧ 0 ≤ h ∧ H = (fs (k + 1)).toInt + nl f + h ∧ mr_one lt nl pos fs ff fl lb lh val (k + 1) f bs LC ∧ mr_st (T i) (h - ga0 c) ((fs (k + 1)).toInt + nl f) val ∧ (c ≠ 0 → 1 ≤ h ∧ (T i (h - 1).toNat ≠ 126 → c ≠ 126))) ∧ mr_fr an T lt rt nl pos fb fs ff fl lb lh val k (fb (k + 1)).toInt ((fs (k + 1)).toInt + ga0 (rt f)) (fl (k + 1)).toInt (rt f)
def mr_bl (an : mc_A) (T lt : Nat → Nat → Int) (rt nl : Nat → Int) (pos : Nat → Nat) (fb fs ff fl lb lh : Nat → Int32) (val : Nat → Int64) : Nat → Nat → Prop
  | 0, _ => True
  | k + 1, f => mr_fr an T lt rt nl pos fb fs ff fl lb lh val k (fb (k + 1)).toInt ((fs (k + 1)).toInt + ga0 (rt f)) (fl (k + 1)).toInt (rt f)
def mr_tp (an : mc_A) (T lt : Nat → Nat → Int) (rt nl : Nat → Int) (pos : Nat → Nat) (fb fs ff fl lb lh : Nat → Int32) (val : Nat → Int64) (k f : Nat) (bs : List (Nat × Int)) (LC : Int) : Prop :=
  mr_one lt nl pos fs ff fl lb lh val k f bs LC ∧ mr_bl an T lt rt nl pos fb fs ff fl lb lh val k f
/-- where the machine stands between two instructions -/
def mcst (an : mc_A) (T lt : Nat → Nat → Int) (rt nl : Nat → Int) (pos : Nat → Nat) (fb fs ff fl lb lh : Nat → Int32) (val : Nat → Int64) (frames cu H LC : Int) : Prop :=
  ∃ (k i f : Nat) (bs : List (Nat × Int)) (h : Int), frames = (k : Int) + 1 ∧ cu = (pos i : Int) ∧ an i = some (f, bs, h) ∧ 0 ≤ h ∧ H = (fs k).toInt + nl f + h ∧ mr_tp an T lt rt nl pos fb fs ff fl lb lh val k f bs LC ∧ mr_st (T i) h ((fs k).toInt + nl f) val
section MR
variable {an : mc_A} {T lt : Nat → Nat → Int} {rt nl : Nat → Int} {pos : Nat → Nat} {fb fs ff fl lb lh fb' fs' ff' fl' lb' lh' : Nat → Int32} {val val' : Nat → Int64}
theorem ga0_b (c : Int) : 0 ≤ ga0 c ∧ ga0 c ≤ 1 ∧ (c ≠ 0 → ga0 c = 1) ∧ (c = 0 → ga0 c = 0) := by
  unfold ga0
  split <;> omega
theorem mr_one.congr {k f : Nat} {bs : List (Nat × Int)} {LC : Int} (h : mr_one lt nl pos fs ff fl lb lh val k f bs LC) (e1 : fs' k = fs k) (e2 : ff' k = ff k) (e3 : fl' k = fl k) (e4 : ∀ i : Nat, (i : Int) < LC → lb' i = lb i ∧ lh' i = lh i) (e5 : ∀ j : Nat, (j : Int) < (fs k).toInt + nl f → val' j = val j) : mr_one lt nl pos fs' ff' fl' lb' lh' val' k f bs LC := by
  obtain ⟨a1, a2, a3, a4, a5, a6, a7, a8, a9, a10⟩ := h
  refine ⟨by rw [e2]; exact a1, by rw [e1]; exact a2, by rw [e3]; exact a3, by rw [e3]; exact a4, by rw [e3]; exact a5, ?_, a7, a8, ?_, ?_⟩
  · rw [e3, (e4 _ (by omega)).1]
    exact a6
  · intro n b hb
    have hn : n < bs.length := (List.getElem?_eq_some_iff.mp hb).1
    rw [(e4 _ (by omega)).1, (e4 _ (by omega)).2, e1]
    exact a9 n b hb
  · intro j hj hl
    rw [e1, e5 _ (by omega)]
    exact a10 j hj hl
theorem mr_st.congr {Ti : Nat → Int} {h base : Int} (H : mr_st Ti h base val) (hb : 0 ≤ base) (e : ∀ j : Nat, (j : Int) < base + h → val' j = val j) : mr_st Ti h base val' := by
  intro j hj hl
  rw [e _ (by omega)]
  exact H j hj hl
theorem mr_fr.congr : ∀ (k : Nat) {pc H LC c : Int}, mr_fr an T lt rt nl pos fb fs ff fl lb lh val k pc H LC c → (∀ i : Nat, i ≤ k → fb' i = fb i ∧ fs' i = fs i ∧ ff' i = ff i ∧ fl' i = fl i) → (∀ i : Nat, (i : Int) < LC → lb' i = lb i ∧ lh' i = lh i) → (∀ j : Nat, (j : Int) < H - ga0 c → val' j = val j) → mr_fr an T lt rt nl pos fb' fs' ff' fl' lb' lh' val' k pc H LC c
  | 0, pc, H, LC, c, h, e1, e2, e3 => by
    obtain ⟨i, f, bs, x, h1, h2, h3, h4, h5, h6, h7⟩ := h
    obtain ⟨-, q2, q3, q4⟩ := e1 0 (Nat.le_refl _)
    have g := ga0_b c
    have hx : ga0 c ≤ x := by
      by_cases z : c = 0
      · rw [g.2.2.2 z]; exact h3
      · rw [g.2.2.1 z]; exact (h7 z).1
    have n0 := h5.2.2.2.2.2.2.2.1
    have b0 := h5.2.1
    exact ⟨i, f, bs, x, h1, h2, h3, by rw [q2]; exact h4, h5.congr q2 q3 q4 e2 (fun j hj => e3 j (by omega)), by rw [q2]; exact h6.congr (by omega) (fun j hj => e3 j (by omega)), h7⟩
  | k + 1, pc, H, LC, c, h, e1, e2, e3 => by
    obtain ⟨i, f, bs, x, ⟨h1, h2, h3, h4, h5, h6, h7⟩, h8⟩ := h
    obtain ⟨q1, q2, q3, q4⟩ := e1 (k + 1) (Nat.le_refl _)
    have g := ga0_b c
    have g2 := ga0_b (rt f)
    have hx : ga0 c ≤ x := by
      by_cases z : c = 0
      · rw [g.2.2.2 z]; exact h3
      · rw [g.2.2.1 z]; exact (h7 z).1
    have n0 := h5.2.2.2.2.2.2.2.1
    have b0 := h5.2.1
    have hL := h5.2.2.2.2.1
    refine ⟨i, f, bs, x, ⟨h1, h2, h3, by rw [q2]; exact h4, h5.congr q2 q3 q4 e2 (fun j hj => e3 j (by omega)), by rw [q2]; exact h6.congr (by omega) (fun j hj => e3 j (by omega)), h7⟩, ?_⟩
    rw [q1, q2, q4]
    exact mr_fr.congr k h8 (fun i hi => e1 i (by omega)) (fun i hi => e2 i (by omega)) (fun j hj => e3 j (by omega))
theorem mr_bl.congr {k f : Nat} (h : mr_bl an T lt rt nl pos fb fs ff fl lb lh val k f) (e1 : ∀ i : Nat, i ≤ k → fb' i = fb i ∧ fs' i = fs i ∧ ff' i = ff i ∧ fl' i = fl i) (e2 : ∀ i : Nat, (i : Int) < (fl k).toInt → lb' i = lb i ∧ lh' i = lh i) (e3 : ∀ j : Nat, (j : Int) < (fs k).toInt → val' j = val j) : mr_bl an T lt rt nl pos fb' fs' ff' fl' lb' lh' val' k f := by
  cases k with
  | zero => trivial
  | succ k =>
    obtain ⟨q1, q2, q3, q4⟩ := e1 (k + 1) (Nat.le_refl _)
    show mr_fr an T lt rt nl pos fb' fs' ff' fl' lb' lh' val' k (fb' (k + 1)).toInt ((fs' (k + 1)).toInt + ga0 (rt f)) (fl' (k + 1)).toInt (rt f)
    rw [q1, q2, q4]
    exact mr_fr.congr k h (fun i hi => e1 i (by omega)) e2 (fun j hj => e3 j (by omega))
theorem mr_tp.vals {k f : Nat} {bs : List (Nat × Int)} {LC : Int} (h : mr_tp an T lt rt nl pos fb fs ff fl lb lh val k f bs LC) (e : ∀ j : Nat, (j : Int) < (fs k).toInt + nl f → val' j = val j) : mr_tp an T lt rt nl pos fb fs ff fl lb lh val' k f bs LC := by
  have n0 := h.1.2.2.2.2.2.2.2.1
  exact ⟨h.1.congr rfl rfl rfl (fun _ _ => ⟨rfl, rfl⟩) e, h.2.congr (fun _ _ => ⟨rfl, rfl, rfl, rfl⟩) (fun _ _ => ⟨rfl, rfl⟩) (fun j hj => e j (by omega))⟩
theorem mr_tp.loc {k f v : Nat} {bs : List (Nat × Int)} {LC : Int} {x : Int64} (h : mr_tp an T lt rt nl pos fb fs ff fl lb lh val k f bs LC) (hv : (v : Int) < nl f) (hx : lt f v ≠ 126 → in32 x) : mr_tp an T lt rt nl pos fb fs ff fl lb lh (vp_updL val ((fs k).toInt + v).toNat x) k f bs LC := by
  obtain ⟨⟨a1, a2, a3, a4, a5, a6, a7, a8, a9, a10⟩, hb⟩ := h
  refine ⟨⟨a1, a2, a3, a4, a5, a6, a7, a8, a9, fun j hj hl => ?_⟩, hb.congr (fun _ _ => ⟨rfl, rfl, rfl, rfl⟩) (fun _ _ => ⟨rfl, rfl⟩) (fun j hj => uLn (by omega))⟩
  by_cases q : j = v
  · rw [q, uLs]
    exact hx (by rw [← q]; exact hl)
  · rw [uLn (by omega)]
    exact a10 j hj hl
theorem mr_tp.enter {k f i : Nat} {bs : List (Nat × Int)} {LC h : Int} {vi vh : Int32} (hT : mr_tp an T lt rt nl pos fb fs ff fl lb lh val k f bs LC) (hi : vi.toInt = (pos i : Int)) (hv : vh.toInt = (fs k).toInt + nl f + h) (hl : bs.length < 100) : mr_tp an T lt rt nl pos fb fs ff fl (upd lb LC.toNat vi) (upd lh LC.toNat vh) val k f ((i, h) :: bs) (LC + 1) := by
  obtain ⟨⟨a1, a2, a3, a4, a5, a6, a7, a8, a9, a10⟩, hb⟩ := hT
  refine ⟨⟨a1, a2, a3, a4, by rw [List.length_cons, a5]; omega, by rw [pk_un (by omega)]; exact a6, by rw [List.length_cons]; omega, a8, fun n b hn => ?_, a10⟩, hb.congr (fun _ _ => ⟨rfl, rfl, rfl, rfl⟩) (fun j hj => ⟨pk_un (by omega), pk_un (by omega)⟩) (fun _ _ => rfl)⟩
  cases n with
  | zero =>
    have e : (i, h) = b := by simpa using hn
    rw [← e, show (LC + 1 - 1 - ((0 : Nat) : Int)).toNat = LC.toNat by omega, pk_us, pk_us]
    exact ⟨hi, hv⟩
  | succ n =>
    have hn' : bs[n]? = some b := by simpa using hn
    have hlt := (List.getElem?_eq_some_iff.mp hn').1
    rw [show (LC + 1 - 1 - ((n + 1 : Nat) : Int)).toNat = (LC - 1 - n).toNat by omega, pk_un (by omega), pk_un (by omega)]
    exact a9 n b hn'
theorem mr_tp.drop {k f : Nat} {bs : List (Nat × Int)} {LC : Int} (n : Nat) (hT : mr_tp an T lt rt nl pos fb fs ff fl lb lh val k f bs LC) (hn : n ≤ bs.length) : mr_tp an T lt rt nl pos fb fs ff fl lb lh val k f (bs.drop n) (LC - n) := by
  obtain ⟨⟨a1, a2, a3, a4, a5, a6, a7, a8, a9, a10⟩, hb⟩ := hT
  refine ⟨⟨a1, a2, a3, a4, by rw [List.length_drop, a5]; omega, a6, by rw [List.length_drop]; omega, a8, fun j b hj => ?_, a10⟩, hb⟩
  rw [List.getElem?_drop] at hj
  have w := a9 (n + j) b hj
  rw [show LC - (n : Int) - 1 - (j : Int) = LC - 1 - ((n + j : Nat) : Int) by omega]
  exact w
theorem mr_fr_of {k i f : Nat} {bs : List (Nat × Int)} {pc H LC h c : Int} (h1 : pc = (pos i : Int)) (h2 : an i = some (f, bs, h)) (h3 : 0 ≤ h) (h4 : H = (fs k).toInt + nl f + h) (h5 : mr_tp an T lt rt nl pos fb fs ff fl lb lh val k f bs LC) (h6 : mr_st (T i) (h - ga0 c) ((fs k).toInt + nl f) val) (h7 : c ≠ 0 → 1 ≤ h ∧ (T i (h - 1).toNat ≠ 126 → c ≠ 126)) : mr_fr an T lt rt nl pos fb fs ff fl lb lh val k pc H LC c := by
  cases k with
  | zero => exact ⟨i, f, bs, h, h1, h2, h3, h4, h5.1, h6, h7⟩
  | succ k => exact ⟨i, f, bs, h, ⟨h1, h2, h3, h4, h5.1, h6, h7⟩, h5.2⟩
theorem mr_fr_to {k : Nat} {pc H LC c : Int} (h : mr_fr an T lt rt nl pos fb fs ff fl lb lh val k pc H LC c) : ∃ (i f : Nat) (bs : List (Nat × Int)) (h : Int), pc = (pos i : Int) ∧ an i = some (f, bs, h) ∧ 0 ≤ h ∧ H = (fs k).toInt + nl f + h ∧ mr_tp an T lt rt nl pos fb fs ff fl lb lh val k f bs LC ∧ mr_st (T i) (h - ga0 c) ((fs k).toInt + nl f) val ∧ (c ≠ 0 → 1 ≤ h ∧ (T i (h - 1).toNat ≠ 126 → c ≠ 126)) := by
  cases k with
  | zero =>
    obtain ⟨i, f, bs, h, h1, h2, h3, h4, h5, h6, h7⟩ := h
    exact ⟨i, f, bs, h, h1, h2, h3, h4, ⟨h5, trivial⟩, h6, h7⟩
  | succ k =>
    obtain ⟨i, f, bs, h, ⟨h1, h2, h3, h4, h5, h6, h7⟩, h8⟩ := h
    exact ⟨i, f, bs, h, h1, h2, h3, h4, ⟨h5, h8⟩, h6, h7⟩
/-- a frame goes on, with what the callee gave on its stack -/
theorem mst_fr {k : Nat} {pc H LC c : Int} (h : mr_fr an T lt rt nl pos fb fs ff fl lb lh val k pc H LC c) (hc : c ≠ 0 → c ≠ 126 → in32 (val (H - 1).toNat)) : mcst an T lt rt nl pos fb fs ff fl lb lh val ((k : Int) + 1) pc H LC := by
  obtain ⟨i, f, bs, x, h1, h2, h3, h4, h5, h6, h7⟩ := mr_fr_to h
  have g := ga0_b c
  refine ⟨k, i, f, bs, x, rfl, h1, h2, h3, h4, h5, fun j hj hl => ?_⟩
  by_cases q : (j : Int) < x - ga0 c
  · exact h6 j q hl
  · have c0 : c ≠ 0 := fun z => by rw [g.2.2.2 z] at q; omega
    obtain ⟨w1, w2⟩ := h7 c0
    have e := g.2.2.1 c0
    have n0 := h5.1.2.2.2.2.2.2.2.1
    have b0 := h5.1.2.1
    rw [show j = (x - 1).toNat by omega] at hl
    rw [show ((fs k).toInt + nl f + (j : Int)).toNat = (H - 1).toNat by omega]
    exact hc c0 (w2 hl)
/-- a frame ends -/
theorem mst_leave {k f : Nat} {bs : List (Nat × Int)} {LC : Int} (hT : mr_tp an T lt rt nl pos fb fs ff fl lb lh val k f bs LC) (e : ∀ j : Nat, (j : Int) < (fs k).toInt → val' j = val j) (hc : rt f ≠ 0 → rt f ≠ 126 → in32 (val' (fs k).toInt.toNat)) : k = 0 ∨ mcst an T lt rt nl pos fb fs ff fl lb lh val' k (fb k).toInt ((fs k).toInt + ga0 (rt f)) (fl k).toInt := by
  cases k with
  | zero => exact Or.inl rfl
  | succ k =>
    refine Or.inr ?_
    have b0 := hT.1.2.1
    have g := ga0_b (rt f)
    have w := mst_fr (mr_fr.congr k hT.2 (fun _ _ => ⟨rfl, rfl, rfl, rfl⟩) (fun _ _ => ⟨rfl, rfl⟩) (val' := val') (fun j hj => e j (by omega))) (fun c0 c6 => by rw [g.2.2.1 c0, show ((fs (k + 1)).toInt + 1 - 1).toNat = (fs (k + 1)).toInt.toNat by omega]; exact hc c0 c6)
    rw [show ((k + 1 : Nat) : Int) = (k : Int) + 1 by omega]
    exact w
/-- a call -/
theorem mr_tp.call {k f f2 i : Nat} {bs : List (Nat × Int)} {LC h : Int} {vp vb vf vl vm vh : Int32} (hT : mr_tp an T lt rt nl pos fb fs ff fl lb lh val k f bs LC) (hp : vp.toInt = (pos i : Int)) (ha : an i = some (f, bs, h)) (h0 : 0 ≤ h) (hb0 : 0 ≤ vb.toInt) (hh : vb.toInt + ga0 (rt f2) = (fs k).toInt + nl f + h) (hf : vf.toInt = (f2 : Int)) (hl : vl.toInt = LC) (hm : vm.toInt = -1) (hn : 0 ≤ nl f2)
    (hs : mr_st (T i) (h - ga0 (rt f2)) ((fs k).toInt + nl f) val) (hr : rt f2 ≠ 0 → 1 ≤ h ∧ (T i (h - 1).toNat ≠ 126 → rt f2 ≠ 126)) (e : ∀ j : Nat, (j : Int) < vb.toInt → val' j = val j) (hlo : ∀ j : Nat, (j : Int) < nl f2 → lt f2 j ≠ 126 → in32 (val' (vb.toInt + j).toNat)) :
    mr_tp an T lt rt nl pos (upd fb (k + 1) vp) (upd fs (k + 1) vb) (upd ff (k + 1) vf) (upd fl (k + 1) vl) (upd lb LC.toNat vm) (upd lh LC.toNat vh) val' (k + 1) f2 [] (LC + 1) := by
  have fr := mr_fr_of (c := rt f2) hp ha h0 hh hT hs hr
  have g := ga0_b (rt f2)
  obtain ⟨⟨a1, a2, a3, a4, a5, a6, a7, a8, a9, a10⟩, hb⟩ := hT
  refine ⟨⟨by rw [pk_us]; exact hf, by rw [pk_us]; exact hb0, by rw [pk_us]; omega, by rw [pk_us]; omega, by rw [pk_us, hl]; simp, by rw [pk_us, hl, pk_us]; exact hm, by simp, hn, fun n b z => by simp at z, fun j hj hl => by rw [pk_us]; exact hlo j hj hl⟩, ?_⟩
  show mr_fr an T lt rt nl pos _ _ _ _ _ _ val' k (upd fb (k + 1) vp (k + 1)).toInt ((upd fs (k + 1) vb (k + 1)).toInt + ga0 (rt f2)) (upd fl (k + 1) vl (k + 1)).toInt (rt f2)
  rw [pk_us, pk_us, pk_us, hl]
  exact mr_fr.congr k fr (fun j hj => ⟨pk_un (by omega), pk_un (by omega), pk_un (by omega), pk_un (by omega)⟩) (fun j hj => ⟨pk_un (by omega), pk_un (by omega)⟩) (fun j hj => e j (by omega))
theorem mr_tp.first {f2 : Nat} {vp vb vf vl vm vh : Int32} (hb : vb.toInt = 0) (hf : vf.toInt = (f2 : Int)) (hl : vl.toInt = 0) (hm : vm.toInt = -1) (hn : 0 ≤ nl f2) (hlo : ∀ j : Nat, (j : Int) < nl f2 → lt f2 j ≠ 126 → in32 (val' j)) :
    mr_tp an T lt rt nl pos (upd fb 0 vp) (upd fs 0 vb) (upd ff 0 vf) (upd fl 0 vl) (upd lb 0 vm) (upd lh 0 vh) val' 0 f2 [] 1 := by
  refine ⟨⟨by rw [pk_us]; exact hf, by rw [pk_us, hb]; omega, by rw [pk_us, hl]; omega, by rw [pk_us, hl]; omega, by rw [pk_us, hl]; simp, by rw [pk_us, hl, show (0 : Int).toNat = 0 from rfl, pk_us]; exact hm, by simp, hn, fun n b z => by simp at z, fun j hj hl => by rw [pk_us, hb, show ((0 : Int) + (j : Int)).toNat = j by omega]; exact hlo j hj hl⟩, trivial⟩
/-- an instruction of one frame: from h0 values on all is new -/
theorem mst_go {k i i2 f : Nat} {bs2 : List (Nat × Int)} {LC2 h h0 h2 cu H frames : Int} (hf : frames = (k : Int) + 1) (hs : mr_st (T i) h ((fs k).toInt + nl f) val) (hc : cu = (pos i2 : Int)) (ha : an i2 = some (f, bs2, h2)) (hh : 0 ≤ h2) (hH : H = (fs k).toInt + nl f + h2) (h01 : h0 ≤ h) (ht : tle (T i) (T i2) h0) (hT : mr_tp an T lt rt nl pos fb fs ff fl lb lh val' k f bs2 LC2) (e : ∀ j : Nat, (fs k).toInt + nl f ≤ (j : Int) → (j : Int) < (fs k).toInt + nl f + h0 → val' j = val j)
    (hn : ∀ j : Nat, h0 ≤ (j : Int) → (j : Int) < h2 → T i2 j ≠ 126 → in32 (val' ((fs k).toInt + nl f + j).toNat)) : mcst an T lt rt nl pos fb fs ff fl lb lh val' frames cu H LC2 := by
  have n0 := hT.1.2.2.2.2.2.2.2.1
  have b0 := hT.1.2.1
  refine ⟨k, i2, f, bs2, h2, hf, hc, ha, hh, hH, hT, fun j hj hl => ?_⟩
  by_cases q : (j : Int) < h0
  · rw [e _ (by omega) (by omega)]
    exact hs j (by omega) (ht j q hl)
  · exact hn j (by omega) hj hl
end MR
