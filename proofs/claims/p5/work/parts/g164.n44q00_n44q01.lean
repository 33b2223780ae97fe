section q_n44q00
/-! p5: what READ and VALID are, of bytes: one pure reader and validator, for the class and for the reference -/
/-- a number without sign: q: how much the next byte counts, v: what stands so far; (value, place behind it) -/
def zU (f : Nat → Int32) (L : Nat) : Nat → Nat → Nat → Nat → Option (Nat × Nat)
  | 0, _, _, _ => none
  | n + 1, q, v, a => if a < L then (if bn (f a) < 128 then some (v + q * bn (f a), a + 1) else zU f L n (q * 128) (v + q * (bn (f a) - 128)) (a + 1)) else none
def zM (f : Nat → Int32) (L M a : Nat) : Option (Nat × Nat) := match zU f L 5 1 0 a with
  | some (v, b) => if v ≤ M then some (v, b) else none
  | none => none
/-- a number with sign: its place alone -/
def zSn (f : Nat → Int32) (L : Nat) (ok : Nat → Bool) : Nat → Nat → Option Nat
  | 0, _ => none
  | n + 1, a => if a < L then (if bn (f a) < 128 then (if n = 0 then (if ok (bn (f a)) = true then some (a + 1) else none) else some (a + 1)) else zSn f L ok n (a + 1)) else none
def zq32 (b : Nat) : Bool := decide (b < 8) || decide (120 ≤ b)
def zq64 (b : Nat) : Bool := decide (b = 0) || decide (b = 127)
def zTy (f : Nat → Int32) (L a : Nat) : Option (Nat × Nat) := if a < L ∧ (bn (f a) = 127 ∨ bn (f a) = 126) then some (bn (f a), a + 1) else none
def zFl (f : Nat → Int32) (L a : Nat) : Option (Nat × Nat) := if a < L ∧ bn (f a) ≤ 1 then some (bn (f a), a + 1) else none
def zE (f : Nat → Int32) (L v a : Nat) : Option Nat := if a < L ∧ bn (f a) = v then some (a + 1) else none
/-- k things more, behind those of l -/
def zA {α : Type} (r : Nat → Option (α × Nat)) : Nat → List α → Nat → Option (List α × Nat)
  | 0, l, a => some (l, a)
  | k + 1, l, a => match r a with
    | some (x, b) => zA r k (l ++ [x]) b
    | none => none
/-- a count, at most M, and so many things -/
def zV {α : Type} (f : Nat → Int32) (L M : Nat) (r : Nat → Option (α × Nat)) (a : Nat) : Option (List α × Nat) := match zM f L M a with
  | some (n, b) => zA r n [] b
  | none => none
def zplain (b : Nat) : Bool := decide (b ≤ 1) || decide (b = 15) || decide (b = 26) || decide (b = 27) || (decide (69 ≤ b) && decide (b ≤ 90)) || (decide (103 ≤ b) && decide (b ≤ 138)) || decide (b = 167) || decide (b = 172) || decide (b = 173)
def zidx (b : Nat) : Bool := decide (b = 12) || decide (b = 13) || decide (b = 16) || (decide (32 ≤ b) && decide (b ≤ 36))
def zacc (b : Nat) : Bool := decide (b = 40) || decide (b = 41) || decide (b = 44) || decide (b = 45) || decide (b = 54) || decide (b = 55) || decide (b = 58)
/-- labels: how many besides the last, and all -/
def zTb (f : Nat → Int32) (L a : Nat) : Option ((Nat × List Nat) × Nat) := match zM f L 50 a with
  | some (n, c) => (match zA (zM f L 2147483647) (n + 1) [] c with | some (l, d) => some ((n, l), d) | none => none)
  | none => none
/-- an access: its alignment; the offset goes by -/
def zAc (f : Nat → Int32) (L a : Nat) : Option (Nat × Nat) := match zM f L 2147483647 a with
  | some (v, c) => (match zM f L 4294967295 c with | some (_, d) => some (v, d) | none => none)
  | none => none
/-- what stands behind the op b of an instruction that is no block, no else, no end: (value, labels), place -/
def zQ (f : Nat → Int32) (L b a : Nat) : Option ((Nat × List Nat) × Nat) :=
  if zidx b = true then (match zM f L 2147483647 a with | some (v, c) => some ((v, []), c) | none => none)
  else if b = 14 then zTb f L a
  else if zacc b = true then (match zAc f L a with | some (v, c) => some ((v, []), c) | none => none)
  else if b = 63 ∨ b = 64 then (match zE f L 0 a with | some c => some ((0, []), c) | none => none)
  else if b = 65 then (match zSn f L zq32 5 a with | some c => some ((0, []), c) | none => none)
  else if b = 66 then (match zSn f L zq64 10 a with | some c => some ((0, []), c) | none => none)
  else if zplain b = true then some ((0, []), a)
  else none
/-- one instruction; st: what is open, 1 an if without else, 0 another: the instruction (op, value, labels), what is open then (none: the code is at its end), the place behind it -/
def zK1 (f : Nat → Int32) (L : Nat) (st : List Nat) (a : Nat) : Option ((Nat × Nat × List Nat) × Option (List Nat) × Nat) :=
  if a < L then
    (if 2 ≤ bn (f a) ∧ bn (f a) ≤ 4 then
      (if a + 1 < L ∧ (bn (f (a + 1)) = 64 ∨ bn (f (a + 1)) = 127 ∨ bn (f (a + 1)) = 126) ∧ st.length < 100 then some ((bn (f a), bn (f (a + 1)), []), some ((if bn (f a) = 4 then 1 else 0) :: st), a + 2) else none)
    else if bn (f a) = 5 then (if st.headD 0 = 1 then some ((5, 0, []), some (0 :: st.tail), a + 1) else none)
    else if bn (f a) = 11 then some ((11, 0, []), (if st = [] then none else some st.tail), a + 1)
    else (match zQ f L (bn (f a)) (a + 1) with
      | some (x, b) => some ((bn (f a), x.1, x.2), some st, b)
      | none => none))
  else none
/-- a body: n: so many instructions may come; l: those so far -/
def zK (f : Nat → Int32) (L : Nat) : Nat → List Nat → List (Nat × Nat × List Nat) → Nat → Option (List (Nat × Nat × List Nat) × Nat)
  | 0, _, _, _ => none
  | n + 1, st, l, a => match zK1 f L st a with
    | some (i, some st2, b) => zK f L n st2 (l ++ [i]) b
    | some (i, none, b) => some (l ++ [i], b)
    | none => none
/-- the locals: k runs more, behind those of l -/
def zR (f : Nat → Int32) (L : Nat) : Nat → List Nat → Nat → Option (List Nat × Nat)
  | 0, l, a => some (l, a)
  | k + 1, l, a => match zM f L (60 - l.length) a with
    | some (n, b) => (match zTy f L b with
      | some (t, c) => zR f L k (l ++ List.replicate n t) c
      | none => none)
    | none => none
/-- the locals of a code -/
def zLo (f : Nat → Int32) (L a : Nat) : Option (List Nat × Nat) := match zM f L 60 a with
  | some (k, c) => zR f L k [] c
  | none => none
/-- what a code holds: its locals, its instructions -/
def zBody (f : Nat → Int32) (L a : Nat) : Option (List Nat × List (Nat × Nat × List Nat) × Nat) := match zLo f L a with
  | some (ls, d) => (match zK f L 5001 [] [] d with
    | some (is, e) => some (ls, is, e)
    | none => none)
  | none => none
/-- a code -/
def zCode (f : Nat → Int32) (L a : Nat) : Option ((List Nat × List (Nat × Nat × List Nat)) × Nat) := match zM f L 4294967295 a with
  | some (n, b) => if n ≤ L - b then (match zBody f (b + n) b with
    | some (ls, is, e) => if e = b + n then some ((ls, is), e) else none
    | none => none) else none
  | none => none
/-- what a type gives (64: nothing), its parameters being l -/
def zTyE (f : Nat → Int32) (L : Nat) (l : List Nat) (d : Nat) : Option ((List Nat × Nat) × Nat) := match zM f L 1 d with
  | some (k, e) => if k = 1 then (match zTy f L e with | some (t, g) => some ((l, t), g) | none => none) else some ((l, 64), e)
  | none => none
/-- k parameters more, behind those of l -/
def zTyC (f : Nat → Int32) (L k : Nat) (l : List Nat) (a : Nat) : Option ((List Nat × Nat) × Nat) := match zA (zTy f L) k l a with
  | some (l2, d) => zTyE f L l2 d
  | none => none
/-- a type: what it takes, what it gives -/
def zType (f : Nat → Int32) (L a : Nat) : Option ((List Nat × Nat) × Nat) := match zE f L 96 a with
  | some b => (match zM f L 8 b with
    | some (n, c) => zTyC f L n [] c
    | none => none)
  | none => none
/-- a global: its type, whether it changes, the type of its start -/
def zGlob (f : Nat → Int32) (L a : Nat) : Option ((Nat × Nat × Nat) × Nat) := match zTy f L a with
  | some (t, b) => (match zFl f L b with
    | some (m, c) => if c < L ∧ (bn (f c) = 65 ∨ bn (f c) = 66) then (match zSn f L (if bn (f c) = 65 then zq32 else zq64) (if bn (f c) = 65 then 5 else 10) (c + 1) with
        | some d => (match zE f L 11 d with | some e => some ((t, m, if bn (f c) = 65 then 127 else 126), e) | none => none)
        | none => none)
      else none
    | none => none)
  | none => none
/-- an export: where its name begins, its length, its kind, of what -/
def zExp (f : Nat → Int32) (L a : Nat) : Option ((Nat × Nat × Nat × Nat) × Nat) := match zM f L 30 a with
  | some (n, b) => if b + n < L ∧ (bn (f (b + n)) = 0 ∨ bn (f (b + n)) = 2 ∨ bn (f (b + n)) = 3) then (match zM f L 2147483647 (b + n + 1) with
      | some (v, c) => some ((b, n, bn (f (b + n)), v), c)
      | none => none) else none
  | none => none
/-- the memory: whether there is one, its least, its most (65536 if none is told) -/
def zMem (f : Nat → Int32) (L a : Nat) : Option ((Nat × Nat × Nat) × Nat) := match zM f L 1 a with
  | some (k, b) => if k = 1 then (match zFl f L b with
      | some (fl, c) => (match zM f L 4294967295 c with
        | some (x, d) => if fl = 1 then (match zM f L 4294967295 d with | some (y, e) => some ((1, x, y), e) | none => none) else some ((1, x, 65536), d)
        | none => none)
      | none => none) else some ((0, 0, 65536), b)
  | none => none
abbrev zTab : Type := List (List Nat × Nat) × List Nat × (Nat × Nat × Nat) × List (Nat × Nat × Nat) × List (Nat × Nat × Nat × Nat) × List (List Nat × List (Nat × Nat × List Nat))
def zT0 : zTab := ([], [], (0, 0, 65536), [], [], [])
/-- a section -/
def zSec (f : Nat → Int32) (L id : Nat) (T : zTab) (a : Nat) : Option (zTab × Nat) :=
  if id = 1 then (match zV f L 20 (zType f L) a with | some (x, b) => some ((x, T.2), b) | none => none)
  else if id = 3 then (match zV f L 30 (zM f L 2147483647) a with | some (x, b) => some ((T.1, x, T.2.2), b) | none => none)
  else if id = 5 then (match zMem f L a with | some (x, b) => some ((T.1, T.2.1, x, T.2.2.2), b) | none => none)
  else if id = 6 then (match zV f L 20 (zGlob f L) a with | some (x, b) => some ((T.1, T.2.1, T.2.2.1, x, T.2.2.2.2), b) | none => none)
  else if id = 7 then (match zV f L 40 (zExp f L) a with | some (x, b) => some ((T.1, T.2.1, T.2.2.1, T.2.2.2.1, x, T.2.2.2.2.2), b) | none => none)
  else if id = 10 then (match zV f L 30 (zCode f L) a with | some (x, b) => some ((T.1, T.2.1, T.2.2.1, T.2.2.2.1, T.2.2.2.2.1, x), b) | none => none)
  else none
/-- the sections: n: so many may come; z: the last one's number -/
def zMod (f : Nat → Int32) (N : Nat) : Nat → Nat → zTab → Nat → Option zTab
  | 0, _, _, _ => none
  | n + 1, z, T, a => if a < N then (match zM f N 4294967295 (a + 1) with
      | some (k, b) => if k ≤ N - b then
          (if bn (f a) = 0 then (match zM f (b + k) 4294967295 b with
            | some (j, c) => if j ≤ b + k - c then zMod f N n z T (b + k) else none
            | none => none)
          else if z < bn (f a) then (match zSec f (b + k) (bn (f a)) T b with
            | some (T2, c) => if c = b + k then zMod f N n (bn (f a)) T2 c else none
            | none => none)
          else none) else none
      | none => none)
    else if T.2.1.length = T.2.2.2.2.2.length then some T else none
def zH : List Nat := [0, 97, 115, 109, 1, 0, 0, 0]
/-- the head: what is left of it -/
def zHd (f : Nat → Int32) (N : Nat) : List Nat → Nat → Option Nat
  | [], a => some a
  | x :: l, a => match zE f N x a with | some b => zHd f N l b | none => none
def zRead (f : Nat → Int32) (N : Nat) : Option zTab := match zHd f N zH 0 with
  | some a => zMod f N 8192 0 zT0 a
  | none => none
/-! what came of a call of the class's reader: s, s2: sound before and behind it -/
def rz (o : Option (Nat × Nat)) (s s2 a2 : Int32) (r : Int) : Prop := (s2.toInt = 1 ∧ s.toInt = 1 ∧ 0 ≤ r ∧ o = some (r.toNat, a2.toNatClampNeg)) ∨ (s2.toInt = 0 ∧ (s.toInt = 1 → o = none))
def rp (o : Option Nat) (s s2 a2 : Int32) : Prop := (s2.toInt = 1 ∧ s.toInt = 1 ∧ o = some a2.toNatClampNeg) ∨ (s2.toInt = 0 ∧ (s.toInt = 1 → o = none))
def rn (f : Nat → Int32) (s a lim s2 a2 r : Int32) : Prop := (s2.toInt = 1 ∧ s.toInt = 1 ∧ a.toInt < lim.toInt ∧ a2.toInt = a.toInt + 1 ∧ r.toInt = (bn (f a.toNatClampNeg) : Int)) ∨ (s2.toInt = 0 ∧ (s.toInt = 1 → lim.toInt ≤ a.toInt) ∧ a2 = a ∧ r.toInt = 0)
theorem i32n {x : Int32} (h : 0 ≤ x.toInt) : (x.toNatClampNeg : Int) = x.toInt := i32_clamp h
end q_n44q00
section q_n44q01
/-! p5: VALID: types of what stands on the stack (top first; 0: unknown), blocks (top first): (op, what it gives, height, whether it is dead) -/
abbrev zBl : Type := Nat × Nat × Nat × Bool
abbrev zSt : Type := List Nat × List zBl
def vpop (S : List Nat) (B : List zBl) : Option (Nat × List Nat) := match B with
  | [] => none
  | b :: _ => if b.2.2.1 < S.length then some (S.headD 0, S.tail) else if b.2.2.2 = true then some (0, S) else none
def vpw (w : Nat) (S : List Nat) (B : List zBl) : Option (List Nat) := if w = 64 then some S else (match vpop S B with
  | some (t, S2) => if t = w ∨ t = 0 then some S2 else none
  | none => none)
def vps (t : Nat) (S : List Nat) : List Nat := if t = 64 then S else t :: S
def vdie (S : List Nat) (B : List zBl) : zSt := match B with
  | [] => (S, [])
  | b :: r => (S.drop (S.length - b.2.2.1), (b.1, b.2.1, b.2.2.1, true) :: r)
def vlab (B : List zBl) (n : Nat) : Option Nat := match B[n]? with
  | some b => some (if b.1 = 3 then 64 else b.2.1)
  | none => none
/-- the innermost block is left: what stands then, the block, the rest -/
def vclose (S : List Nat) (B : List zBl) : Option (List Nat × zBl × List zBl) := match B with
  | [] => none
  | b :: r => (match vpw b.2.1 S B with
    | some S2 => if S2.length = b.2.2.1 then some (S2, b, r) else none
    | none => none)
/-- several are taken, the last first -/
def vpws : List Nat → List Nat → List zBl → Option (List Nat)
  | [], S, _ => some S
  | w :: l, S, B => (match vpws l S B with
    | some S2 => vpw w S2 B
    | none => none)
def vin (op : Nat) : Nat := if (80 ≤ op ∧ op ≤ 90) ∨ (121 ≤ op ∧ op ≤ 138) ∨ op = 167 then 126 else 127
def vout (op : Nat) : Nat := if op ≤ 120 ∨ op = 167 then 127 else 126
def vone (op : Nat) : Bool := decide (op = 69) || decide (op = 80) || (decide (103 ≤ op) && decide (op ≤ 105)) || (decide (121 ≤ op) && decide (op ≤ 123)) || decide (138 < op)
def val_ (op : Nat) : Nat := if op = 40 ∨ op = 54 then 2 else if op = 41 ∨ op = 55 then 3 else 0
/-- one instruction, in a function that gives g, whose locals are lo -/
def vstep (T : zTab) (lo : List Nat) (g : Nat) (i : Nat × Nat × List Nat) (S : List Nat) (B : List zBl) : Option zSt :=
  if i.1 = 0 then some (vdie S B)
  else if i.1 = 1 then some (S, B)
  else if i.1 = 2 ∨ i.1 = 3 then some (S, (i.1, i.2.1, S.length, false) :: B)
  else if i.1 = 4 then (match vpw 127 S B with | some S2 => some (S2, (4, i.2.1, S2.length, false) :: B) | none => none)
  else if i.1 = 5 then (match vclose S B with | some (S2, b, r) => some (S2, (5, b.2.1, S2.length, false) :: r) | none => none)
  else if i.1 = 11 then (match vclose S B with
    | some (S2, b, r) => if b.1 ≠ 4 ∨ b.2.1 = 64 then some ((if r = [] then S2 else vps b.2.1 S2), r) else none
    | none => none)
  else if i.1 = 12 then (match vlab B i.2.1 with
    | some t => (match vpw t S B with | some S2 => some (vdie S2 B) | none => none)
    | none => none)
  else if i.1 = 13 then (match vlab B i.2.1 with
    | some t => (match vpw 127 S B with
      | some S2 => (match vpw t S2 B with | some S3 => some (vps t S3, B) | none => none)
      | none => none)
    | none => none)
  else if i.1 = 14 then (match vlab B (i.2.2.getLastD 0) with
    | some t => if i.2.2.all (fun n => vlab B n == some t) = true then (match vpw 127 S B with
        | some S2 => (match vpw t S2 B with | some S3 => some (vdie S3 B) | none => none)
        | none => none) else none
    | none => none)
  else if i.1 = 15 then (match vpw g S B with | some S2 => some (vdie S2 B) | none => none)
  else if i.1 = 16 then (match T.2.1[i.2.1]? with
    | some t => (match T.1[t]? with
      | some ty => (match vpws ty.1 S B with | some S2 => some (vps ty.2 S2, B) | none => none)
      | none => none)
    | none => none)
  else if i.1 = 26 then (match vpop S B with | some (_, S2) => some (S2, B) | none => none)
  else if i.1 = 27 then (match vpw 127 S B with
    | some S2 => (match vpop S2 B with
      | some (x, S3) => (match vpop S3 B with
        | some (y, S4) => if x = y ∨ x = 0 ∨ y = 0 then some ((if x = 0 then y else x) :: S4, B) else none
        | none => none)
      | none => none)
    | none => none)
  else if 32 ≤ i.1 ∧ i.1 ≤ 34 then (match lo[i.2.1]? with
    | some t => if i.1 = 32 then some (t :: S, B) else (match vpw t S B with | some S2 => some (if i.1 = 33 then S2 else t :: S2, B) | none => none)
    | none => none)
  else if i.1 = 35 ∨ i.1 = 36 then (match T.2.2.2.1[i.2.1]? with
    | some x => if i.1 = 35 then some (x.1 :: S, B) else if x.2.1 = 1 then (match vpw x.1 S B with | some S2 => some (S2, B) | none => none) else none
    | none => none)
  else if i.1 ≤ 64 then
    (if T.2.2.1.1 = 1 then
      (if i.1 = 63 then some (127 :: S, B)
       else if i.1 = 64 then (match vpw 127 S B with | some S2 => some (127 :: S2, B) | none => none)
       else if i.2.1 ≤ val_ i.1 then
        (if 54 ≤ i.1 then (match vpw (if i.1 = 55 then 126 else 127) S B with
            | some S2 => (match vpw 127 S2 B with | some S3 => some (S3, B) | none => none)
            | none => none)
         else (match vpw 127 S B with | some S2 => some ((if i.1 = 41 then 126 else 127) :: S2, B) | none => none))
       else none)
     else none)
  else if i.1 = 65 then some (127 :: S, B)
  else if i.1 = 66 then some (126 :: S, B)
  else (match vpw (vin i.1) S B with
    | some S2 => (match (if vone i.1 = true then some S2 else vpw (vin i.1) S2 B) with
      | some S3 => some (vout i.1 :: S3, B)
      | none => none)
    | none => none)
def vrun (T : zTab) (lo : List Nat) (g : Nat) : List (Nat × Nat × List Nat) → List Nat → List zBl → Bool
  | [], _, _ => true
  | i :: l, S, B => (match vstep T lo g i S B with
    | some (S2, B2) => vrun T lo g l S2 B2
    | none => false)
/-- function k -/
def vfun (T : zTab) (k : Nat) : Bool := match T.2.1[k]? with
  | some t => (match T.1[t]?, T.2.2.2.2.2[k]? with
    | some ty, some co => vrun T (ty.1 ++ co.1) ty.2 co.2 [] [(2, ty.2, 0, false)]
    | _, _ => false)
  | none => false
def vsame (f : Nat → Int32) (a b : Nat) : Nat → Bool
  | 0 => true
  | n + 1 => decide (bn (f a) = bn (f b)) && vsame f (a + 1) (b + 1) n
/-- the exports before k have other names -/
def vexp (f : Nat → Int32) (T : zTab) (e : Nat × Nat × Nat × Nat) (o : List (Nat × Nat × Nat × Nat)) : Bool :=
  decide (e.2.2.2 < (if e.2.2.1 = 0 then T.2.1.length else if e.2.2.1 = 2 then T.2.2.1.1 else T.2.2.2.1.length)) && o.all (fun x => !(decide (x.2.1 = e.2.1) && vsame f e.1 x.1 e.2.1))
def vexps (f : Nat → Int32) (T : zTab) : List (Nat × Nat × Nat × Nat) → List (Nat × Nat × Nat × Nat) → Bool
  | [], _ => true
  | e :: l, o => vexp f T e o && vexps f T l (o ++ [e])
def vmod (f : Nat → Int32) (T : zTab) : Bool :=
  (T.2.1.all (fun t => decide (t < T.1.length)) && T.2.2.2.1.all (fun g => decide (g.1 = g.2.2))) &&
  (decide (T.2.2.1.2.1 ≤ 2 ∧ T.2.2.1.2.2 ≤ 65536 ∧ T.2.2.1.2.1 ≤ T.2.2.1.2.2) && (vexps f T T.2.2.2.2.1 [] && (List.range T.2.1.length).all (fun k => vfun T k)))
/-- how many functions, of bytes that are READ and VALID -/
def zOK (f : Nat → Int32) (N : Nat) : Option Nat := match zRead f N with
  | some T => if vmod f T = true then some T.2.1.length else none
  | none => none
end q_n44q01
