section q_33
/-! the words that the constructors of exceptions ask for -/
theorem z_eval {C n d : String} {v : Value} {A : Nat → Prop} {U : State} {args : Array Value} (h : va_Z C n d v A U U.heap) : (Term.static C n d).eval args U none [] U = some v := by
  obtain ⟨cf, kf, fi, f, a, cell, h1, h2, h3, h4, h5, h6, h7, -⟩ := h
  simp [Term.eval, State.fieldNamed?, h1, h2, h4, h5, h6, h7]
theorem zq_isRef {C n d : String} {A : Nat → Prop} {U : State} {args : Array Value} (h : va_Zq C n d A U U.heap) : (Cond.isRef (.static C n d)).before args U = true := by
  rcases h with h | ⟨t, h⟩
  · simp [Cond.before, Cond.holds, Cond.value, z_eval h]
  · simp [Cond.before, Cond.holds, Cond.value, z_eval h]
theorem gw {args args2 : Array Value} {s U : State} (hts : ∀ w ∈ lw_g, w.before args s = true) (hW : s.WarmedH U.vm) : ∀ w ∈ lw_g, w.before args2 U = true := fun w h => word_at hW (good_of_word (List.mem_filter.mp h).2) (hts w h)
theorem ea_thr {P : Cond → Prop} (h : ∀ w ∈ lw_g, P w) (l1 : P (.laysStatic "java/lang/Throwable" "UNASSIGNED_STACK" "[Ljava/lang/StackTraceElement;")) (l2 : P (.laysStatic "java/lang/Throwable" "SUPPRESSED_SENTINEL" "Ljava/util/List;")) : ∀ a ∈ Bundle.throwableAtoms, P a := (List.forall_mem_cons.mpr ⟨h _ (in_c1 15 rfl rfl), (List.forall_mem_cons.mpr ⟨h _ (in_c3 201 rfl rfl), (List.forall_mem_cons.mpr ⟨h _ (in_c3 210 rfl rfl), (List.forall_mem_cons.mpr ⟨h _ (in_c3 217 rfl rfl), (List.forall_mem_cons.mpr ⟨h _ (in_c3 220 rfl rfl), (List.forall_mem_cons.mpr ⟨h _ (in_c3 222 rfl rfl), (List.forall_mem_cons.mpr ⟨h _ (in_c3 202 rfl rfl), (List.forall_mem_cons.mpr ⟨h _ (in_c3 203 rfl rfl), (List.forall_mem_cons.mpr ⟨h _ (in_c1 47 rfl rfl), (List.forall_mem_cons.mpr ⟨h _ (in_c1 48 rfl rfl), (List.forall_mem_cons.mpr ⟨h _ (in_c3 204 rfl rfl), (List.forall_mem_cons.mpr ⟨h _ (in_c3 209 rfl rfl), (List.forall_mem_cons.mpr ⟨h _ (in_c3 218 rfl rfl), (List.forall_mem_cons.mpr ⟨h _ (in_c3 235 rfl rfl), (List.forall_mem_cons.mpr ⟨h _ (in_c3 191 rfl rfl), (List.forall_mem_cons.mpr ⟨h _ (in_c3 236 rfl rfl), (List.forall_mem_cons.mpr ⟨h _ (in_c3 193 rfl rfl), (List.forall_mem_cons.mpr ⟨h _ (in_c3 237 rfl rfl), (List.forall_mem_cons.mpr ⟨h _ (in_c3 195 rfl rfl), (List.forall_mem_cons.mpr ⟨h _ (in_c3 205 rfl rfl), (List.forall_mem_cons.mpr ⟨l1, (List.forall_mem_cons.mpr ⟨h _ (in_c3 207 rfl rfl), (List.forall_mem_cons.mpr ⟨l2, (List.forall_mem_cons.mpr ⟨h _ (in_c3 197 rfl rfl), (fun _ h9 => nomatch h9)⟩)⟩)⟩)⟩)⟩)⟩)⟩)⟩)⟩)⟩)⟩)⟩)⟩)⟩)⟩)⟩)⟩)⟩)⟩)⟩)⟩)⟩)⟩)⟩)
set_option maxRecDepth 100000 in
theorem ea_uo {P : Cond → Prop} {own : String} {ic : Nat} (h : ∀ w ∈ lw_g, P w) (hd : ∀ y ∈ sw_dec, P (.declares y)) (hc : ∀ q ∈ sw_cast, P (.castable q q)) (h1 : P (.isRef (.static "java/lang/Throwable" "UNASSIGNED_STACK" "[Ljava/lang/StackTraceElement;"))) (h2 : P (.isRef (.static "java/lang/Throwable" "SUPPRESSED_SENTINEL" "Ljava/util/List;"))) (l1 : P (.laysStatic "java/lang/Throwable" "UNASSIGNED_STACK" "[Ljava/lang/StackTraceElement;")) (l2 : P (.laysStatic "java/lang/Throwable" "SUPPRESSED_SENTINEL" "Ljava/util/List;")) (hm : P (.methodLink own ic ⟨"java/lang/UnsupportedOperationException", "<init>", "()V"⟩)) : ∀ a ∈ Bundle.ownAtoms0 own ic "java/lang/UnsupportedOperationException" ["java/lang/RuntimeException", "java/lang/Exception"], P a :=
  List.forall_mem_append.mpr ⟨List.forall_mem_append.mpr ⟨ea_thr h l1 l2, (List.forall_mem_append.mpr ⟨(List.forall_mem_cons.mpr ⟨h _ (in_c4 190 rfl rfl), (List.forall_mem_cons.mpr ⟨h _ (in_c4 191 rfl rfl), (List.forall_mem_cons.mpr ⟨h _ (in_c4 192 rfl rfl), (List.forall_mem_cons.mpr ⟨h _ (in_c3 227 rfl rfl), (List.forall_mem_cons.mpr ⟨hd _ (List.mem_of_getElem? (i := 0) rfl), (fun _ h9 => nomatch h9)⟩)⟩)⟩)⟩)⟩), List.forall_mem_append.mpr ⟨(List.forall_mem_cons.mpr ⟨h _ (in_c3 227 rfl rfl), (List.forall_mem_cons.mpr ⟨h _ (in_c3 228 rfl rfl), (List.forall_mem_cons.mpr ⟨h _ (in_c3 229 rfl rfl), (List.forall_mem_cons.mpr ⟨h _ (in_c3 230 rfl rfl), (List.forall_mem_cons.mpr ⟨hd _ (List.mem_of_getElem? (i := 1) rfl), (fun _ h9 => nomatch h9)⟩)⟩)⟩)⟩)⟩), (List.forall_mem_cons.mpr ⟨h _ (in_c3 230 rfl rfl), (List.forall_mem_cons.mpr ⟨h _ (in_c3 231 rfl rfl), (List.forall_mem_cons.mpr ⟨h _ (in_c3 232 rfl rfl), (List.forall_mem_cons.mpr ⟨h _ (in_c3 202 rfl rfl), (List.forall_mem_cons.mpr ⟨hd _ (List.mem_of_getElem? (i := 2) rfl), (fun _ h9 => nomatch h9)⟩)⟩)⟩)⟩)⟩)⟩⟩)⟩, (List.forall_mem_cons.mpr ⟨hm, (List.forall_mem_cons.mpr ⟨h _ (in_c4 181 rfl rfl), (List.forall_mem_cons.mpr ⟨hc _ (List.mem_of_getElem? (i := 0) rfl), (List.forall_mem_cons.mpr ⟨h _ (in_c4 183 rfl rfl), (List.forall_mem_cons.mpr ⟨h _ (in_c3 216 rfl rfl), (List.forall_mem_cons.mpr ⟨h _ (in_c4 184 rfl rfl), (List.forall_mem_cons.mpr ⟨h _ (in_c4 185 rfl rfl), (List.forall_mem_cons.mpr ⟨h _ (in_c4 186 rfl rfl), (List.forall_mem_cons.mpr ⟨h _ (in_c4 187 rfl rfl), (List.forall_mem_cons.mpr ⟨h1, (List.forall_mem_cons.mpr ⟨h2, (List.forall_mem_cons.mpr ⟨h _ (in_c3 200 rfl rfl), (List.forall_mem_cons.mpr ⟨h _ (in_c3 199 rfl rfl), (List.forall_mem_cons.mpr ⟨h _ (in_c4 188 rfl rfl), (fun _ h9 => nomatch h9)⟩)⟩)⟩)⟩)⟩)⟩)⟩)⟩)⟩)⟩)⟩)⟩)⟩)⟩)⟩
set_option maxRecDepth 100000 in
theorem ea_io {P : Cond → Prop} {own : String} {ic : Nat} (h : ∀ w ∈ lw_g, P w) (hd : ∀ y ∈ sw_dec, P (.declares y)) (hc : ∀ q ∈ sw_cast, P (.castable q q)) (h1 : P (.isRef (.static "java/lang/Throwable" "UNASSIGNED_STACK" "[Ljava/lang/StackTraceElement;"))) (h2 : P (.isRef (.static "java/lang/Throwable" "SUPPRESSED_SENTINEL" "Ljava/util/List;"))) (l1 : P (.laysStatic "java/lang/Throwable" "UNASSIGNED_STACK" "[Ljava/lang/StackTraceElement;")) (l2 : P (.laysStatic "java/lang/Throwable" "SUPPRESSED_SENTINEL" "Ljava/util/List;")) (hm : P (.methodLink own ic ⟨"java/lang/IndexOutOfBoundsException", "<init>", "()V"⟩)) : ∀ a ∈ Bundle.ownAtoms0 own ic "java/lang/IndexOutOfBoundsException" ["java/lang/RuntimeException", "java/lang/Exception"], P a :=
  List.forall_mem_append.mpr ⟨List.forall_mem_append.mpr ⟨ea_thr h l1 l2, (List.forall_mem_append.mpr ⟨(List.forall_mem_cons.mpr ⟨h _ (in_c3 224 rfl rfl), (List.forall_mem_cons.mpr ⟨h _ (in_c3 225 rfl rfl), (List.forall_mem_cons.mpr ⟨h _ (in_c3 226 rfl rfl), (List.forall_mem_cons.mpr ⟨h _ (in_c3 227 rfl rfl), (List.forall_mem_cons.mpr ⟨hd _ (List.mem_of_getElem? (i := 0) rfl), (fun _ h9 => nomatch h9)⟩)⟩)⟩)⟩)⟩), List.forall_mem_append.mpr ⟨(List.forall_mem_cons.mpr ⟨h _ (in_c3 227 rfl rfl), (List.forall_mem_cons.mpr ⟨h _ (in_c3 228 rfl rfl), (List.forall_mem_cons.mpr ⟨h _ (in_c3 229 rfl rfl), (List.forall_mem_cons.mpr ⟨h _ (in_c3 230 rfl rfl), (List.forall_mem_cons.mpr ⟨hd _ (List.mem_of_getElem? (i := 1) rfl), (fun _ h9 => nomatch h9)⟩)⟩)⟩)⟩)⟩), (List.forall_mem_cons.mpr ⟨h _ (in_c3 230 rfl rfl), (List.forall_mem_cons.mpr ⟨h _ (in_c3 231 rfl rfl), (List.forall_mem_cons.mpr ⟨h _ (in_c3 232 rfl rfl), (List.forall_mem_cons.mpr ⟨h _ (in_c3 202 rfl rfl), (List.forall_mem_cons.mpr ⟨hd _ (List.mem_of_getElem? (i := 2) rfl), (fun _ h9 => nomatch h9)⟩)⟩)⟩)⟩)⟩)⟩⟩)⟩, (List.forall_mem_cons.mpr ⟨hm, (List.forall_mem_cons.mpr ⟨h _ (in_c3 180 rfl rfl), (List.forall_mem_cons.mpr ⟨hc _ (List.mem_of_getElem? (i := 1) rfl), (List.forall_mem_cons.mpr ⟨h _ (in_c3 188 rfl rfl), (List.forall_mem_cons.mpr ⟨h _ (in_c3 189 rfl rfl), (List.forall_mem_cons.mpr ⟨h _ (in_c3 190 rfl rfl), (List.forall_mem_cons.mpr ⟨h _ (in_c3 192 rfl rfl), (List.forall_mem_cons.mpr ⟨h _ (in_c3 194 rfl rfl), (List.forall_mem_cons.mpr ⟨h _ (in_c3 196 rfl rfl), (List.forall_mem_cons.mpr ⟨h1, (List.forall_mem_cons.mpr ⟨h2, (List.forall_mem_cons.mpr ⟨h _ (in_c3 200 rfl rfl), (List.forall_mem_cons.mpr ⟨h _ (in_c3 199 rfl rfl), (List.forall_mem_cons.mpr ⟨h _ (in_c3 198 rfl rfl), (fun _ h9 => nomatch h9)⟩)⟩)⟩)⟩)⟩)⟩)⟩)⟩)⟩)⟩)⟩)⟩)⟩)⟩)⟩
set_option maxRecDepth 100000 in
theorem ea_ia {P : Cond → Prop} {own : String} {ic : Nat} (h : ∀ w ∈ lw_g, P w) (hd : ∀ y ∈ sw_dec, P (.declares y)) (hc : ∀ q ∈ sw_cast, P (.castable q q)) (h1 : P (.isRef (.static "java/lang/Throwable" "UNASSIGNED_STACK" "[Ljava/lang/StackTraceElement;"))) (h2 : P (.isRef (.static "java/lang/Throwable" "SUPPRESSED_SENTINEL" "Ljava/util/List;"))) (l1 : P (.laysStatic "java/lang/Throwable" "UNASSIGNED_STACK" "[Ljava/lang/StackTraceElement;")) (l2 : P (.laysStatic "java/lang/Throwable" "SUPPRESSED_SENTINEL" "Ljava/util/List;")) (hm : P (.methodLink own ic ⟨"java/lang/IllegalArgumentException", "<init>", "()V"⟩)) : ∀ a ∈ Bundle.ownAtoms0 own ic "java/lang/IllegalArgumentException" ["java/lang/RuntimeException", "java/lang/Exception"], P a :=
  List.forall_mem_append.mpr ⟨List.forall_mem_append.mpr ⟨ea_thr h l1 l2, (List.forall_mem_append.mpr ⟨(List.forall_mem_cons.mpr ⟨h _ (in_c4 32 rfl rfl), (List.forall_mem_cons.mpr ⟨h _ (in_c4 33 rfl rfl), (List.forall_mem_cons.mpr ⟨h _ (in_c4 34 rfl rfl), (List.forall_mem_cons.mpr ⟨h _ (in_c3 227 rfl rfl), (List.forall_mem_cons.mpr ⟨hd _ (List.mem_of_getElem? (i := 0) rfl), (fun _ h9 => nomatch h9)⟩)⟩)⟩)⟩)⟩), List.forall_mem_append.mpr ⟨(List.forall_mem_cons.mpr ⟨h _ (in_c3 227 rfl rfl), (List.forall_mem_cons.mpr ⟨h _ (in_c3 228 rfl rfl), (List.forall_mem_cons.mpr ⟨h _ (in_c3 229 rfl rfl), (List.forall_mem_cons.mpr ⟨h _ (in_c3 230 rfl rfl), (List.forall_mem_cons.mpr ⟨hd _ (List.mem_of_getElem? (i := 1) rfl), (fun _ h9 => nomatch h9)⟩)⟩)⟩)⟩)⟩), (List.forall_mem_cons.mpr ⟨h _ (in_c3 230 rfl rfl), (List.forall_mem_cons.mpr ⟨h _ (in_c3 231 rfl rfl), (List.forall_mem_cons.mpr ⟨h _ (in_c3 232 rfl rfl), (List.forall_mem_cons.mpr ⟨h _ (in_c3 202 rfl rfl), (List.forall_mem_cons.mpr ⟨hd _ (List.mem_of_getElem? (i := 2) rfl), (fun _ h9 => nomatch h9)⟩)⟩)⟩)⟩)⟩)⟩⟩)⟩, (List.forall_mem_cons.mpr ⟨hm, (List.forall_mem_cons.mpr ⟨h _ (in_c4 23 rfl rfl), (List.forall_mem_cons.mpr ⟨hc _ (List.mem_of_getElem? (i := 2) rfl), (List.forall_mem_cons.mpr ⟨h _ (in_c4 25 rfl rfl), (List.forall_mem_cons.mpr ⟨h _ (in_c3 214 rfl rfl), (List.forall_mem_cons.mpr ⟨h _ (in_c4 26 rfl rfl), (List.forall_mem_cons.mpr ⟨h _ (in_c4 27 rfl rfl), (List.forall_mem_cons.mpr ⟨h _ (in_c4 28 rfl rfl), (List.forall_mem_cons.mpr ⟨h _ (in_c4 29 rfl rfl), (List.forall_mem_cons.mpr ⟨h1, (List.forall_mem_cons.mpr ⟨h2, (List.forall_mem_cons.mpr ⟨h _ (in_c3 200 rfl rfl), (List.forall_mem_cons.mpr ⟨h _ (in_c3 199 rfl rfl), (List.forall_mem_cons.mpr ⟨h _ (in_c4 30 rfl rfl), (fun _ h9 => nomatch h9)⟩)⟩)⟩)⟩)⟩)⟩)⟩)⟩)⟩)⟩)⟩)⟩)⟩)⟩)⟩
set_option maxRecDepth 100000 in
theorem ea_is {P : Cond → Prop} {own : String} {ic : Nat} (h : ∀ w ∈ lw_g, P w) (hd : ∀ y ∈ sw_dec, P (.declares y)) (hc : ∀ q ∈ sw_cast, P (.castable q q)) (h1 : P (.isRef (.static "java/lang/Throwable" "UNASSIGNED_STACK" "[Ljava/lang/StackTraceElement;"))) (h2 : P (.isRef (.static "java/lang/Throwable" "SUPPRESSED_SENTINEL" "Ljava/util/List;"))) (l1 : P (.laysStatic "java/lang/Throwable" "UNASSIGNED_STACK" "[Ljava/lang/StackTraceElement;")) (l2 : P (.laysStatic "java/lang/Throwable" "SUPPRESSED_SENTINEL" "Ljava/util/List;")) (hm : P (.methodLink own ic ⟨"java/lang/IllegalStateException", "<init>", "()V"⟩)) : ∀ a ∈ Bundle.ownAtoms0 own ic "java/lang/IllegalStateException" ["java/lang/RuntimeException", "java/lang/Exception"], P a :=
  List.forall_mem_append.mpr ⟨List.forall_mem_append.mpr ⟨ea_thr h l1 l2, (List.forall_mem_append.mpr ⟨(List.forall_mem_cons.mpr ⟨h _ (in_c7 73 rfl rfl), (List.forall_mem_cons.mpr ⟨h _ (in_c7 74 rfl rfl), (List.forall_mem_cons.mpr ⟨h _ (in_c7 75 rfl rfl), (List.forall_mem_cons.mpr ⟨h _ (in_c3 227 rfl rfl), (List.forall_mem_cons.mpr ⟨hd _ (List.mem_of_getElem? (i := 0) rfl), (fun _ h9 => nomatch h9)⟩)⟩)⟩)⟩)⟩), List.forall_mem_append.mpr ⟨(List.forall_mem_cons.mpr ⟨h _ (in_c3 227 rfl rfl), (List.forall_mem_cons.mpr ⟨h _ (in_c3 228 rfl rfl), (List.forall_mem_cons.mpr ⟨h _ (in_c3 229 rfl rfl), (List.forall_mem_cons.mpr ⟨h _ (in_c3 230 rfl rfl), (List.forall_mem_cons.mpr ⟨hd _ (List.mem_of_getElem? (i := 1) rfl), (fun _ h9 => nomatch h9)⟩)⟩)⟩)⟩)⟩), (List.forall_mem_cons.mpr ⟨h _ (in_c3 230 rfl rfl), (List.forall_mem_cons.mpr ⟨h _ (in_c3 231 rfl rfl), (List.forall_mem_cons.mpr ⟨h _ (in_c3 232 rfl rfl), (List.forall_mem_cons.mpr ⟨h _ (in_c3 202 rfl rfl), (List.forall_mem_cons.mpr ⟨hd _ (List.mem_of_getElem? (i := 2) rfl), (fun _ h9 => nomatch h9)⟩)⟩)⟩)⟩)⟩)⟩⟩)⟩, (List.forall_mem_cons.mpr ⟨hm, (List.forall_mem_cons.mpr ⟨h _ (in_c7 64 rfl rfl), (List.forall_mem_cons.mpr ⟨hc _ (List.mem_of_getElem? (i := 3) rfl), (List.forall_mem_cons.mpr ⟨h _ (in_c7 66 rfl rfl), (List.forall_mem_cons.mpr ⟨h _ (in_c3 215 rfl rfl), (List.forall_mem_cons.mpr ⟨h _ (in_c7 67 rfl rfl), (List.forall_mem_cons.mpr ⟨h _ (in_c7 68 rfl rfl), (List.forall_mem_cons.mpr ⟨h _ (in_c7 69 rfl rfl), (List.forall_mem_cons.mpr ⟨h _ (in_c7 70 rfl rfl), (List.forall_mem_cons.mpr ⟨h1, (List.forall_mem_cons.mpr ⟨h2, (List.forall_mem_cons.mpr ⟨h _ (in_c3 200 rfl rfl), (List.forall_mem_cons.mpr ⟨h _ (in_c3 199 rfl rfl), (List.forall_mem_cons.mpr ⟨h _ (in_c7 71 rfl rfl), (fun _ h9 => nomatch h9)⟩)⟩)⟩)⟩)⟩)⟩)⟩)⟩)⟩)⟩)⟩)⟩)⟩)⟩)⟩
set_option maxRecDepth 100000 in
theorem ea_ar {P : Cond → Prop} {own : String} {ic : Nat} (h : ∀ w ∈ lw_g, P w) (hd : ∀ y ∈ sw_dec, P (.declares y)) (hc : ∀ q ∈ sw_cast, P (.castable q q)) (h1 : P (.isRef (.static "java/lang/Throwable" "UNASSIGNED_STACK" "[Ljava/lang/StackTraceElement;"))) (h2 : P (.isRef (.static "java/lang/Throwable" "SUPPRESSED_SENTINEL" "Ljava/util/List;"))) (l1 : P (.laysStatic "java/lang/Throwable" "UNASSIGNED_STACK" "[Ljava/lang/StackTraceElement;")) (l2 : P (.laysStatic "java/lang/Throwable" "SUPPRESSED_SENTINEL" "Ljava/util/List;")) (hm : P (.methodLink own ic ⟨"java/lang/ArithmeticException", "<init>", "()V"⟩)) : ∀ a ∈ Bundle.ownAtoms0 own ic "java/lang/ArithmeticException" ["java/lang/RuntimeException", "java/lang/Exception"], P a :=
  List.forall_mem_append.mpr ⟨List.forall_mem_append.mpr ⟨ea_thr h l1 l2, (List.forall_mem_append.mpr ⟨(List.forall_mem_cons.mpr ⟨h _ (in_c8 21 rfl rfl), (List.forall_mem_cons.mpr ⟨h _ (in_c8 22 rfl rfl), (List.forall_mem_cons.mpr ⟨h _ (in_c8 23 rfl rfl), (List.forall_mem_cons.mpr ⟨h _ (in_c3 227 rfl rfl), (List.forall_mem_cons.mpr ⟨hd _ (List.mem_of_getElem? (i := 0) rfl), (fun _ h9 => nomatch h9)⟩)⟩)⟩)⟩)⟩), List.forall_mem_append.mpr ⟨(List.forall_mem_cons.mpr ⟨h _ (in_c3 227 rfl rfl), (List.forall_mem_cons.mpr ⟨h _ (in_c3 228 rfl rfl), (List.forall_mem_cons.mpr ⟨h _ (in_c3 229 rfl rfl), (List.forall_mem_cons.mpr ⟨h _ (in_c3 230 rfl rfl), (List.forall_mem_cons.mpr ⟨hd _ (List.mem_of_getElem? (i := 1) rfl), (fun _ h9 => nomatch h9)⟩)⟩)⟩)⟩)⟩), (List.forall_mem_cons.mpr ⟨h _ (in_c3 230 rfl rfl), (List.forall_mem_cons.mpr ⟨h _ (in_c3 231 rfl rfl), (List.forall_mem_cons.mpr ⟨h _ (in_c3 232 rfl rfl), (List.forall_mem_cons.mpr ⟨h _ (in_c3 202 rfl rfl), (List.forall_mem_cons.mpr ⟨hd _ (List.mem_of_getElem? (i := 2) rfl), (fun _ h9 => nomatch h9)⟩)⟩)⟩)⟩)⟩)⟩⟩)⟩, (List.forall_mem_cons.mpr ⟨hm, (List.forall_mem_cons.mpr ⟨h _ (in_c8 12 rfl rfl), (List.forall_mem_cons.mpr ⟨hc _ (List.mem_of_getElem? (i := 4) rfl), (List.forall_mem_cons.mpr ⟨h _ (in_c8 14 rfl rfl), (List.forall_mem_cons.mpr ⟨h _ (in_c3 213 rfl rfl), (List.forall_mem_cons.mpr ⟨h _ (in_c8 15 rfl rfl), (List.forall_mem_cons.mpr ⟨h _ (in_c8 16 rfl rfl), (List.forall_mem_cons.mpr ⟨h _ (in_c8 17 rfl rfl), (List.forall_mem_cons.mpr ⟨h _ (in_c8 18 rfl rfl), (List.forall_mem_cons.mpr ⟨h1, (List.forall_mem_cons.mpr ⟨h2, (List.forall_mem_cons.mpr ⟨h _ (in_c3 200 rfl rfl), (List.forall_mem_cons.mpr ⟨h _ (in_c3 199 rfl rfl), (List.forall_mem_cons.mpr ⟨h _ (in_c8 19 rfl rfl), (fun _ h9 => nomatch h9)⟩)⟩)⟩)⟩)⟩)⟩)⟩)⟩)⟩)⟩)⟩)⟩)⟩)⟩)⟩
theorem eb_WF_io {sa : Nat → Nat} {A : Nat → Prop} {args args2 : Array Value} {s : State} {H : Heap} {locs : List Loc} (hts : ∀ w ∈ lw_g, w.before args s = true) (hSW : sw sa A s s.heap) (hS : va_S A s.heap H locs) (U : State) (hU : U.heap = H) (hW : s.WarmedH U.vm) : (∀ a ∈ Bundle.ownAtoms0 "WaferForge" 90 "java/lang/IndexOutOfBoundsException" ["java/lang/RuntimeException", "java/lang/Exception"], a.before args2 U = true) ∧ (Cond.classLink "WaferForge" 88 "java/lang/IndexOutOfBoundsException").before args2 U = true ∧ (Cond.instantiable "java/lang/IndexOutOfBoundsException" 6).before args2 U = true ∧ (Cond.initialized "java/lang/IndexOutOfBoundsException").before args2 U = true := by
  have h := gw (args2 := args2) hts hW
  have hs : sw sa A U U.heap := hSW.call hS (fun _ z => z) hW hU
  obtain ⟨-, -, -, -, -, -, g1, g2, ⟨-, -, n3, n4⟩, m1, m2, -, -⟩ := hs
  exact ⟨ea_io (P := fun w => w.before args2 U = true) h (fun y hy => va_Nw.use rfl (n3 y hy)) (fun q hq => va_Nw.use rfl (n4 q hq)) (zq_isRef g1) (zq_isRef g2) m1.say m2.say (h _ (in_c3 223 rfl rfl)), h _ (in_c3 179 rfl rfl), h _ (in_c3 180 rfl rfl), h _ (in_c1 20 rfl rfl)⟩
theorem eb_WF_ia {sa : Nat → Nat} {A : Nat → Prop} {args args2 : Array Value} {s : State} {H : Heap} {locs : List Loc} (hts : ∀ w ∈ lw_g, w.before args s = true) (hSW : sw sa A s s.heap) (hS : va_S A s.heap H locs) (U : State) (hU : U.heap = H) (hW : s.WarmedH U.vm) : (∀ a ∈ Bundle.ownAtoms0 "WaferForge" 96 "java/lang/IllegalArgumentException" ["java/lang/RuntimeException", "java/lang/Exception"], a.before args2 U = true) ∧ (Cond.classLink "WaferForge" 94 "java/lang/IllegalArgumentException").before args2 U = true ∧ (Cond.instantiable "java/lang/IllegalArgumentException" 6).before args2 U = true ∧ (Cond.initialized "java/lang/IllegalArgumentException").before args2 U = true := by
  have h := gw (args2 := args2) hts hW
  have hs : sw sa A U U.heap := hSW.call hS (fun _ z => z) hW hU
  obtain ⟨-, -, -, -, -, -, g1, g2, ⟨-, -, n3, n4⟩, m1, m2, -, -⟩ := hs
  exact ⟨ea_ia (P := fun w => w.before args2 U = true) h (fun y hy => va_Nw.use rfl (n3 y hy)) (fun q hq => va_Nw.use rfl (n4 q hq)) (zq_isRef g1) (zq_isRef g2) m1.say m2.say (h _ (in_c4 31 rfl rfl)), h _ (in_c4 22 rfl rfl), h _ (in_c4 23 rfl rfl), h _ (in_c1 21 rfl rfl)⟩
theorem eb_WF_uo {sa : Nat → Nat} {A : Nat → Prop} {args args2 : Array Value} {s : State} {H : Heap} {locs : List Loc} (hts : ∀ w ∈ lw_g, w.before args s = true) (hSW : sw sa A s s.heap) (hS : va_S A s.heap H locs) (U : State) (hU : U.heap = H) (hW : s.WarmedH U.vm) : (∀ a ∈ Bundle.ownAtoms0 "WaferForge" 108 "java/lang/UnsupportedOperationException" ["java/lang/RuntimeException", "java/lang/Exception"], a.before args2 U = true) ∧ (Cond.classLink "WaferForge" 106 "java/lang/UnsupportedOperationException").before args2 U = true ∧ (Cond.instantiable "java/lang/UnsupportedOperationException" 6).before args2 U = true ∧ (Cond.initialized "java/lang/UnsupportedOperationException").before args2 U = true := by
  have h := gw (args2 := args2) hts hW
  have hs : sw sa A U U.heap := hSW.call hS (fun _ z => z) hW hU
  obtain ⟨-, -, -, -, -, -, g1, g2, ⟨-, -, n3, n4⟩, m1, m2, -, -⟩ := hs
  exact ⟨ea_uo (P := fun w => w.before args2 U = true) h (fun y hy => va_Nw.use rfl (n3 y hy)) (fun q hq => va_Nw.use rfl (n4 q hq)) (zq_isRef g1) (zq_isRef g2) m1.say m2.say (h _ (in_c6 66 rfl rfl)), h _ (in_c4 49 rfl rfl), h _ (in_c4 181 rfl rfl), h _ (in_c1 26 rfl rfl)⟩
theorem eb_PR_uo {sa : Nat → Nat} {A : Nat → Prop} {args args2 : Array Value} {s : State} {H : Heap} {locs : List Loc} (hts : ∀ w ∈ lw_g, w.before args s = true) (hSW : sw sa A s s.heap) (hS : va_S A s.heap H locs) (U : State) (hU : U.heap = H) (hW : s.WarmedH U.vm) : (∀ a ∈ Bundle.ownAtoms0 "WaferForge$Program" 77 "java/lang/UnsupportedOperationException" ["java/lang/RuntimeException", "java/lang/Exception"], a.before args2 U = true) ∧ (Cond.classLink "WaferForge$Program" 75 "java/lang/UnsupportedOperationException").before args2 U = true ∧ (Cond.instantiable "java/lang/UnsupportedOperationException" 6).before args2 U = true ∧ (Cond.initialized "java/lang/UnsupportedOperationException").before args2 U = true := by
  have h := gw (args2 := args2) hts hW
  have hs : sw sa A U U.heap := hSW.call hS (fun _ z => z) hW hU
  obtain ⟨-, -, -, -, -, -, g1, g2, ⟨-, -, n3, n4⟩, m1, m2, -, -⟩ := hs
  exact ⟨ea_uo (P := fun w => w.before args2 U = true) h (fun y hy => va_Nw.use rfl (n3 y hy)) (fun q hq => va_Nw.use rfl (n4 q hq)) (zq_isRef g1) (zq_isRef g2) m1.say m2.say (h _ (in_c4 189 rfl rfl)), h _ (in_c4 180 rfl rfl), h _ (in_c4 181 rfl rfl), h _ (in_c1 26 rfl rfl)⟩
theorem eb_WF_is {sa : Nat → Nat} {A : Nat → Prop} {args args2 : Array Value} {s : State} {H : Heap} {locs : List Loc} (hts : ∀ w ∈ lw_g, w.before args s = true) (hSW : sw sa A s s.heap) (hS : va_S A s.heap H locs) (U : State) (hU : U.heap = H) (hW : s.WarmedH U.vm) : (∀ a ∈ Bundle.ownAtoms0 "WaferForge" 134 "java/lang/IllegalStateException" ["java/lang/RuntimeException", "java/lang/Exception"], a.before args2 U = true) ∧ (Cond.classLink "WaferForge" 132 "java/lang/IllegalStateException").before args2 U = true ∧ (Cond.instantiable "java/lang/IllegalStateException" 6).before args2 U = true ∧ (Cond.initialized "java/lang/IllegalStateException").before args2 U = true := by
  have h := gw (args2 := args2) hts hW
  have hs : sw sa A U U.heap := hSW.call hS (fun _ z => z) hW hU
  obtain ⟨-, -, -, -, -, -, g1, g2, ⟨-, -, n3, n4⟩, m1, m2, -, -⟩ := hs
  exact ⟨ea_is (P := fun w => w.before args2 U = true) h (fun y hy => va_Nw.use rfl (n3 y hy)) (fun q hq => va_Nw.use rfl (n4 q hq)) (zq_isRef g1) (zq_isRef g2) m1.say m2.say (h _ (in_c7 72 rfl rfl)), h _ (in_c7 63 rfl rfl), h _ (in_c7 64 rfl rfl), h _ (in_c1 39 rfl rfl)⟩
theorem eb_WF_ar {sa : Nat → Nat} {A : Nat → Prop} {args args2 : Array Value} {s : State} {H : Heap} {locs : List Loc} (hts : ∀ w ∈ lw_g, w.before args s = true) (hSW : sw sa A s s.heap) (hS : va_S A s.heap H locs) (U : State) (hU : U.heap = H) (hW : s.WarmedH U.vm) : (∀ a ∈ Bundle.ownAtoms0 "WaferForge" 153 "java/lang/ArithmeticException" ["java/lang/RuntimeException", "java/lang/Exception"], a.before args2 U = true) ∧ (Cond.classLink "WaferForge" 151 "java/lang/ArithmeticException").before args2 U = true ∧ (Cond.instantiable "java/lang/ArithmeticException" 6).before args2 U = true ∧ (Cond.initialized "java/lang/ArithmeticException").before args2 U = true := by
  have h := gw (args2 := args2) hts hW
  have hs : sw sa A U U.heap := hSW.call hS (fun _ z => z) hW hU
  obtain ⟨-, -, -, -, -, -, g1, g2, ⟨-, -, n3, n4⟩, m1, m2, -, -⟩ := hs
  exact ⟨ea_ar (P := fun w => w.before args2 U = true) h (fun y hy => va_Nw.use rfl (n3 y hy)) (fun q hq => va_Nw.use rfl (n4 q hq)) (zq_isRef g1) (zq_isRef g2) m1.say m2.say (h _ (in_c8 20 rfl rfl)), h _ (in_c8 11 rfl rfl), h _ (in_c8 12 rfl rfl), h _ (in_c1 40 rfl rfl)⟩
end q_33
section q_34
/-! a contract's end by its outcome -/
def tq_Q {S : Type} (post : Outcome → S → State → Prop) (B : S → State → Prop) (A : Nat → Prop) : Array Value → State → Outcome → State → Prop := fun _ st o t => (∃ u : S, post o u t ∧ B u t) ∧ va_F A st t
def tq_v {S : Type} (pr : S → Prop) (C : String) (pt : S → Prop) : Outcome → S → State → Prop := fun o u t => match o with | .returned v => v = none ∧ pr u | .threw x => pt u ∧ xo C x t t.heap
def tq_i {S : Type} (pr : Int32 → S → Prop) (C : String) (pt : S → Prop) : Outcome → S → State → Prop := fun o u t => match o with | .returned v => (∃ r : Int32, v = some (.int r) ∧ pr r u) | .threw x => pt u ∧ xo C x t t.heap
def tq_l {S : Type} (pr : Int64 → S → Prop) (C : String) (pt : S → Prop) : Outcome → S → State → Prop := fun o u t => match o with | .returned v => (∃ r : Int64, v = some (.long r) ∧ pr r u) | .threw x => pt u ∧ xo C x t t.heap
theorem vp_ext {D : va_G} {cl : List vw_C} {ws : va_W} {H H1 : Heap} (h : va_P D cl ws H) (hq : ∀ q, q < H.size → H1[q]? = H[q]?) : va_P D cl ws H1 := by
  intro k q hk
  have h1 := h k q hk
  unfold va_at at h1 ⊢
  split at h1
  · rename_i a e
    rw [hq q.1 (Array.getElem?_eq_some_iff.mp h1).1]
    exact h1
  · rename_i o e
    obtain ⟨r, g1, g2⟩ := h1
    refine ⟨r, g1, ?_⟩
    unfold t_OB at g2 ⊢
    obtain ⟨cell, c1, c2⟩ := g2
    exact ⟨cell, by rw [hq q.1 (Array.getElem?_eq_some_iff.mp c1).1]; exact c1, c2⟩
theorem vs_ext {A : Nat → Prop} {s t : State} {H : Heap} {locs : List Loc} (hS : va_S A s.heap H locs) (h1 : H.size ≤ t.heap.size) (hq : ∀ q, q < H.size → t.heap[q]? = H[q]?) : va_F A s t :=
  ⟨Nat.le_trans hS.1 h1, fun q h2 h3 => by rw [hq q (Nat.lt_of_lt_of_le h2 hS.1)]; exact hS.2.1 q h2 h3⟩
section TQ
variable {p : Program} {l : Launch} {e : Env} {R : Room} {s : State} {m : MethodId} {args : Array Value} {below : List Frame} {meth : Method} {c : Code} {H : Heap} {locs : List Loc} {cells slots mr sr mt st : Nat}
variable {A0 A1 : Nat → Prop} {H0 : Heap} {pc : Nat} {ls : Array Slot} {st0 rest : List Value} {a : Array Value} {Q : State → Prop} {free : Addr → Prop} {C : String}
theorem tq_core {S : Type} {post : Outcome → S → State → Prop} {B : S → State → Prop} {k : tz_K} (hr : tz_Run p l e R s m args below meth c H locs cells slots k (F0 m pc ls st0) rest (tq_Q post B A1 a) free) (hS : va_S A0 H0 H locs) (hA : ∀ q, q < H.size → A1 q → A0 q) (hf : ∀ q, free q → A0 q)
    (kr : ∀ (v : Option Value) (u : S) (t : State) (H1 : Heap) (locs1 : List Loc), t.heap = H1 → s.vm.Alike t.vm → post (.returned v) u t → B u t → H.size ≤ H1.size → (∀ q : Nat, q < H.size → ¬ A1 q → H1[q]? = H[q]?) → va_S A0 H0 H1 locs1 → W p l e R s m args below meth c H1 locs1 (cells + (k (.returned v)).1) (slots + (k (.returned v)).2) Q (F0 m (pc + 3) ls (v.toList ++ rest)))
    (kt : ∀ (x : Addr) (u : S) (t : State) (H1 : Heap) (locs1 : List Loc), t.heap = H1 → s.vm.Alike t.vm → post (.threw x) u t → B u t → H.size ≤ H1.size → (∀ q : Nat, q < H.size → ¬ A1 q → H1[q]? = H[q]?) → va_S A0 H0 H1 locs1 → tx_T p l e R s m args below meth c H1 locs1 (cells + (k (.threw x)).1) (slots + (k (.threw x)).2) Q (F0 m pc ls rest) x) :
    W p l e R s m args below meth c H locs cells slots Q (F0 m pc ls st0) := by
  intro T hT X
  obtain ⟨o, st₀, t, T', L, h0, X', hL, e1, e2, ⟨⟨u, hp, hb⟩, hz, hk⟩, st⟩ := hr T hT X
  rw [h0] at hz hk
  have hal : s.vm.Alike t.vm := by rw [← e2]; exact X'.warmed.alike
  have hz' : H.size ≤ T'.heap.size := by rw [e1]; exact hz
  have hk' : ∀ q : Nat, q < H.size → ¬ A1 q → T'.heap[q]? = H[q]? := fun q h1 h2 => by rw [e1]; exact hk q h1 h2
  have hS' : va_S A0 H0 T'.heap (locs ++ L) := ⟨Nat.le_trans hS.1 hz', fun q h1 h2 => by rw [hk' q (Nat.lt_of_lt_of_le h1 hS.1) (fun z => h2 (hA q (Nat.lt_of_lt_of_le h1 hS.1) z))]; exact hS.2.1 q h1 h2, fun q hq => by
      rcases List.mem_append.mp hq with h | h
      · exact hS.2.2 q h
      · exact hf _ (hL q h)⟩
  cases o with
  | returned v =>
    obtain ⟨t2, a1, b1⟩ := kr v u t T'.heap (locs ++ L) e1.symm hal hp hb hz' hk' hS' T' rfl X'
    exact ⟨t2, st t2 a1, b1⟩
  | threw x =>
    obtain ⟨t2, a1, b1⟩ := kt x u t T'.heap (locs ++ L) e1.symm hal hp hb hz' hk' hS' T' rfl X'
    exact ⟨t2, st t2 a1, b1⟩
variable {S : Type} {B : S → State → Prop} {pt : S → Prop}
theorem tq_callv {pr : S → Prop} (hr : tz_Run p l e R s m args below meth c H locs cells slots (tz_k mr sr mt st) (F0 m pc ls st0) rest (tq_Q (tq_v pr C pt) B A1 a) free) (hS : va_S A0 H0 H locs) (hA : ∀ q, q < H.size → A1 q → A0 q) (hf : ∀ q, free q → A0 q)
    (kr : ∀ (u : S) (t : State) (H1 : Heap) (locs1 : List Loc), t.heap = H1 → s.vm.Alike t.vm → pr u → B u t → H.size ≤ H1.size → (∀ q : Nat, q < H.size → ¬ A1 q → H1[q]? = H[q]?) → va_S A0 H0 H1 locs1 → W p l e R s m args below meth c H1 locs1 (cells + mr) (slots + sr) Q (F0 m (pc + 3) ls rest))
    (kt : ∀ (x : Addr) (u : S) (t : State) (H1 : Heap) (locs1 : List Loc), t.heap = H1 → s.vm.Alike t.vm → pt u → xo C x s H1 → B u t → H.size ≤ H1.size → (∀ q : Nat, q < H.size → ¬ A1 q → H1[q]? = H[q]?) → va_S A0 H0 H1 locs1 → tx_T p l e R s m args below meth c H1 locs1 (cells + mt) (slots + st) Q (F0 m pc ls rest) x) :
    W p l e R s m args below meth c H locs cells slots Q (F0 m pc ls st0) :=
  tq_core hr hS hA hf (fun v u t H1 locs1 h1 h2 h3 h4 h5 h6 h7 => by obtain ⟨rfl, h3⟩ := h3; exact kr u t H1 locs1 h1 h2 h3 h4 h5 h6 h7)
    (fun x u t H1 locs1 h1 h2 h3 h4 h5 h6 h7 => kt x u t H1 locs1 h1 h2 h3.1 (by rw [← h1]; exact h3.2.back h2) h4 h5 h6 h7)
theorem tq_calli {pr : Int32 → S → Prop} (hr : tz_Run p l e R s m args below meth c H locs cells slots (tz_k mr sr mt st) (F0 m pc ls st0) rest (tq_Q (tq_i pr C pt) B A1 a) free) (hS : va_S A0 H0 H locs) (hA : ∀ q, q < H.size → A1 q → A0 q) (hf : ∀ q, free q → A0 q)
    (kr : ∀ (r : Int32) (u : S) (t : State) (H1 : Heap) (locs1 : List Loc), t.heap = H1 → s.vm.Alike t.vm → pr r u → B u t → H.size ≤ H1.size → (∀ q : Nat, q < H.size → ¬ A1 q → H1[q]? = H[q]?) → va_S A0 H0 H1 locs1 → W p l e R s m args below meth c H1 locs1 (cells + mr) (slots + sr) Q (F0 m (pc + 3) ls (.int r :: rest)))
    (kt : ∀ (x : Addr) (u : S) (t : State) (H1 : Heap) (locs1 : List Loc), t.heap = H1 → s.vm.Alike t.vm → pt u → xo C x s H1 → B u t → H.size ≤ H1.size → (∀ q : Nat, q < H.size → ¬ A1 q → H1[q]? = H[q]?) → va_S A0 H0 H1 locs1 → tx_T p l e R s m args below meth c H1 locs1 (cells + mt) (slots + st) Q (F0 m pc ls rest) x) :
    W p l e R s m args below meth c H locs cells slots Q (F0 m pc ls st0) :=
  tq_core hr hS hA hf (fun v u t H1 locs1 h1 h2 h3 h4 h5 h6 h7 => by obtain ⟨r, rfl, h3⟩ := h3; exact kr r u t H1 locs1 h1 h2 h3 h4 h5 h6 h7)
    (fun x u t H1 locs1 h1 h2 h3 h4 h5 h6 h7 => kt x u t H1 locs1 h1 h2 h3.1 (by rw [← h1]; exact h3.2.back h2) h4 h5 h6 h7)
end TQ
end q_34
section q_35
/-! texts: length, charAt -/
def R_JS : String := "java/lang/String"
theorem kI_JS : Cond.initialized R_JS ∈ lw_g := in_c1 22 rfl rfl
def R_JT : String := "java/lang/StringLatin1"
theorem kI_JT : Cond.initialized R_JT ∈ lw_g := in_c1 23 rfl rfl
def R_JP : String := "jdk/internal/util/Preconditions"
theorem kI_JP : Cond.initialized R_JP ∈ lw_g := in_c1 24 rfl rfl
abbrev b_JS_coder : ByteArray := prog_33_method_152_code
def y_JS_coder : MethodName := ⟨R_JS, "coder", "()B"⟩
abbrev w_JS_coder : List Cond := .code y_JS_coder b_JS_coder 1 (Option.some .byte) :: lw_g
theorem kC_JS_coder : Cond.code y_JS_coder b_JS_coder 1 (Option.some .byte) ∈ lw_g := in_c4 93 rfl rfl
theorem d_JS_coder_0 : decode b_JS_coder 0 = .ok (.getstatic 38, 3) := bz_c178 (by decide +kernel)
theorem d_JS_coder_3 : decode b_JS_coder 3 = .ok (.ifCond .eq 10, 3) := bz_c153 (by decide +kernel)
theorem d_JS_coder_6 : decode b_JS_coder 6 = .ok (.aload_n 0, 1) := bz_c42 (by decide +kernel)
theorem d_JS_coder_7 : decode b_JS_coder 7 = .ok (.getfield 15, 3) := bz_c180 (by decide +kernel)
theorem d_JS_coder_10 : decode b_JS_coder 10 = .ok (.goto 4, 3) := bz_c167 (by decide +kernel)
theorem d_JS_coder_13 : decode b_JS_coder 13 = .ok (.iconst 1, 1) := bz_c4 (by decide +kernel)
theorem d_JS_coder_14 : decode b_JS_coder 14 = .ok (.ireturn, 1) := bz_c172 (by decide +kernel)
theorem kF_JS_38 : Cond.fieldLink R_JS 38 "java/lang/String" "COMPACT_STRINGS" "Z" ∈ lw_g := in_c4 94 rfl rfl
theorem kF_JS_15 : Cond.fieldLink R_JS 15 "java/lang/String" "coder" "B" ∈ lw_g := in_c10 212 rfl rfl
abbrev at_JS_coder (dC : Nat → ClassId) (dI : Nat → Nat → Nat)  (A : Nat → Prop) (u : Unit) (t : State) : Prop := match u with | _ => va_P (dC, dI) cls [] t.heap ∧ va_K (dC, dI) cls [] t ∧ va_D A []
set_option maxHeartbeats 4000000 in
set_option maxRecDepth 100000 in
theorem c_JS_coder (l : Launch) (dC : Nat → ClassId) (dI : Nat → Nat → Nat) (sz : Nat) (sa : Nat → Nat) (t v : Nat) (b : List Int32)       : Met l y_JS_coder w_JS_coder ({ frames := 0, cells := 0, slots := 0, locals := 0 }) (va_Pc [.ref t] (fun U => U.heap.size = sz ∧ va_P (dC, dI) cls [] U.heap ∧ va_K (dC, dI) cls [] U ∧ va_D (fun _ => True) [] ∧ sw sa (va_A [] sz) U U.heap ∧ sw_str t v b (va_A [] sz) U U.heap)) (va_Qi (fun (r : Int32) (u : Unit) => match u with | _ => (r = 0)) (at_JS_coder dC dI  (va_A [] sz)) (va_A [] sz)) 0 0 (va_A [] sz) := by
  refine Met.ofW (cc := b_JS_coder) (maxL := 1) (ret := (Option.some .byte)) (by decide) rfl ?_
  intro p e s m args below meth c s₁ B hml hv
  obtain ⟨rfl, hsz, hP, hK, hD0, hSW, hR0⟩ := hv
  have hx := B.exec
  have hb := B.bytes
  have hr := B.returns
  have hts0 := atoms_spec (ws := w_JS_coder) B.pre
  have hts : ∀ w ∈ lw_g, w.before _ s = true := fun w h => hts0 w (List.mem_cons_of_mem _ h)
  have hown : s.vm.findClass R_JS = some m.cls := findClass_of_methodNamed B.named
  have hlocks := B.notSynchronized
  clear hts0
  subst hsz
  have hD := hD0.self (sz := s.heap.size)
  generalize hAe : va_A [] s.heap.size = A at hD hSW hR0 ⊢
  have hA : ∀ q : Nat, s.heap.size ≤ q → A q := fun q h => by rw [← hAe]; exact Or.inr h
  clear hAe
  have hP : va_P (dC, dI) cls [] s.heap := hP
  have hl := lv_entry ([.ref t]) (n := 1) (Nat.le_of_ble_eq_true rfl)
  rw [lg_entry_eq]
  generalize (lg_sl ([.ref t]) ++ List.replicate (1 - (lg_sl ([.ref t])).length) Slot.unset).toArray = ls at hl ⊢
  have hl : lv_has ls 1 [(0, .ref t)] := hl
  have k0 : (0 : Int32).toInt = 0 := by decide
  refine w_gen (A := A) hP (fun H locs hP hS => ?_)
  have k1 : (1 : Int32).toInt = 1 := by decide
  refine va_gets (C := "java/lang/String") (n := "COMPACT_STRINGS") (d := "Z") (v := .int 1) hx hb hSW.2.2.2.2.2.2.2.2.2.2.2.1 hS hown (hts _ kF_JS_38) (fun _ h9 => h9) d_JS_coder_0 ?_
  refine lv_if_eq (tgt := 13) hx hb d_JS_coder_3 (by decide) (fun c3 => absurd (eqI c3) (by (first | (apply Int.le_antisymm <;> omega) | omega))) (fun c3 => ?_)
  have q3 := neI c3
  refine lv_aload_n hx hb d_JS_coder_6 rfl (lv_at hl 0 rfl) ?_
  refine vk_getf (v := .int 0) hx hb (hR0.2.1) hS hown (hts _ kF_JS_15) (fun _ h9 => h9) d_JS_coder_7 ?_
  refine lv_goto (tgt := 14) hx hb d_JS_coder_10 (by decide) ?_
  have hP9 := hP.sb (wq := []) [] rfl
  have hD9 := hD.sb (wq := []) [] (by decide) rfl
  exact W.zret (v := 0) hx hb hr (rfl) (fun t ht hW => ⟨⟨0, (), rfl, (rfl), va_P.he ht.symm hP9, va_K.moved hW.alike hK, hD9⟩, hS.F ht⟩) hS.2.2 d_JS_coder_14
abbrev b_JS_isLatin1 : ByteArray := prog_33_method_154_code
def y_JS_isLatin1 : MethodName := ⟨R_JS, "isLatin1", "()Z"⟩
abbrev w_JS_isLatin1 : List Cond := .code y_JS_isLatin1 b_JS_isLatin1 1 (Option.some .boolean) :: lw_g
theorem kC_JS_isLatin1 : Cond.code y_JS_isLatin1 b_JS_isLatin1 1 (Option.some .boolean) ∈ lw_g := in_c4 109 rfl rfl
theorem d_JS_isLatin1_0 : decode b_JS_isLatin1 0 = .ok (.getstatic 38, 3) := bz_c178 (by decide +kernel)
theorem d_JS_isLatin1_3 : decode b_JS_isLatin1 3 = .ok (.ifCond .eq 14, 3) := bz_c153 (by decide +kernel)
theorem d_JS_isLatin1_6 : decode b_JS_isLatin1 6 = .ok (.aload_n 0, 1) := bz_c42 (by decide +kernel)
theorem d_JS_isLatin1_7 : decode b_JS_isLatin1 7 = .ok (.getfield 15, 3) := bz_c180 (by decide +kernel)
theorem d_JS_isLatin1_10 : decode b_JS_isLatin1 10 = .ok (.ifCond .ne 7, 3) := bz_c154 (by decide +kernel)
theorem d_JS_isLatin1_13 : decode b_JS_isLatin1 13 = .ok (.iconst 1, 1) := bz_c4 (by decide +kernel)
theorem d_JS_isLatin1_14 : decode b_JS_isLatin1 14 = .ok (.goto 4, 3) := bz_c167 (by decide +kernel)
theorem d_JS_isLatin1_17 : decode b_JS_isLatin1 17 = .ok (.iconst 0, 1) := bz_c3 (by decide +kernel)
theorem d_JS_isLatin1_18 : decode b_JS_isLatin1 18 = .ok (.ireturn, 1) := bz_c172 (by decide +kernel)
abbrev at_JS_isLatin1 (dC : Nat → ClassId) (dI : Nat → Nat → Nat)  (A : Nat → Prop) (u : Unit) (t : State) : Prop := match u with | _ => va_P (dC, dI) cls [] t.heap ∧ va_K (dC, dI) cls [] t ∧ va_D A []
set_option maxHeartbeats 4000000 in
set_option maxRecDepth 100000 in
theorem c_JS_isLatin1 (l : Launch) (dC : Nat → ClassId) (dI : Nat → Nat → Nat) (sz : Nat) (sa : Nat → Nat) (t v : Nat) (b : List Int32)       : Met l y_JS_isLatin1 w_JS_isLatin1 ({ frames := 0, cells := 0, slots := 0, locals := 0 }) (va_Pc [.ref t] (fun U => U.heap.size = sz ∧ va_P (dC, dI) cls [] U.heap ∧ va_K (dC, dI) cls [] U ∧ va_D (fun _ => True) [] ∧ sw sa (va_A [] sz) U U.heap ∧ sw_str t v b (va_A [] sz) U U.heap)) (va_Qi (fun (r : Int32) (u : Unit) => match u with | _ => (r = 0 ∨ r = 1) ∧ (r = 1)) (at_JS_isLatin1 dC dI  (va_A [] sz)) (va_A [] sz)) 0 0 (va_A [] sz) := by
  refine Met.ofW (cc := b_JS_isLatin1) (maxL := 1) (ret := (Option.some .boolean)) (by decide) rfl ?_
  intro p e s m args below meth c s₁ B hml hv
  obtain ⟨rfl, hsz, hP, hK, hD0, hSW, hR0⟩ := hv
  have hx := B.exec
  have hb := B.bytes
  have hr := B.returns
  have hts0 := atoms_spec (ws := w_JS_isLatin1) B.pre
  have hts : ∀ w ∈ lw_g, w.before _ s = true := fun w h => hts0 w (List.mem_cons_of_mem _ h)
  have hown : s.vm.findClass R_JS = some m.cls := findClass_of_methodNamed B.named
  have hlocks := B.notSynchronized
  clear hts0
  subst hsz
  have hD := hD0.self (sz := s.heap.size)
  generalize hAe : va_A [] s.heap.size = A at hD hSW hR0 ⊢
  have hA : ∀ q : Nat, s.heap.size ≤ q → A q := fun q h => by rw [← hAe]; exact Or.inr h
  clear hAe
  have hP : va_P (dC, dI) cls [] s.heap := hP
  have hl := lv_entry ([.ref t]) (n := 1) (Nat.le_of_ble_eq_true rfl)
  rw [lg_entry_eq]
  generalize (lg_sl ([.ref t]) ++ List.replicate (1 - (lg_sl ([.ref t])).length) Slot.unset).toArray = ls at hl ⊢
  have hl : lv_has ls 1 [(0, .ref t)] := hl
  have k0 : (0 : Int32).toInt = 0 := by decide
  refine w_gen (A := A) hP (fun H locs hP hS => ?_)
  have k1 : (1 : Int32).toInt = 1 := by decide
  refine va_gets (C := "java/lang/String") (n := "COMPACT_STRINGS") (d := "Z") (v := .int 1) hx hb hSW.2.2.2.2.2.2.2.2.2.2.2.1 hS hown (hts _ kF_JS_38) (fun _ h9 => h9) d_JS_isLatin1_0 ?_
  refine lv_if_eq (tgt := 17) hx hb d_JS_isLatin1_3 (by decide) (fun c3 => absurd (eqI c3) (by (first | (apply Int.le_antisymm <;> omega) | omega))) (fun c3 => ?_)
  have q3 := neI c3
  refine lv_aload_n hx hb d_JS_isLatin1_6 rfl (lv_at hl 0 rfl) ?_
  refine vk_getf (v := .int 0) hx hb (hR0.2.1) hS hown (hts _ kF_JS_15) (fun _ h9 => h9) d_JS_isLatin1_7 ?_
  refine lv_if_ne (tgt := 17) hx hb d_JS_isLatin1_10 (by decide) (fun c10 => absurd (neI c10) (by (first | (apply Int.le_antisymm <;> omega) | omega))) (fun c10 => ?_)
  have q10 := eqI c10
  refine lv_iconst (v := 1) hx hb d_JS_isLatin1_13 (by decide) ?_
  refine lv_goto (tgt := 18) hx hb d_JS_isLatin1_14 (by decide) ?_
  have hP9 := hP.sb (wq := []) [] rfl
  have hD9 := hD.sb (wq := []) [] (by decide) rfl
  exact W.zret (v := 1) hx hb hr (zn01 (Or.inr rfl)) (fun t ht hW => ⟨⟨1, (), rfl, ⟨Or.inr rfl, rfl⟩, va_P.he ht.symm hP9, va_K.moved hW.alike hK, hD9⟩, hS.F ht⟩) hS.2.2 d_JS_isLatin1_18
abbrev b_JS_length : ByteArray := prog_33_method_54_code
def y_JS_length : MethodName := ⟨R_JS, "length", "()I"⟩
abbrev w_JS_length : List Cond := .code y_JS_length b_JS_length 1 (Option.some .int) :: lw_g
theorem kC_JS_length : Cond.code y_JS_length b_JS_length 1 (Option.some .int) ∈ lw_g := in_c4 89 rfl rfl
theorem d_JS_length_0 : decode b_JS_length 0 = .ok (.aload_n 0, 1) := bz_c42 (by decide +kernel)
theorem d_JS_length_1 : decode b_JS_length 1 = .ok (.getfield 9, 3) := bz_c180 (by decide +kernel)
theorem d_JS_length_4 : decode b_JS_length 4 = .ok (.arraylength, 1) := bz_c190 (by decide +kernel)
theorem d_JS_length_5 : decode b_JS_length 5 = .ok (.aload_n 0, 1) := bz_c42 (by decide +kernel)
theorem d_JS_length_6 : decode b_JS_length 6 = .ok (.invokevirtual 335, 3) := bz_c182 (by decide +kernel)
theorem d_JS_length_9 : decode b_JS_length 9 = .ok (.ishr, 1) := by decide +kernel
theorem d_JS_length_10 : decode b_JS_length 10 = .ok (.ireturn, 1) := bz_c172 (by decide +kernel)
theorem kM_JS_335 : Cond.methodLink R_JS 335 y_JS_coder ∈ lw_g := in_c4 90 rfl rfl
theorem kV_JS_coder : Cond.instanceMethod y_JS_coder ∈ lw_g := in_c4 91 rfl rfl
theorem kS_JS_coder : Cond.selects R_JS y_JS_coder y_JS_coder ∈ lw_g := in_c4 92 rfl rfl
theorem kF_JS_9 : Cond.fieldLink R_JS 9 "java/lang/String" "value" "[B" ∈ lw_g := in_c10 211 rfl rfl
abbrev at_JS_length (dC : Nat → ClassId) (dI : Nat → Nat → Nat)  (A : Nat → Prop) (u : Unit) (t : State) : Prop := match u with | _ => va_P (dC, dI) cls [] t.heap ∧ va_K (dC, dI) cls [] t ∧ va_D A []
set_option maxHeartbeats 4000000 in
set_option maxRecDepth 100000 in
theorem c_JS_length (l : Launch) (dC : Nat → ClassId) (dI : Nat → Nat → Nat) (sz : Nat) (sa : Nat → Nat) (t v : Nat) (b : List Int32)      (hbl : (b.length : Int) < 2147483648) : Met l y_JS_length w_JS_length ({ frames := 1, cells := 0, slots := 0, locals := 20 }) (va_Pc [.ref t] (fun U => U.heap.size = sz ∧ va_P (dC, dI) cls [] U.heap ∧ va_K (dC, dI) cls [] U ∧ va_D (fun _ => True) [] ∧ sw sa (va_A [] sz) U U.heap ∧ sw_str t v b (va_A [] sz) U U.heap)) (va_Qi (fun (r : Int32) (u : Unit) => match u with | _ => (r.toInt = b.length)) (at_JS_length dC dI  (va_A [] sz)) (va_A [] sz)) 0 0 (va_A [] sz) := by
  refine Met.ofW (cc := b_JS_length) (maxL := 1) (ret := (Option.some .int)) (by decide) rfl ?_
  intro p e s m args below meth c s₁ B hml hv
  obtain ⟨rfl, hsz, hP, hK, hD0, hSW, hR0⟩ := hv
  have hx := B.exec
  have hb := B.bytes
  have hr := B.returns
  have hts0 := atoms_spec (ws := w_JS_length) B.pre
  have hts : ∀ w ∈ lw_g, w.before _ s = true := fun w h => hts0 w (List.mem_cons_of_mem _ h)
  have hown : s.vm.findClass R_JS = some m.cls := findClass_of_methodNamed B.named
  have hlocks := B.notSynchronized
  clear hts0
  subst hsz
  have hD := hD0.self (sz := s.heap.size)
  generalize hAe : va_A [] s.heap.size = A at hD hSW hR0 ⊢
  have hA : ∀ q : Nat, s.heap.size ≤ q → A q := fun q h => by rw [← hAe]; exact Or.inr h
  clear hAe
  have hP : va_P (dC, dI) cls [] s.heap := hP
  have hl := lv_entry ([.ref t]) (n := 1) (Nat.le_of_ble_eq_true rfl)
  rw [lg_entry_eq]
  generalize (lg_sl ([.ref t]) ++ List.replicate (1 - (lg_sl ([.ref t])).length) Slot.unset).toArray = ls at hl ⊢
  have hl : lv_has ls 1 [(0, .ref t)] := hl
  have k0 : (0 : Int32).toInt = 0 := by decide
  refine w_gen (A := A) hP (fun H locs hP hS => ?_)
  refine lv_aload_n hx hb d_JS_length_0 rfl (lv_at hl 0 rfl) ?_
  refine vk_getf (v := .ref v) hx hb (hR0.2.2.1) hS hown (hts _ kF_JS_9) (fun _ h9 => h9) d_JS_length_1 ?_
  refine va_tlen hx hb (hR0.2.2.2) hS rfl d_JS_length_4 ?_
  refine lv_topi (fun x1 ex1 => ?_)
  have tx1 : x1.toInt = b.length := by rw [ex1]; exact i32_len (by (first | (apply Int.le_antisymm <;> omega) | omega))
  refine lv_aload_n hx hb d_JS_length_5 rfl (lv_at hl 0 rfl) ?_
  have hPc := hP.sb (wq := []) [] rfl
  have hDc := hD.sb (wq := []) [] (by decide) rfl
  have hKc := hK.sb (tyq := []) [] rfl
  have hFc := va_free (wc := []) hD hS hA [] rfl
  refine va_calli (va_runV (As := []) (rest := [.int x1]) ⟨hx, hb, hml, hown, hts⟩ (c_JS_coder l dC dI H.size sa t v b ) (cwV 0 hts (gV kM_JS_335 kV_JS_coder kS_JS_coder kI_JS kC_JS_coder) rfl rfl rfl (by decide +kernel) ⟨Nat.le_of_ble_eq_true rfl, Nat.le_of_ble_eq_true rfl⟩) ⟨fun a U g mk z => by obtain ⟨z0, z1, zP, zK, zD, zS, zR0⟩ := z; exact ⟨z0, z1, zP, va_K.moved (u := U) (U := U.calling g mk a) (Vm.Alike.refl U.vm) zK, zD, sw.same (u := U) (U := U.calling g mk a) rfl zS, zR0.moved (u := U) (U := U.calling g mk a) (Vm.Alike.refl U.vm)⟩, so_recv (hR0.1) hS, fun U hU hW => ⟨rfl, by rw [hU], va_P.he hU.symm hPc, va_K.moved hW.alike hKc, hDc.weaken (fun _ _ _ _ => trivial), hSW.call hS hFc hW hU, (hR0).call hS hFc hW hU⟩⟩ rfl rfl hl.1 rfl (lv_room (Nat.le_of_ble_eq_true rfl)) d_JS_length_6 ⟨(Nat.zero_le _), (Nat.zero_le _)⟩) hS (fun q _ h => hFc q h) hFc (fun r2 u t H1 locs ht hvm hw hB hz1 hk1 hS => ?_)
  try dsimp only at hw
  have xr2 := hw
  try clear hw
  obtain ⟨hP1, hK1, hD1⟩ := hB
  replace hP1 := va_P.he ht hP1
  obtain ⟨hP, hD⟩ := va_join (wr := []) (w1 := []) hP hD [] [] rfl rfl (by decide) (by decide) hk1 hFc hP1 hD1
  clear hPc hDc hKc hFc hz1 hk1 hP1 hK1 hD1
  rename Heap => H
  have hP : va_P (dC, dI) cls [] H := hP
  have hD : va_D A [] := hD
  refine lv_ishr hx hb d_JS_length_9 ?_
  refine lv_topi (fun x3 ex3 => ?_)
  have tx3 : x3.toInt = b.length := by rw [ex3, xr2, sb_shr0]; (first | (apply Int.le_antisymm <;> omega) | omega)
  have hP9 := hP.sb (wq := []) [] rfl
  have hD9 := hD.sb (wq := []) [] (by decide) rfl
  exact W.iret (v := x3) hx hb hr (fun t ht hW => ⟨⟨x3, (), rfl, (by (try dsimp only) <;> (first | (apply Int.le_antisymm <;> omega) | omega)), va_P.he ht.symm hP9, va_K.moved hW.alike hK, hD9⟩, hS.F ht⟩) hS.2.2 d_JS_length_10
abbrev b_JP_checkIndex : ByteArray := prog_42_method_11_code
def y_JP_checkIndex : MethodName := ⟨R_JP, "checkIndex", "(IILjava/util/function/BiFunction;)I"⟩
abbrev w_JP_checkIndex : List Cond := .code y_JP_checkIndex b_JP_checkIndex 3 (Option.some .int) :: lw_g
theorem kC_JP_checkIndex : Cond.code y_JP_checkIndex b_JP_checkIndex 3 (Option.some .int) ∈ lw_g := in_c4 120 rfl rfl
theorem d_JP_checkIndex_0 : decode b_JP_checkIndex 0 = .ok (.iload_n 0, 1) := bz_c26 (by decide +kernel)
theorem d_JP_checkIndex_1 : decode b_JP_checkIndex 1 = .ok (.ifCond .lt 8, 3) := bz_c155 (by decide +kernel)
theorem d_JP_checkIndex_4 : decode b_JP_checkIndex 4 = .ok (.iload_n 0, 1) := bz_c26 (by decide +kernel)
theorem d_JP_checkIndex_5 : decode b_JP_checkIndex 5 = .ok (.iload_n 1, 1) := bz_c27 (by decide +kernel)
theorem d_JP_checkIndex_6 : decode b_JP_checkIndex 6 = .ok (.if_icmp .lt 10, 3) := bz_c161 (by decide +kernel)
theorem d_JP_checkIndex_9 : decode b_JP_checkIndex 9 = .ok (.aload_n 2, 1) := bz_c44 (by decide +kernel)
theorem d_JP_checkIndex_10 : decode b_JP_checkIndex 10 = .ok (.iload_n 0, 1) := bz_c26 (by decide +kernel)
theorem d_JP_checkIndex_11 : decode b_JP_checkIndex 11 = .ok (.iload_n 1, 1) := bz_c27 (by decide +kernel)
theorem d_JP_checkIndex_12 : decode b_JP_checkIndex 12 = .ok (.invokestatic 95, 3) := bz_c184 (by decide +kernel)
theorem d_JP_checkIndex_15 : decode b_JP_checkIndex 15 = .ok (.athrow, 1) := bz_c191 (by decide +kernel)
theorem d_JP_checkIndex_16 : decode b_JP_checkIndex 16 = .ok (.iload_n 0, 1) := bz_c26 (by decide +kernel)
theorem d_JP_checkIndex_17 : decode b_JP_checkIndex 17 = .ok (.ireturn, 1) := bz_c172 (by decide +kernel)
abbrev at_JP_checkIndex (dC : Nat → ClassId) (dI : Nat → Nat → Nat)  (A : Nat → Prop) (u : Unit) (t : State) : Prop := match u with | _ => va_P (dC, dI) cls [] t.heap ∧ va_K (dC, dI) cls [] t ∧ va_D A []
set_option maxHeartbeats 4000000 in
set_option maxRecDepth 100000 in
theorem c_JP_checkIndex (l : Launch) (dC : Nat → ClassId) (dI : Nat → Nat → Nat) (sz : Nat)    (p0 : Int32) (p1 : Int32) (pa : Nat)  (hi : 0 ≤ p0.toInt ∧ p0.toInt < p1.toInt) : Met l y_JP_checkIndex w_JP_checkIndex ({ frames := 0, cells := 0, slots := 0, locals := 0 }) (va_Pc [.int p0, .int p1, .ref pa] (fun U => U.heap.size = sz ∧ va_P (dC, dI) cls [] U.heap ∧ va_K (dC, dI) cls [] U ∧ va_D (fun _ => True) [])) (va_Qi (fun (r : Int32) (u : Unit) => match u with | _ => (r = p0)) (at_JP_checkIndex dC dI  (va_A [] sz)) (va_A [] sz)) 0 0 (va_A [] sz) := by
  refine Met.ofW (cc := b_JP_checkIndex) (maxL := 3) (ret := (Option.some .int)) (by decide) rfl ?_
  intro p e s m args below meth c s₁ B hml hv
  obtain ⟨rfl, hsz, hP, hK, hD0⟩ := hv
  have hx := B.exec
  have hb := B.bytes
  have hr := B.returns
  have hts0 := atoms_spec (ws := w_JP_checkIndex) B.pre
  have hts : ∀ w ∈ lw_g, w.before _ s = true := fun w h => hts0 w (List.mem_cons_of_mem _ h)
  have hown : s.vm.findClass R_JP = some m.cls := findClass_of_methodNamed B.named
  have hlocks := B.notSynchronized
  clear hts0
  subst hsz
  have hD := hD0.self (sz := s.heap.size)
  generalize hAe : va_A [] s.heap.size = A at hD ⊢
  have hA : ∀ q : Nat, s.heap.size ≤ q → A q := fun q h => by rw [← hAe]; exact Or.inr h
  clear hAe
  have hP : va_P (dC, dI) cls [] s.heap := hP
  have hl := lv_entry ([.int p0, .int p1, .ref pa]) (n := 3) (Nat.le_of_ble_eq_true rfl)
  rw [lg_entry_eq]
  generalize (lg_sl ([.int p0, .int p1, .ref pa]) ++ List.replicate (3 - (lg_sl ([.int p0, .int p1, .ref pa])).length) Slot.unset).toArray = ls at hl ⊢
  have hl : lv_has ls 3 [(0, .int p0), (1, .int p1), (2, .ref pa)] := hl
  have k0 : (0 : Int32).toInt = 0 := by decide
  refine w_gen (A := A) hP (fun H locs hP hS => ?_)
  have lo_p0 := i32_lo p0
  have hi_p0 := i32_hi p0
  have lo_p1 := i32_lo p1
  have hi_p1 := i32_hi p1
  refine lv_iload_n hx hb d_JP_checkIndex_0 rfl (lv_at hl 0 rfl) ?_
  refine lv_if_lt (tgt := 9) hx hb d_JP_checkIndex_1 (by decide) (fun c1 => absurd (ltI c1) (by (first | (apply Int.le_antisymm <;> omega) | omega))) (fun c1 => ?_)
  have q1 := nltI c1
  refine lv_iload_n hx hb d_JP_checkIndex_4 rfl (lv_at hl 0 rfl) ?_
  refine lv_iload_n hx hb d_JP_checkIndex_5 rfl (lv_at hl 1 rfl) ?_
  refine lv_icmp_lt (tgt := 16) hx hb d_JP_checkIndex_6 (by decide) (fun c6 => ?_) (fun c6 => absurd (nltI c6) (by (first | (apply Int.le_antisymm <;> omega) | omega)))
  have q6 := ltI c6
  refine lv_iload_n hx hb d_JP_checkIndex_16 rfl (lv_at hl 0 rfl) ?_
  have hP9 := hP.sb (wq := []) [] rfl
  have hD9 := hD.sb (wq := []) [] (by decide) rfl
  exact W.iret (v := p0) hx hb hr (fun t ht hW => ⟨⟨p0, (), rfl, (rfl), va_P.he ht.symm hP9, va_K.moved hW.alike hK, hD9⟩, hS.F ht⟩) hS.2.2 d_JP_checkIndex_17
abbrev at_JP_checkIndexn (dC : Nat → ClassId) (dI : Nat → Nat → Nat)  (A : Nat → Prop) (u : Unit) (t : State) : Prop := match u with | _ => va_P (dC, dI) cls [] t.heap ∧ va_K (dC, dI) cls [] t ∧ va_D A []
set_option maxHeartbeats 4000000 in
set_option maxRecDepth 100000 in
theorem c_JP_checkIndexn (l : Launch) (dC : Nat → ClassId) (dI : Nat → Nat → Nat) (sz : Nat)    (p0 : Int32) (p1 : Int32)  (hi : 0 ≤ p0.toInt ∧ p0.toInt < p1.toInt) : Met l y_JP_checkIndex w_JP_checkIndex ({ frames := 0, cells := 0, slots := 0, locals := 0 }) (va_Pc [.int p0, .int p1, .null] (fun U => U.heap.size = sz ∧ va_P (dC, dI) cls [] U.heap ∧ va_K (dC, dI) cls [] U ∧ va_D (fun _ => True) [])) (va_Qi (fun (r : Int32) (u : Unit) => match u with | _ => (r = p0)) (at_JP_checkIndexn dC dI  (va_A [] sz)) (va_A [] sz)) 0 0 (va_A [] sz) := by
  refine Met.ofW (cc := b_JP_checkIndex) (maxL := 3) (ret := (Option.some .int)) (by decide) rfl ?_
  intro p e s m args below meth c s₁ B hml hv
  obtain ⟨rfl, hsz, hP, hK, hD0⟩ := hv
  have hx := B.exec
  have hb := B.bytes
  have hr := B.returns
  have hts0 := atoms_spec (ws := w_JP_checkIndex) B.pre
  have hts : ∀ w ∈ lw_g, w.before _ s = true := fun w h => hts0 w (List.mem_cons_of_mem _ h)
  have hown : s.vm.findClass R_JP = some m.cls := findClass_of_methodNamed B.named
  have hlocks := B.notSynchronized
  clear hts0
  subst hsz
  have hD := hD0.self (sz := s.heap.size)
  generalize hAe : va_A [] s.heap.size = A at hD ⊢
  have hA : ∀ q : Nat, s.heap.size ≤ q → A q := fun q h => by rw [← hAe]; exact Or.inr h
  clear hAe
  have hP : va_P (dC, dI) cls [] s.heap := hP
  have hl := lv_entry ([.int p0, .int p1, .null]) (n := 3) (Nat.le_of_ble_eq_true rfl)
  rw [lg_entry_eq]
  generalize (lg_sl ([.int p0, .int p1, .null]) ++ List.replicate (3 - (lg_sl ([.int p0, .int p1, .null])).length) Slot.unset).toArray = ls at hl ⊢
  have hl : lv_has ls 3 [(0, .int p0), (1, .int p1), (2, .null)] := hl
  have k0 : (0 : Int32).toInt = 0 := by decide
  refine w_gen (A := A) hP (fun H locs hP hS => ?_)
  have lo_p0 := i32_lo p0
  have hi_p0 := i32_hi p0
  have lo_p1 := i32_lo p1
  have hi_p1 := i32_hi p1
  refine lv_iload_n hx hb d_JP_checkIndex_0 rfl (lv_at hl 0 rfl) ?_
  refine lv_if_lt (tgt := 9) hx hb d_JP_checkIndex_1 (by decide) (fun c1 => absurd (ltI c1) (by (first | (apply Int.le_antisymm <;> omega) | omega))) (fun c1 => ?_)
  have q1 := nltI c1
  refine lv_iload_n hx hb d_JP_checkIndex_4 rfl (lv_at hl 0 rfl) ?_
  refine lv_iload_n hx hb d_JP_checkIndex_5 rfl (lv_at hl 1 rfl) ?_
  refine lv_icmp_lt (tgt := 16) hx hb d_JP_checkIndex_6 (by decide) (fun c6 => ?_) (fun c6 => absurd (nltI c6) (by (first | (apply Int.le_antisymm <;> omega) | omega)))
  have q6 := ltI c6
  refine lv_iload_n hx hb d_JP_checkIndex_16 rfl (lv_at hl 0 rfl) ?_
  have hP9 := hP.sb (wq := []) [] rfl
  have hD9 := hD.sb (wq := []) [] (by decide) rfl
  exact W.iret (v := p0) hx hb hr (fun t ht hW => ⟨⟨p0, (), rfl, (rfl), va_P.he ht.symm hP9, va_K.moved hW.alike hK, hD9⟩, hS.F ht⟩) hS.2.2 d_JP_checkIndex_17
abbrev b_JS_checkIndex : ByteArray := prog_33_method_155_code
def y_JS_checkIndex : MethodName := ⟨R_JS, "checkIndex", "(II)V"⟩
abbrev w_JS_checkIndex : List Cond := .code y_JS_checkIndex b_JS_checkIndex 2 none :: lw_g
theorem kC_JS_checkIndex : Cond.code y_JS_checkIndex b_JS_checkIndex 2 none ∈ lw_g := in_c4 115 rfl rfl
theorem d_JS_checkIndex_0 : decode b_JS_checkIndex 0 = .ok (.iload_n 0, 1) := bz_c26 (by decide +kernel)
theorem d_JS_checkIndex_1 : decode b_JS_checkIndex 1 = .ok (.iload_n 1, 1) := bz_c27 (by decide +kernel)
theorem d_JS_checkIndex_2 : decode b_JS_checkIndex 2 = .ok (.getstatic 1053, 3) := bz_c178 (by decide +kernel)
theorem d_JS_checkIndex_5 : decode b_JS_checkIndex 5 = .ok (.invokestatic 1059, 3) := bz_c184 (by decide +kernel)
theorem d_JS_checkIndex_8 : decode b_JS_checkIndex 8 = .ok (.pop, 1) := bz_c87 (by decide +kernel)
theorem d_JS_checkIndex_9 : decode b_JS_checkIndex 9 = .ok (.return_, 1) := bz_c177 (by decide +kernel)
theorem kM_JS_1059 : Cond.methodLink R_JS 1059 y_JP_checkIndex ∈ lw_g := in_c4 118 rfl rfl
theorem kT_JP_checkIndex : Cond.static y_JP_checkIndex ∈ lw_g := in_c4 119 rfl rfl
theorem kF_JS_1053 : Cond.fieldLink R_JS 1053 "jdk/internal/util/Preconditions" "SIOOBE_FORMATTER" "Ljava/util/function/BiFunction;" ∈ lw_g := in_c4 116 rfl rfl
abbrev at_JS_checkIndex (dC : Nat → ClassId) (dI : Nat → Nat → Nat)  (A : Nat → Prop) (u : Unit) (t : State) : Prop := match u with | _ => va_P (dC, dI) cls [] t.heap ∧ va_K (dC, dI) cls [] t ∧ va_D A []
set_option maxHeartbeats 4000000 in
set_option maxRecDepth 100000 in
theorem c_JS_checkIndex (l : Launch) (dC : Nat → ClassId) (dI : Nat → Nat → Nat) (sz : Nat) (sa : Nat → Nat)    (p0 : Int32) (p1 : Int32)  (hi : 0 ≤ p0.toInt ∧ p0.toInt < p1.toInt) : Met l y_JS_checkIndex w_JS_checkIndex ({ frames := 1, cells := 0, slots := 0, locals := 22 }) (va_Pc [.int p0, .int p1] (fun U => U.heap.size = sz ∧ va_P (dC, dI) cls [] U.heap ∧ va_K (dC, dI) cls [] U ∧ va_D (fun _ => True) [] ∧ sw sa (va_A [] sz) U U.heap)) (va_Qv (fun (u : Unit) => match u with | _ => True) (at_JS_checkIndex dC dI  (va_A [] sz)) (va_A [] sz)) 0 0 (va_A [] sz) := by
  refine Met.ofW (cc := b_JS_checkIndex) (maxL := 2) (ret := none) (by decide) rfl ?_
  intro p e s m args below meth c s₁ B hml hv
  obtain ⟨rfl, hsz, hP, hK, hD0, hSW⟩ := hv
  have hx := B.exec
  have hb := B.bytes
  have hr := B.returns
  have hts0 := atoms_spec (ws := w_JS_checkIndex) B.pre
  have hts : ∀ w ∈ lw_g, w.before _ s = true := fun w h => hts0 w (List.mem_cons_of_mem _ h)
  have hown : s.vm.findClass R_JS = some m.cls := findClass_of_methodNamed B.named
  have hlocks := B.notSynchronized
  clear hts0
  subst hsz
  have hD := hD0.self (sz := s.heap.size)
  generalize hAe : va_A [] s.heap.size = A at hD hSW ⊢
  have hA : ∀ q : Nat, s.heap.size ≤ q → A q := fun q h => by rw [← hAe]; exact Or.inr h
  clear hAe
  have hP : va_P (dC, dI) cls [] s.heap := hP
  have hl := lv_entry ([.int p0, .int p1]) (n := 2) (Nat.le_of_ble_eq_true rfl)
  rw [lg_entry_eq]
  generalize (lg_sl ([.int p0, .int p1]) ++ List.replicate (2 - (lg_sl ([.int p0, .int p1])).length) Slot.unset).toArray = ls at hl ⊢
  have hl : lv_has ls 2 [(0, .int p0), (1, .int p1)] := hl
  have k0 : (0 : Int32).toInt = 0 := by decide
  refine w_gen (A := A) hP (fun H locs hP hS => ?_)
  have lo_p0 := i32_lo p0
  have hi_p0 := i32_hi p0
  have lo_p1 := i32_lo p1
  have hi_p1 := i32_hi p1
  refine lv_iload_n hx hb d_JS_checkIndex_0 rfl (lv_at hl 0 rfl) ?_
  refine lv_iload_n hx hb d_JS_checkIndex_1 rfl (lv_at hl 1 rfl) ?_
  refine w_zq hSW.2.2.2.2.2.2.2.2.2.2.2.2 (fun hZ9 => ?_) (fun t9 hZ9 => ?_)
  · refine va_gets (C := "jdk/internal/util/Preconditions") (n := "SIOOBE_FORMATTER") (d := "Ljava/util/function/BiFunction;") (v := .null) hx hb hZ9 hS hown (hts _ kF_JS_1053) (fun _ h9 => h9) d_JS_checkIndex_2 ?_
    have hPc := hP.sb (wq := []) [] rfl
    have hDc := hD.sb (wq := []) [] (by decide) rfl
    have hKc := hK.sb (tyq := []) [] rfl
    have hFc := va_free (wc := []) hD hS hA [] rfl
    refine va_calli (va_runS (As := [.int p0, .int p1, .null]) (rest := []) ⟨hx, hb, hml, hown, hts⟩ (c_JP_checkIndexn l dC dI H.size p0 p1 (by (try dsimp only) <;> (first | (apply Int.le_antisymm <;> omega) | omega))) ⟨callB_of 3 hts (gW kC_JP_checkIndex) rfl rfl rfl (hts _ kI_JP) (hts _ kM_JS_1059) (by decide +kernel) ⟨Nat.le_of_ble_eq_true rfl, Nat.le_of_ble_eq_true rfl⟩, hts _ kT_JP_checkIndex⟩ ⟨fun a U g mk z => by obtain ⟨z0, z1, zP, zK, zD⟩ := z; exact ⟨z0, z1, zP, va_K.moved (u := U) (U := U.calling g mk a) (Vm.Alike.refl U.vm) zK, zD⟩, fun U hU hW => ⟨rfl, by rw [hU], va_P.he hU.symm hPc, va_K.moved hW.alike hKc, hDc.weaken (fun _ _ _ _ => trivial)⟩⟩ rfl rfl hl.1 rfl (lv_room (Nat.le_of_ble_eq_true rfl)) d_JS_checkIndex_5 ⟨(Nat.zero_le _), (Nat.zero_le _)⟩) hS (fun q _ h => hFc q h) hFc (fun r1 u t H1 locs ht hvm hw hB hz1 hk1 hS => ?_)
    try dsimp only at hw
    have xr1 := hw
    try clear hw
    obtain ⟨hP1, hK1, hD1⟩ := hB
    replace hP1 := va_P.he ht hP1
    obtain ⟨hP, hD⟩ := va_join (wr := []) (w1 := []) hP hD [] [] rfl rfl (by decide) (by decide) hk1 hFc hP1 hD1
    clear hPc hDc hKc hFc hz1 hk1 hP1 hK1 hD1
    rename Heap => H
    have hP : va_P (dC, dI) cls [] H := hP
    have hD : va_D A [] := hD
    refine lv_pop hx hb d_JS_checkIndex_8 rfl ?_
    have hP9 := hP.sb (wq := []) [] rfl
    have hD9 := hD.sb (wq := []) [] (by decide) rfl
    exact W.vret hx hb hr (fun t ht hW => ⟨⟨(), rfl, ⟨⟩, va_P.he ht.symm hP9, va_K.moved hW.alike hK, hD9⟩, hS.F ht⟩) hS.2.2 d_JS_checkIndex_9
  · refine va_gets (C := "jdk/internal/util/Preconditions") (n := "SIOOBE_FORMATTER") (d := "Ljava/util/function/BiFunction;") (v := .ref t9) hx hb hZ9 hS hown (hts _ kF_JS_1053) (fun _ h9 => h9) d_JS_checkIndex_2 ?_
    have hPc := hP.sb (wq := []) [] rfl
    have hDc := hD.sb (wq := []) [] (by decide) rfl
    have hKc := hK.sb (tyq := []) [] rfl
    have hFc := va_free (wc := []) hD hS hA [] rfl
    refine va_calli (va_runS (As := [.int p0, .int p1, .ref t9]) (rest := []) ⟨hx, hb, hml, hown, hts⟩ (c_JP_checkIndex l dC dI H.size p0 p1 t9 (by (try dsimp only) <;> (first | (apply Int.le_antisymm <;> omega) | omega))) ⟨callB_of 3 hts (gW kC_JP_checkIndex) rfl rfl rfl (hts _ kI_JP) (hts _ kM_JS_1059) (by decide +kernel) ⟨Nat.le_of_ble_eq_true rfl, Nat.le_of_ble_eq_true rfl⟩, hts _ kT_JP_checkIndex⟩ ⟨fun a U g mk z => by obtain ⟨z0, z1, zP, zK, zD⟩ := z; exact ⟨z0, z1, zP, va_K.moved (u := U) (U := U.calling g mk a) (Vm.Alike.refl U.vm) zK, zD⟩, fun U hU hW => ⟨rfl, by rw [hU], va_P.he hU.symm hPc, va_K.moved hW.alike hKc, hDc.weaken (fun _ _ _ _ => trivial)⟩⟩ rfl rfl hl.1 rfl (lv_room (Nat.le_of_ble_eq_true rfl)) d_JS_checkIndex_5 ⟨(Nat.zero_le _), (Nat.zero_le _)⟩) hS (fun q _ h => hFc q h) hFc (fun r2 u t H1 locs ht hvm hw hB hz1 hk1 hS => ?_)
    try dsimp only at hw
    have xr2 := hw
    try clear hw
    obtain ⟨hP1, hK1, hD1⟩ := hB
    replace hP1 := va_P.he ht hP1
    obtain ⟨hP, hD⟩ := va_join (wr := []) (w1 := []) hP hD [] [] rfl rfl (by decide) (by decide) hk1 hFc hP1 hD1
    clear hPc hDc hKc hFc hz1 hk1 hP1 hK1 hD1
    rename Heap => H
    have hP : va_P (dC, dI) cls [] H := hP
    have hD : va_D A [] := hD
    refine lv_pop hx hb d_JS_checkIndex_8 rfl ?_
    have hP9 := hP.sb (wq := []) [] rfl
    have hD9 := hD.sb (wq := []) [] (by decide) rfl
    exact W.vret hx hb hr (fun t ht hW => ⟨⟨(), rfl, ⟨⟩, va_P.he ht.symm hP9, va_K.moved hW.alike hK, hD9⟩, hS.F ht⟩) hS.2.2 d_JS_checkIndex_9
abbrev b_JT_charAt : ByteArray := prog_35_method_2_code
def y_JT_charAt : MethodName := ⟨R_JT, "charAt", "([BI)C"⟩
abbrev w_JT_charAt : List Cond := .code y_JT_charAt b_JT_charAt 2 (Option.some .char) :: lw_g
theorem kC_JT_charAt : Cond.code y_JT_charAt b_JT_charAt 2 (Option.some .char) ∈ lw_g := in_c4 112 rfl rfl
theorem d_JT_charAt_0 : decode b_JT_charAt 0 = .ok (.iload_n 1, 1) := bz_c27 (by decide +kernel)
theorem d_JT_charAt_1 : decode b_JT_charAt 1 = .ok (.aload_n 0, 1) := bz_c42 (by decide +kernel)
theorem d_JT_charAt_2 : decode b_JT_charAt 2 = .ok (.arraylength, 1) := bz_c190 (by decide +kernel)
theorem d_JT_charAt_3 : decode b_JT_charAt 3 = .ok (.invokestatic 9, 3) := bz_c184 (by decide +kernel)
theorem d_JT_charAt_6 : decode b_JT_charAt 6 = .ok (.aload_n 0, 1) := bz_c42 (by decide +kernel)
theorem d_JT_charAt_7 : decode b_JT_charAt 7 = .ok (.iload_n 1, 1) := bz_c27 (by decide +kernel)
theorem d_JT_charAt_8 : decode b_JT_charAt 8 = .ok (.baload, 1) := bz_c51 (by decide +kernel)
theorem d_JT_charAt_9 : decode b_JT_charAt 9 = .ok (.sipush 255, 3) := bz_c17 (by decide +kernel)
theorem d_JT_charAt_12 : decode b_JT_charAt 12 = .ok (.iand, 1) := bz_c126 (by decide +kernel)
theorem d_JT_charAt_13 : decode b_JT_charAt 13 = .ok (.i2c, 1) := by decide +kernel
theorem d_JT_charAt_14 : decode b_JT_charAt 14 = .ok (.ireturn, 1) := bz_c172 (by decide +kernel)
theorem kM_JT_9 : Cond.methodLink R_JT 9 y_JS_checkIndex ∈ lw_g := in_c4 113 rfl rfl
theorem kT_JS_checkIndex : Cond.static y_JS_checkIndex ∈ lw_g := in_c4 114 rfl rfl
abbrev at_JT_charAt (dC : Nat → ClassId) (dI : Nat → Nat → Nat)  (A : Nat → Prop) (u : Unit) (t : State) : Prop := match u with | _ => va_P (dC, dI) cls [] t.heap ∧ va_K (dC, dI) cls [] t ∧ va_D A []
set_option maxHeartbeats 4000000 in
set_option maxRecDepth 100000 in
theorem c_JT_charAt (l : Launch) (dC : Nat → ClassId) (dI : Nat → Nat → Nat) (sz : Nat) (sa : Nat → Nat) (v : Nat) (b : List Int32)    (p0 : Int32)  (hbl : (b.length : Int) < 2147483648) (hi : 0 ≤ p0.toInt ∧ p0.toInt < b.length) : Met l y_JT_charAt w_JT_charAt ({ frames := 2, cells := 0, slots := 0, locals := 43 }) (va_Pc [.ref v, .int p0] (fun U => U.heap.size = sz ∧ va_P (dC, dI) cls [] U.heap ∧ va_K (dC, dI) cls [] U ∧ va_D (fun _ => True) [] ∧ sw sa (va_A [] sz) U U.heap ∧ va_T .byte v b.length (fun j => .int (b.getD j 0)) (va_A [] sz) U U.heap)) (va_Qi (fun (r : Int32) (u : Unit) => match u with | _ => (r = (b.getD p0.toNatClampNeg 0) &&& 255)) (at_JT_charAt dC dI  (va_A [] sz)) (va_A [] sz)) 0 0 (va_A [] sz) := by
  refine Met.ofW (cc := b_JT_charAt) (maxL := 2) (ret := (Option.some .char)) (by decide) rfl ?_
  intro p e s m args below meth c s₁ B hml hv
  obtain ⟨rfl, hsz, hP, hK, hD0, hSW, hV0⟩ := hv
  have hx := B.exec
  have hb := B.bytes
  have hr := B.returns
  have hts0 := atoms_spec (ws := w_JT_charAt) B.pre
  have hts : ∀ w ∈ lw_g, w.before _ s = true := fun w h => hts0 w (List.mem_cons_of_mem _ h)
  have hown : s.vm.findClass R_JT = some m.cls := findClass_of_methodNamed B.named
  have hlocks := B.notSynchronized
  clear hts0
  subst hsz
  have hD := hD0.self (sz := s.heap.size)
  generalize hAe : va_A [] s.heap.size = A at hD hSW hV0 ⊢
  have hA : ∀ q : Nat, s.heap.size ≤ q → A q := fun q h => by rw [← hAe]; exact Or.inr h
  clear hAe
  have hP : va_P (dC, dI) cls [] s.heap := hP
  have hl := lv_entry ([.ref v, .int p0]) (n := 2) (Nat.le_of_ble_eq_true rfl)
  rw [lg_entry_eq]
  generalize (lg_sl ([.ref v, .int p0]) ++ List.replicate (2 - (lg_sl ([.ref v, .int p0])).length) Slot.unset).toArray = ls at hl ⊢
  have hl : lv_has ls 2 [(0, .ref v), (1, .int p0)] := hl
  have k0 : (0 : Int32).toInt = 0 := by decide
  refine w_gen (A := A) hP (fun H locs hP hS => ?_)
  have k255 : (255 : Int32).toInt = 255 := by decide
  have lo_p0 := i32_lo p0
  have hi_p0 := i32_hi p0
  refine lv_iload_n hx hb d_JT_charAt_0 rfl (lv_at hl 1 rfl) ?_
  refine lv_aload_n hx hb d_JT_charAt_1 rfl (lv_at hl 0 rfl) ?_
  refine va_tlen hx hb (hV0) hS rfl d_JT_charAt_2 ?_
  refine lv_topi (fun x1 ex1 => ?_)
  have tx1 : x1.toInt = b.length := by rw [ex1]; exact i32_len (by (first | (apply Int.le_antisymm <;> omega) | omega))
  have hPc := hP.sb (wq := []) [] rfl
  have hDc := hD.sb (wq := []) [] (by decide) rfl
  have hKc := hK.sb (tyq := []) [] rfl
  have hFc := va_free (wc := []) hD hS hA [] rfl
  refine va_callv (va_runS (As := [.int p0, .int x1]) (rest := []) ⟨hx, hb, hml, hown, hts⟩ (c_JS_checkIndex l dC dI H.size sa p0 x1 (by (try dsimp only) <;> (first | (apply Int.le_antisymm <;> omega) | omega))) ⟨callB_of 2 hts (gW kC_JS_checkIndex) rfl rfl rfl (hts _ kI_JS) (hts _ kM_JT_9) (by decide +kernel) ⟨Nat.le_of_ble_eq_true rfl, Nat.le_of_ble_eq_true rfl⟩, hts _ kT_JS_checkIndex⟩ ⟨fun a U g mk z => by obtain ⟨z0, z1, zP, zK, zD, zS⟩ := z; exact ⟨z0, z1, zP, va_K.moved (u := U) (U := U.calling g mk a) (Vm.Alike.refl U.vm) zK, zD, sw.same (u := U) (U := U.calling g mk a) rfl zS⟩, fun U hU hW => ⟨rfl, by rw [hU], va_P.he hU.symm hPc, va_K.moved hW.alike hKc, hDc.weaken (fun _ _ _ _ => trivial), hSW.call hS hFc hW hU⟩⟩ rfl rfl hl.1 rfl (lv_room (Nat.le_of_ble_eq_true rfl)) d_JT_charAt_3 ⟨(Nat.zero_le _), (Nat.zero_le _)⟩) hS (fun q _ h => hFc q h) hFc (fun u t H1 locs ht hvm hw hB hz1 hk1 hS => ?_)
  try dsimp only at hw
  try clear hw
  obtain ⟨hP1, hK1, hD1⟩ := hB
  replace hP1 := va_P.he ht hP1
  obtain ⟨hP, hD⟩ := va_join (wr := []) (w1 := []) hP hD [] [] rfl rfl (by decide) (by decide) hk1 hFc hP1 hD1
  clear hPc hDc hKc hFc hz1 hk1 hP1 hK1 hD1
  rename Heap => H
  have hP : va_P (dC, dI) cls [] H := hP
  have hD : va_D A [] := hD
  refine lv_aload_n hx hb d_JT_charAt_6 rfl (lv_at hl 0 rfl) ?_
  refine lv_iload_n hx hb d_JT_charAt_7 rfl (lv_at hl 1 rfl) ?_
  have g8 : vp_in p0 b.length := vp_in_iff.mpr ⟨by (first | (apply Int.le_antisymm <;> omega) | omega), by (first | (apply Int.le_antisymm <;> omega) | omega)⟩
  refine va_tb hx hb (hV0) hS g8 rfl d_JT_charAt_8 ?_
  refine lv_topi (fun x3 ex3 => ?_)
  refine lv_sipush (v := 255) hx hb d_JT_charAt_9 (by decide) ?_
  refine lv_iand hx hb d_JT_charAt_12 ?_
  refine lv_topi (fun x4 ex4 => ?_)
  refine lv_i2c hx hb d_JT_charAt_13 rfl ?_
  refine lv_topi (fun x5 ex5 => ?_)
  have hP9 := hP.sb (wq := []) [] rfl
  have hD9 := hD.sb (wq := []) [] (by decide) rfl
  exact W.zret (v := x5) hx hb hr (by rw [ex5]; exact pk_nc _) (fun t ht hW => ⟨⟨x5, (), rfl, (by rw [ex5, ex4, ex3]; exact sc_c2 _), va_P.he ht.symm hP9, va_K.moved hW.alike hK, hD9⟩, hS.F ht⟩) hS.2.2 d_JT_charAt_14
abbrev b_JS_charAt : ByteArray := prog_33_method_56_code
def y_JS_charAt : MethodName := ⟨R_JS, "charAt", "(I)C"⟩
abbrev w_JS_charAt : List Cond := .code y_JS_charAt b_JS_charAt 2 (Option.some .char) :: lw_g
theorem kC_JS_charAt : Cond.code y_JS_charAt b_JS_charAt 2 (Option.some .char) ∈ lw_g := in_c4 105 rfl rfl
theorem d_JS_charAt_0 : decode b_JS_charAt 0 = .ok (.aload_n 0, 1) := bz_c42 (by decide +kernel)
theorem d_JS_charAt_1 : decode b_JS_charAt 1 = .ok (.invokevirtual 492, 3) := bz_c182 (by decide +kernel)
theorem d_JS_charAt_4 : decode b_JS_charAt 4 = .ok (.ifCond .eq 12, 3) := bz_c153 (by decide +kernel)
theorem d_JS_charAt_7 : decode b_JS_charAt 7 = .ok (.aload_n 0, 1) := bz_c42 (by decide +kernel)
theorem d_JS_charAt_8 : decode b_JS_charAt 8 = .ok (.getfield 9, 3) := bz_c180 (by decide +kernel)
theorem d_JS_charAt_11 : decode b_JS_charAt 11 = .ok (.iload_n 1, 1) := bz_c27 (by decide +kernel)
theorem d_JS_charAt_12 : decode b_JS_charAt 12 = .ok (.invokestatic 495, 3) := bz_c184 (by decide +kernel)
theorem d_JS_charAt_15 : decode b_JS_charAt 15 = .ok (.ireturn, 1) := bz_c172 (by decide +kernel)
theorem d_JS_charAt_16 : decode b_JS_charAt 16 = .ok (.aload_n 0, 1) := bz_c42 (by decide +kernel)
theorem d_JS_charAt_17 : decode b_JS_charAt 17 = .ok (.getfield 9, 3) := bz_c180 (by decide +kernel)
theorem d_JS_charAt_20 : decode b_JS_charAt 20 = .ok (.iload_n 1, 1) := bz_c27 (by decide +kernel)
theorem d_JS_charAt_21 : decode b_JS_charAt 21 = .ok (.invokestatic 498, 3) := bz_c184 (by decide +kernel)
theorem d_JS_charAt_24 : decode b_JS_charAt 24 = .ok (.ireturn, 1) := bz_c172 (by decide +kernel)
theorem kM_JS_492 : Cond.methodLink R_JS 492 y_JS_isLatin1 ∈ lw_g := in_c4 106 rfl rfl
theorem kV_JS_isLatin1 : Cond.instanceMethod y_JS_isLatin1 ∈ lw_g := in_c4 107 rfl rfl
theorem kS_JS_isLatin1 : Cond.selects R_JS y_JS_isLatin1 y_JS_isLatin1 ∈ lw_g := in_c4 108 rfl rfl
theorem kM_JS_495 : Cond.methodLink R_JS 495 y_JT_charAt ∈ lw_g := in_c4 110 rfl rfl
theorem kT_JT_charAt : Cond.static y_JT_charAt ∈ lw_g := in_c4 111 rfl rfl
abbrev at_JS_charAt (dC : Nat → ClassId) (dI : Nat → Nat → Nat)  (A : Nat → Prop) (u : Unit) (t : State) : Prop := match u with | _ => va_P (dC, dI) cls [] t.heap ∧ va_K (dC, dI) cls [] t ∧ va_D A []
set_option maxHeartbeats 4000000 in
set_option maxRecDepth 100000 in
theorem c_JS_charAt (l : Launch) (dC : Nat → ClassId) (dI : Nat → Nat → Nat) (sz : Nat) (sa : Nat → Nat) (t v : Nat) (b : List Int32)    (p0 : Int32)  (hbl : (b.length : Int) < 2147483648) (hi : 0 ≤ p0.toInt ∧ p0.toInt < b.length) : Met l y_JS_charAt w_JS_charAt ({ frames := 3, cells := 0, slots := 0, locals := 64 }) (va_Pc [.ref t, .int p0] (fun U => U.heap.size = sz ∧ va_P (dC, dI) cls [] U.heap ∧ va_K (dC, dI) cls [] U ∧ va_D (fun _ => True) [] ∧ sw sa (va_A [] sz) U U.heap ∧ sw_str t v b (va_A [] sz) U U.heap)) (va_Qi (fun (r : Int32) (u : Unit) => match u with | _ => (r = (b.getD p0.toNatClampNeg 0) &&& 255)) (at_JS_charAt dC dI  (va_A [] sz)) (va_A [] sz)) 0 0 (va_A [] sz) := by
  refine Met.ofW (cc := b_JS_charAt) (maxL := 2) (ret := (Option.some .char)) (by decide) rfl ?_
  intro p e s m args below meth c s₁ B hml hv
  obtain ⟨rfl, hsz, hP, hK, hD0, hSW, hR0⟩ := hv
  have hx := B.exec
  have hb := B.bytes
  have hr := B.returns
  have hts0 := atoms_spec (ws := w_JS_charAt) B.pre
  have hts : ∀ w ∈ lw_g, w.before _ s = true := fun w h => hts0 w (List.mem_cons_of_mem _ h)
  have hown : s.vm.findClass R_JS = some m.cls := findClass_of_methodNamed B.named
  have hlocks := B.notSynchronized
  clear hts0
  subst hsz
  have hD := hD0.self (sz := s.heap.size)
  generalize hAe : va_A [] s.heap.size = A at hD hSW hR0 ⊢
  have hA : ∀ q : Nat, s.heap.size ≤ q → A q := fun q h => by rw [← hAe]; exact Or.inr h
  clear hAe
  have hP : va_P (dC, dI) cls [] s.heap := hP
  have hl := lv_entry ([.ref t, .int p0]) (n := 2) (Nat.le_of_ble_eq_true rfl)
  rw [lg_entry_eq]
  generalize (lg_sl ([.ref t, .int p0]) ++ List.replicate (2 - (lg_sl ([.ref t, .int p0])).length) Slot.unset).toArray = ls at hl ⊢
  have hl : lv_has ls 2 [(0, .ref t), (1, .int p0)] := hl
  have k0 : (0 : Int32).toInt = 0 := by decide
  refine w_gen (A := A) hP (fun H locs hP hS => ?_)
  have lo_p0 := i32_lo p0
  have hi_p0 := i32_hi p0
  refine lv_aload_n hx hb d_JS_charAt_0 rfl (lv_at hl 0 rfl) ?_
  have hPc := hP.sb (wq := []) [] rfl
  have hDc := hD.sb (wq := []) [] (by decide) rfl
  have hKc := hK.sb (tyq := []) [] rfl
  have hFc := va_free (wc := []) hD hS hA [] rfl
  refine va_calli (va_runV (As := []) (rest := []) ⟨hx, hb, hml, hown, hts⟩ (c_JS_isLatin1 l dC dI H.size sa t v b ) (cwV 0 hts (gV kM_JS_492 kV_JS_isLatin1 kS_JS_isLatin1 kI_JS kC_JS_isLatin1) rfl rfl rfl (by decide +kernel) ⟨Nat.le_of_ble_eq_true rfl, Nat.le_of_ble_eq_true rfl⟩) ⟨fun a U g mk z => by obtain ⟨z0, z1, zP, zK, zD, zS, zR0⟩ := z; exact ⟨z0, z1, zP, va_K.moved (u := U) (U := U.calling g mk a) (Vm.Alike.refl U.vm) zK, zD, sw.same (u := U) (U := U.calling g mk a) rfl zS, zR0.moved (u := U) (U := U.calling g mk a) (Vm.Alike.refl U.vm)⟩, so_recv (hR0.1) hS, fun U hU hW => ⟨rfl, by rw [hU], va_P.he hU.symm hPc, va_K.moved hW.alike hKc, hDc.weaken (fun _ _ _ _ => trivial), hSW.call hS hFc hW hU, (hR0).call hS hFc hW hU⟩⟩ rfl rfl hl.1 rfl (lv_room (Nat.le_of_ble_eq_true rfl)) d_JS_charAt_1 ⟨(Nat.zero_le _), (Nat.zero_le _)⟩) hS (fun q _ h => hFc q h) hFc (fun r1 u t H1 locs ht hvm hw hB hz1 hk1 hS => ?_)
  try dsimp only at hw
  obtain ⟨br1, xr1⟩ := hw
  try clear hw
  have tr1 := b01 br1
  have tr1 : r1.toInt = 1 := by rw [xr1]; decide
  obtain ⟨hP1, hK1, hD1⟩ := hB
  replace hP1 := va_P.he ht hP1
  obtain ⟨hP, hD⟩ := va_join (wr := []) (w1 := []) hP hD [] [] rfl rfl (by decide) (by decide) hk1 hFc hP1 hD1
  clear hPc hDc hKc hFc hz1 hk1 hP1 hK1 hD1
  rename Heap => H
  have hP : va_P (dC, dI) cls [] H := hP
  have hD : va_D A [] := hD
  refine lv_if_eq (tgt := 16) hx hb d_JS_charAt_4 (by decide) (fun c4 => absurd (eqI c4) (by (first | (apply Int.le_antisymm <;> omega) | omega))) (fun c4 => ?_)
  have q4 := neI c4
  refine lv_aload_n hx hb d_JS_charAt_7 rfl (lv_at hl 0 rfl) ?_
  refine vk_getf (v := .ref v) hx hb (hR0.2.2.1) hS hown (hts _ kF_JS_9) (fun _ h9 => h9) d_JS_charAt_8 ?_
  refine lv_iload_n hx hb d_JS_charAt_11 rfl (lv_at hl 1 rfl) ?_
  have hPc := hP.sb (wq := []) [] rfl
  have hDc := hD.sb (wq := []) [] (by decide) rfl
  have hKc := hK.sb (tyq := []) [] rfl
  have hFc := va_free (wc := []) hD hS hA [] rfl
  refine va_calli (va_runS (As := [.ref v, .int p0]) (rest := []) ⟨hx, hb, hml, hown, hts⟩ (c_JT_charAt l dC dI H.size sa v b p0 (by (try dsimp only) <;> (first | (apply Int.le_antisymm <;> omega) | omega)) (by (try dsimp only) <;> (first | (apply Int.le_antisymm <;> omega) | omega))) ⟨callB_of 2 hts (gW kC_JT_charAt) rfl rfl rfl (hts _ kI_JT) (hts _ kM_JS_495) (by decide +kernel) ⟨Nat.le_of_ble_eq_true rfl, Nat.le_of_ble_eq_true rfl⟩, hts _ kT_JT_charAt⟩ ⟨fun a U g mk z => by obtain ⟨z0, z1, zP, zK, zD, zS, zV0⟩ := z; exact ⟨z0, z1, zP, va_K.moved (u := U) (U := U.calling g mk a) (Vm.Alike.refl U.vm) zK, zD, sw.same (u := U) (U := U.calling g mk a) rfl zS, va_T.moved (u := U) (U := U.calling g mk a) (Vm.Alike.refl U.vm) zV0⟩, fun U hU hW => ⟨rfl, by rw [hU], va_P.he hU.symm hPc, va_K.moved hW.alike hKc, hDc.weaken (fun _ _ _ _ => trivial), hSW.call hS hFc hW hU, vt_call (hR0.2.2.2) hS hFc hW hU⟩⟩ rfl rfl hl.1 rfl (lv_room (Nat.le_of_ble_eq_true rfl)) d_JS_charAt_12 ⟨(Nat.zero_le _), (Nat.zero_le _)⟩) hS (fun q _ h => hFc q h) hFc (fun r2 u t H1 locs ht hvm hw hB hz1 hk1 hS => ?_)
  try dsimp only at hw
  have xr2 := hw
  try clear hw
  obtain ⟨hP1, hK1, hD1⟩ := hB
  replace hP1 := va_P.he ht hP1
  obtain ⟨hP, hD⟩ := va_join (wr := []) (w1 := []) hP hD [] [] rfl rfl (by decide) (by decide) hk1 hFc hP1 hD1
  clear hPc hDc hKc hFc hz1 hk1 hP1 hK1 hD1
  rename Heap => H
  have hP : va_P (dC, dI) cls [] H := hP
  have hD : va_D A [] := hD
  have hP9 := hP.sb (wq := []) [] rfl
  have hD9 := hD.sb (wq := []) [] (by decide) rfl
  exact W.zret (v := r2) hx hb hr (by rw [xr2]; exact sc_nar _) (fun t ht hW => ⟨⟨r2, (), rfl, (xr2), va_P.he ht.symm hP9, va_K.moved hW.alike hK, hD9⟩, hS.F ht⟩) hS.2.2 d_JS_charAt_15
end q_35
section q_36
/-! signs -/
theorem asg_aux (vm : Vm) (c : ClassId) (n : Nat) : vm.assignableAux (n + 1) c c = true := by
  rw [Vm.assignableAux, beq_self_eq_true, Bool.true_or]
theorem asg_refl (vm : Vm) (c : ClassId) : vm.assignable c c = true := asg_aux vm c 255
theorem sg_any {sa : Nat → Nat} {A : Nat → Prop} {s : State} {H : Heap} {locs : List Loc} {k : Nat} (hSW : sw sa A s s.heap) (hS : va_S A s.heap H locs) (hk : k < 55) : va_Any "WaferForge$Sign" s H (sg sa k) := by
  obtain ⟨cell, h1, h2, h3⟩ := va_recvE (i := k) hSW.2.2.2.1 hk hS
  obtain ⟨kC, hkC, -⟩ := Vm.findClass_spec h3
  exact ⟨cell, h1, h2, ⟨kC, hkC⟩, fun comp h => by rw [h3] at h; cases h; exact asg_refl _ _⟩
theorem sg_up {sa : Nat → Nat} {g : Nat → Option Nat} {i k : Nat} : va_up (fun j => (g j).map (sg sa)) i (some (sg sa k)) = fun j => (va_up g i (some k) j).map (sg sa) := by
  funext j
  unfold va_up
  by_cases e : j = i
  · rw [if_pos e, if_pos e]
    rfl
  · rw [if_neg e, if_neg e]
theorem w_top {p : Program} {l : Launch} {e : Env} {R : Room} {s : State} {m : MethodId} {args : Array Value} {below : List Frame} {meth : Method} {c : Code} {H : Heap} {locs : List Loc} {cells slots : Nat} {Q : State → Prop} {pc : Nat} {ls : Array Slot} {v v2 : Value} {rest : List Value} (h : v = v2) (k : W p l e R s m args below meth c H locs cells slots Q (F0 m pc ls (v2 :: rest))) : W p l e R s m args below meth c H locs cells slots Q (F0 m pc ls (v :: rest)) := by rw [h]; exact k
theorem va_us {α : Type} {f : Nat → α} {k : Nat} {x : α} : va_up f k x k = x := if_pos rfl
theorem va_un {α : Type} {f : Nat → α} {k j : Nat} {x : α} (h : j ≠ k) : va_up f k x j = f j := if_neg h
def R_SG : String := "WaferForge$Sign"
theorem kI_SG : Cond.initialized R_SG ∈ lw_g := in_c1 8 rfl rfl
def R_JE : String := "java/lang/Enum"
theorem kI_JE : Cond.initialized R_JE ∈ lw_g := in_c1 7 rfl rfl
abbrev b_SG_isPrefix : ByteArray := prog_11_method_6_code
def y_SG_isPrefix : MethodName := ⟨R_SG, "isPrefix", "()Z"⟩
abbrev w_SG_isPrefix : List Cond := .code y_SG_isPrefix b_SG_isPrefix 1 (Option.some .boolean) :: lw_g
theorem kC_SG_isPrefix : Cond.code y_SG_isPrefix b_SG_isPrefix 1 (Option.some .boolean) ∈ lw_g := in_c5 47 rfl rfl
theorem d_SG_isPrefix_0 : decode b_SG_isPrefix 0 = .ok (.aload_n 0, 1) := bz_c42 (by decide +kernel)
theorem d_SG_isPrefix_1 : decode b_SG_isPrefix 1 = .ok (.getstatic 159, 3) := bz_c178 (by decide +kernel)
theorem d_SG_isPrefix_4 : decode b_SG_isPrefix 4 = .ok (.if_acmp .eq 17, 3) := bz_c165 (by decide +kernel)
theorem d_SG_isPrefix_7 : decode b_SG_isPrefix 7 = .ok (.aload_n 0, 1) := bz_c42 (by decide +kernel)
theorem d_SG_isPrefix_8 : decode b_SG_isPrefix 8 = .ok (.getstatic 108, 3) := bz_c178 (by decide +kernel)
theorem d_SG_isPrefix_11 : decode b_SG_isPrefix 11 = .ok (.if_acmp .eq 10, 3) := bz_c165 (by decide +kernel)
theorem d_SG_isPrefix_14 : decode b_SG_isPrefix 14 = .ok (.aload_n 0, 1) := bz_c42 (by decide +kernel)
theorem d_SG_isPrefix_15 : decode b_SG_isPrefix 15 = .ok (.getstatic 111, 3) := bz_c178 (by decide +kernel)
theorem d_SG_isPrefix_18 : decode b_SG_isPrefix 18 = .ok (.if_acmp .ne 7, 3) := bz_c166 (by decide +kernel)
theorem d_SG_isPrefix_21 : decode b_SG_isPrefix 21 = .ok (.iconst 1, 1) := bz_c4 (by decide +kernel)
theorem d_SG_isPrefix_22 : decode b_SG_isPrefix 22 = .ok (.goto 4, 3) := bz_c167 (by decide +kernel)
theorem d_SG_isPrefix_25 : decode b_SG_isPrefix 25 = .ok (.iconst 0, 1) := bz_c3 (by decide +kernel)
theorem d_SG_isPrefix_26 : decode b_SG_isPrefix 26 = .ok (.ireturn, 1) := bz_c172 (by decide +kernel)
theorem kF_SG_159 : Cond.fieldLink R_SG 159 "WaferForge$Sign" "MINUS" "LWaferForge$Sign;" ∈ lw_g := in_c5 48 rfl rfl
theorem kF_SG_108 : Cond.fieldLink R_SG 108 "WaferForge$Sign" "NOT" "LWaferForge$Sign;" ∈ lw_g := in_c5 49 rfl rfl
theorem kF_SG_111 : Cond.fieldLink R_SG 111 "WaferForge$Sign" "INVERT" "LWaferForge$Sign;" ∈ lw_g := in_c5 51 rfl rfl
abbrev at_SG_isPrefix (dC : Nat → ClassId) (dI : Nat → Nat → Nat)  (A : Nat → Prop) (u : Unit) (t : State) : Prop := match u with | _ => va_P (dC, dI) cls [] t.heap ∧ va_K (dC, dI) cls [] t ∧ va_D A []
set_option maxHeartbeats 4000000 in
set_option maxRecDepth 100000 in
theorem c_SG_isPrefix (l : Launch) (dC : Nat → ClassId) (dI : Nat → Nat → Nat) (sz : Nat) (sa : Nat → Nat) (k : Nat) (hk : k < 55)       : Met l y_SG_isPrefix w_SG_isPrefix ({ frames := 0, cells := 0, slots := 0, locals := 0 }) (va_Pc [.ref (sg sa k)] (fun U => U.heap.size = sz ∧ va_P (dC, dI) cls [] U.heap ∧ va_K (dC, dI) cls [] U ∧ va_D (fun _ => True) [] ∧ sw sa (va_A [] sz) U U.heap)) (va_Qi (fun (r : Int32) (u : Unit) => match u with | _ => (r = 0 ∨ r = 1) ∧ ((r = 1 → k = 51 ∨ k = 34 ∨ k = 35) ∧ (r = 0 → k ≠ 51 ∧ k ≠ 34 ∧ k ≠ 35))) (at_SG_isPrefix dC dI  (va_A [] sz)) (va_A [] sz)) 0 0 (va_A [] sz) := by
  refine Met.ofW (cc := b_SG_isPrefix) (maxL := 1) (ret := (Option.some .boolean)) (by decide) rfl ?_
  intro p e s m args below meth c s₁ B hml hv
  obtain ⟨rfl, hsz, hP, hK, hD0, hSW⟩ := hv
  have hx := B.exec
  have hb := B.bytes
  have hr := B.returns
  have hts0 := atoms_spec (ws := w_SG_isPrefix) B.pre
  have hts : ∀ w ∈ lw_g, w.before _ s = true := fun w h => hts0 w (List.mem_cons_of_mem _ h)
  have hown : s.vm.findClass R_SG = some m.cls := findClass_of_methodNamed B.named
  have hlocks := B.notSynchronized
  clear hts0
  subst hsz
  have hD := hD0.self (sz := s.heap.size)
  generalize hAe : va_A [] s.heap.size = A at hD hSW ⊢
  have hA : ∀ q : Nat, s.heap.size ≤ q → A q := fun q h => by rw [← hAe]; exact Or.inr h
  clear hAe
  have hP : va_P (dC, dI) cls [] s.heap := hP
  have hl := lv_entry ([.ref (sg sa k)]) (n := 1) (Nat.le_of_ble_eq_true rfl)
  rw [lg_entry_eq]
  generalize (lg_sl ([.ref (sg sa k)]) ++ List.replicate (1 - (lg_sl ([.ref (sg sa k)])).length) Slot.unset).toArray = ls at hl ⊢
  have hl : lv_has ls 1 [(0, .ref (sg sa k))] := hl
  have k0 : (0 : Int32).toInt = 0 := by decide
  refine w_gen (A := A) hP (fun H locs hP hS => ?_)
  have k1 : (1 : Int32).toInt = 1 := by decide
  refine lv_aload_n hx hb d_SG_isPrefix_0 rfl (lv_at hl 0 rfl) ?_
  refine va_gets (C := "WaferForge$Sign") (n := "MINUS") (d := "LWaferForge$Sign;") (v := .ref (sg sa 51)) hx hb ((hSW.2.2.2.1.1 51 (by decide)).1) hS hown (hts _ kF_SG_159) (fun _ h9 => h9) d_SG_isPrefix_1 ?_
  refine lv_acmp_eq (rx := some (sg sa k)) (ry := some (sg sa 51)) (tgt := 21) hx hb d_SG_isPrefix_4 (by decide) (fun c4 => ?_) (fun c4 => ?_)
  · have q4 : k = 51 := hSW.2.2.2.1.2 k 51 hk (by decide : 51 < 55) (Option.some.inj c4)
    refine lv_iconst (v := 1) hx hb d_SG_isPrefix_21 (by decide) ?_
    refine lv_goto (tgt := 26) hx hb d_SG_isPrefix_22 (by decide) ?_
    have hP9 := hP.sb (wq := []) [] rfl
    have hD9 := hD.sb (wq := []) [] (by decide) rfl
    exact W.zret (v := 1) hx hb hr (zn01 (Or.inr rfl)) (fun t ht hW => ⟨⟨1, (), rfl, ⟨Or.inr rfl, ⟨fun _ => by (first | (apply Int.le_antisymm <;> omega) | omega), fun z => absurd z (by decide)⟩⟩, va_P.he ht.symm hP9, va_K.moved hW.alike hK, hD9⟩, hS.F ht⟩) hS.2.2 d_SG_isPrefix_26
  · have q4 : k ≠ 51 := fun z => c4 (by rw [z])
    refine lv_aload_n hx hb d_SG_isPrefix_7 rfl (lv_at hl 0 rfl) ?_
    refine va_gets (C := "WaferForge$Sign") (n := "NOT") (d := "LWaferForge$Sign;") (v := .ref (sg sa 34)) hx hb ((hSW.2.2.2.1.1 34 (by decide)).1) hS hown (hts _ kF_SG_108) (fun _ h9 => h9) d_SG_isPrefix_8 ?_
    refine lv_acmp_eq (rx := some (sg sa k)) (ry := some (sg sa 34)) (tgt := 21) hx hb d_SG_isPrefix_11 (by decide) (fun c11 => ?_) (fun c11 => ?_)
    · have q11 : k = 34 := hSW.2.2.2.1.2 k 34 hk (by decide : 34 < 55) (Option.some.inj c11)
      refine lv_iconst (v := 1) hx hb d_SG_isPrefix_21 (by decide) ?_
      refine lv_goto (tgt := 26) hx hb d_SG_isPrefix_22 (by decide) ?_
      have hP9 := hP.sb (wq := []) [] rfl
      have hD9 := hD.sb (wq := []) [] (by decide) rfl
      exact W.zret (v := 1) hx hb hr (zn01 (Or.inr rfl)) (fun t ht hW => ⟨⟨1, (), rfl, ⟨Or.inr rfl, ⟨fun _ => by (first | (apply Int.le_antisymm <;> omega) | omega), fun z => absurd z (by decide)⟩⟩, va_P.he ht.symm hP9, va_K.moved hW.alike hK, hD9⟩, hS.F ht⟩) hS.2.2 d_SG_isPrefix_26
    · have q11 : k ≠ 34 := fun z => c11 (by rw [z])
      refine lv_aload_n hx hb d_SG_isPrefix_14 rfl (lv_at hl 0 rfl) ?_
      refine va_gets (C := "WaferForge$Sign") (n := "INVERT") (d := "LWaferForge$Sign;") (v := .ref (sg sa 35)) hx hb ((hSW.2.2.2.1.1 35 (by decide)).1) hS hown (hts _ kF_SG_111) (fun _ h9 => h9) d_SG_isPrefix_15 ?_
      refine lv_acmp_ne (rx := some (sg sa k)) (ry := some (sg sa 35)) (tgt := 25) hx hb d_SG_isPrefix_18 (by decide) (fun c18 => ?_) (fun c18 => ?_)
      · have q18 : k ≠ 35 := fun z => c18 (by rw [z])
        refine lv_iconst (v := 0) hx hb d_SG_isPrefix_25 (by decide) ?_
        have hP9 := hP.sb (wq := []) [] rfl
        have hD9 := hD.sb (wq := []) [] (by decide) rfl
        exact W.zret (v := 0) hx hb hr (zn01 (Or.inl rfl)) (fun t ht hW => ⟨⟨0, (), rfl, ⟨Or.inl rfl, ⟨fun z => absurd z (by decide), fun _ => by (first | (apply Int.le_antisymm <;> omega) | omega)⟩⟩, va_P.he ht.symm hP9, va_K.moved hW.alike hK, hD9⟩, hS.F ht⟩) hS.2.2 d_SG_isPrefix_26
      · have q18 : k = 35 := hSW.2.2.2.1.2 k 35 hk (by decide : 35 < 55) (Option.some.inj c18)
        refine lv_iconst (v := 1) hx hb d_SG_isPrefix_21 (by decide) ?_
        refine lv_goto (tgt := 26) hx hb d_SG_isPrefix_22 (by decide) ?_
        have hP9 := hP.sb (wq := []) [] rfl
        have hD9 := hD.sb (wq := []) [] (by decide) rfl
        exact W.zret (v := 1) hx hb hr (zn01 (Or.inr rfl)) (fun t ht hW => ⟨⟨1, (), rfl, ⟨Or.inr rfl, ⟨fun _ => by (first | (apply Int.le_antisymm <;> omega) | omega), fun z => absurd z (by decide)⟩⟩, va_P.he ht.symm hP9, va_K.moved hW.alike hK, hD9⟩, hS.F ht⟩) hS.2.2 d_SG_isPrefix_26
abbrev b_SG_type : ByteArray := prog_11_method_8_code
def y_SG_type : MethodName := ⟨R_SG, "type", "()I"⟩
abbrev w_SG_type : List Cond := .code y_SG_type b_SG_type 1 (Option.some .int) :: lw_g
theorem kC_SG_type : Cond.code y_SG_type b_SG_type 1 (Option.some .int) ∈ lw_g := in_c4 213 rfl rfl
theorem d_SG_type_0 : decode b_SG_type 0 = .ok (.aload_n 0, 1) := bz_c42 (by decide +kernel)
theorem d_SG_type_1 : decode b_SG_type 1 = .ok (.getstatic 48, 3) := bz_c178 (by decide +kernel)
theorem d_SG_type_4 : decode b_SG_type 4 = .ok (.if_acmp .eq 10, 3) := bz_c165 (by decide +kernel)
theorem d_SG_type_7 : decode b_SG_type 7 = .ok (.aload_n 0, 1) := bz_c42 (by decide +kernel)
theorem d_SG_type_8 : decode b_SG_type 8 = .ok (.getstatic 15, 3) := bz_c178 (by decide +kernel)
theorem d_SG_type_11 : decode b_SG_type 11 = .ok (.if_acmp .ne 8, 3) := bz_c166 (by decide +kernel)
theorem d_SG_type_14 : decode b_SG_type 14 = .ok (.bipush 127, 2) := bz_c16 (by decide +kernel)
theorem d_SG_type_16 : decode b_SG_type 16 = .ok (.goto 5, 3) := bz_c167 (by decide +kernel)
theorem d_SG_type_19 : decode b_SG_type 19 = .ok (.bipush 126, 2) := bz_c16 (by decide +kernel)
theorem d_SG_type_21 : decode b_SG_type 21 = .ok (.ireturn, 1) := bz_c172 (by decide +kernel)
theorem kF_SG_48 : Cond.fieldLink R_SG 48 "WaferForge$Sign" "I32" "LWaferForge$Sign;" ∈ lw_g := in_c4 214 rfl rfl
theorem kF_SG_15 : Cond.fieldLink R_SG 15 "WaferForge$Sign" "INTEGER" "LWaferForge$Sign;" ∈ lw_g := in_c4 215 rfl rfl
abbrev at_SG_type (dC : Nat → ClassId) (dI : Nat → Nat → Nat)  (A : Nat → Prop) (u : Unit) (t : State) : Prop := match u with | _ => va_P (dC, dI) cls [] t.heap ∧ va_K (dC, dI) cls [] t ∧ va_D A []
set_option maxHeartbeats 4000000 in
set_option maxRecDepth 100000 in
theorem c_SG_type (l : Launch) (dC : Nat → ClassId) (dI : Nat → Nat → Nat) (sz : Nat) (sa : Nat → Nat) (k : Nat) (hk : k < 55)       : Met l y_SG_type w_SG_type ({ frames := 0, cells := 0, slots := 0, locals := 0 }) (va_Pc [.ref (sg sa k)] (fun U => U.heap.size = sz ∧ va_P (dC, dI) cls [] U.heap ∧ va_K (dC, dI) cls [] U ∧ va_D (fun _ => True) [] ∧ sw sa (va_A [] sz) U U.heap)) (va_Qi (fun (r : Int32) (u : Unit) => match u with | _ => ((r.toInt = 127 ∨ r.toInt = 126) ∧ (r.toInt = 127 ↔ (k = 14 ∨ k = 3)))) (at_SG_type dC dI  (va_A [] sz)) (va_A [] sz)) 0 0 (va_A [] sz) := by
  refine Met.ofW (cc := b_SG_type) (maxL := 1) (ret := (Option.some .int)) (by decide) rfl ?_
  intro p e s m args below meth c s₁ B hml hv
  obtain ⟨rfl, hsz, hP, hK, hD0, hSW⟩ := hv
  have hx := B.exec
  have hb := B.bytes
  have hr := B.returns
  have hts0 := atoms_spec (ws := w_SG_type) B.pre
  have hts : ∀ w ∈ lw_g, w.before _ s = true := fun w h => hts0 w (List.mem_cons_of_mem _ h)
  have hown : s.vm.findClass R_SG = some m.cls := findClass_of_methodNamed B.named
  have hlocks := B.notSynchronized
  clear hts0
  subst hsz
  have hD := hD0.self (sz := s.heap.size)
  generalize hAe : va_A [] s.heap.size = A at hD hSW ⊢
  have hA : ∀ q : Nat, s.heap.size ≤ q → A q := fun q h => by rw [← hAe]; exact Or.inr h
  clear hAe
  have hP : va_P (dC, dI) cls [] s.heap := hP
  have hl := lv_entry ([.ref (sg sa k)]) (n := 1) (Nat.le_of_ble_eq_true rfl)
  rw [lg_entry_eq]
  generalize (lg_sl ([.ref (sg sa k)]) ++ List.replicate (1 - (lg_sl ([.ref (sg sa k)])).length) Slot.unset).toArray = ls at hl ⊢
  have hl : lv_has ls 1 [(0, .ref (sg sa k))] := hl
  have k0 : (0 : Int32).toInt = 0 := by decide
  refine w_gen (A := A) hP (fun H locs hP hS => ?_)
  have k126 : (126 : Int32).toInt = 126 := by decide
  have k127 : (127 : Int32).toInt = 127 := by decide
  refine lv_aload_n hx hb d_SG_type_0 rfl (lv_at hl 0 rfl) ?_
  refine va_gets (C := "WaferForge$Sign") (n := "I32") (d := "LWaferForge$Sign;") (v := .ref (sg sa 14)) hx hb ((hSW.2.2.2.1.1 14 (by decide)).1) hS hown (hts _ kF_SG_48) (fun _ h9 => h9) d_SG_type_1 ?_
  refine lv_acmp_eq (rx := some (sg sa k)) (ry := some (sg sa 14)) (tgt := 14) hx hb d_SG_type_4 (by decide) (fun c4 => ?_) (fun c4 => ?_)
  · have q4 : k = 14 := hSW.2.2.2.1.2 k 14 hk (by decide : 14 < 55) (Option.some.inj c4)
    refine lv_bipush (v := 127) hx hb d_SG_type_14 (by decide) ?_
    refine lv_goto (tgt := 21) hx hb d_SG_type_16 (by decide) ?_
    have hP9 := hP.sb (wq := []) [] rfl
    have hD9 := hD.sb (wq := []) [] (by decide) rfl
    exact W.iret (v := 127) hx hb hr (fun t ht hW => ⟨⟨127, (), rfl, (by (try dsimp only) <;> (first | (apply Int.le_antisymm <;> omega) | omega)), va_P.he ht.symm hP9, va_K.moved hW.alike hK, hD9⟩, hS.F ht⟩) hS.2.2 d_SG_type_21
  · have q4 : k ≠ 14 := fun z => c4 (by rw [z])
    refine lv_aload_n hx hb d_SG_type_7 rfl (lv_at hl 0 rfl) ?_
    refine va_gets (C := "WaferForge$Sign") (n := "INTEGER") (d := "LWaferForge$Sign;") (v := .ref (sg sa 3)) hx hb ((hSW.2.2.2.1.1 3 (by decide)).1) hS hown (hts _ kF_SG_15) (fun _ h9 => h9) d_SG_type_8 ?_
    refine lv_acmp_ne (rx := some (sg sa k)) (ry := some (sg sa 3)) (tgt := 19) hx hb d_SG_type_11 (by decide) (fun c11 => ?_) (fun c11 => ?_)
    · have q11 : k ≠ 3 := fun z => c11 (by rw [z])
      refine lv_bipush (v := 126) hx hb d_SG_type_19 (by decide) ?_
      have hP9 := hP.sb (wq := []) [] rfl
      have hD9 := hD.sb (wq := []) [] (by decide) rfl
      exact W.iret (v := 126) hx hb hr (fun t ht hW => ⟨⟨126, (), rfl, (by (try dsimp only) <;> (first | (apply Int.le_antisymm <;> omega) | omega)), va_P.he ht.symm hP9, va_K.moved hW.alike hK, hD9⟩, hS.F ht⟩) hS.2.2 d_SG_type_21
    · have q11 : k = 3 := hSW.2.2.2.1.2 k 3 hk (by decide : 3 < 55) (Option.some.inj c11)
      refine lv_bipush (v := 127) hx hb d_SG_type_14 (by decide) ?_
      refine lv_goto (tgt := 21) hx hb d_SG_type_16 (by decide) ?_
      have hP9 := hP.sb (wq := []) [] rfl
      have hD9 := hD.sb (wq := []) [] (by decide) rfl
      exact W.iret (v := 127) hx hb hr (fun t ht hW => ⟨⟨127, (), rfl, (by (try dsimp only) <;> (first | (apply Int.le_antisymm <;> omega) | omega)), va_P.he ht.symm hP9, va_K.moved hW.alike hK, hD9⟩, hS.F ht⟩) hS.2.2 d_SG_type_21
abbrev b_SG_takes : ByteArray := prog_11_method_7_code
def y_SG_takes : MethodName := ⟨R_SG, "takes", "()I"⟩
abbrev w_SG_takes : List Cond := .code y_SG_takes b_SG_takes 1 (Option.some .int) :: lw_g
theorem kC_SG_takes : Cond.code y_SG_takes b_SG_takes 1 (Option.some .int) ∈ lw_g := in_c5 211 rfl rfl
theorem d_SG_takes_0 : decode b_SG_takes 0 = .ok (.aload_n 0, 1) := bz_c42 (by decide +kernel)
theorem d_SG_takes_1 : decode b_SG_takes 1 = .ok (.getfield 207, 3) := bz_c180 (by decide +kernel)
theorem d_SG_takes_4 : decode b_SG_takes 4 = .ok (.bipush 64, 2) := bz_c16 (by decide +kernel)
theorem d_SG_takes_6 : decode b_SG_takes 6 = .ok (.if_icmp .ne 7, 3) := bz_c160 (by decide +kernel)
theorem d_SG_takes_9 : decode b_SG_takes 9 = .ok (.iconst 0, 1) := bz_c3 (by decide +kernel)
theorem d_SG_takes_10 : decode b_SG_takes 10 = .ok (.goto 17, 3) := bz_c167 (by decide +kernel)
theorem d_SG_takes_13 : decode b_SG_takes 13 = .ok (.aload_n 0, 1) := bz_c42 (by decide +kernel)
theorem d_SG_takes_14 : decode b_SG_takes 14 = .ok (.getfield 210, 3) := bz_c180 (by decide +kernel)
theorem d_SG_takes_17 : decode b_SG_takes 17 = .ok (.bipush 64, 2) := bz_c16 (by decide +kernel)
theorem d_SG_takes_19 : decode b_SG_takes 19 = .ok (.if_icmp .ne 7, 3) := bz_c160 (by decide +kernel)
theorem d_SG_takes_22 : decode b_SG_takes 22 = .ok (.iconst 1, 1) := bz_c4 (by decide +kernel)
theorem d_SG_takes_23 : decode b_SG_takes 23 = .ok (.goto 4, 3) := bz_c167 (by decide +kernel)
theorem d_SG_takes_26 : decode b_SG_takes 26 = .ok (.iconst 2, 1) := bz_c5 (by decide +kernel)
theorem d_SG_takes_27 : decode b_SG_takes 27 = .ok (.ireturn, 1) := bz_c172 (by decide +kernel)
theorem kF_SG_207 : Cond.fieldLink R_SG 207 "WaferForge$Sign" "takesFirst" "I" ∈ lw_g := in_c13 238 rfl rfl
theorem kF_SG_210 : Cond.fieldLink R_SG 210 "WaferForge$Sign" "takesSecond" "I" ∈ lw_g := in_c13 239 rfl rfl
abbrev at_SG_takes (dC : Nat → ClassId) (dI : Nat → Nat → Nat)  (A : Nat → Prop) (u : Unit) (t : State) : Prop := match u with | _ => va_P (dC, dI) cls [] t.heap ∧ va_K (dC, dI) cls [] t ∧ va_D A []
set_option maxHeartbeats 4000000 in
set_option maxRecDepth 100000 in
theorem c_SG_takes (l : Launch) (dC : Nat → ClassId) (dI : Nat → Nat → Nat) (sz : Nat) (sa : Nat → Nat) (k : Nat) (hk : k < 55)       : Met l y_SG_takes w_SG_takes ({ frames := 0, cells := 0, slots := 0, locals := 0 }) (va_Pc [.ref (sg sa k)] (fun U => U.heap.size = sz ∧ va_P (dC, dI) cls [] U.heap ∧ va_K (dC, dI) cls [] U ∧ va_D (fun _ => True) [] ∧ sw sa (va_A [] sz) U U.heap)) (va_Qi (fun (r : Int32) (u : Unit) => match u with | _ => ((r.toInt = 0 ∨ r.toInt = 1 ∨ r.toInt = 2) ∧ (r.toInt = 0 → (sg_takesFirst.getD k 0).toInt = 64) ∧ (r.toInt = 1 → (sg_takesFirst.getD k 0).toInt ≠ 64 ∧ (sg_takesSecond.getD k 0).toInt = 64) ∧ (r.toInt = 2 → (sg_takesFirst.getD k 0).toInt ≠ 64 ∧ (sg_takesSecond.getD k 0).toInt ≠ 64))) (at_SG_takes dC dI  (va_A [] sz)) (va_A [] sz)) 0 0 (va_A [] sz) := by
  refine Met.ofW (cc := b_SG_takes) (maxL := 1) (ret := (Option.some .int)) (by decide) rfl ?_
  intro p e s m args below meth c s₁ B hml hv
  obtain ⟨rfl, hsz, hP, hK, hD0, hSW⟩ := hv
  have hx := B.exec
  have hb := B.bytes
  have hr := B.returns
  have hts0 := atoms_spec (ws := w_SG_takes) B.pre
  have hts : ∀ w ∈ lw_g, w.before _ s = true := fun w h => hts0 w (List.mem_cons_of_mem _ h)
  have hown : s.vm.findClass R_SG = some m.cls := findClass_of_methodNamed B.named
  have hlocks := B.notSynchronized
  clear hts0
  subst hsz
  have hD := hD0.self (sz := s.heap.size)
  generalize hAe : va_A [] s.heap.size = A at hD hSW ⊢
  have hA : ∀ q : Nat, s.heap.size ≤ q → A q := fun q h => by rw [← hAe]; exact Or.inr h
  clear hAe
  have hP : va_P (dC, dI) cls [] s.heap := hP
  have hl := lv_entry ([.ref (sg sa k)]) (n := 1) (Nat.le_of_ble_eq_true rfl)
  rw [lg_entry_eq]
  generalize (lg_sl ([.ref (sg sa k)]) ++ List.replicate (1 - (lg_sl ([.ref (sg sa k)])).length) Slot.unset).toArray = ls at hl ⊢
  have hl : lv_has ls 1 [(0, .ref (sg sa k))] := hl
  have k0 : (0 : Int32).toInt = 0 := by decide
  refine w_gen (A := A) hP (fun H locs hP hS => ?_)
  have k1 : (1 : Int32).toInt = 1 := by decide
  have k2 : (2 : Int32).toInt = 2 := by decide
  have k64 : (64 : Int32).toInt = 64 := by decide
  refine lv_aload_n hx hb d_SG_takes_0 rfl (lv_at hl 0 rfl) ?_
  refine va_getE (i := k) (q := ("WaferForge$Sign", "takesFirst", "I", sg_takesFirst)) hx hb hSW.2.2.2.1 hk hS hown (List.mem_of_getElem? (i := 4) rfl) (hts _ kF_SG_207) (fun _ h9 => h9) d_SG_takes_1 ?_
  refine lv_topi (fun x1 ex1 => ?_)
  have ex1 : x1 = sg_takesFirst.getD k 0 := ex1
  have tx1 : x1.toInt = (sg_takesFirst.getD k 0).toInt := by rw [ex1]
  refine lv_bipush (v := 64) hx hb d_SG_takes_4 (by decide) ?_
  refine lv_icmp_ne (tgt := 13) hx hb d_SG_takes_6 (by decide) (fun c6 => ?_) (fun c6 => ?_)
  · have q6 := neI c6
    refine lv_aload_n hx hb d_SG_takes_13 rfl (lv_at hl 0 rfl) ?_
    refine va_getE (i := k) (q := ("WaferForge$Sign", "takesSecond", "I", sg_takesSecond)) hx hb hSW.2.2.2.1 hk hS hown (List.mem_of_getElem? (i := 5) rfl) (hts _ kF_SG_210) (fun _ h9 => h9) d_SG_takes_14 ?_
    refine lv_topi (fun x2 ex2 => ?_)
    have ex2 : x2 = sg_takesSecond.getD k 0 := ex2
    have tx2 : x2.toInt = (sg_takesSecond.getD k 0).toInt := by rw [ex2]
    refine lv_bipush (v := 64) hx hb d_SG_takes_17 (by decide) ?_
    refine lv_icmp_ne (tgt := 26) hx hb d_SG_takes_19 (by decide) (fun c19 => ?_) (fun c19 => ?_)
    · have q19 := neI c19
      refine lv_iconst (v := 2) hx hb d_SG_takes_26 (by decide) ?_
      have hP9 := hP.sb (wq := []) [] rfl
      have hD9 := hD.sb (wq := []) [] (by decide) rfl
      exact W.iret (v := 2) hx hb hr (fun t ht hW => ⟨⟨2, (), rfl, (by (try dsimp only) <;> (first | (apply Int.le_antisymm <;> omega) | omega)), va_P.he ht.symm hP9, va_K.moved hW.alike hK, hD9⟩, hS.F ht⟩) hS.2.2 d_SG_takes_27
    · have q19 := eqI c19
      refine lv_iconst (v := 1) hx hb d_SG_takes_22 (by decide) ?_
      refine lv_goto (tgt := 27) hx hb d_SG_takes_23 (by decide) ?_
      have hP9 := hP.sb (wq := []) [] rfl
      have hD9 := hD.sb (wq := []) [] (by decide) rfl
      exact W.iret (v := 1) hx hb hr (fun t ht hW => ⟨⟨1, (), rfl, (by (try dsimp only) <;> (first | (apply Int.le_antisymm <;> omega) | omega)), va_P.he ht.symm hP9, va_K.moved hW.alike hK, hD9⟩, hS.F ht⟩) hS.2.2 d_SG_takes_27
  · have q6 := eqI c6
    refine lv_iconst (v := 0) hx hb d_SG_takes_9 (by decide) ?_
    refine lv_goto (tgt := 27) hx hb d_SG_takes_10 (by decide) ?_
    have hP9 := hP.sb (wq := []) [] rfl
    have hD9 := hD.sb (wq := []) [] (by decide) rfl
    exact W.iret (v := 0) hx hb hr (fun t ht hW => ⟨⟨0, (), rfl, (by (try dsimp only) <;> (first | (apply Int.le_antisymm <;> omega) | omega)), va_P.he ht.symm hP9, va_K.moved hW.alike hK, hD9⟩, hS.F ht⟩) hS.2.2 d_SG_takes_27
end q_36
section q_37
/-! Names; texts against a row of bytes -/
theorem br_get_lt {f : Nat → Int32} {len i r : Int32} (h : r = br_get f len i) (h0 : 0 ≤ r.toInt) : 0 ≤ i.toInt ∧ i.toInt < len.toInt := by
  unfold br_get at h
  split at h
  · assumption
  · rw [h] at h0
    exact absurd h0 (by decide)
abbrev b_NA_add : ByteArray := prog_7_method_2_code
def y_NA_add : MethodName := ⟨R_NA, "add", "(IIIJ)V"⟩
abbrev w_NA_add : List Cond := .code y_NA_add b_NA_add 6 none :: lw_g
theorem kC_NA_add : Cond.code y_NA_add b_NA_add 6 none ∈ lw_g := in_c4 227 rfl rfl
theorem d_NA_add_0 : decode b_NA_add 0 = .ok (.aload_n 0, 1) := bz_c42 (by decide +kernel)
theorem d_NA_add_1 : decode b_NA_add 1 = .ok (.getfield 27, 3) := bz_c180 (by decide +kernel)
theorem d_NA_add_4 : decode b_NA_add 4 = .ok (.aload_n 0, 1) := bz_c42 (by decide +kernel)
theorem d_NA_add_5 : decode b_NA_add 5 = .ok (.getfield 13, 3) := bz_c180 (by decide +kernel)
theorem d_NA_add_8 : decode b_NA_add 8 = .ok (.arraylength, 1) := bz_c190 (by decide +kernel)
theorem d_NA_add_9 : decode b_NA_add 9 = .ok (.if_icmp .ge 54, 3) := bz_c162 (by decide +kernel)
theorem d_NA_add_12 : decode b_NA_add 12 = .ok (.aload_n 0, 1) := bz_c42 (by decide +kernel)
theorem d_NA_add_13 : decode b_NA_add 13 = .ok (.getfield 13, 3) := bz_c180 (by decide +kernel)
theorem d_NA_add_16 : decode b_NA_add 16 = .ok (.aload_n 0, 1) := bz_c42 (by decide +kernel)
theorem d_NA_add_17 : decode b_NA_add 17 = .ok (.getfield 27, 3) := bz_c180 (by decide +kernel)
theorem d_NA_add_20 : decode b_NA_add 20 = .ok (.iload_n 1, 1) := bz_c27 (by decide +kernel)
theorem d_NA_add_21 : decode b_NA_add 21 = .ok (.iastore, 1) := bz_c79 (by decide +kernel)
theorem d_NA_add_22 : decode b_NA_add 22 = .ok (.aload_n 0, 1) := bz_c42 (by decide +kernel)
theorem d_NA_add_23 : decode b_NA_add 23 = .ok (.getfield 17, 3) := bz_c180 (by decide +kernel)
theorem d_NA_add_26 : decode b_NA_add 26 = .ok (.aload_n 0, 1) := bz_c42 (by decide +kernel)
theorem d_NA_add_27 : decode b_NA_add 27 = .ok (.getfield 27, 3) := bz_c180 (by decide +kernel)
theorem d_NA_add_30 : decode b_NA_add 30 = .ok (.iload_n 2, 1) := bz_c28 (by decide +kernel)
theorem d_NA_add_31 : decode b_NA_add 31 = .ok (.iastore, 1) := bz_c79 (by decide +kernel)
theorem d_NA_add_32 : decode b_NA_add 32 = .ok (.aload_n 0, 1) := bz_c42 (by decide +kernel)
theorem d_NA_add_33 : decode b_NA_add 33 = .ok (.getfield 20, 3) := bz_c180 (by decide +kernel)
theorem d_NA_add_36 : decode b_NA_add 36 = .ok (.aload_n 0, 1) := bz_c42 (by decide +kernel)
theorem d_NA_add_37 : decode b_NA_add 37 = .ok (.getfield 27, 3) := bz_c180 (by decide +kernel)
theorem d_NA_add_40 : decode b_NA_add 40 = .ok (.iload_n 3, 1) := bz_c29 (by decide +kernel)
theorem d_NA_add_41 : decode b_NA_add 41 = .ok (.iastore, 1) := bz_c79 (by decide +kernel)
theorem d_NA_add_42 : decode b_NA_add 42 = .ok (.aload_n 0, 1) := bz_c42 (by decide +kernel)
theorem d_NA_add_43 : decode b_NA_add 43 = .ok (.getfield 23, 3) := bz_c180 (by decide +kernel)
theorem d_NA_add_46 : decode b_NA_add 46 = .ok (.aload_n 0, 1) := bz_c42 (by decide +kernel)
theorem d_NA_add_47 : decode b_NA_add 47 = .ok (.getfield 27, 3) := bz_c180 (by decide +kernel)
theorem d_NA_add_50 : decode b_NA_add 50 = .ok (.lload 4, 2) := bz_c22 (by decide +kernel)
theorem d_NA_add_52 : decode b_NA_add 52 = .ok (.lastore, 1) := bz_c80 (by decide +kernel)
theorem d_NA_add_53 : decode b_NA_add 53 = .ok (.aload_n 0, 1) := bz_c42 (by decide +kernel)
theorem d_NA_add_54 : decode b_NA_add 54 = .ok (.dup, 1) := bz_c89 (by decide +kernel)
theorem d_NA_add_55 : decode b_NA_add 55 = .ok (.getfield 27, 3) := bz_c180 (by decide +kernel)
theorem d_NA_add_58 : decode b_NA_add 58 = .ok (.iconst 1, 1) := bz_c4 (by decide +kernel)
theorem d_NA_add_59 : decode b_NA_add 59 = .ok (.iadd, 1) := bz_c96 (by decide +kernel)
theorem d_NA_add_60 : decode b_NA_add 60 = .ok (.putfield 27, 3) := bz_c181 (by decide +kernel)
theorem d_NA_add_63 : decode b_NA_add 63 = .ok (.return_, 1) := bz_c177 (by decide +kernel)
theorem kF_NA_27 : Cond.fieldLink R_NA 27 "WaferForge$Names" "length" "I" ∈ lw_g := in_c2 84 rfl rfl
theorem kF_NA_13 : Cond.fieldLink R_NA 13 "WaferForge$Names" "starts" "[I" ∈ lw_g := in_c2 76 rfl rfl
theorem kF_NA_17 : Cond.fieldLink R_NA 17 "WaferForge$Names" "sizes" "[I" ∈ lw_g := in_c2 78 rfl rfl
theorem kF_NA_20 : Cond.fieldLink R_NA 20 "WaferForge$Names" "types" "[I" ∈ lw_g := in_c2 80 rfl rfl
theorem kF_NA_23 : Cond.fieldLink R_NA 23 "WaferForge$Names" "values" "[J" ∈ lw_g := in_c2 82 rfl rfl
abbrev at_NA_add (dC : Nat → ClassId) (dI : Nat → Nat → Nat) (h0 tr ns nz nt nv : Nat) (cns cnz cnt cnv : ClassId) (nn : Nat) (A : Nat → Prop) (u : (Nat → Int32) × (Nat → Int32) × (Nat → Int64) × (Nat → Int32) × Int32) (t : State) : Prop := match u with | (gns, gnt, gnv, gnz, h0_length) => va_P (dC, dI) cls (wz_102 h0 tr ns nz nt nv h0_length ns cns nn gns nz cnz nn gnz nt cnt nn gnt nv cnv nn gnv) t.heap ∧ va_K (dC, dI) cls [(cns, .int), (cnz, .int), (cnt, .int), (cnv, .long)] t ∧ va_D A (wz_102 h0 tr ns nz nt nv h0_length ns cns nn gns nz cnz nn gnz nt cnt nn gnt nv cnv nn gnv)
set_option maxHeartbeats 4000000 in
set_option maxRecDepth 100000 in
theorem c_NA_add (l : Launch) (dC : Nat → ClassId) (dI : Nat → Nat → Nat) (sz : Nat) (h0 tr ns nz nt nv : Nat) (cns cnz cnt cnv : ClassId) (h0_length : Int32) (nn : Nat) (gns : Nat → Int32) (gnz : Nat → Int32) (gnt : Nat → Int32) (gnv : Nat → Int64)   (p0 : Int32) (p1 : Int32) (p2 : Int32) (p3 : Int64)  (hnl : 0 ≤ h0_length.toInt ∧ h0_length.toInt ≤ nn ∧ nn < 2147483648) : Met l y_NA_add w_NA_add ({ frames := 0, cells := 0, slots := 0, locals := 0 }) (va_Pc [.ref h0, .int p0, .int p1, .int p2, .long p3] (fun U => U.heap.size = sz ∧ va_P (dC, dI) cls (wz_102 h0 tr ns nz nt nv h0_length ns cns nn gns nz cnz nn gnz nt cnt nn gnt nv cnv nn gnv) U.heap ∧ va_K (dC, dI) cls [(cns, .int), (cnz, .int), (cnt, .int), (cnv, .long)] U ∧ va_D (fun _ => True) (wz_102 h0 tr ns nz nt nv h0_length ns cns nn gns nz cnz nn gnz nt cnt nn gnt nv cnv nn gnv))) (va_Qv (fun (u : (Nat → Int32) × (Nat → Int32) × (Nat → Int64) × (Nat → Int32) × Int32) => match u with | (gns2, gnt2, gnv2, gnz2, h0_length2) => ((h0_length.toInt < nn → h0_length2.toInt = h0_length.toInt + 1 ∧ gns2 = upd gns h0_length.toNatClampNeg p0 ∧ gnz2 = upd gnz h0_length.toNatClampNeg p1 ∧ gnt2 = upd gnt h0_length.toNatClampNeg p2 ∧ gnv2 = vp_updL gnv h0_length.toNatClampNeg p3) ∧ (h0_length.toInt = nn → h0_length2 = h0_length ∧ gns2 = gns ∧ gnz2 = gnz ∧ gnt2 = gnt ∧ gnv2 = gnv))) (at_NA_add dC dI h0 tr ns nz nt nv cns cnz cnt cnv nn (va_A (wz_102 h0 tr ns nz nt nv h0_length ns cns nn gns nz cnz nn gnz nt cnt nn gnt nv cnv nn gnv) sz)) (va_A (wz_102 h0 tr ns nz nt nv h0_length ns cns nn gns nz cnz nn gnz nt cnt nn gnt nv cnv nn gnv) sz)) 0 0 (va_A (wz_102 h0 tr ns nz nt nv h0_length ns cns nn gns nz cnz nn gnz nt cnt nn gnt nv cnv nn gnv) sz) := by
  refine Met.ofW (cc := b_NA_add) (maxL := 6) (ret := none) (by decide) rfl ?_
  intro p e s m args below meth c s₁ B hml hv
  obtain ⟨rfl, hsz, hP, hK, hD0⟩ := hv
  have hx := B.exec
  have hb := B.bytes
  have hr := B.returns
  have hts0 := atoms_spec (ws := w_NA_add) B.pre
  have hts : ∀ w ∈ lw_g, w.before _ s = true := fun w h => hts0 w (List.mem_cons_of_mem _ h)
  have hown : s.vm.findClass R_NA = some m.cls := findClass_of_methodNamed B.named
  have hlocks := B.notSynchronized
  clear hts0
  subst hsz
  have hD := hD0.self (sz := s.heap.size)
  generalize hAe : va_A (wz_102 h0 tr ns nz nt nv h0_length ns cns nn gns nz cnz nn gnz nt cnt nn gnt nv cnv nn gnv) s.heap.size = A at hD ⊢
  have hA : ∀ q : Nat, s.heap.size ≤ q → A q := fun q h => by rw [← hAe]; exact Or.inr h
  clear hAe
  have hP : va_P (dC, dI) cls (wz_102 h0 tr ns nz nt nv h0_length ns cns nn gns nz cnz nn gnz nt cnt nn gnt nv cnv nn gnv) s.heap := hP
  have hl := lv_entry ([.ref h0, .int p0, .int p1, .int p2, .long p3]) (n := 6) (Nat.le_of_ble_eq_true rfl)
  rw [lg_entry_eq]
  generalize (lg_sl ([.ref h0, .int p0, .int p1, .int p2, .long p3]) ++ List.replicate (6 - (lg_sl ([.ref h0, .int p0, .int p1, .int p2, .long p3])).length) Slot.unset).toArray = ls at hl ⊢
  have hl : lv_has ls 6 [(0, .ref h0), (1, .int p0), (2, .int p1), (3, .int p2), (4, .long p3)] := hl
  have k0 : (0 : Int32).toInt = 0 := by decide
  refine w_gen (A := A) hP (fun H locs hP hS => ?_)
  have k1 : (1 : Int32).toInt = 1 := by decide
  have lo_p0 := i32_lo p0
  have hi_p0 := i32_hi p0
  have lo_p1 := i32_lo p1
  have hi_p1 := i32_hi p1
  have lo_p2 := i32_lo p2
  have hi_p2 := i32_hi p2
  refine lv_aload_n hx hb d_NA_add_0 rfl (lv_at hl 0 rfl) ?_
  refine va_get (D := (dC, dI)) (ci := 5) (v := .int h0_length) (C := R_NA) (T := F_NA) (N := 6) hx hb hts i_NA hown hK hP 0 rfl rfl 5 (by decide) (hts _ kF_NA_27) (fun _ h9 => h9) rfl d_NA_add_1 ?_
  refine lv_aload_n hx hb d_NA_add_4 rfl (lv_at hl 0 rfl) ?_
  refine va_get (D := (dC, dI)) (ci := 5) (v := .ref ns) (C := R_NA) (T := F_NA) (N := 6) hx hb hts i_NA hown hK hP 0 rfl rfl 1 (by decide) (hts _ kF_NA_13) (fun _ h9 => h9) rfl d_NA_add_5 ?_
  refine va_alen hx hb hK hP 1 0 rfl rfl rfl d_NA_add_8 ?_
  refine lv_topi (fun x1 ex1 => ?_)
  have tx1 : x1.toInt = nn := by rw [ex1]; exact i32_len (by (first | (apply Int.le_antisymm <;> omega) | omega))
  refine lv_icmp_ge (tgt := 63) hx hb d_NA_add_9 (by decide) (fun c9 => ?_) (fun c9 => ?_)
  · have q9 := leI c9
    have hP9 := hP.sb (wq := (wz_102 h0 tr ns nz nt nv h0_length ns cns nn gns nz cnz nn gnz nt cnt nn gnt nv cnv nn gnv)) [0, 1, 2, 3, 4] rfl
    have hD9 := hD.sb (wq := (wz_102 h0 tr ns nz nt nv h0_length ns cns nn gns nz cnz nn gnz nt cnt nn gnt nv cnv nn gnv)) [0, 1, 2, 3, 4] (by decide) rfl
    exact W.vret hx hb hr (fun t ht hW => ⟨⟨(gns, gnt, gnv, gnz, h0_length), rfl, (⟨fun z => absurd z (by (first | (apply Int.le_antisymm <;> omega) | omega)), fun _ => ⟨rfl, rfl, rfl, rfl, rfl⟩⟩), va_P.he ht.symm hP9, va_K.moved hW.alike hK, hD9⟩, hS.F ht⟩) hS.2.2 d_NA_add_63
  · have q9 := nleI c9
    refine lv_aload_n hx hb d_NA_add_12 rfl (lv_at hl 0 rfl) ?_
    refine va_get (D := (dC, dI)) (ci := 5) (v := .ref ns) (C := R_NA) (T := F_NA) (N := 6) hx hb hts i_NA hown hK hP 0 rfl rfl 1 (by decide) (hts _ kF_NA_13) (fun _ h9 => h9) rfl d_NA_add_13 ?_
    refine lv_aload_n hx hb d_NA_add_16 rfl (lv_at hl 0 rfl) ?_
    refine va_get (D := (dC, dI)) (ci := 5) (v := .int h0_length) (C := R_NA) (T := F_NA) (N := 6) hx hb hts i_NA hown hK hP 0 rfl rfl 5 (by decide) (hts _ kF_NA_27) (fun _ h9 => h9) rfl d_NA_add_17 ?_
    refine lv_iload_n hx hb d_NA_add_20 rfl (lv_at hl 1 rfl) ?_
    have g21 : vp_in h0_length nn := vp_in_iff.mpr ⟨by (first | (apply Int.le_antisymm <;> omega) | omega), by (first | (apply Int.le_antisymm <;> omega) | omega)⟩
    refine va_iast hx hb hK hP hD hS 1 0 rfl rfl g21 d_NA_add_21 (fun H locs hP hD hS => ?_)
    generalize ef2 : upd gns h0_length.toNatClampNeg p0 = f2 at hP hD
    refine lv_aload_n hx hb d_NA_add_22 rfl (lv_at hl 0 rfl) ?_
    refine va_get (D := (dC, dI)) (ci := 5) (v := .ref nz) (C := R_NA) (T := F_NA) (N := 6) hx hb hts i_NA hown hK hP 0 rfl rfl 2 (by decide) (hts _ kF_NA_17) (fun _ h9 => h9) rfl d_NA_add_23 ?_
    refine lv_aload_n hx hb d_NA_add_26 rfl (lv_at hl 0 rfl) ?_
    refine va_get (D := (dC, dI)) (ci := 5) (v := .int h0_length) (C := R_NA) (T := F_NA) (N := 6) hx hb hts i_NA hown hK hP 0 rfl rfl 5 (by decide) (hts _ kF_NA_27) (fun _ h9 => h9) rfl d_NA_add_27 ?_
    refine lv_iload_n hx hb d_NA_add_30 rfl (lv_at hl 2 rfl) ?_
    have g31 : vp_in h0_length nn := vp_in_iff.mpr ⟨by (first | (apply Int.le_antisymm <;> omega) | omega), by (first | (apply Int.le_antisymm <;> omega) | omega)⟩
    refine va_iast hx hb hK hP hD hS 2 1 rfl rfl g31 d_NA_add_31 (fun H locs hP hD hS => ?_)
    generalize ef3 : upd gnz h0_length.toNatClampNeg p1 = f3 at hP hD
    refine lv_aload_n hx hb d_NA_add_32 rfl (lv_at hl 0 rfl) ?_
    refine va_get (D := (dC, dI)) (ci := 5) (v := .ref nt) (C := R_NA) (T := F_NA) (N := 6) hx hb hts i_NA hown hK hP 0 rfl rfl 3 (by decide) (hts _ kF_NA_20) (fun _ h9 => h9) rfl d_NA_add_33 ?_
    refine lv_aload_n hx hb d_NA_add_36 rfl (lv_at hl 0 rfl) ?_
    refine va_get (D := (dC, dI)) (ci := 5) (v := .int h0_length) (C := R_NA) (T := F_NA) (N := 6) hx hb hts i_NA hown hK hP 0 rfl rfl 5 (by decide) (hts _ kF_NA_27) (fun _ h9 => h9) rfl d_NA_add_37 ?_
    refine lv_iload_n hx hb d_NA_add_40 rfl (lv_at hl 3 rfl) ?_
    have g41 : vp_in h0_length nn := vp_in_iff.mpr ⟨by (first | (apply Int.le_antisymm <;> omega) | omega), by (first | (apply Int.le_antisymm <;> omega) | omega)⟩
    refine va_iast hx hb hK hP hD hS 3 2 rfl rfl g41 d_NA_add_41 (fun H locs hP hD hS => ?_)
    generalize ef4 : upd gnt h0_length.toNatClampNeg p2 = f4 at hP hD
    refine lv_aload_n hx hb d_NA_add_42 rfl (lv_at hl 0 rfl) ?_
    refine va_get (D := (dC, dI)) (ci := 5) (v := .ref nv) (C := R_NA) (T := F_NA) (N := 6) hx hb hts i_NA hown hK hP 0 rfl rfl 4 (by decide) (hts _ kF_NA_23) (fun _ h9 => h9) rfl d_NA_add_43 ?_
    refine lv_aload_n hx hb d_NA_add_46 rfl (lv_at hl 0 rfl) ?_
    refine va_get (D := (dC, dI)) (ci := 5) (v := .int h0_length) (C := R_NA) (T := F_NA) (N := 6) hx hb hts i_NA hown hK hP 0 rfl rfl 5 (by decide) (hts _ kF_NA_27) (fun _ h9 => h9) rfl d_NA_add_47 ?_
    refine lv_lload hx hb d_NA_add_50 (lv_at hl 4 rfl) ?_
    have g52 : vp_in h0_length nn := vp_in_iff.mpr ⟨by (first | (apply Int.le_antisymm <;> omega) | omega), by (first | (apply Int.le_antisymm <;> omega) | omega)⟩
    refine va_last hx hb hK hP hD hS 4 3 rfl rfl g52 d_NA_add_52 (fun H locs hP hD hS => ?_)
    generalize ef5 : vp_updL gnv h0_length.toNatClampNeg p3 = f5 at hP hD
    refine lv_aload_n hx hb d_NA_add_53 rfl (lv_at hl 0 rfl) ?_
    refine lv_dup hx hb d_NA_add_54 rfl ?_
    refine va_get (D := (dC, dI)) (ci := 5) (v := .int h0_length) (C := R_NA) (T := F_NA) (N := 6) hx hb hts i_NA hown hK hP 0 rfl rfl 5 (by decide) (hts _ kF_NA_27) (fun _ h9 => h9) rfl d_NA_add_55 ?_
    refine lv_iconst (v := 1) hx hb d_NA_add_58 (by decide) ?_
    refine lv_iadd hx hb d_NA_add_59 ?_
    refine lv_topi (fun x6 ex6 => ?_)
    have tx6 : x6.toInt = h0_length.toInt + 1 := by have z := i32_add ex6 (by (first | (apply Int.le_antisymm <;> omega) | omega)) (by (first | (apply Int.le_antisymm <;> omega) | omega)); first | exact z | (first | (apply Int.le_antisymm <;> omega) | omega)
    refine va_put (D := (dC, dI)) (ci := 5) (v := .int x6) (ty := .int) (C := R_NA) (T := F_NA) (N := 6) hx hb hts i_NA t_NA t_NA_ok n_NA hown hK hP hD hS 0 rfl rfl 5 (by decide) (hts _ kF_NA_27) (fun _ h9 => h9) rfl (by decide +kernel) rfl rfl (Nat.le_of_ble_eq_true rfl) d_NA_add_60 (fun H locs hP hD hS => ?_)
    have hP9 := hP.sb (wq := (wz_102 h0 tr ns nz nt nv x6 ns cns nn f2 nz cnz nn f3 nt cnt nn f4 nv cnv nn f5)) [0, 1, 2, 3, 4] rfl
    have hD9 := hD.sb (wq := (wz_102 h0 tr ns nz nt nv x6 ns cns nn f2 nz cnz nn f3 nt cnt nn f4 nv cnv nn f5)) [0, 1, 2, 3, 4] (by decide) rfl
    exact W.vret hx hb hr (fun t ht hW => ⟨⟨(f2, f4, f5, f3, x6), rfl, (⟨fun _ => ⟨by (try dsimp only); (first | (apply Int.le_antisymm <;> omega) | omega), by (try dsimp only) <;> exact ef2.symm, by (try dsimp only) <;> exact ef3.symm, by (try dsimp only) <;> exact ef4.symm, by (try dsimp only) <;> exact ef5.symm⟩, fun z => absurd z (by (first | (apply Int.le_antisymm <;> omega) | omega))⟩), va_P.he ht.symm hP9, va_K.moved hW.alike hK, hD9⟩, hS.F ht⟩) hS.2.2 d_NA_add_63
abbrev b_NA_indexOf : ByteArray := prog_7_method_3_code
def y_NA_indexOf : MethodName := ⟨R_NA, "indexOf", "(II)I"⟩
abbrev w_NA_indexOf : List Cond := .code y_NA_indexOf b_NA_indexOf 4 (Option.some .int) :: lw_g
theorem kC_NA_indexOf : Cond.code y_NA_indexOf b_NA_indexOf 4 (Option.some .int) ∈ lw_g := in_c5 129 rfl rfl
theorem d_NA_indexOf_0 : decode b_NA_indexOf 0 = .ok (.iconst 0, 1) := bz_c3 (by decide +kernel)
theorem d_NA_indexOf_1 : decode b_NA_indexOf 1 = .ok (.istore_n 3, 1) := bz_c62 (by decide +kernel)
theorem d_NA_indexOf_2 : decode b_NA_indexOf 2 = .ok (.iload_n 3, 1) := bz_c29 (by decide +kernel)
theorem d_NA_indexOf_3 : decode b_NA_indexOf 3 = .ok (.aload_n 0, 1) := bz_c42 (by decide +kernel)
theorem d_NA_indexOf_4 : decode b_NA_indexOf 4 = .ok (.getfield 27, 3) := bz_c180 (by decide +kernel)
theorem d_NA_indexOf_7 : decode b_NA_indexOf 7 = .ok (.if_icmp .ge 39, 3) := bz_c162 (by decide +kernel)
theorem d_NA_indexOf_10 : decode b_NA_indexOf 10 = .ok (.aload_n 0, 1) := bz_c42 (by decide +kernel)
theorem d_NA_indexOf_11 : decode b_NA_indexOf 11 = .ok (.getfield 17, 3) := bz_c180 (by decide +kernel)
theorem d_NA_indexOf_14 : decode b_NA_indexOf 14 = .ok (.iload_n 3, 1) := bz_c29 (by decide +kernel)
theorem d_NA_indexOf_15 : decode b_NA_indexOf 15 = .ok (.iaload, 1) := bz_c46 (by decide +kernel)
theorem d_NA_indexOf_16 : decode b_NA_indexOf 16 = .ok (.iload_n 2, 1) := bz_c28 (by decide +kernel)
theorem d_NA_indexOf_17 : decode b_NA_indexOf 17 = .ok (.if_icmp .ne 23, 3) := bz_c160 (by decide +kernel)
theorem d_NA_indexOf_20 : decode b_NA_indexOf 20 = .ok (.aload_n 0, 1) := bz_c42 (by decide +kernel)
theorem d_NA_indexOf_21 : decode b_NA_indexOf 21 = .ok (.getfield 7, 3) := bz_c180 (by decide +kernel)
theorem d_NA_indexOf_24 : decode b_NA_indexOf 24 = .ok (.aload_n 0, 1) := bz_c42 (by decide +kernel)
theorem d_NA_indexOf_25 : decode b_NA_indexOf 25 = .ok (.getfield 13, 3) := bz_c180 (by decide +kernel)
theorem d_NA_indexOf_28 : decode b_NA_indexOf 28 = .ok (.iload_n 3, 1) := bz_c29 (by decide +kernel)
theorem d_NA_indexOf_29 : decode b_NA_indexOf 29 = .ok (.iaload, 1) := bz_c46 (by decide +kernel)
theorem d_NA_indexOf_30 : decode b_NA_indexOf 30 = .ok (.iload_n 1, 1) := bz_c27 (by decide +kernel)
theorem d_NA_indexOf_31 : decode b_NA_indexOf 31 = .ok (.iload_n 2, 1) := bz_c28 (by decide +kernel)
theorem d_NA_indexOf_32 : decode b_NA_indexOf 32 = .ok (.invokevirtual 31, 3) := bz_c182 (by decide +kernel)
theorem d_NA_indexOf_35 : decode b_NA_indexOf 35 = .ok (.ifCond .eq 5, 3) := bz_c153 (by decide +kernel)
theorem d_NA_indexOf_38 : decode b_NA_indexOf 38 = .ok (.iload_n 3, 1) := bz_c29 (by decide +kernel)
theorem d_NA_indexOf_39 : decode b_NA_indexOf 39 = .ok (.ireturn, 1) := bz_c172 (by decide +kernel)
theorem d_NA_indexOf_40 : decode b_NA_indexOf 40 = .ok (.iinc 3 1, 3) := by decide +kernel
theorem d_NA_indexOf_43 : decode b_NA_indexOf 43 = .ok (.goto (-41), 3) := bz_c167 (by decide +kernel)
theorem d_NA_indexOf_46 : decode b_NA_indexOf 46 = .ok (.iconst (-1), 1) := bz_c2 (by decide +kernel)
theorem d_NA_indexOf_47 : decode b_NA_indexOf 47 = .ok (.ireturn, 1) := bz_c172 (by decide +kernel)
theorem kM_NA_31 : Cond.methodLink R_NA 31 y_BR_samePart ∈ lw_g := in_c5 130 rfl rfl
theorem kF_NA_7 : Cond.fieldLink R_NA 7 "WaferForge$Names" "text" "LWaferForge$ByteRow;" ∈ lw_g := in_c2 74 rfl rfl
abbrev at_NA_indexOf (dC : Nat → ClassId) (dI : Nat → Nat → Nat) (h0 tr ns nz nt nv tx : Nat) (ctx cns cnz : ClassId) (h0_length : Int32) (tr_length : Int32) (gtx : Nat → Int32) (nn : Nat) (gns : Nat → Int32) (gnz : Nat → Int32) (A : Nat → Prop) (u : Unit) (t : State) : Prop := match u with | _ => va_P (dC, dI) cls (wz_103 h0 tr ns nz nt nv h0_length tr tx tr_length tx ctx gtx ns cns nn gns nz cnz nn gnz) t.heap ∧ va_K (dC, dI) cls [(ctx, .byte), (cns, .int), (cnz, .int)] t ∧ va_D A (wz_103 h0 tr ns nz nt nv h0_length tr tx tr_length tx ctx gtx ns cns nn gns nz cnz nn gnz)
set_option maxHeartbeats 4000000 in
set_option maxRecDepth 100000 in
theorem c_NA_indexOf (l : Launch) (dC : Nat → ClassId) (dI : Nat → Nat → Nat) (sz : Nat) (h0 tr ns nz nt nv tx : Nat) (ctx cns cnz : ClassId) (h0_length : Int32) (tr_length : Int32) (gtx : Nat → Int32) (nn : Nat) (gns : Nat → Int32) (gnz : Nat → Int32)  (b_tr_length : 0 ≤ tr_length.toInt ∧ tr_length.toInt ≤ 2000) (p0 : Int32) (p1 : Int32)  (hnl : 0 ≤ h0_length.toInt ∧ h0_length.toInt ≤ nn ∧ nn < 2147483648) (hp : 0 ≤ p1.toInt) : Met l y_NA_indexOf w_NA_indexOf ({ frames := 1, cells := 0, slots := 0, locals := 24 }) (va_Pc [.ref h0, .int p0, .int p1] (fun U => U.heap.size = sz ∧ va_P (dC, dI) cls (wz_103 h0 tr ns nz nt nv h0_length tr tx tr_length tx ctx gtx ns cns nn gns nz cnz nn gnz) U.heap ∧ va_K (dC, dI) cls [(ctx, .byte), (cns, .int), (cnz, .int)] U ∧ va_D (fun _ => True) (wz_103 h0 tr ns nz nt nv h0_length tr tx tr_length tx ctx gtx ns cns nn gns nz cnz nn gnz))) (va_Qi (fun (r : Int32) (u : Unit) => match u with | _ => (-1 ≤ r.toInt ∧ r.toInt < h0_length.toInt)) (at_NA_indexOf dC dI h0 tr ns nz nt nv tx ctx cns cnz h0_length tr_length gtx nn gns gnz (va_A (wz_103 h0 tr ns nz nt nv h0_length tr tx tr_length tx ctx gtx ns cns nn gns nz cnz nn gnz) sz)) (va_A (wz_103 h0 tr ns nz nt nv h0_length tr tx tr_length tx ctx gtx ns cns nn gns nz cnz nn gnz) sz)) 0 0 (va_A (wz_103 h0 tr ns nz nt nv h0_length tr tx tr_length tx ctx gtx ns cns nn gns nz cnz nn gnz) sz) := by
  refine Met.ofW (cc := b_NA_indexOf) (maxL := 4) (ret := (Option.some .int)) (by decide) rfl ?_
  intro p e s m args below meth c s₁ B hml hv
  obtain ⟨rfl, hsz, hP, hK, hD0⟩ := hv
  have hx := B.exec
  have hb := B.bytes
  have hr := B.returns
  have hts0 := atoms_spec (ws := w_NA_indexOf) B.pre
  have hts : ∀ w ∈ lw_g, w.before _ s = true := fun w h => hts0 w (List.mem_cons_of_mem _ h)
  have hown : s.vm.findClass R_NA = some m.cls := findClass_of_methodNamed B.named
  have hlocks := B.notSynchronized
  clear hts0
  subst hsz
  have hD := hD0.self (sz := s.heap.size)
  generalize hAe : va_A (wz_103 h0 tr ns nz nt nv h0_length tr tx tr_length tx ctx gtx ns cns nn gns nz cnz nn gnz) s.heap.size = A at hD ⊢
  have hA : ∀ q : Nat, s.heap.size ≤ q → A q := fun q h => by rw [← hAe]; exact Or.inr h
  clear hAe
  have hP : va_P (dC, dI) cls (wz_103 h0 tr ns nz nt nv h0_length tr tx tr_length tx ctx gtx ns cns nn gns nz cnz nn gnz) s.heap := hP
  have hl := lv_entry ([.ref h0, .int p0, .int p1]) (n := 4) (Nat.le_of_ble_eq_true rfl)
  rw [lg_entry_eq]
  generalize (lg_sl ([.ref h0, .int p0, .int p1]) ++ List.replicate (4 - (lg_sl ([.ref h0, .int p0, .int p1])).length) Slot.unset).toArray = ls at hl ⊢
  have hl : lv_has ls 4 [(0, .ref h0), (1, .int p0), (2, .int p1)] := hl
  have k0 : (0 : Int32).toInt = 0 := by decide
  refine w_gen (A := A) hP (fun H locs hP hS => ?_)
  have km1 : (-1 : Int32).toInt = -1 := by decide
  have k1 : (1 : Int32).toInt = 1 := by decide
  have lo_p0 := i32_lo p0
  have hi_p0 := i32_hi p0
  have lo_p1 := i32_lo p1
  have hi_p1 := i32_hi p1
  refine lv_iconst (v := 0) hx hb d_NA_indexOf_0 (by decide) ?_
  refine lv_istore_n (lv' := [(3, .int 0), (0, .ref h0), (1, .int p0), (2, .int p1)]) hx hb d_NA_indexOf_1 rfl hl (by decide) rfl (fun ls hl => ?_)
  refine w_loop (σ := Int32) (fun u H locs ls => match u with | j2_l3 => (0 ≤ j2_l3.toInt ∧ j2_l3.toInt ≤ h0_length.toInt) ∧ va_P (dC, dI) cls (wz_103 h0 tr ns nz nt nv h0_length tr tx tr_length tx ctx gtx ns cns nn gns nz cnz nn gnz) H ∧ va_D A (wz_103 h0 tr ns nz nt nv h0_length tr tx tr_length tx ctx gtx ns cns nn gns nz cnz nn gnz) ∧ va_S A s.heap H locs ∧ lv_has ls 4 [(0, .ref h0), (1, .int p0), (2, .int p1), (3, .int j2_l3)]) (fun u => match u with | j2_l3 => (h0_length.toInt - j2_l3.toInt).toNat) ?_ 0 ⟨by (try dsimp only) <;> (first | (apply Int.le_antisymm <;> omega) | omega), hP, hD, hS, lv_sub hl [1, 2, 3, 0] rfl⟩
  intro N2 ih2 u H locs ls hN2 hI
  obtain ⟨j2_l3, rfl⟩ : ∃ z, z = u := ⟨_, rfl⟩
  obtain ⟨v1, hP, hD, hS, hl⟩ := hI
  have hN2 : (h0_length.toInt - j2_l3.toInt).toNat < N2 + 1 := hN2
  refine lv_iload_n hx hb d_NA_indexOf_2 rfl (lv_at hl 3 rfl) ?_
  refine lv_aload_n hx hb d_NA_indexOf_3 rfl (lv_at hl 0 rfl) ?_
  refine va_get (D := (dC, dI)) (ci := 5) (v := .int h0_length) (C := R_NA) (T := F_NA) (N := 6) hx hb hts i_NA hown hK hP 0 rfl rfl 5 (by decide) (hts _ kF_NA_27) (fun _ h9 => h9) rfl d_NA_indexOf_4 ?_
  refine lv_icmp_ge (tgt := 46) hx hb d_NA_indexOf_7 (by decide) (fun c7 => ?_) (fun c7 => ?_)
  · have q7 := leI c7
    refine lv_iconst (v := (-1)) hx hb d_NA_indexOf_46 (by decide) ?_
    have hP9 := hP.sb (wq := (wz_103 h0 tr ns nz nt nv h0_length tr tx tr_length tx ctx gtx ns cns nn gns nz cnz nn gnz)) [0, 1, 2, 3, 4] rfl
    have hD9 := hD.sb (wq := (wz_103 h0 tr ns nz nt nv h0_length tr tx tr_length tx ctx gtx ns cns nn gns nz cnz nn gnz)) [0, 1, 2, 3, 4] (by decide) rfl
    exact W.iret (v := ((-1))) hx hb hr (fun t ht hW => ⟨⟨(-1), (), rfl, (by (try dsimp only) <;> (first | (apply Int.le_antisymm <;> omega) | omega)), va_P.he ht.symm hP9, va_K.moved hW.alike hK, hD9⟩, hS.F ht⟩) hS.2.2 d_NA_indexOf_47
  · have q7 := nleI c7
    refine lv_aload_n hx hb d_NA_indexOf_10 rfl (lv_at hl 0 rfl) ?_
    refine va_get (D := (dC, dI)) (ci := 5) (v := .ref nz) (C := R_NA) (T := F_NA) (N := 6) hx hb hts i_NA hown hK hP 0 rfl rfl 2 (by decide) (hts _ kF_NA_17) (fun _ h9 => h9) rfl d_NA_indexOf_11 ?_
    refine lv_iload_n hx hb d_NA_indexOf_14 rfl (lv_at hl 3 rfl) ?_
    have g15 : vp_in j2_l3 nn := vp_in_iff.mpr ⟨by (first | (apply Int.le_antisymm <;> omega) | omega), by (first | (apply Int.le_antisymm <;> omega) | omega)⟩
    refine va_iald hx hb hK hP 4 2 rfl rfl g15 d_NA_indexOf_15 ?_
    refine lv_topi (fun x1 ex1 => ?_)
    refine lv_iload_n hx hb d_NA_indexOf_16 rfl (lv_at hl 2 rfl) ?_
    refine w_cut (pc2 := 40) (σ := Unit) (fun u H locs ls => match u with | _ => va_P (dC, dI) cls (wz_103 h0 tr ns nz nt nv h0_length tr tx tr_length tx ctx gtx ns cns nn gns nz cnz nn gnz) H ∧ va_D A (wz_103 h0 tr ns nz nt nv h0_length tr tx tr_length tx ctx gtx ns cns nn gns nz cnz nn gnz) ∧ va_S A s.heap H locs ∧ lv_has ls 4 [(0, .ref h0), (1, .int p0), (2, .int p1), (3, .int j2_l3)]) (fun u => match u with | _ => []) ?_ (fun jn40 => ?_)
    · intro u H locs ls hI
      obtain ⟨hP, hD, hS, hl⟩ := hI
      obtain ⟨x2, ex2⟩ : ∃ z : Int32, z = j2_l3 + 1 := ⟨_, rfl⟩
      have tx2 : x2.toInt = j2_l3.toInt + 1 := by have z := i32_add ex2 (by (first | (apply Int.le_antisymm <;> omega) | omega)) (by (first | (apply Int.le_antisymm <;> omega) | omega)); first | exact z | (first | (apply Int.le_antisymm <;> omega) | omega)
      refine lv_iinc (v := x2) (lv' := [(3, .int x2), (0, .ref h0), (1, .int p0), (2, .int p1)]) hx hb d_NA_indexOf_40 hl (k := 3) rfl (by rw [ex2]; rfl) (by decide) rfl (fun ls hl => ?_)
      refine lv_goto (tgt := 2) hx hb d_NA_indexOf_43 (by decide) ?_
      exact ih2 x2 _ _ _ (by show (h0_length.toInt - x2.toInt).toNat < N2; (first | (apply Int.le_antisymm <;> omega) | omega)) ⟨by (try dsimp only) <;> (first | (apply Int.le_antisymm <;> omega) | omega), hP, hD, hS, lv_sub hl [1, 2, 3, 0] rfl⟩
    · skip
      refine lv_icmp_ne (tgt := 40) hx hb d_NA_indexOf_17 (by decide) (fun c17 => ?_) (fun c17 => ?_)
      · have q17 := neI c17
        exact jn40 () _ _ _ ⟨hP, hD, hS, lv_sub hl [0, 1, 2, 3] rfl⟩
      · have q17 := eqI c17
        refine lv_aload_n hx hb d_NA_indexOf_20 rfl (lv_at hl 0 rfl) ?_
        refine va_get (D := (dC, dI)) (ci := 5) (v := .ref tr) (C := R_NA) (T := F_NA) (N := 6) hx hb hts i_NA hown hK hP 0 rfl rfl 0 (by decide) (hts _ kF_NA_7) (fun _ h9 => h9) rfl d_NA_indexOf_21 ?_
        refine lv_aload_n hx hb d_NA_indexOf_24 rfl (lv_at hl 0 rfl) ?_
        refine va_get (D := (dC, dI)) (ci := 5) (v := .ref ns) (C := R_NA) (T := F_NA) (N := 6) hx hb hts i_NA hown hK hP 0 rfl rfl 1 (by decide) (hts _ kF_NA_13) (fun _ h9 => h9) rfl d_NA_indexOf_25 ?_
        refine lv_iload_n hx hb d_NA_indexOf_28 rfl (lv_at hl 3 rfl) ?_
        have g29 : vp_in j2_l3 nn := vp_in_iff.mpr ⟨by (first | (apply Int.le_antisymm <;> omega) | omega), by (first | (apply Int.le_antisymm <;> omega) | omega)⟩
        refine va_iald hx hb hK hP 3 1 rfl rfl g29 d_NA_indexOf_29 ?_
        refine lv_topi (fun x3 ex3 => ?_)
        refine lv_iload_n hx hb d_NA_indexOf_30 rfl (lv_at hl 1 rfl) ?_
        refine lv_iload_n hx hb d_NA_indexOf_31 rfl (lv_at hl 2 rfl) ?_
        have hPc := hP.sb (wq := [(tr, .inr (1, [.ref tx, .int tr_length])), (tx, .inl (ctx, 2000, .inl gtx))]) [1, 2] rfl
        have hDc := hD.sb (wq := [(tr, .inr (1, [.ref tx, .int tr_length])), (tx, .inl (ctx, 2000, .inl gtx))]) [1, 2] (by decide) rfl
        have hKc := hK.sb (tyq := [(ctx, .byte)]) [0] rfl
        have hFc := va_free (wc := [(tr, .inr (1, [.ref tx, .int tr_length])), (tx, .inl (ctx, 2000, .inl gtx))]) hD hS hA [1, 2] rfl
        refine va_calli (va_runV (As := [.int x3, .int p0, .int p1]) (rest := []) ⟨hx, hb, hml, hown, hts⟩ (c_BR_samePart l dC dI tr tx H.size ctx 2000 tr_length gtx (by (first | (apply Int.le_antisymm <;> omega) | omega)) (by (first | (apply Int.le_antisymm <;> omega) | omega)) (by (first | (apply Int.le_antisymm <;> omega) | omega)) x3 p0 p1 (by (first | (apply Int.le_antisymm <;> omega) | omega))) (cwV 3 hts (gV kM_NA_31 kV_BR_samePart kS_BR_samePart kI_BR kC_BR_samePart) rfl rfl rfl (by decide +kernel) ⟨Nat.le_of_ble_eq_true rfl, Nat.le_of_ble_eq_true rfl⟩) ⟨fun a U g mk z => by obtain ⟨z0, z1, zP, zK, zD⟩ := z; exact ⟨z0, z1, zP, va_K.moved (u := U) (U := U.calling g mk a) (Vm.Alike.refl U.vm) zK, zD⟩, va_recv hKc hPc (ci := 1) (q0 := 0) rfl rfl, fun U hU hW => ⟨rfl, by rw [hU], va_P.he hU.symm hPc, va_K.moved hW.alike hKc, hDc.weaken (fun _ _ _ _ => trivial)⟩⟩ rfl rfl hl.1 rfl (lv_room (Nat.le_of_ble_eq_true rfl)) d_NA_indexOf_32 ⟨(Nat.zero_le _), (Nat.zero_le _)⟩) hS (fun q _ h => hFc q h) hFc (fun r4 u t H1 locs ht hvm hw hB hz1 hk1 hS => ?_)
        obtain ⟨er4, rfl⟩ := hw
        obtain ⟨hP1, hK1, hD1⟩ := hB
        replace hP1 := va_P.he ht hP1
        obtain ⟨hP, hD⟩ := va_join (wr := [(h0, .inr (5, [.ref tr, .ref ns, .ref nz, .ref nt, .ref nv, .int h0_length])), (ns, .inl (cns, nn, .inl gns)), (nz, .inl (cnz, nn, .inl gnz))]) (w1 := [(tr, .inr (1, [.ref tx, .int tr_length])), (tx, .inl (ctx, 2000, .inl gtx))]) hP hD [1, 2] [0, 3, 4] rfl rfl (by decide) (by decide) hk1 hFc hP1 hD1
        clear hPc hDc hKc hFc hz1 hk1 hP1 hK1 hD1
        rename Heap => H
        have hP : va_P (dC, dI) cls [(h0, .inr (5, [.ref tr, .ref ns, .ref nz, .ref nt, .ref nv, .int h0_length])), (ns, .inl (cns, nn, .inl gns)), (nz, .inl (cnz, nn, .inl gnz)), (tr, .inr (1, [.ref tx, .int tr_length])), (tx, .inl (ctx, 2000, .inl gtx))] H := hP
        have hD : va_D A [(h0, .inr (5, [.ref tr, .ref ns, .ref nz, .ref nt, .ref nv, .int h0_length])), (ns, .inl (cns, nn, .inl gns)), (nz, .inl (cnz, nn, .inl gnz)), (tr, .inr (1, [.ref tx, .int tr_length])), (tx, .inl (ctx, 2000, .inl gtx))] := hD
        refine lv_if_eq (tgt := 40) hx hb d_NA_indexOf_35 (by decide) (fun c35 => ?_) (fun c35 => ?_)
        · have q35 := eqI c35
          exact jn40 () _ _ _ ⟨hP.sub [0, 3, 4, 1, 2] rfl, hD.sub [0, 3, 4, 1, 2] (by decide) rfl, hS, lv_sub hl [0, 1, 2, 3] rfl⟩
        · have q35 := neI c35
          refine lv_iload_n hx hb d_NA_indexOf_38 rfl (lv_at hl 3 rfl) ?_
          have hP9 := hP.sb (wq := (wz_103 h0 tr ns nz nt nv h0_length tr tx tr_length tx ctx gtx ns cns nn gns nz cnz nn gnz)) [0, 3, 4, 1, 2] rfl
          have hD9 := hD.sb (wq := (wz_103 h0 tr ns nz nt nv h0_length tr tx tr_length tx ctx gtx ns cns nn gns nz cnz nn gnz)) [0, 3, 4, 1, 2] (by decide) rfl
          exact W.iret (v := j2_l3) hx hb hr (fun t ht hW => ⟨⟨j2_l3, (), rfl, (by (try dsimp only) <;> (first | (apply Int.le_antisymm <;> omega) | omega)), va_P.he ht.symm hP9, va_K.moved hW.alike hK, hD9⟩, hS.F ht⟩) hS.2.2 d_NA_indexOf_39
abbrev b_NA_firstRepeated : ByteArray := prog_7_method_4_code
def y_NA_firstRepeated : MethodName := ⟨R_NA, "firstRepeated", "()I"⟩
abbrev w_NA_firstRepeated : List Cond := .code y_NA_firstRepeated b_NA_firstRepeated 2 (Option.some .int) :: lw_g
theorem kC_NA_firstRepeated : Cond.code y_NA_firstRepeated b_NA_firstRepeated 2 (Option.some .int) ∈ lw_g := in_c5 125 rfl rfl
theorem d_NA_firstRepeated_0 : decode b_NA_firstRepeated 0 = .ok (.iconst 0, 1) := bz_c3 (by decide +kernel)
theorem d_NA_firstRepeated_1 : decode b_NA_firstRepeated 1 = .ok (.istore_n 1, 1) := bz_c60 (by decide +kernel)
theorem d_NA_firstRepeated_2 : decode b_NA_firstRepeated 2 = .ok (.iload_n 1, 1) := bz_c27 (by decide +kernel)
theorem d_NA_firstRepeated_3 : decode b_NA_firstRepeated 3 = .ok (.aload_n 0, 1) := bz_c42 (by decide +kernel)
theorem d_NA_firstRepeated_4 : decode b_NA_firstRepeated 4 = .ok (.getfield 27, 3) := bz_c180 (by decide +kernel)
theorem d_NA_firstRepeated_7 : decode b_NA_firstRepeated 7 = .ok (.if_icmp .ge 31, 3) := bz_c162 (by decide +kernel)
theorem d_NA_firstRepeated_10 : decode b_NA_firstRepeated 10 = .ok (.aload_n 0, 1) := bz_c42 (by decide +kernel)
theorem d_NA_firstRepeated_11 : decode b_NA_firstRepeated 11 = .ok (.aload_n 0, 1) := bz_c42 (by decide +kernel)
theorem d_NA_firstRepeated_12 : decode b_NA_firstRepeated 12 = .ok (.getfield 13, 3) := bz_c180 (by decide +kernel)
theorem d_NA_firstRepeated_15 : decode b_NA_firstRepeated 15 = .ok (.iload_n 1, 1) := bz_c27 (by decide +kernel)
theorem d_NA_firstRepeated_16 : decode b_NA_firstRepeated 16 = .ok (.iaload, 1) := bz_c46 (by decide +kernel)
theorem d_NA_firstRepeated_17 : decode b_NA_firstRepeated 17 = .ok (.aload_n 0, 1) := bz_c42 (by decide +kernel)
theorem d_NA_firstRepeated_18 : decode b_NA_firstRepeated 18 = .ok (.getfield 17, 3) := bz_c180 (by decide +kernel)
theorem d_NA_firstRepeated_21 : decode b_NA_firstRepeated 21 = .ok (.iload_n 1, 1) := bz_c27 (by decide +kernel)
theorem d_NA_firstRepeated_22 : decode b_NA_firstRepeated 22 = .ok (.iaload, 1) := bz_c46 (by decide +kernel)
theorem d_NA_firstRepeated_23 : decode b_NA_firstRepeated 23 = .ok (.invokevirtual 37, 3) := bz_c182 (by decide +kernel)
theorem d_NA_firstRepeated_26 : decode b_NA_firstRepeated 26 = .ok (.iload_n 1, 1) := bz_c27 (by decide +kernel)
theorem d_NA_firstRepeated_27 : decode b_NA_firstRepeated 27 = .ok (.if_icmp .ge 5, 3) := bz_c162 (by decide +kernel)
theorem d_NA_firstRepeated_30 : decode b_NA_firstRepeated 30 = .ok (.iload_n 1, 1) := bz_c27 (by decide +kernel)
theorem d_NA_firstRepeated_31 : decode b_NA_firstRepeated 31 = .ok (.ireturn, 1) := bz_c172 (by decide +kernel)
theorem d_NA_firstRepeated_32 : decode b_NA_firstRepeated 32 = .ok (.iinc 1 1, 3) := by decide +kernel
theorem d_NA_firstRepeated_35 : decode b_NA_firstRepeated 35 = .ok (.goto (-33), 3) := bz_c167 (by decide +kernel)
theorem d_NA_firstRepeated_38 : decode b_NA_firstRepeated 38 = .ok (.iconst (-1), 1) := bz_c2 (by decide +kernel)
theorem d_NA_firstRepeated_39 : decode b_NA_firstRepeated 39 = .ok (.ireturn, 1) := bz_c172 (by decide +kernel)
theorem kM_NA_37 : Cond.methodLink R_NA 37 y_NA_indexOf ∈ lw_g := in_c5 126 rfl rfl
theorem kV_NA_indexOf : Cond.instanceMethod y_NA_indexOf ∈ lw_g := in_c5 127 rfl rfl
theorem kS_NA_indexOf : Cond.selects R_NA y_NA_indexOf y_NA_indexOf ∈ lw_g := in_c5 128 rfl rfl
abbrev at_NA_firstRepeated (dC : Nat → ClassId) (dI : Nat → Nat → Nat) (h0 tr ns nz nt nv tx : Nat) (ctx cns cnz : ClassId) (h0_length : Int32) (tr_length : Int32) (gtx : Nat → Int32) (nn : Nat) (gns : Nat → Int32) (gnz : Nat → Int32) (A : Nat → Prop) (u : Unit) (t : State) : Prop := match u with | _ => va_P (dC, dI) cls (wz_103 h0 tr ns nz nt nv h0_length tr tx tr_length tx ctx gtx ns cns nn gns nz cnz nn gnz) t.heap ∧ va_K (dC, dI) cls [(ctx, .byte), (cns, .int), (cnz, .int)] t ∧ va_D A (wz_103 h0 tr ns nz nt nv h0_length tr tx tr_length tx ctx gtx ns cns nn gns nz cnz nn gnz)
set_option maxHeartbeats 4000000 in
set_option maxRecDepth 100000 in
theorem c_NA_firstRepeated (l : Launch) (dC : Nat → ClassId) (dI : Nat → Nat → Nat) (sz : Nat) (h0 tr ns nz nt nv tx : Nat) (ctx cns cnz : ClassId) (h0_length : Int32) (tr_length : Int32) (gtx : Nat → Int32) (nn : Nat) (gns : Nat → Int32) (gnz : Nat → Int32)  (b_tr_length : 0 ≤ tr_length.toInt ∧ tr_length.toInt ≤ 2000)   (hnl : 0 ≤ h0_length.toInt ∧ h0_length.toInt ≤ nn ∧ nn < 2147483648) (hz : ∀ j : Nat, (j : Int) < h0_length.toInt → 0 ≤ (gnz j).toInt) : Met l y_NA_firstRepeated w_NA_firstRepeated ({ frames := 2, cells := 0, slots := 0, locals := 47 }) (va_Pc [.ref h0] (fun U => U.heap.size = sz ∧ va_P (dC, dI) cls (wz_103 h0 tr ns nz nt nv h0_length tr tx tr_length tx ctx gtx ns cns nn gns nz cnz nn gnz) U.heap ∧ va_K (dC, dI) cls [(ctx, .byte), (cns, .int), (cnz, .int)] U ∧ va_D (fun _ => True) (wz_103 h0 tr ns nz nt nv h0_length tr tx tr_length tx ctx gtx ns cns nn gns nz cnz nn gnz))) (va_Qi (fun (r : Int32) (u : Unit) => match u with | _ => (-1 ≤ r.toInt ∧ r.toInt < h0_length.toInt)) (at_NA_firstRepeated dC dI h0 tr ns nz nt nv tx ctx cns cnz h0_length tr_length gtx nn gns gnz (va_A (wz_103 h0 tr ns nz nt nv h0_length tr tx tr_length tx ctx gtx ns cns nn gns nz cnz nn gnz) sz)) (va_A (wz_103 h0 tr ns nz nt nv h0_length tr tx tr_length tx ctx gtx ns cns nn gns nz cnz nn gnz) sz)) 0 0 (va_A (wz_103 h0 tr ns nz nt nv h0_length tr tx tr_length tx ctx gtx ns cns nn gns nz cnz nn gnz) sz) := by
  refine Met.ofW (cc := b_NA_firstRepeated) (maxL := 2) (ret := (Option.some .int)) (by decide) rfl ?_
  intro p e s m args below meth c s₁ B hml hv
  obtain ⟨rfl, hsz, hP, hK, hD0⟩ := hv
  have hx := B.exec
  have hb := B.bytes
  have hr := B.returns
  have hts0 := atoms_spec (ws := w_NA_firstRepeated) B.pre
  have hts : ∀ w ∈ lw_g, w.before _ s = true := fun w h => hts0 w (List.mem_cons_of_mem _ h)
  have hown : s.vm.findClass R_NA = some m.cls := findClass_of_methodNamed B.named
  have hlocks := B.notSynchronized
  clear hts0
  subst hsz
  have hD := hD0.self (sz := s.heap.size)
  generalize hAe : va_A (wz_103 h0 tr ns nz nt nv h0_length tr tx tr_length tx ctx gtx ns cns nn gns nz cnz nn gnz) s.heap.size = A at hD ⊢
  have hA : ∀ q : Nat, s.heap.size ≤ q → A q := fun q h => by rw [← hAe]; exact Or.inr h
  clear hAe
  have hP : va_P (dC, dI) cls (wz_103 h0 tr ns nz nt nv h0_length tr tx tr_length tx ctx gtx ns cns nn gns nz cnz nn gnz) s.heap := hP
  have hl := lv_entry ([.ref h0]) (n := 2) (Nat.le_of_ble_eq_true rfl)
  rw [lg_entry_eq]
  generalize (lg_sl ([.ref h0]) ++ List.replicate (2 - (lg_sl ([.ref h0])).length) Slot.unset).toArray = ls at hl ⊢
  have hl : lv_has ls 2 [(0, .ref h0)] := hl
  have k0 : (0 : Int32).toInt = 0 := by decide
  refine w_gen (A := A) hP (fun H locs hP hS => ?_)
  have km1 : (-1 : Int32).toInt = -1 := by decide
  have k1 : (1 : Int32).toInt = 1 := by decide
  refine lv_iconst (v := 0) hx hb d_NA_firstRepeated_0 (by decide) ?_
  refine lv_istore_n (lv' := [(1, .int 0), (0, .ref h0)]) hx hb d_NA_firstRepeated_1 rfl hl (by decide) rfl (fun ls hl => ?_)
  refine w_loop (σ := Int32) (fun u H locs ls => match u with | j2_l1 => (0 ≤ j2_l1.toInt ∧ j2_l1.toInt ≤ h0_length.toInt) ∧ va_P (dC, dI) cls (wz_103 h0 tr ns nz nt nv h0_length tr tx tr_length tx ctx gtx ns cns nn gns nz cnz nn gnz) H ∧ va_D A (wz_103 h0 tr ns nz nt nv h0_length tr tx tr_length tx ctx gtx ns cns nn gns nz cnz nn gnz) ∧ va_S A s.heap H locs ∧ lv_has ls 2 [(0, .ref h0), (1, .int j2_l1)]) (fun u => match u with | j2_l1 => (h0_length.toInt - j2_l1.toInt).toNat) ?_ 0 ⟨by (try dsimp only) <;> (first | (apply Int.le_antisymm <;> omega) | omega), hP, hD, hS, lv_sub hl [1, 0] rfl⟩
  intro N2 ih2 u H locs ls hN2 hI
  obtain ⟨j2_l1, rfl⟩ : ∃ z, z = u := ⟨_, rfl⟩
  obtain ⟨v1, hP, hD, hS, hl⟩ := hI
  have hN2 : (h0_length.toInt - j2_l1.toInt).toNat < N2 + 1 := hN2
  refine lv_iload_n hx hb d_NA_firstRepeated_2 rfl (lv_at hl 1 rfl) ?_
  refine lv_aload_n hx hb d_NA_firstRepeated_3 rfl (lv_at hl 0 rfl) ?_
  refine va_get (D := (dC, dI)) (ci := 5) (v := .int h0_length) (C := R_NA) (T := F_NA) (N := 6) hx hb hts i_NA hown hK hP 0 rfl rfl 5 (by decide) (hts _ kF_NA_27) (fun _ h9 => h9) rfl d_NA_firstRepeated_4 ?_
  refine lv_icmp_ge (tgt := 38) hx hb d_NA_firstRepeated_7 (by decide) (fun c7 => ?_) (fun c7 => ?_)
  · have q7 := leI c7
    refine lv_iconst (v := (-1)) hx hb d_NA_firstRepeated_38 (by decide) ?_
    have hP9 := hP.sb (wq := (wz_103 h0 tr ns nz nt nv h0_length tr tx tr_length tx ctx gtx ns cns nn gns nz cnz nn gnz)) [0, 1, 2, 3, 4] rfl
    have hD9 := hD.sb (wq := (wz_103 h0 tr ns nz nt nv h0_length tr tx tr_length tx ctx gtx ns cns nn gns nz cnz nn gnz)) [0, 1, 2, 3, 4] (by decide) rfl
    exact W.iret (v := ((-1))) hx hb hr (fun t ht hW => ⟨⟨(-1), (), rfl, (by (try dsimp only) <;> (first | (apply Int.le_antisymm <;> omega) | omega)), va_P.he ht.symm hP9, va_K.moved hW.alike hK, hD9⟩, hS.F ht⟩) hS.2.2 d_NA_firstRepeated_39
  · have q7 := nleI c7
    refine lv_aload_n hx hb d_NA_firstRepeated_10 rfl (lv_at hl 0 rfl) ?_
    refine lv_aload_n hx hb d_NA_firstRepeated_11 rfl (lv_at hl 0 rfl) ?_
    refine va_get (D := (dC, dI)) (ci := 5) (v := .ref ns) (C := R_NA) (T := F_NA) (N := 6) hx hb hts i_NA hown hK hP 0 rfl rfl 1 (by decide) (hts _ kF_NA_13) (fun _ h9 => h9) rfl d_NA_firstRepeated_12 ?_
    refine lv_iload_n hx hb d_NA_firstRepeated_15 rfl (lv_at hl 1 rfl) ?_
    have g16 : vp_in j2_l1 nn := vp_in_iff.mpr ⟨by (first | (apply Int.le_antisymm <;> omega) | omega), by (first | (apply Int.le_antisymm <;> omega) | omega)⟩
    refine va_iald hx hb hK hP 3 1 rfl rfl g16 d_NA_firstRepeated_16 ?_
    refine lv_topi (fun x1 ex1 => ?_)
    refine lv_aload_n hx hb d_NA_firstRepeated_17 rfl (lv_at hl 0 rfl) ?_
    refine va_get (D := (dC, dI)) (ci := 5) (v := .ref nz) (C := R_NA) (T := F_NA) (N := 6) hx hb hts i_NA hown hK hP 0 rfl rfl 2 (by decide) (hts _ kF_NA_17) (fun _ h9 => h9) rfl d_NA_firstRepeated_18 ?_
    refine lv_iload_n hx hb d_NA_firstRepeated_21 rfl (lv_at hl 1 rfl) ?_
    have g22 : vp_in j2_l1 nn := vp_in_iff.mpr ⟨by (first | (apply Int.le_antisymm <;> omega) | omega), by (first | (apply Int.le_antisymm <;> omega) | omega)⟩
    refine va_iald hx hb hK hP 4 2 rfl rfl g22 d_NA_firstRepeated_22 ?_
    refine lv_topi (fun x2 ex2 => ?_)
    have tx2 := hz j2_l1.toNatClampNeg (by have := i32_clamp (x := j2_l1) (by (first | (apply Int.le_antisymm <;> omega) | omega)); (first | (apply Int.le_antisymm <;> omega) | omega))
    rw [← ex2] at tx2
    have hPc := hP.sb (wq := (wz_103 h0 tr ns nz nt nv h0_length tr tx tr_length tx ctx gtx ns cns nn gns nz cnz nn gnz)) [0, 1, 2, 3, 4] rfl
    have hDc := hD.sb (wq := (wz_103 h0 tr ns nz nt nv h0_length tr tx tr_length tx ctx gtx ns cns nn gns nz cnz nn gnz)) [0, 1, 2, 3, 4] (by decide) rfl
    have hKc := hK.sb (tyq := [(ctx, .byte), (cns, .int), (cnz, .int)]) [0, 1, 2] rfl
    have hFc := va_free (wc := (wz_103 h0 tr ns nz nt nv h0_length tr tx tr_length tx ctx gtx ns cns nn gns nz cnz nn gnz)) hD hS hA [0, 1, 2, 3, 4] rfl
    refine va_calli (va_runV (As := [.int x1, .int x2]) (rest := []) ⟨hx, hb, hml, hown, hts⟩ (c_NA_indexOf l dC dI H.size h0 tr ns nz nt nv tx ctx cns cnz h0_length tr_length gtx nn gns gnz (b_tr_length) x1 x2 (by (try dsimp only) <;> (first | (apply Int.le_antisymm <;> omega) | omega)) (by (try dsimp only) <;> (first | (apply Int.le_antisymm <;> omega) | omega))) (cwV 2 hts (gV kM_NA_37 kV_NA_indexOf kS_NA_indexOf kI_NA kC_NA_indexOf) rfl rfl rfl (by decide +kernel) ⟨Nat.le_of_ble_eq_true rfl, Nat.le_of_ble_eq_true rfl⟩) ⟨fun a U g mk z => by obtain ⟨z0, z1, zP, zK, zD⟩ := z; exact ⟨z0, z1, zP, va_K.moved (u := U) (U := U.calling g mk a) (Vm.Alike.refl U.vm) zK, zD⟩, va_recv hKc hPc (ci := 5) (q0 := 0) rfl rfl, fun U hU hW => ⟨rfl, by rw [hU], va_P.he hU.symm hPc, va_K.moved hW.alike hKc, hDc.weaken (fun _ _ _ _ => trivial)⟩⟩ rfl rfl hl.1 rfl (lv_room (Nat.le_of_ble_eq_true rfl)) d_NA_firstRepeated_23 ⟨(Nat.zero_le _), (Nat.zero_le _)⟩) hS (fun q _ h => hFc q h) hFc (fun r3 u t H1 locs ht hvm hw hB hz1 hk1 hS => ?_)
    try dsimp only at hw
    have xr3 := hw
    try clear hw
    obtain ⟨hP1, hK1, hD1⟩ := hB
    replace hP1 := va_P.he ht hP1
    obtain ⟨hP, hD⟩ := va_join (wr := []) (w1 := (wz_103 h0 tr ns nz nt nv h0_length tr tx tr_length tx ctx gtx ns cns nn gns nz cnz nn gnz)) hP hD [0, 1, 2, 3, 4] [] rfl rfl (by decide) (by decide) hk1 hFc hP1 hD1
    clear hPc hDc hKc hFc hz1 hk1 hP1 hK1 hD1
    rename Heap => H
    have hP : va_P (dC, dI) cls (wz_103 h0 tr ns nz nt nv h0_length tr tx tr_length tx ctx gtx ns cns nn gns nz cnz nn gnz) H := hP
    have hD : va_D A (wz_103 h0 tr ns nz nt nv h0_length tr tx tr_length tx ctx gtx ns cns nn gns nz cnz nn gnz) := hD
    refine lv_iload_n hx hb d_NA_firstRepeated_26 rfl (lv_at hl 1 rfl) ?_
    refine lv_icmp_ge (tgt := 32) hx hb d_NA_firstRepeated_27 (by decide) (fun c27 => ?_) (fun c27 => ?_)
    · have q27 := leI c27
      obtain ⟨x4, ex4⟩ : ∃ z : Int32, z = j2_l1 + 1 := ⟨_, rfl⟩
      have tx4 : x4.toInt = j2_l1.toInt + 1 := by have z := i32_add ex4 (by (first | (apply Int.le_antisymm <;> omega) | omega)) (by (first | (apply Int.le_antisymm <;> omega) | omega)); first | exact z | (first | (apply Int.le_antisymm <;> omega) | omega)
      refine lv_iinc (v := x4) (lv' := [(1, .int x4), (0, .ref h0)]) hx hb d_NA_firstRepeated_32 hl (k := 1) rfl (by rw [ex4]; rfl) (by decide) rfl (fun ls hl => ?_)
      refine lv_goto (tgt := 2) hx hb d_NA_firstRepeated_35 (by decide) ?_
      exact ih2 x4 _ _ _ (by show (h0_length.toInt - x4.toInt).toNat < N2; (first | (apply Int.le_antisymm <;> omega) | omega)) ⟨by (try dsimp only) <;> (first | (apply Int.le_antisymm <;> omega) | omega), hP, hD, hS, lv_sub hl [1, 0] rfl⟩
    · have q27 := nleI c27
      refine lv_iload_n hx hb d_NA_firstRepeated_30 rfl (lv_at hl 1 rfl) ?_
      have hP9 := hP.sb (wq := (wz_103 h0 tr ns nz nt nv h0_length tr tx tr_length tx ctx gtx ns cns nn gns nz cnz nn gnz)) [0, 1, 2, 3, 4] rfl
      have hD9 := hD.sb (wq := (wz_103 h0 tr ns nz nt nv h0_length tr tx tr_length tx ctx gtx ns cns nn gns nz cnz nn gnz)) [0, 1, 2, 3, 4] (by decide) rfl
      exact W.iret (v := j2_l1) hx hb hr (fun t ht hW => ⟨⟨j2_l1, (), rfl, (by (try dsimp only) <;> (first | (apply Int.le_antisymm <;> omega) | omega)), va_P.he ht.symm hP9, va_K.moved hW.alike hK, hD9⟩, hS.F ht⟩) hS.2.2 d_NA_firstRepeated_31
abbrev b_BR_holds : ByteArray := prog_3_method_11_code
def y_BR_holds : MethodName := ⟨R_BR, "holds", "(ILjava/lang/String;)Z"⟩
abbrev w_BR_holds : List Cond := .code y_BR_holds b_BR_holds 4 (Option.some .boolean) :: lw_g
theorem kC_BR_holds : Cond.code y_BR_holds b_BR_holds 4 (Option.some .boolean) ∈ lw_g := in_c4 99 rfl rfl
theorem d_BR_holds_0 : decode b_BR_holds 0 = .ok (.iconst 0, 1) := bz_c3 (by decide +kernel)
theorem d_BR_holds_1 : decode b_BR_holds 1 = .ok (.istore_n 3, 1) := bz_c62 (by decide +kernel)
theorem d_BR_holds_2 : decode b_BR_holds 2 = .ok (.iload_n 3, 1) := bz_c29 (by decide +kernel)
theorem d_BR_holds_3 : decode b_BR_holds 3 = .ok (.aload_n 2, 1) := bz_c44 (by decide +kernel)
theorem d_BR_holds_4 : decode b_BR_holds 4 = .ok (.invokevirtual 27, 3) := bz_c182 (by decide +kernel)
theorem d_BR_holds_7 : decode b_BR_holds 7 = .ok (.if_icmp .ge 26, 3) := bz_c162 (by decide +kernel)
theorem d_BR_holds_10 : decode b_BR_holds 10 = .ok (.aload_n 0, 1) := bz_c42 (by decide +kernel)
theorem d_BR_holds_11 : decode b_BR_holds 11 = .ok (.iload_n 1, 1) := bz_c27 (by decide +kernel)
theorem d_BR_holds_12 : decode b_BR_holds 12 = .ok (.iload_n 3, 1) := bz_c29 (by decide +kernel)
theorem d_BR_holds_13 : decode b_BR_holds 13 = .ok (.iadd, 1) := bz_c96 (by decide +kernel)
theorem d_BR_holds_14 : decode b_BR_holds 14 = .ok (.invokevirtual 36, 3) := bz_c182 (by decide +kernel)
theorem d_BR_holds_17 : decode b_BR_holds 17 = .ok (.aload_n 2, 1) := bz_c44 (by decide +kernel)
theorem d_BR_holds_18 : decode b_BR_holds 18 = .ok (.iload_n 3, 1) := bz_c29 (by decide +kernel)
theorem d_BR_holds_19 : decode b_BR_holds 19 = .ok (.invokevirtual 32, 3) := bz_c182 (by decide +kernel)
theorem d_BR_holds_22 : decode b_BR_holds 22 = .ok (.if_icmp .eq 5, 3) := bz_c159 (by decide +kernel)
theorem d_BR_holds_25 : decode b_BR_holds 25 = .ok (.iconst 0, 1) := bz_c3 (by decide +kernel)
theorem d_BR_holds_26 : decode b_BR_holds 26 = .ok (.ireturn, 1) := bz_c172 (by decide +kernel)
theorem d_BR_holds_27 : decode b_BR_holds 27 = .ok (.iinc 3 1, 3) := by decide +kernel
theorem d_BR_holds_30 : decode b_BR_holds 30 = .ok (.goto (-28), 3) := bz_c167 (by decide +kernel)
theorem d_BR_holds_33 : decode b_BR_holds 33 = .ok (.iconst 1, 1) := bz_c4 (by decide +kernel)
theorem d_BR_holds_34 : decode b_BR_holds 34 = .ok (.ireturn, 1) := bz_c172 (by decide +kernel)
theorem kM_BR_27 : Cond.methodLink R_BR 27 y_JS_length ∈ lw_g := in_c4 100 rfl rfl
theorem kV_JS_length : Cond.instanceMethod y_JS_length ∈ lw_g := in_c4 87 rfl rfl
theorem kS_JS_length : Cond.selects R_JS y_JS_length y_JS_length ∈ lw_g := in_c4 88 rfl rfl
theorem kM_BR_32 : Cond.methodLink R_BR 32 y_JS_charAt ∈ lw_g := in_c4 102 rfl rfl
theorem kV_JS_charAt : Cond.instanceMethod y_JS_charAt ∈ lw_g := in_c4 103 rfl rfl
theorem kS_JS_charAt : Cond.selects R_JS y_JS_charAt y_JS_charAt ∈ lw_g := in_c4 104 rfl rfl
abbrev at_BR_holds (dC : Nat → ClassId) (dI : Nat → Nat → Nat) (h0 ax : Nat) (cax : ClassId) (h0_length : Int32) (nax : Nat) (gax : Nat → Int32) (A : Nat → Prop) (u : Unit) (t : State) : Prop := match u with | _ => va_P (dC, dI) cls [(h0, .inr (1, [.ref ax, .int h0_length])), (ax, .inl (cax, nax, .inl gax))] t.heap ∧ va_K (dC, dI) cls [(cax, .byte)] t ∧ va_D A [(h0, .inr (1, [.ref ax, .int h0_length])), (ax, .inl (cax, nax, .inl gax))]
set_option maxHeartbeats 4000000 in
set_option maxRecDepth 100000 in
theorem c_BR_holds (l : Launch) (dC : Nat → ClassId) (dI : Nat → Nat → Nat) (sz : Nat) (sa : Nat → Nat) (wt wv : Nat) (wb : List Int32) (h0 ax : Nat) (cax : ClassId) (h0_length : Int32) (nax : Nat) (gax : Nat → Int32)   (p0 : Int32)  (hbr : 0 ≤ h0_length.toInt ∧ h0_length.toInt ≤ nax ∧ nax < 2147483648) (hbl : (wb.length : Int) < 65536) (hp : 0 ≤ p0.toInt ∧ p0.toInt ≤ 65536) : Met l y_BR_holds w_BR_holds ({ frames := 4, cells := 0, slots := 0, locals := 85 }) (va_Pc [.ref h0, .int p0, .ref wt] (fun U => U.heap.size = sz ∧ va_P (dC, dI) cls [(h0, .inr (1, [.ref ax, .int h0_length])), (ax, .inl (cax, nax, .inl gax))] U.heap ∧ va_K (dC, dI) cls [(cax, .byte)] U ∧ va_D (fun _ => True) [(h0, .inr (1, [.ref ax, .int h0_length])), (ax, .inl (cax, nax, .inl gax))] ∧ sw sa (va_A [(h0, .inr (1, [.ref ax, .int h0_length])), (ax, .inl (cax, nax, .inl gax))] sz) U U.heap ∧ sw_str wt wv wb (va_A [(h0, .inr (1, [.ref ax, .int h0_length])), (ax, .inl (cax, nax, .inl gax))] sz) U U.heap)) (va_Qi (fun (r : Int32) (u : Unit) => match u with | _ => (r = 0 ∨ r = 1) ∧ (r = 1 → wb.length = 0 ∨ p0.toInt + wb.length ≤ h0_length.toInt)) (at_BR_holds dC dI h0 ax cax h0_length nax gax (va_A [(h0, .inr (1, [.ref ax, .int h0_length])), (ax, .inl (cax, nax, .inl gax))] sz)) (va_A [(h0, .inr (1, [.ref ax, .int h0_length])), (ax, .inl (cax, nax, .inl gax))] sz)) 0 0 (va_A [(h0, .inr (1, [.ref ax, .int h0_length])), (ax, .inl (cax, nax, .inl gax))] sz) := by
  refine Met.ofW (cc := b_BR_holds) (maxL := 4) (ret := (Option.some .boolean)) (by decide) rfl ?_
  intro p e s m args below meth c s₁ B hml hv
  obtain ⟨rfl, hsz, hP, hK, hD0, hSW, hR0⟩ := hv
  have hx := B.exec
  have hb := B.bytes
  have hr := B.returns
  have hts0 := atoms_spec (ws := w_BR_holds) B.pre
  have hts : ∀ w ∈ lw_g, w.before _ s = true := fun w h => hts0 w (List.mem_cons_of_mem _ h)
  have hown : s.vm.findClass R_BR = some m.cls := findClass_of_methodNamed B.named
  have hlocks := B.notSynchronized
  clear hts0
  subst hsz
  have hD := hD0.self (sz := s.heap.size)
  generalize hAe : va_A [(h0, .inr (1, [.ref ax, .int h0_length])), (ax, .inl (cax, nax, .inl gax))] s.heap.size = A at hD hSW hR0 ⊢
  have hA : ∀ q : Nat, s.heap.size ≤ q → A q := fun q h => by rw [← hAe]; exact Or.inr h
  clear hAe
  have hP : va_P (dC, dI) cls [(h0, .inr (1, [.ref ax, .int h0_length])), (ax, .inl (cax, nax, .inl gax))] s.heap := hP
  have hl := lv_entry ([.ref h0, .int p0, .ref wt]) (n := 4) (Nat.le_of_ble_eq_true rfl)
  rw [lg_entry_eq]
  generalize (lg_sl ([.ref h0, .int p0, .ref wt]) ++ List.replicate (4 - (lg_sl ([.ref h0, .int p0, .ref wt])).length) Slot.unset).toArray = ls at hl ⊢
  have hl : lv_has ls 4 [(0, .ref h0), (1, .int p0), (2, .ref wt)] := hl
  have k0 : (0 : Int32).toInt = 0 := by decide
  refine w_gen (A := A) hP (fun H locs hP hS => ?_)
  have k1 : (1 : Int32).toInt = 1 := by decide
  have lo_p0 := i32_lo p0
  have hi_p0 := i32_hi p0
  refine lv_iconst (v := 0) hx hb d_BR_holds_0 (by decide) ?_
  refine lv_istore_n (lv' := [(3, .int 0), (0, .ref h0), (1, .int p0), (2, .ref wt)]) hx hb d_BR_holds_1 rfl hl (by decide) rfl (fun ls hl => ?_)
  refine w_loop (σ := Int32) (fun u H locs ls => match u with | j2_l3 => (0 ≤ j2_l3.toInt ∧ j2_l3.toInt ≤ 65536) ∧ (j2_l3.toInt ≤ wb.length) ∧ (j2_l3.toInt = 0 ∨ p0.toInt + j2_l3.toInt ≤ h0_length.toInt) ∧ va_P (dC, dI) cls [(h0, .inr (1, [.ref ax, .int h0_length])), (ax, .inl (cax, nax, .inl gax))] H ∧ va_D A [(h0, .inr (1, [.ref ax, .int h0_length])), (ax, .inl (cax, nax, .inl gax))] ∧ va_S A s.heap H locs ∧ lv_has ls 4 [(0, .ref h0), (1, .int p0), (2, .ref wt), (3, .int j2_l3)]) (fun u => match u with | j2_l3 => ((wb.length : Int) - j2_l3.toInt).toNat) ?_ 0 ⟨by (try dsimp only) <;> (first | (apply Int.le_antisymm <;> omega) | omega), by (try dsimp only) <;> (first | (apply Int.le_antisymm <;> omega) | omega), by (try dsimp only) <;> (first | (apply Int.le_antisymm <;> omega) | omega), hP, hD, hS, lv_sub hl [1, 2, 3, 0] rfl⟩
  intro N2 ih2 u H locs ls hN2 hI
  obtain ⟨j2_l3, rfl⟩ : ∃ z, z = u := ⟨_, rfl⟩
  obtain ⟨b_j2_l3, v1, v2, hP, hD, hS, hl⟩ := hI
  have hN2 : ((wb.length : Int) - j2_l3.toInt).toNat < N2 + 1 := hN2
  refine lv_iload_n hx hb d_BR_holds_2 rfl (lv_at hl 3 rfl) ?_
  refine lv_aload_n hx hb d_BR_holds_3 rfl (lv_at hl 2 rfl) ?_
  have hPc := hP.sb (wq := []) [] rfl
  have hDc := hD.sb (wq := []) [] (by decide) rfl
  have hKc := hK.sb (tyq := []) [] rfl
  have hFc := va_free (wc := []) hD hS hA [] rfl
  refine va_calli (va_runV (As := []) (rest := [.int j2_l3]) ⟨hx, hb, hml, hown, hts⟩ (c_JS_length l dC dI H.size sa wt wv wb (by (first | (apply Int.le_antisymm <;> omega) | omega))) (cwV 0 hts (gV kM_BR_27 kV_JS_length kS_JS_length kI_JS kC_JS_length) rfl rfl rfl (by decide +kernel) ⟨Nat.le_of_ble_eq_true rfl, Nat.le_of_ble_eq_true rfl⟩) ⟨fun a U g mk z => by obtain ⟨z0, z1, zP, zK, zD, zS, zR0⟩ := z; exact ⟨z0, z1, zP, va_K.moved (u := U) (U := U.calling g mk a) (Vm.Alike.refl U.vm) zK, zD, sw.same (u := U) (U := U.calling g mk a) rfl zS, zR0.moved (u := U) (U := U.calling g mk a) (Vm.Alike.refl U.vm)⟩, so_recv (hR0.1) hS, fun U hU hW => ⟨rfl, by rw [hU], va_P.he hU.symm hPc, va_K.moved hW.alike hKc, hDc.weaken (fun _ _ _ _ => trivial), hSW.call hS hFc hW hU, (hR0).call hS hFc hW hU⟩⟩ rfl rfl hl.1 rfl (lv_room (Nat.le_of_ble_eq_true rfl)) d_BR_holds_4 ⟨(Nat.zero_le _), (Nat.zero_le _)⟩) hS (fun q _ h => hFc q h) hFc (fun r1 u t H1 locs ht hvm hw hB hz1 hk1 hS => ?_)
  try dsimp only at hw
  have xr1 := hw
  try clear hw
  obtain ⟨hP1, hK1, hD1⟩ := hB
  replace hP1 := va_P.he ht hP1
  obtain ⟨hP, hD⟩ := va_join (wr := [(h0, .inr (1, [.ref ax, .int h0_length])), (ax, .inl (cax, nax, .inl gax))]) (w1 := []) hP hD [] [0, 1] rfl rfl (by decide) (by decide) hk1 hFc hP1 hD1
  clear hPc hDc hKc hFc hz1 hk1 hP1 hK1 hD1
  rename Heap => H
  have hP : va_P (dC, dI) cls [(h0, .inr (1, [.ref ax, .int h0_length])), (ax, .inl (cax, nax, .inl gax))] H := hP
  have hD : va_D A [(h0, .inr (1, [.ref ax, .int h0_length])), (ax, .inl (cax, nax, .inl gax))] := hD
  refine lv_icmp_ge (tgt := 33) hx hb d_BR_holds_7 (by decide) (fun c7 => ?_) (fun c7 => ?_)
  · have q7 := leI c7
    refine lv_iconst (v := 1) hx hb d_BR_holds_33 (by decide) ?_
    have hP9 := hP.sb (wq := [(h0, .inr (1, [.ref ax, .int h0_length])), (ax, .inl (cax, nax, .inl gax))]) [0, 1] rfl
    have hD9 := hD.sb (wq := [(h0, .inr (1, [.ref ax, .int h0_length])), (ax, .inl (cax, nax, .inl gax))]) [0, 1] (by decide) rfl
    exact W.zret (v := 1) hx hb hr (zn01 (Or.inr rfl)) (fun t ht hW => ⟨⟨1, (), rfl, ⟨Or.inr rfl, fun _ => by (first | (apply Int.le_antisymm <;> omega) | omega)⟩, va_P.he ht.symm hP9, va_K.moved hW.alike hK, hD9⟩, hS.F ht⟩) hS.2.2 d_BR_holds_34
  · have q7 := nleI c7
    refine lv_aload_n hx hb d_BR_holds_10 rfl (lv_at hl 0 rfl) ?_
    refine lv_iload_n hx hb d_BR_holds_11 rfl (lv_at hl 1 rfl) ?_
    refine lv_iload_n hx hb d_BR_holds_12 rfl (lv_at hl 3 rfl) ?_
    refine lv_iadd hx hb d_BR_holds_13 ?_
    refine lv_topi (fun x2 ex2 => ?_)
    have tx2 : x2.toInt = p0.toInt + j2_l3.toInt := by have z := i32_add ex2 (by (first | (apply Int.le_antisymm <;> omega) | omega)) (by (first | (apply Int.le_antisymm <;> omega) | omega)); first | exact z | (first | (apply Int.le_antisymm <;> omega) | omega)
    have hPc := hP.sb (wq := [(h0, .inr (1, [.ref ax, .int h0_length])), (ax, .inl (cax, nax, .inl gax))]) [0, 1] rfl
    have hDc := hD.sb (wq := [(h0, .inr (1, [.ref ax, .int h0_length])), (ax, .inl (cax, nax, .inl gax))]) [0, 1] (by decide) rfl
    have hKc := hK.sb (tyq := [(cax, .byte)]) [0] rfl
    have hFc := va_free (wc := [(h0, .inr (1, [.ref ax, .int h0_length])), (ax, .inl (cax, nax, .inl gax))]) hD hS hA [0, 1] rfl
    refine va_calli (va_runV (As := [.int x2]) (rest := []) ⟨hx, hb, hml, hown, hts⟩ (c_BR_at l dC dI h0 ax H.size cax nax h0_length gax (by (first | (apply Int.le_antisymm <;> omega) | omega)) (by (first | (apply Int.le_antisymm <;> omega) | omega)) (by (first | (apply Int.le_antisymm <;> omega) | omega)) x2) (cwV 1 hts (gV kM_BR_36 kV_BR_at kS_BR_at kI_BR kC_BR_at) rfl rfl rfl (by decide +kernel) ⟨Nat.le_of_ble_eq_true rfl, Nat.le_of_ble_eq_true rfl⟩) ⟨fun a U g mk z => by obtain ⟨z0, z1, zP, zK, zD⟩ := z; exact ⟨z0, z1, zP, va_K.moved (u := U) (U := U.calling g mk a) (Vm.Alike.refl U.vm) zK, zD⟩, va_recv hKc hPc (ci := 1) (q0 := 0) rfl rfl, fun U hU hW => ⟨rfl, by rw [hU], va_P.he hU.symm hPc, va_K.moved hW.alike hKc, hDc.weaken (fun _ _ _ _ => trivial)⟩⟩ rfl rfl hl.1 rfl (lv_room (Nat.le_of_ble_eq_true rfl)) d_BR_holds_14 ⟨(Nat.zero_le _), (Nat.zero_le _)⟩) hS (fun q _ h => hFc q h) hFc (fun r3 u t H1 locs ht hvm hw hB hz1 hk1 hS => ?_)
    obtain ⟨er3, rfl⟩ := hw
    have tr3 := br_get_in gax h0_length x2
    rw [← er3] at tr3
    obtain ⟨hP1, hK1, hD1⟩ := hB
    replace hP1 := va_P.he ht hP1
    obtain ⟨hP, hD⟩ := va_join (wr := []) (w1 := [(h0, .inr (1, [.ref ax, .int h0_length])), (ax, .inl (cax, nax, .inl gax))]) hP hD [0, 1] [] rfl rfl (by decide) (by decide) hk1 hFc hP1 hD1
    clear hPc hDc hKc hFc hz1 hk1 hP1 hK1 hD1
    rename Heap => H
    have hP : va_P (dC, dI) cls [(h0, .inr (1, [.ref ax, .int h0_length])), (ax, .inl (cax, nax, .inl gax))] H := hP
    have hD : va_D A [(h0, .inr (1, [.ref ax, .int h0_length])), (ax, .inl (cax, nax, .inl gax))] := hD
    refine lv_aload_n hx hb d_BR_holds_17 rfl (lv_at hl 2 rfl) ?_
    refine lv_iload_n hx hb d_BR_holds_18 rfl (lv_at hl 3 rfl) ?_
    have hPc := hP.sb (wq := []) [] rfl
    have hDc := hD.sb (wq := []) [] (by decide) rfl
    have hKc := hK.sb (tyq := []) [] rfl
    have hFc := va_free (wc := []) hD hS hA [] rfl
    refine va_calli (va_runV (As := [.int j2_l3]) (rest := [.int r3]) ⟨hx, hb, hml, hown, hts⟩ (c_JS_charAt l dC dI H.size sa wt wv wb j2_l3 (by (first | (apply Int.le_antisymm <;> omega) | omega)) (by (first | (apply Int.le_antisymm <;> omega) | omega))) (cwV 1 hts (gV kM_BR_32 kV_JS_charAt kS_JS_charAt kI_JS kC_JS_charAt) rfl rfl rfl (by decide +kernel) ⟨Nat.le_of_ble_eq_true rfl, Nat.le_of_ble_eq_true rfl⟩) ⟨fun a U g mk z => by obtain ⟨z0, z1, zP, zK, zD, zS, zR0⟩ := z; exact ⟨z0, z1, zP, va_K.moved (u := U) (U := U.calling g mk a) (Vm.Alike.refl U.vm) zK, zD, sw.same (u := U) (U := U.calling g mk a) rfl zS, zR0.moved (u := U) (U := U.calling g mk a) (Vm.Alike.refl U.vm)⟩, so_recv (hR0.1) hS, fun U hU hW => ⟨rfl, by rw [hU], va_P.he hU.symm hPc, va_K.moved hW.alike hKc, hDc.weaken (fun _ _ _ _ => trivial), hSW.call hS hFc hW hU, (hR0).call hS hFc hW hU⟩⟩ rfl rfl hl.1 rfl (lv_room (Nat.le_of_ble_eq_true rfl)) d_BR_holds_19 ⟨(Nat.zero_le _), (Nat.zero_le _)⟩) hS (fun q _ h => hFc q h) hFc (fun r4 u t H1 locs ht hvm hw hB hz1 hk1 hS => ?_)
    try dsimp only at hw
    have xr4 := hw
    try clear hw
    have y19 : 0 ≤ r4.toInt := by rw [xr4]; exact (i32_and255 _).1
    obtain ⟨hP1, hK1, hD1⟩ := hB
    replace hP1 := va_P.he ht hP1
    obtain ⟨hP, hD⟩ := va_join (wr := [(h0, .inr (1, [.ref ax, .int h0_length])), (ax, .inl (cax, nax, .inl gax))]) (w1 := []) hP hD [] [0, 1] rfl rfl (by decide) (by decide) hk1 hFc hP1 hD1
    clear hPc hDc hKc hFc hz1 hk1 hP1 hK1 hD1
    rename Heap => H
    have hP : va_P (dC, dI) cls [(h0, .inr (1, [.ref ax, .int h0_length])), (ax, .inl (cax, nax, .inl gax))] H := hP
    have hD : va_D A [(h0, .inr (1, [.ref ax, .int h0_length])), (ax, .inl (cax, nax, .inl gax))] := hD
    refine lv_icmp_eq (tgt := 27) hx hb d_BR_holds_22 (by decide) (fun c22 => ?_) (fun c22 => ?_)
    · have q22 := eqI c22
      have z27 := br_get_lt er3 (by (first | (apply Int.le_antisymm <;> omega) | omega))
      obtain ⟨x5, ex5⟩ : ∃ z : Int32, z = j2_l3 + 1 := ⟨_, rfl⟩
      have tx5 : x5.toInt = j2_l3.toInt + 1 := by have z := i32_add ex5 (by (first | (apply Int.le_antisymm <;> omega) | omega)) (by (first | (apply Int.le_antisymm <;> omega) | omega)); first | exact z | (first | (apply Int.le_antisymm <;> omega) | omega)
      refine lv_iinc (v := x5) (lv' := [(3, .int x5), (0, .ref h0), (1, .int p0), (2, .ref wt)]) hx hb d_BR_holds_27 hl (k := 3) rfl (by rw [ex5]; rfl) (by decide) rfl (fun ls hl => ?_)
      refine lv_goto (tgt := 2) hx hb d_BR_holds_30 (by decide) ?_
      exact ih2 x5 _ _ _ (by show ((wb.length : Int) - x5.toInt).toNat < N2; (first | (apply Int.le_antisymm <;> omega) | omega)) ⟨by (try dsimp only) <;> (first | (apply Int.le_antisymm <;> omega) | omega), by (try dsimp only) <;> (first | (apply Int.le_antisymm <;> omega) | omega), by (try dsimp only) <;> (first | (apply Int.le_antisymm <;> omega) | omega), hP, hD, hS, lv_sub hl [1, 2, 3, 0] rfl⟩
    · have q22 := neI c22
      refine lv_iconst (v := 0) hx hb d_BR_holds_25 (by decide) ?_
      have hP9 := hP.sb (wq := [(h0, .inr (1, [.ref ax, .int h0_length])), (ax, .inl (cax, nax, .inl gax))]) [0, 1] rfl
      have hD9 := hD.sb (wq := [(h0, .inr (1, [.ref ax, .int h0_length])), (ax, .inl (cax, nax, .inl gax))]) [0, 1] (by decide) rfl
      exact W.zret (v := 0) hx hb hr (zn01 (Or.inl rfl)) (fun t ht hW => ⟨⟨0, (), rfl, ⟨Or.inl rfl, fun z => absurd z (by decide)⟩, va_P.he ht.symm hP9, va_K.moved hW.alike hK, hD9⟩, hS.F ht⟩) hS.2.2 d_BR_holds_26
end q_37
section q_38
/-! Scanner: what a sign is -/
theorem sgB_len : ∀ k, k < 55 → ((sgB.getD k []).length ≤ 8 ∧ (k < 5 → (sgB.getD k []).length = 0) ∧ (5 ≤ k → 1 ≤ (sgB.getD k []).length)) := by decide
def pt (z : Int) : Int := 10 ^ z.toNat
theorem pt_succ {z : Int} (h : 0 ≤ z) : pt (z + 1) = 10 * pt z := by
  unfold pt
  rw [show (z + 1).toNat = z.toNat + 1 by (first | (apply Int.le_antisymm <;> omega) | omega), Int.pow_succ]
  (first | (apply Int.le_antisymm <;> omega) | omega)
theorem pt_0 : pt 0 = 1 := rfl
theorem pt_pos (z : Int) : 1 ≤ pt z := by
  unfold pt
  have : 0 < (10 : Int) ^ z.toNat := Int.pow_pos (by decide)
  (first | (apply Int.le_antisymm <;> omega) | omega)
theorem i64_mul {a b x : Int64} (e : x = a * b) (h1 : -9223372036854775808 ≤ a.toInt * b.toInt) (h2 : a.toInt * b.toInt ≤ 9223372036854775807) : x.toInt = a.toInt * b.toInt := by
  rw [e, Int64.toInt_mul]
  exact Int.bmod_eq_of_le (by (first | (apply Int.le_antisymm <;> omega) | omega)) (by (first | (apply Int.le_antisymm <;> omega) | omega))
theorem i64_div10 {a d x : Int64} (e : x = a / d) (hd : d.toInt = 10) (h : 0 ≤ a.toInt) : x.toInt = a.toInt / 10 := by
  have hi := i64_hi a
  rw [e, Int64.toInt_div, hd, Int.tdiv_eq_ediv_of_nonneg h]
  exact Int.bmod_eq_of_le (by (first | (apply Int.le_antisymm <;> omega) | omega)) (by (first | (apply Int.le_antisymm <;> omega) | omega))
def tkT (k : Nat) (z v : Int) : Prop := (k ≠ 0 → k ≠ 1 → 1 ≤ z) ∧ (k = 2 → z ≤ 20) ∧ (k = 3 → 0 ≤ v ∧ v < pt z ∧ v ≤ 2147483647) ∧ (k = 4 → 2 ≤ z ∧ 0 ≤ v ∧ v < pt (z - 1)) ∧ (5 ≤ k → z = (sgB.getD k []).length)
def tk1 (L : Int) (len : Int) (ss : Nat → Option Nat) (sp sz : Nat → Int32) (sv : Nat → Int64) (i k : Nat) : Prop :=
  k < 55 ∧ ss i = some k ∧ 0 ≤ (sp i).toInt ∧ 0 ≤ (sz i).toInt ∧ (sp i).toInt + (sz i).toInt ≤ L ∧ tkT k (sz i).toInt (sv i).toInt ∧ ((i : Int) + 1 < len → k ≠ 0 ∧ k ≠ 1 ∧ (sp i).toInt + (sz i).toInt ≤ (sp (i + 1)).toInt)
def tkP (L : Int) (len : Int) (ss : Nat → Option Nat) (sp sz : Nat → Int32) (sv : Nat → Int64) : Prop := ∀ i : Nat, (i : Int) < len → ∃ k, tk1 L len ss sp sz sv i k
def tkOK (L : Int) (len : Int) (ss : Nat → Option Nat) (sp sz : Nat → Int32) (sv : Nat → Int64) : Prop := 1 ≤ len ∧ tkP L len ss sp sz sv ∧ ∀ i : Nat, (i : Int) + 1 = len → ss i = some 0 ∨ ss i = some 1
abbrev b_SC_isLetter : ByteArray := prog_10_method_11_code
def y_SC_isLetter : MethodName := ⟨R_SC, "isLetter", "(I)Z"⟩
abbrev w_SC_isLetter : List Cond := .code y_SC_isLetter b_SC_isLetter 1 (Option.some .boolean) :: lw_g
theorem kC_SC_isLetter : Cond.code y_SC_isLetter b_SC_isLetter 1 (Option.some .boolean) ∈ lw_g := in_c4 73 rfl rfl
theorem d_SC_isLetter_0 : decode b_SC_isLetter 0 = .ok (.iload_n 0, 1) := bz_c26 (by decide +kernel)
theorem d_SC_isLetter_1 : decode b_SC_isLetter 1 = .ok (.bipush 97, 2) := bz_c16 (by decide +kernel)
theorem d_SC_isLetter_3 : decode b_SC_isLetter 3 = .ok (.if_icmp .lt 9, 3) := bz_c161 (by decide +kernel)
theorem d_SC_isLetter_6 : decode b_SC_isLetter 6 = .ok (.iload_n 0, 1) := bz_c26 (by decide +kernel)
theorem d_SC_isLetter_7 : decode b_SC_isLetter 7 = .ok (.bipush 122, 2) := bz_c16 (by decide +kernel)
theorem d_SC_isLetter_9 : decode b_SC_isLetter 9 = .ok (.if_icmp .le 21, 3) := bz_c164 (by decide +kernel)
theorem d_SC_isLetter_12 : decode b_SC_isLetter 12 = .ok (.iload_n 0, 1) := bz_c26 (by decide +kernel)
theorem d_SC_isLetter_13 : decode b_SC_isLetter 13 = .ok (.bipush 65, 2) := bz_c16 (by decide +kernel)
theorem d_SC_isLetter_15 : decode b_SC_isLetter 15 = .ok (.if_icmp .lt 9, 3) := bz_c161 (by decide +kernel)
theorem d_SC_isLetter_18 : decode b_SC_isLetter 18 = .ok (.iload_n 0, 1) := bz_c26 (by decide +kernel)
theorem d_SC_isLetter_19 : decode b_SC_isLetter 19 = .ok (.bipush 90, 2) := bz_c16 (by decide +kernel)
theorem d_SC_isLetter_21 : decode b_SC_isLetter 21 = .ok (.if_icmp .le 9, 3) := bz_c164 (by decide +kernel)
theorem d_SC_isLetter_24 : decode b_SC_isLetter 24 = .ok (.iload_n 0, 1) := bz_c26 (by decide +kernel)
theorem d_SC_isLetter_25 : decode b_SC_isLetter 25 = .ok (.bipush 95, 2) := bz_c16 (by decide +kernel)
theorem d_SC_isLetter_27 : decode b_SC_isLetter 27 = .ok (.if_icmp .ne 7, 3) := bz_c160 (by decide +kernel)
theorem d_SC_isLetter_30 : decode b_SC_isLetter 30 = .ok (.iconst 1, 1) := bz_c4 (by decide +kernel)
theorem d_SC_isLetter_31 : decode b_SC_isLetter 31 = .ok (.goto 4, 3) := bz_c167 (by decide +kernel)
theorem d_SC_isLetter_34 : decode b_SC_isLetter 34 = .ok (.iconst 0, 1) := bz_c3 (by decide +kernel)
theorem d_SC_isLetter_35 : decode b_SC_isLetter 35 = .ok (.ireturn, 1) := bz_c172 (by decide +kernel)
abbrev at_SC_isLetter (dC : Nat → ClassId) (dI : Nat → Nat → Nat)  (A : Nat → Prop) (u : Unit) (t : State) : Prop := match u with | _ => va_P (dC, dI) cls [] t.heap ∧ va_K (dC, dI) cls [] t ∧ va_D A []
set_option maxHeartbeats 4000000 in
set_option maxRecDepth 100000 in
theorem c_SC_isLetter (l : Launch) (dC : Nat → ClassId) (dI : Nat → Nat → Nat) (sz : Nat)    (p0 : Int32)   : Met l y_SC_isLetter w_SC_isLetter ({ frames := 0, cells := 0, slots := 0, locals := 0 }) (va_Pc [.int p0] (fun U => U.heap.size = sz ∧ va_P (dC, dI) cls [] U.heap ∧ va_K (dC, dI) cls [] U ∧ va_D (fun _ => True) [])) (va_Qi (fun (r : Int32) (u : Unit) => match u with | _ => (r = 0 ∨ r = 1)) (at_SC_isLetter dC dI  (va_A [] sz)) (va_A [] sz)) 0 0 (va_A [] sz) := by
  refine Met.ofW (cc := b_SC_isLetter) (maxL := 1) (ret := (Option.some .boolean)) (by decide) rfl ?_
  intro p e s m args below meth c s₁ B hml hv
  obtain ⟨rfl, hsz, hP, hK, hD0⟩ := hv
  have hx := B.exec
  have hb := B.bytes
  have hr := B.returns
  have hts0 := atoms_spec (ws := w_SC_isLetter) B.pre
  have hts : ∀ w ∈ lw_g, w.before _ s = true := fun w h => hts0 w (List.mem_cons_of_mem _ h)
  have hown : s.vm.findClass R_SC = some m.cls := findClass_of_methodNamed B.named
  have hlocks := B.notSynchronized
  clear hts0
  subst hsz
  have hD := hD0.self (sz := s.heap.size)
  generalize hAe : va_A [] s.heap.size = A at hD ⊢
  have hA : ∀ q : Nat, s.heap.size ≤ q → A q := fun q h => by rw [← hAe]; exact Or.inr h
  clear hAe
  have hP : va_P (dC, dI) cls [] s.heap := hP
  have hl := lv_entry ([.int p0]) (n := 1) (Nat.le_of_ble_eq_true rfl)
  rw [lg_entry_eq]
  generalize (lg_sl ([.int p0]) ++ List.replicate (1 - (lg_sl ([.int p0])).length) Slot.unset).toArray = ls at hl ⊢
  have hl : lv_has ls 1 [(0, .int p0)] := hl
  have k0 : (0 : Int32).toInt = 0 := by decide
  refine w_gen (A := A) hP (fun H locs hP hS => ?_)
  have k1 : (1 : Int32).toInt = 1 := by decide
  have k65 : (65 : Int32).toInt = 65 := by decide
  have k90 : (90 : Int32).toInt = 90 := by decide
  have k95 : (95 : Int32).toInt = 95 := by decide
  have k97 : (97 : Int32).toInt = 97 := by decide
  have k122 : (122 : Int32).toInt = 122 := by decide
  have lo_p0 := i32_lo p0
  have hi_p0 := i32_hi p0
  refine lv_iload_n hx hb d_SC_isLetter_0 rfl (lv_at hl 0 rfl) ?_
  refine lv_bipush (v := 97) hx hb d_SC_isLetter_1 (by decide) ?_
  refine w_cut (pc2 := 12) (σ := Unit) (fun u H locs ls => match u with | _ => va_P (dC, dI) cls [] H ∧ va_D A [] ∧ va_S A s.heap H locs ∧ lv_has ls 1 [(0, .int p0)]) (fun u => match u with | _ => []) ?_ (fun jn12 => ?_)
  · intro u H locs ls hI
    obtain ⟨hP, hD, hS, hl⟩ := hI
    refine lv_iload_n hx hb d_SC_isLetter_12 rfl (lv_at hl 0 rfl) ?_
    refine lv_bipush (v := 65) hx hb d_SC_isLetter_13 (by decide) ?_
    refine w_cut (pc2 := 24) (σ := Unit) (fun u H locs ls => match u with | _ => va_P (dC, dI) cls [] H ∧ va_D A [] ∧ va_S A s.heap H locs ∧ lv_has ls 1 [(0, .int p0)]) (fun u => match u with | _ => []) ?_ (fun jn24 => ?_)
    · intro u H locs ls hI
      obtain ⟨hP, hD, hS, hl⟩ := hI
      refine lv_iload_n hx hb d_SC_isLetter_24 rfl (lv_at hl 0 rfl) ?_
      refine lv_bipush (v := 95) hx hb d_SC_isLetter_25 (by decide) ?_
      refine lv_icmp_ne (tgt := 34) hx hb d_SC_isLetter_27 (by decide) (fun c27 => ?_) (fun c27 => ?_)
      · have q27 := neI c27
        refine lv_iconst (v := 0) hx hb d_SC_isLetter_34 (by decide) ?_
        have hP9 := hP.sb (wq := []) [] rfl
        have hD9 := hD.sb (wq := []) [] (by decide) rfl
        exact W.zret (v := 0) hx hb hr (zn01 (Or.inl rfl)) (fun t ht hW => ⟨⟨0, (), rfl, (Or.inl rfl), va_P.he ht.symm hP9, va_K.moved hW.alike hK, hD9⟩, hS.F ht⟩) hS.2.2 d_SC_isLetter_35
      · have q27 := eqI c27
        refine lv_iconst (v := 1) hx hb d_SC_isLetter_30 (by decide) ?_
        refine lv_goto (tgt := 35) hx hb d_SC_isLetter_31 (by decide) ?_
        have hP9 := hP.sb (wq := []) [] rfl
        have hD9 := hD.sb (wq := []) [] (by decide) rfl
        exact W.zret (v := 1) hx hb hr (zn01 (Or.inr rfl)) (fun t ht hW => ⟨⟨1, (), rfl, (Or.inr rfl), va_P.he ht.symm hP9, va_K.moved hW.alike hK, hD9⟩, hS.F ht⟩) hS.2.2 d_SC_isLetter_35
    · skip
      refine lv_icmp_lt (tgt := 24) hx hb d_SC_isLetter_15 (by decide) (fun c15 => ?_) (fun c15 => ?_)
      · have q15 := ltI c15
        exact jn24 () _ _ _ ⟨hP, hD, hS, lv_sub hl [0] rfl⟩
      · have q15 := nltI c15
        refine lv_iload_n hx hb d_SC_isLetter_18 rfl (lv_at hl 0 rfl) ?_
        refine lv_bipush (v := 90) hx hb d_SC_isLetter_19 (by decide) ?_
        refine lv_icmp_le (tgt := 30) hx hb d_SC_isLetter_21 (by decide) (fun c21 => ?_) (fun c21 => ?_)
        · have q21 := leI c21
          refine lv_iconst (v := 1) hx hb d_SC_isLetter_30 (by decide) ?_
          refine lv_goto (tgt := 35) hx hb d_SC_isLetter_31 (by decide) ?_
          have hP9 := hP.sb (wq := []) [] rfl
          have hD9 := hD.sb (wq := []) [] (by decide) rfl
          exact W.zret (v := 1) hx hb hr (zn01 (Or.inr rfl)) (fun t ht hW => ⟨⟨1, (), rfl, (Or.inr rfl), va_P.he ht.symm hP9, va_K.moved hW.alike hK, hD9⟩, hS.F ht⟩) hS.2.2 d_SC_isLetter_35
        · have q21 := nleI c21
          exact jn24 () _ _ _ ⟨hP, hD, hS, lv_sub hl [0] rfl⟩
  · skip
    refine lv_icmp_lt (tgt := 12) hx hb d_SC_isLetter_3 (by decide) (fun c3 => ?_) (fun c3 => ?_)
    · have q3 := ltI c3
      exact jn12 () _ _ _ ⟨hP, hD, hS, lv_sub hl [0] rfl⟩
    · have q3 := nltI c3
      refine lv_iload_n hx hb d_SC_isLetter_6 rfl (lv_at hl 0 rfl) ?_
      refine lv_bipush (v := 122) hx hb d_SC_isLetter_7 (by decide) ?_
      refine lv_icmp_le (tgt := 30) hx hb d_SC_isLetter_9 (by decide) (fun c9 => ?_) (fun c9 => ?_)
      · have q9 := leI c9
        refine lv_iconst (v := 1) hx hb d_SC_isLetter_30 (by decide) ?_
        refine lv_goto (tgt := 35) hx hb d_SC_isLetter_31 (by decide) ?_
        have hP9 := hP.sb (wq := []) [] rfl
        have hD9 := hD.sb (wq := []) [] (by decide) rfl
        exact W.zret (v := 1) hx hb hr (zn01 (Or.inr rfl)) (fun t ht hW => ⟨⟨1, (), rfl, (Or.inr rfl), va_P.he ht.symm hP9, va_K.moved hW.alike hK, hD9⟩, hS.F ht⟩) hS.2.2 d_SC_isLetter_35
      · have q9 := nleI c9
        exact jn12 () _ _ _ ⟨hP, hD, hS, lv_sub hl [0] rfl⟩
abbrev b_SC_isDigit : ByteArray := prog_10_method_12_code
def y_SC_isDigit : MethodName := ⟨R_SC, "isDigit", "(I)Z"⟩
abbrev w_SC_isDigit : List Cond := .code y_SC_isDigit b_SC_isDigit 1 (Option.some .boolean) :: lw_g
theorem kC_SC_isDigit : Cond.code y_SC_isDigit b_SC_isDigit 1 (Option.some .boolean) ∈ lw_g := in_c4 83 rfl rfl
theorem d_SC_isDigit_0 : decode b_SC_isDigit 0 = .ok (.iload_n 0, 1) := bz_c26 (by decide +kernel)
theorem d_SC_isDigit_1 : decode b_SC_isDigit 1 = .ok (.bipush 48, 2) := bz_c16 (by decide +kernel)
theorem d_SC_isDigit_3 : decode b_SC_isDigit 3 = .ok (.if_icmp .lt 13, 3) := bz_c161 (by decide +kernel)
theorem d_SC_isDigit_6 : decode b_SC_isDigit 6 = .ok (.iload_n 0, 1) := bz_c26 (by decide +kernel)
theorem d_SC_isDigit_7 : decode b_SC_isDigit 7 = .ok (.bipush 57, 2) := bz_c16 (by decide +kernel)
theorem d_SC_isDigit_9 : decode b_SC_isDigit 9 = .ok (.if_icmp .gt 7, 3) := bz_c163 (by decide +kernel)
theorem d_SC_isDigit_12 : decode b_SC_isDigit 12 = .ok (.iconst 1, 1) := bz_c4 (by decide +kernel)
theorem d_SC_isDigit_13 : decode b_SC_isDigit 13 = .ok (.goto 4, 3) := bz_c167 (by decide +kernel)
theorem d_SC_isDigit_16 : decode b_SC_isDigit 16 = .ok (.iconst 0, 1) := bz_c3 (by decide +kernel)
theorem d_SC_isDigit_17 : decode b_SC_isDigit 17 = .ok (.ireturn, 1) := bz_c172 (by decide +kernel)
abbrev at_SC_isDigit (dC : Nat → ClassId) (dI : Nat → Nat → Nat)  (A : Nat → Prop) (u : Unit) (t : State) : Prop := match u with | _ => va_P (dC, dI) cls [] t.heap ∧ va_K (dC, dI) cls [] t ∧ va_D A []
set_option maxHeartbeats 4000000 in
set_option maxRecDepth 100000 in
theorem c_SC_isDigit (l : Launch) (dC : Nat → ClassId) (dI : Nat → Nat → Nat) (sz : Nat)    (p0 : Int32)   : Met l y_SC_isDigit w_SC_isDigit ({ frames := 0, cells := 0, slots := 0, locals := 0 }) (va_Pc [.int p0] (fun U => U.heap.size = sz ∧ va_P (dC, dI) cls [] U.heap ∧ va_K (dC, dI) cls [] U ∧ va_D (fun _ => True) [])) (va_Qi (fun (r : Int32) (u : Unit) => match u with | _ => (r = 0 ∨ r = 1) ∧ ((r = 1 → 48 ≤ p0.toInt ∧ p0.toInt ≤ 57) ∧ (r = 0 → p0.toInt < 48 ∨ 57 < p0.toInt))) (at_SC_isDigit dC dI  (va_A [] sz)) (va_A [] sz)) 0 0 (va_A [] sz) := by
  refine Met.ofW (cc := b_SC_isDigit) (maxL := 1) (ret := (Option.some .boolean)) (by decide) rfl ?_
  intro p e s m args below meth c s₁ B hml hv
  obtain ⟨rfl, hsz, hP, hK, hD0⟩ := hv
  have hx := B.exec
  have hb := B.bytes
  have hr := B.returns
  have hts0 := atoms_spec (ws := w_SC_isDigit) B.pre
  have hts : ∀ w ∈ lw_g, w.before _ s = true := fun w h => hts0 w (List.mem_cons_of_mem _ h)
  have hown : s.vm.findClass R_SC = some m.cls := findClass_of_methodNamed B.named
  have hlocks := B.notSynchronized
  clear hts0
  subst hsz
  have hD := hD0.self (sz := s.heap.size)
  generalize hAe : va_A [] s.heap.size = A at hD ⊢
  have hA : ∀ q : Nat, s.heap.size ≤ q → A q := fun q h => by rw [← hAe]; exact Or.inr h
  clear hAe
  have hP : va_P (dC, dI) cls [] s.heap := hP
  have hl := lv_entry ([.int p0]) (n := 1) (Nat.le_of_ble_eq_true rfl)
  rw [lg_entry_eq]
  generalize (lg_sl ([.int p0]) ++ List.replicate (1 - (lg_sl ([.int p0])).length) Slot.unset).toArray = ls at hl ⊢
  have hl : lv_has ls 1 [(0, .int p0)] := hl
  have k0 : (0 : Int32).toInt = 0 := by decide
  refine w_gen (A := A) hP (fun H locs hP hS => ?_)
  have k1 : (1 : Int32).toInt = 1 := by decide
  have k48 : (48 : Int32).toInt = 48 := by decide
  have k57 : (57 : Int32).toInt = 57 := by decide
  have lo_p0 := i32_lo p0
  have hi_p0 := i32_hi p0
  refine lv_iload_n hx hb d_SC_isDigit_0 rfl (lv_at hl 0 rfl) ?_
  refine lv_bipush (v := 48) hx hb d_SC_isDigit_1 (by decide) ?_
  refine lv_icmp_lt (tgt := 16) hx hb d_SC_isDigit_3 (by decide) (fun c3 => ?_) (fun c3 => ?_)
  · have q3 := ltI c3
    refine lv_iconst (v := 0) hx hb d_SC_isDigit_16 (by decide) ?_
    have hP9 := hP.sb (wq := []) [] rfl
    have hD9 := hD.sb (wq := []) [] (by decide) rfl
    exact W.zret (v := 0) hx hb hr (zn01 (Or.inl rfl)) (fun t ht hW => ⟨⟨0, (), rfl, ⟨Or.inl rfl, ⟨fun z => absurd z (by decide), fun _ => by (first | (apply Int.le_antisymm <;> omega) | omega)⟩⟩, va_P.he ht.symm hP9, va_K.moved hW.alike hK, hD9⟩, hS.F ht⟩) hS.2.2 d_SC_isDigit_17
  · have q3 := nltI c3
    refine lv_iload_n hx hb d_SC_isDigit_6 rfl (lv_at hl 0 rfl) ?_
    refine lv_bipush (v := 57) hx hb d_SC_isDigit_7 (by decide) ?_
    refine lv_icmp_gt (tgt := 16) hx hb d_SC_isDigit_9 (by decide) (fun c9 => ?_) (fun c9 => ?_)
    · have q9 := ltI c9
      refine lv_iconst (v := 0) hx hb d_SC_isDigit_16 (by decide) ?_
      have hP9 := hP.sb (wq := []) [] rfl
      have hD9 := hD.sb (wq := []) [] (by decide) rfl
      exact W.zret (v := 0) hx hb hr (zn01 (Or.inl rfl)) (fun t ht hW => ⟨⟨0, (), rfl, ⟨Or.inl rfl, ⟨fun z => absurd z (by decide), fun _ => by (first | (apply Int.le_antisymm <;> omega) | omega)⟩⟩, va_P.he ht.symm hP9, va_K.moved hW.alike hK, hD9⟩, hS.F ht⟩) hS.2.2 d_SC_isDigit_17
    · have q9 := nltI c9
      refine lv_iconst (v := 1) hx hb d_SC_isDigit_12 (by decide) ?_
      refine lv_goto (tgt := 17) hx hb d_SC_isDigit_13 (by decide) ?_
      have hP9 := hP.sb (wq := []) [] rfl
      have hD9 := hD.sb (wq := []) [] (by decide) rfl
      exact W.zret (v := 1) hx hb hr (zn01 (Or.inr rfl)) (fun t ht hW => ⟨⟨1, (), rfl, ⟨Or.inr rfl, ⟨fun _ => by (first | (apply Int.le_antisymm <;> omega) | omega), fun z => absurd z (by decide)⟩⟩, va_P.he ht.symm hP9, va_K.moved hW.alike hK, hD9⟩, hS.F ht⟩) hS.2.2 d_SC_isDigit_17
abbrev b_SC_isNamePart : ByteArray := prog_10_method_13_code
def y_SC_isNamePart : MethodName := ⟨R_SC, "isNamePart", "(I)Z"⟩
abbrev w_SC_isNamePart : List Cond := .code y_SC_isNamePart b_SC_isNamePart 1 (Option.some .boolean) :: lw_g
theorem kC_SC_isNamePart : Cond.code y_SC_isNamePart b_SC_isNamePart 1 (Option.some .boolean) ∈ lw_g := in_c4 80 rfl rfl
theorem d_SC_isNamePart_0 : decode b_SC_isNamePart 0 = .ok (.iload_n 0, 1) := bz_c26 (by decide +kernel)
theorem d_SC_isNamePart_1 : decode b_SC_isNamePart 1 = .ok (.invokestatic 83, 3) := bz_c184 (by decide +kernel)
theorem d_SC_isNamePart_4 : decode b_SC_isNamePart 4 = .ok (.ifCond .ne 10, 3) := bz_c154 (by decide +kernel)
theorem d_SC_isNamePart_7 : decode b_SC_isNamePart 7 = .ok (.iload_n 0, 1) := bz_c26 (by decide +kernel)
theorem d_SC_isNamePart_8 : decode b_SC_isNamePart 8 = .ok (.invokestatic 90, 3) := bz_c184 (by decide +kernel)
theorem d_SC_isNamePart_11 : decode b_SC_isNamePart 11 = .ok (.ifCond .eq 7, 3) := bz_c153 (by decide +kernel)
theorem d_SC_isNamePart_14 : decode b_SC_isNamePart 14 = .ok (.iconst 1, 1) := bz_c4 (by decide +kernel)
theorem d_SC_isNamePart_15 : decode b_SC_isNamePart 15 = .ok (.goto 4, 3) := bz_c167 (by decide +kernel)
theorem d_SC_isNamePart_18 : decode b_SC_isNamePart 18 = .ok (.iconst 0, 1) := bz_c3 (by decide +kernel)
theorem d_SC_isNamePart_19 : decode b_SC_isNamePart 19 = .ok (.ireturn, 1) := bz_c172 (by decide +kernel)
theorem kM_SC_83 : Cond.methodLink R_SC 83 y_SC_isLetter ∈ lw_g := in_c4 71 rfl rfl
theorem kT_SC_isLetter : Cond.static y_SC_isLetter ∈ lw_g := in_c4 72 rfl rfl
theorem kM_SC_90 : Cond.methodLink R_SC 90 y_SC_isDigit ∈ lw_g := in_c4 81 rfl rfl
theorem kT_SC_isDigit : Cond.static y_SC_isDigit ∈ lw_g := in_c4 82 rfl rfl
abbrev at_SC_isNamePart (dC : Nat → ClassId) (dI : Nat → Nat → Nat)  (A : Nat → Prop) (u : Unit) (t : State) : Prop := match u with | _ => va_P (dC, dI) cls [] t.heap ∧ va_K (dC, dI) cls [] t ∧ va_D A []
set_option maxHeartbeats 4000000 in
set_option maxRecDepth 100000 in
theorem c_SC_isNamePart (l : Launch) (dC : Nat → ClassId) (dI : Nat → Nat → Nat) (sz : Nat)    (p0 : Int32)   : Met l y_SC_isNamePart w_SC_isNamePart ({ frames := 1, cells := 0, slots := 0, locals := 20 }) (va_Pc [.int p0] (fun U => U.heap.size = sz ∧ va_P (dC, dI) cls [] U.heap ∧ va_K (dC, dI) cls [] U ∧ va_D (fun _ => True) [])) (va_Qi (fun (r : Int32) (u : Unit) => match u with | _ => (r = 0 ∨ r = 1)) (at_SC_isNamePart dC dI  (va_A [] sz)) (va_A [] sz)) 0 0 (va_A [] sz) := by
  refine Met.ofW (cc := b_SC_isNamePart) (maxL := 1) (ret := (Option.some .boolean)) (by decide) rfl ?_
  intro p e s m args below meth c s₁ B hml hv
  obtain ⟨rfl, hsz, hP, hK, hD0⟩ := hv
  have hx := B.exec
  have hb := B.bytes
  have hr := B.returns
  have hts0 := atoms_spec (ws := w_SC_isNamePart) B.pre
  have hts : ∀ w ∈ lw_g, w.before _ s = true := fun w h => hts0 w (List.mem_cons_of_mem _ h)
  have hown : s.vm.findClass R_SC = some m.cls := findClass_of_methodNamed B.named
  have hlocks := B.notSynchronized
  clear hts0
  subst hsz
  have hD := hD0.self (sz := s.heap.size)
  generalize hAe : va_A [] s.heap.size = A at hD ⊢
  have hA : ∀ q : Nat, s.heap.size ≤ q → A q := fun q h => by rw [← hAe]; exact Or.inr h
  clear hAe
  have hP : va_P (dC, dI) cls [] s.heap := hP
  have hl := lv_entry ([.int p0]) (n := 1) (Nat.le_of_ble_eq_true rfl)
  rw [lg_entry_eq]
  generalize (lg_sl ([.int p0]) ++ List.replicate (1 - (lg_sl ([.int p0])).length) Slot.unset).toArray = ls at hl ⊢
  have hl : lv_has ls 1 [(0, .int p0)] := hl
  have k0 : (0 : Int32).toInt = 0 := by decide
  refine w_gen (A := A) hP (fun H locs hP hS => ?_)
  have k1 : (1 : Int32).toInt = 1 := by decide
  have lo_p0 := i32_lo p0
  have hi_p0 := i32_hi p0
  refine lv_iload_n hx hb d_SC_isNamePart_0 rfl (lv_at hl 0 rfl) ?_
  have hPc := hP.sb (wq := []) [] rfl
  have hDc := hD.sb (wq := []) [] (by decide) rfl
  have hKc := hK.sb (tyq := []) [] rfl
  have hFc := va_free (wc := []) hD hS hA [] rfl
  refine va_calli (va_runS (As := [.int p0]) (rest := []) ⟨hx, hb, hml, hown, hts⟩ (c_SC_isLetter l dC dI H.size p0) ⟨callB_of 1 hts (gW kC_SC_isLetter) rfl rfl rfl (hts _ kI_SC) (hts _ kM_SC_83) (by decide +kernel) ⟨Nat.le_of_ble_eq_true rfl, Nat.le_of_ble_eq_true rfl⟩, hts _ kT_SC_isLetter⟩ ⟨fun a U g mk z => by obtain ⟨z0, z1, zP, zK, zD⟩ := z; exact ⟨z0, z1, zP, va_K.moved (u := U) (U := U.calling g mk a) (Vm.Alike.refl U.vm) zK, zD⟩, fun U hU hW => ⟨rfl, by rw [hU], va_P.he hU.symm hPc, va_K.moved hW.alike hKc, hDc.weaken (fun _ _ _ _ => trivial)⟩⟩ rfl rfl hl.1 rfl (lv_room (Nat.le_of_ble_eq_true rfl)) d_SC_isNamePart_1 ⟨(Nat.zero_le _), (Nat.zero_le _)⟩) hS (fun q _ h => hFc q h) hFc (fun r1 u t H1 locs ht hvm hw hB hz1 hk1 hS => ?_)
  try dsimp only at hw
  have br1 := hw
  try clear hw
  have tr1 := b01 br1
  obtain ⟨hP1, hK1, hD1⟩ := hB
  replace hP1 := va_P.he ht hP1
  obtain ⟨hP, hD⟩ := va_join (wr := []) (w1 := []) hP hD [] [] rfl rfl (by decide) (by decide) hk1 hFc hP1 hD1
  clear hPc hDc hKc hFc hz1 hk1 hP1 hK1 hD1
  rename Heap => H
  have hP : va_P (dC, dI) cls [] H := hP
  have hD : va_D A [] := hD
  refine lv_if_ne (tgt := 14) hx hb d_SC_isNamePart_4 (by decide) (fun c4 => ?_) (fun c4 => ?_)
  · have q4 := neI c4
    refine lv_iconst (v := 1) hx hb d_SC_isNamePart_14 (by decide) ?_
    refine lv_goto (tgt := 19) hx hb d_SC_isNamePart_15 (by decide) ?_
    have hP9 := hP.sb (wq := []) [] rfl
    have hD9 := hD.sb (wq := []) [] (by decide) rfl
    exact W.zret (v := 1) hx hb hr (zn01 (Or.inr rfl)) (fun t ht hW => ⟨⟨1, (), rfl, (Or.inr rfl), va_P.he ht.symm hP9, va_K.moved hW.alike hK, hD9⟩, hS.F ht⟩) hS.2.2 d_SC_isNamePart_19
  · have q4 := eqI c4
    refine lv_iload_n hx hb d_SC_isNamePart_7 rfl (lv_at hl 0 rfl) ?_
    have hPc := hP.sb (wq := []) [] rfl
    have hDc := hD.sb (wq := []) [] (by decide) rfl
    have hKc := hK.sb (tyq := []) [] rfl
    have hFc := va_free (wc := []) hD hS hA [] rfl
    refine va_calli (va_runS (As := [.int p0]) (rest := []) ⟨hx, hb, hml, hown, hts⟩ (c_SC_isDigit l dC dI H.size p0) ⟨callB_of 1 hts (gW kC_SC_isDigit) rfl rfl rfl (hts _ kI_SC) (hts _ kM_SC_90) (by decide +kernel) ⟨Nat.le_of_ble_eq_true rfl, Nat.le_of_ble_eq_true rfl⟩, hts _ kT_SC_isDigit⟩ ⟨fun a U g mk z => by obtain ⟨z0, z1, zP, zK, zD⟩ := z; exact ⟨z0, z1, zP, va_K.moved (u := U) (U := U.calling g mk a) (Vm.Alike.refl U.vm) zK, zD⟩, fun U hU hW => ⟨rfl, by rw [hU], va_P.he hU.symm hPc, va_K.moved hW.alike hKc, hDc.weaken (fun _ _ _ _ => trivial)⟩⟩ rfl rfl hl.1 rfl (lv_room (Nat.le_of_ble_eq_true rfl)) d_SC_isNamePart_8 ⟨(Nat.zero_le _), (Nat.zero_le _)⟩) hS (fun q _ h => hFc q h) hFc (fun r2 u t H1 locs ht hvm hw hB hz1 hk1 hS => ?_)
    try dsimp only at hw
    obtain ⟨br2, xr2⟩ := hw
    try clear hw
    have tr2 := b01 br2
    obtain ⟨hP1, hK1, hD1⟩ := hB
    replace hP1 := va_P.he ht hP1
    obtain ⟨hP, hD⟩ := va_join (wr := []) (w1 := []) hP hD [] [] rfl rfl (by decide) (by decide) hk1 hFc hP1 hD1
    clear hPc hDc hKc hFc hz1 hk1 hP1 hK1 hD1
    rename Heap => H
    have hP : va_P (dC, dI) cls [] H := hP
    have hD : va_D A [] := hD
    refine lv_if_eq (tgt := 18) hx hb d_SC_isNamePart_11 (by decide) (fun c11 => ?_) (fun c11 => ?_)
    · have q11 := eqI c11
      refine lv_iconst (v := 0) hx hb d_SC_isNamePart_18 (by decide) ?_
      have hP9 := hP.sb (wq := []) [] rfl
      have hD9 := hD.sb (wq := []) [] (by decide) rfl
      exact W.zret (v := 0) hx hb hr (zn01 (Or.inl rfl)) (fun t ht hW => ⟨⟨0, (), rfl, (Or.inl rfl), va_P.he ht.symm hP9, va_K.moved hW.alike hK, hD9⟩, hS.F ht⟩) hS.2.2 d_SC_isNamePart_19
    · have q11 := neI c11
      refine lv_iconst (v := 1) hx hb d_SC_isNamePart_14 (by decide) ?_
      refine lv_goto (tgt := 19) hx hb d_SC_isNamePart_15 (by decide) ?_
      have hP9 := hP.sb (wq := []) [] rfl
      have hD9 := hD.sb (wq := []) [] (by decide) rfl
      exact W.zret (v := 1) hx hb hr (zn01 (Or.inr rfl)) (fun t ht hW => ⟨⟨1, (), rfl, (Or.inr rfl), va_P.he ht.symm hP9, va_K.moved hW.alike hK, hD9⟩, hS.F ht⟩) hS.2.2 d_SC_isNamePart_19
abbrev b_SC_skipBlanks : ByteArray := prog_10_method_6_code
def y_SC_skipBlanks : MethodName := ⟨R_SC, "skipBlanks", "()V"⟩
abbrev w_SC_skipBlanks : List Cond := .code y_SC_skipBlanks b_SC_skipBlanks 3 none :: lw_g
theorem kC_SC_skipBlanks : Cond.code y_SC_skipBlanks b_SC_skipBlanks 3 none ∈ lw_g := in_c4 65 rfl rfl
theorem d_SC_skipBlanks_0 : decode b_SC_skipBlanks 0 = .ok (.iconst 0, 1) := bz_c3 (by decide +kernel)
theorem d_SC_skipBlanks_1 : decode b_SC_skipBlanks 1 = .ok (.istore_n 1, 1) := bz_c60 (by decide +kernel)
theorem d_SC_skipBlanks_2 : decode b_SC_skipBlanks 2 = .ok (.aload_n 0, 1) := bz_c42 (by decide +kernel)
theorem d_SC_skipBlanks_3 : decode b_SC_skipBlanks 3 = .ok (.dup, 1) := bz_c89 (by decide +kernel)
theorem d_SC_skipBlanks_4 : decode b_SC_skipBlanks 4 = .ok (.getfield 39, 3) := bz_c180 (by decide +kernel)
theorem d_SC_skipBlanks_7 : decode b_SC_skipBlanks 7 = .ok (.aload_n 0, 1) := bz_c42 (by decide +kernel)
theorem d_SC_skipBlanks_8 : decode b_SC_skipBlanks 8 = .ok (.getfield 43, 3) := bz_c180 (by decide +kernel)
theorem d_SC_skipBlanks_11 : decode b_SC_skipBlanks 11 = .ok (.iadd, 1) := bz_c96 (by decide +kernel)
theorem d_SC_skipBlanks_12 : decode b_SC_skipBlanks 12 = .ok (.putfield 39, 3) := bz_c181 (by decide +kernel)
theorem d_SC_skipBlanks_15 : decode b_SC_skipBlanks 15 = .ok (.aload_n 0, 1) := bz_c42 (by decide +kernel)
theorem d_SC_skipBlanks_16 : decode b_SC_skipBlanks 16 = .ok (.getfield 39, 3) := bz_c180 (by decide +kernel)
theorem d_SC_skipBlanks_19 : decode b_SC_skipBlanks 19 = .ok (.aload_n 0, 1) := bz_c42 (by decide +kernel)
theorem d_SC_skipBlanks_20 : decode b_SC_skipBlanks 20 = .ok (.getfield 35, 3) := bz_c180 (by decide +kernel)
theorem d_SC_skipBlanks_23 : decode b_SC_skipBlanks 23 = .ok (.getfield 77, 3) := bz_c180 (by decide +kernel)
theorem d_SC_skipBlanks_26 : decode b_SC_skipBlanks 26 = .ok (.if_icmp .ge 101, 3) := bz_c162 (by decide +kernel)
theorem d_SC_skipBlanks_29 : decode b_SC_skipBlanks 29 = .ok (.aload_n 0, 1) := bz_c42 (by decide +kernel)
theorem d_SC_skipBlanks_30 : decode b_SC_skipBlanks 30 = .ok (.getfield 35, 3) := bz_c180 (by decide +kernel)
theorem d_SC_skipBlanks_33 : decode b_SC_skipBlanks 33 = .ok (.aload_n 0, 1) := bz_c42 (by decide +kernel)
theorem d_SC_skipBlanks_34 : decode b_SC_skipBlanks 34 = .ok (.getfield 39, 3) := bz_c180 (by decide +kernel)
theorem d_SC_skipBlanks_37 : decode b_SC_skipBlanks 37 = .ok (.invokevirtual 80, 3) := bz_c182 (by decide +kernel)
theorem d_SC_skipBlanks_40 : decode b_SC_skipBlanks 40 = .ok (.istore_n 2, 1) := bz_c61 (by decide +kernel)
theorem d_SC_skipBlanks_41 : decode b_SC_skipBlanks 41 = .ok (.iload_n 1, 1) := bz_c27 (by decide +kernel)
theorem d_SC_skipBlanks_42 : decode b_SC_skipBlanks 42 = .ok (.ifCond .eq 18, 3) := bz_c153 (by decide +kernel)
theorem d_SC_skipBlanks_45 : decode b_SC_skipBlanks 45 = .ok (.iload_n 2, 1) := bz_c28 (by decide +kernel)
theorem d_SC_skipBlanks_46 : decode b_SC_skipBlanks 46 = .ok (.bipush 10, 2) := bz_c16 (by decide +kernel)
theorem d_SC_skipBlanks_48 : decode b_SC_skipBlanks 48 = .ok (.if_icmp .eq 7, 3) := bz_c159 (by decide +kernel)
theorem d_SC_skipBlanks_51 : decode b_SC_skipBlanks 51 = .ok (.iconst 1, 1) := bz_c4 (by decide +kernel)
theorem d_SC_skipBlanks_52 : decode b_SC_skipBlanks 52 = .ok (.goto 4, 3) := bz_c167 (by decide +kernel)
theorem d_SC_skipBlanks_55 : decode b_SC_skipBlanks 55 = .ok (.iconst 0, 1) := bz_c3 (by decide +kernel)
theorem d_SC_skipBlanks_56 : decode b_SC_skipBlanks 56 = .ok (.istore_n 1, 1) := bz_c60 (by decide +kernel)
theorem d_SC_skipBlanks_57 : decode b_SC_skipBlanks 57 = .ok (.goto 57, 3) := bz_c167 (by decide +kernel)
theorem d_SC_skipBlanks_60 : decode b_SC_skipBlanks 60 = .ok (.iload_n 2, 1) := bz_c28 (by decide +kernel)
theorem d_SC_skipBlanks_61 : decode b_SC_skipBlanks 61 = .ok (.bipush 47, 2) := bz_c16 (by decide +kernel)
theorem d_SC_skipBlanks_63 : decode b_SC_skipBlanks 63 = .ok (.if_icmp .ne 26, 3) := bz_c160 (by decide +kernel)
theorem d_SC_skipBlanks_66 : decode b_SC_skipBlanks 66 = .ok (.aload_n 0, 1) := bz_c42 (by decide +kernel)
theorem d_SC_skipBlanks_67 : decode b_SC_skipBlanks 67 = .ok (.getfield 35, 3) := bz_c180 (by decide +kernel)
theorem d_SC_skipBlanks_70 : decode b_SC_skipBlanks 70 = .ok (.aload_n 0, 1) := bz_c42 (by decide +kernel)
theorem d_SC_skipBlanks_71 : decode b_SC_skipBlanks 71 = .ok (.getfield 39, 3) := bz_c180 (by decide +kernel)
theorem d_SC_skipBlanks_74 : decode b_SC_skipBlanks 74 = .ok (.iconst 1, 1) := bz_c4 (by decide +kernel)
theorem d_SC_skipBlanks_75 : decode b_SC_skipBlanks 75 = .ok (.iadd, 1) := bz_c96 (by decide +kernel)
theorem d_SC_skipBlanks_76 : decode b_SC_skipBlanks 76 = .ok (.invokevirtual 80, 3) := bz_c182 (by decide +kernel)
theorem d_SC_skipBlanks_79 : decode b_SC_skipBlanks 79 = .ok (.bipush 47, 2) := bz_c16 (by decide +kernel)
theorem d_SC_skipBlanks_81 : decode b_SC_skipBlanks 81 = .ok (.if_icmp .ne 8, 3) := bz_c160 (by decide +kernel)
theorem d_SC_skipBlanks_84 : decode b_SC_skipBlanks 84 = .ok (.iconst 1, 1) := bz_c4 (by decide +kernel)
theorem d_SC_skipBlanks_85 : decode b_SC_skipBlanks 85 = .ok (.istore_n 1, 1) := bz_c60 (by decide +kernel)
theorem d_SC_skipBlanks_86 : decode b_SC_skipBlanks 86 = .ok (.goto 28, 3) := bz_c167 (by decide +kernel)
theorem d_SC_skipBlanks_89 : decode b_SC_skipBlanks 89 = .ok (.iload_n 2, 1) := bz_c28 (by decide +kernel)
theorem d_SC_skipBlanks_90 : decode b_SC_skipBlanks 90 = .ok (.bipush 9, 2) := bz_c16 (by decide +kernel)
theorem d_SC_skipBlanks_92 : decode b_SC_skipBlanks 92 = .ok (.if_icmp .eq 22, 3) := bz_c159 (by decide +kernel)
theorem d_SC_skipBlanks_95 : decode b_SC_skipBlanks 95 = .ok (.iload_n 2, 1) := bz_c28 (by decide +kernel)
theorem d_SC_skipBlanks_96 : decode b_SC_skipBlanks 96 = .ok (.bipush 10, 2) := bz_c16 (by decide +kernel)
theorem d_SC_skipBlanks_98 : decode b_SC_skipBlanks 98 = .ok (.if_icmp .eq 16, 3) := bz_c159 (by decide +kernel)
theorem d_SC_skipBlanks_101 : decode b_SC_skipBlanks 101 = .ok (.iload_n 2, 1) := bz_c28 (by decide +kernel)
theorem d_SC_skipBlanks_102 : decode b_SC_skipBlanks 102 = .ok (.bipush 13, 2) := bz_c16 (by decide +kernel)
theorem d_SC_skipBlanks_104 : decode b_SC_skipBlanks 104 = .ok (.if_icmp .eq 10, 3) := bz_c159 (by decide +kernel)
theorem d_SC_skipBlanks_107 : decode b_SC_skipBlanks 107 = .ok (.iload_n 2, 1) := bz_c28 (by decide +kernel)
theorem d_SC_skipBlanks_108 : decode b_SC_skipBlanks 108 = .ok (.bipush 32, 2) := bz_c16 (by decide +kernel)
theorem d_SC_skipBlanks_110 : decode b_SC_skipBlanks 110 = .ok (.if_icmp .eq 4, 3) := bz_c159 (by decide +kernel)
theorem d_SC_skipBlanks_113 : decode b_SC_skipBlanks 113 = .ok (.return_, 1) := bz_c177 (by decide +kernel)
theorem d_SC_skipBlanks_114 : decode b_SC_skipBlanks 114 = .ok (.aload_n 0, 1) := bz_c42 (by decide +kernel)
theorem d_SC_skipBlanks_115 : decode b_SC_skipBlanks 115 = .ok (.dup, 1) := bz_c89 (by decide +kernel)
theorem d_SC_skipBlanks_116 : decode b_SC_skipBlanks 116 = .ok (.getfield 39, 3) := bz_c180 (by decide +kernel)
theorem d_SC_skipBlanks_119 : decode b_SC_skipBlanks 119 = .ok (.iconst 1, 1) := bz_c4 (by decide +kernel)
theorem d_SC_skipBlanks_120 : decode b_SC_skipBlanks 120 = .ok (.iadd, 1) := bz_c96 (by decide +kernel)
theorem d_SC_skipBlanks_121 : decode b_SC_skipBlanks 121 = .ok (.putfield 39, 3) := bz_c181 (by decide +kernel)
theorem d_SC_skipBlanks_124 : decode b_SC_skipBlanks 124 = .ok (.goto (-109), 3) := bz_c167 (by decide +kernel)
theorem d_SC_skipBlanks_127 : decode b_SC_skipBlanks 127 = .ok (.return_, 1) := bz_c177 (by decide +kernel)
theorem kM_SC_80 : Cond.methodLink R_SC 80 y_BR_at ∈ lw_g := in_c4 66 rfl rfl
theorem kF_SC_39 : Cond.fieldLink R_SC 39 "WaferForge$Scanner" "place" "I" ∈ lw_g := in_c2 28 rfl rfl
theorem kF_SC_43 : Cond.fieldLink R_SC 43 "WaferForge$Scanner" "size" "I" ∈ lw_g := in_c2 30 rfl rfl
theorem kF_SC_35 : Cond.fieldLink R_SC 35 "WaferForge$Scanner" "text" "LWaferForge$ByteRow;" ∈ lw_g := in_c2 24 rfl rfl
theorem kF_SC_77 : Cond.fieldLink R_SC 77 "WaferForge$ByteRow" "length" "I" ∈ lw_g := in_c1 62 rfl rfl
abbrev at_SC_skipBlanks (dC : Nat → ClassId) (dI : Nat → Nat → Nat) (sa : Nat → Nat) (h0 tr ss sp szs sv tx : Nat) (ctx : ClassId) (h0_sign : Nat) (h0_size : Int32) (h0_value : Int64) (h0_length : Int32) (h0_at : Int32) (tr_length : Int32) (gtx : Nat → Int32) (A : Nat → Prop) (u : Int32) (t : State) : Prop := match u with | h0_place => va_P (dC, dI) cls (wz_104 h0 tr (sg sa h0_sign) h0_place h0_size h0_value ss sp szs sv h0_length h0_at tr tx tr_length tx ctx gtx) t.heap ∧ va_K (dC, dI) cls [(ctx, .byte)] t ∧ va_D A (wz_104 h0 tr (sg sa h0_sign) h0_place h0_size h0_value ss sp szs sv h0_length h0_at tr tx tr_length tx ctx gtx)
set_option maxHeartbeats 4000000 in
set_option maxRecDepth 100000 in
theorem c_SC_skipBlanks (l : Launch) (dC : Nat → ClassId) (dI : Nat → Nat → Nat) (sz : Nat) (sa : Nat → Nat) (h0 tr ss sp szs sv tx : Nat) (ctx : ClassId) (h0_sign : Nat) (h0_place : Int32) (h0_size : Int32) (h0_value : Int64) (h0_length : Int32) (h0_at : Int32) (tr_length : Int32) (gtx : Nat → Int32)  (b_h0_place : 0 ≤ h0_place.toInt ∧ h0_place.toInt ≤ 2000) (b_h0_size : 0 ≤ h0_size.toInt ∧ h0_size.toInt ≤ 2000) (b_tr_length : 0 ≤ tr_length.toInt ∧ tr_length.toInt ≤ 2000)   (hps : h0_place.toInt + h0_size.toInt ≤ tr_length.toInt) : Met l y_SC_skipBlanks w_SC_skipBlanks ({ frames := 1, cells := 0, slots := 0, locals := 21 }) (va_Pc [.ref h0] (fun U => U.heap.size = sz ∧ va_P (dC, dI) cls (wz_104 h0 tr (sg sa h0_sign) h0_place h0_size h0_value ss sp szs sv h0_length h0_at tr tx tr_length tx ctx gtx) U.heap ∧ va_K (dC, dI) cls [(ctx, .byte)] U ∧ va_D (fun _ => True) (wz_104 h0 tr (sg sa h0_sign) h0_place h0_size h0_value ss sp szs sv h0_length h0_at tr tx tr_length tx ctx gtx) ∧ sw sa (va_A (wz_104 h0 tr (sg sa h0_sign) h0_place h0_size h0_value ss sp szs sv h0_length h0_at tr tx tr_length tx ctx gtx) sz) U U.heap)) (va_Qv (fun (u : Int32) => match u with | h0_place2 => (0 ≤ h0_place2.toInt ∧ h0_place2.toInt ≤ 2000) ∧ (h0_place.toInt + h0_size.toInt ≤ h0_place2.toInt ∧ h0_place2.toInt ≤ tr_length.toInt)) (at_SC_skipBlanks dC dI sa h0 tr ss sp szs sv tx ctx h0_sign h0_size h0_value h0_length h0_at tr_length gtx (va_A (wz_104 h0 tr (sg sa h0_sign) h0_place h0_size h0_value ss sp szs sv h0_length h0_at tr tx tr_length tx ctx gtx) sz)) (va_A (wz_104 h0 tr (sg sa h0_sign) h0_place h0_size h0_value ss sp szs sv h0_length h0_at tr tx tr_length tx ctx gtx) sz)) 0 0 (va_A (wz_104 h0 tr (sg sa h0_sign) h0_place h0_size h0_value ss sp szs sv h0_length h0_at tr tx tr_length tx ctx gtx) sz) := by
  refine Met.ofW (cc := b_SC_skipBlanks) (maxL := 3) (ret := none) (by decide) rfl ?_
  intro p e s m args below meth c s₁ B hml hv
  obtain ⟨rfl, hsz, hP, hK, hD0, hSW⟩ := hv
  have hx := B.exec
  have hb := B.bytes
  have hr := B.returns
  have hts0 := atoms_spec (ws := w_SC_skipBlanks) B.pre
  have hts : ∀ w ∈ lw_g, w.before _ s = true := fun w h => hts0 w (List.mem_cons_of_mem _ h)
  have hown : s.vm.findClass R_SC = some m.cls := findClass_of_methodNamed B.named
  have hlocks := B.notSynchronized
  clear hts0
  subst hsz
  have hD := hD0.self (sz := s.heap.size)
  generalize hAe : va_A (wz_104 h0 tr (sg sa h0_sign) h0_place h0_size h0_value ss sp szs sv h0_length h0_at tr tx tr_length tx ctx gtx) s.heap.size = A at hD hSW ⊢
  have hA : ∀ q : Nat, s.heap.size ≤ q → A q := fun q h => by rw [← hAe]; exact Or.inr h
  clear hAe
  have hP : va_P (dC, dI) cls (wz_104 h0 tr (sg sa h0_sign) h0_place h0_size h0_value ss sp szs sv h0_length h0_at tr tx tr_length tx ctx gtx) s.heap := hP
  have hl := lv_entry ([.ref h0]) (n := 3) (Nat.le_of_ble_eq_true rfl)
  rw [lg_entry_eq]
  generalize (lg_sl ([.ref h0]) ++ List.replicate (3 - (lg_sl ([.ref h0])).length) Slot.unset).toArray = ls at hl ⊢
  have hl : lv_has ls 3 [(0, .ref h0)] := hl
  have k0 : (0 : Int32).toInt = 0 := by decide
  refine w_gen (A := A) hP (fun H locs hP hS => ?_)
  have k1 : (1 : Int32).toInt = 1 := by decide
  have k9 : (9 : Int32).toInt = 9 := by decide
  have k10 : (10 : Int32).toInt = 10 := by decide
  have k13 : (13 : Int32).toInt = 13 := by decide
  have k32 : (32 : Int32).toInt = 32 := by decide
  have k47 : (47 : Int32).toInt = 47 := by decide
  refine lv_iconst (v := 0) hx hb d_SC_skipBlanks_0 (by decide) ?_
  refine lv_istore_n (lv' := [(1, .int 0), (0, .ref h0)]) hx hb d_SC_skipBlanks_1 rfl hl (by decide) rfl (fun ls hl => ?_)
  refine lv_aload_n hx hb d_SC_skipBlanks_2 rfl (lv_at hl 1 rfl) ?_
  refine lv_dup hx hb d_SC_skipBlanks_3 rfl ?_
  refine va_get (D := (dC, dI)) (ci := 8) (v := .int h0_place) (C := R_SC) (T := F_SC) (N := 11) hx hb hts i_SC hown hK hP 0 rfl rfl 2 (by decide) (hts _ kF_SC_39) (fun _ h9 => h9) rfl d_SC_skipBlanks_4 ?_
  refine lv_aload_n hx hb d_SC_skipBlanks_7 rfl (lv_at hl 1 rfl) ?_
  refine va_get (D := (dC, dI)) (ci := 8) (v := .int h0_size) (C := R_SC) (T := F_SC) (N := 11) hx hb hts i_SC hown hK hP 0 rfl rfl 3 (by decide) (hts _ kF_SC_43) (fun _ h9 => h9) rfl d_SC_skipBlanks_8 ?_
  refine lv_iadd hx hb d_SC_skipBlanks_11 ?_
  refine lv_topi (fun x1 ex1 => ?_)
  have tx1 : x1.toInt = h0_place.toInt + h0_size.toInt := by have z := i32_add ex1 (by (first | (apply Int.le_antisymm <;> omega) | omega)) (by (first | (apply Int.le_antisymm <;> omega) | omega)); first | exact z | (first | (apply Int.le_antisymm <;> omega) | omega)
  refine va_put (D := (dC, dI)) (ci := 8) (v := .int x1) (ty := .int) (C := R_SC) (T := F_SC) (N := 11) hx hb hts i_SC t_SC t_SC_ok n_SC hown hK hP hD hS 0 rfl rfl 2 (by decide) (hts _ kF_SC_39) (fun _ h9 => h9) rfl (by decide +kernel) rfl rfl (Nat.le_of_ble_eq_true rfl) d_SC_skipBlanks_12 (fun H locs hP hD hS => ?_)
  refine w_loop (σ := Int32 × Int32) (fun u H locs ls => match u with | (j15_l1, j15_h0_place) => (j15_l1 = 0 ∨ j15_l1 = 1) ∧ (0 ≤ j15_h0_place.toInt ∧ j15_h0_place.toInt ≤ 2000) ∧ (h0_place.toInt + h0_size.toInt ≤ j15_h0_place.toInt ∧ j15_h0_place.toInt ≤ tr_length.toInt) ∧ va_P (dC, dI) cls (wz_104 h0 tr (sg sa h0_sign) j15_h0_place h0_size h0_value ss sp szs sv h0_length h0_at tr tx tr_length tx ctx gtx) H ∧ va_D A (wz_104 h0 tr (sg sa h0_sign) j15_h0_place h0_size h0_value ss sp szs sv h0_length h0_at tr tx tr_length tx ctx gtx) ∧ va_S A s.heap H locs ∧ lv_has ls 3 [(0, .ref h0), (1, .int j15_l1)]) (fun u => match u with | (j15_l1, j15_h0_place) => (tr_length.toInt - j15_h0_place.toInt).toNat) ?_ (0, x1) ⟨Or.inl rfl, by (try dsimp only) <;> (first | (apply Int.le_antisymm <;> omega) | omega), by (try dsimp only) <;> (first | (apply Int.le_antisymm <;> omega) | omega), hP, hD, hS, lv_sub hl [1, 0] rfl⟩
  intro N15 ih15 u H locs ls hN15 hI
  obtain ⟨j15_l1, j15_h0_place⟩ := u
  obtain ⟨b_j15_l1, b_j15_h0_place, v1, hP, hD, hS, hl⟩ := hI
  have tj15_l1 := b01 b_j15_l1
  have hN15 : (tr_length.toInt - j15_h0_place.toInt).toNat < N15 + 1 := hN15
  refine lv_aload_n hx hb d_SC_skipBlanks_15 rfl (lv_at hl 0 rfl) ?_
  refine va_get (D := (dC, dI)) (ci := 8) (v := .int j15_h0_place) (C := R_SC) (T := F_SC) (N := 11) hx hb hts i_SC hown hK hP 0 rfl rfl 2 (by decide) (hts _ kF_SC_39) (fun _ h9 => h9) rfl d_SC_skipBlanks_16 ?_
  refine lv_aload_n hx hb d_SC_skipBlanks_19 rfl (lv_at hl 0 rfl) ?_
  refine va_get (D := (dC, dI)) (ci := 8) (v := .ref tr) (C := R_SC) (T := F_SC) (N := 11) hx hb hts i_SC hown hK hP 0 rfl rfl 0 (by decide) (hts _ kF_SC_35) (fun _ h9 => h9) rfl d_SC_skipBlanks_20 ?_
  refine va_get (D := (dC, dI)) (ci := 1) (v := .int tr_length) (C := R_BR) (T := F_BR) (N := 2) hx hb hts i_BR hown hK hP 1 rfl rfl 1 (by decide) (hts _ kF_SC_77) (fun _ h9 => h9) rfl d_SC_skipBlanks_23 ?_
  refine lv_icmp_ge (tgt := 127) hx hb d_SC_skipBlanks_26 (by decide) (fun c26 => ?_) (fun c26 => ?_)
  · have q26 := leI c26
    have hP9 := hP.sb (wq := (wz_104 h0 tr (sg sa h0_sign) j15_h0_place h0_size h0_value ss sp szs sv h0_length h0_at tr tx tr_length tx ctx gtx)) [0, 1, 2] rfl
    have hD9 := hD.sb (wq := (wz_104 h0 tr (sg sa h0_sign) j15_h0_place h0_size h0_value ss sp szs sv h0_length h0_at tr tx tr_length tx ctx gtx)) [0, 1, 2] (by decide) rfl
    exact W.vret hx hb hr (fun t ht hW => ⟨⟨j15_h0_place, rfl, ⟨b_j15_h0_place, by (try dsimp only) <;> (first | (apply Int.le_antisymm <;> omega) | omega)⟩, va_P.he ht.symm hP9, va_K.moved hW.alike hK, hD9⟩, hS.F ht⟩) hS.2.2 d_SC_skipBlanks_127
  · have q26 := nleI c26
    refine lv_aload_n hx hb d_SC_skipBlanks_29 rfl (lv_at hl 0 rfl) ?_
    refine va_get (D := (dC, dI)) (ci := 8) (v := .ref tr) (C := R_SC) (T := F_SC) (N := 11) hx hb hts i_SC hown hK hP 0 rfl rfl 0 (by decide) (hts _ kF_SC_35) (fun _ h9 => h9) rfl d_SC_skipBlanks_30 ?_
    refine lv_aload_n hx hb d_SC_skipBlanks_33 rfl (lv_at hl 0 rfl) ?_
    refine va_get (D := (dC, dI)) (ci := 8) (v := .int j15_h0_place) (C := R_SC) (T := F_SC) (N := 11) hx hb hts i_SC hown hK hP 0 rfl rfl 2 (by decide) (hts _ kF_SC_39) (fun _ h9 => h9) rfl d_SC_skipBlanks_34 ?_
    have hPc := hP.sb (wq := [(tr, .inr (1, [.ref tx, .int tr_length])), (tx, .inl (ctx, 2000, .inl gtx))]) [1, 2] rfl
    have hDc := hD.sb (wq := [(tr, .inr (1, [.ref tx, .int tr_length])), (tx, .inl (ctx, 2000, .inl gtx))]) [1, 2] (by decide) rfl
    have hKc := hK.sb (tyq := [(ctx, .byte)]) [0] rfl
    have hFc := va_free (wc := [(tr, .inr (1, [.ref tx, .int tr_length])), (tx, .inl (ctx, 2000, .inl gtx))]) hD hS hA [1, 2] rfl
    refine va_calli (va_runV (As := [.int j15_h0_place]) (rest := []) ⟨hx, hb, hml, hown, hts⟩ (c_BR_at l dC dI tr tx H.size ctx 2000 tr_length gtx (by (first | (apply Int.le_antisymm <;> omega) | omega)) (by (first | (apply Int.le_antisymm <;> omega) | omega)) (by (first | (apply Int.le_antisymm <;> omega) | omega)) j15_h0_place) (cwV 1 hts (gV kM_SC_80 kV_BR_at kS_BR_at kI_BR kC_BR_at) rfl rfl rfl (by decide +kernel) ⟨Nat.le_of_ble_eq_true rfl, Nat.le_of_ble_eq_true rfl⟩) ⟨fun a U g mk z => by obtain ⟨z0, z1, zP, zK, zD⟩ := z; exact ⟨z0, z1, zP, va_K.moved (u := U) (U := U.calling g mk a) (Vm.Alike.refl U.vm) zK, zD⟩, va_recv hKc hPc (ci := 1) (q0 := 0) rfl rfl, fun U hU hW => ⟨rfl, by rw [hU], va_P.he hU.symm hPc, va_K.moved hW.alike hKc, hDc.weaken (fun _ _ _ _ => trivial)⟩⟩ rfl rfl hl.1 rfl (lv_room (Nat.le_of_ble_eq_true rfl)) d_SC_skipBlanks_37 ⟨(Nat.zero_le _), (Nat.zero_le _)⟩) hS (fun q _ h => hFc q h) hFc (fun r2 u t H1 locs ht hvm hw hB hz1 hk1 hS => ?_)
    obtain ⟨er2, rfl⟩ := hw
    have tr2 := br_get_in gtx tr_length j15_h0_place
    rw [← er2] at tr2
    obtain ⟨hP1, hK1, hD1⟩ := hB
    replace hP1 := va_P.he ht hP1
    obtain ⟨hP, hD⟩ := va_join (wr := (wz_105 h0 tr (sg sa h0_sign) j15_h0_place h0_size h0_value ss sp szs sv h0_length h0_at)) (w1 := [(tr, .inr (1, [.ref tx, .int tr_length])), (tx, .inl (ctx, 2000, .inl gtx))]) hP hD [1, 2] [0] rfl rfl (by decide) (by decide) hk1 hFc hP1 hD1
    clear hPc hDc hKc hFc hz1 hk1 hP1 hK1 hD1
    rename Heap => H
    have hP : va_P (dC, dI) cls (wz_104 h0 tr (sg sa h0_sign) j15_h0_place h0_size h0_value ss sp szs sv h0_length h0_at tr tx tr_length tx ctx gtx) H := hP
    have hD : va_D A (wz_104 h0 tr (sg sa h0_sign) j15_h0_place h0_size h0_value ss sp szs sv h0_length h0_at tr tx tr_length tx ctx gtx) := hD
    refine lv_istore_n (lv' := [(2, .int r2), (0, .ref h0), (1, .int j15_l1)]) hx hb d_SC_skipBlanks_40 rfl hl (by decide) rfl (fun ls hl => ?_)
    refine lv_iload_n hx hb d_SC_skipBlanks_41 rfl (lv_at hl 2 rfl) ?_
    refine w_cut (pc2 := 114) (σ := Int32) (fun u H locs ls => match u with | j114_l1 => (j114_l1 = 0 ∨ j114_l1 = 1) ∧ va_P (dC, dI) cls (wz_104 h0 tr (sg sa h0_sign) j15_h0_place h0_size h0_value ss sp szs sv h0_length h0_at tr tx tr_length tx ctx gtx) H ∧ va_D A (wz_104 h0 tr (sg sa h0_sign) j15_h0_place h0_size h0_value ss sp szs sv h0_length h0_at tr tx tr_length tx ctx gtx) ∧ va_S A s.heap H locs ∧ lv_has ls 3 [(0, .ref h0), (1, .int j114_l1)]) (fun u => match u with | j114_l1 => []) ?_ (fun jn114 => ?_)
    · intro u H locs ls hI
      obtain ⟨j114_l1, rfl⟩ : ∃ z, z = u := ⟨_, rfl⟩
      obtain ⟨b_j114_l1, hP, hD, hS, hl⟩ := hI
      have tj114_l1 := b01 b_j114_l1
      refine lv_aload_n hx hb d_SC_skipBlanks_114 rfl (lv_at hl 0 rfl) ?_
      refine lv_dup hx hb d_SC_skipBlanks_115 rfl ?_
      refine va_get (D := (dC, dI)) (ci := 8) (v := .int j15_h0_place) (C := R_SC) (T := F_SC) (N := 11) hx hb hts i_SC hown hK hP 0 rfl rfl 2 (by decide) (hts _ kF_SC_39) (fun _ h9 => h9) rfl d_SC_skipBlanks_116 ?_
      refine lv_iconst (v := 1) hx hb d_SC_skipBlanks_119 (by decide) ?_
      refine lv_iadd hx hb d_SC_skipBlanks_120 ?_
      refine lv_topi (fun x3 ex3 => ?_)
      have tx3 : x3.toInt = j15_h0_place.toInt + 1 := by have z := i32_add ex3 (by (first | (apply Int.le_antisymm <;> omega) | omega)) (by (first | (apply Int.le_antisymm <;> omega) | omega)); first | exact z | (first | (apply Int.le_antisymm <;> omega) | omega)
      refine va_put (D := (dC, dI)) (ci := 8) (v := .int x3) (ty := .int) (C := R_SC) (T := F_SC) (N := 11) hx hb hts i_SC t_SC t_SC_ok n_SC hown hK hP hD hS 0 rfl rfl 2 (by decide) (hts _ kF_SC_39) (fun _ h9 => h9) rfl (by decide +kernel) rfl rfl (Nat.le_of_ble_eq_true rfl) d_SC_skipBlanks_121 (fun H locs hP hD hS => ?_)
      refine lv_goto (tgt := 15) hx hb d_SC_skipBlanks_124 (by decide) ?_
      exact ih15 (j114_l1, x3) _ _ _ (by show (tr_length.toInt - x3.toInt).toNat < N15; (first | (apply Int.le_antisymm <;> omega) | omega)) ⟨b_j114_l1, by (try dsimp only) <;> (first | (apply Int.le_antisymm <;> omega) | omega), by (try dsimp only) <;> (first | (apply Int.le_antisymm <;> omega) | omega), hP, hD, hS, lv_sub hl [0, 1] rfl⟩
    · skip
      refine lv_if_eq (tgt := 60) hx hb d_SC_skipBlanks_42 (by decide) (fun c42 => ?_) (fun c42 => ?_)
      · have q42 := eqI c42
        refine lv_iload_n hx hb d_SC_skipBlanks_60 rfl (lv_at hl 0 rfl) ?_
        refine lv_bipush (v := 47) hx hb d_SC_skipBlanks_61 (by decide) ?_
        refine lv_icmp_ne (tgt := 89) hx hb d_SC_skipBlanks_63 (by decide) (fun c63 => ?_) (fun c63 => ?_)
        · have q63 := neI c63
          refine lv_iload_n hx hb d_SC_skipBlanks_89 rfl (lv_at hl 0 rfl) ?_
          refine lv_bipush (v := 9) hx hb d_SC_skipBlanks_90 (by decide) ?_
          refine lv_icmp_eq (tgt := 114) hx hb d_SC_skipBlanks_92 (by decide) (fun c92 => ?_) (fun c92 => ?_)
          · have q92 := eqI c92
            exact jn114 j15_l1 _ _ _ ⟨b_j15_l1, hP, hD, hS, lv_sub hl [1, 2] rfl⟩
          · have q92 := neI c92
            refine lv_iload_n hx hb d_SC_skipBlanks_95 rfl (lv_at hl 0 rfl) ?_
            refine lv_bipush (v := 10) hx hb d_SC_skipBlanks_96 (by decide) ?_
            refine lv_icmp_eq (tgt := 114) hx hb d_SC_skipBlanks_98 (by decide) (fun c98 => ?_) (fun c98 => ?_)
            · have q98 := eqI c98
              exact jn114 j15_l1 _ _ _ ⟨b_j15_l1, hP, hD, hS, lv_sub hl [1, 2] rfl⟩
            · have q98 := neI c98
              refine lv_iload_n hx hb d_SC_skipBlanks_101 rfl (lv_at hl 0 rfl) ?_
              refine lv_bipush (v := 13) hx hb d_SC_skipBlanks_102 (by decide) ?_
              refine lv_icmp_eq (tgt := 114) hx hb d_SC_skipBlanks_104 (by decide) (fun c104 => ?_) (fun c104 => ?_)
              · have q104 := eqI c104
                exact jn114 j15_l1 _ _ _ ⟨b_j15_l1, hP, hD, hS, lv_sub hl [1, 2] rfl⟩
              · have q104 := neI c104
                refine lv_iload_n hx hb d_SC_skipBlanks_107 rfl (lv_at hl 0 rfl) ?_
                refine lv_bipush (v := 32) hx hb d_SC_skipBlanks_108 (by decide) ?_
                refine lv_icmp_eq (tgt := 114) hx hb d_SC_skipBlanks_110 (by decide) (fun c110 => ?_) (fun c110 => ?_)
                · have q110 := eqI c110
                  exact jn114 j15_l1 _ _ _ ⟨b_j15_l1, hP, hD, hS, lv_sub hl [1, 2] rfl⟩
                · have q110 := neI c110
                  have hP9 := hP.sb (wq := (wz_104 h0 tr (sg sa h0_sign) j15_h0_place h0_size h0_value ss sp szs sv h0_length h0_at tr tx tr_length tx ctx gtx)) [0, 1, 2] rfl
                  have hD9 := hD.sb (wq := (wz_104 h0 tr (sg sa h0_sign) j15_h0_place h0_size h0_value ss sp szs sv h0_length h0_at tr tx tr_length tx ctx gtx)) [0, 1, 2] (by decide) rfl
                  exact W.vret hx hb hr (fun t ht hW => ⟨⟨j15_h0_place, rfl, ⟨b_j15_h0_place, by (try dsimp only) <;> (first | (apply Int.le_antisymm <;> omega) | omega)⟩, va_P.he ht.symm hP9, va_K.moved hW.alike hK, hD9⟩, hS.F ht⟩) hS.2.2 d_SC_skipBlanks_113
        · have q63 := eqI c63
          refine lv_aload_n hx hb d_SC_skipBlanks_66 rfl (lv_at hl 1 rfl) ?_
          refine va_get (D := (dC, dI)) (ci := 8) (v := .ref tr) (C := R_SC) (T := F_SC) (N := 11) hx hb hts i_SC hown hK hP 0 rfl rfl 0 (by decide) (hts _ kF_SC_35) (fun _ h9 => h9) rfl d_SC_skipBlanks_67 ?_
          refine lv_aload_n hx hb d_SC_skipBlanks_70 rfl (lv_at hl 1 rfl) ?_
          refine va_get (D := (dC, dI)) (ci := 8) (v := .int j15_h0_place) (C := R_SC) (T := F_SC) (N := 11) hx hb hts i_SC hown hK hP 0 rfl rfl 2 (by decide) (hts _ kF_SC_39) (fun _ h9 => h9) rfl d_SC_skipBlanks_71 ?_
          refine lv_iconst (v := 1) hx hb d_SC_skipBlanks_74 (by decide) ?_
          refine lv_iadd hx hb d_SC_skipBlanks_75 ?_
          refine lv_topi (fun x4 ex4 => ?_)
          have tx4 : x4.toInt = j15_h0_place.toInt + 1 := by have z := i32_add ex4 (by (first | (apply Int.le_antisymm <;> omega) | omega)) (by (first | (apply Int.le_antisymm <;> omega) | omega)); first | exact z | (first | (apply Int.le_antisymm <;> omega) | omega)
          have hPc := hP.sb (wq := [(tr, .inr (1, [.ref tx, .int tr_length])), (tx, .inl (ctx, 2000, .inl gtx))]) [1, 2] rfl
          have hDc := hD.sb (wq := [(tr, .inr (1, [.ref tx, .int tr_length])), (tx, .inl (ctx, 2000, .inl gtx))]) [1, 2] (by decide) rfl
          have hKc := hK.sb (tyq := [(ctx, .byte)]) [0] rfl
          have hFc := va_free (wc := [(tr, .inr (1, [.ref tx, .int tr_length])), (tx, .inl (ctx, 2000, .inl gtx))]) hD hS hA [1, 2] rfl
          refine va_calli (va_runV (As := [.int x4]) (rest := []) ⟨hx, hb, hml, hown, hts⟩ (c_BR_at l dC dI tr tx H.size ctx 2000 tr_length gtx (by (first | (apply Int.le_antisymm <;> omega) | omega)) (by (first | (apply Int.le_antisymm <;> omega) | omega)) (by (first | (apply Int.le_antisymm <;> omega) | omega)) x4) (cwV 1 hts (gV kM_SC_80 kV_BR_at kS_BR_at kI_BR kC_BR_at) rfl rfl rfl (by decide +kernel) ⟨Nat.le_of_ble_eq_true rfl, Nat.le_of_ble_eq_true rfl⟩) ⟨fun a U g mk z => by obtain ⟨z0, z1, zP, zK, zD⟩ := z; exact ⟨z0, z1, zP, va_K.moved (u := U) (U := U.calling g mk a) (Vm.Alike.refl U.vm) zK, zD⟩, va_recv hKc hPc (ci := 1) (q0 := 0) rfl rfl, fun U hU hW => ⟨rfl, by rw [hU], va_P.he hU.symm hPc, va_K.moved hW.alike hKc, hDc.weaken (fun _ _ _ _ => trivial)⟩⟩ rfl rfl hl.1 rfl (lv_room (Nat.le_of_ble_eq_true rfl)) d_SC_skipBlanks_76 ⟨(Nat.zero_le _), (Nat.zero_le _)⟩) hS (fun q _ h => hFc q h) hFc (fun r5 u t H1 locs ht hvm hw hB hz1 hk1 hS => ?_)
          obtain ⟨er5, rfl⟩ := hw
          have tr5 := br_get_in gtx tr_length x4
          rw [← er5] at tr5
          obtain ⟨hP1, hK1, hD1⟩ := hB
          replace hP1 := va_P.he ht hP1
          obtain ⟨hP, hD⟩ := va_join (wr := (wz_105 h0 tr (sg sa h0_sign) j15_h0_place h0_size h0_value ss sp szs sv h0_length h0_at)) (w1 := [(tr, .inr (1, [.ref tx, .int tr_length])), (tx, .inl (ctx, 2000, .inl gtx))]) hP hD [1, 2] [0] rfl rfl (by decide) (by decide) hk1 hFc hP1 hD1
          clear hPc hDc hKc hFc hz1 hk1 hP1 hK1 hD1
          rename Heap => H
          have hP : va_P (dC, dI) cls (wz_104 h0 tr (sg sa h0_sign) j15_h0_place h0_size h0_value ss sp szs sv h0_length h0_at tr tx tr_length tx ctx gtx) H := hP
          have hD : va_D A (wz_104 h0 tr (sg sa h0_sign) j15_h0_place h0_size h0_value ss sp szs sv h0_length h0_at tr tx tr_length tx ctx gtx) := hD
          refine lv_bipush (v := 47) hx hb d_SC_skipBlanks_79 (by decide) ?_
          refine lv_icmp_ne (tgt := 89) hx hb d_SC_skipBlanks_81 (by decide) (fun c81 => ?_) (fun c81 => ?_)
          · have q81 := neI c81
            refine lv_iload_n hx hb d_SC_skipBlanks_89 rfl (lv_at hl 0 rfl) ?_
            refine lv_bipush (v := 9) hx hb d_SC_skipBlanks_90 (by decide) ?_
            refine lv_icmp_eq (tgt := 114) hx hb d_SC_skipBlanks_92 (by decide) (fun c92 => ?_) (fun c92 => ?_)
            · have q92 := eqI c92
              exact jn114 j15_l1 _ _ _ ⟨b_j15_l1, hP, hD, hS, lv_sub hl [1, 2] rfl⟩
            · have q92 := neI c92
              refine lv_iload_n hx hb d_SC_skipBlanks_95 rfl (lv_at hl 0 rfl) ?_
              refine lv_bipush (v := 10) hx hb d_SC_skipBlanks_96 (by decide) ?_
              refine lv_icmp_eq (tgt := 114) hx hb d_SC_skipBlanks_98 (by decide) (fun c98 => ?_) (fun c98 => ?_)
              · have q98 := eqI c98
                exact jn114 j15_l1 _ _ _ ⟨b_j15_l1, hP, hD, hS, lv_sub hl [1, 2] rfl⟩
              · have q98 := neI c98
                refine lv_iload_n hx hb d_SC_skipBlanks_101 rfl (lv_at hl 0 rfl) ?_
                refine lv_bipush (v := 13) hx hb d_SC_skipBlanks_102 (by decide) ?_
                refine lv_icmp_eq (tgt := 114) hx hb d_SC_skipBlanks_104 (by decide) (fun c104 => ?_) (fun c104 => ?_)
                · have q104 := eqI c104
                  exact jn114 j15_l1 _ _ _ ⟨b_j15_l1, hP, hD, hS, lv_sub hl [1, 2] rfl⟩
                · have q104 := neI c104
                  refine lv_iload_n hx hb d_SC_skipBlanks_107 rfl (lv_at hl 0 rfl) ?_
                  refine lv_bipush (v := 32) hx hb d_SC_skipBlanks_108 (by decide) ?_
                  refine lv_icmp_eq (tgt := 114) hx hb d_SC_skipBlanks_110 (by decide) (fun c110 => ?_) (fun c110 => ?_)
                  · have q110 := eqI c110
                    exact jn114 j15_l1 _ _ _ ⟨b_j15_l1, hP, hD, hS, lv_sub hl [1, 2] rfl⟩
                  · have q110 := neI c110
                    have hP9 := hP.sb (wq := (wz_104 h0 tr (sg sa h0_sign) j15_h0_place h0_size h0_value ss sp szs sv h0_length h0_at tr tx tr_length tx ctx gtx)) [0, 1, 2] rfl
                    have hD9 := hD.sb (wq := (wz_104 h0 tr (sg sa h0_sign) j15_h0_place h0_size h0_value ss sp szs sv h0_length h0_at tr tx tr_length tx ctx gtx)) [0, 1, 2] (by decide) rfl
                    exact W.vret hx hb hr (fun t ht hW => ⟨⟨j15_h0_place, rfl, ⟨b_j15_h0_place, by (try dsimp only) <;> (first | (apply Int.le_antisymm <;> omega) | omega)⟩, va_P.he ht.symm hP9, va_K.moved hW.alike hK, hD9⟩, hS.F ht⟩) hS.2.2 d_SC_skipBlanks_113
          · have q81 := eqI c81
            refine lv_iconst (v := 1) hx hb d_SC_skipBlanks_84 (by decide) ?_
            refine lv_istore_n (lv' := [(1, .int 1), (2, .int r2), (0, .ref h0)]) hx hb d_SC_skipBlanks_85 rfl hl (by decide) rfl (fun ls hl => ?_)
            refine lv_goto (tgt := 114) hx hb d_SC_skipBlanks_86 (by decide) ?_
            exact jn114 1 _ _ _ ⟨Or.inr rfl, hP, hD, hS, lv_sub hl [2, 0] rfl⟩
      · have q42 := neI c42
        refine lv_iload_n hx hb d_SC_skipBlanks_45 rfl (lv_at hl 0 rfl) ?_
        refine lv_bipush (v := 10) hx hb d_SC_skipBlanks_46 (by decide) ?_
        refine w_cut (pc2 := 56) (σ := Int32) (fun u H locs ls => match u with | j56_s0 => (j56_s0 = 0 ∨ j56_s0 = 1) ∧ va_P (dC, dI) cls (wz_104 h0 tr (sg sa h0_sign) j15_h0_place h0_size h0_value ss sp szs sv h0_length h0_at tr tx tr_length tx ctx gtx) H ∧ va_D A (wz_104 h0 tr (sg sa h0_sign) j15_h0_place h0_size h0_value ss sp szs sv h0_length h0_at tr tx tr_length tx ctx gtx) ∧ va_S A s.heap H locs ∧ lv_has ls 3 [(0, .ref h0)]) (fun u => match u with | j56_s0 => [.int j56_s0]) ?_ (fun jn56 => ?_)
        · intro u H locs ls hI
          obtain ⟨j56_s0, rfl⟩ : ∃ z, z = u := ⟨_, rfl⟩
          obtain ⟨b_j56_s0, hP, hD, hS, hl⟩ := hI
          have tj56_s0 := b01 b_j56_s0
          refine lv_istore_n (lv' := [(1, .int j56_s0), (0, .ref h0)]) hx hb d_SC_skipBlanks_56 rfl hl (by decide) rfl (fun ls hl => ?_)
          refine lv_goto (tgt := 114) hx hb d_SC_skipBlanks_57 (by decide) ?_
          exact jn114 j56_s0 _ _ _ ⟨b_j56_s0, hP, hD, hS, lv_sub hl [1, 0] rfl⟩
        · skip
          refine lv_icmp_eq (tgt := 55) hx hb d_SC_skipBlanks_48 (by decide) (fun c48 => ?_) (fun c48 => ?_)
          · have q48 := eqI c48
            refine lv_iconst (v := 0) hx hb d_SC_skipBlanks_55 (by decide) ?_
            exact jn56 0 _ _ _ ⟨Or.inl rfl, hP, hD, hS, lv_sub hl [1] rfl⟩
          · have q48 := neI c48
            refine lv_iconst (v := 1) hx hb d_SC_skipBlanks_51 (by decide) ?_
            refine lv_goto (tgt := 56) hx hb d_SC_skipBlanks_52 (by decide) ?_
            exact jn56 1 _ _ _ ⟨Or.inr rfl, hP, hD, hS, lv_sub hl [1] rfl⟩
abbrev b_SC_readName : ByteArray := prog_10_method_8_code
def y_SC_readName : MethodName := ⟨R_SC, "readName", "()V"⟩
abbrev w_SC_readName : List Cond := .code y_SC_readName b_SC_readName 2 none :: lw_g
theorem kC_SC_readName : Cond.code y_SC_readName b_SC_readName 2 none ∈ lw_g := in_c4 77 rfl rfl
theorem d_SC_readName_0 : decode b_SC_readName 0 = .ok (.aload_n 0, 1) := bz_c42 (by decide +kernel)
theorem d_SC_readName_1 : decode b_SC_readName 1 = .ok (.iconst 1, 1) := bz_c4 (by decide +kernel)
theorem d_SC_readName_2 : decode b_SC_readName 2 = .ok (.putfield 43, 3) := bz_c181 (by decide +kernel)
theorem d_SC_readName_5 : decode b_SC_readName 5 = .ok (.aload_n 0, 1) := bz_c42 (by decide +kernel)
theorem d_SC_readName_6 : decode b_SC_readName 6 = .ok (.getfield 39, 3) := bz_c180 (by decide +kernel)
theorem d_SC_readName_9 : decode b_SC_readName 9 = .ok (.aload_n 0, 1) := bz_c42 (by decide +kernel)
theorem d_SC_readName_10 : decode b_SC_readName 10 = .ok (.getfield 43, 3) := bz_c180 (by decide +kernel)
theorem d_SC_readName_13 : decode b_SC_readName 13 = .ok (.iadd, 1) := bz_c96 (by decide +kernel)
theorem d_SC_readName_14 : decode b_SC_readName 14 = .ok (.aload_n 0, 1) := bz_c42 (by decide +kernel)
theorem d_SC_readName_15 : decode b_SC_readName 15 = .ok (.getfield 35, 3) := bz_c180 (by decide +kernel)
theorem d_SC_readName_18 : decode b_SC_readName 18 = .ok (.getfield 77, 3) := bz_c180 (by decide +kernel)
theorem d_SC_readName_21 : decode b_SC_readName 21 = .ok (.if_icmp .ge 38, 3) := bz_c162 (by decide +kernel)
theorem d_SC_readName_24 : decode b_SC_readName 24 = .ok (.aload_n 0, 1) := bz_c42 (by decide +kernel)
theorem d_SC_readName_25 : decode b_SC_readName 25 = .ok (.getfield 35, 3) := bz_c180 (by decide +kernel)
theorem d_SC_readName_28 : decode b_SC_readName 28 = .ok (.aload_n 0, 1) := bz_c42 (by decide +kernel)
theorem d_SC_readName_29 : decode b_SC_readName 29 = .ok (.getfield 39, 3) := bz_c180 (by decide +kernel)
theorem d_SC_readName_32 : decode b_SC_readName 32 = .ok (.aload_n 0, 1) := bz_c42 (by decide +kernel)
theorem d_SC_readName_33 : decode b_SC_readName 33 = .ok (.getfield 43, 3) := bz_c180 (by decide +kernel)
theorem d_SC_readName_36 : decode b_SC_readName 36 = .ok (.iadd, 1) := bz_c96 (by decide +kernel)
theorem d_SC_readName_37 : decode b_SC_readName 37 = .ok (.invokevirtual 80, 3) := bz_c182 (by decide +kernel)
theorem d_SC_readName_40 : decode b_SC_readName 40 = .ok (.invokestatic 99, 3) := bz_c184 (by decide +kernel)
theorem d_SC_readName_43 : decode b_SC_readName 43 = .ok (.ifCond .eq 16, 3) := bz_c153 (by decide +kernel)
theorem d_SC_readName_46 : decode b_SC_readName 46 = .ok (.aload_n 0, 1) := bz_c42 (by decide +kernel)
theorem d_SC_readName_47 : decode b_SC_readName 47 = .ok (.dup, 1) := bz_c89 (by decide +kernel)
theorem d_SC_readName_48 : decode b_SC_readName 48 = .ok (.getfield 43, 3) := bz_c180 (by decide +kernel)
theorem d_SC_readName_51 : decode b_SC_readName 51 = .ok (.iconst 1, 1) := bz_c4 (by decide +kernel)
theorem d_SC_readName_52 : decode b_SC_readName 52 = .ok (.iadd, 1) := bz_c96 (by decide +kernel)
theorem d_SC_readName_53 : decode b_SC_readName 53 = .ok (.putfield 43, 3) := bz_c181 (by decide +kernel)
theorem d_SC_readName_56 : decode b_SC_readName 56 = .ok (.goto (-51), 3) := bz_c167 (by decide +kernel)
theorem d_SC_readName_59 : decode b_SC_readName 59 = .ok (.aload_n 0, 1) := bz_c42 (by decide +kernel)
theorem d_SC_readName_60 : decode b_SC_readName 60 = .ok (.aload_n 0, 1) := bz_c42 (by decide +kernel)
theorem d_SC_readName_61 : decode b_SC_readName 61 = .ok (.getfield 43, 3) := bz_c180 (by decide +kernel)
theorem d_SC_readName_64 : decode b_SC_readName 64 = .ok (.bipush 20, 2) := bz_c16 (by decide +kernel)
theorem d_SC_readName_66 : decode b_SC_readName 66 = .ok (.if_icmp .le 9, 3) := bz_c164 (by decide +kernel)
theorem d_SC_readName_69 : decode b_SC_readName 69 = .ok (.getstatic 52, 3) := bz_c178 (by decide +kernel)
theorem d_SC_readName_72 : decode b_SC_readName 72 = .ok (.goto 6, 3) := bz_c167 (by decide +kernel)
theorem d_SC_readName_75 : decode b_SC_readName 75 = .ok (.getstatic 46, 3) := bz_c178 (by decide +kernel)
theorem d_SC_readName_78 : decode b_SC_readName 78 = .ok (.putfield 15, 3) := bz_c181 (by decide +kernel)
theorem d_SC_readName_81 : decode b_SC_readName 81 = .ok (.iconst 0, 1) := bz_c3 (by decide +kernel)
theorem d_SC_readName_82 : decode b_SC_readName 82 = .ok (.istore_n 1, 1) := bz_c60 (by decide +kernel)
theorem d_SC_readName_83 : decode b_SC_readName 83 = .ok (.iload_n 1, 1) := bz_c27 (by decide +kernel)
theorem d_SC_readName_84 : decode b_SC_readName 84 = .ok (.getstatic 102, 3) := bz_c178 (by decide +kernel)
theorem d_SC_readName_87 : decode b_SC_readName 87 = .ok (.arraylength, 1) := bz_c190 (by decide +kernel)
theorem d_SC_readName_88 : decode b_SC_readName 88 = .ok (.if_icmp .ge 58, 3) := bz_c162 (by decide +kernel)
theorem d_SC_readName_91 : decode b_SC_readName 91 = .ok (.getstatic 102, 3) := bz_c178 (by decide +kernel)
theorem d_SC_readName_94 : decode b_SC_readName 94 = .ok (.iload_n 1, 1) := bz_c27 (by decide +kernel)
theorem d_SC_readName_95 : decode b_SC_readName 95 = .ok (.aaload, 1) := bz_c50 (by decide +kernel)
theorem d_SC_readName_96 : decode b_SC_readName 96 = .ok (.getfield 105, 3) := bz_c180 (by decide +kernel)
theorem d_SC_readName_99 : decode b_SC_readName 99 = .ok (.invokevirtual 108, 3) := bz_c182 (by decide +kernel)
theorem d_SC_readName_102 : decode b_SC_readName 102 = .ok (.aload_n 0, 1) := bz_c42 (by decide +kernel)
theorem d_SC_readName_103 : decode b_SC_readName 103 = .ok (.getfield 43, 3) := bz_c180 (by decide +kernel)
theorem d_SC_readName_106 : decode b_SC_readName 106 = .ok (.if_icmp .ne 34, 3) := bz_c160 (by decide +kernel)
theorem d_SC_readName_109 : decode b_SC_readName 109 = .ok (.aload_n 0, 1) := bz_c42 (by decide +kernel)
theorem d_SC_readName_110 : decode b_SC_readName 110 = .ok (.getfield 35, 3) := bz_c180 (by decide +kernel)
theorem d_SC_readName_113 : decode b_SC_readName 113 = .ok (.aload_n 0, 1) := bz_c42 (by decide +kernel)
theorem d_SC_readName_114 : decode b_SC_readName 114 = .ok (.getfield 39, 3) := bz_c180 (by decide +kernel)
theorem d_SC_readName_117 : decode b_SC_readName 117 = .ok (.getstatic 102, 3) := bz_c178 (by decide +kernel)
theorem d_SC_readName_120 : decode b_SC_readName 120 = .ok (.iload_n 1, 1) := bz_c27 (by decide +kernel)
theorem d_SC_readName_121 : decode b_SC_readName 121 = .ok (.aaload, 1) := bz_c50 (by decide +kernel)
theorem d_SC_readName_122 : decode b_SC_readName 122 = .ok (.getfield 105, 3) := bz_c180 (by decide +kernel)
theorem d_SC_readName_125 : decode b_SC_readName 125 = .ok (.invokevirtual 113, 3) := bz_c182 (by decide +kernel)
theorem d_SC_readName_128 : decode b_SC_readName 128 = .ok (.ifCond .eq 12, 3) := bz_c153 (by decide +kernel)
theorem d_SC_readName_131 : decode b_SC_readName 131 = .ok (.aload_n 0, 1) := bz_c42 (by decide +kernel)
theorem d_SC_readName_132 : decode b_SC_readName 132 = .ok (.getstatic 102, 3) := bz_c178 (by decide +kernel)
theorem d_SC_readName_135 : decode b_SC_readName 135 = .ok (.iload_n 1, 1) := bz_c27 (by decide +kernel)
theorem d_SC_readName_136 : decode b_SC_readName 136 = .ok (.aaload, 1) := bz_c50 (by decide +kernel)
theorem d_SC_readName_137 : decode b_SC_readName 137 = .ok (.putfield 15, 3) := bz_c181 (by decide +kernel)
theorem d_SC_readName_140 : decode b_SC_readName 140 = .ok (.iinc 1 1, 3) := by decide +kernel
theorem d_SC_readName_143 : decode b_SC_readName 143 = .ok (.goto (-60), 3) := bz_c167 (by decide +kernel)
theorem d_SC_readName_146 : decode b_SC_readName 146 = .ok (.return_, 1) := bz_c177 (by decide +kernel)
theorem kM_SC_99 : Cond.methodLink R_SC 99 y_SC_isNamePart ∈ lw_g := in_c4 78 rfl rfl
theorem kT_SC_isNamePart : Cond.static y_SC_isNamePart ∈ lw_g := in_c4 79 rfl rfl
theorem kM_SC_108 : Cond.methodLink R_SC 108 y_JS_length ∈ lw_g := in_c4 86 rfl rfl
theorem kM_SC_113 : Cond.methodLink R_SC 113 y_BR_holds ∈ lw_g := in_c4 96 rfl rfl
theorem kV_BR_holds : Cond.instanceMethod y_BR_holds ∈ lw_g := in_c4 97 rfl rfl
theorem kS_BR_holds : Cond.selects R_BR y_BR_holds y_BR_holds ∈ lw_g := in_c4 98 rfl rfl
theorem kF_SC_15 : Cond.fieldLink R_SC 15 "WaferForge$Scanner" "sign" "LWaferForge$Sign;" ∈ lw_g := in_c2 26 rfl rfl
theorem kF_SC_105 : Cond.fieldLink R_SC 105 "WaferForge$Sign" "text" "Ljava/lang/String;" ∈ lw_g := in_c13 232 rfl rfl
theorem kF_SC_46 : Cond.fieldLink R_SC 46 "WaferForge$Sign" "NAME" "LWaferForge$Sign;" ∈ lw_g := in_c4 58 rfl rfl
theorem kF_SC_52 : Cond.fieldLink R_SC 52 "WaferForge$Sign" "WRONG" "LWaferForge$Sign;" ∈ lw_g := in_c4 60 rfl rfl
abbrev at_SC_readName (dC : Nat → ClassId) (dI : Nat → Nat → Nat) (sa : Nat → Nat) (h0 tr ss sp szs sv tx : Nat) (ctx : ClassId) (h0_place : Int32) (h0_value : Int64) (h0_length : Int32) (h0_at : Int32) (tr_length : Int32) (gtx : Nat → Int32) (A : Nat → Prop) (u : Nat × Int32) (t : State) : Prop := match u with | (h0_sign, h0_size) => va_P (dC, dI) cls (wz_104 h0 tr (sg sa h0_sign) h0_place h0_size h0_value ss sp szs sv h0_length h0_at tr tx tr_length tx ctx gtx) t.heap ∧ va_K (dC, dI) cls [(ctx, .byte)] t ∧ va_D A (wz_104 h0 tr (sg sa h0_sign) h0_place h0_size h0_value ss sp szs sv h0_length h0_at tr tx tr_length tx ctx gtx)
set_option maxHeartbeats 4000000 in
set_option maxRecDepth 100000 in
theorem c_SC_readName (l : Launch) (dC : Nat → ClassId) (dI : Nat → Nat → Nat) (sz : Nat) (sa : Nat → Nat) (h0 tr ss sp szs sv tx : Nat) (ctx : ClassId) (h0_sign : Nat) (h0_place : Int32) (h0_size : Int32) (h0_value : Int64) (h0_length : Int32) (h0_at : Int32) (tr_length : Int32) (gtx : Nat → Int32)  (b_h0_sign : h0_sign < 55) (b_h0_place : 0 ≤ h0_place.toInt ∧ h0_place.toInt ≤ 2000) (b_h0_size : 0 ≤ h0_size.toInt ∧ h0_size.toInt ≤ 2000) (b_tr_length : 0 ≤ tr_length.toInt ∧ tr_length.toInt ≤ 2000)   (hpl : h0_place.toInt < tr_length.toInt) : Met l y_SC_readName w_SC_readName ({ frames := 5, cells := 0, slots := 0, locals := 108 }) (va_Pc [.ref h0] (fun U => U.heap.size = sz ∧ va_P (dC, dI) cls (wz_104 h0 tr (sg sa h0_sign) h0_place h0_size h0_value ss sp szs sv h0_length h0_at tr tx tr_length tx ctx gtx) U.heap ∧ va_K (dC, dI) cls [(ctx, .byte)] U ∧ va_D (fun _ => True) (wz_104 h0 tr (sg sa h0_sign) h0_place h0_size h0_value ss sp szs sv h0_length h0_at tr tx tr_length tx ctx gtx) ∧ sw sa (va_A (wz_104 h0 tr (sg sa h0_sign) h0_place h0_size h0_value ss sp szs sv h0_length h0_at tr tx tr_length tx ctx gtx) sz) U U.heap)) (va_Qv (fun (u : Nat × Int32) => match u with | (h0_sign2, h0_size2) => (h0_sign2 < 55) ∧ (0 ≤ h0_size2.toInt ∧ h0_size2.toInt ≤ 2000) ∧ ((1 ≤ h0_size2.toInt ∧ h0_place.toInt + h0_size2.toInt ≤ tr_length.toInt) ∧ (h0_sign2 = 1 ∨ (h0_sign2 = 2 ∧ h0_size2.toInt ≤ 20) ∨ (5 ≤ h0_sign2 ∧ h0_size2.toInt = (sgB.getD h0_sign2 []).length)))) (at_SC_readName dC dI sa h0 tr ss sp szs sv tx ctx h0_place h0_value h0_length h0_at tr_length gtx (va_A (wz_104 h0 tr (sg sa h0_sign) h0_place h0_size h0_value ss sp szs sv h0_length h0_at tr tx tr_length tx ctx gtx) sz)) (va_A (wz_104 h0 tr (sg sa h0_sign) h0_place h0_size h0_value ss sp szs sv h0_length h0_at tr tx tr_length tx ctx gtx) sz)) 0 0 (va_A (wz_104 h0 tr (sg sa h0_sign) h0_place h0_size h0_value ss sp szs sv h0_length h0_at tr tx tr_length tx ctx gtx) sz) := by
  refine Met.ofW (cc := b_SC_readName) (maxL := 2) (ret := none) (by decide) rfl ?_
  intro p e s m args below meth c s₁ B hml hv
  obtain ⟨rfl, hsz, hP, hK, hD0, hSW⟩ := hv
  have hx := B.exec
  have hb := B.bytes
  have hr := B.returns
  have hts0 := atoms_spec (ws := w_SC_readName) B.pre
  have hts : ∀ w ∈ lw_g, w.before _ s = true := fun w h => hts0 w (List.mem_cons_of_mem _ h)
  have hown : s.vm.findClass R_SC = some m.cls := findClass_of_methodNamed B.named
  have hlocks := B.notSynchronized
  clear hts0
  subst hsz
  have hD := hD0.self (sz := s.heap.size)
  generalize hAe : va_A (wz_104 h0 tr (sg sa h0_sign) h0_place h0_size h0_value ss sp szs sv h0_length h0_at tr tx tr_length tx ctx gtx) s.heap.size = A at hD hSW ⊢
  have hA : ∀ q : Nat, s.heap.size ≤ q → A q := fun q h => by rw [← hAe]; exact Or.inr h
  clear hAe
  have hP : va_P (dC, dI) cls (wz_104 h0 tr (sg sa h0_sign) h0_place h0_size h0_value ss sp szs sv h0_length h0_at tr tx tr_length tx ctx gtx) s.heap := hP
  have hl := lv_entry ([.ref h0]) (n := 2) (Nat.le_of_ble_eq_true rfl)
  rw [lg_entry_eq]
  generalize (lg_sl ([.ref h0]) ++ List.replicate (2 - (lg_sl ([.ref h0])).length) Slot.unset).toArray = ls at hl ⊢
  have hl : lv_has ls 2 [(0, .ref h0)] := hl
  have k0 : (0 : Int32).toInt = 0 := by decide
  refine w_gen (A := A) hP (fun H locs hP hS => ?_)
  have k1 : (1 : Int32).toInt = 1 := by decide
  have k20 : (20 : Int32).toInt = 20 := by decide
  refine lv_aload_n hx hb d_SC_readName_0 rfl (lv_at hl 0 rfl) ?_
  refine lv_iconst (v := 1) hx hb d_SC_readName_1 (by decide) ?_
  refine va_put (D := (dC, dI)) (ci := 8) (v := .int 1) (ty := .int) (C := R_SC) (T := F_SC) (N := 11) hx hb hts i_SC t_SC t_SC_ok n_SC hown hK hP hD hS 0 rfl rfl 3 (by decide) (hts _ kF_SC_43) (fun _ h9 => h9) rfl (by decide +kernel) rfl rfl (Nat.le_of_ble_eq_true rfl) d_SC_readName_2 (fun H locs hP hD hS => ?_)
  refine w_loop (σ := Int32) (fun u H locs ls => match u with | j5_h0_size => (0 ≤ j5_h0_size.toInt ∧ j5_h0_size.toInt ≤ 2000) ∧ (1 ≤ j5_h0_size.toInt ∧ h0_place.toInt + j5_h0_size.toInt ≤ tr_length.toInt) ∧ va_P (dC, dI) cls (wz_104 h0 tr (sg sa h0_sign) h0_place j5_h0_size h0_value ss sp szs sv h0_length h0_at tr tx tr_length tx ctx gtx) H ∧ va_D A (wz_104 h0 tr (sg sa h0_sign) h0_place j5_h0_size h0_value ss sp szs sv h0_length h0_at tr tx tr_length tx ctx gtx) ∧ va_S A s.heap H locs ∧ lv_has ls 2 [(0, .ref h0)]) (fun u => match u with | j5_h0_size => (tr_length.toInt - j5_h0_size.toInt).toNat) ?_ 1 ⟨by (try dsimp only) <;> (first | (apply Int.le_antisymm <;> omega) | omega), by (try dsimp only) <;> (first | (apply Int.le_antisymm <;> omega) | omega), hP, hD, hS, lv_sub hl [0] rfl⟩
  intro N5 ih5 u H locs ls hN5 hI
  obtain ⟨j5_h0_size, rfl⟩ : ∃ z, z = u := ⟨_, rfl⟩
  obtain ⟨b_j5_h0_size, v1, hP, hD, hS, hl⟩ := hI
  have hN5 : (tr_length.toInt - j5_h0_size.toInt).toNat < N5 + 1 := hN5
  refine lv_aload_n hx hb d_SC_readName_5 rfl (lv_at hl 0 rfl) ?_
  refine va_get (D := (dC, dI)) (ci := 8) (v := .int h0_place) (C := R_SC) (T := F_SC) (N := 11) hx hb hts i_SC hown hK hP 0 rfl rfl 2 (by decide) (hts _ kF_SC_39) (fun _ h9 => h9) rfl d_SC_readName_6 ?_
  refine lv_aload_n hx hb d_SC_readName_9 rfl (lv_at hl 0 rfl) ?_
  refine va_get (D := (dC, dI)) (ci := 8) (v := .int j5_h0_size) (C := R_SC) (T := F_SC) (N := 11) hx hb hts i_SC hown hK hP 0 rfl rfl 3 (by decide) (hts _ kF_SC_43) (fun _ h9 => h9) rfl d_SC_readName_10 ?_
  refine lv_iadd hx hb d_SC_readName_13 ?_
  refine lv_topi (fun x1 ex1 => ?_)
  have tx1 : x1.toInt = h0_place.toInt + j5_h0_size.toInt := by have z := i32_add ex1 (by (first | (apply Int.le_antisymm <;> omega) | omega)) (by (first | (apply Int.le_antisymm <;> omega) | omega)); first | exact z | (first | (apply Int.le_antisymm <;> omega) | omega)
  refine lv_aload_n hx hb d_SC_readName_14 rfl (lv_at hl 0 rfl) ?_
  refine va_get (D := (dC, dI)) (ci := 8) (v := .ref tr) (C := R_SC) (T := F_SC) (N := 11) hx hb hts i_SC hown hK hP 0 rfl rfl 0 (by decide) (hts _ kF_SC_35) (fun _ h9 => h9) rfl d_SC_readName_15 ?_
  refine va_get (D := (dC, dI)) (ci := 1) (v := .int tr_length) (C := R_BR) (T := F_BR) (N := 2) hx hb hts i_BR hown hK hP 1 rfl rfl 1 (by decide) (hts _ kF_SC_77) (fun _ h9 => h9) rfl d_SC_readName_18 ?_
  refine w_cut (pc2 := 59) (σ := Unit) (fun u H locs ls => match u with | _ => va_P (dC, dI) cls (wz_104 h0 tr (sg sa h0_sign) h0_place j5_h0_size h0_value ss sp szs sv h0_length h0_at tr tx tr_length tx ctx gtx) H ∧ va_D A (wz_104 h0 tr (sg sa h0_sign) h0_place j5_h0_size h0_value ss sp szs sv h0_length h0_at tr tx tr_length tx ctx gtx) ∧ va_S A s.heap H locs ∧ lv_has ls 2 [(0, .ref h0)]) (fun u => match u with | _ => []) ?_ (fun jn59 => ?_)
  · intro u H locs ls hI
    obtain ⟨hP, hD, hS, hl⟩ := hI
    refine lv_aload_n hx hb d_SC_readName_59 rfl (lv_at hl 0 rfl) ?_
    refine lv_aload_n hx hb d_SC_readName_60 rfl (lv_at hl 0 rfl) ?_
    refine va_get (D := (dC, dI)) (ci := 8) (v := .int j5_h0_size) (C := R_SC) (T := F_SC) (N := 11) hx hb hts i_SC hown hK hP 0 rfl rfl 3 (by decide) (hts _ kF_SC_43) (fun _ h9 => h9) rfl d_SC_readName_61 ?_
    refine lv_bipush (v := 20) hx hb d_SC_readName_64 (by decide) ?_
    refine w_cut (pc2 := 78) (σ := Nat) (fun u H locs ls => match u with | j78_s0 => (j78_s0 < 55) ∧ (j78_s0 = 1 ∨ (j78_s0 = 2 ∧ j5_h0_size.toInt ≤ 20)) ∧ va_P (dC, dI) cls (wz_104 h0 tr (sg sa h0_sign) h0_place j5_h0_size h0_value ss sp szs sv h0_length h0_at tr tx tr_length tx ctx gtx) H ∧ va_D A (wz_104 h0 tr (sg sa h0_sign) h0_place j5_h0_size h0_value ss sp szs sv h0_length h0_at tr tx tr_length tx ctx gtx) ∧ va_S A s.heap H locs ∧ lv_has ls 2 [(0, .ref h0)]) (fun u => match u with | j78_s0 => [.ref (sg sa j78_s0), .ref h0]) ?_ (fun jn78 => ?_)
    · intro u H locs ls hI
      obtain ⟨j78_s0, rfl⟩ : ∃ z, z = u := ⟨_, rfl⟩
      obtain ⟨b_j78_s0, y78, hP, hD, hS, hl⟩ := hI
      refine va_put (D := (dC, dI)) (ci := 8) (v := .ref (sg sa j78_s0)) (ty := .object "WaferForge$Sign") (C := R_SC) (T := F_SC) (N := 11) hx hb hts i_SC t_SC t_SC_ok n_SC hown hK hP hD hS 0 rfl rfl 1 (by decide) (hts _ kF_SC_15) (fun _ h9 => h9) rfl (by decide +kernel) rfl rfl (Nat.le_of_ble_eq_true rfl) d_SC_readName_78 (fun H locs hP hD hS => ?_)
      refine lv_iconst (v := 0) hx hb d_SC_readName_81 (by decide) ?_
      refine lv_istore_n (lv' := [(1, .int 0), (0, .ref h0)]) hx hb d_SC_readName_82 rfl hl (by decide) rfl (fun ls hl => ?_)
      refine w_loop (σ := Int32 × Nat) (fun u H locs ls => match u with | (j83_l1, j83_h0_sign) => (0 ≤ j83_l1.toInt ∧ j83_l1.toInt ≤ 55) ∧ (j83_h0_sign < 55) ∧ (j83_h0_sign = 1 ∨ (j83_h0_sign = 2 ∧ j5_h0_size.toInt ≤ 20) ∨ (5 ≤ j83_h0_sign ∧ j5_h0_size.toInt = (sgB.getD j83_h0_sign []).length)) ∧ va_P (dC, dI) cls (wz_104 h0 tr (sg sa j83_h0_sign) h0_place j5_h0_size h0_value ss sp szs sv h0_length h0_at tr tx tr_length tx ctx gtx) H ∧ va_D A (wz_104 h0 tr (sg sa j83_h0_sign) h0_place j5_h0_size h0_value ss sp szs sv h0_length h0_at tr tx tr_length tx ctx gtx) ∧ va_S A s.heap H locs ∧ lv_has ls 2 [(0, .ref h0), (1, .int j83_l1)]) (fun u => match u with | (j83_l1, j83_h0_sign) => (55 - j83_l1.toInt).toNat) ?_ (0, j78_s0) ⟨by (try dsimp only) <;> (first | (apply Int.le_antisymm <;> omega) | omega), b_j78_s0, by (try dsimp only) <;> (first | (apply Int.le_antisymm <;> omega) | omega), hP, hD, hS, lv_sub hl [1, 0] rfl⟩
      intro N83 ih83 u H locs ls hN83 hI
      obtain ⟨j83_l1, j83_h0_sign⟩ := u
      obtain ⟨b_j83_l1, b_j83_h0_sign, u1, hP, hD, hS, hl⟩ := hI
      have hN83 : (55 - j83_l1.toInt).toNat < N83 + 1 := hN83
      refine lv_iload_n hx hb d_SC_readName_83 rfl (lv_at hl 1 rfl) ?_
      refine va_getsN (C := "WaferForge") (n := "SIGNS") (d := "[LWaferForge$Sign;") (v := .ref ((sa 1))) hx hb (hSW.2.1.1) hS hown (sw_nf (k := 0) hSW rfl) (fun _ h9 => h9) d_SC_readName_84 ?_
      refine va_tlen (v := 55) hx hb (hSW.2.1.2) hS rfl d_SC_readName_87 ?_
      have k987 : (55 : Int32).toInt = 55 := by decide
      refine lv_icmp_ge (tgt := 146) hx hb d_SC_readName_88 (by decide) (fun c88 => ?_) (fun c88 => ?_)
      · have q88 := leI c88
        have hP9 := hP.sb (wq := (wz_104 h0 tr (sg sa j83_h0_sign) h0_place j5_h0_size h0_value ss sp szs sv h0_length h0_at tr tx tr_length tx ctx gtx)) [0, 1, 2] rfl
        have hD9 := hD.sb (wq := (wz_104 h0 tr (sg sa j83_h0_sign) h0_place j5_h0_size h0_value ss sp szs sv h0_length h0_at tr tx tr_length tx ctx gtx)) [0, 1, 2] (by decide) rfl
        exact W.vret hx hb hr (fun t ht hW => ⟨⟨(j83_h0_sign, j5_h0_size), rfl, ⟨b_j83_h0_sign, b_j5_h0_size, ⟨v1, u1⟩⟩, va_P.he ht.symm hP9, va_K.moved hW.alike hK, hD9⟩, hS.F ht⟩) hS.2.2 d_SC_readName_146
      · have q88 := nleI c88
        refine va_getsN (C := "WaferForge") (n := "SIGNS") (d := "[LWaferForge$Sign;") (v := .ref ((sa 1))) hx hb (hSW.2.1.1) hS hown (sw_nf (k := 0) hSW rfl) (fun _ h9 => h9) d_SC_readName_91 ?_
        refine lv_iload_n hx hb d_SC_readName_94 rfl (lv_at hl 1 rfl) ?_
        have g95 : vp_in j83_l1 55 := vp_in_iff.mpr ⟨by (first | (apply Int.le_antisymm <;> omega) | omega), by (first | (apply Int.le_antisymm <;> omega) | omega)⟩
        obtain ⟨k3, ek3⟩ : ∃ z : Nat, z = j83_l1.toNatClampNeg := ⟨_, rfl⟩
        have hk3 : k3 < 55 := by have z := i32_clamp (x := j83_l1) (by (first | (apply Int.le_antisymm <;> omega) | omega)); (first | (apply Int.le_antisymm <;> omega) | omega)
        refine vb_tq (v := .ref (sg sa k3)) hx hb (hSW.2.1.2) hS g95 (by rw [ek3]) d_SC_readName_95 ?_
        refine va_getX (i := k3) hx hb hSW.2.2.2.2.1 hk3 hS hown (hts _ kF_SC_105) (fun _ h9 => h9) d_SC_readName_96 ?_
        have hPc := hP.sb (wq := []) [] rfl
        have hDc := hD.sb (wq := []) [] (by decide) rfl
        have hKc := hK.sb (tyq := []) [] rfl
        have hFc := va_free (wc := []) hD hS hA [] rfl
        refine va_calli (va_runV (As := []) (rest := []) ⟨hx, hb, hml, hown, hts⟩ (c_JS_length l dC dI H.size sa ((sa (200 + k3))) ((sa (300 + k3))) ((sgB.getD k3 [])) (by have z := (sgB_len k3 hk3).1; (first | (apply Int.le_antisymm <;> omega) | omega))) (cwV 0 hts (gV kM_SC_108 kV_JS_length kS_JS_length kI_JS kC_JS_length) rfl rfl rfl (by decide +kernel) ⟨Nat.le_of_ble_eq_true rfl, Nat.le_of_ble_eq_true rfl⟩) ⟨fun a U g mk z => by obtain ⟨z0, z1, zP, zK, zD, zS, zR0⟩ := z; exact ⟨z0, z1, zP, va_K.moved (u := U) (U := U.calling g mk a) (Vm.Alike.refl U.vm) zK, zD, sw.same (u := U) (U := U.calling g mk a) rfl zS, zR0.moved (u := U) (U := U.calling g mk a) (Vm.Alike.refl U.vm)⟩, so_recv ((hSW.2.2.2.2.2.1 k3 hk3).1) hS, fun U hU hW => ⟨rfl, by rw [hU], va_P.he hU.symm hPc, va_K.moved hW.alike hKc, hDc.weaken (fun _ _ _ _ => trivial), hSW.call hS hFc hW hU, ((hSW.2.2.2.2.2.1 k3 hk3)).call hS hFc hW hU⟩⟩ rfl rfl hl.1 rfl (lv_room (Nat.le_of_ble_eq_true rfl)) d_SC_readName_99 ⟨(Nat.zero_le _), (Nat.zero_le _)⟩) hS (fun q _ h => hFc q h) hFc (fun r4 u t H1 locs ht hvm hw hB hz1 hk1 hS => ?_)
        try dsimp only at hw
        have xr4 := hw
        try clear hw
        obtain ⟨hP1, hK1, hD1⟩ := hB
        replace hP1 := va_P.he ht hP1
        obtain ⟨hP, hD⟩ := va_join (wr := (wz_104 h0 tr (sg sa j83_h0_sign) h0_place j5_h0_size h0_value ss sp szs sv h0_length h0_at tr tx tr_length tx ctx gtx)) (w1 := []) hP hD [] [0, 1, 2] rfl rfl (by decide) (by decide) hk1 hFc hP1 hD1
        clear hPc hDc hKc hFc hz1 hk1 hP1 hK1 hD1
        rename Heap => H
        have hP : va_P (dC, dI) cls (wz_104 h0 tr (sg sa j83_h0_sign) h0_place j5_h0_size h0_value ss sp szs sv h0_length h0_at tr tx tr_length tx ctx gtx) H := hP
        have hD : va_D A (wz_104 h0 tr (sg sa j83_h0_sign) h0_place j5_h0_size h0_value ss sp szs sv h0_length h0_at tr tx tr_length tx ctx gtx) := hD
        refine lv_aload_n hx hb d_SC_readName_102 rfl (lv_at hl 0 rfl) ?_
        refine va_get (D := (dC, dI)) (ci := 8) (v := .int j5_h0_size) (C := R_SC) (T := F_SC) (N := 11) hx hb hts i_SC hown hK hP 0 rfl rfl 3 (by decide) (hts _ kF_SC_43) (fun _ h9 => h9) rfl d_SC_readName_103 ?_
        refine w_cut (pc2 := 140) (σ := Nat) (fun u H locs ls => match u with | j140_h0_sign => (j140_h0_sign < 55) ∧ (j140_h0_sign = 1 ∨ (j140_h0_sign = 2 ∧ j5_h0_size.toInt ≤ 20) ∨ (5 ≤ j140_h0_sign ∧ j5_h0_size.toInt = (sgB.getD j140_h0_sign []).length)) ∧ va_P (dC, dI) cls (wz_104 h0 tr (sg sa j140_h0_sign) h0_place j5_h0_size h0_value ss sp szs sv h0_length h0_at tr tx tr_length tx ctx gtx) H ∧ va_D A (wz_104 h0 tr (sg sa j140_h0_sign) h0_place j5_h0_size h0_value ss sp szs sv h0_length h0_at tr tx tr_length tx ctx gtx) ∧ va_S A s.heap H locs ∧ lv_has ls 2 [(0, .ref h0), (1, .int j83_l1)]) (fun u => match u with | j140_h0_sign => []) ?_ (fun jn140 => ?_)
        · intro u H locs ls hI
          obtain ⟨j140_h0_sign, rfl⟩ : ∃ z, z = u := ⟨_, rfl⟩
          obtain ⟨b_j140_h0_sign, u2, hP, hD, hS, hl⟩ := hI
          obtain ⟨x5, ex5⟩ : ∃ z : Int32, z = j83_l1 + 1 := ⟨_, rfl⟩
          have tx5 : x5.toInt = j83_l1.toInt + 1 := by have z := i32_add ex5 (by (first | (apply Int.le_antisymm <;> omega) | omega)) (by (first | (apply Int.le_antisymm <;> omega) | omega)); first | exact z | (first | (apply Int.le_antisymm <;> omega) | omega)
          refine lv_iinc (v := x5) (lv' := [(1, .int x5), (0, .ref h0)]) hx hb d_SC_readName_140 hl (k := 1) rfl (by rw [ex5]; rfl) (by decide) rfl (fun ls hl => ?_)
          refine lv_goto (tgt := 83) hx hb d_SC_readName_143 (by decide) ?_
          exact ih83 (x5, j140_h0_sign) _ _ _ (by show (55 - x5.toInt).toNat < N83; (first | (apply Int.le_antisymm <;> omega) | omega)) ⟨by (try dsimp only) <;> (first | (apply Int.le_antisymm <;> omega) | omega), b_j140_h0_sign, u2, hP, hD, hS, lv_sub hl [1, 0] rfl⟩
        · skip
          refine lv_icmp_ne (tgt := 140) hx hb d_SC_readName_106 (by decide) (fun c106 => ?_) (fun c106 => ?_)
          · have q106 := neI c106
            exact jn140 j83_h0_sign _ _ _ ⟨b_j83_h0_sign, u1, hP, hD, hS, lv_sub hl [0, 1] rfl⟩
          · have q106 := eqI c106
            refine lv_aload_n hx hb d_SC_readName_109 rfl (lv_at hl 0 rfl) ?_
            refine va_get (D := (dC, dI)) (ci := 8) (v := .ref tr) (C := R_SC) (T := F_SC) (N := 11) hx hb hts i_SC hown hK hP 0 rfl rfl 0 (by decide) (hts _ kF_SC_35) (fun _ h9 => h9) rfl d_SC_readName_110 ?_
            refine lv_aload_n hx hb d_SC_readName_113 rfl (lv_at hl 0 rfl) ?_
            refine va_get (D := (dC, dI)) (ci := 8) (v := .int h0_place) (C := R_SC) (T := F_SC) (N := 11) hx hb hts i_SC hown hK hP 0 rfl rfl 2 (by decide) (hts _ kF_SC_39) (fun _ h9 => h9) rfl d_SC_readName_114 ?_
            refine va_getsN (C := "WaferForge") (n := "SIGNS") (d := "[LWaferForge$Sign;") (v := .ref ((sa 1))) hx hb (hSW.2.1.1) hS hown (sw_nf (k := 0) hSW rfl) (fun _ h9 => h9) d_SC_readName_117 ?_
            refine lv_iload_n hx hb d_SC_readName_120 rfl (lv_at hl 1 rfl) ?_
            have g121 : vp_in j83_l1 55 := vp_in_iff.mpr ⟨by (first | (apply Int.le_antisymm <;> omega) | omega), by (first | (apply Int.le_antisymm <;> omega) | omega)⟩
            obtain ⟨k7, ek7⟩ : ∃ z : Nat, z = j83_l1.toNatClampNeg := ⟨_, rfl⟩
            have hk7 : k7 < 55 := by have z := i32_clamp (x := j83_l1) (by (first | (apply Int.le_antisymm <;> omega) | omega)); (first | (apply Int.le_antisymm <;> omega) | omega)
            refine vb_tq (v := .ref (sg sa k7)) hx hb (hSW.2.1.2) hS g121 (by rw [ek7]) d_SC_readName_121 ?_
            refine va_getX (i := k7) hx hb hSW.2.2.2.2.1 hk7 hS hown (hts _ kF_SC_105) (fun _ h9 => h9) d_SC_readName_122 ?_
            have hPc := hP.sb (wq := [(tr, .inr (1, [.ref tx, .int tr_length])), (tx, .inl (ctx, 2000, .inl gtx))]) [1, 2] rfl
            have hDc := hD.sb (wq := [(tr, .inr (1, [.ref tx, .int tr_length])), (tx, .inl (ctx, 2000, .inl gtx))]) [1, 2] (by decide) rfl
            have hKc := hK.sb (tyq := [(ctx, .byte)]) [0] rfl
            have hFc := va_free (wc := [(tr, .inr (1, [.ref tx, .int tr_length])), (tx, .inl (ctx, 2000, .inl gtx))]) hD hS hA [1, 2] rfl
            refine va_calli (va_runV (As := [.int h0_place, .ref (sa (200 + k7))]) (rest := []) ⟨hx, hb, hml, hown, hts⟩ (c_BR_holds l dC dI H.size sa ((sa (200 + k7))) ((sa (300 + k7))) ((sgB.getD k7 [])) tr tx ctx tr_length 2000 gtx h0_place (by (first | (apply Int.le_antisymm <;> omega) | omega)) (by have z := (sgB_len k7 hk7).1; (first | (apply Int.le_antisymm <;> omega) | omega)) (by (first | (apply Int.le_antisymm <;> omega) | omega))) (cwV 2 hts (gV kM_SC_113 kV_BR_holds kS_BR_holds kI_BR kC_BR_holds) rfl rfl rfl (by decide +kernel) ⟨Nat.le_of_ble_eq_true rfl, Nat.le_of_ble_eq_true rfl⟩) ⟨fun a U g mk z => by obtain ⟨z0, z1, zP, zK, zD, zS, zR0⟩ := z; exact ⟨z0, z1, zP, va_K.moved (u := U) (U := U.calling g mk a) (Vm.Alike.refl U.vm) zK, zD, sw.same (u := U) (U := U.calling g mk a) rfl zS, zR0.moved (u := U) (U := U.calling g mk a) (Vm.Alike.refl U.vm)⟩, va_recv hKc hPc (ci := 1) (q0 := 0) rfl rfl, fun U hU hW => ⟨rfl, by rw [hU], va_P.he hU.symm hPc, va_K.moved hW.alike hKc, hDc.weaken (fun _ _ _ _ => trivial), hSW.call hS hFc hW hU, ((hSW.2.2.2.2.2.1 k7 hk7)).call hS hFc hW hU⟩⟩ rfl rfl hl.1 rfl (lv_room (Nat.le_of_ble_eq_true rfl)) d_SC_readName_125 ⟨(Nat.zero_le _), (Nat.zero_le _)⟩) hS (fun q _ h => hFc q h) hFc (fun r8 u t H1 locs ht hvm hw hB hz1 hk1 hS => ?_)
            try dsimp only at hw
            obtain ⟨br8, xr8⟩ := hw
            try clear hw
            have tr8 := b01 br8
            obtain ⟨hP1, hK1, hD1⟩ := hB
            replace hP1 := va_P.he ht hP1
            obtain ⟨hP, hD⟩ := va_join (wr := (wz_105 h0 tr (sg sa j83_h0_sign) h0_place j5_h0_size h0_value ss sp szs sv h0_length h0_at)) (w1 := [(tr, .inr (1, [.ref tx, .int tr_length])), (tx, .inl (ctx, 2000, .inl gtx))]) hP hD [1, 2] [0] rfl rfl (by decide) (by decide) hk1 hFc hP1 hD1
            clear hPc hDc hKc hFc hz1 hk1 hP1 hK1 hD1
            rename Heap => H
            have hP : va_P (dC, dI) cls (wz_104 h0 tr (sg sa j83_h0_sign) h0_place j5_h0_size h0_value ss sp szs sv h0_length h0_at tr tx tr_length tx ctx gtx) H := hP
            have hD : va_D A (wz_104 h0 tr (sg sa j83_h0_sign) h0_place j5_h0_size h0_value ss sp szs sv h0_length h0_at tr tx tr_length tx ctx gtx) := hD
            refine lv_if_eq (tgt := 140) hx hb d_SC_readName_128 (by decide) (fun c128 => ?_) (fun c128 => ?_)
            · have q128 := eqI c128
              exact jn140 j83_h0_sign _ _ _ ⟨b_j83_h0_sign, u1, hP, hD, hS, lv_sub hl [0, 1] rfl⟩
            · have q128 := neI c128
              refine lv_aload_n hx hb d_SC_readName_131 rfl (lv_at hl 0 rfl) ?_
              refine va_getsN (C := "WaferForge") (n := "SIGNS") (d := "[LWaferForge$Sign;") (v := .ref ((sa 1))) hx hb (hSW.2.1.1) hS hown (sw_nf (k := 0) hSW rfl) (fun _ h9 => h9) d_SC_readName_132 ?_
              refine lv_iload_n hx hb d_SC_readName_135 rfl (lv_at hl 1 rfl) ?_
              have g136 : vp_in j83_l1 55 := vp_in_iff.mpr ⟨by (first | (apply Int.le_antisymm <;> omega) | omega), by (first | (apply Int.le_antisymm <;> omega) | omega)⟩
              obtain ⟨k10, ek10⟩ : ∃ z : Nat, z = j83_l1.toNatClampNeg := ⟨_, rfl⟩
              have hk10 : k10 < 55 := by have z := i32_clamp (x := j83_l1) (by (first | (apply Int.le_antisymm <;> omega) | omega)); (first | (apply Int.le_antisymm <;> omega) | omega)
              refine vb_tq (v := .ref (sg sa k10)) hx hb (hSW.2.1.2) hS g136 (by rw [ek10]) d_SC_readName_136 ?_
              refine va_put (D := (dC, dI)) (ci := 8) (v := .ref (sg sa k10)) (ty := .object "WaferForge$Sign") (C := R_SC) (T := F_SC) (N := 11) hx hb hts i_SC t_SC t_SC_ok n_SC hown hK hP hD hS 0 rfl rfl 1 (by decide) (hts _ kF_SC_15) (fun _ h9 => h9) rfl (by decide +kernel) rfl rfl (Nat.le_of_ble_eq_true rfl) d_SC_readName_137 (fun H locs hP hD hS => ?_)
              have q5 : k10 = k3 := by rw [ek10, ek3]
              have q6 := sgB_len k3 hk3
              have u9 : k10 = 1 ∨ (k10 = 2 ∧ j5_h0_size.toInt ≤ 20) ∨ (5 ≤ k10 ∧ j5_h0_size.toInt = (sgB.getD k10 []).length) := Or.inr (Or.inr (by rw [q5]; exact ⟨by (first | (apply Int.le_antisymm <;> omega) | omega), by (first | (apply Int.le_antisymm <;> omega) | omega)⟩))
              exact jn140 k10 _ _ _ ⟨hk10, u9, hP, hD, hS, lv_sub hl [0, 1] rfl⟩
    · skip
      refine lv_icmp_le (tgt := 75) hx hb d_SC_readName_66 (by decide) (fun c66 => ?_) (fun c66 => ?_)
      · have q66 := leI c66
        refine va_gets (C := "WaferForge$Sign") (n := "NAME") (d := "LWaferForge$Sign;") (v := .ref (sg sa 2)) hx hb ((hSW.2.2.2.1.1 2 (by decide)).1) hS hown (hts _ kF_SC_46) (fun _ h9 => h9) d_SC_readName_75 ?_
        exact jn78 2 _ _ _ ⟨(by decide : 2 < 55), by (try dsimp only) <;> (first | (apply Int.le_antisymm <;> omega) | omega), hP, hD, hS, lv_sub hl [0] rfl⟩
      · have q66 := nleI c66
        refine va_gets (C := "WaferForge$Sign") (n := "WRONG") (d := "LWaferForge$Sign;") (v := .ref (sg sa 1)) hx hb ((hSW.2.2.2.1.1 1 (by decide)).1) hS hown (hts _ kF_SC_52) (fun _ h9 => h9) d_SC_readName_69 ?_
        refine lv_goto (tgt := 78) hx hb d_SC_readName_72 (by decide) ?_
        exact jn78 1 _ _ _ ⟨(by decide : 1 < 55), by (try dsimp only) <;> (first | (apply Int.le_antisymm <;> omega) | omega), hP, hD, hS, lv_sub hl [0] rfl⟩
  · skip
    refine lv_icmp_ge (tgt := 59) hx hb d_SC_readName_21 (by decide) (fun c21 => ?_) (fun c21 => ?_)
    · have q21 := leI c21
      exact jn59 () _ _ _ ⟨hP, hD, hS, lv_sub hl [0] rfl⟩
    · have q21 := nleI c21
      refine lv_aload_n hx hb d_SC_readName_24 rfl (lv_at hl 0 rfl) ?_
      refine va_get (D := (dC, dI)) (ci := 8) (v := .ref tr) (C := R_SC) (T := F_SC) (N := 11) hx hb hts i_SC hown hK hP 0 rfl rfl 0 (by decide) (hts _ kF_SC_35) (fun _ h9 => h9) rfl d_SC_readName_25 ?_
      refine lv_aload_n hx hb d_SC_readName_28 rfl (lv_at hl 0 rfl) ?_
      refine va_get (D := (dC, dI)) (ci := 8) (v := .int h0_place) (C := R_SC) (T := F_SC) (N := 11) hx hb hts i_SC hown hK hP 0 rfl rfl 2 (by decide) (hts _ kF_SC_39) (fun _ h9 => h9) rfl d_SC_readName_29 ?_
      refine lv_aload_n hx hb d_SC_readName_32 rfl (lv_at hl 0 rfl) ?_
      refine va_get (D := (dC, dI)) (ci := 8) (v := .int j5_h0_size) (C := R_SC) (T := F_SC) (N := 11) hx hb hts i_SC hown hK hP 0 rfl rfl 3 (by decide) (hts _ kF_SC_43) (fun _ h9 => h9) rfl d_SC_readName_33 ?_
      refine lv_iadd hx hb d_SC_readName_36 ?_
      refine lv_topi (fun x11 ex11 => ?_)
      have tx11 : x11.toInt = h0_place.toInt + j5_h0_size.toInt := by have z := i32_add ex11 (by (first | (apply Int.le_antisymm <;> omega) | omega)) (by (first | (apply Int.le_antisymm <;> omega) | omega)); first | exact z | (first | (apply Int.le_antisymm <;> omega) | omega)
      have hPc := hP.sb (wq := [(tr, .inr (1, [.ref tx, .int tr_length])), (tx, .inl (ctx, 2000, .inl gtx))]) [1, 2] rfl
      have hDc := hD.sb (wq := [(tr, .inr (1, [.ref tx, .int tr_length])), (tx, .inl (ctx, 2000, .inl gtx))]) [1, 2] (by decide) rfl
      have hKc := hK.sb (tyq := [(ctx, .byte)]) [0] rfl
      have hFc := va_free (wc := [(tr, .inr (1, [.ref tx, .int tr_length])), (tx, .inl (ctx, 2000, .inl gtx))]) hD hS hA [1, 2] rfl
      refine va_calli (va_runV (As := [.int x11]) (rest := []) ⟨hx, hb, hml, hown, hts⟩ (c_BR_at l dC dI tr tx H.size ctx 2000 tr_length gtx (by (first | (apply Int.le_antisymm <;> omega) | omega)) (by (first | (apply Int.le_antisymm <;> omega) | omega)) (by (first | (apply Int.le_antisymm <;> omega) | omega)) x11) (cwV 1 hts (gV kM_SC_80 kV_BR_at kS_BR_at kI_BR kC_BR_at) rfl rfl rfl (by decide +kernel) ⟨Nat.le_of_ble_eq_true rfl, Nat.le_of_ble_eq_true rfl⟩) ⟨fun a U g mk z => by obtain ⟨z0, z1, zP, zK, zD⟩ := z; exact ⟨z0, z1, zP, va_K.moved (u := U) (U := U.calling g mk a) (Vm.Alike.refl U.vm) zK, zD⟩, va_recv hKc hPc (ci := 1) (q0 := 0) rfl rfl, fun U hU hW => ⟨rfl, by rw [hU], va_P.he hU.symm hPc, va_K.moved hW.alike hKc, hDc.weaken (fun _ _ _ _ => trivial)⟩⟩ rfl rfl hl.1 rfl (lv_room (Nat.le_of_ble_eq_true rfl)) d_SC_readName_37 ⟨(Nat.zero_le _), (Nat.zero_le _)⟩) hS (fun q _ h => hFc q h) hFc (fun r12 u t H1 locs ht hvm hw hB hz1 hk1 hS => ?_)
      obtain ⟨er12, rfl⟩ := hw
      have tr12 := br_get_in gtx tr_length x11
      rw [← er12] at tr12
      obtain ⟨hP1, hK1, hD1⟩ := hB
      replace hP1 := va_P.he ht hP1
      obtain ⟨hP, hD⟩ := va_join (wr := (wz_105 h0 tr (sg sa h0_sign) h0_place j5_h0_size h0_value ss sp szs sv h0_length h0_at)) (w1 := [(tr, .inr (1, [.ref tx, .int tr_length])), (tx, .inl (ctx, 2000, .inl gtx))]) hP hD [1, 2] [0] rfl rfl (by decide) (by decide) hk1 hFc hP1 hD1
      clear hPc hDc hKc hFc hz1 hk1 hP1 hK1 hD1
      rename Heap => H
      have hP : va_P (dC, dI) cls (wz_104 h0 tr (sg sa h0_sign) h0_place j5_h0_size h0_value ss sp szs sv h0_length h0_at tr tx tr_length tx ctx gtx) H := hP
      have hD : va_D A (wz_104 h0 tr (sg sa h0_sign) h0_place j5_h0_size h0_value ss sp szs sv h0_length h0_at tr tx tr_length tx ctx gtx) := hD
      have hPc := hP.sb (wq := []) [] rfl
      have hDc := hD.sb (wq := []) [] (by decide) rfl
      have hKc := hK.sb (tyq := []) [] rfl
      have hFc := va_free (wc := []) hD hS hA [] rfl
      refine va_calli (va_runS (As := [.int r12]) (rest := []) ⟨hx, hb, hml, hown, hts⟩ (c_SC_isNamePart l dC dI H.size r12) ⟨callB_of 1 hts (gW kC_SC_isNamePart) rfl rfl rfl (hts _ kI_SC) (hts _ kM_SC_99) (by decide +kernel) ⟨Nat.le_of_ble_eq_true rfl, Nat.le_of_ble_eq_true rfl⟩, hts _ kT_SC_isNamePart⟩ ⟨fun a U g mk z => by obtain ⟨z0, z1, zP, zK, zD⟩ := z; exact ⟨z0, z1, zP, va_K.moved (u := U) (U := U.calling g mk a) (Vm.Alike.refl U.vm) zK, zD⟩, fun U hU hW => ⟨rfl, by rw [hU], va_P.he hU.symm hPc, va_K.moved hW.alike hKc, hDc.weaken (fun _ _ _ _ => trivial)⟩⟩ rfl rfl hl.1 rfl (lv_room (Nat.le_of_ble_eq_true rfl)) d_SC_readName_40 ⟨(Nat.zero_le _), (Nat.zero_le _)⟩) hS (fun q _ h => hFc q h) hFc (fun r13 u t H1 locs ht hvm hw hB hz1 hk1 hS => ?_)
      try dsimp only at hw
      have br13 := hw
      try clear hw
      have tr13 := b01 br13
      obtain ⟨hP1, hK1, hD1⟩ := hB
      replace hP1 := va_P.he ht hP1
      obtain ⟨hP, hD⟩ := va_join (wr := (wz_104 h0 tr (sg sa h0_sign) h0_place j5_h0_size h0_value ss sp szs sv h0_length h0_at tr tx tr_length tx ctx gtx)) (w1 := []) hP hD [] [0, 1, 2] rfl rfl (by decide) (by decide) hk1 hFc hP1 hD1
      clear hPc hDc hKc hFc hz1 hk1 hP1 hK1 hD1
      rename Heap => H
      have hP : va_P (dC, dI) cls (wz_104 h0 tr (sg sa h0_sign) h0_place j5_h0_size h0_value ss sp szs sv h0_length h0_at tr tx tr_length tx ctx gtx) H := hP
      have hD : va_D A (wz_104 h0 tr (sg sa h0_sign) h0_place j5_h0_size h0_value ss sp szs sv h0_length h0_at tr tx tr_length tx ctx gtx) := hD
      refine lv_if_eq (tgt := 59) hx hb d_SC_readName_43 (by decide) (fun c43 => ?_) (fun c43 => ?_)
      · have q43 := eqI c43
        exact jn59 () _ _ _ ⟨hP, hD, hS, lv_sub hl [0] rfl⟩
      · have q43 := neI c43
        refine lv_aload_n hx hb d_SC_readName_46 rfl (lv_at hl 0 rfl) ?_
        refine lv_dup hx hb d_SC_readName_47 rfl ?_
        refine va_get (D := (dC, dI)) (ci := 8) (v := .int j5_h0_size) (C := R_SC) (T := F_SC) (N := 11) hx hb hts i_SC hown hK hP 0 rfl rfl 3 (by decide) (hts _ kF_SC_43) (fun _ h9 => h9) rfl d_SC_readName_48 ?_
        refine lv_iconst (v := 1) hx hb d_SC_readName_51 (by decide) ?_
        refine lv_iadd hx hb d_SC_readName_52 ?_
        refine lv_topi (fun x14 ex14 => ?_)
        have tx14 : x14.toInt = j5_h0_size.toInt + 1 := by have z := i32_add ex14 (by (first | (apply Int.le_antisymm <;> omega) | omega)) (by (first | (apply Int.le_antisymm <;> omega) | omega)); first | exact z | (first | (apply Int.le_antisymm <;> omega) | omega)
        refine va_put (D := (dC, dI)) (ci := 8) (v := .int x14) (ty := .int) (C := R_SC) (T := F_SC) (N := 11) hx hb hts i_SC t_SC t_SC_ok n_SC hown hK hP hD hS 0 rfl rfl 3 (by decide) (hts _ kF_SC_43) (fun _ h9 => h9) rfl (by decide +kernel) rfl rfl (Nat.le_of_ble_eq_true rfl) d_SC_readName_53 (fun H locs hP hD hS => ?_)
        refine lv_goto (tgt := 5) hx hb d_SC_readName_56 (by decide) ?_
        exact ih5 x14 _ _ _ (by show (tr_length.toInt - x14.toInt).toNat < N5; (first | (apply Int.le_antisymm <;> omega) | omega)) ⟨by (try dsimp only) <;> (first | (apply Int.le_antisymm <;> omega) | omega), by (try dsimp only) <;> (first | (apply Int.le_antisymm <;> omega) | omega), hP, hD, hS, lv_sub hl [0] rfl⟩
abbrev b_SC_readMark : ByteArray := prog_10_method_10_code
def y_SC_readMark : MethodName := ⟨R_SC, "readMark", "()V"⟩
abbrev w_SC_readMark : List Cond := .code y_SC_readMark b_SC_readMark 2 none :: lw_g
theorem kC_SC_readMark : Cond.code y_SC_readMark b_SC_readMark 2 none ∈ lw_g := in_c4 154 rfl rfl
theorem d_SC_readMark_0 : decode b_SC_readMark 0 = .ok (.aload_n 0, 1) := bz_c42 (by decide +kernel)
theorem d_SC_readMark_1 : decode b_SC_readMark 1 = .ok (.getstatic 52, 3) := bz_c178 (by decide +kernel)
theorem d_SC_readMark_4 : decode b_SC_readMark 4 = .ok (.putfield 15, 3) := bz_c181 (by decide +kernel)
theorem d_SC_readMark_7 : decode b_SC_readMark 7 = .ok (.aload_n 0, 1) := bz_c42 (by decide +kernel)
theorem d_SC_readMark_8 : decode b_SC_readMark 8 = .ok (.iconst 0, 1) := bz_c3 (by decide +kernel)
theorem d_SC_readMark_9 : decode b_SC_readMark 9 = .ok (.putfield 43, 3) := bz_c181 (by decide +kernel)
theorem d_SC_readMark_12 : decode b_SC_readMark 12 = .ok (.iconst 0, 1) := bz_c3 (by decide +kernel)
theorem d_SC_readMark_13 : decode b_SC_readMark 13 = .ok (.istore_n 1, 1) := bz_c60 (by decide +kernel)
theorem d_SC_readMark_14 : decode b_SC_readMark 14 = .ok (.iload_n 1, 1) := bz_c27 (by decide +kernel)
theorem d_SC_readMark_15 : decode b_SC_readMark 15 = .ok (.getstatic 102, 3) := bz_c178 (by decide +kernel)
theorem d_SC_readMark_18 : decode b_SC_readMark 18 = .ok (.arraylength, 1) := bz_c190 (by decide +kernel)
theorem d_SC_readMark_19 : decode b_SC_readMark 19 = .ok (.if_icmp .ge 72, 3) := bz_c162 (by decide +kernel)
theorem d_SC_readMark_22 : decode b_SC_readMark 22 = .ok (.getstatic 102, 3) := bz_c178 (by decide +kernel)
theorem d_SC_readMark_25 : decode b_SC_readMark 25 = .ok (.iload_n 1, 1) := bz_c27 (by decide +kernel)
theorem d_SC_readMark_26 : decode b_SC_readMark 26 = .ok (.aaload, 1) := bz_c50 (by decide +kernel)
theorem d_SC_readMark_27 : decode b_SC_readMark 27 = .ok (.getfield 105, 3) := bz_c180 (by decide +kernel)
theorem d_SC_readMark_30 : decode b_SC_readMark 30 = .ok (.invokevirtual 108, 3) := bz_c182 (by decide +kernel)
theorem d_SC_readMark_33 : decode b_SC_readMark 33 = .ok (.aload_n 0, 1) := bz_c42 (by decide +kernel)
theorem d_SC_readMark_34 : decode b_SC_readMark 34 = .ok (.getfield 43, 3) := bz_c180 (by decide +kernel)
theorem d_SC_readMark_37 : decode b_SC_readMark 37 = .ok (.if_icmp .le 48, 3) := bz_c164 (by decide +kernel)
theorem d_SC_readMark_40 : decode b_SC_readMark 40 = .ok (.aload_n 0, 1) := bz_c42 (by decide +kernel)
theorem d_SC_readMark_41 : decode b_SC_readMark 41 = .ok (.getfield 35, 3) := bz_c180 (by decide +kernel)
theorem d_SC_readMark_44 : decode b_SC_readMark 44 = .ok (.aload_n 0, 1) := bz_c42 (by decide +kernel)
theorem d_SC_readMark_45 : decode b_SC_readMark 45 = .ok (.getfield 39, 3) := bz_c180 (by decide +kernel)
theorem d_SC_readMark_48 : decode b_SC_readMark 48 = .ok (.getstatic 102, 3) := bz_c178 (by decide +kernel)
theorem d_SC_readMark_51 : decode b_SC_readMark 51 = .ok (.iload_n 1, 1) := bz_c27 (by decide +kernel)
theorem d_SC_readMark_52 : decode b_SC_readMark 52 = .ok (.aaload, 1) := bz_c50 (by decide +kernel)
theorem d_SC_readMark_53 : decode b_SC_readMark 53 = .ok (.getfield 105, 3) := bz_c180 (by decide +kernel)
theorem d_SC_readMark_56 : decode b_SC_readMark 56 = .ok (.invokevirtual 113, 3) := bz_c182 (by decide +kernel)
theorem d_SC_readMark_59 : decode b_SC_readMark 59 = .ok (.ifCond .eq 26, 3) := bz_c153 (by decide +kernel)
theorem d_SC_readMark_62 : decode b_SC_readMark 62 = .ok (.aload_n 0, 1) := bz_c42 (by decide +kernel)
theorem d_SC_readMark_63 : decode b_SC_readMark 63 = .ok (.getstatic 102, 3) := bz_c178 (by decide +kernel)
theorem d_SC_readMark_66 : decode b_SC_readMark 66 = .ok (.iload_n 1, 1) := bz_c27 (by decide +kernel)
theorem d_SC_readMark_67 : decode b_SC_readMark 67 = .ok (.aaload, 1) := bz_c50 (by decide +kernel)
theorem d_SC_readMark_68 : decode b_SC_readMark 68 = .ok (.putfield 15, 3) := bz_c181 (by decide +kernel)
theorem d_SC_readMark_71 : decode b_SC_readMark 71 = .ok (.aload_n 0, 1) := bz_c42 (by decide +kernel)
theorem d_SC_readMark_72 : decode b_SC_readMark 72 = .ok (.aload_n 0, 1) := bz_c42 (by decide +kernel)
theorem d_SC_readMark_73 : decode b_SC_readMark 73 = .ok (.getfield 15, 3) := bz_c180 (by decide +kernel)
theorem d_SC_readMark_76 : decode b_SC_readMark 76 = .ok (.getfield 105, 3) := bz_c180 (by decide +kernel)
theorem d_SC_readMark_79 : decode b_SC_readMark 79 = .ok (.invokevirtual 108, 3) := bz_c182 (by decide +kernel)
theorem d_SC_readMark_82 : decode b_SC_readMark 82 = .ok (.putfield 43, 3) := bz_c181 (by decide +kernel)
theorem d_SC_readMark_85 : decode b_SC_readMark 85 = .ok (.iinc 1 1, 3) := by decide +kernel
theorem d_SC_readMark_88 : decode b_SC_readMark 88 = .ok (.goto (-74), 3) := bz_c167 (by decide +kernel)
theorem d_SC_readMark_91 : decode b_SC_readMark 91 = .ok (.return_, 1) := bz_c177 (by decide +kernel)
abbrev at_SC_readMark (dC : Nat → ClassId) (dI : Nat → Nat → Nat) (sa : Nat → Nat) (h0 tr ss sp szs sv tx : Nat) (ctx : ClassId) (h0_place : Int32) (h0_value : Int64) (h0_length : Int32) (h0_at : Int32) (tr_length : Int32) (gtx : Nat → Int32) (A : Nat → Prop) (u : Nat × Int32) (t : State) : Prop := match u with | (h0_sign, h0_size) => va_P (dC, dI) cls (wz_104 h0 tr (sg sa h0_sign) h0_place h0_size h0_value ss sp szs sv h0_length h0_at tr tx tr_length tx ctx gtx) t.heap ∧ va_K (dC, dI) cls [(ctx, .byte)] t ∧ va_D A (wz_104 h0 tr (sg sa h0_sign) h0_place h0_size h0_value ss sp szs sv h0_length h0_at tr tx tr_length tx ctx gtx)
set_option maxHeartbeats 4000000 in
set_option maxRecDepth 100000 in
theorem c_SC_readMark (l : Launch) (dC : Nat → ClassId) (dI : Nat → Nat → Nat) (sz : Nat) (sa : Nat → Nat) (h0 tr ss sp szs sv tx : Nat) (ctx : ClassId) (h0_sign : Nat) (h0_place : Int32) (h0_size : Int32) (h0_value : Int64) (h0_length : Int32) (h0_at : Int32) (tr_length : Int32) (gtx : Nat → Int32)  (b_h0_sign : h0_sign < 55) (b_h0_place : 0 ≤ h0_place.toInt ∧ h0_place.toInt ≤ 2000) (b_h0_size : 0 ≤ h0_size.toInt ∧ h0_size.toInt ≤ 2000) (b_tr_length : 0 ≤ tr_length.toInt ∧ tr_length.toInt ≤ 2000)   (hpl : h0_place.toInt < tr_length.toInt) : Met l y_SC_readMark w_SC_readMark ({ frames := 5, cells := 0, slots := 0, locals := 108 }) (va_Pc [.ref h0] (fun U => U.heap.size = sz ∧ va_P (dC, dI) cls (wz_104 h0 tr (sg sa h0_sign) h0_place h0_size h0_value ss sp szs sv h0_length h0_at tr tx tr_length tx ctx gtx) U.heap ∧ va_K (dC, dI) cls [(ctx, .byte)] U ∧ va_D (fun _ => True) (wz_104 h0 tr (sg sa h0_sign) h0_place h0_size h0_value ss sp szs sv h0_length h0_at tr tx tr_length tx ctx gtx) ∧ sw sa (va_A (wz_104 h0 tr (sg sa h0_sign) h0_place h0_size h0_value ss sp szs sv h0_length h0_at tr tx tr_length tx ctx gtx) sz) U U.heap)) (va_Qv (fun (u : Nat × Int32) => match u with | (h0_sign2, h0_size2) => (h0_sign2 < 55) ∧ (0 ≤ h0_size2.toInt ∧ h0_size2.toInt ≤ 2000) ∧ ((h0_sign2 = 1 ∧ h0_size2.toInt = 0) ∨ (5 ≤ h0_sign2 ∧ h0_size2.toInt = (sgB.getD h0_sign2 []).length ∧ h0_place.toInt + h0_size2.toInt ≤ tr_length.toInt))) (at_SC_readMark dC dI sa h0 tr ss sp szs sv tx ctx h0_place h0_value h0_length h0_at tr_length gtx (va_A (wz_104 h0 tr (sg sa h0_sign) h0_place h0_size h0_value ss sp szs sv h0_length h0_at tr tx tr_length tx ctx gtx) sz)) (va_A (wz_104 h0 tr (sg sa h0_sign) h0_place h0_size h0_value ss sp szs sv h0_length h0_at tr tx tr_length tx ctx gtx) sz)) 0 0 (va_A (wz_104 h0 tr (sg sa h0_sign) h0_place h0_size h0_value ss sp szs sv h0_length h0_at tr tx tr_length tx ctx gtx) sz) := by
  refine Met.ofW (cc := b_SC_readMark) (maxL := 2) (ret := none) (by decide) rfl ?_
  intro p e s m args below meth c s₁ B hml hv
  obtain ⟨rfl, hsz, hP, hK, hD0, hSW⟩ := hv
  have hx := B.exec
  have hb := B.bytes
  have hr := B.returns
  have hts0 := atoms_spec (ws := w_SC_readMark) B.pre
  have hts : ∀ w ∈ lw_g, w.before _ s = true := fun w h => hts0 w (List.mem_cons_of_mem _ h)
  have hown : s.vm.findClass R_SC = some m.cls := findClass_of_methodNamed B.named
  have hlocks := B.notSynchronized
  clear hts0
  subst hsz
  have hD := hD0.self (sz := s.heap.size)
  generalize hAe : va_A (wz_104 h0 tr (sg sa h0_sign) h0_place h0_size h0_value ss sp szs sv h0_length h0_at tr tx tr_length tx ctx gtx) s.heap.size = A at hD hSW ⊢
  have hA : ∀ q : Nat, s.heap.size ≤ q → A q := fun q h => by rw [← hAe]; exact Or.inr h
  clear hAe
  have hP : va_P (dC, dI) cls (wz_104 h0 tr (sg sa h0_sign) h0_place h0_size h0_value ss sp szs sv h0_length h0_at tr tx tr_length tx ctx gtx) s.heap := hP
  have hl := lv_entry ([.ref h0]) (n := 2) (Nat.le_of_ble_eq_true rfl)
  rw [lg_entry_eq]
  generalize (lg_sl ([.ref h0]) ++ List.replicate (2 - (lg_sl ([.ref h0])).length) Slot.unset).toArray = ls at hl ⊢
  have hl : lv_has ls 2 [(0, .ref h0)] := hl
  have k0 : (0 : Int32).toInt = 0 := by decide
  refine w_gen (A := A) hP (fun H locs hP hS => ?_)
  have k1 : (1 : Int32).toInt = 1 := by decide
  refine lv_aload_n hx hb d_SC_readMark_0 rfl (lv_at hl 0 rfl) ?_
  refine va_gets (C := "WaferForge$Sign") (n := "WRONG") (d := "LWaferForge$Sign;") (v := .ref (sg sa 1)) hx hb ((hSW.2.2.2.1.1 1 (by decide)).1) hS hown (hts _ kF_SC_52) (fun _ h9 => h9) d_SC_readMark_1 ?_
  refine va_put (D := (dC, dI)) (ci := 8) (v := .ref (sg sa 1)) (ty := .object "WaferForge$Sign") (C := R_SC) (T := F_SC) (N := 11) hx hb hts i_SC t_SC t_SC_ok n_SC hown hK hP hD hS 0 rfl rfl 1 (by decide) (hts _ kF_SC_15) (fun _ h9 => h9) rfl (by decide +kernel) rfl rfl (Nat.le_of_ble_eq_true rfl) d_SC_readMark_4 (fun H locs hP hD hS => ?_)
  refine lv_aload_n hx hb d_SC_readMark_7 rfl (lv_at hl 0 rfl) ?_
  refine lv_iconst (v := 0) hx hb d_SC_readMark_8 (by decide) ?_
  refine va_put (D := (dC, dI)) (ci := 8) (v := .int 0) (ty := .int) (C := R_SC) (T := F_SC) (N := 11) hx hb hts i_SC t_SC t_SC_ok n_SC hown hK hP hD hS 0 rfl rfl 3 (by decide) (hts _ kF_SC_43) (fun _ h9 => h9) rfl (by decide +kernel) rfl rfl (Nat.le_of_ble_eq_true rfl) d_SC_readMark_9 (fun H locs hP hD hS => ?_)
  refine lv_iconst (v := 0) hx hb d_SC_readMark_12 (by decide) ?_
  refine lv_istore_n (lv' := [(1, .int 0), (0, .ref h0)]) hx hb d_SC_readMark_13 rfl hl (by decide) rfl (fun ls hl => ?_)
  refine w_loop (σ := Int32 × Nat × Int32) (fun u H locs ls => match u with | (j14_l1, j14_h0_sign, j14_h0_size) => (0 ≤ j14_l1.toInt ∧ j14_l1.toInt ≤ 55) ∧ (j14_h0_sign < 55) ∧ (0 ≤ j14_h0_size.toInt ∧ j14_h0_size.toInt ≤ 2000) ∧ ((j14_h0_sign = 1 ∧ j14_h0_size.toInt = 0) ∨ (5 ≤ j14_h0_sign ∧ j14_h0_size.toInt = (sgB.getD j14_h0_sign []).length ∧ h0_place.toInt + j14_h0_size.toInt ≤ tr_length.toInt)) ∧ va_P (dC, dI) cls (wz_104 h0 tr (sg sa j14_h0_sign) h0_place j14_h0_size h0_value ss sp szs sv h0_length h0_at tr tx tr_length tx ctx gtx) H ∧ va_D A (wz_104 h0 tr (sg sa j14_h0_sign) h0_place j14_h0_size h0_value ss sp szs sv h0_length h0_at tr tx tr_length tx ctx gtx) ∧ va_S A s.heap H locs ∧ lv_has ls 2 [(0, .ref h0), (1, .int j14_l1)]) (fun u => match u with | (j14_l1, j14_h0_sign, j14_h0_size) => (55 - j14_l1.toInt).toNat) ?_ (0, 1, 0) ⟨by (try dsimp only) <;> (first | (apply Int.le_antisymm <;> omega) | omega), (by decide : 1 < 55), by (try dsimp only) <;> (first | (apply Int.le_antisymm <;> omega) | omega), by (try dsimp only) <;> (first | (apply Int.le_antisymm <;> omega) | omega), hP, hD, hS, lv_sub hl [1, 0] rfl⟩
  intro N14 ih14 u H locs ls hN14 hI
  obtain ⟨j14_l1, j14_h0_sign, j14_h0_size⟩ := u
  obtain ⟨b_j14_l1, b_j14_h0_sign, b_j14_h0_size, u1, hP, hD, hS, hl⟩ := hI
  have hN14 : (55 - j14_l1.toInt).toNat < N14 + 1 := hN14
  refine lv_iload_n hx hb d_SC_readMark_14 rfl (lv_at hl 1 rfl) ?_
  refine va_getsN (C := "WaferForge") (n := "SIGNS") (d := "[LWaferForge$Sign;") (v := .ref ((sa 1))) hx hb (hSW.2.1.1) hS hown (sw_nf (k := 0) hSW rfl) (fun _ h9 => h9) d_SC_readMark_15 ?_
  refine va_tlen (v := 55) hx hb (hSW.2.1.2) hS rfl d_SC_readMark_18 ?_
  have k918 : (55 : Int32).toInt = 55 := by decide
  refine lv_icmp_ge (tgt := 91) hx hb d_SC_readMark_19 (by decide) (fun c19 => ?_) (fun c19 => ?_)
  · have q19 := leI c19
    have hP9 := hP.sb (wq := (wz_104 h0 tr (sg sa j14_h0_sign) h0_place j14_h0_size h0_value ss sp szs sv h0_length h0_at tr tx tr_length tx ctx gtx)) [0, 1, 2] rfl
    have hD9 := hD.sb (wq := (wz_104 h0 tr (sg sa j14_h0_sign) h0_place j14_h0_size h0_value ss sp szs sv h0_length h0_at tr tx tr_length tx ctx gtx)) [0, 1, 2] (by decide) rfl
    exact W.vret hx hb hr (fun t ht hW => ⟨⟨(j14_h0_sign, j14_h0_size), rfl, ⟨b_j14_h0_sign, b_j14_h0_size, u1⟩, va_P.he ht.symm hP9, va_K.moved hW.alike hK, hD9⟩, hS.F ht⟩) hS.2.2 d_SC_readMark_91
  · have q19 := nleI c19
    refine va_getsN (C := "WaferForge") (n := "SIGNS") (d := "[LWaferForge$Sign;") (v := .ref ((sa 1))) hx hb (hSW.2.1.1) hS hown (sw_nf (k := 0) hSW rfl) (fun _ h9 => h9) d_SC_readMark_22 ?_
    refine lv_iload_n hx hb d_SC_readMark_25 rfl (lv_at hl 1 rfl) ?_
    have g26 : vp_in j14_l1 55 := vp_in_iff.mpr ⟨by (first | (apply Int.le_antisymm <;> omega) | omega), by (first | (apply Int.le_antisymm <;> omega) | omega)⟩
    obtain ⟨k2, ek2⟩ : ∃ z : Nat, z = j14_l1.toNatClampNeg := ⟨_, rfl⟩
    have hk2 : k2 < 55 := by have z := i32_clamp (x := j14_l1) (by (first | (apply Int.le_antisymm <;> omega) | omega)); (first | (apply Int.le_antisymm <;> omega) | omega)
    refine vb_tq (v := .ref (sg sa k2)) hx hb (hSW.2.1.2) hS g26 (by rw [ek2]) d_SC_readMark_26 ?_
    refine va_getX (i := k2) hx hb hSW.2.2.2.2.1 hk2 hS hown (hts _ kF_SC_105) (fun _ h9 => h9) d_SC_readMark_27 ?_
    have hPc := hP.sb (wq := []) [] rfl
    have hDc := hD.sb (wq := []) [] (by decide) rfl
    have hKc := hK.sb (tyq := []) [] rfl
    have hFc := va_free (wc := []) hD hS hA [] rfl
    refine va_calli (va_runV (As := []) (rest := []) ⟨hx, hb, hml, hown, hts⟩ (c_JS_length l dC dI H.size sa ((sa (200 + k2))) ((sa (300 + k2))) ((sgB.getD k2 [])) (by have z := (sgB_len k2 hk2).1; (first | (apply Int.le_antisymm <;> omega) | omega))) (cwV 0 hts (gV kM_SC_108 kV_JS_length kS_JS_length kI_JS kC_JS_length) rfl rfl rfl (by decide +kernel) ⟨Nat.le_of_ble_eq_true rfl, Nat.le_of_ble_eq_true rfl⟩) ⟨fun a U g mk z => by obtain ⟨z0, z1, zP, zK, zD, zS, zR0⟩ := z; exact ⟨z0, z1, zP, va_K.moved (u := U) (U := U.calling g mk a) (Vm.Alike.refl U.vm) zK, zD, sw.same (u := U) (U := U.calling g mk a) rfl zS, zR0.moved (u := U) (U := U.calling g mk a) (Vm.Alike.refl U.vm)⟩, so_recv ((hSW.2.2.2.2.2.1 k2 hk2).1) hS, fun U hU hW => ⟨rfl, by rw [hU], va_P.he hU.symm hPc, va_K.moved hW.alike hKc, hDc.weaken (fun _ _ _ _ => trivial), hSW.call hS hFc hW hU, ((hSW.2.2.2.2.2.1 k2 hk2)).call hS hFc hW hU⟩⟩ rfl rfl hl.1 rfl (lv_room (Nat.le_of_ble_eq_true rfl)) d_SC_readMark_30 ⟨(Nat.zero_le _), (Nat.zero_le _)⟩) hS (fun q _ h => hFc q h) hFc (fun r3 u t H1 locs ht hvm hw hB hz1 hk1 hS => ?_)
    try dsimp only at hw
    have xr3 := hw
    try clear hw
    obtain ⟨hP1, hK1, hD1⟩ := hB
    replace hP1 := va_P.he ht hP1
    obtain ⟨hP, hD⟩ := va_join (wr := (wz_104 h0 tr (sg sa j14_h0_sign) h0_place j14_h0_size h0_value ss sp szs sv h0_length h0_at tr tx tr_length tx ctx gtx)) (w1 := []) hP hD [] [0, 1, 2] rfl rfl (by decide) (by decide) hk1 hFc hP1 hD1
    clear hPc hDc hKc hFc hz1 hk1 hP1 hK1 hD1
    rename Heap => H
    have hP : va_P (dC, dI) cls (wz_104 h0 tr (sg sa j14_h0_sign) h0_place j14_h0_size h0_value ss sp szs sv h0_length h0_at tr tx tr_length tx ctx gtx) H := hP
    have hD : va_D A (wz_104 h0 tr (sg sa j14_h0_sign) h0_place j14_h0_size h0_value ss sp szs sv h0_length h0_at tr tx tr_length tx ctx gtx) := hD
    refine lv_aload_n hx hb d_SC_readMark_33 rfl (lv_at hl 0 rfl) ?_
    refine va_get (D := (dC, dI)) (ci := 8) (v := .int j14_h0_size) (C := R_SC) (T := F_SC) (N := 11) hx hb hts i_SC hown hK hP 0 rfl rfl 3 (by decide) (hts _ kF_SC_43) (fun _ h9 => h9) rfl d_SC_readMark_34 ?_
    refine w_cut (pc2 := 85) (σ := Nat × Int32) (fun u H locs ls => match u with | (j85_h0_sign, j85_h0_size) => (j85_h0_sign < 55) ∧ (0 ≤ j85_h0_size.toInt ∧ j85_h0_size.toInt ≤ 2000) ∧ ((j85_h0_sign = 1 ∧ j85_h0_size.toInt = 0) ∨ (5 ≤ j85_h0_sign ∧ j85_h0_size.toInt = (sgB.getD j85_h0_sign []).length ∧ h0_place.toInt + j85_h0_size.toInt ≤ tr_length.toInt)) ∧ va_P (dC, dI) cls (wz_104 h0 tr (sg sa j85_h0_sign) h0_place j85_h0_size h0_value ss sp szs sv h0_length h0_at tr tx tr_length tx ctx gtx) H ∧ va_D A (wz_104 h0 tr (sg sa j85_h0_sign) h0_place j85_h0_size h0_value ss sp szs sv h0_length h0_at tr tx tr_length tx ctx gtx) ∧ va_S A s.heap H locs ∧ lv_has ls 2 [(0, .ref h0), (1, .int j14_l1)]) (fun u => match u with | (j85_h0_sign, j85_h0_size) => []) ?_ (fun jn85 => ?_)
    · intro u H locs ls hI
      obtain ⟨j85_h0_sign, j85_h0_size⟩ := u
      obtain ⟨b_j85_h0_sign, b_j85_h0_size, u2, hP, hD, hS, hl⟩ := hI
      obtain ⟨x4, ex4⟩ : ∃ z : Int32, z = j14_l1 + 1 := ⟨_, rfl⟩
      have tx4 : x4.toInt = j14_l1.toInt + 1 := by have z := i32_add ex4 (by (first | (apply Int.le_antisymm <;> omega) | omega)) (by (first | (apply Int.le_antisymm <;> omega) | omega)); first | exact z | (first | (apply Int.le_antisymm <;> omega) | omega)
      refine lv_iinc (v := x4) (lv' := [(1, .int x4), (0, .ref h0)]) hx hb d_SC_readMark_85 hl (k := 1) rfl (by rw [ex4]; rfl) (by decide) rfl (fun ls hl => ?_)
      refine lv_goto (tgt := 14) hx hb d_SC_readMark_88 (by decide) ?_
      exact ih14 (x4, j85_h0_sign, j85_h0_size) _ _ _ (by show (55 - x4.toInt).toNat < N14; (first | (apply Int.le_antisymm <;> omega) | omega)) ⟨by (try dsimp only) <;> (first | (apply Int.le_antisymm <;> omega) | omega), b_j85_h0_sign, b_j85_h0_size, u2, hP, hD, hS, lv_sub hl [1, 0] rfl⟩
    · skip
      refine lv_icmp_le (tgt := 85) hx hb d_SC_readMark_37 (by decide) (fun c37 => ?_) (fun c37 => ?_)
      · have q37 := leI c37
        exact jn85 (j14_h0_sign, j14_h0_size) _ _ _ ⟨b_j14_h0_sign, b_j14_h0_size, u1, hP, hD, hS, lv_sub hl [0, 1] rfl⟩
      · have q37 := nleI c37
        refine lv_aload_n hx hb d_SC_readMark_40 rfl (lv_at hl 0 rfl) ?_
        refine va_get (D := (dC, dI)) (ci := 8) (v := .ref tr) (C := R_SC) (T := F_SC) (N := 11) hx hb hts i_SC hown hK hP 0 rfl rfl 0 (by decide) (hts _ kF_SC_35) (fun _ h9 => h9) rfl d_SC_readMark_41 ?_
        refine lv_aload_n hx hb d_SC_readMark_44 rfl (lv_at hl 0 rfl) ?_
        refine va_get (D := (dC, dI)) (ci := 8) (v := .int h0_place) (C := R_SC) (T := F_SC) (N := 11) hx hb hts i_SC hown hK hP 0 rfl rfl 2 (by decide) (hts _ kF_SC_39) (fun _ h9 => h9) rfl d_SC_readMark_45 ?_
        refine va_getsN (C := "WaferForge") (n := "SIGNS") (d := "[LWaferForge$Sign;") (v := .ref ((sa 1))) hx hb (hSW.2.1.1) hS hown (sw_nf (k := 0) hSW rfl) (fun _ h9 => h9) d_SC_readMark_48 ?_
        refine lv_iload_n hx hb d_SC_readMark_51 rfl (lv_at hl 1 rfl) ?_
        have g52 : vp_in j14_l1 55 := vp_in_iff.mpr ⟨by (first | (apply Int.le_antisymm <;> omega) | omega), by (first | (apply Int.le_antisymm <;> omega) | omega)⟩
        obtain ⟨k6, ek6⟩ : ∃ z : Nat, z = j14_l1.toNatClampNeg := ⟨_, rfl⟩
        have hk6 : k6 < 55 := by have z := i32_clamp (x := j14_l1) (by (first | (apply Int.le_antisymm <;> omega) | omega)); (first | (apply Int.le_antisymm <;> omega) | omega)
        refine vb_tq (v := .ref (sg sa k6)) hx hb (hSW.2.1.2) hS g52 (by rw [ek6]) d_SC_readMark_52 ?_
        refine va_getX (i := k6) hx hb hSW.2.2.2.2.1 hk6 hS hown (hts _ kF_SC_105) (fun _ h9 => h9) d_SC_readMark_53 ?_
        have hPc := hP.sb (wq := [(tr, .inr (1, [.ref tx, .int tr_length])), (tx, .inl (ctx, 2000, .inl gtx))]) [1, 2] rfl
        have hDc := hD.sb (wq := [(tr, .inr (1, [.ref tx, .int tr_length])), (tx, .inl (ctx, 2000, .inl gtx))]) [1, 2] (by decide) rfl
        have hKc := hK.sb (tyq := [(ctx, .byte)]) [0] rfl
        have hFc := va_free (wc := [(tr, .inr (1, [.ref tx, .int tr_length])), (tx, .inl (ctx, 2000, .inl gtx))]) hD hS hA [1, 2] rfl
        refine va_calli (va_runV (As := [.int h0_place, .ref (sa (200 + k6))]) (rest := []) ⟨hx, hb, hml, hown, hts⟩ (c_BR_holds l dC dI H.size sa ((sa (200 + k6))) ((sa (300 + k6))) ((sgB.getD k6 [])) tr tx ctx tr_length 2000 gtx h0_place (by (first | (apply Int.le_antisymm <;> omega) | omega)) (by have z := (sgB_len k6 hk6).1; (first | (apply Int.le_antisymm <;> omega) | omega)) (by (first | (apply Int.le_antisymm <;> omega) | omega))) (cwV 2 hts (gV kM_SC_113 kV_BR_holds kS_BR_holds kI_BR kC_BR_holds) rfl rfl rfl (by decide +kernel) ⟨Nat.le_of_ble_eq_true rfl, Nat.le_of_ble_eq_true rfl⟩) ⟨fun a U g mk z => by obtain ⟨z0, z1, zP, zK, zD, zS, zR0⟩ := z; exact ⟨z0, z1, zP, va_K.moved (u := U) (U := U.calling g mk a) (Vm.Alike.refl U.vm) zK, zD, sw.same (u := U) (U := U.calling g mk a) rfl zS, zR0.moved (u := U) (U := U.calling g mk a) (Vm.Alike.refl U.vm)⟩, va_recv hKc hPc (ci := 1) (q0 := 0) rfl rfl, fun U hU hW => ⟨rfl, by rw [hU], va_P.he hU.symm hPc, va_K.moved hW.alike hKc, hDc.weaken (fun _ _ _ _ => trivial), hSW.call hS hFc hW hU, ((hSW.2.2.2.2.2.1 k6 hk6)).call hS hFc hW hU⟩⟩ rfl rfl hl.1 rfl (lv_room (Nat.le_of_ble_eq_true rfl)) d_SC_readMark_56 ⟨(Nat.zero_le _), (Nat.zero_le _)⟩) hS (fun q _ h => hFc q h) hFc (fun r7 u t H1 locs ht hvm hw hB hz1 hk1 hS => ?_)
        try dsimp only at hw
        obtain ⟨br7, xr7⟩ := hw
        try clear hw
        have tr7 := b01 br7
        obtain ⟨hP1, hK1, hD1⟩ := hB
        replace hP1 := va_P.he ht hP1
        obtain ⟨hP, hD⟩ := va_join (wr := (wz_105 h0 tr (sg sa j14_h0_sign) h0_place j14_h0_size h0_value ss sp szs sv h0_length h0_at)) (w1 := [(tr, .inr (1, [.ref tx, .int tr_length])), (tx, .inl (ctx, 2000, .inl gtx))]) hP hD [1, 2] [0] rfl rfl (by decide) (by decide) hk1 hFc hP1 hD1
        clear hPc hDc hKc hFc hz1 hk1 hP1 hK1 hD1
        rename Heap => H
        have hP : va_P (dC, dI) cls (wz_104 h0 tr (sg sa j14_h0_sign) h0_place j14_h0_size h0_value ss sp szs sv h0_length h0_at tr tx tr_length tx ctx gtx) H := hP
        have hD : va_D A (wz_104 h0 tr (sg sa j14_h0_sign) h0_place j14_h0_size h0_value ss sp szs sv h0_length h0_at tr tx tr_length tx ctx gtx) := hD
        refine lv_if_eq (tgt := 85) hx hb d_SC_readMark_59 (by decide) (fun c59 => ?_) (fun c59 => ?_)
        · have q59 := eqI c59
          exact jn85 (j14_h0_sign, j14_h0_size) _ _ _ ⟨b_j14_h0_sign, b_j14_h0_size, u1, hP, hD, hS, lv_sub hl [0, 1] rfl⟩
        · have q59 := neI c59
          have y56 := xr7 (by have z := br7; rcases z with z | z; (exfalso; rw [z] at q59; exact q59 rfl); exact z)
          refine lv_aload_n hx hb d_SC_readMark_62 rfl (lv_at hl 0 rfl) ?_
          refine va_getsN (C := "WaferForge") (n := "SIGNS") (d := "[LWaferForge$Sign;") (v := .ref ((sa 1))) hx hb (hSW.2.1.1) hS hown (sw_nf (k := 0) hSW rfl) (fun _ h9 => h9) d_SC_readMark_63 ?_
          refine lv_iload_n hx hb d_SC_readMark_66 rfl (lv_at hl 1 rfl) ?_
          have g67 : vp_in j14_l1 55 := vp_in_iff.mpr ⟨by (first | (apply Int.le_antisymm <;> omega) | omega), by (first | (apply Int.le_antisymm <;> omega) | omega)⟩
          obtain ⟨k9, ek9⟩ : ∃ z : Nat, z = j14_l1.toNatClampNeg := ⟨_, rfl⟩
          have hk9 : k9 < 55 := by have z := i32_clamp (x := j14_l1) (by (first | (apply Int.le_antisymm <;> omega) | omega)); (first | (apply Int.le_antisymm <;> omega) | omega)
          refine vb_tq (v := .ref (sg sa k9)) hx hb (hSW.2.1.2) hS g67 (by rw [ek9]) d_SC_readMark_67 ?_
          refine va_put (D := (dC, dI)) (ci := 8) (v := .ref (sg sa k9)) (ty := .object "WaferForge$Sign") (C := R_SC) (T := F_SC) (N := 11) hx hb hts i_SC t_SC t_SC_ok n_SC hown hK hP hD hS 0 rfl rfl 1 (by decide) (hts _ kF_SC_15) (fun _ h9 => h9) rfl (by decide +kernel) rfl rfl (Nat.le_of_ble_eq_true rfl) d_SC_readMark_68 (fun H locs hP hD hS => ?_)
          refine lv_aload_n hx hb d_SC_readMark_71 rfl (lv_at hl 0 rfl) ?_
          refine lv_aload_n hx hb d_SC_readMark_72 rfl (lv_at hl 0 rfl) ?_
          refine va_get (D := (dC, dI)) (ci := 8) (v := .ref (sg sa k9)) (C := R_SC) (T := F_SC) (N := 11) hx hb hts i_SC hown hK hP 0 rfl rfl 1 (by decide) (hts _ kF_SC_15) (fun _ h9 => h9) rfl d_SC_readMark_73 ?_
          refine va_getX (i := k9) hx hb hSW.2.2.2.2.1 hk9 hS hown (hts _ kF_SC_105) (fun _ h9 => h9) d_SC_readMark_76 ?_
          have hPc := hP.sb (wq := []) [] rfl
          have hDc := hD.sb (wq := []) [] (by decide) rfl
          have hKc := hK.sb (tyq := []) [] rfl
          have hFc := va_free (wc := []) hD hS hA [] rfl
          refine va_calli (va_runV (As := []) (rest := [.ref h0]) ⟨hx, hb, hml, hown, hts⟩ (c_JS_length l dC dI H.size sa ((sa (200 + k9))) ((sa (300 + k9))) ((sgB.getD k9 [])) (by have z := (sgB_len k9 hk9).1; (first | (apply Int.le_antisymm <;> omega) | omega))) (cwV 0 hts (gV kM_SC_108 kV_JS_length kS_JS_length kI_JS kC_JS_length) rfl rfl rfl (by decide +kernel) ⟨Nat.le_of_ble_eq_true rfl, Nat.le_of_ble_eq_true rfl⟩) ⟨fun a U g mk z => by obtain ⟨z0, z1, zP, zK, zD, zS, zR0⟩ := z; exact ⟨z0, z1, zP, va_K.moved (u := U) (U := U.calling g mk a) (Vm.Alike.refl U.vm) zK, zD, sw.same (u := U) (U := U.calling g mk a) rfl zS, zR0.moved (u := U) (U := U.calling g mk a) (Vm.Alike.refl U.vm)⟩, so_recv ((hSW.2.2.2.2.2.1 k9 hk9).1) hS, fun U hU hW => ⟨rfl, by rw [hU], va_P.he hU.symm hPc, va_K.moved hW.alike hKc, hDc.weaken (fun _ _ _ _ => trivial), hSW.call hS hFc hW hU, ((hSW.2.2.2.2.2.1 k9 hk9)).call hS hFc hW hU⟩⟩ rfl rfl hl.1 rfl (lv_room (Nat.le_of_ble_eq_true rfl)) d_SC_readMark_79 ⟨(Nat.zero_le _), (Nat.zero_le _)⟩) hS (fun q _ h => hFc q h) hFc (fun r10 u t H1 locs ht hvm hw hB hz1 hk1 hS => ?_)
          try dsimp only at hw
          have xr10 := hw
          try clear hw
          obtain ⟨hP1, hK1, hD1⟩ := hB
          replace hP1 := va_P.he ht hP1
          obtain ⟨hP, hD⟩ := va_join (wr := (wz_104 h0 tr (sg sa k9) h0_place j14_h0_size h0_value ss sp szs sv h0_length h0_at tr tx tr_length tx ctx gtx)) (w1 := []) hP hD [] [0, 1, 2] rfl rfl (by decide) (by decide) hk1 hFc hP1 hD1
          clear hPc hDc hKc hFc hz1 hk1 hP1 hK1 hD1
          rename Heap => H
          have hP : va_P (dC, dI) cls (wz_104 h0 tr (sg sa k9) h0_place j14_h0_size h0_value ss sp szs sv h0_length h0_at tr tx tr_length tx ctx gtx) H := hP
          have hD : va_D A (wz_104 h0 tr (sg sa k9) h0_place j14_h0_size h0_value ss sp szs sv h0_length h0_at tr tx tr_length tx ctx gtx) := hD
          refine va_put (D := (dC, dI)) (ci := 8) (v := .int r10) (ty := .int) (C := R_SC) (T := F_SC) (N := 11) hx hb hts i_SC t_SC t_SC_ok n_SC hown hK hP hD hS 0 rfl rfl 3 (by decide) (hts _ kF_SC_43) (fun _ h9 => h9) rfl (by decide +kernel) rfl rfl (Nat.le_of_ble_eq_true rfl) d_SC_readMark_82 (fun H locs hP hD hS => ?_)
          have q5 : k9 = k2 := by rw [ek9, ek2]
          have q7 : k6 = k2 := by rw [ek6, ek2]
          have q6 := sgB_len k2 hk2
          rw [q7] at y56
          rw [q5] at xr10
          have u9 : (k9 = 1 ∧ r10.toInt = 0) ∨ (5 ≤ k9 ∧ r10.toInt = (sgB.getD k9 []).length ∧ h0_place.toInt + r10.toInt ≤ tr_length.toInt) := Or.inr (by rw [q5]; exact ⟨by (first | (apply Int.le_antisymm <;> omega) | omega), by (first | (apply Int.le_antisymm <;> omega) | omega), by (first | (apply Int.le_antisymm <;> omega) | omega)⟩)
          exact jn85 (k9, r10) _ _ _ ⟨hk9, by (try dsimp only) <;> (first | (apply Int.le_antisymm <;> omega) | omega), u9, hP, hD, hS, lv_sub hl [0, 1] rfl⟩
end q_38
