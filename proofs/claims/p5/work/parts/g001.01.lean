/-- the words that every contract asks: those of the tables that stay true under warmer tables -/
def lw_g : List Cond := lw_tbl.filter goodWord
theorem in_g {w : Cond} (i : Nat) (h : tables_1[i]? = some w) (hg : goodWord w = true) : w ∈ lw_g := List.mem_filter.mpr ⟨List.mem_append_right _ (List.mem_of_getElem? h), hg⟩
theorem in_c1 {w : Cond} (i : Nat) (h : tables_1_1[i]? = some w) (hg : goodWord w = true) : w ∈ lw_g := List.mem_filter.mpr ⟨List.mem_append_right _ (mt_c1 i h), hg⟩
theorem in_c2 {w : Cond} (i : Nat) (h : tables_1_2[i]? = some w) (hg : goodWord w = true) : w ∈ lw_g := List.mem_filter.mpr ⟨List.mem_append_right _ (mt_c2 i h), hg⟩
theorem in_c3 {w : Cond} (i : Nat) (h : tables_1_3[i]? = some w) (hg : goodWord w = true) : w ∈ lw_g := List.mem_filter.mpr ⟨List.mem_append_right _ (mt_c3 i h), hg⟩
theorem in_c4 {w : Cond} (i : Nat) (h : tables_1_4[i]? = some w) (hg : goodWord w = true) : w ∈ lw_g := List.mem_filter.mpr ⟨List.mem_append_right _ (mt_c4 i h), hg⟩
theorem in_c5 {w : Cond} (i : Nat) (h : tables_1_5[i]? = some w) (hg : goodWord w = true) : w ∈ lw_g := List.mem_filter.mpr ⟨List.mem_append_right _ (mt_c5 i h), hg⟩
theorem in_c6 {w : Cond} (i : Nat) (h : tables_1_6[i]? = some w) (hg : goodWord w = true) : w ∈ lw_g := List.mem_filter.mpr ⟨List.mem_append_right _ (mt_c6 i h), hg⟩
theorem in_c7 {w : Cond} (i : Nat) (h : tables_1_7[i]? = some w) (hg : goodWord w = true) : w ∈ lw_g := List.mem_filter.mpr ⟨List.mem_append_right _ (mt_c7 i h), hg⟩
theorem in_c8 {w : Cond} (i : Nat) (h : tables_1_8[i]? = some w) (hg : goodWord w = true) : w ∈ lw_g := List.mem_filter.mpr ⟨List.mem_append_right _ (mt_c8 i h), hg⟩
theorem in_c9 {w : Cond} (i : Nat) (h : tables_1_9[i]? = some w) (hg : goodWord w = true) : w ∈ lw_g := List.mem_filter.mpr ⟨List.mem_append_right _ (mt_c9 i h), hg⟩
theorem in_c10 {w : Cond} (i : Nat) (h : tables_1_10[i]? = some w) (hg : goodWord w = true) : w ∈ lw_g := List.mem_filter.mpr ⟨List.mem_append_right _ (mt_c10 i h), hg⟩
theorem in_c11 {w : Cond} (i : Nat) (h : tables_1_11[i]? = some w) (hg : goodWord w = true) : w ∈ lw_g := List.mem_filter.mpr ⟨List.mem_append_right _ (mt_c11 i h), hg⟩
theorem in_c12 {w : Cond} (i : Nat) (h : tables_1_12[i]? = some w) (hg : goodWord w = true) : w ∈ lw_g := List.mem_filter.mpr ⟨List.mem_append_right _ (mt_c12 i h), hg⟩
theorem in_c13 {w : Cond} (i : Nat) (h : tables_1_13[i]? = some w) (hg : goodWord w = true) : w ∈ lw_g := List.mem_filter.mpr ⟨List.mem_append_right _ (mt_c13 i h), hg⟩
theorem in_c14 {w : Cond} (i : Nat) (h : tables_1_14[i]? = some w) (hg : goodWord w = true) : w ∈ lw_g := List.mem_filter.mpr ⟨List.mem_append_right _ (mt_c14 i h), hg⟩
theorem in_s {w : Cond} (i : Nat) (h : (k2_sels lw_privs)[i]? = some w) (hg : goodWord w = true) : w ∈ lw_g := List.mem_filter.mpr ⟨List.mem_append_left _ (List.mem_of_getElem? h), hg⟩
theorem in_gs {ws : List Cond} (ps : List Nat) (hp : ws = ps.filterMap (fun i => tables_1[i]?)) (hg : ws.all goodWord = true) : ∀ w ∈ ws, w ∈ lw_g := fun w hw => by
  have h1 := List.all_eq_true.mp hg w hw
  rw [hp] at hw
  obtain ⟨i, -, hi⟩ := List.mem_filterMap.mp hw
  exact in_g i hi h1
theorem g_all {w : Cond} (h : w ∈ lw_g) : goodWord w = true := (List.mem_filter.mp h).2
theorem gW {q : Cond} (hq : q ∈ lw_g) : GoodIn lw_g (q :: lw_g) := fun w h => by
  rcases List.mem_cons.mp h with rfl | h
  · exact ⟨hq, good_of_word (g_all hq)⟩
  · exact ⟨h, good_of_word (g_all h)⟩
theorem gV {own C : String} {idx : Nat} {y : MethodName} {q : Cond} (h1 : Cond.methodLink own idx y ∈ lw_g) (h2 : Cond.instanceMethod y ∈ lw_g) (h3 : Cond.selects C y y ∈ lw_g) (h4 : Cond.initialized C ∈ lw_g) (hq : q ∈ lw_g) : GoodIn lw_g (wsV own idx C y (q :: lw_g)) := fun w h => by
  have h : w ∈ ([.methodLink own idx y, .instanceMethod y, .selects C y y, .initialized C] : List Cond) ++ (q :: lw_g) := h
  rcases List.mem_append.mp h with h | h
  · simp only [List.mem_cons, List.not_mem_nil, or_false] at h
    rcases h with rfl | rfl | rfl | rfl
    · exact ⟨h1, good_of_word (g_all h1)⟩
    · exact ⟨h2, good_of_word (g_all h2)⟩
    · exact ⟨h3, good_of_word (g_all h3)⟩
    · exact ⟨h4, good_of_word (g_all h4)⟩
  · exact gW hq w h
theorem gSt {own : String} {idx : Nat} {y : MethodName} {q : Cond} (h1 : Cond.methodLink own idx y ∈ lw_g) (h2 : Cond.static y ∈ lw_g) (h4 : Cond.initialized own ∈ lw_g) (hq : q ∈ lw_g) : GoodIn lw_g (wsS own idx y (q :: lw_g)) := fun w h => by
  have h : w ∈ ([.methodLink own idx y, .static y, .initialized own] : List Cond) ++ (q :: lw_g) := h
  rcases List.mem_append.mp h with h | h
  · simp only [List.mem_cons, List.not_mem_nil, or_false] at h
    rcases h with rfl | rfl | rfl
    · exact ⟨h1, good_of_word (g_all h1)⟩
    · exact ⟨h2, good_of_word (g_all h2)⟩
    · exact ⟨h4, good_of_word (g_all h4)⟩
  · exact gW hq w h
def R_WF : String := "WaferForge"
def F_WF : u_T := fun k => match k with
  | 0 => ("WaferForge", "tape", "LWaferForge$ByteRow;", true)
  | 1 => ("WaferForge", "result", "LWaferForge$ByteRow;", true)
  | 2 => ("WaferForge", "arguments", "[J", true)
  | 3 => ("WaferForge", "argumentCount", "I", false)
  | 4 => ("WaferForge", "reason", "I", false)
  | 5 => ("WaferForge", "place", "I", false)
  | 6 => ("WaferForge", "loaded", "Z", false)
  | 7 => ("WaferForge", "wafer", "LWaferForge$Wafer;", false)
  | 8 => ("WaferForge", "spare", "LWaferForge$Wafer;", false)
  | 9 => ("WaferForge", "program", "LWaferForge$Program;", true)
  | 10 => ("WaferForge", "coder", "LWaferForge$Coder;", true)
  | 11 => ("WaferForge", "reader", "LWaferForge$Reader;", true)
  | 12 => ("WaferForge", "validator", "LWaferForge$Validator;", true)
  | _ => ("WaferForge", "machine", "LWaferForge$Machine;", true)
def t_WF : Nat → FieldType := fun k => match k with
  | 0 => .object "WaferForge$ByteRow"
  | 1 => .object "WaferForge$ByteRow"
  | 2 => .array .long
  | 3 => .int
  | 4 => .int
  | 5 => .int
  | 6 => .boolean
  | 7 => .object "WaferForge$Wafer"
  | 8 => .object "WaferForge$Wafer"
  | 9 => .object "WaferForge$Program"
  | 10 => .object "WaferForge$Coder"
  | 11 => .object "WaferForge$Reader"
  | 12 => .object "WaferForge$Validator"
  | _ => .object "WaferForge$Machine"
theorem n_WF : ∀ a, a < 14 → ∀ b, b < 14 → a ≠ b → (F_WF a).2.1 ≠ (F_WF b).2.1 := by decide +kernel
theorem t_WF_ok : ∀ k, k < 14 → parseFieldDescriptor (F_WF k).2.2.1 = some (t_WF k) := by decide +kernel
theorem i_WF : ∀ w ∈ u_ws R_WF F_WF 14, w ∈ lw_g := in_gs [610, 612, 614, 616, 618, 620, 622, 624, 626, 628, 630, 632, 634, 636] (by decide +kernel) (by decide +kernel)
theorem kI_WF : Cond.initialized R_WF ∈ lw_g := in_c1 1 rfl rfl
def R_BR : String := "WaferForge$ByteRow"
def F_BR : u_T := fun k => match k with
  | 0 => ("WaferForge$ByteRow", "bytes", "[B", true)
  | _ => ("WaferForge$ByteRow", "length", "I", false)
def t_BR : Nat → FieldType := fun k => match k with
  | 0 => .array .byte
  | _ => .int
theorem n_BR : ∀ a, a < 2 → ∀ b, b < 2 → a ≠ b → (F_BR a).2.1 ≠ (F_BR b).2.1 := by decide +kernel
theorem t_BR_ok : ∀ k, k < 2 → parseFieldDescriptor (F_BR k).2.2.1 = some (t_BR k) := by decide +kernel
theorem i_BR : ∀ w ∈ u_ws R_BR F_BR 2, w ∈ lw_g := in_gs [63, 65] (by decide +kernel) (by decide +kernel)
theorem kI_BR : Cond.initialized R_BR ∈ lw_g := in_c1 2 rfl rfl
def R_CO : String := "WaferForge$Coder"
def F_CO : u_T := fun k => match k with
  | 0 => ("WaferForge$Coder", "program", "LWaferForge$Program;", true)
  | 1 => ("WaferForge$Coder", "known", "LWaferForge$Names;", true)
  | 2 => ("WaferForge$Coder", "localTypes", "[I", true)
  | 3 => ("WaferForge$Coder", "localCount", "I", false)
  | 4 => ("WaferForge$Coder", "pending", "[I", true)
  | 5 => ("WaferForge$Coder", "pendingCount", "I", false)
  | 6 => ("WaferForge$Coder", "gives", "I", false)
  | 7 => ("WaferForge$Coder", "depth", "I", false)
  | 8 => ("WaferForge$Coder", "loopDepth", "I", false)
  | 9 => ("WaferForge$Coder", "typeOf", "[I", true)
  | 10 => ("WaferForge$Coder", "body", "LWaferForge$ByteRow;", true)
  | 11 => ("WaferForge$Coder", "codes", "LWaferForge$ByteRow;", true)
  | _ => ("WaferForge$Coder", "section", "LWaferForge$ByteRow;", true)
def t_CO : Nat → FieldType := fun k => match k with
  | 0 => .object "WaferForge$Program"
  | 1 => .object "WaferForge$Names"
  | 2 => .array .int
  | 3 => .int
  | 4 => .array .int
  | 5 => .int
  | 6 => .int
  | 7 => .int
  | 8 => .int
  | 9 => .array .int
  | 10 => .object "WaferForge$ByteRow"
  | 11 => .object "WaferForge$ByteRow"
  | _ => .object "WaferForge$ByteRow"
theorem n_CO : ∀ a, a < 13 → ∀ b, b < 13 → a ≠ b → (F_CO a).2.1 ≠ (F_CO b).2.1 := by decide +kernel
theorem t_CO_ok : ∀ k, k < 13 → parseFieldDescriptor (F_CO k).2.2.1 = some (t_CO k) := by decide +kernel
theorem i_CO : ∀ w ∈ u_ws R_CO F_CO 13, w ∈ lw_g := in_gs [433, 435, 437, 439, 441, 443, 445, 447, 449, 451, 453, 455, 457] (by decide +kernel) (by decide +kernel)
theorem kI_CO : Cond.initialized R_CO ∈ lw_g := in_c1 10 rfl rfl
def R_CD : String := "WaferForge$Codes"
def F_CD : u_T := fun k => match k with
  | 0 => ("WaferForge$Codes", "firsts", "[I", true)
  | 1 => ("WaferForge$Codes", "localCounts", "[I", true)
  | 2 => ("WaferForge$Codes", "localTypes", "[I", true)
  | 3 => ("WaferForge$Codes", "length", "I", false)
  | 4 => ("WaferForge$Codes", "ops", "[I", true)
  | 5 => ("WaferForge$Codes", "values", "[J", true)
  | 6 => ("WaferForge$Codes", "partners", "[I", true)
  | 7 => ("WaferForge$Codes", "elses", "[I", true)
  | 8 => ("WaferForge$Codes", "labelCount", "I", false)
  | _ => ("WaferForge$Codes", "labels", "[I", true)
def t_CD : Nat → FieldType := fun k => match k with
  | 0 => .array .int
  | 1 => .array .int
  | 2 => .array .int
  | 3 => .int
  | 4 => .array .int
  | 5 => .array .long
  | 6 => .array .int
  | 7 => .array .int
  | 8 => .int
  | _ => .array .int
theorem n_CD : ∀ a, a < 10 → ∀ b, b < 10 → a ≠ b → (F_CD a).2.1 ≠ (F_CD b).2.1 := by decide +kernel
theorem t_CD_ok : ∀ k, k < 10 → parseFieldDescriptor (F_CD k).2.2.1 = some (t_CD k) := by decide +kernel
theorem i_CD : ∀ w ∈ u_ws R_CD F_CD 10, w ∈ lw_g := in_gs [118, 120, 122, 124, 126, 128, 130, 132, 134, 136] (by decide +kernel) (by decide +kernel)
theorem kI_CD : Cond.initialized R_CD ∈ lw_g := in_c1 4 rfl rfl
def R_MA : String := "WaferForge$Machine"
def F_MA : u_T := fun k => match k with
  | 0 => ("WaferForge$Machine", "pages", "I", false)
  | 1 => ("WaferForge$Machine", "steps", "I", false)
  | 2 => ("WaferForge$Machine", "reason", "I", false)
  | 3 => ("WaferForge$Machine", "globals", "[J", true)
  | 4 => ("WaferForge$Machine", "wafer", "LWaferForge$Wafer;", false)
  | 5 => ("WaferForge$Machine", "codes", "LWaferForge$Codes;", false)
  | 6 => ("WaferForge$Machine", "cells", "[J", true)
  | 7 => ("WaferForge$Machine", "stack", "[J", true)
  | 8 => ("WaferForge$Machine", "height", "I", false)
  | 9 => ("WaferForge$Machine", "frameBacks", "[I", true)
  | 10 => ("WaferForge$Machine", "frameBases", "[I", true)
  | 11 => ("WaferForge$Machine", "frameFunctions", "[I", true)
  | 12 => ("WaferForge$Machine", "frameLabels", "[I", true)
  | 13 => ("WaferForge$Machine", "frameCount", "I", false)
  | 14 => ("WaferForge$Machine", "labelBlocks", "[I", true)
  | 15 => ("WaferForge$Machine", "labelHeights", "[I", true)
  | 16 => ("WaferForge$Machine", "labelCount", "I", false)
  | _ => ("WaferForge$Machine", "at", "I", false)
def t_MA : Nat → FieldType := fun k => match k with
  | 0 => .int
  | 1 => .int
  | 2 => .int
  | 3 => .array .long
  | 4 => .object "WaferForge$Wafer"
  | 5 => .object "WaferForge$Codes"
  | 6 => .array .long
  | 7 => .array .long
  | 8 => .int
  | 9 => .array .int
  | 10 => .array .int
  | 11 => .array .int
  | 12 => .array .int
  | 13 => .int
  | 14 => .array .int
  | 15 => .array .int
  | 16 => .int
  | _ => .int
theorem n_MA : ∀ a, a < 18 → ∀ b, b < 18 → a ≠ b → (F_MA a).2.1 ≠ (F_MA b).2.1 := by decide +kernel
theorem t_MA_ok : ∀ k, k < 18 → parseFieldDescriptor (F_MA k).2.2.1 = some (t_MA k) := by decide +kernel
theorem i_MA : ∀ w ∈ u_ws R_MA F_MA 18, w ∈ lw_g := in_gs [559, 561, 563, 565, 567, 569, 571, 573, 575, 577, 579, 581, 583, 585, 587, 589, 591, 593] (by decide +kernel) (by decide +kernel)
theorem kI_MA : Cond.initialized R_MA ∈ lw_g := in_c1 13 rfl rfl
def R_NA : String := "WaferForge$Names"
def F_NA : u_T := fun k => match k with
  | 0 => ("WaferForge$Names", "text", "LWaferForge$ByteRow;", true)
  | 1 => ("WaferForge$Names", "starts", "[I", true)
  | 2 => ("WaferForge$Names", "sizes", "[I", true)
  | 3 => ("WaferForge$Names", "types", "[I", true)
  | 4 => ("WaferForge$Names", "values", "[J", true)
  | _ => ("WaferForge$Names", "length", "I", false)
def t_NA : Nat → FieldType := fun k => match k with
  | 0 => .object "WaferForge$ByteRow"
  | 1 => .array .int
  | 2 => .array .int
  | 3 => .array .int
  | 4 => .array .long
  | _ => .int
theorem n_NA : ∀ a, a < 6 → ∀ b, b < 6 → a ≠ b → (F_NA a).2.1 ≠ (F_NA b).2.1 := by decide +kernel
theorem t_NA_ok : ∀ k, k < 6 → parseFieldDescriptor (F_NA k).2.2.1 = some (t_NA k) := by decide +kernel
theorem i_NA : ∀ w ∈ u_ws R_NA F_NA 6, w ∈ lw_g := in_gs [327, 329, 331, 333, 335, 337] (by decide +kernel) (by decide +kernel)
theorem kI_NA : Cond.initialized R_NA ∈ lw_g := in_c1 9 rfl rfl
def R_PR : String := "WaferForge$Program"
def F_PR : u_T := fun k => match k with
  | 0 => ("WaferForge$Program", "globals", "LWaferForge$Names;", true)
  | 1 => ("WaferForge$Program", "functions", "LWaferForge$Names;", true)
  | 2 => ("WaferForge$Program", "parameters", "LWaferForge$Names;", true)
  | 3 => ("WaferForge$Program", "parameterFirst", "[I", true)
  | 4 => ("WaferForge$Program", "stepFirst", "[I", true)
  | 5 => ("WaferForge$Program", "kinds", "[I", true)
  | 6 => ("WaferForge$Program", "signs", "[LWaferForge$Sign;", true)
  | 7 => ("WaferForge$Program", "places", "[I", true)
  | 8 => ("WaferForge$Program", "sizes", "[I", true)
  | 9 => ("WaferForge$Program", "values", "[J", true)
  | 10 => ("WaferForge$Program", "reason", "I", false)
  | 11 => ("WaferForge$Program", "place", "I", false)
  | 12 => ("WaferForge$Program", "scanner", "LWaferForge$Scanner;", true)
  | 13 => ("WaferForge$Program", "stepCount", "I", false)
  | 14 => ("WaferForge$Program", "open", "I", false)
  | 15 => ("WaferForge$Program", "twoSides", "I", false)
  | 16 => ("WaferForge$Program", "waiting", "[LWaferForge$Sign;", true)
  | 17 => ("WaferForge$Program", "waitingPlaces", "[I", true)
  | _ => ("WaferForge$Program", "waitingCount", "I", false)
def t_PR : Nat → FieldType := fun k => match k with
  | 0 => .object "WaferForge$Names"
  | 1 => .object "WaferForge$Names"
  | 2 => .object "WaferForge$Names"
  | 3 => .array .int
  | 4 => .array .int
  | 5 => .array .int
  | 6 => .array (.object "WaferForge$Sign")
  | 7 => .array .int
  | 8 => .array .int
  | 9 => .array .long
  | 10 => .int
  | 11 => .int
  | 12 => .object "WaferForge$Scanner"
  | 13 => .int
  | 14 => .int
  | 15 => .int
  | 16 => .array (.object "WaferForge$Sign")
  | 17 => .array .int
  | _ => .int
theorem n_PR : ∀ a, a < 19 → ∀ b, b < 19 → a ≠ b → (F_PR a).2.1 ≠ (F_PR b).2.1 := by decide +kernel
theorem t_PR_ok : ∀ k, k < 19 → parseFieldDescriptor (F_PR k).2.2.1 = some (t_PR k) := by decide +kernel
theorem i_PR : ∀ w ∈ u_ws R_PR F_PR 19, w ∈ lw_g := in_gs [371, 373, 375, 377, 379, 381, 383, 385, 387, 389, 391, 393, 395, 397, 399, 401, 403, 405, 407] (by decide +kernel) (by decide +kernel)
theorem kI_PR : Cond.initialized R_PR ∈ lw_g := in_c1 5 rfl rfl
def R_RE : String := "WaferForge$Reader"
def F_RE : u_T := fun k => match k with
  | 0 => ("WaferForge$Reader", "wafer", "LWaferForge$Wafer;", false)
  | 1 => ("WaferForge$Reader", "codes", "LWaferForge$Codes;", false)
  | 2 => ("WaferForge$Reader", "at", "I", false)
  | 3 => ("WaferForge$Reader", "limit", "I", false)
  | 4 => ("WaferForge$Reader", "sound", "Z", false)
  | 5 => ("WaferForge$Reader", "codeCount", "I", false)
  | 6 => ("WaferForge$Reader", "openBlocks", "[I", true)
  | _ => ("WaferForge$Reader", "openCount", "I", false)
def t_RE : Nat → FieldType := fun k => match k with
  | 0 => .object "WaferForge$Wafer"
  | 1 => .object "WaferForge$Codes"
  | 2 => .int
  | 3 => .int
  | 4 => .boolean
  | 5 => .int
  | 6 => .array .int
  | _ => .int
theorem n_RE : ∀ a, a < 8 → ∀ b, b < 8 → a ≠ b → (F_RE a).2.1 ≠ (F_RE b).2.1 := by decide +kernel
theorem t_RE_ok : ∀ k, k < 8 → parseFieldDescriptor (F_RE k).2.2.1 = some (t_RE k) := by decide +kernel
theorem i_RE : ∀ w ∈ u_ws R_RE F_RE 8, w ∈ lw_g := in_gs [474, 476, 478, 480, 482, 484, 486, 488] (by decide +kernel) (by decide +kernel)
theorem kI_RE : Cond.initialized R_RE ∈ lw_g := in_c1 11 rfl rfl
def R_SC : String := "WaferForge$Scanner"
def F_SC : u_T := fun k => match k with
  | 0 => ("WaferForge$Scanner", "text", "LWaferForge$ByteRow;", true)
  | 1 => ("WaferForge$Scanner", "sign", "LWaferForge$Sign;", false)
  | 2 => ("WaferForge$Scanner", "place", "I", false)
  | 3 => ("WaferForge$Scanner", "size", "I", false)
  | 4 => ("WaferForge$Scanner", "value", "J", false)
  | 5 => ("WaferForge$Scanner", "signs", "[LWaferForge$Sign;", true)
  | 6 => ("WaferForge$Scanner", "places", "[I", true)
  | 7 => ("WaferForge$Scanner", "sizes", "[I", true)
  | 8 => ("WaferForge$Scanner", "values", "[J", true)
  | 9 => ("WaferForge$Scanner", "length", "I", false)
  | _ => ("WaferForge$Scanner", "at", "I", false)
def t_SC : Nat → FieldType := fun k => match k with
  | 0 => .object "WaferForge$ByteRow"
  | 1 => .object "WaferForge$Sign"
  | 2 => .int
  | 3 => .int
  | 4 => .long
  | 5 => .array (.object "WaferForge$Sign")
  | 6 => .array .int
  | 7 => .array .int
  | 8 => .array .long
  | 9 => .int
  | _ => .int
theorem n_SC : ∀ a, a < 11 → ∀ b, b < 11 → a ≠ b → (F_SC a).2.1 ≠ (F_SC b).2.1 := by decide +kernel
theorem t_SC_ok : ∀ k, k < 11 → parseFieldDescriptor (F_SC k).2.2.1 = some (t_SC k) := by decide +kernel
theorem i_SC : ∀ w ∈ u_ws R_SC F_SC 11, w ∈ lw_g := in_gs [280, 282, 284, 286, 288, 290, 292, 294, 296, 298, 300] (by decide +kernel) (by decide +kernel)
theorem kI_SC : Cond.initialized R_SC ∈ lw_g := in_c1 6 rfl rfl
def R_VA : String := "WaferForge$Validator"
def F_VA : u_T := fun k => match k with
  | 0 => ("WaferForge$Validator", "wafer", "LWaferForge$Wafer;", false)
  | 1 => ("WaferForge$Validator", "codes", "LWaferForge$Codes;", false)
  | 2 => ("WaferForge$Validator", "sound", "Z", false)
  | 3 => ("WaferForge$Validator", "function", "I", false)
  | 4 => ("WaferForge$Validator", "types", "[I", true)
  | 5 => ("WaferForge$Validator", "height", "I", false)
  | 6 => ("WaferForge$Validator", "blockOps", "[I", true)
  | 7 => ("WaferForge$Validator", "blockGives", "[I", true)
  | 8 => ("WaferForge$Validator", "blockHeights", "[I", true)
  | 9 => ("WaferForge$Validator", "blockDead", "[Z", true)
  | _ => ("WaferForge$Validator", "depth", "I", false)
def t_VA : Nat → FieldType := fun k => match k with
  | 0 => .object "WaferForge$Wafer"
  | 1 => .object "WaferForge$Codes"
  | 2 => .boolean
  | 3 => .int
  | 4 => .array .int
  | 5 => .int
  | 6 => .array .int
  | 7 => .array .int
  | 8 => .array .int
  | 9 => .array .boolean
  | _ => .int
theorem n_VA : ∀ a, a < 11 → ∀ b, b < 11 → a ≠ b → (F_VA a).2.1 ≠ (F_VA b).2.1 := by decide +kernel
theorem t_VA_ok : ∀ k, k < 11 → parseFieldDescriptor (F_VA k).2.2.1 = some (t_VA k) := by decide +kernel
theorem i_VA : ∀ w ∈ u_ws R_VA F_VA 11, w ∈ lw_g := in_gs [508, 510, 512, 514, 516, 518, 520, 522, 524, 526, 528] (by decide +kernel) (by decide +kernel)
theorem kI_VA : Cond.initialized R_VA ∈ lw_g := in_c1 12 rfl rfl
def R_WA : String := "WaferForge$Wafer"
def F_WA : u_T := fun k => match k with
  | 0 => ("WaferForge$Wafer", "bytes", "LWaferForge$ByteRow;", true)
  | 1 => ("WaferForge$Wafer", "codes", "LWaferForge$Codes;", true)
  | 2 => ("WaferForge$Wafer", "typeCount", "I", false)
  | 3 => ("WaferForge$Wafer", "typeTakes", "[I", true)
  | 4 => ("WaferForge$Wafer", "typeParameters", "[I", true)
  | 5 => ("WaferForge$Wafer", "typeGives", "[I", true)
  | 6 => ("WaferForge$Wafer", "functionCount", "I", false)
  | 7 => ("WaferForge$Wafer", "functionType", "[I", true)
  | 8 => ("WaferForge$Wafer", "hasMemory", "Z", false)
  | 9 => ("WaferForge$Wafer", "pagesLeast", "J", false)
  | 10 => ("WaferForge$Wafer", "pagesMost", "J", false)
  | 11 => ("WaferForge$Wafer", "globalCount", "I", false)
  | 12 => ("WaferForge$Wafer", "globalTypes", "[I", true)
  | 13 => ("WaferForge$Wafer", "firstTypes", "[I", true)
  | 14 => ("WaferForge$Wafer", "firstValues", "[J", true)
  | 15 => ("WaferForge$Wafer", "globalChanges", "[Z", true)
  | 16 => ("WaferForge$Wafer", "exportCount", "I", false)
  | 17 => ("WaferForge$Wafer", "exportKinds", "[I", true)
  | 18 => ("WaferForge$Wafer", "exportIndices", "[I", true)
  | 19 => ("WaferForge$Wafer", "exportStarts", "[I", true)
  | _ => ("WaferForge$Wafer", "exportSizes", "[I", true)
def t_WA : Nat → FieldType := fun k => match k with
  | 0 => .object "WaferForge$ByteRow"
  | 1 => .object "WaferForge$Codes"
  | 2 => .int
  | 3 => .array .int
  | 4 => .array .int
  | 5 => .array .int
  | 6 => .int
  | 7 => .array .int
  | 8 => .boolean
  | 9 => .long
  | 10 => .long
  | 11 => .int
  | 12 => .array .int
  | 13 => .array .int
  | 14 => .array .long
  | 15 => .array .boolean
  | 16 => .int
  | 17 => .array .int
  | 18 => .array .int
  | 19 => .array .int
  | _ => .array .int
theorem n_WA : ∀ a, a < 21 → ∀ b, b < 21 → a ≠ b → (F_WA a).2.1 ≠ (F_WA b).2.1 := by decide +kernel
theorem t_WA_ok : ∀ k, k < 21 → parseFieldDescriptor (F_WA k).2.2.1 = some (t_WA k) := by decide +kernel
theorem i_WA : ∀ w ∈ u_ws R_WA F_WA 21, w ∈ lw_g := in_gs [208, 210, 212, 214, 216, 218, 220, 222, 224, 226, 228, 230, 232, 234, 236, 238, 240, 242, 244, 246, 248] (by decide +kernel) (by decide +kernel)
theorem kI_WA : Cond.initialized R_WA ∈ lw_g := in_c1 3 rfl rfl
def R_MD : String := "WaferForgeModel"
def F_MD : u_T := fun k => match k with
  | 0 => ("WaferForgeModel", "refused", "LWaferForgeModel$Refused;", true)
  | 1 => ("WaferForgeModel", "tape", "[B", true)
  | 2 => ("WaferForgeModel", "taped", "I", false)
  | 3 => ("WaferForgeModel", "length", "I", false)
  | 4 => ("WaferForgeModel", "kind", "I", false)
  | 5 => ("WaferForgeModel", "from", "I", false)
  | 6 => ("WaferForgeModel", "to", "I", false)
  | 7 => ("WaferForgeModel", "word", "Ljava/lang/String;", false)
  | 8 => ("WaferForgeModel", "numeral", "J", false)
  | 9 => ("WaferForgeModel", "globalNames", "[Ljava/lang/String;", true)
  | 10 => ("WaferForgeModel", "globalPlaces", "[I", true)
  | 11 => ("WaferForgeModel", "globalTypes", "[I", true)
  | 12 => ("WaferForgeModel", "globalValues", "[J", true)
  | 13 => ("WaferForgeModel", "globalCount", "I", false)
  | 14 => ("WaferForgeModel", "funs", "[LWaferForgeModel$Fun;", true)
  | 15 => ("WaferForgeModel", "funCount", "I", false)
  | 16 => ("WaferForgeModel", "open", "I", false)
  | 17 => ("WaferForgeModel", "signs", "I", false)
  | 18 => ("WaferForgeModel", "levels", "[Ljava/lang/String;", true)
  | 19 => ("WaferForgeModel", "now", "LWaferForgeModel$Fun;", false)
  | 20 => ("WaferForgeModel", "known", "[I", true)
  | 21 => ("WaferForgeModel", "knownCount", "I", false)
  | 22 => ("WaferForgeModel", "loops", "I", false)
  | 23 => ("WaferForgeModel", "made", "[B", true)
  | 24 => ("WaferForgeModel", "madeLength", "I", false)
  | 25 => ("WaferForgeModel", "magic", "[I", true)
  | 26 => ("WaferForgeModel", "smalls", "[I", true)
  | 27 => ("WaferForgeModel", "greats", "[I", true)
  | 28 => ("WaferForgeModel", "module", "LWaferForgeModel$Module;", false)
  | 29 => ("WaferForgeModel", "spare", "LWaferForgeModel$Module;", false)
  | 30 => ("WaferForgeModel", "m", "LWaferForgeModel$Module;", false)
  | 31 => ("WaferForgeModel", "cursor", "I", false)
  | 32 => ("WaferForgeModel", "limit", "I", false)
  | 33 => ("WaferForgeModel", "blocks", "[I", true)
  | 34 => ("WaferForgeModel", "stack", "[I", true)
  | 35 => ("WaferForgeModel", "top", "I", false)
  | 36 => ("WaferForgeModel", "heights", "[I", true)
  | 37 => ("WaferForgeModel", "labels", "[I", true)
  | 38 => ("WaferForgeModel", "outs", "[I", true)
  | 39 => ("WaferForgeModel", "kinds", "[I", true)
  | 40 => ("WaferForgeModel", "lost", "[Z", true)
  | 41 => ("WaferForgeModel", "depth", "I", false)
  | 42 => ("WaferForgeModel", "function", "I", false)
  | 43 => ("WaferForgeModel", "memory", "[B", true)
  | 44 => ("WaferForgeModel", "pages", "I", false)
  | 45 => ("WaferForgeModel", "globals", "[J", true)
  | 46 => ("WaferForgeModel", "values", "[J", true)
  | 47 => ("WaferForgeModel", "valueTop", "I", false)
  | 48 => ("WaferForgeModel", "frameFunction", "[I", true)
  | 49 => ("WaferForgeModel", "frameReturn", "[I", true)
  | 50 => ("WaferForgeModel", "frameBase", "[I", true)
  | 51 => ("WaferForgeModel", "frameLabels", "[I", true)
  | 52 => ("WaferForgeModel", "frames", "I", false)
  | 53 => ("WaferForgeModel", "labelAt", "[I", true)
  | 54 => ("WaferForgeModel", "labelHeight", "[I", true)
  | 55 => ("WaferForgeModel", "labelTop", "I", false)
  | 56 => ("WaferForgeModel", "steps", "I", false)
  | 57 => ("WaferForgeModel", "there", "Z", false)
  | 58 => ("WaferForgeModel", "result", "[B", true)
  | 59 => ("WaferForgeModel", "resultLength", "I", false)
  | 60 => ("WaferForgeModel", "reason", "I", false)
  | 61 => ("WaferForgeModel", "place", "I", false)
  | 62 => ("WaferForgeModel", "arguments", "[J", true)
  | 63 => ("WaferForgeModel", "argumentCount", "I", false)
  | _ => ("WaferForgeModel", "code", "I", false)
def t_MD : Nat → FieldType := fun k => match k with
  | 0 => .object "WaferForgeModel$Refused"
  | 1 => .array .byte
  | 2 => .int
  | 3 => .int
  | 4 => .int
  | 5 => .int
  | 6 => .int
  | 7 => .object "java/lang/String"
  | 8 => .long
  | 9 => .array (.object "java/lang/String")
  | 10 => .array .int
  | 11 => .array .int
  | 12 => .array .long
  | 13 => .int
  | 14 => .array (.object "WaferForgeModel$Fun")
  | 15 => .int
  | 16 => .int
  | 17 => .int
  | 18 => .array (.object "java/lang/String")
  | 19 => .object "WaferForgeModel$Fun"
  | 20 => .array .int
  | 21 => .int
  | 22 => .int
  | 23 => .array .byte
  | 24 => .int
  | 25 => .array .int
  | 26 => .array .int
  | 27 => .array .int
  | 28 => .object "WaferForgeModel$Module"
  | 29 => .object "WaferForgeModel$Module"
  | 30 => .object "WaferForgeModel$Module"
  | 31 => .int
  | 32 => .int
  | 33 => .array .int
  | 34 => .array .int
  | 35 => .int
  | 36 => .array .int
  | 37 => .array .int
  | 38 => .array .int
  | 39 => .array .int
  | 40 => .array .boolean
  | 41 => .int
  | 42 => .int
  | 43 => .array .byte
  | 44 => .int
  | 45 => .array .long
  | 46 => .array .long
  | 47 => .int
  | 48 => .array .int
  | 49 => .array .int
  | 50 => .array .int
  | 51 => .array .int
  | 52 => .int
  | 53 => .array .int
  | 54 => .array .int
  | 55 => .int
  | 56 => .int
  | 57 => .boolean
  | 58 => .array .byte
  | 59 => .int
  | 60 => .int
  | 61 => .int
  | 62 => .array .long
  | 63 => .int
  | _ => .int
theorem n_MD : ∀ a, a < 65 → ∀ b, b < 65 → a ≠ b → (F_MD a).2.1 ≠ (F_MD b).2.1 := by decide +kernel
theorem t_MD_ok : ∀ k, k < 65 → parseFieldDescriptor (F_MD k).2.2.1 = some (t_MD k) := by decide +kernel
theorem i_MD : ∀ w ∈ u_ws R_MD F_MD 65, w ∈ lw_g := in_gs (1966 :: 1968 :: 1970 :: 1972 :: 1974 :: 1976 :: 1978 :: 1980 :: 1982 :: 1984 :: 1986 :: 1988 :: 1990 :: 1992 :: 1994 :: 1996 :: 1998 :: 2000 :: 2002 :: 2004 :: 2006 :: 2008 :: 2010 :: 2012 :: 2014 :: 2016 :: 2018 :: 2020 :: 2022 :: 2024 :: 2026 :: 2028 :: 2030 :: [ 2032, 2034, 2036, 2038, 2040, 2042, 2044, 2046, 2048, 2050, 2052, 2054, 2056, 2058, 2060, 2062, 2064, 2066, 2068, 2070, 2072, 2074, 2076, 2078, 2080, 2082, 2084, 2086, 2088, 2090, 2092, 2094]) (by decide +kernel) (by decide +kernel)
theorem kI_MD : Cond.initialized R_MD ∈ lw_g := in_c1 14 rfl rfl
def R_MM : String := "WaferForgeModel$Module"
def F_MM : u_T := fun k => match k with
  | 0 => ("WaferForgeModel$Module", "bytes", "[B", true)
  | 1 => ("WaferForgeModel$Module", "length", "I", false)
  | 2 => ("WaferForgeModel$Module", "types", "I", false)
  | 3 => ("WaferForgeModel$Module", "parameterCount", "[I", true)
  | 4 => ("WaferForgeModel$Module", "parameterTypes", "[[I", true)
  | 5 => ("WaferForgeModel$Module", "results", "[I", true)
  | 6 => ("WaferForgeModel$Module", "functions", "I", false)
  | 7 => ("WaferForgeModel$Module", "typeOf", "[J", true)
  | 8 => ("WaferForgeModel$Module", "codes", "I", false)
  | 9 => ("WaferForgeModel$Module", "codeAt", "[I", true)
  | 10 => ("WaferForgeModel$Module", "codeEnd", "[I", true)
  | 11 => ("WaferForgeModel$Module", "localCount", "[I", true)
  | 12 => ("WaferForgeModel$Module", "localTypes", "[[I", true)
  | 13 => ("WaferForgeModel$Module", "memories", "I", false)
  | 14 => ("WaferForgeModel$Module", "least", "J", false)
  | 15 => ("WaferForgeModel$Module", "most", "J", false)
  | 16 => ("WaferForgeModel$Module", "hasMost", "Z", false)
  | 17 => ("WaferForgeModel$Module", "globals", "I", false)
  | 18 => ("WaferForgeModel$Module", "globalTypes", "[I", true)
  | 19 => ("WaferForgeModel$Module", "globalKinds", "[I", true)
  | 20 => ("WaferForgeModel$Module", "changes", "[Z", true)
  | 21 => ("WaferForgeModel$Module", "starts", "[J", true)
  | 22 => ("WaferForgeModel$Module", "exports", "I", false)
  | 23 => ("WaferForgeModel$Module", "exportKinds", "[I", true)
  | 24 => ("WaferForgeModel$Module", "exportOf", "[J", true)
  | 25 => ("WaferForgeModel$Module", "nameAt", "[I", true)
  | 26 => ("WaferForgeModel$Module", "nameLength", "[I", true)
  | 27 => ("WaferForgeModel$Module", "endOf", "[I", true)
  | _ => ("WaferForgeModel$Module", "elseOf", "[I", true)
def t_MM : Nat → FieldType := fun k => match k with
  | 0 => .array .byte
  | 1 => .int
  | 2 => .int
  | 3 => .array .int
  | 4 => .array (.array .int)
  | 5 => .array .int
  | 6 => .int
  | 7 => .array .long
  | 8 => .int
  | 9 => .array .int
  | 10 => .array .int
  | 11 => .array .int
  | 12 => .array (.array .int)
  | 13 => .int
  | 14 => .long
  | 15 => .long
  | 16 => .boolean
  | 17 => .int
  | 18 => .array .int
  | 19 => .array .int
  | 20 => .array .boolean
  | 21 => .array .long
  | 22 => .int
  | 23 => .array .int
  | 24 => .array .long
  | 25 => .array .int
  | 26 => .array .int
  | 27 => .array .int
  | _ => .array .int
theorem n_MM : ∀ a, a < 29 → ∀ b, b < 29 → a ≠ b → (F_MM a).2.1 ≠ (F_MM b).2.1 := by decide +kernel
theorem t_MM_ok : ∀ k, k < 29 → parseFieldDescriptor (F_MM k).2.2.1 = some (t_MM k) := by decide +kernel
theorem i_MM : ∀ w ∈ u_ws R_MM F_MM 29, w ∈ lw_g := in_gs [1841, 1843, 1845, 1847, 1849, 1851, 1853, 1855, 1857, 1859, 1861, 1863, 1865, 1867, 1869, 1871, 1873, 1875, 1877, 1879, 1881, 1883, 1885, 1887, 1889, 1891, 1893, 1895, 1897] (by decide +kernel) (by decide +kernel)
theorem kI_MM : Cond.initialized R_MM ∈ lw_g := in_c1 19 rfl rfl
def R_MN : String := "WaferForgeModel$N"
def F_MN : u_T := fun k => match k with
  | 0 => ("WaferForgeModel$N", "op", "I", false)
  | 1 => ("WaferForgeModel$N", "place", "I", false)
  | 2 => ("WaferForgeModel$N", "name", "Ljava/lang/String;", false)
  | 3 => ("WaferForgeModel$N", "value", "J", false)
  | 4 => ("WaferForgeModel$N", "type", "I", false)
  | 5 => ("WaferForgeModel$N", "parts", "[LWaferForgeModel$N;", false)
  | 6 => ("WaferForgeModel$N", "count", "I", false)
  | 7 => ("WaferForgeModel$N", "index", "I", false)
  | _ => ("WaferForgeModel$N", "global", "Z", false)
def t_MN : Nat → FieldType := fun k => match k with
  | 0 => .int
  | 1 => .int
  | 2 => .object "java/lang/String"
  | 3 => .long
  | 4 => .int
  | 5 => .array (.object "WaferForgeModel$N")
  | 6 => .int
  | 7 => .int
  | _ => .boolean
theorem n_MN : ∀ a, a < 9 → ∀ b, b < 9 → a ≠ b → (F_MN a).2.1 ≠ (F_MN b).2.1 := by decide +kernel
theorem t_MN_ok : ∀ k, k < 9 → parseFieldDescriptor (F_MN k).2.2.1 = some (t_MN k) := by decide +kernel
theorem i_MN : ∀ w ∈ u_ws R_MN F_MN 9, w ∈ lw_g := in_gs [2599, 2601, 2603, 2605, 2607, 2609, 2611, 2613, 2615] (by decide +kernel) (by decide +kernel)
theorem kI_MN : Cond.initialized R_MN ∈ lw_g := in_c1 37 rfl rfl
def R_MF : String := "WaferForgeModel$Fun"
def F_MF : u_T := fun k => match k with
  | 0 => ("WaferForgeModel$Fun", "name", "Ljava/lang/String;", false)
  | 1 => ("WaferForgeModel$Fun", "place", "I", false)
  | 2 => ("WaferForgeModel$Fun", "names", "[Ljava/lang/String;", true)
  | 3 => ("WaferForgeModel$Fun", "places", "[I", true)
  | 4 => ("WaferForgeModel$Fun", "types", "[I", true)
  | 5 => ("WaferForgeModel$Fun", "parameters", "I", false)
  | 6 => ("WaferForgeModel$Fun", "locals", "I", false)
  | 7 => ("WaferForgeModel$Fun", "result", "I", false)
  | 8 => ("WaferForgeModel$Fun", "body", "LWaferForgeModel$N;", false)
  | _ => ("WaferForgeModel$Fun", "signature", "I", false)
def t_MF : Nat → FieldType := fun k => match k with
  | 0 => .object "java/lang/String"
  | 1 => .int
  | 2 => .array (.object "java/lang/String")
  | 3 => .array .int
  | 4 => .array .int
  | 5 => .int
  | 6 => .int
  | 7 => .int
  | 8 => .object "WaferForgeModel$N"
  | _ => .int
theorem n_MF : ∀ a, a < 10 → ∀ b, b < 10 → a ≠ b → (F_MF a).2.1 ≠ (F_MF b).2.1 := by decide +kernel
theorem t_MF_ok : ∀ k, k < 10 → parseFieldDescriptor (F_MF k).2.2.1 = some (t_MF k) := by decide +kernel
theorem i_MF : ∀ w ∈ u_ws R_MF F_MF 10, w ∈ lw_g := in_gs [2543, 2545, 2547, 2549, 2551, 2553, 2555, 2557, 2559, 2561] (by decide +kernel) (by decide +kernel)
theorem kI_MF : Cond.initialized R_MF ∈ lw_g := in_c1 36 rfl rfl
/-- the classes whose objects the worlds hold -/
abbrev cls : List vw_C := [(R_WF, F_WF, 14), (R_BR, F_BR, 2), (R_CO, F_CO, 13), (R_CD, F_CD, 10), (R_MA, F_MA, 18), (R_NA, F_NA, 6), (R_PR, F_PR, 19), (R_RE, F_RE, 8), (R_SC, F_SC, 11), (R_VA, F_VA, 11), (R_WA, F_WA, 21), (R_MD, F_MD, 65), (R_MM, F_MM, 29), (R_MN, F_MN, 9), (R_MF, F_MF, 10)]
