/-! ===== BEGIN words of one list among another's, by their places ===== -/
theorem goodIn_r {big : List Cond} (ws : List Cond) (ps : List Nat) (hp : ws = ps.filterMap (fun i => big[i]?)) (h : ws.all goodWord = true) : GoodIn big ws := by
  intro w hw
  have h1 := List.all_eq_true.mp h w hw
  rw [hp] at hw
  obtain ⟨i, -, hi⟩ := List.mem_filterMap.mp hw
  have hm : w ∈ big := by first | exact List.mem_of_getElem? hi | exact List.getElem?_mem hi
  exact ⟨hm, good_of_word h1⟩
theorem goodIn_app {big a b : List Cond} (ha : GoodIn big a) (hb : GoodIn big b) : GoodIn big (a ++ b) := fun w h => (List.mem_append.mp h).elim (ha w) (hb w)
theorem goodIn_ca {big a b : List Cond} {c : Cond} (ha : GoodIn big (c :: a)) (hb : GoodIn big b) : GoodIn big (c :: (a ++ b)) := fun w h => (List.mem_cons.mp h).elim (fun e => ha w (List.mem_cons.mpr (Or.inl e))) (fun h => (List.mem_append.mp h).elim (fun h => ha w (List.mem_cons.mpr (Or.inr h))) (hb w))
theorem goodIn_sub {big ws : List Cond} (hm : ∀ w ∈ ws, w ∈ big) (h : ws.all goodWord = true) : GoodIn big ws := fun w hw => ⟨hm w hw, good_of_word (List.all_eq_true.mp h w hw)⟩
/-! ===== END ===== -/


def zT_C : u_T := fun k => match k with
  | 0 => ("CaseTree", "book", "LCaseTree$Cases;", true)
  | 1 => ("CaseTree", "tree", "LCaseTree$Tree;", true)
  | 2 => ("CaseTree", "path", "LCaseTree$Path;", true)
  | 3 => ("CaseTree", "tester", "LCaseTree$Tester;", true)
  | 4 => ("CaseTree", "grower", "LCaseTree$Grower;", true)
  | 5 => ("CaseTree", "pruner", "LCaseTree$Pruner;", true)
  | 6 => ("CaseTree", "judge", "LCaseTree$Judge;", true)
  | 7 => ("CaseTree", "asked", "[I", true)
  | _ => ("CaseTree", "latest", "[I", true)
def zy_C : Nat → FieldType := fun k => match k with
  | 0 => (.object "CaseTree$Cases")
  | 1 => (.object "CaseTree$Tree")
  | 2 => (.object "CaseTree$Path")
  | 3 => (.object "CaseTree$Tester")
  | 4 => (.object "CaseTree$Grower")
  | 5 => (.object "CaseTree$Pruner")
  | 6 => (.object "CaseTree$Judge")
  | 7 => (.array .int)
  | _ => (.array .int)
theorem zn_C : ∀ a, a < 9 → ∀ b, b < 9 → a ≠ b → (zT_C a).2.1 ≠ (zT_C b).2.1 := by decide +kernel
theorem zy_C_ok : ∀ k, k < 9 → parseFieldDescriptor (zT_C k).2.2.1 = some (zy_C k) := by decide +kernel
def zT_Cs : u_T := fun k => match k with
  | 0 => ("CaseTree$Cases", "kinds", "[I", true)
  | 1 => ("CaseTree$Cases", "types", "[I", true)
  | 2 => ("CaseTree$Cases", "values", "[I", true)
  | 3 => ("CaseTree$Cases", "attributes", "I", false)
  | _ => ("CaseTree$Cases", "count", "I", false)
def zy_Cs : Nat → FieldType := fun k => match k with
  | 0 => (.array .int)
  | 1 => (.array .int)
  | 2 => (.array .int)
  | 3 => .int
  | _ => .int
theorem zn_Cs : ∀ a, a < 5 → ∀ b, b < 5 → a ≠ b → (zT_Cs a).2.1 ≠ (zT_Cs b).2.1 := by decide +kernel
theorem zy_Cs_ok : ∀ k, k < 5 → parseFieldDescriptor (zT_Cs k).2.2.1 = some (zy_Cs k) := by decide +kernel
def zT_Fi : u_T := fun k => match k with
  | 0 => ("CaseTree$Finding", "there", "Z", false)
  | 1 => ("CaseTree$Finding", "threshold", "I", false)
  | 2 => ("CaseTree$Finding", "gain", "J", false)
  | _ => ("CaseTree$Finding", "split", "J", false)
def zy_Fi : Nat → FieldType := fun k => match k with
  | 0 => .boolean
  | 1 => .int
  | 2 => .long
  | _ => .long
theorem zn_Fi : ∀ a, a < 4 → ∀ b, b < 4 → a ≠ b → (zT_Fi a).2.1 ≠ (zT_Fi b).2.1 := by decide +kernel
theorem zy_Fi_ok : ∀ k, k < 4 → parseFieldDescriptor (zT_Fi k).2.2.1 = some (zy_Fi k) := by decide +kernel
def zT_Fo : u_T := fun k => match k with
  | 0 => ("CaseTree$Fork", "parts", "[I", true)
  | 1 => ("CaseTree$Fork", "attribute", "I", false)
  | 2 => ("CaseTree$Fork", "threshold", "I", false)
  | 3 => ("CaseTree$Fork", "branches", "I", false)
  | 4 => ("CaseTree$Fork", "known", "I", false)
  | _ => ("CaseTree$Fork", "heaviest", "I", false)
def zy_Fo : Nat → FieldType := fun k => match k with
  | 0 => (.array .int)
  | 1 => .int
  | 2 => .int
  | 3 => .int
  | 4 => .int
  | _ => .int
theorem zn_Fo : ∀ a, a < 6 → ∀ b, b < 6 → a ≠ b → (zT_Fo a).2.1 ≠ (zT_Fo b).2.1 := by decide +kernel
theorem zy_Fo_ok : ∀ k, k < 6 → parseFieldDescriptor (zT_Fo k).2.2.1 = some (zy_Fo k) := by decide +kernel
def zT_Gr : u_T := fun k => match k with
  | 0 => ("CaseTree$Grower", "book", "LCaseTree$Cases;", true)
  | 1 => ("CaseTree$Grower", "tree", "LCaseTree$Tree;", true)
  | 2 => ("CaseTree$Grower", "path", "LCaseTree$Path;", true)
  | 3 => ("CaseTree$Grower", "tester", "LCaseTree$Tester;", true)
  | _ => ("CaseTree$Grower", "minimum", "I", false)
def zy_Gr : Nat → FieldType := fun k => match k with
  | 0 => (.object "CaseTree$Cases")
  | 1 => (.object "CaseTree$Tree")
  | 2 => (.object "CaseTree$Path")
  | 3 => (.object "CaseTree$Tester")
  | _ => .int
theorem zn_Gr : ∀ a, a < 5 → ∀ b, b < 5 → a ≠ b → (zT_Gr a).2.1 ≠ (zT_Gr b).2.1 := by decide +kernel
theorem zy_Gr_ok : ∀ k, k < 5 → parseFieldDescriptor (zT_Gr k).2.2.1 = some (zy_Gr k) := by decide +kernel
def zT_Ju : u_T := fun k => match k with
  | 0 => ("CaseTree$Judge", "tree", "LCaseTree$Tree;", true)
  | 1 => ("CaseTree$Judge", "path", "LCaseTree$Path;", true)
  | _ => ("CaseTree$Judge", "given", "[I", true)
def zy_Ju : Nat → FieldType := fun k => match k with
  | 0 => (.object "CaseTree$Tree")
  | 1 => (.object "CaseTree$Path")
  | _ => (.array .int)
theorem zn_Ju : ∀ a, a < 3 → ∀ b, b < 3 → a ≠ b → (zT_Ju a).2.1 ≠ (zT_Ju b).2.1 := by decide +kernel
theorem zy_Ju_ok : ∀ k, k < 3 → parseFieldDescriptor (zT_Ju k).2.2.1 = some (zy_Ju k) := by decide +kernel
def zT_Pa : u_T := fun k => match k with
  | 0 => ("CaseTree$Path", "book", "LCaseTree$Cases;", true)
  | 1 => ("CaseTree$Path", "rows", "[[I", true)
  | 2 => ("CaseTree$Path", "forks", "[LCaseTree$Fork;", true)
  | _ => ("CaseTree$Path", "classWeights", "[I", true)
def zy_Pa : Nat → FieldType := fun k => match k with
  | 0 => (.object "CaseTree$Cases")
  | 1 => (.array (.array .int))
  | 2 => (.array (.object "CaseTree$Fork"))
  | _ => (.array .int)
theorem zn_Pa : ∀ a, a < 4 → ∀ b, b < 4 → a ≠ b → (zT_Pa a).2.1 ≠ (zT_Pa b).2.1 := by decide +kernel
theorem zy_Pa_ok : ∀ k, k < 4 → parseFieldDescriptor (zT_Pa k).2.2.1 = some (zy_Pa k) := by decide +kernel
def zT_Pr : u_T := fun k => match k with
  | 0 => ("CaseTree$Pruner", "tree", "LCaseTree$Tree;", true)
  | 1 => ("CaseTree$Pruner", "path", "LCaseTree$Path;", true)
  | _ => ("CaseTree$Pruner", "charge", "I", false)
def zy_Pr : Nat → FieldType := fun k => match k with
  | 0 => (.object "CaseTree$Tree")
  | 1 => (.object "CaseTree$Path")
  | _ => .int
theorem zn_Pr : ∀ a, a < 3 → ∀ b, b < 3 → a ≠ b → (zT_Pr a).2.1 ≠ (zT_Pr b).2.1 := by decide +kernel
theorem zy_Pr_ok : ∀ k, k < 3 → parseFieldDescriptor (zT_Pr k).2.2.1 = some (zy_Pr k) := by decide +kernel
def zT_Te : u_T := fun k => match k with
  | 0 => ("CaseTree$Tester", "book", "LCaseTree$Cases;", true)
  | 1 => ("CaseTree$Tester", "findings", "[LCaseTree$Finding;", true)
  | 2 => ("CaseTree$Tester", "knownWeights", "[I", true)
  | 3 => ("CaseTree$Tester", "branchWeights", "[I", true)
  | _ => ("CaseTree$Tester", "parts", "[I", true)
def zy_Te : Nat → FieldType := fun k => match k with
  | 0 => (.object "CaseTree$Cases")
  | 1 => (.array (.object "CaseTree$Finding"))
  | 2 => (.array .int)
  | 3 => (.array .int)
  | _ => (.array .int)
theorem zn_Te : ∀ a, a < 5 → ∀ b, b < 5 → a ≠ b → (zT_Te a).2.1 ≠ (zT_Te b).2.1 := by decide +kernel
theorem zy_Te_ok : ∀ k, k < 5 → parseFieldDescriptor (zT_Te k).2.2.1 = some (zy_Te k) := by decide +kernel
def zT_Tr : u_T := fun k => match k with
  | 0 => ("CaseTree$Tree", "attributes", "[I", true)
  | 1 => ("CaseTree$Tree", "thresholds", "[I", true)
  | 2 => ("CaseTree$Tree", "branches", "[I", true)
  | 3 => ("CaseTree$Tree", "types", "[I", true)
  | 4 => ("CaseTree$Tree", "weights", "[I", true)
  | 5 => ("CaseTree$Tree", "parts", "[I", true)
  | 6 => ("CaseTree$Tree", "children", "[I", true)
  | 7 => ("CaseTree$Tree", "order", "[I", true)
  | 8 => ("CaseTree$Tree", "numbers", "[I", true)
  | 9 => ("CaseTree$Tree", "made", "I", false)
  | 10 => ("CaseTree$Tree", "size", "I", false)
  | _ => ("CaseTree$Tree", "count", "I", false)
def zy_Tr : Nat → FieldType := fun k => match k with
  | 0 => (.array .int)
  | 1 => (.array .int)
  | 2 => (.array .int)
  | 3 => (.array .int)
  | 4 => (.array .int)
  | 5 => (.array .int)
  | 6 => (.array .int)
  | 7 => (.array .int)
  | 8 => (.array .int)
  | 9 => .int
  | 10 => .int
  | _ => .int
theorem zn_Tr : ∀ a, a < 12 → ∀ b, b < 12 → a ≠ b → (zT_Tr a).2.1 ≠ (zT_Tr b).2.1 := by decide +kernel
theorem zy_Tr_ok : ∀ k, k < 12 → parseFieldDescriptor (zT_Tr k).2.2.1 = some (zy_Tr k) := by decide +kernel
def zT_M : u_T := fun k => match k with
  | 0 => ("CaseTreeModel", "attributes", "I", false)
  | 1 => ("CaseTreeModel", "kinds", "[I", true)
  | 2 => ("CaseTreeModel", "caseCount", "I", false)
  | 3 => ("CaseTreeModel", "types", "[I", true)
  | 4 => ("CaseTreeModel", "values", "[I", true)
  | 5 => ("CaseTreeModel", "grown", "Z", false)
  | 6 => ("CaseTreeModel", "treeCases", "I", false)
  | 7 => ("CaseTreeModel", "made", "I", false)
  | 8 => ("CaseTreeModel", "attribute", "[I", true)
  | 9 => ("CaseTreeModel", "limit", "[I", true)
  | 10 => ("CaseTreeModel", "kid", "[I", true)
  | 11 => ("CaseTreeModel", "above", "[I", true)
  | 12 => ("CaseTreeModel", "depth", "[I", true)
  | 13 => ("CaseTreeModel", "top", "[I", true)
  | 14 => ("CaseTreeModel", "weights", "[I", true)
  | 15 => ("CaseTreeModel", "parts", "[I", true)
  | 16 => ("CaseTreeModel", "mixed", "[I", true)
  | 17 => ("CaseTreeModel", "known", "I", false)
  | 18 => ("CaseTreeModel", "total", "I", false)
  | 19 => ("CaseTreeModel", "gained", "J", false)
  | 20 => ("CaseTreeModel", "splitted", "J", false)
  | 21 => ("CaseTreeModel", "valid", "Z", false)
  | 22 => ("CaseTreeModel", "bestLimit", "I", false)
  | 23 => ("CaseTreeModel", "listed", "I", false)
  | 24 => ("CaseTreeModel", "order", "[I", true)
  | 25 => ("CaseTreeModel", "pending", "[I", true)
  | 26 => ("CaseTreeModel", "arriving", "[I", true)
  | 27 => ("CaseTreeModel", "asked", "[I", true)
  | 28 => ("CaseTreeModel", "given", "[I", true)
  | _ => ("CaseTreeModel", "shares", "[I", true)
def zy_M : Nat → FieldType := fun k => match k with
  | 0 => .int
  | 1 => (.array .int)
  | 2 => .int
  | 3 => (.array .int)
  | 4 => (.array .int)
  | 5 => .boolean
  | 6 => .int
  | 7 => .int
  | 8 => (.array .int)
  | 9 => (.array .int)
  | 10 => (.array .int)
  | 11 => (.array .int)
  | 12 => (.array .int)
  | 13 => (.array .int)
  | 14 => (.array .int)
  | 15 => (.array .int)
  | 16 => (.array .int)
  | 17 => .int
  | 18 => .int
  | 19 => .long
  | 20 => .long
  | 21 => .boolean
  | 22 => .int
  | 23 => .int
  | 24 => (.array .int)
  | 25 => (.array .int)
  | 26 => (.array .int)
  | 27 => (.array .int)
  | 28 => (.array .int)
  | _ => (.array .int)
theorem zn_M : ∀ a, a < 30 → ∀ b, b < 30 → a ≠ b → (zT_M a).2.1 ≠ (zT_M b).2.1 := by decide +kernel
theorem zy_M_ok : ∀ k, k < 30 → parseFieldDescriptor (zT_M k).2.2.1 = some (zy_M k) := by decide +kernel
abbrev vwCl : List vw_C := [("CaseTree", zT_C, 9), ("CaseTree$Cases", zT_Cs, 5), ("CaseTree$Finding", zT_Fi, 4), ("CaseTree$Fork", zT_Fo, 6), ("CaseTree$Grower", zT_Gr, 5), ("CaseTree$Judge", zT_Ju, 3), ("CaseTree$Path", zT_Pa, 4), ("CaseTree$Pruner", zT_Pr, 3), ("CaseTree$Tester", zT_Te, 5), ("CaseTree$Tree", zT_Tr, 12), ("CaseTreeModel", zT_M, 30)]
def zb : List Cond := lw_tbl.filter goodWord
theorem zb_in {w : Cond} (i : Nat) (h : lw_tbl[i]? = some w) (hg : goodWord w = true) : w ∈ zb := List.mem_filter.mpr ⟨List.mem_of_getElem? h, hg⟩
theorem zb_good : ∀ w ∈ zb, (w.onTables && w.keeps) = true ∨ ∃ ty, w = .arrayClass ty := fun w h => good_of_word (List.mem_filter.mp h).2
theorem zb_tbl : ∀ w ∈ zb, w ∈ lw_tbl := fun _ h => (List.mem_filter.mp h).1
set_option maxRecDepth 20000 in
theorem zu_C : ∀ w ∈ u_ws "CaseTree" zT_C 9, w ∈ zb := fun w h => List.mem_filter.mpr ⟨(goodIn_r (big := lw_tbl) _ [342, 344, 346, 348, 350, 352, 354, 356, 358] (by decide +kernel) (by decide +kernel) w h).1, List.all_eq_true.mp (show (u_ws "CaseTree" zT_C 9).all goodWord = true by decide +kernel) w h⟩
set_option maxRecDepth 20000 in
theorem zu_Cs : ∀ w ∈ u_ws "CaseTree$Cases" zT_Cs 5, w ∈ zb := fun w h => List.mem_filter.mpr ⟨(goodIn_r (big := lw_tbl) _ [86, 88, 90, 92, 94] (by decide +kernel) (by decide +kernel) w h).1, List.all_eq_true.mp (show (u_ws "CaseTree$Cases" zT_Cs 5).all goodWord = true by decide +kernel) w h⟩
set_option maxRecDepth 20000 in
theorem zu_Fi : ∀ w ∈ u_ws "CaseTree$Finding" zT_Fi 4, w ∈ zb := fun w h => List.mem_filter.mpr ⟨(goodIn_r (big := lw_tbl) _ [251, 253, 255, 257] (by decide +kernel) (by decide +kernel) w h).1, List.all_eq_true.mp (show (u_ws "CaseTree$Finding" zT_Fi 4).all goodWord = true by decide +kernel) w h⟩
set_option maxRecDepth 20000 in
theorem zu_Fo : ∀ w ∈ u_ws "CaseTree$Fork" zT_Fo 6, w ∈ zb := fun w h => List.mem_filter.mpr ⟨(goodIn_r (big := lw_tbl) _ [191, 193, 195, 197, 199, 201] (by decide +kernel) (by decide +kernel) w h).1, List.all_eq_true.mp (show (u_ws "CaseTree$Fork" zT_Fo 6).all goodWord = true by decide +kernel) w h⟩
set_option maxRecDepth 20000 in
theorem zu_Gr : ∀ w ∈ u_ws "CaseTree$Grower" zT_Gr 5, w ∈ zb := fun w h => List.mem_filter.mpr ⟨(goodIn_r (big := lw_tbl) _ [289, 291, 293, 295, 297] (by decide +kernel) (by decide +kernel) w h).1, List.all_eq_true.mp (show (u_ws "CaseTree$Grower" zT_Gr 5).all goodWord = true by decide +kernel) w h⟩
set_option maxRecDepth 20000 in
theorem zu_Ju : ∀ w ∈ u_ws "CaseTree$Judge" zT_Ju 3, w ∈ zb := fun w h => List.mem_filter.mpr ⟨(goodIn_r (big := lw_tbl) _ [326, 328, 330] (by decide +kernel) (by decide +kernel) w h).1, List.all_eq_true.mp (show (u_ws "CaseTree$Judge" zT_Ju 3).all goodWord = true by decide +kernel) w h⟩
set_option maxRecDepth 20000 in
theorem zu_Pa : ∀ w ∈ u_ws "CaseTree$Path" zT_Pa 4, w ∈ zb := fun w h => List.mem_filter.mpr ⟨(goodIn_r (big := lw_tbl) _ [215, 217, 219, 221] (by decide +kernel) (by decide +kernel) w h).1, List.all_eq_true.mp (show (u_ws "CaseTree$Path" zT_Pa 4).all goodWord = true by decide +kernel) w h⟩
set_option maxRecDepth 20000 in
theorem zu_Pr : ∀ w ∈ u_ws "CaseTree$Pruner" zT_Pr 3, w ∈ zb := fun w h => List.mem_filter.mpr ⟨(goodIn_r (big := lw_tbl) _ [309, 311, 313] (by decide +kernel) (by decide +kernel) w h).1, List.all_eq_true.mp (show (u_ws "CaseTree$Pruner" zT_Pr 3).all goodWord = true by decide +kernel) w h⟩
set_option maxRecDepth 20000 in
theorem zu_Te : ∀ w ∈ u_ws "CaseTree$Tester" zT_Te 5, w ∈ zb := fun w h => List.mem_filter.mpr ⟨(goodIn_r (big := lw_tbl) _ [267, 269, 271, 273, 275] (by decide +kernel) (by decide +kernel) w h).1, List.all_eq_true.mp (show (u_ws "CaseTree$Tester" zT_Te 5).all goodWord = true by decide +kernel) w h⟩
set_option maxRecDepth 20000 in
theorem zu_Tr : ∀ w ∈ u_ws "CaseTree$Tree" zT_Tr 12, w ∈ zb := fun w h => List.mem_filter.mpr ⟨(goodIn_r (big := lw_tbl) _ [136, 138, 140, 142, 144, 146, 148, 150, 152, 154, 156, 158] (by decide +kernel) (by decide +kernel) w h).1, List.all_eq_true.mp (show (u_ws "CaseTree$Tree" zT_Tr 12).all goodWord = true by decide +kernel) w h⟩
set_option maxRecDepth 20000 in
theorem zu_M : ∀ w ∈ u_ws "CaseTreeModel" zT_M 30, w ∈ zb := fun w h => List.mem_filter.mpr ⟨(goodIn_r (big := lw_tbl) _ [743, 745, 747, 749, 751, 753, 755, 757, 759, 761, 763, 765, 767, 769, 771, 773, 775, 777, 779, 781, 783, 785, 787, 789, 791, 793, 795, 797, 799, 801] (by decide +kernel) (by decide +kernel) w h).1, List.all_eq_true.mp (show (u_ws "CaseTreeModel" zT_M 30).all goodWord = true by decide +kernel) w h⟩
