/-! class tables: the fields of each class in their order, and the words that speak of them -/
abbrev uf_L : Type := List (String × String × String × Bool)
abbrev uf_T (l : uf_L) : u_T := fun k => l.getD k ("", "", "", false)
def uf_ty (l : uf_L) (k : Nat) : FieldType := (parseFieldDescriptor (uf_T l k).2.2.1).getD .int
def uf_0 : uf_L := [("UnmarkedPages$Codes", "steps", "LUnmarkedPages$Row;", true), ("UnmarkedPages$Codes", "names", "LUnmarkedPages$Row;", true), ("UnmarkedPages$Codes", "notes", "LUnmarkedPages$Row;", true), ("UnmarkedPages$Codes", "words", "LUnmarkedPages$Row;", true)]
def uf_1 : uf_L := [("UnmarkedPages$FrontList", "items", "[J", true), ("UnmarkedPages$FrontList", "size", "I", false)]
def uf_2 : uf_L := [("UnmarkedPages$Known", "names", "[LUnmarkedPages$FrontList;", true), ("UnmarkedPages$Known", "words", "LUnmarkedPages$FrontList;", true), ("UnmarkedPages$Known", "sets", "LUnmarkedPages$Row;", true), ("UnmarkedPages$Known", "values", "LUnmarkedPages$Row;", true)]
def uf_3 : uf_L := [("UnmarkedPages$Page", "letters", "LUnmarkedPages$Row;", true), ("UnmarkedPages$Page", "steps", "LUnmarkedPages$Row;", true), ("UnmarkedPages$Page", "boxPlaces", "LUnmarkedPages$Row;", true), ("UnmarkedPages$Page", "boxNames", "LUnmarkedPages$Row;", true), ("UnmarkedPages$Page", "boxesAround", "LUnmarkedPages$Row;", true), ("UnmarkedPages$Page", "wordsAround", "LUnmarkedPages$Row;", true), ("UnmarkedPages$Page", "wordPlaces", "LUnmarkedPages$Row;", true), ("UnmarkedPages$Page", "wordLengths", "LUnmarkedPages$Row;", true)]
def uf_4 : uf_L := [("UnmarkedPages$PathReader", "names", "LUnmarkedPages$Row;", true), ("UnmarkedPages$PathReader", "numbers", "LUnmarkedPages$Row;", true), ("UnmarkedPages$PathReader", "mode", "I", false)]
def uf_5 : uf_L := [("UnmarkedPages$Reader", "page", "LUnmarkedPages$Page;", true), ("UnmarkedPages$Reader", "faultPlace", "I", false), ("UnmarkedPages$Reader", "faultKind", "I", false), ("UnmarkedPages$Reader", "faultCause", "I", false), ("UnmarkedPages$Reader", "mode", "I", false), ("UnmarkedPages$Reader", "open", "LUnmarkedPages$Row;", true), ("UnmarkedPages$Reader", "keyPlaces", "LUnmarkedPages$Row;", true)]
def uf_6 : uf_L := [("UnmarkedPages$Row", "items", "[I", true), ("UnmarkedPages$Row", "size", "I", false)]
def uf_7 : uf_L := [("UnmarkedPages$State", "rules", "LUnmarkedPages$Row;", true), ("UnmarkedPages$State", "pages", "[LUnmarkedPages$Page;", true), ("UnmarkedPages$State", "pageCount", "I", false)]
def uf_8 : uf_L := [("UnmarkedPages", "text", "LUnmarkedPages$Row;", true), ("UnmarkedPages", "reader", "LUnmarkedPages$Reader;", true), ("UnmarkedPages", "pathReader", "LUnmarkedPages$PathReader;", true), ("UnmarkedPages", "now", "LUnmarkedPages$State;", true), ("UnmarkedPages", "history", "[LUnmarkedPages$State;", true), ("UnmarkedPages", "historySize", "I", false), ("UnmarkedPages", "snapshot", "LUnmarkedPages$State;", true), ("UnmarkedPages", "hasSnapshot", "Z", false), ("UnmarkedPages", "knowledge", "LUnmarkedPages$Known;", true), ("UnmarkedPages", "packed", "[LUnmarkedPages$Codes;", true), ("UnmarkedPages", "trialKnowledge", "LUnmarkedPages$Known;", true), ("UnmarkedPages", "trialCodes", "LUnmarkedPages$Codes;", true)]
def uf_9 : uf_L := [("UnmarkedPagesModel", "now", "[I", true), ("UnmarkedPagesModel", "history", "[I", true), ("UnmarkedPagesModel", "kept", "I", false), ("UnmarkedPagesModel", "slot", "[I", true), ("UnmarkedPagesModel", "isFilled", "Z", false), ("UnmarkedPagesModel", "letters", "[I", true), ("UnmarkedPagesModel", "length", "I", false), ("UnmarkedPagesModel", "ends", "[I", true), ("UnmarkedPagesModel", "open", "[I", true), ("UnmarkedPagesModel", "depth", "I", false), ("UnmarkedPagesModel", "keyPlaces", "[I", true), ("UnmarkedPagesModel", "boxes", "[I", true), ("UnmarkedPagesModel", "many", "I", false), ("UnmarkedPagesModel", "steps", "[I", true), ("UnmarkedPagesModel", "about", "[I", true), ("UnmarkedPagesModel", "stepped", "I", false), ("UnmarkedPagesModel", "implied", "I", false), ("UnmarkedPagesModel", "faultPlace", "I", false), ("UnmarkedPagesModel", "faultKind", "I", false), ("UnmarkedPagesModel", "faultCause", "I", false), ("UnmarkedPagesModel", "lists", "[I", true), ("UnmarkedPagesModel", "listed", "[I", true), ("UnmarkedPagesModel", "latestSet", "[I", true), ("UnmarkedPagesModel", "latestValue", "[I", true), ("UnmarkedPagesModel", "words", "[I", true), ("UnmarkedPagesModel", "wordsKnown", "I", false), ("UnmarkedPagesModel", "codes", "[I", true), ("UnmarkedPagesModel", "coded", "[I", true), ("UnmarkedPagesModel", "typed", "I", false), ("UnmarkedPagesModel", "text", "[C", true), ("UnmarkedPagesModel", "partNames", "[I", true), ("UnmarkedPagesModel", "partNumbers", "[I", true)]
def u_fl (ci : Nat) : uf_L := match ci with
  | 0 => uf_0
  | 1 => uf_1
  | 2 => uf_2
  | 3 => uf_3
  | 4 => uf_4
  | 5 => uf_5
  | 6 => uf_6
  | 7 => uf_7
  | 8 => uf_8
  | 9 => uf_9
  | _ => []
abbrev u_cls : List vw_C := [("UnmarkedPages$Codes", uf_T uf_0, 4), ("UnmarkedPages$FrontList", uf_T uf_1, 2), ("UnmarkedPages$Known", uf_T uf_2, 4), ("UnmarkedPages$Page", uf_T uf_3, 8), ("UnmarkedPages$PathReader", uf_T uf_4, 3), ("UnmarkedPages$Reader", uf_T uf_5, 7), ("UnmarkedPages$Row", uf_T uf_6, 2), ("UnmarkedPages$State", uf_T uf_7, 3), ("UnmarkedPages", uf_T uf_8, 12), ("UnmarkedPagesModel", uf_T uf_9, 32)]
def uw_W : List Cond := lw_tbl.filter goodWord
theorem uw_mem (i : Nat) {w : Cond} (h : lw_tbl[i]? = some w) (g : goodWord w = true) : w ∈ uw_W := List.mem_filter.mpr ⟨List.mem_of_getElem? h, g⟩
theorem uw_sub : ∀ w ∈ uw_W, w ∈ lw_tbl := fun w h => (List.mem_filter.mp h).1
theorem uw_good : ∀ w ∈ uw_W, goodWord w = true := fun w h => (List.mem_filter.mp h).2
def uc_P (C : String) (l : uf_L) (N : Nat) : Prop := (∀ k, k < N → u_lay C (uf_T l) k ∈ uw_W) ∧ (∀ a, a < N → ∀ b, b < N → a ≠ b → (uf_T l a).2.1 ≠ (uf_T l b).2.1) ∧ (∀ k, k < N → parseFieldDescriptor (uf_T l k).2.2.1 = some (uf_ty l k)) ∧ Cond.instantiable C N ∈ uw_W ∧ Cond.initialized C ∈ uw_W
set_option maxRecDepth 20000 in
theorem uc_0 : uc_P "UnmarkedPages$Codes" uf_0 4 := ⟨lt_s (lt_s (lt_s (lt_s (lt_0) (uw_mem 277 rfl rfl)) (uw_mem 279 rfl rfl)) (uw_mem 281 rfl rfl)) (uw_mem 283 rfl rfl), by decide +kernel, by decide +kernel, uw_mem 262 rfl rfl, uw_mem 62 rfl rfl⟩
set_option maxRecDepth 20000 in
theorem uc_1 : uc_P "UnmarkedPages$FrontList" uf_1 2 := ⟨lt_s (lt_s (lt_0) (uw_mem 237 rfl rfl)) (uw_mem 239 rfl rfl), by decide +kernel, by decide +kernel, uw_mem 229 rfl rfl, uw_mem 61 rfl rfl⟩
set_option maxRecDepth 20000 in
theorem uc_2 : uc_P "UnmarkedPages$Known" uf_2 4 := ⟨lt_s (lt_s (lt_s (lt_s (lt_0) (uw_mem 251 rfl rfl)) (uw_mem 253 rfl rfl)) (uw_mem 255 rfl rfl)) (uw_mem 257 rfl rfl), by decide +kernel, by decide +kernel, uw_mem 222 rfl rfl, uw_mem 60 rfl rfl⟩
set_option maxRecDepth 20000 in
theorem uc_3 : uc_P "UnmarkedPages$Page" uf_3 8 := ⟨lt_s (lt_s (lt_s (lt_s (lt_s (lt_s (lt_s (lt_s (lt_0) (uw_mem 131 rfl rfl)) (uw_mem 133 rfl rfl)) (uw_mem 135 rfl rfl)) (uw_mem 137 rfl rfl)) (uw_mem 139 rfl rfl)) (uw_mem 141 rfl rfl)) (uw_mem 143 rfl rfl)) (uw_mem 145 rfl rfl), by decide +kernel, by decide +kernel, uw_mem 97 rfl rfl, uw_mem 57 rfl rfl⟩
set_option maxRecDepth 20000 in
theorem uc_4 : uc_P "UnmarkedPages$PathReader" uf_4 3 := ⟨lt_s (lt_s (lt_s (lt_0) (uw_mem 187 rfl rfl)) (uw_mem 189 rfl rfl)) (uw_mem 191 rfl rfl), by decide +kernel, by decide +kernel, uw_mem 177 rfl rfl, uw_mem 58 rfl rfl⟩
set_option maxRecDepth 20000 in
theorem uc_5 : uc_P "UnmarkedPages$Reader" uf_5 7 := ⟨lt_s (lt_s (lt_s (lt_s (lt_s (lt_s (lt_s (lt_0) (uw_mem 161 rfl rfl)) (uw_mem 163 rfl rfl)) (uw_mem 165 rfl rfl)) (uw_mem 167 rfl rfl)) (uw_mem 169 rfl rfl)) (uw_mem 171 rfl rfl)) (uw_mem 173 rfl rfl), by decide +kernel, by decide +kernel, uw_mem 91 rfl rfl, uw_mem 56 rfl rfl⟩
set_option maxRecDepth 20000 in
theorem uc_6 : uc_P "UnmarkedPages$Row" uf_6 2 := ⟨lt_s (lt_s (lt_0) (uw_mem 84 rfl rfl)) (uw_mem 86 rfl rfl), by decide +kernel, by decide +kernel, uw_mem 74 rfl rfl, uw_mem 54 rfl rfl⟩
set_option maxRecDepth 20000 in
theorem uc_7 : uc_P "UnmarkedPages$State" uf_7 3 := ⟨lt_s (lt_s (lt_s (lt_0) (uw_mem 213 rfl rfl)) (uw_mem 215 rfl rfl)) (uw_mem 217 rfl rfl), by decide +kernel, by decide +kernel, uw_mem 195 rfl rfl, uw_mem 59 rfl rfl⟩
set_option maxRecDepth 20000 in
theorem uc_8 : uc_P "UnmarkedPages" uf_8 12 := ⟨lt_s (lt_s (lt_s (lt_s (lt_s (lt_s (lt_s (lt_s (lt_s (lt_s (lt_s (lt_s (lt_0) (uw_mem 298 rfl rfl)) (uw_mem 300 rfl rfl)) (uw_mem 302 rfl rfl)) (uw_mem 304 rfl rfl)) (uw_mem 306 rfl rfl)) (uw_mem 308 rfl rfl)) (uw_mem 310 rfl rfl)) (uw_mem 312 rfl rfl)) (uw_mem 314 rfl rfl)) (uw_mem 316 rfl rfl)) (uw_mem 318 rfl rfl)) (uw_mem 320 rfl rfl), by decide +kernel, by decide +kernel, uw_mem 66 rfl rfl, uw_mem 53 rfl rfl⟩
set_option maxRecDepth 20000 in
theorem uc_9 : uc_P "UnmarkedPagesModel" uf_9 32 := ⟨lt_s (lt_s (lt_s (lt_s (lt_s (lt_s (lt_s (lt_s (lt_s (lt_s (lt_s (lt_s (lt_s (lt_s (lt_s (lt_s (lt_s (lt_s (lt_s (lt_s (lt_s (lt_s (lt_s (lt_s (lt_s (lt_s (lt_s (lt_s (lt_s (lt_s (lt_s (lt_s (lt_0) (uw_mem 774 rfl rfl)) (uw_mem 776 rfl rfl)) (uw_mem 778 rfl rfl)) (uw_mem 780 rfl rfl)) (uw_mem 782 rfl rfl)) (uw_mem 784 rfl rfl)) (uw_mem 786 rfl rfl)) (uw_mem 788 rfl rfl)) (uw_mem 790 rfl rfl)) (uw_mem 792 rfl rfl)) (uw_mem 794 rfl rfl)) (uw_mem 796 rfl rfl)) (uw_mem 798 rfl rfl)) (uw_mem 800 rfl rfl)) (uw_mem 802 rfl rfl)) (uw_mem 804 rfl rfl)) (uw_mem 806 rfl rfl)) (uw_mem 808 rfl rfl)) (uw_mem 810 rfl rfl)) (uw_mem 812 rfl rfl)) (uw_mem 814 rfl rfl)) (uw_mem 816 rfl rfl)) (uw_mem 818 rfl rfl)) (uw_mem 820 rfl rfl)) (uw_mem 822 rfl rfl)) (uw_mem 824 rfl rfl)) (uw_mem 826 rfl rfl)) (uw_mem 828 rfl rfl)) (uw_mem 830 rfl rfl)) (uw_mem 832 rfl rfl)) (uw_mem 834 rfl rfl)) (uw_mem 836 rfl rfl), by decide +kernel, by decide +kernel, uw_mem 737 rfl rfl, uw_mem 63 rfl rfl⟩
theorem uc_at {ci : Nat} {r : vw_C} (h : u_cls[ci]? = some r) : uc_P r.1 (u_fl ci) r.2.2 ∧ r.2.1 = uf_T (u_fl ci) ∧ ci < 10 := by
  match ci, h with
  | 0, h => cases h; exact ⟨uc_0, rfl, by decide⟩
  | 1, h => cases h; exact ⟨uc_1, rfl, by decide⟩
  | 2, h => cases h; exact ⟨uc_2, rfl, by decide⟩
  | 3, h => cases h; exact ⟨uc_3, rfl, by decide⟩
  | 4, h => cases h; exact ⟨uc_4, rfl, by decide⟩
  | 5, h => cases h; exact ⟨uc_5, rfl, by decide⟩
  | 6, h => cases h; exact ⟨uc_6, rfl, by decide⟩
  | 7, h => cases h; exact ⟨uc_7, rfl, by decide⟩
  | 8, h => cases h; exact ⟨uc_8, rfl, by decide⟩
  | 9, h => cases h; exact ⟨uc_9, rfl, by decide⟩
  | ci + 10, h => simp [u_cls] at h
