/-! names: the good words of the tables, classes, fields, links, codes (printed by a program out of the Statement) -/
def WS : List Cond := lw_tbl.filter goodWord
theorem ws_t {w : Cond} (h : w ∈ tables_1) (hg : goodWord w = true) : w ∈ WS := List.mem_filter.mpr ⟨List.mem_append_right _ h, hg⟩
theorem ws_p {w : Cond} (h : w ∈ k2_sels lw_privs) (hg : goodWord w = true) : w ∈ WS := List.mem_filter.mpr ⟨List.mem_append_left _ h, hg⟩
theorem ws_g : GoodIn WS WS := fun w h => ⟨h, good_of_word (List.mem_filter.mp h).2⟩
theorem gV {own C : String} {idx : Nat} {y : MethodName} {cw : Cond} (h1 : Cond.methodLink own idx y ∈ WS) (h2 : Cond.instanceMethod y ∈ WS) (h3 : Cond.selects C y y ∈ WS) (h4 : Cond.initialized C ∈ WS) (h5 : cw ∈ WS) : GoodIn WS (wsV own idx C y (cw :: WS)) := by
  intro w hw
  refine ws_g w ?_
  rcases List.mem_append.mp hw with h | h
  · simp only [List.mem_cons, List.not_mem_nil, or_false] at h
    rcases h with h | h | h | h <;> subst h <;> assumption
  · rcases List.mem_cons.mp h with h | h
    · subst h; exact h5
    · exact h
theorem gS {own : String} {idx : Nat} {y : MethodName} {cw : Cond} (h1 : Cond.methodLink own idx y ∈ WS) (h2 : Cond.static y ∈ WS) (h3 : Cond.initialized own ∈ WS) (h5 : cw ∈ WS) : GoodIn WS (wsS own idx y (cw :: WS)) := by
  intro w hw
  refine ws_g w ?_
  rcases List.mem_append.mp hw with h | h
  · simp only [List.mem_cons, List.not_mem_nil, or_false] at h
    rcases h with h | h | h <;> subst h <;> assumption
  · rcases List.mem_cons.mp h with h | h
    · subst h; exact h5
    · exact h
theorem gSU {own : String} {idx : Nat} {y : MethodName} {cw : Cond} (h1 : Cond.methodLink own idx y ∈ WS) (h2 : Cond.static y ∈ WS) (h3 : Cond.initialized y.cls ∈ WS) (h5 : cw ∈ WS) : GoodIn WS (va_wsS own idx y (cw :: WS)) := by
  intro w hw
  refine ws_g w ?_
  rcases List.mem_append.mp hw with h | h
  · simp only [List.mem_cons, List.not_mem_nil, or_false] at h
    rcases h with h | h | h <;> subst h <;> assumption
  · rcases List.mem_cons.mp h with h | h
    · subst h; exact h5
    · exact h
def R_D : String := "FaultTreeDesk$Diagram"
def T_D : u_T := fun k => match k with
  | 0 => ("FaultTreeDesk$Diagram", "cells", "[I", true)
  | 1 => ("FaultTreeDesk$Diagram", "pairs", "[I", true)
  | _ => ("FaultTreeDesk$Diagram", "count", "I", false)
def tq_D : Nat → FieldType := fun k => match k with
  | 0 => .array .int
  | 1 => .array .int
  | _ => .int
theorem n_D : ∀ a, a < 3 → ∀ b, b < 3 → a ≠ b → (T_D a).2.1 ≠ (T_D b).2.1 := by decide +kernel
theorem t_D_ok : ∀ k, k < 3 → parseFieldDescriptor (T_D k).2.2.1 = some (tq_D k) := by decide +kernel
theorem la_D_0 : u_lay R_D T_D 0 ∈ WS := ws_t (List.mem_of_getElem? (i := 127) (by decide +kernel)) (by decide +kernel)
theorem la_D_1 : u_lay R_D T_D 1 ∈ WS := ws_t (List.mem_of_getElem? (i := 129) (by decide +kernel)) (by decide +kernel)
theorem la_D_2 : u_lay R_D T_D 2 ∈ WS := ws_t (List.mem_of_getElem? (i := 131) (by decide +kernel)) (by decide +kernel)
theorem la_D : ∀ w ∈ u_ws R_D T_D 3, w ∈ WS := by
  intro w h
  obtain ⟨k, hk, rfl⟩ := List.mem_map.mp h
  have hk := List.mem_range.mp hk
  match k, hk with
  | 0, _ => exact la_D_0
  | 1, _ => exact la_D_1
  | 2, _ => exact la_D_2
  | k + 3, h => exact absurd h (by omega)
def R_E : String := "FaultTreeDesk$Events"
def T_E : u_T := fun k => match k with
  | 0 => ("FaultTreeDesk$Events", "chances", "[I", true)
  | 1 => ("FaultTreeDesk$Events", "holds", "[I", true)
  | _ => ("FaultTreeDesk$Events", "count", "I", false)
def tq_E : Nat → FieldType := fun k => match k with
  | 0 => .array .int
  | 1 => .array .int
  | _ => .int
theorem n_E : ∀ a, a < 3 → ∀ b, b < 3 → a ≠ b → (T_E a).2.1 ≠ (T_E b).2.1 := by decide +kernel
theorem t_E_ok : ∀ k, k < 3 → parseFieldDescriptor (T_E k).2.2.1 = some (tq_E k) := by decide +kernel
theorem la_E_0 : u_lay R_E T_E 0 ∈ WS := ws_t (List.mem_of_getElem? (i := 44) (by decide +kernel)) (by decide +kernel)
theorem la_E_1 : u_lay R_E T_E 1 ∈ WS := ws_t (List.mem_of_getElem? (i := 46) (by decide +kernel)) (by decide +kernel)
theorem la_E_2 : u_lay R_E T_E 2 ∈ WS := ws_t (List.mem_of_getElem? (i := 48) (by decide +kernel)) (by decide +kernel)
theorem la_E : ∀ w ∈ u_ws R_E T_E 3, w ∈ WS := by
  intro w h
  obtain ⟨k, hk, rfl⟩ := List.mem_map.mp h
  have hk := List.mem_range.mp hk
  match k, hk with
  | 0, _ => exact la_E_0
  | 1, _ => exact la_E_1
  | 2, _ => exact la_E_2
  | k + 3, h => exact absurd h (by omega)
def R_G : String := "FaultTreeDesk$Gates"
def T_G : u_T := fun k => match k with
  | 0 => ("FaultTreeDesk$Gates", "kinds", "[I", true)
  | 1 => ("FaultTreeDesk$Gates", "votes", "[I", true)
  | 2 => ("FaultTreeDesk$Gates", "children", "[I", true)
  | 3 => ("FaultTreeDesk$Gates", "below", "[I", true)
  | _ => ("FaultTreeDesk$Gates", "count", "I", false)
def tq_G : Nat → FieldType := fun k => match k with
  | 0 => .array .int
  | 1 => .array .int
  | 2 => .array .int
  | 3 => .array .int
  | _ => .int
theorem n_G : ∀ a, a < 5 → ∀ b, b < 5 → a ≠ b → (T_G a).2.1 ≠ (T_G b).2.1 := by decide +kernel
theorem t_G_ok : ∀ k, k < 5 → parseFieldDescriptor (T_G k).2.2.1 = some (tq_G k) := by decide +kernel
theorem la_G_0 : u_lay R_G T_G 0 ∈ WS := ws_t (List.mem_of_getElem? (i := 69) (by decide +kernel)) (by decide +kernel)
theorem la_G_1 : u_lay R_G T_G 1 ∈ WS := ws_t (List.mem_of_getElem? (i := 71) (by decide +kernel)) (by decide +kernel)
theorem la_G_2 : u_lay R_G T_G 2 ∈ WS := ws_t (List.mem_of_getElem? (i := 73) (by decide +kernel)) (by decide +kernel)
theorem la_G_3 : u_lay R_G T_G 3 ∈ WS := ws_t (List.mem_of_getElem? (i := 75) (by decide +kernel)) (by decide +kernel)
theorem la_G_4 : u_lay R_G T_G 4 ∈ WS := ws_t (List.mem_of_getElem? (i := 77) (by decide +kernel)) (by decide +kernel)
theorem la_G : ∀ w ∈ u_ws R_G T_G 5, w ∈ WS := by
  intro w h
  obtain ⟨k, hk, rfl⟩ := List.mem_map.mp h
  have hk := List.mem_range.mp hk
  match k, hk with
  | 0, _ => exact la_G_0
  | 1, _ => exact la_G_1
  | 2, _ => exact la_G_2
  | 3, _ => exact la_G_3
  | 4, _ => exact la_G_4
  | k + 5, h => exact absurd h (by omega)
def R_O : String := "FaultTreeDesk$Odds"
def T_O : u_T := fun k => match k with
  | _ => ("FaultTreeDesk$Odds", "cells", "[J", true)
def tq_O : Nat → FieldType := fun k => match k with
  | _ => .array .long
theorem n_O : ∀ a, a < 1 → ∀ b, b < 1 → a ≠ b → (T_O a).2.1 ≠ (T_O b).2.1 := by decide +kernel
theorem t_O_ok : ∀ k, k < 1 → parseFieldDescriptor (T_O k).2.2.1 = some (tq_O k) := by decide +kernel
theorem la_O_0 : u_lay R_O T_O 0 ∈ WS := ws_t (List.mem_of_getElem? (i := 115) (by decide +kernel)) (by decide +kernel)
theorem la_O : ∀ w ∈ u_ws R_O T_O 1, w ∈ WS := by
  intro w h
  obtain ⟨k, hk, rfl⟩ := List.mem_map.mp h
  have hk := List.mem_range.mp hk
  match k, hk with
  | 0, _ => exact la_O_0
  | k + 1, h => exact absurd h (by omega)
def R_X : String := "FaultTreeDesk$Terms"
def T_X : u_T := fun k => match k with
  | 0 => ("FaultTreeDesk$Terms", "keys", "[I", true)
  | 1 => ("FaultTreeDesk$Terms", "levels", "[[J", true)
  | 2 => ("FaultTreeDesk$Terms", "words", "I", false)
  | 3 => ("FaultTreeDesk$Terms", "count", "I", false)
  | _ => ("FaultTreeDesk$Terms", "tooMany", "Z", false)
def tq_X : Nat → FieldType := fun k => match k with
  | 0 => .array .int
  | 1 => .array (.array .long)
  | 2 => .int
  | 3 => .int
  | _ => .boolean
theorem n_X : ∀ a, a < 5 → ∀ b, b < 5 → a ≠ b → (T_X a).2.1 ≠ (T_X b).2.1 := by decide +kernel
theorem t_X_ok : ∀ k, k < 5 → parseFieldDescriptor (T_X k).2.2.1 = some (tq_X k) := by decide +kernel
theorem la_X_0 : u_lay R_X T_X 0 ∈ WS := ws_t (List.mem_of_getElem? (i := 148) (by decide +kernel)) (by decide +kernel)
theorem la_X_1 : u_lay R_X T_X 1 ∈ WS := ws_t (List.mem_of_getElem? (i := 150) (by decide +kernel)) (by decide +kernel)
theorem la_X_2 : u_lay R_X T_X 2 ∈ WS := ws_t (List.mem_of_getElem? (i := 152) (by decide +kernel)) (by decide +kernel)
theorem la_X_3 : u_lay R_X T_X 3 ∈ WS := ws_t (List.mem_of_getElem? (i := 154) (by decide +kernel)) (by decide +kernel)
theorem la_X_4 : u_lay R_X T_X 4 ∈ WS := ws_t (List.mem_of_getElem? (i := 156) (by decide +kernel)) (by decide +kernel)
theorem la_X : ∀ w ∈ u_ws R_X T_X 5, w ∈ WS := by
  intro w h
  obtain ⟨k, hk, rfl⟩ := List.mem_map.mp h
  have hk := List.mem_range.mp hk
  match k, hk with
  | 0, _ => exact la_X_0
  | 1, _ => exact la_X_1
  | 2, _ => exact la_X_2
  | 3, _ => exact la_X_3
  | 4, _ => exact la_X_4
  | k + 5, h => exact absurd h (by omega)
def R_T : String := "FaultTreeDesk$Truth"
def T_T : u_T := fun k => match k with
  | 0 => ("FaultTreeDesk$Truth", "rows", "[[J", true)
  | 1 => ("FaultTreeDesk$Truth", "inputs", "[I", true)
  | 2 => ("FaultTreeDesk$Truth", "settings", "I", false)
  | 3 => ("FaultTreeDesk$Truth", "words", "I", false)
  | _ => ("FaultTreeDesk$Truth", "topCode", "I", false)
def tq_T : Nat → FieldType := fun k => match k with
  | 0 => .array (.array .long)
  | 1 => .array .int
  | 2 => .int
  | 3 => .int
  | _ => .int
theorem n_T : ∀ a, a < 5 → ∀ b, b < 5 → a ≠ b → (T_T a).2.1 ≠ (T_T b).2.1 := by decide +kernel
theorem t_T_ok : ∀ k, k < 5 → parseFieldDescriptor (T_T k).2.2.1 = some (tq_T k) := by decide +kernel
theorem la_T_0 : u_lay R_T T_T 0 ∈ WS := ws_t (List.mem_of_getElem? (i := 96) (by decide +kernel)) (by decide +kernel)
theorem la_T_1 : u_lay R_T T_T 1 ∈ WS := ws_t (List.mem_of_getElem? (i := 98) (by decide +kernel)) (by decide +kernel)
theorem la_T_2 : u_lay R_T T_T 2 ∈ WS := ws_t (List.mem_of_getElem? (i := 100) (by decide +kernel)) (by decide +kernel)
theorem la_T_3 : u_lay R_T T_T 3 ∈ WS := ws_t (List.mem_of_getElem? (i := 102) (by decide +kernel)) (by decide +kernel)
theorem la_T_4 : u_lay R_T T_T 4 ∈ WS := ws_t (List.mem_of_getElem? (i := 104) (by decide +kernel)) (by decide +kernel)
theorem la_T : ∀ w ∈ u_ws R_T T_T 5, w ∈ WS := by
  intro w h
  obtain ⟨k, hk, rfl⟩ := List.mem_map.mp h
  have hk := List.mem_range.mp hk
  match k, hk with
  | 0, _ => exact la_T_0
  | 1, _ => exact la_T_1
  | 2, _ => exact la_T_2
  | 3, _ => exact la_T_3
  | 4, _ => exact la_T_4
  | k + 5, h => exact absurd h (by omega)
def R_F : String := "FaultTreeDesk"
def T_F : u_T := fun k => match k with
  | 0 => ("FaultTreeDesk", "events", "LFaultTreeDesk$Events;", true)
  | 1 => ("FaultTreeDesk", "gates", "LFaultTreeDesk$Gates;", true)
  | 2 => ("FaultTreeDesk", "truth", "LFaultTreeDesk$Truth;", true)
  | 3 => ("FaultTreeDesk", "sums", "LFaultTreeDesk$Odds;", true)
  | 4 => ("FaultTreeDesk", "diagram", "LFaultTreeDesk$Diagram;", true)
  | 5 => ("FaultTreeDesk", "terms", "LFaultTreeDesk$Terms;", true)
  | 6 => ("FaultTreeDesk", "topGate", "I", false)
  | 7 => ("FaultTreeDesk", "truthFresh", "Z", false)
  | _ => ("FaultTreeDesk", "termsFresh", "Z", false)
def tq_F : Nat → FieldType := fun k => match k with
  | 0 => .object "FaultTreeDesk$Events"
  | 1 => .object "FaultTreeDesk$Gates"
  | 2 => .object "FaultTreeDesk$Truth"
  | 3 => .object "FaultTreeDesk$Odds"
  | 4 => .object "FaultTreeDesk$Diagram"
  | 5 => .object "FaultTreeDesk$Terms"
  | 6 => .int
  | 7 => .boolean
  | _ => .boolean
theorem n_F : ∀ a, a < 9 → ∀ b, b < 9 → a ≠ b → (T_F a).2.1 ≠ (T_F b).2.1 := by decide +kernel
theorem t_F_ok : ∀ k, k < 9 → parseFieldDescriptor (T_F k).2.2.1 = some (tq_F k) := by decide +kernel
theorem la_F_0 : u_lay R_F T_F 0 ∈ WS := ws_t (List.mem_of_getElem? (i := 168) (by decide +kernel)) (by decide +kernel)
theorem la_F_1 : u_lay R_F T_F 1 ∈ WS := ws_t (List.mem_of_getElem? (i := 170) (by decide +kernel)) (by decide +kernel)
theorem la_F_2 : u_lay R_F T_F 2 ∈ WS := ws_t (List.mem_of_getElem? (i := 172) (by decide +kernel)) (by decide +kernel)
theorem la_F_3 : u_lay R_F T_F 3 ∈ WS := ws_t (List.mem_of_getElem? (i := 174) (by decide +kernel)) (by decide +kernel)
theorem la_F_4 : u_lay R_F T_F 4 ∈ WS := ws_t (List.mem_of_getElem? (i := 176) (by decide +kernel)) (by decide +kernel)
theorem la_F_5 : u_lay R_F T_F 5 ∈ WS := ws_t (List.mem_of_getElem? (i := 178) (by decide +kernel)) (by decide +kernel)
theorem la_F_6 : u_lay R_F T_F 6 ∈ WS := ws_t (List.mem_of_getElem? (i := 180) (by decide +kernel)) (by decide +kernel)
theorem la_F_7 : u_lay R_F T_F 7 ∈ WS := ws_t (List.mem_of_getElem? (i := 182) (by decide +kernel)) (by decide +kernel)
theorem la_F_8 : u_lay R_F T_F 8 ∈ WS := ws_t (List.mem_of_getElem? (i := 184) (by decide +kernel)) (by decide +kernel)
theorem la_F : ∀ w ∈ u_ws R_F T_F 9, w ∈ WS := by
  intro w h
  obtain ⟨k, hk, rfl⟩ := List.mem_map.mp h
  have hk := List.mem_range.mp hk
  match k, hk with
  | 0, _ => exact la_F_0
  | 1, _ => exact la_F_1
  | 2, _ => exact la_F_2
  | 3, _ => exact la_F_3
  | 4, _ => exact la_F_4
  | 5, _ => exact la_F_5
  | 6, _ => exact la_F_6
  | 7, _ => exact la_F_7
  | 8, _ => exact la_F_8
  | k + 9, h => exact absurd h (by omega)
def R_M : String := "FaultTreeDeskModel"
def T_M : u_T := fun k => match k with
  | 0 => ("FaultTreeDeskModel", "code", "I", false)
  | 1 => ("FaultTreeDeskModel", "events", "I", false)
  | 2 => ("FaultTreeDeskModel", "chance", "[I", true)
  | 3 => ("FaultTreeDeskModel", "held", "[I", true)
  | 4 => ("FaultTreeDeskModel", "gates", "I", false)
  | 5 => ("FaultTreeDeskModel", "kinds", "[I", true)
  | 6 => ("FaultTreeDeskModel", "least", "[I", true)
  | 7 => ("FaultTreeDeskModel", "counts", "[I", true)
  | 8 => ("FaultTreeDeskModel", "kids", "[I", true)
  | 9 => ("FaultTreeDeskModel", "top", "I", false)
  | 10 => ("FaultTreeDeskModel", "below", "[Z", true)
  | 11 => ("FaultTreeDeskModel", "ready", "[Z", true)
  | 12 => ("FaultTreeDeskModel", "order", "[I", true)
  | 13 => ("FaultTreeDeskModel", "on", "[Z", true)
  | 14 => ("FaultTreeDeskModel", "truth", "[Z", true)
  | 15 => ("FaultTreeDeskModel", "causes", "[J", true)
  | 16 => ("FaultTreeDeskModel", "many", "I", false)
  | 17 => ("FaultTreeDeskModel", "ons", "[I", true)
  | _ => ("FaultTreeDeskModel", "offs", "[I", true)
def tq_M : Nat → FieldType := fun k => match k with
  | 0 => .int
  | 1 => .int
  | 2 => .array .int
  | 3 => .array .int
  | 4 => .int
  | 5 => .array .int
  | 6 => .array .int
  | 7 => .array .int
  | 8 => .array .int
  | 9 => .int
  | 10 => .array .boolean
  | 11 => .array .boolean
  | 12 => .array .int
  | 13 => .array .boolean
  | 14 => .array .boolean
  | 15 => .array .long
  | 16 => .int
  | 17 => .array .int
  | _ => .array .int
theorem n_M : ∀ a, a < 19 → ∀ b, b < 19 → a ≠ b → (T_M a).2.1 ≠ (T_M b).2.1 := by decide +kernel
theorem t_M_ok : ∀ k, k < 19 → parseFieldDescriptor (T_M k).2.2.1 = some (tq_M k) := by decide +kernel
theorem la_M_0 : u_lay R_M T_M 0 ∈ WS := ws_t (List.mem_of_getElem? (i := 653) (by decide +kernel)) (by decide +kernel)
theorem la_M_1 : u_lay R_M T_M 1 ∈ WS := ws_t (List.mem_of_getElem? (i := 655) (by decide +kernel)) (by decide +kernel)
theorem la_M_2 : u_lay R_M T_M 2 ∈ WS := ws_t (List.mem_of_getElem? (i := 657) (by decide +kernel)) (by decide +kernel)
theorem la_M_3 : u_lay R_M T_M 3 ∈ WS := ws_t (List.mem_of_getElem? (i := 659) (by decide +kernel)) (by decide +kernel)
theorem la_M_4 : u_lay R_M T_M 4 ∈ WS := ws_t (List.mem_of_getElem? (i := 661) (by decide +kernel)) (by decide +kernel)
theorem la_M_5 : u_lay R_M T_M 5 ∈ WS := ws_t (List.mem_of_getElem? (i := 663) (by decide +kernel)) (by decide +kernel)
theorem la_M_6 : u_lay R_M T_M 6 ∈ WS := ws_t (List.mem_of_getElem? (i := 665) (by decide +kernel)) (by decide +kernel)
theorem la_M_7 : u_lay R_M T_M 7 ∈ WS := ws_t (List.mem_of_getElem? (i := 667) (by decide +kernel)) (by decide +kernel)
theorem la_M_8 : u_lay R_M T_M 8 ∈ WS := ws_t (List.mem_of_getElem? (i := 669) (by decide +kernel)) (by decide +kernel)
theorem la_M_9 : u_lay R_M T_M 9 ∈ WS := ws_t (List.mem_of_getElem? (i := 671) (by decide +kernel)) (by decide +kernel)
theorem la_M_10 : u_lay R_M T_M 10 ∈ WS := ws_t (List.mem_of_getElem? (i := 673) (by decide +kernel)) (by decide +kernel)
theorem la_M_11 : u_lay R_M T_M 11 ∈ WS := ws_t (List.mem_of_getElem? (i := 675) (by decide +kernel)) (by decide +kernel)
theorem la_M_12 : u_lay R_M T_M 12 ∈ WS := ws_t (List.mem_of_getElem? (i := 677) (by decide +kernel)) (by decide +kernel)
theorem la_M_13 : u_lay R_M T_M 13 ∈ WS := ws_t (List.mem_of_getElem? (i := 679) (by decide +kernel)) (by decide +kernel)
theorem la_M_14 : u_lay R_M T_M 14 ∈ WS := ws_t (List.mem_of_getElem? (i := 681) (by decide +kernel)) (by decide +kernel)
theorem la_M_15 : u_lay R_M T_M 15 ∈ WS := ws_t (List.mem_of_getElem? (i := 683) (by decide +kernel)) (by decide +kernel)
theorem la_M_16 : u_lay R_M T_M 16 ∈ WS := ws_t (List.mem_of_getElem? (i := 685) (by decide +kernel)) (by decide +kernel)
theorem la_M_17 : u_lay R_M T_M 17 ∈ WS := ws_t (List.mem_of_getElem? (i := 687) (by decide +kernel)) (by decide +kernel)
theorem la_M_18 : u_lay R_M T_M 18 ∈ WS := ws_t (List.mem_of_getElem? (i := 689) (by decide +kernel)) (by decide +kernel)
theorem la_M : ∀ w ∈ u_ws R_M T_M 19, w ∈ WS := by
  intro w h
  obtain ⟨k, hk, rfl⟩ := List.mem_map.mp h
  have hk := List.mem_range.mp hk
  match k, hk with
  | 0, _ => exact la_M_0
  | 1, _ => exact la_M_1
  | 2, _ => exact la_M_2
  | 3, _ => exact la_M_3
  | 4, _ => exact la_M_4
  | 5, _ => exact la_M_5
  | 6, _ => exact la_M_6
  | 7, _ => exact la_M_7
  | 8, _ => exact la_M_8
  | 9, _ => exact la_M_9
  | 10, _ => exact la_M_10
  | 11, _ => exact la_M_11
  | 12, _ => exact la_M_12
  | 13, _ => exact la_M_13
  | 14, _ => exact la_M_14
  | 15, _ => exact la_M_15
  | 16, _ => exact la_M_16
  | 17, _ => exact la_M_17
  | 18, _ => exact la_M_18
  | k + 19, h => exact absurd h (by omega)
def cl8 : List vw_C := [(R_D, T_D, 3), (R_E, T_E, 3), (R_G, T_G, 5), (R_O, T_O, 1), (R_X, T_X, 5), (R_T, T_T, 5), (R_F, T_F, 9), (R_M, T_M, 19)]
def tabON (j : Nat) : Int64 := match j with
  | 0 => -6148914691236517206
  | 1 => -3689348814741910324
  | 2 => -1085102592571150096
  | 3 => -71777214294589696
  | 4 => -281470681808896
  | _ => -4294967296
def NS : List Cond := [.methodLinkNest "FaultTreeDesk" 11 ⟨"FaultTreeDesk$Events", "<init>", "()V"⟩ "FaultTreeDesk", .fieldLinkNest "FaultTreeDesk$Odds" 27 "FaultTreeDesk$Events" "chances" "[I" "FaultTreeDesk", .fieldLinkNest "FaultTreeDesk" 86 "FaultTreeDesk$Events" "chances" "[I" "FaultTreeDesk", .fieldLinkNest "FaultTreeDesk$Truth" 41 "FaultTreeDesk$Events" "holds" "[I" "FaultTreeDesk", .fieldLinkNest "FaultTreeDesk" 95 "FaultTreeDesk$Events" "holds" "[I" "FaultTreeDesk", .fieldLinkNest "FaultTreeDesk$Odds" 15 "FaultTreeDesk$Events" "count" "I" "FaultTreeDesk", .fieldLinkNest "FaultTreeDesk$Truth" 30 "FaultTreeDesk$Events" "count" "I" "FaultTreeDesk", .fieldLinkNest "FaultTreeDesk" 66 "FaultTreeDesk$Events" "count" "I" "FaultTreeDesk", .methodLinkNest "FaultTreeDesk" 18 ⟨"FaultTreeDesk$Gates", "<init>", "()V"⟩ "FaultTreeDesk", .fieldLinkNest "FaultTreeDesk$Truth" 78 "FaultTreeDesk$Gates" "kinds" "[I" "FaultTreeDesk", .fieldLinkNest "FaultTreeDesk$Truth" 89 "FaultTreeDesk$Gates" "votes" "[I" "FaultTreeDesk", .fieldLinkNest "FaultTreeDesk$Truth" 72 "FaultTreeDesk$Gates" "children" "[I" "FaultTreeDesk", .fieldLinkNest "FaultTreeDesk$Truth" 65 "FaultTreeDesk$Gates" "below" "[I" "FaultTreeDesk", .fieldLinkNest "FaultTreeDesk$Truth" 64 "FaultTreeDesk$Gates" "count" "I" "FaultTreeDesk", .fieldLinkNest "FaultTreeDesk" 102 "FaultTreeDesk$Gates" "count" "I" "FaultTreeDesk", .methodLinkNest "FaultTreeDesk" 25 ⟨"FaultTreeDesk$Truth", "<init>", "()V"⟩ "FaultTreeDesk", .fieldLinkNest "FaultTreeDesk$Terms" 34 "FaultTreeDesk$Truth" "rows" "[[J" "FaultTreeDesk", .fieldLinkNest "FaultTreeDesk$Terms" 31 "FaultTreeDesk$Truth" "words" "I" "FaultTreeDesk", .fieldLinkNest "FaultTreeDesk$Terms" 37 "FaultTreeDesk$Truth" "topCode" "I" "FaultTreeDesk", .methodLinkNest "FaultTreeDesk" 32 ⟨"FaultTreeDesk$Odds", "<init>", "()V"⟩ "FaultTreeDesk", .methodLinkNest "FaultTreeDesk" 39 ⟨"FaultTreeDesk$Diagram", "<init>", "()V"⟩ "FaultTreeDesk", .methodLinkNest "FaultTreeDesk" 46 ⟨"FaultTreeDesk$Terms", "<init>", "()V"⟩ "FaultTreeDesk", .fieldLinkNest "FaultTreeDesk" 177 "FaultTreeDesk$Terms" "count" "I" "FaultTreeDesk", .fieldLinkNest "FaultTreeDesk" 208 "FaultTreeDesk$Terms" "tooMany" "Z" "FaultTreeDesk", .fieldLinkNest "FaultTreeDesk$Truth" 54 "FaultTreeDesk" "ON_IN_WORD" "[J" "FaultTreeDesk", .fieldLinkNest "FaultTreeDesk$Terms" 65 "FaultTreeDesk" "ON_IN_WORD" "[J" "FaultTreeDesk"]
theorem NS_in : ∀ w ∈ NS, w ∈ tables_1 := by decide +kernel
theorem fk_E_9 : Cond.fieldLink R_E 9 (T_E 0).1 (T_E 0).2.1 (T_E 0).2.2.1 ∈ WS := ws_t (List.mem_of_getElem? (i := 34) (by decide +kernel)) (by decide +kernel)
theorem fl_E_9 : av_F R_E WS cl8 9 1 0 := ⟨R_E, T_E, 3, rfl, Nat.le_of_ble_eq_true rfl, la_E, fk_E_9⟩
theorem fk_E_15 : Cond.fieldLink R_E 15 (T_E 1).1 (T_E 1).2.1 (T_E 1).2.2.1 ∈ WS := ws_t (List.mem_of_getElem? (i := 37) (by decide +kernel)) (by decide +kernel)
theorem fl_E_15 : av_F R_E WS cl8 15 1 1 := ⟨R_E, T_E, 3, rfl, Nat.le_of_ble_eq_true rfl, la_E, fk_E_15⟩
theorem fk_E_18 : Cond.fieldLink R_E 18 (T_E 2).1 (T_E 2).2.1 (T_E 2).2.2.1 ∈ WS := ws_t (List.mem_of_getElem? (i := 40) (by decide +kernel)) (by decide +kernel)
theorem fl_E_18 : av_F R_E WS cl8 18 1 2 := ⟨R_E, T_E, 3, rfl, Nat.le_of_ble_eq_true rfl, la_E, fk_E_18⟩
theorem fp_E_18 : av_FP R_E WS cl8 18 1 2 (tq_E 2) := ⟨R_E, T_E, 3, tq_E, rfl, Nat.le_of_ble_eq_true rfl, la_E, fk_E_18, t_E_ok, n_E, rfl, t_E_ok 2 (Nat.le_of_ble_eq_true rfl)⟩
theorem fk_G_9 : Cond.fieldLink R_G 9 (T_G 0).1 (T_G 0).2.1 (T_G 0).2.2.1 ∈ WS := ws_t (List.mem_of_getElem? (i := 58) (by decide +kernel)) (by decide +kernel)
theorem fl_G_9 : av_F R_G WS cl8 9 2 0 := ⟨R_G, T_G, 5, rfl, Nat.le_of_ble_eq_true rfl, la_G, fk_G_9⟩
theorem fk_G_15 : Cond.fieldLink R_G 15 (T_G 1).1 (T_G 1).2.1 (T_G 1).2.2.1 ∈ WS := ws_t (List.mem_of_getElem? (i := 60) (by decide +kernel)) (by decide +kernel)
theorem fl_G_15 : av_F R_G WS cl8 15 2 1 := ⟨R_G, T_G, 5, rfl, Nat.le_of_ble_eq_true rfl, la_G, fk_G_15⟩
theorem fk_G_18 : Cond.fieldLink R_G 18 (T_G 2).1 (T_G 2).2.1 (T_G 2).2.2.1 ∈ WS := ws_t (List.mem_of_getElem? (i := 62) (by decide +kernel)) (by decide +kernel)
theorem fl_G_18 : av_F R_G WS cl8 18 2 2 := ⟨R_G, T_G, 5, rfl, Nat.le_of_ble_eq_true rfl, la_G, fk_G_18⟩
theorem fk_G_21 : Cond.fieldLink R_G 21 (T_G 3).1 (T_G 3).2.1 (T_G 3).2.2.1 ∈ WS := ws_t (List.mem_of_getElem? (i := 64) (by decide +kernel)) (by decide +kernel)
theorem fl_G_21 : av_F R_G WS cl8 21 2 3 := ⟨R_G, T_G, 5, rfl, Nat.le_of_ble_eq_true rfl, la_G, fk_G_21⟩
theorem fk_G_24 : Cond.fieldLink R_G 24 (T_G 4).1 (T_G 4).2.1 (T_G 4).2.2.1 ∈ WS := ws_t (List.mem_of_getElem? (i := 66) (by decide +kernel)) (by decide +kernel)
theorem fl_G_24 : av_F R_G WS cl8 24 2 4 := ⟨R_G, T_G, 5, rfl, Nat.le_of_ble_eq_true rfl, la_G, fk_G_24⟩
theorem fp_G_24 : av_FP R_G WS cl8 24 2 4 (tq_G 4) := ⟨R_G, T_G, 5, tq_G, rfl, Nat.le_of_ble_eq_true rfl, la_G, fk_G_24, t_G_ok, n_G, rfl, t_G_ok 4 (Nat.le_of_ble_eq_true rfl)⟩
theorem fk_T_11 : Cond.fieldLink R_T 11 (T_T 0).1 (T_T 0).2.1 (T_T 0).2.2.1 ∈ WS := ws_t (List.mem_of_getElem? (i := 88) (by decide +kernel)) (by decide +kernel)
theorem fl_T_11 : av_F R_T WS cl8 11 5 0 := ⟨R_T, T_T, 5, rfl, Nat.le_of_ble_eq_true rfl, la_T, fk_T_11⟩
theorem fk_T_16 : Cond.fieldLink R_T 16 (T_T 1).1 (T_T 1).2.1 (T_T 1).2.2.1 ∈ WS := ws_t (List.mem_of_getElem? (i := 90) (by decide +kernel)) (by decide +kernel)
theorem fl_T_16 : av_F R_T WS cl8 16 5 1 := ⟨R_T, T_T, 5, rfl, Nat.le_of_ble_eq_true rfl, la_T, fk_T_16⟩
theorem fk_T_20 : Cond.fieldLink R_T 20 (T_T 2).1 (T_T 2).2.1 (T_T 2).2.2.1 ∈ WS := ws_t (List.mem_of_getElem? (i := 91) (by decide +kernel)) (by decide +kernel)
theorem fl_T_20 : av_F R_T WS cl8 20 5 2 := ⟨R_T, T_T, 5, rfl, Nat.le_of_ble_eq_true rfl, la_T, fk_T_20⟩
theorem fp_T_20 : av_FP R_T WS cl8 20 5 2 (tq_T 2) := ⟨R_T, T_T, 5, tq_T, rfl, Nat.le_of_ble_eq_true rfl, la_T, fk_T_20, t_T_ok, n_T, rfl, t_T_ok 2 (Nat.le_of_ble_eq_true rfl)⟩
theorem fk_T_24 : Cond.fieldLink R_T 24 (T_T 3).1 (T_T 3).2.1 (T_T 3).2.2.1 ∈ WS := ws_t (List.mem_of_getElem? (i := 92) (by decide +kernel)) (by decide +kernel)
theorem fl_T_24 : av_F R_T WS cl8 24 5 3 := ⟨R_T, T_T, 5, rfl, Nat.le_of_ble_eq_true rfl, la_T, fk_T_24⟩
theorem fp_T_24 : av_FP R_T WS cl8 24 5 3 (tq_T 3) := ⟨R_T, T_T, 5, tq_T, rfl, Nat.le_of_ble_eq_true rfl, la_T, fk_T_24, t_T_ok, n_T, rfl, t_T_ok 3 (Nat.le_of_ble_eq_true rfl)⟩
theorem fk_T_27 : Cond.fieldLink R_T 27 (T_T 4).1 (T_T 4).2.1 (T_T 4).2.2.1 ∈ WS := ws_t (List.mem_of_getElem? (i := 94) (by decide +kernel)) (by decide +kernel)
theorem fl_T_27 : av_F R_T WS cl8 27 5 4 := ⟨R_T, T_T, 5, rfl, Nat.le_of_ble_eq_true rfl, la_T, fk_T_27⟩
theorem fp_T_27 : av_FP R_T WS cl8 27 5 4 (tq_T 4) := ⟨R_T, T_T, 5, tq_T, rfl, Nat.le_of_ble_eq_true rfl, la_T, fk_T_27, t_T_ok, n_T, rfl, t_T_ok 4 (Nat.le_of_ble_eq_true rfl)⟩
theorem fk_O_9 : Cond.fieldLink R_O 9 (T_O 0).1 (T_O 0).2.1 (T_O 0).2.2.1 ∈ WS := ws_t (List.mem_of_getElem? (i := 114) (by decide +kernel)) (by decide +kernel)
theorem fl_O_9 : av_F R_O WS cl8 9 3 0 := ⟨R_O, T_O, 1, rfl, Nat.le_of_ble_eq_true rfl, la_O, fk_O_9⟩
theorem fk_D_9 : Cond.fieldLink R_D 9 (T_D 0).1 (T_D 0).2.1 (T_D 0).2.2.1 ∈ WS := ws_t (List.mem_of_getElem? (i := 124) (by decide +kernel)) (by decide +kernel)
theorem fl_D_9 : av_F R_D WS cl8 9 0 0 := ⟨R_D, T_D, 3, rfl, Nat.le_of_ble_eq_true rfl, la_D, fk_D_9⟩
theorem fk_D_15 : Cond.fieldLink R_D 15 (T_D 1).1 (T_D 1).2.1 (T_D 1).2.2.1 ∈ WS := ws_t (List.mem_of_getElem? (i := 125) (by decide +kernel)) (by decide +kernel)
theorem fl_D_15 : av_F R_D WS cl8 15 0 1 := ⟨R_D, T_D, 3, rfl, Nat.le_of_ble_eq_true rfl, la_D, fk_D_15⟩
theorem fk_D_18 : Cond.fieldLink R_D 18 (T_D 2).1 (T_D 2).2.1 (T_D 2).2.2.1 ∈ WS := ws_t (List.mem_of_getElem? (i := 126) (by decide +kernel)) (by decide +kernel)
theorem fl_D_18 : av_F R_D WS cl8 18 0 2 := ⟨R_D, T_D, 3, rfl, Nat.le_of_ble_eq_true rfl, la_D, fk_D_18⟩
theorem fp_D_18 : av_FP R_D WS cl8 18 0 2 (tq_D 2) := ⟨R_D, T_D, 3, tq_D, rfl, Nat.le_of_ble_eq_true rfl, la_D, fk_D_18, t_D_ok, n_D, rfl, t_D_ok 2 (Nat.le_of_ble_eq_true rfl)⟩
theorem fk_X_9 : Cond.fieldLink R_X 9 (T_X 0).1 (T_X 0).2.1 (T_X 0).2.2.1 ∈ WS := ws_t (List.mem_of_getElem? (i := 141) (by decide +kernel)) (by decide +kernel)
theorem fl_X_9 : av_F R_X WS cl8 9 4 0 := ⟨R_X, T_X, 5, rfl, Nat.le_of_ble_eq_true rfl, la_X, fk_X_9⟩
theorem fk_X_17 : Cond.fieldLink R_X 17 (T_X 1).1 (T_X 1).2.1 (T_X 1).2.2.1 ∈ WS := ws_t (List.mem_of_getElem? (i := 142) (by decide +kernel)) (by decide +kernel)
theorem fl_X_17 : av_F R_X WS cl8 17 4 1 := ⟨R_X, T_X, 5, rfl, Nat.le_of_ble_eq_true rfl, la_X, fk_X_17⟩
theorem fk_X_20 : Cond.fieldLink R_X 20 (T_X 2).1 (T_X 2).2.1 (T_X 2).2.2.1 ∈ WS := ws_t (List.mem_of_getElem? (i := 143) (by decide +kernel)) (by decide +kernel)
theorem fl_X_20 : av_F R_X WS cl8 20 4 2 := ⟨R_X, T_X, 5, rfl, Nat.le_of_ble_eq_true rfl, la_X, fk_X_20⟩
theorem fp_X_20 : av_FP R_X WS cl8 20 4 2 (tq_X 2) := ⟨R_X, T_X, 5, tq_X, rfl, Nat.le_of_ble_eq_true rfl, la_X, fk_X_20, t_X_ok, n_X, rfl, t_X_ok 2 (Nat.le_of_ble_eq_true rfl)⟩
theorem fk_X_24 : Cond.fieldLink R_X 24 (T_X 3).1 (T_X 3).2.1 (T_X 3).2.2.1 ∈ WS := ws_t (List.mem_of_getElem? (i := 144) (by decide +kernel)) (by decide +kernel)
theorem fl_X_24 : av_F R_X WS cl8 24 4 3 := ⟨R_X, T_X, 5, rfl, Nat.le_of_ble_eq_true rfl, la_X, fk_X_24⟩
theorem fp_X_24 : av_FP R_X WS cl8 24 4 3 (tq_X 3) := ⟨R_X, T_X, 5, tq_X, rfl, Nat.le_of_ble_eq_true rfl, la_X, fk_X_24, t_X_ok, n_X, rfl, t_X_ok 3 (Nat.le_of_ble_eq_true rfl)⟩
theorem fk_X_27 : Cond.fieldLink R_X 27 (T_X 4).1 (T_X 4).2.1 (T_X 4).2.2.1 ∈ WS := ws_t (List.mem_of_getElem? (i := 146) (by decide +kernel)) (by decide +kernel)
theorem fl_X_27 : av_F R_X WS cl8 27 4 4 := ⟨R_X, T_X, 5, rfl, Nat.le_of_ble_eq_true rfl, la_X, fk_X_27⟩
theorem fp_X_27 : av_FP R_X WS cl8 27 4 4 (tq_X 4) := ⟨R_X, T_X, 5, tq_X, rfl, Nat.le_of_ble_eq_true rfl, la_X, fk_X_27, t_X_ok, n_X, rfl, t_X_ok 4 (Nat.le_of_ble_eq_true rfl)⟩
theorem fk_F_12 : Cond.fieldLink R_F 12 (T_F 0).1 (T_F 0).2.1 (T_F 0).2.2.1 ∈ WS := ws_t (List.mem_of_getElem? (i := 159) (by decide +kernel)) (by decide +kernel)
theorem fl_F_12 : av_F R_F WS cl8 12 6 0 := ⟨R_F, T_F, 9, rfl, Nat.le_of_ble_eq_true rfl, la_F, fk_F_12⟩
theorem fk_F_19 : Cond.fieldLink R_F 19 (T_F 1).1 (T_F 1).2.1 (T_F 1).2.2.1 ∈ WS := ws_t (List.mem_of_getElem? (i := 160) (by decide +kernel)) (by decide +kernel)
theorem fl_F_19 : av_F R_F WS cl8 19 6 1 := ⟨R_F, T_F, 9, rfl, Nat.le_of_ble_eq_true rfl, la_F, fk_F_19⟩
theorem fk_F_26 : Cond.fieldLink R_F 26 (T_F 2).1 (T_F 2).2.1 (T_F 2).2.2.1 ∈ WS := ws_t (List.mem_of_getElem? (i := 161) (by decide +kernel)) (by decide +kernel)
theorem fl_F_26 : av_F R_F WS cl8 26 6 2 := ⟨R_F, T_F, 9, rfl, Nat.le_of_ble_eq_true rfl, la_F, fk_F_26⟩
theorem fk_F_33 : Cond.fieldLink R_F 33 (T_F 3).1 (T_F 3).2.1 (T_F 3).2.2.1 ∈ WS := ws_t (List.mem_of_getElem? (i := 162) (by decide +kernel)) (by decide +kernel)
theorem fl_F_33 : av_F R_F WS cl8 33 6 3 := ⟨R_F, T_F, 9, rfl, Nat.le_of_ble_eq_true rfl, la_F, fk_F_33⟩
theorem fk_F_40 : Cond.fieldLink R_F 40 (T_F 4).1 (T_F 4).2.1 (T_F 4).2.2.1 ∈ WS := ws_t (List.mem_of_getElem? (i := 163) (by decide +kernel)) (by decide +kernel)
theorem fl_F_40 : av_F R_F WS cl8 40 6 4 := ⟨R_F, T_F, 9, rfl, Nat.le_of_ble_eq_true rfl, la_F, fk_F_40⟩
theorem fk_F_47 : Cond.fieldLink R_F 47 (T_F 5).1 (T_F 5).2.1 (T_F 5).2.2.1 ∈ WS := ws_t (List.mem_of_getElem? (i := 164) (by decide +kernel)) (by decide +kernel)
theorem fl_F_47 : av_F R_F WS cl8 47 6 5 := ⟨R_F, T_F, 9, rfl, Nat.le_of_ble_eq_true rfl, la_F, fk_F_47⟩
theorem fk_F_51 : Cond.fieldLink R_F 51 (T_F 6).1 (T_F 6).2.1 (T_F 6).2.2.1 ∈ WS := ws_t (List.mem_of_getElem? (i := 165) (by decide +kernel)) (by decide +kernel)
theorem fl_F_51 : av_F R_F WS cl8 51 6 6 := ⟨R_F, T_F, 9, rfl, Nat.le_of_ble_eq_true rfl, la_F, fk_F_51⟩
theorem fp_F_51 : av_FP R_F WS cl8 51 6 6 (tq_F 6) := ⟨R_F, T_F, 9, tq_F, rfl, Nat.le_of_ble_eq_true rfl, la_F, fk_F_51, t_F_ok, n_F, rfl, t_F_ok 6 (Nat.le_of_ble_eq_true rfl)⟩
theorem fk_F_55 : Cond.fieldLink R_F 55 (T_F 7).1 (T_F 7).2.1 (T_F 7).2.2.1 ∈ WS := ws_t (List.mem_of_getElem? (i := 166) (by decide +kernel)) (by decide +kernel)
theorem fl_F_55 : av_F R_F WS cl8 55 6 7 := ⟨R_F, T_F, 9, rfl, Nat.le_of_ble_eq_true rfl, la_F, fk_F_55⟩
theorem fp_F_55 : av_FP R_F WS cl8 55 6 7 (tq_F 7) := ⟨R_F, T_F, 9, tq_F, rfl, Nat.le_of_ble_eq_true rfl, la_F, fk_F_55, t_F_ok, n_F, rfl, t_F_ok 7 (Nat.le_of_ble_eq_true rfl)⟩
theorem fk_F_59 : Cond.fieldLink R_F 59 (T_F 8).1 (T_F 8).2.1 (T_F 8).2.2.1 ∈ WS := ws_t (List.mem_of_getElem? (i := 167) (by decide +kernel)) (by decide +kernel)
theorem fl_F_59 : av_F R_F WS cl8 59 6 8 := ⟨R_F, T_F, 9, rfl, Nat.le_of_ble_eq_true rfl, la_F, fk_F_59⟩
theorem fp_F_59 : av_FP R_F WS cl8 59 6 8 (tq_F 8) := ⟨R_F, T_F, 9, tq_F, rfl, Nat.le_of_ble_eq_true rfl, la_F, fk_F_59, t_F_ok, n_F, rfl, t_F_ok 8 (Nat.le_of_ble_eq_true rfl)⟩
theorem fk_M_58 : Cond.fieldLink R_M 58 (T_M 0).1 (T_M 0).2.1 (T_M 0).2.2.1 ∈ WS := ws_t (List.mem_of_getElem? (i := 634) (by decide +kernel)) (by decide +kernel)
theorem fl_M_58 : av_F R_M WS cl8 58 7 0 := ⟨R_M, T_M, 19, rfl, Nat.le_of_ble_eq_true rfl, la_M, fk_M_58⟩
theorem fp_M_58 : av_FP R_M WS cl8 58 7 0 (tq_M 0) := ⟨R_M, T_M, 19, tq_M, rfl, Nat.le_of_ble_eq_true rfl, la_M, fk_M_58, t_M_ok, n_M, rfl, t_M_ok 0 (Nat.le_of_ble_eq_true rfl)⟩
theorem fk_M_61 : Cond.fieldLink R_M 61 (T_M 1).1 (T_M 1).2.1 (T_M 1).2.2.1 ∈ WS := ws_t (List.mem_of_getElem? (i := 635) (by decide +kernel)) (by decide +kernel)
theorem fl_M_61 : av_F R_M WS cl8 61 7 1 := ⟨R_M, T_M, 19, rfl, Nat.le_of_ble_eq_true rfl, la_M, fk_M_61⟩
theorem fp_M_61 : av_FP R_M WS cl8 61 7 1 (tq_M 1) := ⟨R_M, T_M, 19, tq_M, rfl, Nat.le_of_ble_eq_true rfl, la_M, fk_M_61, t_M_ok, n_M, rfl, t_M_ok 1 (Nat.le_of_ble_eq_true rfl)⟩
theorem fk_M_7 : Cond.fieldLink R_M 7 (T_M 2).1 (T_M 2).2.1 (T_M 2).2.2.1 ∈ WS := ws_t (List.mem_of_getElem? (i := 636) (by decide +kernel)) (by decide +kernel)
theorem fl_M_7 : av_F R_M WS cl8 7 7 2 := ⟨R_M, T_M, 19, rfl, Nat.le_of_ble_eq_true rfl, la_M, fk_M_7⟩
theorem fk_M_13 : Cond.fieldLink R_M 13 (T_M 3).1 (T_M 3).2.1 (T_M 3).2.2.1 ∈ WS := ws_t (List.mem_of_getElem? (i := 637) (by decide +kernel)) (by decide +kernel)
theorem fl_M_13 : av_F R_M WS cl8 13 7 3 := ⟨R_M, T_M, 19, rfl, Nat.le_of_ble_eq_true rfl, la_M, fk_M_13⟩
theorem fk_M_64 : Cond.fieldLink R_M 64 (T_M 4).1 (T_M 4).2.1 (T_M 4).2.2.1 ∈ WS := ws_t (List.mem_of_getElem? (i := 638) (by decide +kernel)) (by decide +kernel)
theorem fl_M_64 : av_F R_M WS cl8 64 7 4 := ⟨R_M, T_M, 19, rfl, Nat.le_of_ble_eq_true rfl, la_M, fk_M_64⟩
theorem fp_M_64 : av_FP R_M WS cl8 64 7 4 (tq_M 4) := ⟨R_M, T_M, 19, tq_M, rfl, Nat.le_of_ble_eq_true rfl, la_M, fk_M_64, t_M_ok, n_M, rfl, t_M_ok 4 (Nat.le_of_ble_eq_true rfl)⟩
theorem fk_M_16 : Cond.fieldLink R_M 16 (T_M 5).1 (T_M 5).2.1 (T_M 5).2.2.1 ∈ WS := ws_t (List.mem_of_getElem? (i := 639) (by decide +kernel)) (by decide +kernel)
theorem fl_M_16 : av_F R_M WS cl8 16 7 5 := ⟨R_M, T_M, 19, rfl, Nat.le_of_ble_eq_true rfl, la_M, fk_M_16⟩
theorem fk_M_19 : Cond.fieldLink R_M 19 (T_M 6).1 (T_M 6).2.1 (T_M 6).2.2.1 ∈ WS := ws_t (List.mem_of_getElem? (i := 640) (by decide +kernel)) (by decide +kernel)
theorem fl_M_19 : av_F R_M WS cl8 19 7 6 := ⟨R_M, T_M, 19, rfl, Nat.le_of_ble_eq_true rfl, la_M, fk_M_19⟩
theorem fk_M_22 : Cond.fieldLink R_M 22 (T_M 7).1 (T_M 7).2.1 (T_M 7).2.2.1 ∈ WS := ws_t (List.mem_of_getElem? (i := 641) (by decide +kernel)) (by decide +kernel)
theorem fl_M_22 : av_F R_M WS cl8 22 7 7 := ⟨R_M, T_M, 19, rfl, Nat.le_of_ble_eq_true rfl, la_M, fk_M_22⟩
theorem fk_M_25 : Cond.fieldLink R_M 25 (T_M 8).1 (T_M 8).2.1 (T_M 8).2.2.1 ∈ WS := ws_t (List.mem_of_getElem? (i := 642) (by decide +kernel)) (by decide +kernel)
theorem fl_M_25 : av_F R_M WS cl8 25 7 8 := ⟨R_M, T_M, 19, rfl, Nat.le_of_ble_eq_true rfl, la_M, fk_M_25⟩
theorem fk_M_28 : Cond.fieldLink R_M 28 (T_M 9).1 (T_M 9).2.1 (T_M 9).2.2.1 ∈ WS := ws_t (List.mem_of_getElem? (i := 643) (by decide +kernel)) (by decide +kernel)
theorem fl_M_28 : av_F R_M WS cl8 28 7 9 := ⟨R_M, T_M, 19, rfl, Nat.le_of_ble_eq_true rfl, la_M, fk_M_28⟩
theorem fp_M_28 : av_FP R_M WS cl8 28 7 9 (tq_M 9) := ⟨R_M, T_M, 19, tq_M, rfl, Nat.le_of_ble_eq_true rfl, la_M, fk_M_28, t_M_ok, n_M, rfl, t_M_ok 9 (Nat.le_of_ble_eq_true rfl)⟩
theorem fk_M_32 : Cond.fieldLink R_M 32 (T_M 10).1 (T_M 10).2.1 (T_M 10).2.2.1 ∈ WS := ws_t (List.mem_of_getElem? (i := 644) (by decide +kernel)) (by decide +kernel)
theorem fl_M_32 : av_F R_M WS cl8 32 7 10 := ⟨R_M, T_M, 19, rfl, Nat.le_of_ble_eq_true rfl, la_M, fk_M_32⟩
theorem fk_M_36 : Cond.fieldLink R_M 36 (T_M 11).1 (T_M 11).2.1 (T_M 11).2.2.1 ∈ WS := ws_t (List.mem_of_getElem? (i := 645) (by decide +kernel)) (by decide +kernel)
theorem fl_M_36 : av_F R_M WS cl8 36 7 11 := ⟨R_M, T_M, 19, rfl, Nat.le_of_ble_eq_true rfl, la_M, fk_M_36⟩
theorem fk_M_39 : Cond.fieldLink R_M 39 (T_M 12).1 (T_M 12).2.1 (T_M 12).2.2.1 ∈ WS := ws_t (List.mem_of_getElem? (i := 646) (by decide +kernel)) (by decide +kernel)
theorem fl_M_39 : av_F R_M WS cl8 39 7 12 := ⟨R_M, T_M, 19, rfl, Nat.le_of_ble_eq_true rfl, la_M, fk_M_39⟩
theorem fk_M_42 : Cond.fieldLink R_M 42 (T_M 13).1 (T_M 13).2.1 (T_M 13).2.2.1 ∈ WS := ws_t (List.mem_of_getElem? (i := 647) (by decide +kernel)) (by decide +kernel)
theorem fl_M_42 : av_F R_M WS cl8 42 7 13 := ⟨R_M, T_M, 19, rfl, Nat.le_of_ble_eq_true rfl, la_M, fk_M_42⟩
theorem fk_M_45 : Cond.fieldLink R_M 45 (T_M 14).1 (T_M 14).2.1 (T_M 14).2.2.1 ∈ WS := ws_t (List.mem_of_getElem? (i := 648) (by decide +kernel)) (by decide +kernel)
theorem fl_M_45 : av_F R_M WS cl8 45 7 14 := ⟨R_M, T_M, 19, rfl, Nat.le_of_ble_eq_true rfl, la_M, fk_M_45⟩
theorem fk_M_48 : Cond.fieldLink R_M 48 (T_M 15).1 (T_M 15).2.1 (T_M 15).2.2.1 ∈ WS := ws_t (List.mem_of_getElem? (i := 649) (by decide +kernel)) (by decide +kernel)
theorem fl_M_48 : av_F R_M WS cl8 48 7 15 := ⟨R_M, T_M, 19, rfl, Nat.le_of_ble_eq_true rfl, la_M, fk_M_48⟩
theorem fk_M_113 : Cond.fieldLink R_M 113 (T_M 16).1 (T_M 16).2.1 (T_M 16).2.2.1 ∈ WS := ws_t (List.mem_of_getElem? (i := 650) (by decide +kernel)) (by decide +kernel)
theorem fl_M_113 : av_F R_M WS cl8 113 7 16 := ⟨R_M, T_M, 19, rfl, Nat.le_of_ble_eq_true rfl, la_M, fk_M_113⟩
theorem fp_M_113 : av_FP R_M WS cl8 113 7 16 (tq_M 16) := ⟨R_M, T_M, 19, tq_M, rfl, Nat.le_of_ble_eq_true rfl, la_M, fk_M_113, t_M_ok, n_M, rfl, t_M_ok 16 (Nat.le_of_ble_eq_true rfl)⟩
theorem fk_M_52 : Cond.fieldLink R_M 52 (T_M 17).1 (T_M 17).2.1 (T_M 17).2.2.1 ∈ WS := ws_t (List.mem_of_getElem? (i := 651) (by decide +kernel)) (by decide +kernel)
theorem fl_M_52 : av_F R_M WS cl8 52 7 17 := ⟨R_M, T_M, 19, rfl, Nat.le_of_ble_eq_true rfl, la_M, fk_M_52⟩
theorem fk_M_55 : Cond.fieldLink R_M 55 (T_M 18).1 (T_M 18).2.1 (T_M 18).2.2.1 ∈ WS := ws_t (List.mem_of_getElem? (i := 652) (by decide +kernel)) (by decide +kernel)
theorem fl_M_55 : av_F R_M WS cl8 55 7 18 := ⟨R_M, T_M, 19, rfl, Nat.le_of_ble_eq_true rfl, la_M, fk_M_55⟩
theorem fl_O_27 : av_FN R_O "FaultTreeDesk" WS NS cl8 27 1 0 := ⟨R_E, T_E, 3, rfl, Nat.le_of_ble_eq_true rfl, la_E, List.mem_of_getElem? (i := 1) rfl⟩
theorem fl_F_86 : av_FN R_F "FaultTreeDesk" WS NS cl8 86 1 0 := ⟨R_E, T_E, 3, rfl, Nat.le_of_ble_eq_true rfl, la_E, List.mem_of_getElem? (i := 2) rfl⟩
theorem fl_T_41 : av_FN R_T "FaultTreeDesk" WS NS cl8 41 1 1 := ⟨R_E, T_E, 3, rfl, Nat.le_of_ble_eq_true rfl, la_E, List.mem_of_getElem? (i := 3) rfl⟩
theorem fl_F_95 : av_FN R_F "FaultTreeDesk" WS NS cl8 95 1 1 := ⟨R_E, T_E, 3, rfl, Nat.le_of_ble_eq_true rfl, la_E, List.mem_of_getElem? (i := 4) rfl⟩
theorem fl_O_15 : av_FN R_O "FaultTreeDesk" WS NS cl8 15 1 2 := ⟨R_E, T_E, 3, rfl, Nat.le_of_ble_eq_true rfl, la_E, List.mem_of_getElem? (i := 5) rfl⟩
theorem fl_T_30 : av_FN R_T "FaultTreeDesk" WS NS cl8 30 1 2 := ⟨R_E, T_E, 3, rfl, Nat.le_of_ble_eq_true rfl, la_E, List.mem_of_getElem? (i := 6) rfl⟩
theorem fl_F_66 : av_FN R_F "FaultTreeDesk" WS NS cl8 66 1 2 := ⟨R_E, T_E, 3, rfl, Nat.le_of_ble_eq_true rfl, la_E, List.mem_of_getElem? (i := 7) rfl⟩
theorem fl_T_78 : av_FN R_T "FaultTreeDesk" WS NS cl8 78 2 0 := ⟨R_G, T_G, 5, rfl, Nat.le_of_ble_eq_true rfl, la_G, List.mem_of_getElem? (i := 9) rfl⟩
theorem fl_T_89 : av_FN R_T "FaultTreeDesk" WS NS cl8 89 2 1 := ⟨R_G, T_G, 5, rfl, Nat.le_of_ble_eq_true rfl, la_G, List.mem_of_getElem? (i := 10) rfl⟩
theorem fl_T_72 : av_FN R_T "FaultTreeDesk" WS NS cl8 72 2 2 := ⟨R_G, T_G, 5, rfl, Nat.le_of_ble_eq_true rfl, la_G, List.mem_of_getElem? (i := 11) rfl⟩
theorem fl_T_65 : av_FN R_T "FaultTreeDesk" WS NS cl8 65 2 3 := ⟨R_G, T_G, 5, rfl, Nat.le_of_ble_eq_true rfl, la_G, List.mem_of_getElem? (i := 12) rfl⟩
theorem fl_T_64 : av_FN R_T "FaultTreeDesk" WS NS cl8 64 2 4 := ⟨R_G, T_G, 5, rfl, Nat.le_of_ble_eq_true rfl, la_G, List.mem_of_getElem? (i := 13) rfl⟩
theorem fl_F_102 : av_FN R_F "FaultTreeDesk" WS NS cl8 102 2 4 := ⟨R_G, T_G, 5, rfl, Nat.le_of_ble_eq_true rfl, la_G, List.mem_of_getElem? (i := 14) rfl⟩
theorem fl_X_34 : av_FN R_X "FaultTreeDesk" WS NS cl8 34 5 0 := ⟨R_T, T_T, 5, rfl, Nat.le_of_ble_eq_true rfl, la_T, List.mem_of_getElem? (i := 16) rfl⟩
theorem fl_X_31 : av_FN R_X "FaultTreeDesk" WS NS cl8 31 5 3 := ⟨R_T, T_T, 5, rfl, Nat.le_of_ble_eq_true rfl, la_T, List.mem_of_getElem? (i := 17) rfl⟩
theorem fl_X_37 : av_FN R_X "FaultTreeDesk" WS NS cl8 37 5 4 := ⟨R_T, T_T, 5, rfl, Nat.le_of_ble_eq_true rfl, la_T, List.mem_of_getElem? (i := 18) rfl⟩
theorem fl_F_177 : av_FN R_F "FaultTreeDesk" WS NS cl8 177 4 3 := ⟨R_X, T_X, 5, rfl, Nat.le_of_ble_eq_true rfl, la_X, List.mem_of_getElem? (i := 22) rfl⟩
theorem fl_F_208 : av_FN R_F "FaultTreeDesk" WS NS cl8 208 4 4 := ⟨R_X, T_X, 5, rfl, Nat.le_of_ble_eq_true rfl, la_X, List.mem_of_getElem? (i := 23) rfl⟩
theorem st_T : Cond.fieldLinkNest R_T 54 "FaultTreeDesk" "ON_IN_WORD" "[J" "FaultTreeDesk" ∈ NS := List.mem_of_getElem? (i := 24) rfl
theorem st_X : Cond.fieldLinkNest R_X 65 "FaultTreeDesk" "ON_IN_WORD" "[J" "FaultTreeDesk" ∈ NS := List.mem_of_getElem? (i := 25) rfl
theorem in_D : Cond.initialized "FaultTreeDesk$Diagram" ∈ WS := ws_t (List.mem_of_getElem? (i := 6) (by decide +kernel)) (by decide +kernel)
theorem in_E : Cond.initialized "FaultTreeDesk$Events" ∈ WS := ws_t (List.mem_of_getElem? (i := 2) (by decide +kernel)) (by decide +kernel)
theorem in_G : Cond.initialized "FaultTreeDesk$Gates" ∈ WS := ws_t (List.mem_of_getElem? (i := 3) (by decide +kernel)) (by decide +kernel)
theorem in_O : Cond.initialized "FaultTreeDesk$Odds" ∈ WS := ws_t (List.mem_of_getElem? (i := 5) (by decide +kernel)) (by decide +kernel)
theorem in_X : Cond.initialized "FaultTreeDesk$Terms" ∈ WS := ws_t (List.mem_of_getElem? (i := 7) (by decide +kernel)) (by decide +kernel)
theorem in_T : Cond.initialized "FaultTreeDesk$Truth" ∈ WS := ws_t (List.mem_of_getElem? (i := 4) (by decide +kernel)) (by decide +kernel)
theorem in_F : Cond.initialized "FaultTreeDesk" ∈ WS := ws_t (List.mem_of_getElem? (i := 1) (by decide +kernel)) (by decide +kernel)
theorem in_M : Cond.initialized "FaultTreeDeskModel" ∈ WS := ws_t (List.mem_of_getElem? (i := 8) (by decide +kernel)) (by decide +kernel)
theorem in_L : Cond.initialized "FaultTreeDeskLaw" ∈ WS := ws_t (List.mem_of_getElem? (i := 0) (by decide +kernel)) (by decide +kernel)
theorem in_JI : Cond.initialized "java/lang/Integer" ∈ WS := ws_t (List.mem_of_getElem? (i := 14) (by decide +kernel)) (by decide +kernel)
theorem in_JL : Cond.initialized "java/lang/Long" ∈ WS := ws_t (List.mem_of_getElem? (i := 17) (by decide +kernel)) (by decide +kernel)
theorem in_JM : Cond.initialized "java/lang/Math" ∈ WS := ws_t (List.mem_of_getElem? (i := 16) (by decide +kernel)) (by decide +kernel)
theorem cc_JI_265 : Cond.constant "java/lang/Integer" 265 (1431655765 : Int32) ∈ WS := ws_t (List.mem_of_getElem? (i := 364) (by decide +kernel)) (by decide +kernel)
theorem cc_JI_266 : Cond.constant "java/lang/Integer" 266 (858993459 : Int32) ∈ WS := ws_t (List.mem_of_getElem? (i := 365) (by decide +kernel)) (by decide +kernel)
theorem cc_JI_267 : Cond.constant "java/lang/Integer" 267 (252645135 : Int32) ∈ WS := ws_t (List.mem_of_getElem? (i := 366) (by decide +kernel)) (by decide +kernel)
theorem cl_T_52 : Cond.constantLong "FaultTreeDesk$Truth" 52 (-1 : Int64) ∈ WS := ws_t (List.mem_of_getElem? (i := 430) (by decide +kernel)) (by decide +kernel)
theorem cl_O_31 : Cond.constantLong "FaultTreeDesk$Odds" 31 (10 : Int64) ∈ WS := ws_t (List.mem_of_getElem? (i := 482) (by decide +kernel)) (by decide +kernel)
theorem cl_X_81 : Cond.constantLong "FaultTreeDesk$Terms" 81 (-1 : Int64) ∈ WS := ws_t (List.mem_of_getElem? (i := 534) (by decide +kernel)) (by decide +kernel)
theorem cl_JL_314 : Cond.constantLong "java/lang/Long" 314 (6148914691236517205 : Int64) ∈ WS := ws_t (List.mem_of_getElem? (i := 551) (by decide +kernel)) (by decide +kernel)
theorem cl_JL_316 : Cond.constantLong "java/lang/Long" 316 (3689348814741910323 : Int64) ∈ WS := ws_t (List.mem_of_getElem? (i := 552) (by decide +kernel)) (by decide +kernel)
theorem cl_JL_318 : Cond.constantLong "java/lang/Long" 318 (1085102592571150095 : Int64) ∈ WS := ws_t (List.mem_of_getElem? (i := 553) (by decide +kernel)) (by decide +kernel)
theorem cl_M_97 : Cond.constantLong "FaultTreeDeskModel" 97 (10 : Int64) ∈ WS := ws_t (List.mem_of_getElem? (i := 769) (by decide +kernel)) (by decide +kernel)
theorem cl_M_126 : Cond.constantLong "FaultTreeDeskModel" 126 (-1 : Int64) ∈ WS := ws_t (List.mem_of_getElem? (i := 809) (by decide +kernel)) (by decide +kernel)
abbrev b_F_init : ByteArray := prog_1_method_1_code
def y_F_init : MethodName := ⟨"FaultTreeDesk", "<init>", "()V"⟩
def w_F_init : List Cond := Cond.code y_F_init b_F_init 1 none :: WS
set_option maxRecDepth 100000 in
theorem co_F_init : Cond.code y_F_init b_F_init 1 none ∈ WS := ws_t (List.mem_of_getElem? (i := 24) rfl) rfl
theorem im_F_init : Cond.instanceMethod y_F_init ∈ WS := ws_t (List.mem_of_getElem? (i := 23) (by decide +kernel)) (by decide +kernel)
abbrev b_E_init : ByteArray := prog_3_method_1_code
def y_E_init : MethodName := ⟨"FaultTreeDesk$Events", "<init>", "()V"⟩
def w_E_init : List Cond := Cond.code y_E_init b_E_init 1 none :: WS
set_option maxRecDepth 100000 in
theorem co_E_init : Cond.code y_E_init b_E_init 1 none ∈ WS := ws_t (List.mem_of_getElem? (i := 32) rfl) rfl
theorem im_E_init : Cond.instanceMethod y_E_init ∈ WS := ws_t (List.mem_of_getElem? (i := 31) (by decide +kernel)) (by decide +kernel)
abbrev b_G_init : ByteArray := prog_4_method_1_code
def y_G_init : MethodName := ⟨"FaultTreeDesk$Gates", "<init>", "()V"⟩
def w_G_init : List Cond := Cond.code y_G_init b_G_init 1 none :: WS
set_option maxRecDepth 100000 in
theorem co_G_init : Cond.code y_G_init b_G_init 1 none ∈ WS := ws_t (List.mem_of_getElem? (i := 56) rfl) rfl
theorem im_G_init : Cond.instanceMethod y_G_init ∈ WS := ws_t (List.mem_of_getElem? (i := 55) (by decide +kernel)) (by decide +kernel)
abbrev b_T_init : ByteArray := prog_7_method_1_code
def y_T_init : MethodName := ⟨"FaultTreeDesk$Truth", "<init>", "()V"⟩
def w_T_init : List Cond := Cond.code y_T_init b_T_init 1 none :: WS
set_option maxRecDepth 100000 in
theorem co_T_init : Cond.code y_T_init b_T_init 1 none ∈ WS := ws_t (List.mem_of_getElem? (i := 84) rfl) rfl
theorem im_T_init : Cond.instanceMethod y_T_init ∈ WS := ws_t (List.mem_of_getElem? (i := 83) (by decide +kernel)) (by decide +kernel)
abbrev b_O_init : ByteArray := prog_5_method_1_code
def y_O_init : MethodName := ⟨"FaultTreeDesk$Odds", "<init>", "()V"⟩
def w_O_init : List Cond := Cond.code y_O_init b_O_init 1 none :: WS
set_option maxRecDepth 100000 in
theorem co_O_init : Cond.code y_O_init b_O_init 1 none ∈ WS := ws_t (List.mem_of_getElem? (i := 112) rfl) rfl
theorem im_O_init : Cond.instanceMethod y_O_init ∈ WS := ws_t (List.mem_of_getElem? (i := 111) (by decide +kernel)) (by decide +kernel)
abbrev b_D_init : ByteArray := prog_2_method_1_code
def y_D_init : MethodName := ⟨"FaultTreeDesk$Diagram", "<init>", "()V"⟩
def w_D_init : List Cond := Cond.code y_D_init b_D_init 1 none :: WS
set_option maxRecDepth 100000 in
theorem co_D_init : Cond.code y_D_init b_D_init 1 none ∈ WS := ws_t (List.mem_of_getElem? (i := 122) rfl) rfl
theorem im_D_init : Cond.instanceMethod y_D_init ∈ WS := ws_t (List.mem_of_getElem? (i := 121) (by decide +kernel)) (by decide +kernel)
abbrev b_X_init : ByteArray := prog_6_method_1_code
def y_X_init : MethodName := ⟨"FaultTreeDesk$Terms", "<init>", "()V"⟩
def w_X_init : List Cond := Cond.code y_X_init b_X_init 1 none :: WS
set_option maxRecDepth 100000 in
theorem co_X_init : Cond.code y_X_init b_X_init 1 none ∈ WS := ws_t (List.mem_of_getElem? (i := 138) rfl) rfl
theorem im_X_init : Cond.instanceMethod y_X_init ∈ WS := ws_t (List.mem_of_getElem? (i := 137) (by decide +kernel)) (by decide +kernel)
abbrev b_F_event : ByteArray := prog_1_method_2_code
def y_F_event : MethodName := ⟨"FaultTreeDesk", "event", "(I)I"⟩
def w_F_event : List Cond := Cond.code y_F_event b_F_event 2 (some .int) :: WS
set_option maxRecDepth 100000 in
theorem co_F_event : Cond.code y_F_event b_F_event 2 (some .int) ∈ WS := ws_t (List.mem_of_getElem? (i := 195) rfl) rfl
theorem im_F_event : Cond.instanceMethod y_F_event ∈ WS := ws_t (List.mem_of_getElem? (i := 193) (by decide +kernel)) (by decide +kernel)
theorem se_F_event : Cond.selects "FaultTreeDesk" y_F_event y_F_event ∈ WS := ws_t (List.mem_of_getElem? (i := 194) (by decide +kernel)) (by decide +kernel)
theorem cd_F_event : y_F_event.cls = R_F ∧ y_F_event.cls ≠ "java/lang/invoke/MethodHandle" ∧ y_F_event.cls ≠ "java/lang/invoke/VarHandle" ∧ (parseMethodDescriptor y_F_event.desc).map (fun d => d.parameters.length) = some 1 := by decide +kernel
abbrev b_F_needChance : ByteArray := prog_1_method_17_code
def y_F_needChance : MethodName := ⟨"FaultTreeDesk", "needChance", "(I)V"⟩
def w_F_needChance : List Cond := Cond.code y_F_needChance b_F_needChance 2 none :: WS
set_option maxRecDepth 100000 in
theorem co_F_needChance : Cond.code y_F_needChance b_F_needChance 2 none ∈ WS := ws_t (List.mem_of_getElem? (i := 199) rfl) rfl
theorem im_F_needChance : Cond.instanceMethod y_F_needChance ∈ WS := ws_t (List.mem_of_getElem? (i := 198) (by decide +kernel)) (by decide +kernel)
theorem se_F_needChance : Cond.selects "FaultTreeDesk" y_F_needChance y_F_needChance ∈ WS := ws_p (List.mem_of_getElem? (i := 0) (by decide +kernel)) (by decide +kernel)
theorem cd_F_needChance : y_F_needChance.cls = R_F ∧ y_F_needChance.cls ≠ "java/lang/invoke/MethodHandle" ∧ y_F_needChance.cls ≠ "java/lang/invoke/VarHandle" ∧ (parseMethodDescriptor y_F_needChance.desc).map (fun d => d.parameters.length) = some 1 := by decide +kernel
abbrev b_F_forgetAnswers : ByteArray := prog_1_method_23_code
def y_F_forgetAnswers : MethodName := ⟨"FaultTreeDesk", "forgetAnswers", "()V"⟩
def w_F_forgetAnswers : List Cond := Cond.code y_F_forgetAnswers b_F_forgetAnswers 1 none :: WS
set_option maxRecDepth 100000 in
theorem co_F_forgetAnswers : Cond.code y_F_forgetAnswers b_F_forgetAnswers 1 none ∈ WS := ws_t (List.mem_of_getElem? (i := 288) rfl) rfl
theorem im_F_forgetAnswers : Cond.instanceMethod y_F_forgetAnswers ∈ WS := ws_t (List.mem_of_getElem? (i := 287) (by decide +kernel)) (by decide +kernel)
theorem se_F_forgetAnswers : Cond.selects "FaultTreeDesk" y_F_forgetAnswers y_F_forgetAnswers ∈ WS := ws_p (List.mem_of_getElem? (i := 2) (by decide +kernel)) (by decide +kernel)
theorem cd_F_forgetAnswers : y_F_forgetAnswers.cls = R_F ∧ y_F_forgetAnswers.cls ≠ "java/lang/invoke/MethodHandle" ∧ y_F_forgetAnswers.cls ≠ "java/lang/invoke/VarHandle" ∧ (parseMethodDescriptor y_F_forgetAnswers.desc).map (fun d => d.parameters.length) = some 0 := by decide +kernel
abbrev b_E_add : ByteArray := prog_3_method_3_code
def y_E_add : MethodName := ⟨"FaultTreeDesk$Events", "add", "(I)I"⟩
def w_E_add : List Cond := Cond.code y_E_add b_E_add 2 (some .int) :: WS
set_option maxRecDepth 100000 in
theorem co_E_add : Cond.code y_E_add b_E_add 2 (some .int) ∈ WS := ws_t (List.mem_of_getElem? (i := 292) rfl) rfl
theorem im_E_add : Cond.instanceMethod y_E_add ∈ WS := ws_t (List.mem_of_getElem? (i := 290) (by decide +kernel)) (by decide +kernel)
theorem se_E_add : Cond.selects "FaultTreeDesk$Events" y_E_add y_E_add ∈ WS := ws_t (List.mem_of_getElem? (i := 291) (by decide +kernel)) (by decide +kernel)
theorem cd_E_add : y_E_add.cls = R_E ∧ y_E_add.cls ≠ "java/lang/invoke/MethodHandle" ∧ y_E_add.cls ≠ "java/lang/invoke/VarHandle" ∧ (parseMethodDescriptor y_E_add.desc).map (fun d => d.parameters.length) = some 1 := by decide +kernel
abbrev b_F_chance : ByteArray := prog_1_method_3_code
def y_F_chance : MethodName := ⟨"FaultTreeDesk", "chance", "(II)I"⟩
def w_F_chance : List Cond := Cond.code y_F_chance b_F_chance 4 (some .int) :: WS
set_option maxRecDepth 100000 in
theorem co_F_chance : Cond.code y_F_chance b_F_chance 4 (some .int) ∈ WS := ws_t (List.mem_of_getElem? (i := 299) rfl) rfl
theorem im_F_chance : Cond.instanceMethod y_F_chance ∈ WS := ws_t (List.mem_of_getElem? (i := 297) (by decide +kernel)) (by decide +kernel)
theorem se_F_chance : Cond.selects "FaultTreeDesk" y_F_chance y_F_chance ∈ WS := ws_t (List.mem_of_getElem? (i := 298) (by decide +kernel)) (by decide +kernel)
theorem cd_F_chance : y_F_chance.cls = R_F ∧ y_F_chance.cls ≠ "java/lang/invoke/MethodHandle" ∧ y_F_chance.cls ≠ "java/lang/invoke/VarHandle" ∧ (parseMethodDescriptor y_F_chance.desc).map (fun d => d.parameters.length) = some 2 := by decide +kernel
abbrev b_F_needEvent : ByteArray := prog_1_method_18_code
def y_F_needEvent : MethodName := ⟨"FaultTreeDesk", "needEvent", "(I)V"⟩
def w_F_needEvent : List Cond := Cond.code y_F_needEvent b_F_needEvent 2 none :: WS
set_option maxRecDepth 100000 in
theorem co_F_needEvent : Cond.code y_F_needEvent b_F_needEvent 2 none ∈ WS := ws_t (List.mem_of_getElem? (i := 303) rfl) rfl
theorem im_F_needEvent : Cond.instanceMethod y_F_needEvent ∈ WS := ws_t (List.mem_of_getElem? (i := 302) (by decide +kernel)) (by decide +kernel)
theorem se_F_needEvent : Cond.selects "FaultTreeDesk" y_F_needEvent y_F_needEvent ∈ WS := ws_p (List.mem_of_getElem? (i := 3) (by decide +kernel)) (by decide +kernel)
theorem cd_F_needEvent : y_F_needEvent.cls = R_F ∧ y_F_needEvent.cls ≠ "java/lang/invoke/MethodHandle" ∧ y_F_needEvent.cls ≠ "java/lang/invoke/VarHandle" ∧ (parseMethodDescriptor y_F_needEvent.desc).map (fun d => d.parameters.length) = some 1 := by decide +kernel
abbrev b_E_has : ByteArray := prog_3_method_2_code
def y_E_has : MethodName := ⟨"FaultTreeDesk$Events", "has", "(I)Z"⟩
def w_E_has : List Cond := Cond.code y_E_has b_E_has 2 (some .boolean) :: WS
set_option maxRecDepth 100000 in
theorem co_E_has : Cond.code y_E_has b_E_has 2 (some .boolean) ∈ WS := ws_t (List.mem_of_getElem? (i := 307) rfl) rfl
theorem im_E_has : Cond.instanceMethod y_E_has ∈ WS := ws_t (List.mem_of_getElem? (i := 305) (by decide +kernel)) (by decide +kernel)
theorem se_E_has : Cond.selects "FaultTreeDesk$Events" y_E_has y_E_has ∈ WS := ws_t (List.mem_of_getElem? (i := 306) (by decide +kernel)) (by decide +kernel)
theorem cd_E_has : y_E_has.cls = R_E ∧ y_E_has.cls ≠ "java/lang/invoke/MethodHandle" ∧ y_E_has.cls ≠ "java/lang/invoke/VarHandle" ∧ (parseMethodDescriptor y_E_has.desc).map (fun d => d.parameters.length) = some 1 := by decide +kernel
abbrev b_F_hold : ByteArray := prog_1_method_4_code
def y_F_hold : MethodName := ⟨"FaultTreeDesk", "hold", "(II)I"⟩
def w_F_hold : List Cond := Cond.code y_F_hold b_F_hold 4 (some .int) :: WS
set_option maxRecDepth 100000 in
theorem co_F_hold : Cond.code y_F_hold b_F_hold 4 (some .int) ∈ WS := ws_t (List.mem_of_getElem? (i := 315) rfl) rfl
theorem im_F_hold : Cond.instanceMethod y_F_hold ∈ WS := ws_t (List.mem_of_getElem? (i := 313) (by decide +kernel)) (by decide +kernel)
theorem se_F_hold : Cond.selects "FaultTreeDesk" y_F_hold y_F_hold ∈ WS := ws_t (List.mem_of_getElem? (i := 314) (by decide +kernel)) (by decide +kernel)
theorem cd_F_hold : y_F_hold.cls = R_F ∧ y_F_hold.cls ≠ "java/lang/invoke/MethodHandle" ∧ y_F_hold.cls ≠ "java/lang/invoke/VarHandle" ∧ (parseMethodDescriptor y_F_hold.desc).map (fun d => d.parameters.length) = some 2 := by decide +kernel
abbrev b_F_gate : ByteArray := prog_1_method_5_code
def y_F_gate : MethodName := ⟨"FaultTreeDesk", "gate", "(II)I"⟩
def w_F_gate : List Cond := Cond.code y_F_gate b_F_gate 3 (some .int) :: WS
set_option maxRecDepth 100000 in
theorem co_F_gate : Cond.code y_F_gate b_F_gate 3 (some .int) ∈ WS := ws_t (List.mem_of_getElem? (i := 323) rfl) rfl
theorem im_F_gate : Cond.instanceMethod y_F_gate ∈ WS := ws_t (List.mem_of_getElem? (i := 321) (by decide +kernel)) (by decide +kernel)
theorem se_F_gate : Cond.selects "FaultTreeDesk" y_F_gate y_F_gate ∈ WS := ws_t (List.mem_of_getElem? (i := 322) (by decide +kernel)) (by decide +kernel)
theorem cd_F_gate : y_F_gate.cls = R_F ∧ y_F_gate.cls ≠ "java/lang/invoke/MethodHandle" ∧ y_F_gate.cls ≠ "java/lang/invoke/VarHandle" ∧ (parseMethodDescriptor y_F_gate.desc).map (fun d => d.parameters.length) = some 2 := by decide +kernel
abbrev b_G_add : ByteArray := prog_4_method_4_code
def y_G_add : MethodName := ⟨"FaultTreeDesk$Gates", "add", "(II)I"⟩
def w_G_add : List Cond := Cond.code y_G_add b_G_add 3 (some .int) :: WS
set_option maxRecDepth 100000 in
theorem co_G_add : Cond.code y_G_add b_G_add 3 (some .int) ∈ WS := ws_t (List.mem_of_getElem? (i := 330) rfl) rfl
theorem im_G_add : Cond.instanceMethod y_G_add ∈ WS := ws_t (List.mem_of_getElem? (i := 328) (by decide +kernel)) (by decide +kernel)
theorem se_G_add : Cond.selects "FaultTreeDesk$Gates" y_G_add y_G_add ∈ WS := ws_t (List.mem_of_getElem? (i := 329) (by decide +kernel)) (by decide +kernel)
theorem cd_G_add : y_G_add.cls = R_G ∧ y_G_add.cls ≠ "java/lang/invoke/MethodHandle" ∧ y_G_add.cls ≠ "java/lang/invoke/VarHandle" ∧ (parseMethodDescriptor y_G_add.desc).map (fun d => d.parameters.length) = some 2 := by decide +kernel
abbrev b_F_input : ByteArray := prog_1_method_6_code
def y_F_input : MethodName := ⟨"FaultTreeDesk", "input", "(II)I"⟩
def w_F_input : List Cond := Cond.code y_F_input b_F_input 3 (some .int) :: WS
set_option maxRecDepth 100000 in
theorem co_F_input : Cond.code y_F_input b_F_input 3 (some .int) ∈ WS := ws_t (List.mem_of_getElem? (i := 338) rfl) rfl
theorem im_F_input : Cond.instanceMethod y_F_input ∈ WS := ws_t (List.mem_of_getElem? (i := 336) (by decide +kernel)) (by decide +kernel)
theorem se_F_input : Cond.selects "FaultTreeDesk" y_F_input y_F_input ∈ WS := ws_t (List.mem_of_getElem? (i := 337) (by decide +kernel)) (by decide +kernel)
theorem cd_F_input : y_F_input.cls = R_F ∧ y_F_input.cls ≠ "java/lang/invoke/MethodHandle" ∧ y_F_input.cls ≠ "java/lang/invoke/VarHandle" ∧ (parseMethodDescriptor y_F_input.desc).map (fun d => d.parameters.length) = some 2 := by decide +kernel
abbrev b_F_needGate : ByteArray := prog_1_method_19_code
def y_F_needGate : MethodName := ⟨"FaultTreeDesk", "needGate", "(I)V"⟩
def w_F_needGate : List Cond := Cond.code y_F_needGate b_F_needGate 2 none :: WS
set_option maxRecDepth 100000 in
theorem co_F_needGate : Cond.code y_F_needGate b_F_needGate 2 none ∈ WS := ws_t (List.mem_of_getElem? (i := 342) rfl) rfl
theorem im_F_needGate : Cond.instanceMethod y_F_needGate ∈ WS := ws_t (List.mem_of_getElem? (i := 341) (by decide +kernel)) (by decide +kernel)
theorem se_F_needGate : Cond.selects "FaultTreeDesk" y_F_needGate y_F_needGate ∈ WS := ws_p (List.mem_of_getElem? (i := 4) (by decide +kernel)) (by decide +kernel)
theorem cd_F_needGate : y_F_needGate.cls = R_F ∧ y_F_needGate.cls ≠ "java/lang/invoke/MethodHandle" ∧ y_F_needGate.cls ≠ "java/lang/invoke/VarHandle" ∧ (parseMethodDescriptor y_F_needGate.desc).map (fun d => d.parameters.length) = some 1 := by decide +kernel
abbrev b_G_has : ByteArray := prog_4_method_2_code
def y_G_has : MethodName := ⟨"FaultTreeDesk$Gates", "has", "(I)Z"⟩
def w_G_has : List Cond := Cond.code y_G_has b_G_has 2 (some .boolean) :: WS
set_option maxRecDepth 100000 in
theorem co_G_has : Cond.code y_G_has b_G_has 2 (some .boolean) ∈ WS := ws_t (List.mem_of_getElem? (i := 346) rfl) rfl
theorem im_G_has : Cond.instanceMethod y_G_has ∈ WS := ws_t (List.mem_of_getElem? (i := 344) (by decide +kernel)) (by decide +kernel)
theorem se_G_has : Cond.selects "FaultTreeDesk$Gates" y_G_has y_G_has ∈ WS := ws_t (List.mem_of_getElem? (i := 345) (by decide +kernel)) (by decide +kernel)
theorem cd_G_has : y_G_has.cls = R_G ∧ y_G_has.cls ≠ "java/lang/invoke/MethodHandle" ∧ y_G_has.cls ≠ "java/lang/invoke/VarHandle" ∧ (parseMethodDescriptor y_G_has.desc).map (fun d => d.parameters.length) = some 1 := by decide +kernel
abbrev b_G_hasCode : ByteArray := prog_4_method_3_code
def y_G_hasCode : MethodName := ⟨"FaultTreeDesk$Gates", "hasCode", "(I)Z"⟩
def w_G_hasCode : List Cond := Cond.code y_G_hasCode b_G_hasCode 2 (some .boolean) :: WS
set_option maxRecDepth 100000 in
theorem co_G_hasCode : Cond.code y_G_hasCode b_G_hasCode 2 (some .boolean) ∈ WS := ws_t (List.mem_of_getElem? (i := 351) rfl) rfl
theorem im_G_hasCode : Cond.instanceMethod y_G_hasCode ∈ WS := ws_t (List.mem_of_getElem? (i := 349) (by decide +kernel)) (by decide +kernel)
theorem se_G_hasCode : Cond.selects "FaultTreeDesk$Gates" y_G_hasCode y_G_hasCode ∈ WS := ws_t (List.mem_of_getElem? (i := 350) (by decide +kernel)) (by decide +kernel)
theorem cd_G_hasCode : y_G_hasCode.cls = R_G ∧ y_G_hasCode.cls ≠ "java/lang/invoke/MethodHandle" ∧ y_G_hasCode.cls ≠ "java/lang/invoke/VarHandle" ∧ (parseMethodDescriptor y_G_hasCode.desc).map (fun d => d.parameters.length) = some 1 := by decide +kernel
abbrev b_G_isChild : ByteArray := prog_4_method_5_code
def y_G_isChild : MethodName := ⟨"FaultTreeDesk$Gates", "isChild", "(II)Z"⟩
def w_G_isChild : List Cond := Cond.code y_G_isChild b_G_isChild 3 (some .boolean) :: WS
set_option maxRecDepth 100000 in
theorem co_G_isChild : Cond.code y_G_isChild b_G_isChild 3 (some .boolean) ∈ WS := ws_t (List.mem_of_getElem? (i := 356) rfl) rfl
theorem im_G_isChild : Cond.instanceMethod y_G_isChild ∈ WS := ws_t (List.mem_of_getElem? (i := 354) (by decide +kernel)) (by decide +kernel)
theorem se_G_isChild : Cond.selects "FaultTreeDesk$Gates" y_G_isChild y_G_isChild ∈ WS := ws_t (List.mem_of_getElem? (i := 355) (by decide +kernel)) (by decide +kernel)
theorem cd_G_isChild : y_G_isChild.cls = R_G ∧ y_G_isChild.cls ≠ "java/lang/invoke/MethodHandle" ∧ y_G_isChild.cls ≠ "java/lang/invoke/VarHandle" ∧ (parseMethodDescriptor y_G_isChild.desc).map (fun d => d.parameters.length) = some 2 := by decide +kernel
abbrev b_G_isFull : ByteArray := prog_4_method_6_code
def y_G_isFull : MethodName := ⟨"FaultTreeDesk$Gates", "isFull", "(I)Z"⟩
def w_G_isFull : List Cond := Cond.code y_G_isFull b_G_isFull 3 (some .boolean) :: WS
set_option maxRecDepth 100000 in
theorem co_G_isFull : Cond.code y_G_isFull b_G_isFull 3 (some .boolean) ∈ WS := ws_t (List.mem_of_getElem? (i := 360) rfl) rfl
theorem im_G_isFull : Cond.instanceMethod y_G_isFull ∈ WS := ws_t (List.mem_of_getElem? (i := 358) (by decide +kernel)) (by decide +kernel)
theorem se_G_isFull : Cond.selects "FaultTreeDesk$Gates" y_G_isFull y_G_isFull ∈ WS := ws_t (List.mem_of_getElem? (i := 359) (by decide +kernel)) (by decide +kernel)
theorem cd_G_isFull : y_G_isFull.cls = R_G ∧ y_G_isFull.cls ≠ "java/lang/invoke/MethodHandle" ∧ y_G_isFull.cls ≠ "java/lang/invoke/VarHandle" ∧ (parseMethodDescriptor y_G_isFull.desc).map (fun d => d.parameters.length) = some 1 := by decide +kernel
abbrev b_JI_bitCount : ByteArray := prog_14_method_49_code
def y_JI_bitCount : MethodName := ⟨"java/lang/Integer", "bitCount", "(I)I"⟩
def w_JI_bitCount : List Cond := Cond.code y_JI_bitCount b_JI_bitCount 1 (some .int) :: WS
set_option maxRecDepth 100000 in
theorem co_JI_bitCount : Cond.code y_JI_bitCount b_JI_bitCount 1 (some .int) ∈ WS := ws_t (List.mem_of_getElem? (i := 363) rfl) rfl
theorem sm_JI_bitCount : Cond.static y_JI_bitCount ∈ WS := ws_t (List.mem_of_getElem? (i := 362) (by decide +kernel)) (by decide +kernel)
theorem ce_JI_bitCount : y_JI_bitCount.cls ≠ "java/lang/invoke/MethodHandle" ∧ y_JI_bitCount.cls ≠ "java/lang/invoke/VarHandle" ∧ (parseMethodDescriptor y_JI_bitCount.desc).map (fun d => d.parameters.length) = some 1 := by decide +kernel
abbrev b_G_wouldLoop : ByteArray := prog_4_method_7_code
def y_G_wouldLoop : MethodName := ⟨"FaultTreeDesk$Gates", "wouldLoop", "(II)Z"⟩
def w_G_wouldLoop : List Cond := Cond.code y_G_wouldLoop b_G_wouldLoop 3 (some .boolean) :: WS
set_option maxRecDepth 100000 in
theorem co_G_wouldLoop : Cond.code y_G_wouldLoop b_G_wouldLoop 3 (some .boolean) ∈ WS := ws_t (List.mem_of_getElem? (i := 371) rfl) rfl
theorem im_G_wouldLoop : Cond.instanceMethod y_G_wouldLoop ∈ WS := ws_t (List.mem_of_getElem? (i := 369) (by decide +kernel)) (by decide +kernel)
theorem se_G_wouldLoop : Cond.selects "FaultTreeDesk$Gates" y_G_wouldLoop y_G_wouldLoop ∈ WS := ws_t (List.mem_of_getElem? (i := 370) (by decide +kernel)) (by decide +kernel)
theorem cd_G_wouldLoop : y_G_wouldLoop.cls = R_G ∧ y_G_wouldLoop.cls ≠ "java/lang/invoke/MethodHandle" ∧ y_G_wouldLoop.cls ≠ "java/lang/invoke/VarHandle" ∧ (parseMethodDescriptor y_G_wouldLoop.desc).map (fun d => d.parameters.length) = some 2 := by decide +kernel
abbrev b_G_withBelow : ByteArray := prog_4_method_9_code
def y_G_withBelow : MethodName := ⟨"FaultTreeDesk$Gates", "withBelow", "(I)I"⟩
def w_G_withBelow : List Cond := Cond.code y_G_withBelow b_G_withBelow 2 (some .int) :: WS
set_option maxRecDepth 100000 in
theorem co_G_withBelow : Cond.code y_G_withBelow b_G_withBelow 2 (some .int) ∈ WS := ws_t (List.mem_of_getElem? (i := 375) rfl) rfl
theorem im_G_withBelow : Cond.instanceMethod y_G_withBelow ∈ WS := ws_t (List.mem_of_getElem? (i := 373) (by decide +kernel)) (by decide +kernel)
theorem se_G_withBelow : Cond.selects "FaultTreeDesk$Gates" y_G_withBelow y_G_withBelow ∈ WS := ws_t (List.mem_of_getElem? (i := 374) (by decide +kernel)) (by decide +kernel)
theorem cd_G_withBelow : y_G_withBelow.cls = R_G ∧ y_G_withBelow.cls ≠ "java/lang/invoke/MethodHandle" ∧ y_G_withBelow.cls ≠ "java/lang/invoke/VarHandle" ∧ (parseMethodDescriptor y_G_withBelow.desc).map (fun d => d.parameters.length) = some 1 := by decide +kernel
abbrev b_G_join : ByteArray := prog_4_method_8_code
def y_G_join : MethodName := ⟨"FaultTreeDesk$Gates", "join", "(II)I"⟩
def w_G_join : List Cond := Cond.code y_G_join b_G_join 5 (some .int) :: WS
set_option maxRecDepth 100000 in
theorem co_G_join : Cond.code y_G_join b_G_join 5 (some .int) ∈ WS := ws_t (List.mem_of_getElem? (i := 395) rfl) rfl
theorem im_G_join : Cond.instanceMethod y_G_join ∈ WS := ws_t (List.mem_of_getElem? (i := 393) (by decide +kernel)) (by decide +kernel)
theorem se_G_join : Cond.selects "FaultTreeDesk$Gates" y_G_join y_G_join ∈ WS := ws_t (List.mem_of_getElem? (i := 394) (by decide +kernel)) (by decide +kernel)
theorem cd_G_join : y_G_join.cls = R_G ∧ y_G_join.cls ≠ "java/lang/invoke/MethodHandle" ∧ y_G_join.cls ≠ "java/lang/invoke/VarHandle" ∧ (parseMethodDescriptor y_G_join.desc).map (fun d => d.parameters.length) = some 2 := by decide +kernel
abbrev b_F_top : ByteArray := prog_1_method_7_code
def y_F_top : MethodName := ⟨"FaultTreeDesk", "top", "(I)V"⟩
def w_F_top : List Cond := Cond.code y_F_top b_F_top 2 none :: WS
set_option maxRecDepth 100000 in
theorem co_F_top : Cond.code y_F_top b_F_top 2 none ∈ WS := ws_t (List.mem_of_getElem? (i := 402) rfl) rfl
theorem im_F_top : Cond.instanceMethod y_F_top ∈ WS := ws_t (List.mem_of_getElem? (i := 400) (by decide +kernel)) (by decide +kernel)
theorem se_F_top : Cond.selects "FaultTreeDesk" y_F_top y_F_top ∈ WS := ws_t (List.mem_of_getElem? (i := 401) (by decide +kernel)) (by decide +kernel)
theorem cd_F_top : y_F_top.cls = R_F ∧ y_F_top.cls ≠ "java/lang/invoke/MethodHandle" ∧ y_F_top.cls ≠ "java/lang/invoke/VarHandle" ∧ (parseMethodDescriptor y_F_top.desc).map (fun d => d.parameters.length) = some 1 := by decide +kernel
abbrev b_F_value : ByteArray := prog_1_method_8_code
def y_F_value : MethodName := ⟨"FaultTreeDesk", "value", "(I)Z"⟩
def w_F_value : List Cond := Cond.code y_F_value b_F_value 2 (some .boolean) :: WS
set_option maxRecDepth 100000 in
theorem co_F_value : Cond.code y_F_value b_F_value 2 (some .boolean) ∈ WS := ws_t (List.mem_of_getElem? (i := 409) rfl) rfl
theorem im_F_value : Cond.instanceMethod y_F_value ∈ WS := ws_t (List.mem_of_getElem? (i := 407) (by decide +kernel)) (by decide +kernel)
theorem se_F_value : Cond.selects "FaultTreeDesk" y_F_value y_F_value ∈ WS := ws_t (List.mem_of_getElem? (i := 408) (by decide +kernel)) (by decide +kernel)
theorem cd_F_value : y_F_value.cls = R_F ∧ y_F_value.cls ≠ "java/lang/invoke/MethodHandle" ∧ y_F_value.cls ≠ "java/lang/invoke/VarHandle" ∧ (parseMethodDescriptor y_F_value.desc).map (fun d => d.parameters.length) = some 1 := by decide +kernel
abbrev b_F_needTop : ByteArray := prog_1_method_20_code
def y_F_needTop : MethodName := ⟨"FaultTreeDesk", "needTop", "()V"⟩
def w_F_needTop : List Cond := Cond.code y_F_needTop b_F_needTop 1 none :: WS
set_option maxRecDepth 100000 in
theorem co_F_needTop : Cond.code y_F_needTop b_F_needTop 1 none ∈ WS := ws_t (List.mem_of_getElem? (i := 413) rfl) rfl
theorem im_F_needTop : Cond.instanceMethod y_F_needTop ∈ WS := ws_t (List.mem_of_getElem? (i := 412) (by decide +kernel)) (by decide +kernel)
theorem se_F_needTop : Cond.selects "FaultTreeDesk" y_F_needTop y_F_needTop ∈ WS := ws_p (List.mem_of_getElem? (i := 5) (by decide +kernel)) (by decide +kernel)
theorem cd_F_needTop : y_F_needTop.cls = R_F ∧ y_F_needTop.cls ≠ "java/lang/invoke/MethodHandle" ∧ y_F_needTop.cls ≠ "java/lang/invoke/VarHandle" ∧ (parseMethodDescriptor y_F_needTop.desc).map (fun d => d.parameters.length) = some 0 := by decide +kernel
abbrev b_F_freshenTruth : ByteArray := prog_1_method_22_code
def y_F_freshenTruth : MethodName := ⟨"FaultTreeDesk", "freshenTruth", "()V"⟩
def w_F_freshenTruth : List Cond := Cond.code y_F_freshenTruth b_F_freshenTruth 1 none :: WS
set_option maxRecDepth 100000 in
theorem co_F_freshenTruth : Cond.code y_F_freshenTruth b_F_freshenTruth 1 none ∈ WS := ws_t (List.mem_of_getElem? (i := 418) rfl) rfl
theorem im_F_freshenTruth : Cond.instanceMethod y_F_freshenTruth ∈ WS := ws_t (List.mem_of_getElem? (i := 417) (by decide +kernel)) (by decide +kernel)
theorem se_F_freshenTruth : Cond.selects "FaultTreeDesk" y_F_freshenTruth y_F_freshenTruth ∈ WS := ws_p (List.mem_of_getElem? (i := 6) (by decide +kernel)) (by decide +kernel)
theorem cd_F_freshenTruth : y_F_freshenTruth.cls = R_F ∧ y_F_freshenTruth.cls ≠ "java/lang/invoke/MethodHandle" ∧ y_F_freshenTruth.cls ≠ "java/lang/invoke/VarHandle" ∧ (parseMethodDescriptor y_F_freshenTruth.desc).map (fun d => d.parameters.length) = some 0 := by decide +kernel
abbrev b_T_fill : ByteArray := prog_7_method_2_code
def y_T_fill : MethodName := ⟨"FaultTreeDesk$Truth", "fill", "(LFaultTreeDesk$Events;LFaultTreeDesk$Gates;II)V"⟩
def w_T_fill : List Cond := Cond.code y_T_fill b_T_fill 6 none :: WS
set_option maxRecDepth 100000 in
theorem co_T_fill : Cond.code y_T_fill b_T_fill 6 none ∈ WS := ws_t (List.mem_of_getElem? (i := 422) rfl) rfl
theorem im_T_fill : Cond.instanceMethod y_T_fill ∈ WS := ws_t (List.mem_of_getElem? (i := 420) (by decide +kernel)) (by decide +kernel)
theorem se_T_fill : Cond.selects "FaultTreeDesk$Truth" y_T_fill y_T_fill ∈ WS := ws_t (List.mem_of_getElem? (i := 421) (by decide +kernel)) (by decide +kernel)
theorem cd_T_fill : y_T_fill.cls = R_T ∧ y_T_fill.cls ≠ "java/lang/invoke/MethodHandle" ∧ y_T_fill.cls ≠ "java/lang/invoke/VarHandle" ∧ (parseMethodDescriptor y_T_fill.desc).map (fun d => d.parameters.length) = some 4 := by decide +kernel
theorem co_JM_max : Cond.code Lib.Math.max.name Lib.Math.max.code 2 (some .int) ∈ WS := ws_t (List.mem_of_getElem? (i := 425) (by decide +kernel)) rfl
theorem sm_JM_max : Cond.static Lib.Math.max.name ∈ WS := ws_t (List.mem_of_getElem? (i := 424) (by decide +kernel)) (by decide +kernel)
abbrev b_T_fillEvent : ByteArray := prog_7_method_4_code
def y_T_fillEvent : MethodName := ⟨"FaultTreeDesk$Truth", "fillEvent", "(II)V"⟩
def w_T_fillEvent : List Cond := Cond.code y_T_fillEvent b_T_fillEvent 4 none :: WS
set_option maxRecDepth 100000 in
theorem co_T_fillEvent : Cond.code y_T_fillEvent b_T_fillEvent 4 none ∈ WS := ws_t (List.mem_of_getElem? (i := 429) rfl) rfl
theorem im_T_fillEvent : Cond.instanceMethod y_T_fillEvent ∈ WS := ws_t (List.mem_of_getElem? (i := 428) (by decide +kernel)) (by decide +kernel)
theorem se_T_fillEvent : Cond.selects "FaultTreeDesk$Truth" y_T_fillEvent y_T_fillEvent ∈ WS := ws_p (List.mem_of_getElem? (i := 7) (by decide +kernel)) (by decide +kernel)
theorem cd_T_fillEvent : y_T_fillEvent.cls = R_T ∧ y_T_fillEvent.cls ≠ "java/lang/invoke/MethodHandle" ∧ y_T_fillEvent.cls ≠ "java/lang/invoke/VarHandle" ∧ (parseMethodDescriptor y_T_fillEvent.desc).map (fun d => d.parameters.length) = some 2 := by decide +kernel
abbrev b_T_fillGates : ByteArray := prog_7_method_5_code
def y_T_fillGates : MethodName := ⟨"FaultTreeDesk$Truth", "fillGates", "(LFaultTreeDesk$Gates;)V"⟩
def w_T_fillGates : List Cond := Cond.code y_T_fillGates b_T_fillGates 6 none :: WS
set_option maxRecDepth 100000 in
theorem co_T_fillGates : Cond.code y_T_fillGates b_T_fillGates 6 none ∈ WS := ws_t (List.mem_of_getElem? (i := 436) rfl) rfl
theorem im_T_fillGates : Cond.instanceMethod y_T_fillGates ∈ WS := ws_t (List.mem_of_getElem? (i := 435) (by decide +kernel)) (by decide +kernel)
theorem se_T_fillGates : Cond.selects "FaultTreeDesk$Truth" y_T_fillGates y_T_fillGates ∈ WS := ws_p (List.mem_of_getElem? (i := 8) (by decide +kernel)) (by decide +kernel)
theorem cd_T_fillGates : y_T_fillGates.cls = R_T ∧ y_T_fillGates.cls ≠ "java/lang/invoke/MethodHandle" ∧ y_T_fillGates.cls ≠ "java/lang/invoke/VarHandle" ∧ (parseMethodDescriptor y_T_fillGates.desc).map (fun d => d.parameters.length) = some 1 := by decide +kernel
abbrev b_T_fillGate : ByteArray := prog_7_method_6_code
def y_T_fillGate : MethodName := ⟨"FaultTreeDesk$Truth", "fillGate", "(LFaultTreeDesk$Gates;I)V"⟩
def w_T_fillGate : List Cond := Cond.code y_T_fillGate b_T_fillGate 8 none :: WS
set_option maxRecDepth 100000 in
theorem co_T_fillGate : Cond.code y_T_fillGate b_T_fillGate 8 none ∈ WS := ws_t (List.mem_of_getElem? (i := 441) rfl) rfl
theorem im_T_fillGate : Cond.instanceMethod y_T_fillGate ∈ WS := ws_t (List.mem_of_getElem? (i := 440) (by decide +kernel)) (by decide +kernel)
theorem se_T_fillGate : Cond.selects "FaultTreeDesk$Truth" y_T_fillGate y_T_fillGate ∈ WS := ws_p (List.mem_of_getElem? (i := 9) (by decide +kernel)) (by decide +kernel)
theorem cd_T_fillGate : y_T_fillGate.cls = R_T ∧ y_T_fillGate.cls ≠ "java/lang/invoke/MethodHandle" ∧ y_T_fillGate.cls ≠ "java/lang/invoke/VarHandle" ∧ (parseMethodDescriptor y_T_fillGate.desc).map (fun d => d.parameters.length) = some 2 := by decide +kernel
abbrev b_T_listInputs : ByteArray := prog_7_method_7_code
def y_T_listInputs : MethodName := ⟨"FaultTreeDesk$Truth", "listInputs", "(I)I"⟩
def w_T_listInputs : List Cond := Cond.code y_T_listInputs b_T_listInputs 4 (some .int) :: WS
set_option maxRecDepth 100000 in
theorem co_T_listInputs : Cond.code y_T_listInputs b_T_listInputs 4 (some .int) ∈ WS := ws_t (List.mem_of_getElem? (i := 445) rfl) rfl
theorem im_T_listInputs : Cond.instanceMethod y_T_listInputs ∈ WS := ws_t (List.mem_of_getElem? (i := 444) (by decide +kernel)) (by decide +kernel)
theorem se_T_listInputs : Cond.selects "FaultTreeDesk$Truth" y_T_listInputs y_T_listInputs ∈ WS := ws_p (List.mem_of_getElem? (i := 10) (by decide +kernel)) (by decide +kernel)
theorem cd_T_listInputs : y_T_listInputs.cls = R_T ∧ y_T_listInputs.cls ≠ "java/lang/invoke/MethodHandle" ∧ y_T_listInputs.cls ≠ "java/lang/invoke/VarHandle" ∧ (parseMethodDescriptor y_T_listInputs.desc).map (fun d => d.parameters.length) = some 1 := by decide +kernel
abbrev b_T_oddWord : ByteArray := prog_7_method_8_code
def y_T_oddWord : MethodName := ⟨"FaultTreeDesk$Truth", "oddWord", "(II)J"⟩
def w_T_oddWord : List Cond := Cond.code y_T_oddWord b_T_oddWord 6 (some .long) :: WS
set_option maxRecDepth 100000 in
theorem co_T_oddWord : Cond.code y_T_oddWord b_T_oddWord 6 (some .long) ∈ WS := ws_t (List.mem_of_getElem? (i := 449) rfl) rfl
theorem im_T_oddWord : Cond.instanceMethod y_T_oddWord ∈ WS := ws_t (List.mem_of_getElem? (i := 448) (by decide +kernel)) (by decide +kernel)
theorem se_T_oddWord : Cond.selects "FaultTreeDesk$Truth" y_T_oddWord y_T_oddWord ∈ WS := ws_p (List.mem_of_getElem? (i := 11) (by decide +kernel)) (by decide +kernel)
theorem cd_T_oddWord : y_T_oddWord.cls = R_T ∧ y_T_oddWord.cls ≠ "java/lang/invoke/MethodHandle" ∧ y_T_oddWord.cls ≠ "java/lang/invoke/VarHandle" ∧ (parseMethodDescriptor y_T_oddWord.desc).map (fun d => d.parameters.length) = some 2 := by decide +kernel
abbrev b_T_atLeastWord : ByteArray := prog_7_method_9_code
def y_T_atLeastWord : MethodName := ⟨"FaultTreeDesk$Truth", "atLeastWord", "(III)J"⟩
def w_T_atLeastWord : List Cond := Cond.code y_T_atLeastWord b_T_atLeastWord 15 (some .long) :: WS
set_option maxRecDepth 100000 in
theorem co_T_atLeastWord : Cond.code y_T_atLeastWord b_T_atLeastWord 15 (some .long) ∈ WS := ws_t (List.mem_of_getElem? (i := 453) rfl) rfl
theorem im_T_atLeastWord : Cond.instanceMethod y_T_atLeastWord ∈ WS := ws_t (List.mem_of_getElem? (i := 452) (by decide +kernel)) (by decide +kernel)
theorem se_T_atLeastWord : Cond.selects "FaultTreeDesk$Truth" y_T_atLeastWord y_T_atLeastWord ∈ WS := ws_p (List.mem_of_getElem? (i := 12) (by decide +kernel)) (by decide +kernel)
theorem cd_T_atLeastWord : y_T_atLeastWord.cls = R_T ∧ y_T_atLeastWord.cls ≠ "java/lang/invoke/MethodHandle" ∧ y_T_atLeastWord.cls ≠ "java/lang/invoke/VarHandle" ∧ (parseMethodDescriptor y_T_atLeastWord.desc).map (fun d => d.parameters.length) = some 3 := by decide +kernel
abbrev b_T_isTrue : ByteArray := prog_7_method_3_code
def y_T_isTrue : MethodName := ⟨"FaultTreeDesk$Truth", "isTrue", "(I)Z"⟩
def w_T_isTrue : List Cond := Cond.code y_T_isTrue b_T_isTrue 3 (some .boolean) :: WS
set_option maxRecDepth 100000 in
theorem co_T_isTrue : Cond.code y_T_isTrue b_T_isTrue 3 (some .boolean) ∈ WS := ws_t (List.mem_of_getElem? (i := 457) rfl) rfl
theorem im_T_isTrue : Cond.instanceMethod y_T_isTrue ∈ WS := ws_t (List.mem_of_getElem? (i := 455) (by decide +kernel)) (by decide +kernel)
theorem se_T_isTrue : Cond.selects "FaultTreeDesk$Truth" y_T_isTrue y_T_isTrue ∈ WS := ws_t (List.mem_of_getElem? (i := 456) (by decide +kernel)) (by decide +kernel)
theorem cd_T_isTrue : y_T_isTrue.cls = R_T ∧ y_T_isTrue.cls ≠ "java/lang/invoke/MethodHandle" ∧ y_T_isTrue.cls ≠ "java/lang/invoke/VarHandle" ∧ (parseMethodDescriptor y_T_isTrue.desc).map (fun d => d.parameters.length) = some 1 := by decide +kernel
abbrev b_F_odds : ByteArray := prog_1_method_9_code
def y_F_odds : MethodName := ⟨"FaultTreeDesk", "odds", "()J"⟩
def w_F_odds : List Cond := Cond.code y_F_odds b_F_odds 1 (some .long) :: WS
set_option maxRecDepth 100000 in
theorem co_F_odds : Cond.code y_F_odds b_F_odds 1 (some .long) ∈ WS := ws_t (List.mem_of_getElem? (i := 464) rfl) rfl
theorem im_F_odds : Cond.instanceMethod y_F_odds ∈ WS := ws_t (List.mem_of_getElem? (i := 462) (by decide +kernel)) (by decide +kernel)
theorem se_F_odds : Cond.selects "FaultTreeDesk" y_F_odds y_F_odds ∈ WS := ws_t (List.mem_of_getElem? (i := 463) (by decide +kernel)) (by decide +kernel)
theorem cd_F_odds : y_F_odds.cls = R_F ∧ y_F_odds.cls ≠ "java/lang/invoke/MethodHandle" ∧ y_F_odds.cls ≠ "java/lang/invoke/VarHandle" ∧ (parseMethodDescriptor y_F_odds.desc).map (fun d => d.parameters.length) = some 0 := by decide +kernel
abbrev b_O_total : ByteArray := prog_5_method_2_code
def y_O_total : MethodName := ⟨"FaultTreeDesk$Odds", "total", "(LFaultTreeDesk$Truth;LFaultTreeDesk$Events;I)J"⟩
def w_O_total : List Cond := Cond.code y_O_total b_O_total 9 (some .long) :: WS
set_option maxRecDepth 100000 in
theorem co_O_total : Cond.code y_O_total b_O_total 9 (some .long) ∈ WS := ws_t (List.mem_of_getElem? (i := 468) rfl) rfl
theorem im_O_total : Cond.instanceMethod y_O_total ∈ WS := ws_t (List.mem_of_getElem? (i := 466) (by decide +kernel)) (by decide +kernel)
theorem se_O_total : Cond.selects "FaultTreeDesk$Odds" y_O_total y_O_total ∈ WS := ws_t (List.mem_of_getElem? (i := 467) (by decide +kernel)) (by decide +kernel)
theorem cd_O_total : y_O_total.cls = R_O ∧ y_O_total.cls ≠ "java/lang/invoke/MethodHandle" ∧ y_O_total.cls ≠ "java/lang/invoke/VarHandle" ∧ (parseMethodDescriptor y_O_total.desc).map (fun d => d.parameters.length) = some 3 := by decide +kernel
abbrev b_F_digit : ByteArray := prog_1_method_10_code
def y_F_digit : MethodName := ⟨"FaultTreeDesk", "digit", "(I)I"⟩
def w_F_digit : List Cond := Cond.code y_F_digit b_F_digit 2 (some .int) :: WS
set_option maxRecDepth 100000 in
theorem co_F_digit : Cond.code y_F_digit b_F_digit 2 (some .int) ∈ WS := ws_t (List.mem_of_getElem? (i := 476) rfl) rfl
theorem im_F_digit : Cond.instanceMethod y_F_digit ∈ WS := ws_t (List.mem_of_getElem? (i := 474) (by decide +kernel)) (by decide +kernel)
theorem se_F_digit : Cond.selects "FaultTreeDesk" y_F_digit y_F_digit ∈ WS := ws_t (List.mem_of_getElem? (i := 475) (by decide +kernel)) (by decide +kernel)
theorem cd_F_digit : y_F_digit.cls = R_F ∧ y_F_digit.cls ≠ "java/lang/invoke/MethodHandle" ∧ y_F_digit.cls ≠ "java/lang/invoke/VarHandle" ∧ (parseMethodDescriptor y_F_digit.desc).map (fun d => d.parameters.length) = some 1 := by decide +kernel
abbrev b_O_decimal : ByteArray := prog_5_method_3_code
def y_O_decimal : MethodName := ⟨"FaultTreeDesk$Odds", "decimal", "(JII)I"⟩
def w_O_decimal : List Cond := Cond.code y_O_decimal b_O_decimal 9 (some .int) :: WS
set_option maxRecDepth 100000 in
theorem co_O_decimal : Cond.code y_O_decimal b_O_decimal 9 (some .int) ∈ WS := ws_t (List.mem_of_getElem? (i := 481) rfl) rfl
theorem im_O_decimal : Cond.instanceMethod y_O_decimal ∈ WS := ws_t (List.mem_of_getElem? (i := 479) (by decide +kernel)) (by decide +kernel)
theorem se_O_decimal : Cond.selects "FaultTreeDesk$Odds" y_O_decimal y_O_decimal ∈ WS := ws_t (List.mem_of_getElem? (i := 480) (by decide +kernel)) (by decide +kernel)
theorem cd_O_decimal : y_O_decimal.cls = R_O ∧ y_O_decimal.cls ≠ "java/lang/invoke/MethodHandle" ∧ y_O_decimal.cls ≠ "java/lang/invoke/VarHandle" ∧ (parseMethodDescriptor y_O_decimal.desc).map (fun d => d.parameters.length) = some 3 := by decide +kernel
abbrev b_F_weight : ByteArray := prog_1_method_11_code
def y_F_weight : MethodName := ⟨"FaultTreeDesk", "weight", "(I)J"⟩
def w_F_weight : List Cond := Cond.code y_F_weight b_F_weight 2 (some .long) :: WS
set_option maxRecDepth 100000 in
theorem co_F_weight : Cond.code y_F_weight b_F_weight 2 (some .long) ∈ WS := ws_t (List.mem_of_getElem? (i := 489) rfl) rfl
theorem im_F_weight : Cond.instanceMethod y_F_weight ∈ WS := ws_t (List.mem_of_getElem? (i := 487) (by decide +kernel)) (by decide +kernel)
theorem se_F_weight : Cond.selects "FaultTreeDesk" y_F_weight y_F_weight ∈ WS := ws_t (List.mem_of_getElem? (i := 488) (by decide +kernel)) (by decide +kernel)
theorem cd_F_weight : y_F_weight.cls = R_F ∧ y_F_weight.cls ≠ "java/lang/invoke/MethodHandle" ∧ y_F_weight.cls ≠ "java/lang/invoke/VarHandle" ∧ (parseMethodDescriptor y_F_weight.desc).map (fun d => d.parameters.length) = some 1 := by decide +kernel
abbrev b_F_nodes : ByteArray := prog_1_method_12_code
def y_F_nodes : MethodName := ⟨"FaultTreeDesk", "nodes", "()I"⟩
def w_F_nodes : List Cond := Cond.code y_F_nodes b_F_nodes 1 (some .int) :: WS
set_option maxRecDepth 100000 in
theorem co_F_nodes : Cond.code y_F_nodes b_F_nodes 1 (some .int) ∈ WS := ws_t (List.mem_of_getElem? (i := 496) rfl) rfl
theorem im_F_nodes : Cond.instanceMethod y_F_nodes ∈ WS := ws_t (List.mem_of_getElem? (i := 494) (by decide +kernel)) (by decide +kernel)
theorem se_F_nodes : Cond.selects "FaultTreeDesk" y_F_nodes y_F_nodes ∈ WS := ws_t (List.mem_of_getElem? (i := 495) (by decide +kernel)) (by decide +kernel)
theorem cd_F_nodes : y_F_nodes.cls = R_F ∧ y_F_nodes.cls ≠ "java/lang/invoke/MethodHandle" ∧ y_F_nodes.cls ≠ "java/lang/invoke/VarHandle" ∧ (parseMethodDescriptor y_F_nodes.desc).map (fun d => d.parameters.length) = some 0 := by decide +kernel
abbrev b_D_countNodes : ByteArray := prog_2_method_2_code
def y_D_countNodes : MethodName := ⟨"FaultTreeDesk$Diagram", "countNodes", "(LFaultTreeDesk$Truth;I)I"⟩
def w_D_countNodes : List Cond := Cond.code y_D_countNodes b_D_countNodes 7 (some .int) :: WS
set_option maxRecDepth 100000 in
theorem co_D_countNodes : Cond.code y_D_countNodes b_D_countNodes 7 (some .int) ∈ WS := ws_t (List.mem_of_getElem? (i := 500) rfl) rfl
theorem im_D_countNodes : Cond.instanceMethod y_D_countNodes ∈ WS := ws_t (List.mem_of_getElem? (i := 498) (by decide +kernel)) (by decide +kernel)
theorem se_D_countNodes : Cond.selects "FaultTreeDesk$Diagram" y_D_countNodes y_D_countNodes ∈ WS := ws_t (List.mem_of_getElem? (i := 499) (by decide +kernel)) (by decide +kernel)
theorem cd_D_countNodes : y_D_countNodes.cls = R_D ∧ y_D_countNodes.cls ≠ "java/lang/invoke/MethodHandle" ∧ y_D_countNodes.cls ≠ "java/lang/invoke/VarHandle" ∧ (parseMethodDescriptor y_D_countNodes.desc).map (fun d => d.parameters.length) = some 2 := by decide +kernel
abbrev b_D_numberOf : ByteArray := prog_2_method_3_code
def y_D_numberOf : MethodName := ⟨"FaultTreeDesk$Diagram", "numberOf", "(III)I"⟩
def w_D_numberOf : List Cond := Cond.code y_D_numberOf b_D_numberOf 6 (some .int) :: WS
set_option maxRecDepth 100000 in
theorem co_D_numberOf : Cond.code y_D_numberOf b_D_numberOf 6 (some .int) ∈ WS := ws_t (List.mem_of_getElem? (i := 505) rfl) rfl
theorem im_D_numberOf : Cond.instanceMethod y_D_numberOf ∈ WS := ws_t (List.mem_of_getElem? (i := 504) (by decide +kernel)) (by decide +kernel)
theorem se_D_numberOf : Cond.selects "FaultTreeDesk$Diagram" y_D_numberOf y_D_numberOf ∈ WS := ws_p (List.mem_of_getElem? (i := 13) (by decide +kernel)) (by decide +kernel)
theorem cd_D_numberOf : y_D_numberOf.cls = R_D ∧ y_D_numberOf.cls ≠ "java/lang/invoke/MethodHandle" ∧ y_D_numberOf.cls ≠ "java/lang/invoke/VarHandle" ∧ (parseMethodDescriptor y_D_numberOf.desc).map (fun d => d.parameters.length) = some 3 := by decide +kernel
abbrev b_F_primes : ByteArray := prog_1_method_13_code
def y_F_primes : MethodName := ⟨"FaultTreeDesk", "primes", "(I)I"⟩
def w_F_primes : List Cond := Cond.code y_F_primes b_F_primes 2 (some .int) :: WS
set_option maxRecDepth 100000 in
theorem co_F_primes : Cond.code y_F_primes b_F_primes 2 (some .int) ∈ WS := ws_t (List.mem_of_getElem? (i := 512) rfl) rfl
theorem im_F_primes : Cond.instanceMethod y_F_primes ∈ WS := ws_t (List.mem_of_getElem? (i := 510) (by decide +kernel)) (by decide +kernel)
theorem se_F_primes : Cond.selects "FaultTreeDesk" y_F_primes y_F_primes ∈ WS := ws_t (List.mem_of_getElem? (i := 511) (by decide +kernel)) (by decide +kernel)
theorem cd_F_primes : y_F_primes.cls = R_F ∧ y_F_primes.cls ≠ "java/lang/invoke/MethodHandle" ∧ y_F_primes.cls ≠ "java/lang/invoke/VarHandle" ∧ (parseMethodDescriptor y_F_primes.desc).map (fun d => d.parameters.length) = some 1 := by decide +kernel
abbrev b_F_needTerms : ByteArray := prog_1_method_21_code
def y_F_needTerms : MethodName := ⟨"FaultTreeDesk", "needTerms", "()V"⟩
def w_F_needTerms : List Cond := Cond.code y_F_needTerms b_F_needTerms 1 none :: WS
set_option maxRecDepth 100000 in
theorem co_F_needTerms : Cond.code y_F_needTerms b_F_needTerms 1 none ∈ WS := ws_t (List.mem_of_getElem? (i := 517) rfl) rfl
theorem im_F_needTerms : Cond.instanceMethod y_F_needTerms ∈ WS := ws_t (List.mem_of_getElem? (i := 516) (by decide +kernel)) (by decide +kernel)
theorem se_F_needTerms : Cond.selects "FaultTreeDesk" y_F_needTerms y_F_needTerms ∈ WS := ws_p (List.mem_of_getElem? (i := 14) (by decide +kernel)) (by decide +kernel)
theorem cd_F_needTerms : y_F_needTerms.cls = R_F ∧ y_F_needTerms.cls ≠ "java/lang/invoke/MethodHandle" ∧ y_F_needTerms.cls ≠ "java/lang/invoke/VarHandle" ∧ (parseMethodDescriptor y_F_needTerms.desc).map (fun d => d.parameters.length) = some 0 := by decide +kernel
abbrev b_X_find : ByteArray := prog_6_method_2_code
def y_X_find : MethodName := ⟨"FaultTreeDesk$Terms", "find", "(LFaultTreeDesk$Truth;I)V"⟩
def w_X_find : List Cond := Cond.code y_X_find b_X_find 6 none :: WS
set_option maxRecDepth 100000 in
theorem co_X_find : Cond.code y_X_find b_X_find 6 none ∈ WS := ws_t (List.mem_of_getElem? (i := 521) rfl) rfl
theorem im_X_find : Cond.instanceMethod y_X_find ∈ WS := ws_t (List.mem_of_getElem? (i := 519) (by decide +kernel)) (by decide +kernel)
theorem se_X_find : Cond.selects "FaultTreeDesk$Terms" y_X_find y_X_find ∈ WS := ws_t (List.mem_of_getElem? (i := 520) (by decide +kernel)) (by decide +kernel)
theorem cd_X_find : y_X_find.cls = R_X ∧ y_X_find.cls ≠ "java/lang/invoke/MethodHandle" ∧ y_X_find.cls ≠ "java/lang/invoke/VarHandle" ∧ (parseMethodDescriptor y_X_find.desc).map (fun d => d.parameters.length) = some 2 := by decide +kernel
abbrev b_X_walk : ByteArray := prog_6_method_7_code
def y_X_walk : MethodName := ⟨"FaultTreeDesk$Terms", "walk", "(II)V"⟩
def w_X_walk : List Cond := Cond.code y_X_walk b_X_walk 11 none :: WS
set_option maxRecDepth 100000 in
theorem co_X_walk : Cond.code y_X_walk b_X_walk 11 none ∈ WS := ws_t (List.mem_of_getElem? (i := 525) rfl) rfl
theorem im_X_walk : Cond.instanceMethod y_X_walk ∈ WS := ws_t (List.mem_of_getElem? (i := 524) (by decide +kernel)) (by decide +kernel)
theorem se_X_walk : Cond.selects "FaultTreeDesk$Terms" y_X_walk y_X_walk ∈ WS := ws_p (List.mem_of_getElem? (i := 15) (by decide +kernel)) (by decide +kernel)
theorem cd_X_walk : y_X_walk.cls = R_X ∧ y_X_walk.cls ≠ "java/lang/invoke/MethodHandle" ∧ y_X_walk.cls ≠ "java/lang/invoke/VarHandle" ∧ (parseMethodDescriptor y_X_walk.desc).map (fun d => d.parameters.length) = some 2 := by decide +kernel
abbrev b_X_collect : ByteArray := prog_6_method_9_code
def y_X_collect : MethodName := ⟨"FaultTreeDesk$Terms", "collect", "(I)V"⟩
def w_X_collect : List Cond := Cond.code y_X_collect b_X_collect 5 none :: WS
set_option maxRecDepth 100000 in
theorem co_X_collect : Cond.code y_X_collect b_X_collect 5 none ∈ WS := ws_t (List.mem_of_getElem? (i := 529) rfl) rfl
theorem im_X_collect : Cond.instanceMethod y_X_collect ∈ WS := ws_t (List.mem_of_getElem? (i := 528) (by decide +kernel)) (by decide +kernel)
theorem se_X_collect : Cond.selects "FaultTreeDesk$Terms" y_X_collect y_X_collect ∈ WS := ws_p (List.mem_of_getElem? (i := 16) (by decide +kernel)) (by decide +kernel)
theorem cd_X_collect : y_X_collect.cls = R_X ∧ y_X_collect.cls ≠ "java/lang/invoke/MethodHandle" ∧ y_X_collect.cls ≠ "java/lang/invoke/VarHandle" ∧ (parseMethodDescriptor y_X_collect.desc).map (fun d => d.parameters.length) = some 1 := by decide +kernel
abbrev b_X_allKeptOrOff : ByteArray := prog_6_method_10_code
def y_X_allKeptOrOff : MethodName := ⟨"FaultTreeDesk$Terms", "allKeptOrOff", "(I)J"⟩
def w_X_allKeptOrOff : List Cond := Cond.code y_X_allKeptOrOff b_X_allKeptOrOff 5 (some .long) :: WS
set_option maxRecDepth 100000 in
theorem co_X_allKeptOrOff : Cond.code y_X_allKeptOrOff b_X_allKeptOrOff 5 (some .long) ∈ WS := ws_t (List.mem_of_getElem? (i := 533) rfl) rfl
theorem im_X_allKeptOrOff : Cond.instanceMethod y_X_allKeptOrOff ∈ WS := ws_t (List.mem_of_getElem? (i := 532) (by decide +kernel)) (by decide +kernel)
theorem se_X_allKeptOrOff : Cond.selects "FaultTreeDesk$Terms" y_X_allKeptOrOff y_X_allKeptOrOff ∈ WS := ws_p (List.mem_of_getElem? (i := 17) (by decide +kernel)) (by decide +kernel)
theorem cd_X_allKeptOrOff : y_X_allKeptOrOff.cls = R_X ∧ y_X_allKeptOrOff.cls ≠ "java/lang/invoke/MethodHandle" ∧ y_X_allKeptOrOff.cls ≠ "java/lang/invoke/VarHandle" ∧ (parseMethodDescriptor y_X_allKeptOrOff.desc).map (fun d => d.parameters.length) = some 1 := by decide +kernel
abbrev b_X_primeSettings : ByteArray := prog_6_method_11_code
def y_X_primeSettings : MethodName := ⟨"FaultTreeDesk$Terms", "primeSettings", "(II)J"⟩
def w_X_primeSettings : List Cond := Cond.code y_X_primeSettings b_X_primeSettings 6 (some .long) :: WS
set_option maxRecDepth 100000 in
theorem co_X_primeSettings : Cond.code y_X_primeSettings b_X_primeSettings 6 (some .long) ∈ WS := ws_t (List.mem_of_getElem? (i := 539) rfl) rfl
theorem im_X_primeSettings : Cond.instanceMethod y_X_primeSettings ∈ WS := ws_t (List.mem_of_getElem? (i := 538) (by decide +kernel)) (by decide +kernel)
theorem se_X_primeSettings : Cond.selects "FaultTreeDesk$Terms" y_X_primeSettings y_X_primeSettings ∈ WS := ws_p (List.mem_of_getElem? (i := 18) (by decide +kernel)) (by decide +kernel)
theorem cd_X_primeSettings : y_X_primeSettings.cls = R_X ∧ y_X_primeSettings.cls ≠ "java/lang/invoke/MethodHandle" ∧ y_X_primeSettings.cls ≠ "java/lang/invoke/VarHandle" ∧ (parseMethodDescriptor y_X_primeSettings.desc).map (fun d => d.parameters.length) = some 2 := by decide +kernel
abbrev b_X_flipped : ByteArray := prog_6_method_8_code
def y_X_flipped : MethodName := ⟨"FaultTreeDesk$Terms", "flipped", "([JII)J"⟩
def w_X_flipped : List Cond := Cond.code y_X_flipped b_X_flipped 7 (some .long) :: WS
set_option maxRecDepth 100000 in
theorem co_X_flipped : Cond.code y_X_flipped b_X_flipped 7 (some .long) ∈ WS := ws_t (List.mem_of_getElem? (i := 543) rfl) rfl
theorem im_X_flipped : Cond.instanceMethod y_X_flipped ∈ WS := ws_t (List.mem_of_getElem? (i := 542) (by decide +kernel)) (by decide +kernel)
theorem se_X_flipped : Cond.selects "FaultTreeDesk$Terms" y_X_flipped y_X_flipped ∈ WS := ws_p (List.mem_of_getElem? (i := 19) (by decide +kernel)) (by decide +kernel)
theorem cd_X_flipped : y_X_flipped.cls = R_X ∧ y_X_flipped.cls ≠ "java/lang/invoke/MethodHandle" ∧ y_X_flipped.cls ≠ "java/lang/invoke/VarHandle" ∧ (parseMethodDescriptor y_X_flipped.desc).map (fun d => d.parameters.length) = some 3 := by decide +kernel
abbrev b_X_addAll : ByteArray := prog_6_method_12_code
def y_X_addAll : MethodName := ⟨"FaultTreeDesk$Terms", "addAll", "(IIJ)V"⟩
def w_X_addAll : List Cond := Cond.code y_X_addAll b_X_addAll 9 none :: WS
set_option maxRecDepth 100000 in
theorem co_X_addAll : Cond.code y_X_addAll b_X_addAll 9 none ∈ WS := ws_t (List.mem_of_getElem? (i := 547) rfl) rfl
theorem im_X_addAll : Cond.instanceMethod y_X_addAll ∈ WS := ws_t (List.mem_of_getElem? (i := 546) (by decide +kernel)) (by decide +kernel)
theorem se_X_addAll : Cond.selects "FaultTreeDesk$Terms" y_X_addAll y_X_addAll ∈ WS := ws_p (List.mem_of_getElem? (i := 20) (by decide +kernel)) (by decide +kernel)
theorem cd_X_addAll : y_X_addAll.cls = R_X ∧ y_X_addAll.cls ≠ "java/lang/invoke/MethodHandle" ∧ y_X_addAll.cls ≠ "java/lang/invoke/VarHandle" ∧ (parseMethodDescriptor y_X_addAll.desc).map (fun d => d.parameters.length) = some 3 := by decide +kernel
abbrev b_JL_bitCount : ByteArray := prog_15_method_50_code
def y_JL_bitCount : MethodName := ⟨"java/lang/Long", "bitCount", "(J)I"⟩
def w_JL_bitCount : List Cond := Cond.code y_JL_bitCount b_JL_bitCount 2 (some .int) :: WS
set_option maxRecDepth 100000 in
theorem co_JL_bitCount : Cond.code y_JL_bitCount b_JL_bitCount 2 (some .int) ∈ WS := ws_t (List.mem_of_getElem? (i := 550) rfl) rfl
theorem sm_JL_bitCount : Cond.static y_JL_bitCount ∈ WS := ws_t (List.mem_of_getElem? (i := 549) (by decide +kernel)) (by decide +kernel)
theorem ce_JL_bitCount : y_JL_bitCount.cls ≠ "java/lang/invoke/MethodHandle" ∧ y_JL_bitCount.cls ≠ "java/lang/invoke/VarHandle" ∧ (parseMethodDescriptor y_JL_bitCount.desc).map (fun d => d.parameters.length) = some 1 := by decide +kernel
abbrev b_X_insert : ByteArray := prog_6_method_13_code
def y_X_insert : MethodName := ⟨"FaultTreeDesk$Terms", "insert", "(I)V"⟩
def w_X_insert : List Cond := Cond.code y_X_insert b_X_insert 3 none :: WS
set_option maxRecDepth 100000 in
theorem co_X_insert : Cond.code y_X_insert b_X_insert 3 none ∈ WS := ws_t (List.mem_of_getElem? (i := 558) rfl) rfl
theorem im_X_insert : Cond.instanceMethod y_X_insert ∈ WS := ws_t (List.mem_of_getElem? (i := 557) (by decide +kernel)) (by decide +kernel)
theorem se_X_insert : Cond.selects "FaultTreeDesk$Terms" y_X_insert y_X_insert ∈ WS := ws_p (List.mem_of_getElem? (i := 21) (by decide +kernel)) (by decide +kernel)
theorem cd_X_insert : y_X_insert.cls = R_X ∧ y_X_insert.cls ≠ "java/lang/invoke/MethodHandle" ∧ y_X_insert.cls ≠ "java/lang/invoke/VarHandle" ∧ (parseMethodDescriptor y_X_insert.desc).map (fun d => d.parameters.length) = some 1 := by decide +kernel
abbrev b_X_countUpTo : ByteArray := prog_6_method_5_code
def y_X_countUpTo : MethodName := ⟨"FaultTreeDesk$Terms", "countUpTo", "(I)I"⟩
def w_X_countUpTo : List Cond := Cond.code y_X_countUpTo b_X_countUpTo 4 (some .int) :: WS
set_option maxRecDepth 100000 in
theorem co_X_countUpTo : Cond.code y_X_countUpTo b_X_countUpTo 4 (some .int) ∈ WS := ws_t (List.mem_of_getElem? (i := 566) rfl) rfl
theorem im_X_countUpTo : Cond.instanceMethod y_X_countUpTo ∈ WS := ws_t (List.mem_of_getElem? (i := 564) (by decide +kernel)) (by decide +kernel)
theorem se_X_countUpTo : Cond.selects "FaultTreeDesk$Terms" y_X_countUpTo y_X_countUpTo ∈ WS := ws_t (List.mem_of_getElem? (i := 565) (by decide +kernel)) (by decide +kernel)
theorem cd_X_countUpTo : y_X_countUpTo.cls = R_X ∧ y_X_countUpTo.cls ≠ "java/lang/invoke/MethodHandle" ∧ y_X_countUpTo.cls ≠ "java/lang/invoke/VarHandle" ∧ (parseMethodDescriptor y_X_countUpTo.desc).map (fun d => d.parameters.length) = some 1 := by decide +kernel
abbrev b_F_prime : ByteArray := prog_1_method_14_code
def y_F_prime : MethodName := ⟨"FaultTreeDesk", "prime", "(II)I"⟩
def w_F_prime : List Cond := Cond.code y_F_prime b_F_prime 3 (some .int) :: WS
set_option maxRecDepth 100000 in
theorem co_F_prime : Cond.code y_F_prime b_F_prime 3 (some .int) ∈ WS := ws_t (List.mem_of_getElem? (i := 574) rfl) rfl
theorem im_F_prime : Cond.instanceMethod y_F_prime ∈ WS := ws_t (List.mem_of_getElem? (i := 572) (by decide +kernel)) (by decide +kernel)
theorem se_F_prime : Cond.selects "FaultTreeDesk" y_F_prime y_F_prime ∈ WS := ws_t (List.mem_of_getElem? (i := 573) (by decide +kernel)) (by decide +kernel)
theorem cd_F_prime : y_F_prime.cls = R_F ∧ y_F_prime.cls ≠ "java/lang/invoke/MethodHandle" ∧ y_F_prime.cls ≠ "java/lang/invoke/VarHandle" ∧ (parseMethodDescriptor y_F_prime.desc).map (fun d => d.parameters.length) = some 2 := by decide +kernel
abbrev b_X_onOf : ByteArray := prog_6_method_3_code
def y_X_onOf : MethodName := ⟨"FaultTreeDesk$Terms", "onOf", "(I)I"⟩
def w_X_onOf : List Cond := Cond.code y_X_onOf b_X_onOf 2 (some .int) :: WS
set_option maxRecDepth 100000 in
theorem co_X_onOf : Cond.code y_X_onOf b_X_onOf 2 (some .int) ∈ WS := ws_t (List.mem_of_getElem? (i := 595) rfl) rfl
theorem im_X_onOf : Cond.instanceMethod y_X_onOf ∈ WS := ws_t (List.mem_of_getElem? (i := 593) (by decide +kernel)) (by decide +kernel)
theorem se_X_onOf : Cond.selects "FaultTreeDesk$Terms" y_X_onOf y_X_onOf ∈ WS := ws_t (List.mem_of_getElem? (i := 594) (by decide +kernel)) (by decide +kernel)
theorem cd_X_onOf : y_X_onOf.cls = R_X ∧ y_X_onOf.cls ≠ "java/lang/invoke/MethodHandle" ∧ y_X_onOf.cls ≠ "java/lang/invoke/VarHandle" ∧ (parseMethodDescriptor y_X_onOf.desc).map (fun d => d.parameters.length) = some 1 := by decide +kernel
abbrev b_X_offOf : ByteArray := prog_6_method_4_code
def y_X_offOf : MethodName := ⟨"FaultTreeDesk$Terms", "offOf", "(I)I"⟩
def w_X_offOf : List Cond := Cond.code y_X_offOf b_X_offOf 2 (some .int) :: WS
set_option maxRecDepth 100000 in
theorem co_X_offOf : Cond.code y_X_offOf b_X_offOf 2 (some .int) ∈ WS := ws_t (List.mem_of_getElem? (i := 599) rfl) rfl
theorem im_X_offOf : Cond.instanceMethod y_X_offOf ∈ WS := ws_t (List.mem_of_getElem? (i := 597) (by decide +kernel)) (by decide +kernel)
theorem se_X_offOf : Cond.selects "FaultTreeDesk$Terms" y_X_offOf y_X_offOf ∈ WS := ws_t (List.mem_of_getElem? (i := 598) (by decide +kernel)) (by decide +kernel)
theorem cd_X_offOf : y_X_offOf.cls = R_X ∧ y_X_offOf.cls ≠ "java/lang/invoke/MethodHandle" ∧ y_X_offOf.cls ≠ "java/lang/invoke/VarHandle" ∧ (parseMethodDescriptor y_X_offOf.desc).map (fun d => d.parameters.length) = some 1 := by decide +kernel
abbrev b_F_share : ByteArray := prog_1_method_15_code
def y_F_share : MethodName := ⟨"FaultTreeDesk", "share", "(I)I"⟩
def w_F_share : List Cond := Cond.code y_F_share b_F_share 2 (some .int) :: WS
set_option maxRecDepth 100000 in
theorem co_F_share : Cond.code y_F_share b_F_share 2 (some .int) ∈ WS := ws_t (List.mem_of_getElem? (i := 606) rfl) rfl
theorem im_F_share : Cond.instanceMethod y_F_share ∈ WS := ws_t (List.mem_of_getElem? (i := 604) (by decide +kernel)) (by decide +kernel)
theorem se_F_share : Cond.selects "FaultTreeDesk" y_F_share y_F_share ∈ WS := ws_t (List.mem_of_getElem? (i := 605) (by decide +kernel)) (by decide +kernel)
theorem cd_F_share : y_F_share.cls = R_F ∧ y_F_share.cls ≠ "java/lang/invoke/MethodHandle" ∧ y_F_share.cls ≠ "java/lang/invoke/VarHandle" ∧ (parseMethodDescriptor y_F_share.desc).map (fun d => d.parameters.length) = some 1 := by decide +kernel
abbrev b_X_countWith : ByteArray := prog_6_method_6_code
def y_X_countWith : MethodName := ⟨"FaultTreeDesk$Terms", "countWith", "(I)I"⟩
def w_X_countWith : List Cond := Cond.code y_X_countWith b_X_countWith 4 (some .int) :: WS
set_option maxRecDepth 100000 in
theorem co_X_countWith : Cond.code y_X_countWith b_X_countWith 4 (some .int) ∈ WS := ws_t (List.mem_of_getElem? (i := 610) rfl) rfl
theorem im_X_countWith : Cond.instanceMethod y_X_countWith ∈ WS := ws_t (List.mem_of_getElem? (i := 608) (by decide +kernel)) (by decide +kernel)
theorem se_X_countWith : Cond.selects "FaultTreeDesk$Terms" y_X_countWith y_X_countWith ∈ WS := ws_t (List.mem_of_getElem? (i := 609) (by decide +kernel)) (by decide +kernel)
theorem cd_X_countWith : y_X_countWith.cls = R_X ∧ y_X_countWith.cls ≠ "java/lang/invoke/MethodHandle" ∧ y_X_countWith.cls ≠ "java/lang/invoke/VarHandle" ∧ (parseMethodDescriptor y_X_countWith.desc).map (fun d => d.parameters.length) = some 1 := by decide +kernel
abbrev b_F_modules : ByteArray := prog_1_method_16_code
def y_F_modules : MethodName := ⟨"FaultTreeDesk", "modules", "()I"⟩
def w_F_modules : List Cond := Cond.code y_F_modules b_F_modules 1 (some .int) :: WS
set_option maxRecDepth 100000 in
theorem co_F_modules : Cond.code y_F_modules b_F_modules 1 (some .int) ∈ WS := ws_t (List.mem_of_getElem? (i := 619) rfl) rfl
theorem im_F_modules : Cond.instanceMethod y_F_modules ∈ WS := ws_t (List.mem_of_getElem? (i := 617) (by decide +kernel)) (by decide +kernel)
theorem se_F_modules : Cond.selects "FaultTreeDesk" y_F_modules y_F_modules ∈ WS := ws_t (List.mem_of_getElem? (i := 618) (by decide +kernel)) (by decide +kernel)
theorem cd_F_modules : y_F_modules.cls = R_F ∧ y_F_modules.cls ≠ "java/lang/invoke/MethodHandle" ∧ y_F_modules.cls ≠ "java/lang/invoke/VarHandle" ∧ (parseMethodDescriptor y_F_modules.desc).map (fun d => d.parameters.length) = some 0 := by decide +kernel
abbrev b_G_moduleSum : ByteArray := prog_4_method_10_code
def y_G_moduleSum : MethodName := ⟨"FaultTreeDesk$Gates", "moduleSum", "(I)I"⟩
def w_G_moduleSum : List Cond := Cond.code y_G_moduleSum b_G_moduleSum 5 (some .int) :: WS
set_option maxRecDepth 100000 in
theorem co_G_moduleSum : Cond.code y_G_moduleSum b_G_moduleSum 5 (some .int) ∈ WS := ws_t (List.mem_of_getElem? (i := 623) rfl) rfl
theorem im_G_moduleSum : Cond.instanceMethod y_G_moduleSum ∈ WS := ws_t (List.mem_of_getElem? (i := 621) (by decide +kernel)) (by decide +kernel)
theorem se_G_moduleSum : Cond.selects "FaultTreeDesk$Gates" y_G_moduleSum y_G_moduleSum ∈ WS := ws_t (List.mem_of_getElem? (i := 622) (by decide +kernel)) (by decide +kernel)
theorem cd_G_moduleSum : y_G_moduleSum.cls = R_G ∧ y_G_moduleSum.cls ≠ "java/lang/invoke/MethodHandle" ∧ y_G_moduleSum.cls ≠ "java/lang/invoke/VarHandle" ∧ (parseMethodDescriptor y_G_moduleSum.desc).map (fun d => d.parameters.length) = some 1 := by decide +kernel
abbrev b_G_standsAlone : ByteArray := prog_4_method_11_code
def y_G_standsAlone : MethodName := ⟨"FaultTreeDesk$Gates", "standsAlone", "(II)Z"⟩
def w_G_standsAlone : List Cond := Cond.code y_G_standsAlone b_G_standsAlone 5 (some .boolean) :: WS
set_option maxRecDepth 100000 in
theorem co_G_standsAlone : Cond.code y_G_standsAlone b_G_standsAlone 5 (some .boolean) ∈ WS := ws_t (List.mem_of_getElem? (i := 627) rfl) rfl
theorem im_G_standsAlone : Cond.instanceMethod y_G_standsAlone ∈ WS := ws_t (List.mem_of_getElem? (i := 626) (by decide +kernel)) (by decide +kernel)
theorem se_G_standsAlone : Cond.selects "FaultTreeDesk$Gates" y_G_standsAlone y_G_standsAlone ∈ WS := ws_p (List.mem_of_getElem? (i := 22) (by decide +kernel)) (by decide +kernel)
theorem cd_G_standsAlone : y_G_standsAlone.cls = R_G ∧ y_G_standsAlone.cls ≠ "java/lang/invoke/MethodHandle" ∧ y_G_standsAlone.cls ≠ "java/lang/invoke/VarHandle" ∧ (parseMethodDescriptor y_G_standsAlone.desc).map (fun d => d.parameters.length) = some 2 := by decide +kernel
abbrev b_M_init : ByteArray := prog_9_method_1_code
def y_M_init : MethodName := ⟨"FaultTreeDeskModel", "<init>", "()V"⟩
def w_M_init : List Cond := Cond.code y_M_init b_M_init 1 none :: WS
set_option maxRecDepth 100000 in
theorem co_M_init : Cond.code y_M_init b_M_init 1 none ∈ WS := ws_t (List.mem_of_getElem? (i := 632) rfl) rfl
theorem im_M_init : Cond.instanceMethod y_M_init ∈ WS := ws_t (List.mem_of_getElem? (i := 631) (by decide +kernel)) (by decide +kernel)
abbrev b_M_thrown : ByteArray := prog_9_method_2_code
def y_M_thrown : MethodName := ⟨"FaultTreeDeskModel", "thrown", "()I"⟩
def w_M_thrown : List Cond := Cond.code y_M_thrown b_M_thrown 1 (some .int) :: WS
set_option maxRecDepth 100000 in
theorem co_M_thrown : Cond.code y_M_thrown b_M_thrown 1 (some .int) ∈ WS := ws_t (List.mem_of_getElem? (i := 696) rfl) rfl
theorem im_M_thrown : Cond.instanceMethod y_M_thrown ∈ WS := ws_t (List.mem_of_getElem? (i := 694) (by decide +kernel)) (by decide +kernel)
theorem se_M_thrown : Cond.selects "FaultTreeDeskModel" y_M_thrown y_M_thrown ∈ WS := ws_t (List.mem_of_getElem? (i := 695) (by decide +kernel)) (by decide +kernel)
theorem cd_M_thrown : y_M_thrown.cls = R_M ∧ y_M_thrown.cls ≠ "java/lang/invoke/MethodHandle" ∧ y_M_thrown.cls ≠ "java/lang/invoke/VarHandle" ∧ (parseMethodDescriptor y_M_thrown.desc).map (fun d => d.parameters.length) = some 0 := by decide +kernel
abbrev b_M_event : ByteArray := prog_9_method_5_code
def y_M_event : MethodName := ⟨"FaultTreeDeskModel", "event", "(I)I"⟩
def w_M_event : List Cond := Cond.code y_M_event b_M_event 2 (some .int) :: WS
set_option maxRecDepth 100000 in
theorem co_M_event : Cond.code y_M_event b_M_event 2 (some .int) ∈ WS := ws_t (List.mem_of_getElem? (i := 700) rfl) rfl
theorem im_M_event : Cond.instanceMethod y_M_event ∈ WS := ws_t (List.mem_of_getElem? (i := 698) (by decide +kernel)) (by decide +kernel)
theorem se_M_event : Cond.selects "FaultTreeDeskModel" y_M_event y_M_event ∈ WS := ws_t (List.mem_of_getElem? (i := 699) (by decide +kernel)) (by decide +kernel)
theorem cd_M_event : y_M_event.cls = R_M ∧ y_M_event.cls ≠ "java/lang/invoke/MethodHandle" ∧ y_M_event.cls ≠ "java/lang/invoke/VarHandle" ∧ (parseMethodDescriptor y_M_event.desc).map (fun d => d.parameters.length) = some 1 := by decide +kernel
abbrev b_M_chance : ByteArray := prog_9_method_6_code
def y_M_chance : MethodName := ⟨"FaultTreeDeskModel", "chance", "(II)I"⟩
def w_M_chance : List Cond := Cond.code y_M_chance b_M_chance 4 (some .int) :: WS
set_option maxRecDepth 100000 in
theorem co_M_chance : Cond.code y_M_chance b_M_chance 4 (some .int) ∈ WS := ws_t (List.mem_of_getElem? (i := 704) rfl) rfl
theorem im_M_chance : Cond.instanceMethod y_M_chance ∈ WS := ws_t (List.mem_of_getElem? (i := 702) (by decide +kernel)) (by decide +kernel)
theorem se_M_chance : Cond.selects "FaultTreeDeskModel" y_M_chance y_M_chance ∈ WS := ws_t (List.mem_of_getElem? (i := 703) (by decide +kernel)) (by decide +kernel)
theorem cd_M_chance : y_M_chance.cls = R_M ∧ y_M_chance.cls ≠ "java/lang/invoke/MethodHandle" ∧ y_M_chance.cls ≠ "java/lang/invoke/VarHandle" ∧ (parseMethodDescriptor y_M_chance.desc).map (fun d => d.parameters.length) = some 2 := by decide +kernel
abbrev b_M_isEvent : ByteArray := prog_9_method_3_code
def y_M_isEvent : MethodName := ⟨"FaultTreeDeskModel", "isEvent", "(I)Z"⟩
def w_M_isEvent : List Cond := Cond.code y_M_isEvent b_M_isEvent 2 (some .boolean) :: WS
set_option maxRecDepth 100000 in
theorem co_M_isEvent : Cond.code y_M_isEvent b_M_isEvent 2 (some .boolean) ∈ WS := ws_t (List.mem_of_getElem? (i := 708) rfl) rfl
theorem im_M_isEvent : Cond.instanceMethod y_M_isEvent ∈ WS := ws_t (List.mem_of_getElem? (i := 707) (by decide +kernel)) (by decide +kernel)
theorem se_M_isEvent : Cond.selects "FaultTreeDeskModel" y_M_isEvent y_M_isEvent ∈ WS := ws_p (List.mem_of_getElem? (i := 23) (by decide +kernel)) (by decide +kernel)
theorem cd_M_isEvent : y_M_isEvent.cls = R_M ∧ y_M_isEvent.cls ≠ "java/lang/invoke/MethodHandle" ∧ y_M_isEvent.cls ≠ "java/lang/invoke/VarHandle" ∧ (parseMethodDescriptor y_M_isEvent.desc).map (fun d => d.parameters.length) = some 1 := by decide +kernel
abbrev b_M_hold : ByteArray := prog_9_method_7_code
def y_M_hold : MethodName := ⟨"FaultTreeDeskModel", "hold", "(II)I"⟩
def w_M_hold : List Cond := Cond.code y_M_hold b_M_hold 4 (some .int) :: WS
set_option maxRecDepth 100000 in
theorem co_M_hold : Cond.code y_M_hold b_M_hold 4 (some .int) ∈ WS := ws_t (List.mem_of_getElem? (i := 712) rfl) rfl
theorem im_M_hold : Cond.instanceMethod y_M_hold ∈ WS := ws_t (List.mem_of_getElem? (i := 710) (by decide +kernel)) (by decide +kernel)
theorem se_M_hold : Cond.selects "FaultTreeDeskModel" y_M_hold y_M_hold ∈ WS := ws_t (List.mem_of_getElem? (i := 711) (by decide +kernel)) (by decide +kernel)
theorem cd_M_hold : y_M_hold.cls = R_M ∧ y_M_hold.cls ≠ "java/lang/invoke/MethodHandle" ∧ y_M_hold.cls ≠ "java/lang/invoke/VarHandle" ∧ (parseMethodDescriptor y_M_hold.desc).map (fun d => d.parameters.length) = some 2 := by decide +kernel
abbrev b_M_gate : ByteArray := prog_9_method_8_code
def y_M_gate : MethodName := ⟨"FaultTreeDeskModel", "gate", "(II)I"⟩
def w_M_gate : List Cond := Cond.code y_M_gate b_M_gate 4 (some .int) :: WS
set_option maxRecDepth 100000 in
theorem co_M_gate : Cond.code y_M_gate b_M_gate 4 (some .int) ∈ WS := ws_t (List.mem_of_getElem? (i := 716) rfl) rfl
theorem im_M_gate : Cond.instanceMethod y_M_gate ∈ WS := ws_t (List.mem_of_getElem? (i := 714) (by decide +kernel)) (by decide +kernel)
theorem se_M_gate : Cond.selects "FaultTreeDeskModel" y_M_gate y_M_gate ∈ WS := ws_t (List.mem_of_getElem? (i := 715) (by decide +kernel)) (by decide +kernel)
theorem cd_M_gate : y_M_gate.cls = R_M ∧ y_M_gate.cls ≠ "java/lang/invoke/MethodHandle" ∧ y_M_gate.cls ≠ "java/lang/invoke/VarHandle" ∧ (parseMethodDescriptor y_M_gate.desc).map (fun d => d.parameters.length) = some 2 := by decide +kernel
abbrev b_M_input : ByteArray := prog_9_method_11_code
def y_M_input : MethodName := ⟨"FaultTreeDeskModel", "input", "(II)I"⟩
def w_M_input : List Cond := Cond.code y_M_input b_M_input 4 (some .int) :: WS
set_option maxRecDepth 100000 in
theorem co_M_input : Cond.code y_M_input b_M_input 4 (some .int) ∈ WS := ws_t (List.mem_of_getElem? (i := 720) rfl) rfl
theorem im_M_input : Cond.instanceMethod y_M_input ∈ WS := ws_t (List.mem_of_getElem? (i := 718) (by decide +kernel)) (by decide +kernel)
theorem se_M_input : Cond.selects "FaultTreeDeskModel" y_M_input y_M_input ∈ WS := ws_t (List.mem_of_getElem? (i := 719) (by decide +kernel)) (by decide +kernel)
theorem cd_M_input : y_M_input.cls = R_M ∧ y_M_input.cls ≠ "java/lang/invoke/MethodHandle" ∧ y_M_input.cls ≠ "java/lang/invoke/VarHandle" ∧ (parseMethodDescriptor y_M_input.desc).map (fun d => d.parameters.length) = some 2 := by decide +kernel
abbrev b_M_isGate : ByteArray := prog_9_method_4_code
def y_M_isGate : MethodName := ⟨"FaultTreeDeskModel", "isGate", "(I)Z"⟩
def w_M_isGate : List Cond := Cond.code y_M_isGate b_M_isGate 2 (some .boolean) :: WS
set_option maxRecDepth 100000 in
theorem co_M_isGate : Cond.code y_M_isGate b_M_isGate 2 (some .boolean) ∈ WS := ws_t (List.mem_of_getElem? (i := 724) rfl) rfl
theorem im_M_isGate : Cond.instanceMethod y_M_isGate ∈ WS := ws_t (List.mem_of_getElem? (i := 723) (by decide +kernel)) (by decide +kernel)
theorem se_M_isGate : Cond.selects "FaultTreeDeskModel" y_M_isGate y_M_isGate ∈ WS := ws_p (List.mem_of_getElem? (i := 24) (by decide +kernel)) (by decide +kernel)
theorem cd_M_isGate : y_M_isGate.cls = R_M ∧ y_M_isGate.cls ≠ "java/lang/invoke/MethodHandle" ∧ y_M_isGate.cls ≠ "java/lang/invoke/VarHandle" ∧ (parseMethodDescriptor y_M_isGate.desc).map (fun d => d.parameters.length) = some 1 := by decide +kernel
abbrev b_M_hasChild : ByteArray := prog_9_method_10_code
def y_M_hasChild : MethodName := ⟨"FaultTreeDeskModel", "hasChild", "(II)Z"⟩
def w_M_hasChild : List Cond := Cond.code y_M_hasChild b_M_hasChild 5 (some .boolean) :: WS
set_option maxRecDepth 100000 in
theorem co_M_hasChild : Cond.code y_M_hasChild b_M_hasChild 5 (some .boolean) ∈ WS := ws_t (List.mem_of_getElem? (i := 728) rfl) rfl
theorem im_M_hasChild : Cond.instanceMethod y_M_hasChild ∈ WS := ws_t (List.mem_of_getElem? (i := 727) (by decide +kernel)) (by decide +kernel)
theorem se_M_hasChild : Cond.selects "FaultTreeDeskModel" y_M_hasChild y_M_hasChild ∈ WS := ws_p (List.mem_of_getElem? (i := 25) (by decide +kernel)) (by decide +kernel)
theorem cd_M_hasChild : y_M_hasChild.cls = R_M ∧ y_M_hasChild.cls ≠ "java/lang/invoke/MethodHandle" ∧ y_M_hasChild.cls ≠ "java/lang/invoke/VarHandle" ∧ (parseMethodDescriptor y_M_hasChild.desc).map (fun d => d.parameters.length) = some 2 := by decide +kernel
abbrev b_M_findBelow : ByteArray := prog_9_method_9_code
def y_M_findBelow : MethodName := ⟨"FaultTreeDeskModel", "findBelow", "()V"⟩
def w_M_findBelow : List Cond := Cond.code y_M_findBelow b_M_findBelow 3 none :: WS
set_option maxRecDepth 100000 in
theorem co_M_findBelow : Cond.code y_M_findBelow b_M_findBelow 3 none ∈ WS := ws_t (List.mem_of_getElem? (i := 732) rfl) rfl
theorem im_M_findBelow : Cond.instanceMethod y_M_findBelow ∈ WS := ws_t (List.mem_of_getElem? (i := 731) (by decide +kernel)) (by decide +kernel)
theorem se_M_findBelow : Cond.selects "FaultTreeDeskModel" y_M_findBelow y_M_findBelow ∈ WS := ws_p (List.mem_of_getElem? (i := 26) (by decide +kernel)) (by decide +kernel)
theorem cd_M_findBelow : y_M_findBelow.cls = R_M ∧ y_M_findBelow.cls ≠ "java/lang/invoke/MethodHandle" ∧ y_M_findBelow.cls ≠ "java/lang/invoke/VarHandle" ∧ (parseMethodDescriptor y_M_findBelow.desc).map (fun d => d.parameters.length) = some 0 := by decide +kernel
abbrev b_M_top : ByteArray := prog_9_method_12_code
def y_M_top : MethodName := ⟨"FaultTreeDeskModel", "top", "(I)V"⟩
def w_M_top : List Cond := Cond.code y_M_top b_M_top 2 none :: WS
set_option maxRecDepth 100000 in
theorem co_M_top : Cond.code y_M_top b_M_top 2 none ∈ WS := ws_t (List.mem_of_getElem? (i := 736) rfl) rfl
theorem im_M_top : Cond.instanceMethod y_M_top ∈ WS := ws_t (List.mem_of_getElem? (i := 734) (by decide +kernel)) (by decide +kernel)
theorem se_M_top : Cond.selects "FaultTreeDeskModel" y_M_top y_M_top ∈ WS := ws_t (List.mem_of_getElem? (i := 735) (by decide +kernel)) (by decide +kernel)
theorem cd_M_top : y_M_top.cls = R_M ∧ y_M_top.cls ≠ "java/lang/invoke/MethodHandle" ∧ y_M_top.cls ≠ "java/lang/invoke/VarHandle" ∧ (parseMethodDescriptor y_M_top.desc).map (fun d => d.parameters.length) = some 1 := by decide +kernel
abbrev b_M_value : ByteArray := prog_9_method_17_code
def y_M_value : MethodName := ⟨"FaultTreeDeskModel", "value", "(I)Z"⟩
def w_M_value : List Cond := Cond.code y_M_value b_M_value 2 (some .boolean) :: WS
set_option maxRecDepth 100000 in
theorem co_M_value : Cond.code y_M_value b_M_value 2 (some .boolean) ∈ WS := ws_t (List.mem_of_getElem? (i := 740) rfl) rfl
theorem im_M_value : Cond.instanceMethod y_M_value ∈ WS := ws_t (List.mem_of_getElem? (i := 738) (by decide +kernel)) (by decide +kernel)
theorem se_M_value : Cond.selects "FaultTreeDeskModel" y_M_value y_M_value ∈ WS := ws_t (List.mem_of_getElem? (i := 739) (by decide +kernel)) (by decide +kernel)
theorem cd_M_value : y_M_value.cls = R_M ∧ y_M_value.cls ≠ "java/lang/invoke/MethodHandle" ∧ y_M_value.cls ≠ "java/lang/invoke/VarHandle" ∧ (parseMethodDescriptor y_M_value.desc).map (fun d => d.parameters.length) = some 1 := by decide +kernel
abbrev b_M_lacks : ByteArray := prog_9_method_16_code
def y_M_lacks : MethodName := ⟨"FaultTreeDeskModel", "lacks", "(I)Z"⟩
def w_M_lacks : List Cond := Cond.code y_M_lacks b_M_lacks 2 (some .boolean) :: WS
set_option maxRecDepth 100000 in
theorem co_M_lacks : Cond.code y_M_lacks b_M_lacks 2 (some .boolean) ∈ WS := ws_t (List.mem_of_getElem? (i := 744) rfl) rfl
theorem im_M_lacks : Cond.instanceMethod y_M_lacks ∈ WS := ws_t (List.mem_of_getElem? (i := 743) (by decide +kernel)) (by decide +kernel)
theorem se_M_lacks : Cond.selects "FaultTreeDeskModel" y_M_lacks y_M_lacks ∈ WS := ws_p (List.mem_of_getElem? (i := 27) (by decide +kernel)) (by decide +kernel)
theorem cd_M_lacks : y_M_lacks.cls = R_M ∧ y_M_lacks.cls ≠ "java/lang/invoke/MethodHandle" ∧ y_M_lacks.cls ≠ "java/lang/invoke/VarHandle" ∧ (parseMethodDescriptor y_M_lacks.desc).map (fun d => d.parameters.length) = some 1 := by decide +kernel
abbrev b_M_work : ByteArray := prog_9_method_15_code
def y_M_work : MethodName := ⟨"FaultTreeDeskModel", "work", "()V"⟩
def w_M_work : List Cond := Cond.code y_M_work b_M_work 6 none :: WS
set_option maxRecDepth 100000 in
theorem co_M_work : Cond.code y_M_work b_M_work 6 none ∈ WS := ws_t (List.mem_of_getElem? (i := 748) rfl) rfl
theorem im_M_work : Cond.instanceMethod y_M_work ∈ WS := ws_t (List.mem_of_getElem? (i := 747) (by decide +kernel)) (by decide +kernel)
theorem se_M_work : Cond.selects "FaultTreeDeskModel" y_M_work y_M_work ∈ WS := ws_p (List.mem_of_getElem? (i := 28) (by decide +kernel)) (by decide +kernel)
theorem cd_M_work : y_M_work.cls = R_M ∧ y_M_work.cls ≠ "java/lang/invoke/MethodHandle" ∧ y_M_work.cls ≠ "java/lang/invoke/VarHandle" ∧ (parseMethodDescriptor y_M_work.desc).map (fun d => d.parameters.length) = some 0 := by decide +kernel
abbrev b_M_sort : ByteArray := prog_9_method_13_code
def y_M_sort : MethodName := ⟨"FaultTreeDeskModel", "sort", "()V"⟩
def w_M_sort : List Cond := Cond.code y_M_sort b_M_sort 6 none :: WS
set_option maxRecDepth 100000 in
theorem co_M_sort : Cond.code y_M_sort b_M_sort 6 none ∈ WS := ws_t (List.mem_of_getElem? (i := 752) rfl) rfl
theorem im_M_sort : Cond.instanceMethod y_M_sort ∈ WS := ws_t (List.mem_of_getElem? (i := 751) (by decide +kernel)) (by decide +kernel)
theorem se_M_sort : Cond.selects "FaultTreeDeskModel" y_M_sort y_M_sort ∈ WS := ws_p (List.mem_of_getElem? (i := 29) (by decide +kernel)) (by decide +kernel)
theorem cd_M_sort : y_M_sort.cls = R_M ∧ y_M_sort.cls ≠ "java/lang/invoke/MethodHandle" ∧ y_M_sort.cls ≠ "java/lang/invoke/VarHandle" ∧ (parseMethodDescriptor y_M_sort.desc).map (fun d => d.parameters.length) = some 0 := by decide +kernel
abbrev b_M_isOn : ByteArray := prog_9_method_14_code
def y_M_isOn : MethodName := ⟨"FaultTreeDeskModel", "isOn", "(II)Z"⟩
def w_M_isOn : List Cond := Cond.code y_M_isOn b_M_isOn 3 (some .boolean) :: WS
set_option maxRecDepth 100000 in
theorem co_M_isOn : Cond.code y_M_isOn b_M_isOn 3 (some .boolean) ∈ WS := ws_t (List.mem_of_getElem? (i := 756) rfl) rfl
theorem im_M_isOn : Cond.instanceMethod y_M_isOn ∈ WS := ws_t (List.mem_of_getElem? (i := 755) (by decide +kernel)) (by decide +kernel)
theorem se_M_isOn : Cond.selects "FaultTreeDeskModel" y_M_isOn y_M_isOn ∈ WS := ws_p (List.mem_of_getElem? (i := 30) (by decide +kernel)) (by decide +kernel)
theorem cd_M_isOn : y_M_isOn.cls = R_M ∧ y_M_isOn.cls ≠ "java/lang/invoke/MethodHandle" ∧ y_M_isOn.cls ≠ "java/lang/invoke/VarHandle" ∧ (parseMethodDescriptor y_M_isOn.desc).map (fun d => d.parameters.length) = some 2 := by decide +kernel
abbrev b_M_odds : ByteArray := prog_9_method_19_code
def y_M_odds : MethodName := ⟨"FaultTreeDeskModel", "odds", "()J"⟩
def w_M_odds : List Cond := Cond.code y_M_odds b_M_odds 1 (some .long) :: WS
set_option maxRecDepth 100000 in
theorem co_M_odds : Cond.code y_M_odds b_M_odds 1 (some .long) ∈ WS := ws_t (List.mem_of_getElem? (i := 760) rfl) rfl
theorem im_M_odds : Cond.instanceMethod y_M_odds ∈ WS := ws_t (List.mem_of_getElem? (i := 758) (by decide +kernel)) (by decide +kernel)
theorem se_M_odds : Cond.selects "FaultTreeDeskModel" y_M_odds y_M_odds ∈ WS := ws_t (List.mem_of_getElem? (i := 759) (by decide +kernel)) (by decide +kernel)
theorem cd_M_odds : y_M_odds.cls = R_M ∧ y_M_odds.cls ≠ "java/lang/invoke/MethodHandle" ∧ y_M_odds.cls ≠ "java/lang/invoke/VarHandle" ∧ (parseMethodDescriptor y_M_odds.desc).map (fun d => d.parameters.length) = some 0 := by decide +kernel
abbrev b_M_sum : ByteArray := prog_9_method_18_code
def y_M_sum : MethodName := ⟨"FaultTreeDeskModel", "sum", "()J"⟩
def w_M_sum : List Cond := Cond.code y_M_sum b_M_sum 9 (some .long) :: WS
set_option maxRecDepth 100000 in
theorem co_M_sum : Cond.code y_M_sum b_M_sum 9 (some .long) ∈ WS := ws_t (List.mem_of_getElem? (i := 764) rfl) rfl
theorem im_M_sum : Cond.instanceMethod y_M_sum ∈ WS := ws_t (List.mem_of_getElem? (i := 763) (by decide +kernel)) (by decide +kernel)
theorem se_M_sum : Cond.selects "FaultTreeDeskModel" y_M_sum y_M_sum ∈ WS := ws_p (List.mem_of_getElem? (i := 31) (by decide +kernel)) (by decide +kernel)
theorem cd_M_sum : y_M_sum.cls = R_M ∧ y_M_sum.cls ≠ "java/lang/invoke/MethodHandle" ∧ y_M_sum.cls ≠ "java/lang/invoke/VarHandle" ∧ (parseMethodDescriptor y_M_sum.desc).map (fun d => d.parameters.length) = some 0 := by decide +kernel
abbrev b_M_digit : ByteArray := prog_9_method_20_code
def y_M_digit : MethodName := ⟨"FaultTreeDeskModel", "digit", "(I)I"⟩
def w_M_digit : List Cond := Cond.code y_M_digit b_M_digit 8 (some .int) :: WS
set_option maxRecDepth 100000 in
theorem co_M_digit : Cond.code y_M_digit b_M_digit 8 (some .int) ∈ WS := ws_t (List.mem_of_getElem? (i := 768) rfl) rfl
theorem im_M_digit : Cond.instanceMethod y_M_digit ∈ WS := ws_t (List.mem_of_getElem? (i := 766) (by decide +kernel)) (by decide +kernel)
theorem se_M_digit : Cond.selects "FaultTreeDeskModel" y_M_digit y_M_digit ∈ WS := ws_t (List.mem_of_getElem? (i := 767) (by decide +kernel)) (by decide +kernel)
theorem cd_M_digit : y_M_digit.cls = R_M ∧ y_M_digit.cls ≠ "java/lang/invoke/MethodHandle" ∧ y_M_digit.cls ≠ "java/lang/invoke/VarHandle" ∧ (parseMethodDescriptor y_M_digit.desc).map (fun d => d.parameters.length) = some 1 := by decide +kernel
abbrev b_M_weight : ByteArray := prog_9_method_21_code
def y_M_weight : MethodName := ⟨"FaultTreeDeskModel", "weight", "(I)J"⟩
def w_M_weight : List Cond := Cond.code y_M_weight b_M_weight 5 (some .long) :: WS
set_option maxRecDepth 100000 in
theorem co_M_weight : Cond.code y_M_weight b_M_weight 5 (some .long) ∈ WS := ws_t (List.mem_of_getElem? (i := 773) rfl) rfl
theorem im_M_weight : Cond.instanceMethod y_M_weight ∈ WS := ws_t (List.mem_of_getElem? (i := 771) (by decide +kernel)) (by decide +kernel)
theorem se_M_weight : Cond.selects "FaultTreeDeskModel" y_M_weight y_M_weight ∈ WS := ws_t (List.mem_of_getElem? (i := 772) (by decide +kernel)) (by decide +kernel)
theorem cd_M_weight : y_M_weight.cls = R_M ∧ y_M_weight.cls ≠ "java/lang/invoke/MethodHandle" ∧ y_M_weight.cls ≠ "java/lang/invoke/VarHandle" ∧ (parseMethodDescriptor y_M_weight.desc).map (fun d => d.parameters.length) = some 1 := by decide +kernel
abbrev b_M_nodes : ByteArray := prog_9_method_24_code
def y_M_nodes : MethodName := ⟨"FaultTreeDeskModel", "nodes", "()I"⟩
def w_M_nodes : List Cond := Cond.code y_M_nodes b_M_nodes 6 (some .int) :: WS
set_option maxRecDepth 100000 in
theorem co_M_nodes : Cond.code y_M_nodes b_M_nodes 6 (some .int) ∈ WS := ws_t (List.mem_of_getElem? (i := 777) rfl) rfl
theorem im_M_nodes : Cond.instanceMethod y_M_nodes ∈ WS := ws_t (List.mem_of_getElem? (i := 775) (by decide +kernel)) (by decide +kernel)
theorem se_M_nodes : Cond.selects "FaultTreeDeskModel" y_M_nodes y_M_nodes ∈ WS := ws_t (List.mem_of_getElem? (i := 776) (by decide +kernel)) (by decide +kernel)
theorem cd_M_nodes : y_M_nodes.cls = R_M ∧ y_M_nodes.cls ≠ "java/lang/invoke/MethodHandle" ∧ y_M_nodes.cls ≠ "java/lang/invoke/VarHandle" ∧ (parseMethodDescriptor y_M_nodes.desc).map (fun d => d.parameters.length) = some 0 := by decide +kernel
abbrev b_M_matters : ByteArray := prog_9_method_23_code
def y_M_matters : MethodName := ⟨"FaultTreeDeskModel", "matters", "(II)Z"⟩
def w_M_matters : List Cond := Cond.code y_M_matters b_M_matters 5 (some .boolean) :: WS
set_option maxRecDepth 100000 in
theorem co_M_matters : Cond.code y_M_matters b_M_matters 5 (some .boolean) ∈ WS := ws_t (List.mem_of_getElem? (i := 781) rfl) rfl
theorem im_M_matters : Cond.instanceMethod y_M_matters ∈ WS := ws_t (List.mem_of_getElem? (i := 780) (by decide +kernel)) (by decide +kernel)
theorem se_M_matters : Cond.selects "FaultTreeDeskModel" y_M_matters y_M_matters ∈ WS := ws_p (List.mem_of_getElem? (i := 32) (by decide +kernel)) (by decide +kernel)
theorem cd_M_matters : y_M_matters.cls = R_M ∧ y_M_matters.cls ≠ "java/lang/invoke/MethodHandle" ∧ y_M_matters.cls ≠ "java/lang/invoke/VarHandle" ∧ (parseMethodDescriptor y_M_matters.desc).map (fun d => d.parameters.length) = some 2 := by decide +kernel
abbrev b_M_alike : ByteArray := prog_9_method_22_code
def y_M_alike : MethodName := ⟨"FaultTreeDeskModel", "alike", "(III)Z"⟩
def w_M_alike : List Cond := Cond.code y_M_alike b_M_alike 6 (some .boolean) :: WS
set_option maxRecDepth 100000 in
theorem co_M_alike : Cond.code y_M_alike b_M_alike 6 (some .boolean) ∈ WS := ws_t (List.mem_of_getElem? (i := 785) rfl) rfl
theorem im_M_alike : Cond.instanceMethod y_M_alike ∈ WS := ws_t (List.mem_of_getElem? (i := 784) (by decide +kernel)) (by decide +kernel)
theorem se_M_alike : Cond.selects "FaultTreeDeskModel" y_M_alike y_M_alike ∈ WS := ws_p (List.mem_of_getElem? (i := 33) (by decide +kernel)) (by decide +kernel)
theorem cd_M_alike : y_M_alike.cls = R_M ∧ y_M_alike.cls ≠ "java/lang/invoke/MethodHandle" ∧ y_M_alike.cls ≠ "java/lang/invoke/VarHandle" ∧ (parseMethodDescriptor y_M_alike.desc).map (fun d => d.parameters.length) = some 3 := by decide +kernel
abbrev b_M_primes : ByteArray := prog_9_method_35_code
def y_M_primes : MethodName := ⟨"FaultTreeDeskModel", "primes", "(I)I"⟩
def w_M_primes : List Cond := Cond.code y_M_primes b_M_primes 4 (some .int) :: WS
set_option maxRecDepth 100000 in
theorem co_M_primes : Cond.code y_M_primes b_M_primes 4 (some .int) ∈ WS := ws_t (List.mem_of_getElem? (i := 789) rfl) rfl
theorem im_M_primes : Cond.instanceMethod y_M_primes ∈ WS := ws_t (List.mem_of_getElem? (i := 787) (by decide +kernel)) (by decide +kernel)
theorem se_M_primes : Cond.selects "FaultTreeDeskModel" y_M_primes y_M_primes ∈ WS := ws_t (List.mem_of_getElem? (i := 788) (by decide +kernel)) (by decide +kernel)
theorem cd_M_primes : y_M_primes.cls = R_M ∧ y_M_primes.cls ≠ "java/lang/invoke/MethodHandle" ∧ y_M_primes.cls ≠ "java/lang/invoke/VarHandle" ∧ (parseMethodDescriptor y_M_primes.desc).map (fun d => d.parameters.length) = some 1 := by decide +kernel
abbrev b_M_fails : ByteArray := prog_9_method_34_code
def y_M_fails : MethodName := ⟨"FaultTreeDeskModel", "fails", "(I)Z"⟩
def w_M_fails : List Cond := Cond.code y_M_fails b_M_fails 2 (some .boolean) :: WS
set_option maxRecDepth 100000 in
theorem co_M_fails : Cond.code y_M_fails b_M_fails 2 (some .boolean) ∈ WS := ws_t (List.mem_of_getElem? (i := 793) rfl) rfl
theorem im_M_fails : Cond.instanceMethod y_M_fails ∈ WS := ws_t (List.mem_of_getElem? (i := 792) (by decide +kernel)) (by decide +kernel)
theorem se_M_fails : Cond.selects "FaultTreeDeskModel" y_M_fails y_M_fails ∈ WS := ws_p (List.mem_of_getElem? (i := 34) (by decide +kernel)) (by decide +kernel)
theorem cd_M_fails : y_M_fails.cls = R_M ∧ y_M_fails.cls ≠ "java/lang/invoke/MethodHandle" ∧ y_M_fails.cls ≠ "java/lang/invoke/VarHandle" ∧ (parseMethodDescriptor y_M_fails.desc).map (fun d => d.parameters.length) = some 1 := by decide +kernel
abbrev b_M_findPrimes : ByteArray := prog_9_method_33_code
def y_M_findPrimes : MethodName := ⟨"FaultTreeDeskModel", "findPrimes", "()Z"⟩
def w_M_findPrimes : List Cond := Cond.code y_M_findPrimes b_M_findPrimes 8 (some .boolean) :: WS
set_option maxRecDepth 100000 in
theorem co_M_findPrimes : Cond.code y_M_findPrimes b_M_findPrimes 8 (some .boolean) ∈ WS := ws_t (List.mem_of_getElem? (i := 797) rfl) rfl
theorem im_M_findPrimes : Cond.instanceMethod y_M_findPrimes ∈ WS := ws_t (List.mem_of_getElem? (i := 796) (by decide +kernel)) (by decide +kernel)
theorem se_M_findPrimes : Cond.selects "FaultTreeDeskModel" y_M_findPrimes y_M_findPrimes ∈ WS := ws_p (List.mem_of_getElem? (i := 35) (by decide +kernel)) (by decide +kernel)
theorem cd_M_findPrimes : y_M_findPrimes.cls = R_M ∧ y_M_findPrimes.cls ≠ "java/lang/invoke/MethodHandle" ∧ y_M_findPrimes.cls ≠ "java/lang/invoke/VarHandle" ∧ (parseMethodDescriptor y_M_findPrimes.desc).map (fun d => d.parameters.length) = some 0 := by decide +kernel
abbrev b_M_power : ByteArray := prog_9_method_25_code
def y_M_power : MethodName := ⟨"FaultTreeDeskModel", "power", "(I)I"⟩
def w_M_power : List Cond := Cond.code y_M_power b_M_power 3 (some .int) :: WS
set_option maxRecDepth 100000 in
theorem co_M_power : Cond.code y_M_power b_M_power 3 (some .int) ∈ WS := ws_t (List.mem_of_getElem? (i := 800) rfl) rfl
theorem sm_M_power : Cond.static y_M_power ∈ WS := ws_t (List.mem_of_getElem? (i := 799) (by decide +kernel)) (by decide +kernel)
theorem ce_M_power : y_M_power.cls ≠ "java/lang/invoke/MethodHandle" ∧ y_M_power.cls ≠ "java/lang/invoke/VarHandle" ∧ (parseMethodDescriptor y_M_power.desc).map (fun d => d.parameters.length) = some 1 := by decide +kernel
theorem cd_M_power : y_M_power.cls = R_M ∧ y_M_power.cls ≠ "java/lang/invoke/MethodHandle" ∧ y_M_power.cls ≠ "java/lang/invoke/VarHandle" ∧ (parseMethodDescriptor y_M_power.desc).map (fun d => d.parameters.length) = some 1 := by decide +kernel
abbrev b_M_settingOf : ByteArray := prog_9_method_27_code
def y_M_settingOf : MethodName := ⟨"FaultTreeDeskModel", "settingOf", "(I)I"⟩
def w_M_settingOf : List Cond := Cond.code y_M_settingOf b_M_settingOf 5 (some .int) :: WS
set_option maxRecDepth 100000 in
theorem co_M_settingOf : Cond.code y_M_settingOf b_M_settingOf 5 (some .int) ∈ WS := ws_t (List.mem_of_getElem? (i := 804) rfl) rfl
theorem im_M_settingOf : Cond.instanceMethod y_M_settingOf ∈ WS := ws_t (List.mem_of_getElem? (i := 803) (by decide +kernel)) (by decide +kernel)
theorem se_M_settingOf : Cond.selects "FaultTreeDeskModel" y_M_settingOf y_M_settingOf ∈ WS := ws_p (List.mem_of_getElem? (i := 36) (by decide +kernel)) (by decide +kernel)
theorem cd_M_settingOf : y_M_settingOf.cls = R_M ∧ y_M_settingOf.cls ≠ "java/lang/invoke/MethodHandle" ∧ y_M_settingOf.cls ≠ "java/lang/invoke/VarHandle" ∧ (parseMethodDescriptor y_M_settingOf.desc).map (fun d => d.parameters.length) = some 1 := by decide +kernel
abbrev b_M_isCause : ByteArray := prog_9_method_26_code
def y_M_isCause : MethodName := ⟨"FaultTreeDeskModel", "isCause", "(I)Z"⟩
def w_M_isCause : List Cond := Cond.code y_M_isCause b_M_isCause 2 (some .boolean) :: WS
set_option maxRecDepth 100000 in
theorem co_M_isCause : Cond.code y_M_isCause b_M_isCause 2 (some .boolean) ∈ WS := ws_t (List.mem_of_getElem? (i := 808) rfl) rfl
theorem im_M_isCause : Cond.instanceMethod y_M_isCause ∈ WS := ws_t (List.mem_of_getElem? (i := 807) (by decide +kernel)) (by decide +kernel)
theorem se_M_isCause : Cond.selects "FaultTreeDeskModel" y_M_isCause y_M_isCause ∈ WS := ws_p (List.mem_of_getElem? (i := 37) (by decide +kernel)) (by decide +kernel)
theorem cd_M_isCause : y_M_isCause.cls = R_M ∧ y_M_isCause.cls ≠ "java/lang/invoke/MethodHandle" ∧ y_M_isCause.cls ≠ "java/lang/invoke/VarHandle" ∧ (parseMethodDescriptor y_M_isCause.desc).map (fun d => d.parameters.length) = some 1 := by decide +kernel
abbrev b_M_isPrime : ByteArray := prog_9_method_28_code
def y_M_isPrime : MethodName := ⟨"FaultTreeDeskModel", "isPrime", "(I)Z"⟩
def w_M_isPrime : List Cond := Cond.code y_M_isPrime b_M_isPrime 7 (some .boolean) :: WS
set_option maxRecDepth 100000 in
theorem co_M_isPrime : Cond.code y_M_isPrime b_M_isPrime 7 (some .boolean) ∈ WS := ws_t (List.mem_of_getElem? (i := 813) rfl) rfl
theorem im_M_isPrime : Cond.instanceMethod y_M_isPrime ∈ WS := ws_t (List.mem_of_getElem? (i := 812) (by decide +kernel)) (by decide +kernel)
theorem se_M_isPrime : Cond.selects "FaultTreeDeskModel" y_M_isPrime y_M_isPrime ∈ WS := ws_p (List.mem_of_getElem? (i := 38) (by decide +kernel)) (by decide +kernel)
theorem cd_M_isPrime : y_M_isPrime.cls = R_M ∧ y_M_isPrime.cls ≠ "java/lang/invoke/MethodHandle" ∧ y_M_isPrime.cls ≠ "java/lang/invoke/VarHandle" ∧ (parseMethodDescriptor y_M_isPrime.desc).map (fun d => d.parameters.length) = some 1 := by decide +kernel
abbrev b_M_eventsOf : ByteArray := prog_9_method_29_code
def y_M_eventsOf : MethodName := ⟨"FaultTreeDeskModel", "eventsOf", "(II)I"⟩
def w_M_eventsOf : List Cond := Cond.code y_M_eventsOf b_M_eventsOf 6 (some .int) :: WS
set_option maxRecDepth 100000 in
theorem co_M_eventsOf : Cond.code y_M_eventsOf b_M_eventsOf 6 (some .int) ∈ WS := ws_t (List.mem_of_getElem? (i := 817) rfl) rfl
theorem im_M_eventsOf : Cond.instanceMethod y_M_eventsOf ∈ WS := ws_t (List.mem_of_getElem? (i := 816) (by decide +kernel)) (by decide +kernel)
theorem se_M_eventsOf : Cond.selects "FaultTreeDeskModel" y_M_eventsOf y_M_eventsOf ∈ WS := ws_p (List.mem_of_getElem? (i := 39) (by decide +kernel)) (by decide +kernel)
theorem cd_M_eventsOf : y_M_eventsOf.cls = R_M ∧ y_M_eventsOf.cls ≠ "java/lang/invoke/MethodHandle" ∧ y_M_eventsOf.cls ≠ "java/lang/invoke/VarHandle" ∧ (parseMethodDescriptor y_M_eventsOf.desc).map (fun d => d.parameters.length) = some 2 := by decide +kernel
abbrev b_M_keep : ByteArray := prog_9_method_32_code
def y_M_keep : MethodName := ⟨"FaultTreeDeskModel", "keep", "(II)V"⟩
def w_M_keep : List Cond := Cond.code y_M_keep b_M_keep 4 none :: WS
set_option maxRecDepth 100000 in
theorem co_M_keep : Cond.code y_M_keep b_M_keep 4 none ∈ WS := ws_t (List.mem_of_getElem? (i := 821) rfl) rfl
theorem im_M_keep : Cond.instanceMethod y_M_keep ∈ WS := ws_t (List.mem_of_getElem? (i := 820) (by decide +kernel)) (by decide +kernel)
theorem se_M_keep : Cond.selects "FaultTreeDeskModel" y_M_keep y_M_keep ∈ WS := ws_p (List.mem_of_getElem? (i := 40) (by decide +kernel)) (by decide +kernel)
theorem cd_M_keep : y_M_keep.cls = R_M ∧ y_M_keep.cls ≠ "java/lang/invoke/MethodHandle" ∧ y_M_keep.cls ≠ "java/lang/invoke/VarHandle" ∧ (parseMethodDescriptor y_M_keep.desc).map (fun d => d.parameters.length) = some 2 := by decide +kernel
abbrev b_M_isBefore : ByteArray := prog_9_method_31_code
def y_M_isBefore : MethodName := ⟨"FaultTreeDeskModel", "isBefore", "(IIII)Z"⟩
def w_M_isBefore : List Cond := Cond.code y_M_isBefore b_M_isBefore 5 (some .boolean) :: WS
set_option maxRecDepth 100000 in
theorem co_M_isBefore : Cond.code y_M_isBefore b_M_isBefore 5 (some .boolean) ∈ WS := ws_t (List.mem_of_getElem? (i := 824) rfl) rfl
theorem sm_M_isBefore : Cond.static y_M_isBefore ∈ WS := ws_t (List.mem_of_getElem? (i := 823) (by decide +kernel)) (by decide +kernel)
theorem ce_M_isBefore : y_M_isBefore.cls ≠ "java/lang/invoke/MethodHandle" ∧ y_M_isBefore.cls ≠ "java/lang/invoke/VarHandle" ∧ (parseMethodDescriptor y_M_isBefore.desc).map (fun d => d.parameters.length) = some 4 := by decide +kernel
theorem cd_M_isBefore : y_M_isBefore.cls = R_M ∧ y_M_isBefore.cls ≠ "java/lang/invoke/MethodHandle" ∧ y_M_isBefore.cls ≠ "java/lang/invoke/VarHandle" ∧ (parseMethodDescriptor y_M_isBefore.desc).map (fun d => d.parameters.length) = some 4 := by decide +kernel
abbrev b_M_size : ByteArray := prog_9_method_30_code
def y_M_size : MethodName := ⟨"FaultTreeDeskModel", "size", "(I)I"⟩
def w_M_size : List Cond := Cond.code y_M_size b_M_size 3 (some .int) :: WS
set_option maxRecDepth 100000 in
theorem co_M_size : Cond.code y_M_size b_M_size 3 (some .int) ∈ WS := ws_t (List.mem_of_getElem? (i := 827) rfl) rfl
theorem sm_M_size : Cond.static y_M_size ∈ WS := ws_t (List.mem_of_getElem? (i := 826) (by decide +kernel)) (by decide +kernel)
theorem ce_M_size : y_M_size.cls ≠ "java/lang/invoke/MethodHandle" ∧ y_M_size.cls ≠ "java/lang/invoke/VarHandle" ∧ (parseMethodDescriptor y_M_size.desc).map (fun d => d.parameters.length) = some 1 := by decide +kernel
theorem cd_M_size : y_M_size.cls = R_M ∧ y_M_size.cls ≠ "java/lang/invoke/MethodHandle" ∧ y_M_size.cls ≠ "java/lang/invoke/VarHandle" ∧ (parseMethodDescriptor y_M_size.desc).map (fun d => d.parameters.length) = some 1 := by decide +kernel
abbrev b_M_prime : ByteArray := prog_9_method_36_code
def y_M_prime : MethodName := ⟨"FaultTreeDeskModel", "prime", "(II)I"⟩
def w_M_prime : List Cond := Cond.code y_M_prime b_M_prime 3 (some .int) :: WS
set_option maxRecDepth 100000 in
theorem co_M_prime : Cond.code y_M_prime b_M_prime 3 (some .int) ∈ WS := ws_t (List.mem_of_getElem? (i := 831) rfl) rfl
theorem im_M_prime : Cond.instanceMethod y_M_prime ∈ WS := ws_t (List.mem_of_getElem? (i := 829) (by decide +kernel)) (by decide +kernel)
theorem se_M_prime : Cond.selects "FaultTreeDeskModel" y_M_prime y_M_prime ∈ WS := ws_t (List.mem_of_getElem? (i := 830) (by decide +kernel)) (by decide +kernel)
theorem cd_M_prime : y_M_prime.cls = R_M ∧ y_M_prime.cls ≠ "java/lang/invoke/MethodHandle" ∧ y_M_prime.cls ≠ "java/lang/invoke/VarHandle" ∧ (parseMethodDescriptor y_M_prime.desc).map (fun d => d.parameters.length) = some 2 := by decide +kernel
abbrev b_M_share : ByteArray := prog_9_method_37_code
def y_M_share : MethodName := ⟨"FaultTreeDeskModel", "share", "(I)I"⟩
def w_M_share : List Cond := Cond.code y_M_share b_M_share 4 (some .int) :: WS
set_option maxRecDepth 100000 in
theorem co_M_share : Cond.code y_M_share b_M_share 4 (some .int) ∈ WS := ws_t (List.mem_of_getElem? (i := 835) rfl) rfl
theorem im_M_share : Cond.instanceMethod y_M_share ∈ WS := ws_t (List.mem_of_getElem? (i := 833) (by decide +kernel)) (by decide +kernel)
theorem se_M_share : Cond.selects "FaultTreeDeskModel" y_M_share y_M_share ∈ WS := ws_t (List.mem_of_getElem? (i := 834) (by decide +kernel)) (by decide +kernel)
theorem cd_M_share : y_M_share.cls = R_M ∧ y_M_share.cls ≠ "java/lang/invoke/MethodHandle" ∧ y_M_share.cls ≠ "java/lang/invoke/VarHandle" ∧ (parseMethodDescriptor y_M_share.desc).map (fun d => d.parameters.length) = some 1 := by decide +kernel
abbrev b_M_modules : ByteArray := prog_9_method_39_code
def y_M_modules : MethodName := ⟨"FaultTreeDeskModel", "modules", "()I"⟩
def w_M_modules : List Cond := Cond.code y_M_modules b_M_modules 7 (some .int) :: WS
set_option maxRecDepth 100000 in
theorem co_M_modules : Cond.code y_M_modules b_M_modules 7 (some .int) ∈ WS := ws_t (List.mem_of_getElem? (i := 839) rfl) rfl
theorem im_M_modules : Cond.instanceMethod y_M_modules ∈ WS := ws_t (List.mem_of_getElem? (i := 837) (by decide +kernel)) (by decide +kernel)
theorem se_M_modules : Cond.selects "FaultTreeDeskModel" y_M_modules y_M_modules ∈ WS := ws_t (List.mem_of_getElem? (i := 838) (by decide +kernel)) (by decide +kernel)
theorem cd_M_modules : y_M_modules.cls = R_M ∧ y_M_modules.cls ≠ "java/lang/invoke/MethodHandle" ∧ y_M_modules.cls ≠ "java/lang/invoke/VarHandle" ∧ (parseMethodDescriptor y_M_modules.desc).map (fun d => d.parameters.length) = some 0 := by decide +kernel
abbrev b_M_isUnder : ByteArray := prog_9_method_38_code
def y_M_isUnder : MethodName := ⟨"FaultTreeDeskModel", "isUnder", "(II)Z"⟩
def w_M_isUnder : List Cond := Cond.code y_M_isUnder b_M_isUnder 5 (some .boolean) :: WS
set_option maxRecDepth 100000 in
theorem co_M_isUnder : Cond.code y_M_isUnder b_M_isUnder 5 (some .boolean) ∈ WS := ws_t (List.mem_of_getElem? (i := 843) rfl) rfl
theorem im_M_isUnder : Cond.instanceMethod y_M_isUnder ∈ WS := ws_t (List.mem_of_getElem? (i := 842) (by decide +kernel)) (by decide +kernel)
theorem se_M_isUnder : Cond.selects "FaultTreeDeskModel" y_M_isUnder y_M_isUnder ∈ WS := ws_p (List.mem_of_getElem? (i := 41) (by decide +kernel)) (by decide +kernel)
theorem cd_M_isUnder : y_M_isUnder.cls = R_M ∧ y_M_isUnder.cls ≠ "java/lang/invoke/MethodHandle" ∧ y_M_isUnder.cls ≠ "java/lang/invoke/VarHandle" ∧ (parseMethodDescriptor y_M_isUnder.desc).map (fun d => d.parameters.length) = some 2 := by decide +kernel
theorem ml_F_62 : Cond.methodLink "FaultTreeDesk" 62 y_F_needChance ∈ WS := ws_t (List.mem_of_getElem? (i := 196) (by decide +kernel)) (by decide +kernel)
theorem ml_F_76 : Cond.methodLink "FaultTreeDesk" 76 y_F_forgetAnswers ∈ WS := ws_t (List.mem_of_getElem? (i := 285) (by decide +kernel)) (by decide +kernel)
theorem ml_F_79 : Cond.methodLink "FaultTreeDesk" 79 y_E_add ∈ WS := ws_t (List.mem_of_getElem? (i := 289) (by decide +kernel)) (by decide +kernel)
theorem ml_F_83 : Cond.methodLink "FaultTreeDesk" 83 y_F_needEvent ∈ WS := ws_t (List.mem_of_getElem? (i := 300) (by decide +kernel)) (by decide +kernel)
theorem ml_F_111 : Cond.methodLink "FaultTreeDesk" 111 y_E_has ∈ WS := ws_t (List.mem_of_getElem? (i := 304) (by decide +kernel)) (by decide +kernel)
theorem ml_F_105 : Cond.methodLink "FaultTreeDesk" 105 y_G_add ∈ WS := ws_t (List.mem_of_getElem? (i := 327) (by decide +kernel)) (by decide +kernel)
theorem ml_F_108 : Cond.methodLink "FaultTreeDesk" 108 y_F_needGate ∈ WS := ws_t (List.mem_of_getElem? (i := 339) (by decide +kernel)) (by decide +kernel)
theorem ml_F_199 : Cond.methodLink "FaultTreeDesk" 199 y_G_has ∈ WS := ws_t (List.mem_of_getElem? (i := 343) (by decide +kernel)) (by decide +kernel)
theorem ml_F_115 : Cond.methodLink "FaultTreeDesk" 115 y_G_hasCode ∈ WS := ws_t (List.mem_of_getElem? (i := 348) (by decide +kernel)) (by decide +kernel)
theorem ml_F_120 : Cond.methodLink "FaultTreeDesk" 120 y_G_isChild ∈ WS := ws_t (List.mem_of_getElem? (i := 353) (by decide +kernel)) (by decide +kernel)
theorem ml_F_124 : Cond.methodLink "FaultTreeDesk" 124 y_G_isFull ∈ WS := ws_t (List.mem_of_getElem? (i := 357) (by decide +kernel)) (by decide +kernel)
theorem ml_G_28 : Cond.methodLink "FaultTreeDesk$Gates" 28 y_JI_bitCount ∈ WS := ws_t (List.mem_of_getElem? (i := 361) (by decide +kernel)) (by decide +kernel)
theorem ml_F_129 : Cond.methodLink "FaultTreeDesk" 129 y_G_wouldLoop ∈ WS := ws_t (List.mem_of_getElem? (i := 368) (by decide +kernel)) (by decide +kernel)
theorem ml_G_34 : Cond.methodLink "FaultTreeDesk$Gates" 34 y_G_withBelow ∈ WS := ws_t (List.mem_of_getElem? (i := 372) (by decide +kernel)) (by decide +kernel)
theorem ml_F_137 : Cond.methodLink "FaultTreeDesk" 137 y_G_join ∈ WS := ws_t (List.mem_of_getElem? (i := 392) (by decide +kernel)) (by decide +kernel)
theorem ml_F_140 : Cond.methodLink "FaultTreeDesk" 140 y_F_needTop ∈ WS := ws_t (List.mem_of_getElem? (i := 410) (by decide +kernel)) (by decide +kernel)
theorem ml_F_143 : Cond.methodLink "FaultTreeDesk" 143 y_F_freshenTruth ∈ WS := ws_t (List.mem_of_getElem? (i := 415) (by decide +kernel)) (by decide +kernel)
theorem ml_F_159 : Cond.methodLink "FaultTreeDesk" 159 y_T_fill ∈ WS := ws_t (List.mem_of_getElem? (i := 419) (by decide +kernel)) (by decide +kernel)
theorem ml_T_35 : Cond.methodLink "FaultTreeDesk$Truth" 35 Lib.Math.max.name ∈ WS := ws_t (List.mem_of_getElem? (i := 423) (by decide +kernel)) (by decide +kernel)
theorem ml_T_44 : Cond.methodLink "FaultTreeDesk$Truth" 44 y_T_fillEvent ∈ WS := ws_t (List.mem_of_getElem? (i := 426) (by decide +kernel)) (by decide +kernel)
theorem ml_T_48 : Cond.methodLink "FaultTreeDesk$Truth" 48 y_T_fillGates ∈ WS := ws_t (List.mem_of_getElem? (i := 433) (by decide +kernel)) (by decide +kernel)
theorem ml_T_58 : Cond.methodLink "FaultTreeDesk$Truth" 58 y_G_withBelow ∈ WS := ws_t (List.mem_of_getElem? (i := 437) (by decide +kernel)) (by decide +kernel)
theorem ml_T_68 : Cond.methodLink "FaultTreeDesk$Truth" 68 y_T_fillGate ∈ WS := ws_t (List.mem_of_getElem? (i := 438) (by decide +kernel)) (by decide +kernel)
theorem ml_T_75 : Cond.methodLink "FaultTreeDesk$Truth" 75 y_T_listInputs ∈ WS := ws_t (List.mem_of_getElem? (i := 442) (by decide +kernel)) (by decide +kernel)
theorem ml_T_81 : Cond.methodLink "FaultTreeDesk$Truth" 81 y_T_oddWord ∈ WS := ws_t (List.mem_of_getElem? (i := 446) (by decide +kernel)) (by decide +kernel)
theorem ml_T_85 : Cond.methodLink "FaultTreeDesk$Truth" 85 y_T_atLeastWord ∈ WS := ws_t (List.mem_of_getElem? (i := 450) (by decide +kernel)) (by decide +kernel)
theorem ml_F_146 : Cond.methodLink "FaultTreeDesk" 146 y_T_isTrue ∈ WS := ws_t (List.mem_of_getElem? (i := 454) (by decide +kernel)) (by decide +kernel)
theorem ml_F_149 : Cond.methodLink "FaultTreeDesk" 149 y_O_total ∈ WS := ws_t (List.mem_of_getElem? (i := 465) (by decide +kernel)) (by decide +kernel)
theorem ml_O_21 : Cond.methodLink "FaultTreeDesk$Odds" 21 y_T_isTrue ∈ WS := ws_t (List.mem_of_getElem? (i := 469) (by decide +kernel)) (by decide +kernel)
theorem ml_F_155 : Cond.methodLink "FaultTreeDesk" 155 y_O_decimal ∈ WS := ws_t (List.mem_of_getElem? (i := 478) (by decide +kernel)) (by decide +kernel)
theorem ml_F_163 : Cond.methodLink "FaultTreeDesk" 163 y_D_countNodes ∈ WS := ws_t (List.mem_of_getElem? (i := 497) (by decide +kernel)) (by decide +kernel)
theorem ml_D_22 : Cond.methodLink "FaultTreeDesk$Diagram" 22 y_T_isTrue ∈ WS := ws_t (List.mem_of_getElem? (i := 501) (by decide +kernel)) (by decide +kernel)
theorem ml_D_28 : Cond.methodLink "FaultTreeDesk$Diagram" 28 y_D_numberOf ∈ WS := ws_t (List.mem_of_getElem? (i := 502) (by decide +kernel)) (by decide +kernel)
theorem ml_F_169 : Cond.methodLink "FaultTreeDesk" 169 y_F_needTerms ∈ WS := ws_t (List.mem_of_getElem? (i := 514) (by decide +kernel)) (by decide +kernel)
theorem ml_F_204 : Cond.methodLink "FaultTreeDesk" 204 y_X_find ∈ WS := ws_t (List.mem_of_getElem? (i := 518) (by decide +kernel)) (by decide +kernel)
theorem ml_X_40 : Cond.methodLink "FaultTreeDesk$Terms" 40 y_X_walk ∈ WS := ws_t (List.mem_of_getElem? (i := 522) (by decide +kernel)) (by decide +kernel)
theorem ml_X_51 : Cond.methodLink "FaultTreeDesk$Terms" 51 y_X_collect ∈ WS := ws_t (List.mem_of_getElem? (i := 526) (by decide +kernel)) (by decide +kernel)
theorem ml_X_69 : Cond.methodLink "FaultTreeDesk$Terms" 69 y_X_allKeptOrOff ∈ WS := ws_t (List.mem_of_getElem? (i := 530) (by decide +kernel)) (by decide +kernel)
theorem ml_X_73 : Cond.methodLink "FaultTreeDesk$Terms" 73 y_X_primeSettings ∈ WS := ws_t (List.mem_of_getElem? (i := 536) (by decide +kernel)) (by decide +kernel)
theorem ml_X_55 : Cond.methodLink "FaultTreeDesk$Terms" 55 y_X_flipped ∈ WS := ws_t (List.mem_of_getElem? (i := 540) (by decide +kernel)) (by decide +kernel)
theorem ml_X_77 : Cond.methodLink "FaultTreeDesk$Terms" 77 y_X_addAll ∈ WS := ws_t (List.mem_of_getElem? (i := 544) (by decide +kernel)) (by decide +kernel)
theorem ml_X_83 : Cond.methodLink "FaultTreeDesk$Terms" 83 y_JL_bitCount ∈ WS := ws_t (List.mem_of_getElem? (i := 548) (by decide +kernel)) (by decide +kernel)
theorem ml_X_89 : Cond.methodLink "FaultTreeDesk$Terms" 89 y_JI_bitCount ∈ WS := ws_t (List.mem_of_getElem? (i := 554) (by decide +kernel)) (by decide +kernel)
theorem ml_X_93 : Cond.methodLink "FaultTreeDesk$Terms" 93 y_X_insert ∈ WS := ws_t (List.mem_of_getElem? (i := 555) (by decide +kernel)) (by decide +kernel)
theorem ml_F_172 : Cond.methodLink "FaultTreeDesk" 172 y_X_countUpTo ∈ WS := ws_t (List.mem_of_getElem? (i := 563) (by decide +kernel)) (by decide +kernel)
theorem ml_F_183 : Cond.methodLink "FaultTreeDesk" 183 y_X_onOf ∈ WS := ws_t (List.mem_of_getElem? (i := 592) (by decide +kernel)) (by decide +kernel)
theorem ml_F_186 : Cond.methodLink "FaultTreeDesk" 186 y_X_offOf ∈ WS := ws_t (List.mem_of_getElem? (i := 596) (by decide +kernel)) (by decide +kernel)
theorem ml_F_189 : Cond.methodLink "FaultTreeDesk" 189 y_X_countWith ∈ WS := ws_t (List.mem_of_getElem? (i := 607) (by decide +kernel)) (by decide +kernel)
theorem ml_X_44 : Cond.methodLink "FaultTreeDesk$Terms" 44 y_X_onOf ∈ WS := ws_t (List.mem_of_getElem? (i := 611) (by decide +kernel)) (by decide +kernel)
theorem ml_X_48 : Cond.methodLink "FaultTreeDesk$Terms" 48 y_X_offOf ∈ WS := ws_t (List.mem_of_getElem? (i := 612) (by decide +kernel)) (by decide +kernel)
theorem ml_F_192 : Cond.methodLink "FaultTreeDesk" 192 y_G_moduleSum ∈ WS := ws_t (List.mem_of_getElem? (i := 620) (by decide +kernel)) (by decide +kernel)
theorem ml_G_37 : Cond.methodLink "FaultTreeDesk$Gates" 37 y_G_standsAlone ∈ WS := ws_t (List.mem_of_getElem? (i := 624) (by decide +kernel)) (by decide +kernel)
theorem ml_M_67 : Cond.methodLink "FaultTreeDeskModel" 67 y_M_isEvent ∈ WS := ws_t (List.mem_of_getElem? (i := 705) (by decide +kernel)) (by decide +kernel)
theorem ml_M_71 : Cond.methodLink "FaultTreeDeskModel" 71 y_M_isGate ∈ WS := ws_t (List.mem_of_getElem? (i := 721) (by decide +kernel)) (by decide +kernel)
theorem ml_M_74 : Cond.methodLink "FaultTreeDeskModel" 74 y_M_hasChild ∈ WS := ws_t (List.mem_of_getElem? (i := 725) (by decide +kernel)) (by decide +kernel)
theorem ml_M_78 : Cond.methodLink "FaultTreeDeskModel" 78 y_M_findBelow ∈ WS := ws_t (List.mem_of_getElem? (i := 729) (by decide +kernel)) (by decide +kernel)
theorem ml_M_90 : Cond.methodLink "FaultTreeDeskModel" 90 y_M_lacks ∈ WS := ws_t (List.mem_of_getElem? (i := 741) (by decide +kernel)) (by decide +kernel)
theorem ml_M_87 : Cond.methodLink "FaultTreeDeskModel" 87 y_M_work ∈ WS := ws_t (List.mem_of_getElem? (i := 745) (by decide +kernel)) (by decide +kernel)
theorem ml_M_81 : Cond.methodLink "FaultTreeDeskModel" 81 y_M_sort ∈ WS := ws_t (List.mem_of_getElem? (i := 749) (by decide +kernel)) (by decide +kernel)
theorem ml_M_84 : Cond.methodLink "FaultTreeDeskModel" 84 y_M_isOn ∈ WS := ws_t (List.mem_of_getElem? (i := 753) (by decide +kernel)) (by decide +kernel)
theorem ml_M_93 : Cond.methodLink "FaultTreeDeskModel" 93 y_M_sum ∈ WS := ws_t (List.mem_of_getElem? (i := 761) (by decide +kernel)) (by decide +kernel)
theorem ml_M_99 : Cond.methodLink "FaultTreeDeskModel" 99 y_M_matters ∈ WS := ws_t (List.mem_of_getElem? (i := 778) (by decide +kernel)) (by decide +kernel)
theorem ml_M_102 : Cond.methodLink "FaultTreeDeskModel" 102 y_M_alike ∈ WS := ws_t (List.mem_of_getElem? (i := 782) (by decide +kernel)) (by decide +kernel)
theorem ml_M_143 : Cond.methodLink "FaultTreeDeskModel" 143 y_M_fails ∈ WS := ws_t (List.mem_of_getElem? (i := 790) (by decide +kernel)) (by decide +kernel)
theorem ml_M_139 : Cond.methodLink "FaultTreeDeskModel" 139 y_M_findPrimes ∈ WS := ws_t (List.mem_of_getElem? (i := 794) (by decide +kernel)) (by decide +kernel)
theorem ml_M_120 : Cond.methodLink "FaultTreeDeskModel" 120 y_M_power ∈ WS := ws_t (List.mem_of_getElem? (i := 798) (by decide +kernel)) (by decide +kernel)
theorem ml_M_123 : Cond.methodLink "FaultTreeDeskModel" 123 y_M_settingOf ∈ WS := ws_t (List.mem_of_getElem? (i := 801) (by decide +kernel)) (by decide +kernel)
theorem ml_M_106 : Cond.methodLink "FaultTreeDeskModel" 106 y_M_isCause ∈ WS := ws_t (List.mem_of_getElem? (i := 805) (by decide +kernel)) (by decide +kernel)
theorem ml_M_128 : Cond.methodLink "FaultTreeDeskModel" 128 y_M_isPrime ∈ WS := ws_t (List.mem_of_getElem? (i := 810) (by decide +kernel)) (by decide +kernel)
theorem ml_M_131 : Cond.methodLink "FaultTreeDeskModel" 131 y_M_eventsOf ∈ WS := ws_t (List.mem_of_getElem? (i := 814) (by decide +kernel)) (by decide +kernel)
theorem ml_M_135 : Cond.methodLink "FaultTreeDeskModel" 135 y_M_keep ∈ WS := ws_t (List.mem_of_getElem? (i := 818) (by decide +kernel)) (by decide +kernel)
theorem ml_M_116 : Cond.methodLink "FaultTreeDeskModel" 116 y_M_isBefore ∈ WS := ws_t (List.mem_of_getElem? (i := 822) (by decide +kernel)) (by decide +kernel)
theorem ml_M_109 : Cond.methodLink "FaultTreeDeskModel" 109 y_M_size ∈ WS := ws_t (List.mem_of_getElem? (i := 825) (by decide +kernel)) (by decide +kernel)
theorem ml_M_146 : Cond.methodLink "FaultTreeDeskModel" 146 y_M_isUnder ∈ WS := ws_t (List.mem_of_getElem? (i := 840) (by decide +kernel)) (by decide +kernel)
