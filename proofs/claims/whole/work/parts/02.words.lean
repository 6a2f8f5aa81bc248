/-! the words: one list for every method of the class, the reference and the law -/
def tw : List Cond := lw_tbl.filter goodWord
theorem tw_in {w : Cond} (h : w ∈ lw_tbl) (g : goodWord w = true) : w ∈ tw := List.mem_filter.mpr ⟨h, g⟩
theorem tw_t {i : Nat} {w : Cond} (h : tables_1[i]? = some w) (g : goodWord w = true) : w ∈ tw := tw_in (List.mem_append_right _ (List.mem_of_getElem? h)) g
theorem tw_s {i : Nat} {w : Cond} (h : (k2_sels lw_privs)[i]? = some w) (g : goodWord w = true) : w ∈ tw := tw_in (List.mem_append_left _ (List.mem_of_getElem? h)) g
theorem tw_tbl {args : Array Value} {s : State} (h : ∀ w ∈ lw_tbl, w.before args s = true) : ∀ w ∈ tw, w.before args s = true := fun w hw => h w (List.mem_filter.mp hw).1
theorem tw_good {k : Cond} (hk : k ∈ tw) : GoodIn tw (k :: tw) := by
  intro w hw
  have h : w ∈ tw := (List.mem_cons.mp hw).elim (fun e => by rw [e]; exact hk) (fun h => h)
  exact ⟨h, good_of_word (List.mem_filter.mp h).2⟩
theorem tw_one {w : Cond} (h : w ∈ tw) : w ∈ tw ∧ ((w.onTables && w.keeps) = true ∨ ∃ ty, w = .arrayClass ty) := ⟨h, good_of_word (List.mem_filter.mp h).2⟩
theorem tw_S {own : String} {idx : Nat} {y : MethodName} {k : Cond} (h1 : .methodLink own idx y ∈ tw) (h2 : .static y ∈ tw) (h3 : .initialized y.cls ∈ tw) (hk : k ∈ tw) : GoodIn tw (va_wsS own idx y (k :: tw)) := by
  intro w hw
  rcases List.mem_append.mp hw with h | h
  · rcases List.mem_cons.mp h with rfl | h
    · exact tw_one h1
    · rcases List.mem_cons.mp h with rfl | h
      · exact tw_one h2
      · rcases List.mem_cons.mp h with rfl | h
        · exact tw_one h3
        · cases h
  · exact tw_good hk w h
theorem tw_V {own C : String} {idx : Nat} {y : MethodName} {k : Cond} (h1 : .methodLink own idx y ∈ tw) (h2 : .instanceMethod y ∈ tw) (h3 : .selects C y y ∈ tw) (h4 : .initialized C ∈ tw) (hk : k ∈ tw) : GoodIn tw (wsV own idx C y (k :: tw)) := by
  intro w hw
  rcases List.mem_append.mp hw with h | h
  · rcases List.mem_cons.mp h with rfl | h
    · exact tw_one h1
    · rcases List.mem_cons.mp h with rfl | h
      · exact tw_one h2
      · rcases List.mem_cons.mp h with rfl | h
        · exact tw_one h3
        · rcases List.mem_cons.mp h with rfl | h
          · exact tw_one h4
          · cases h
  · exact tw_good hk w h
def RX0 : String := "TurnedDiscs"
theorem in_X0 : Cond.initialized RX0 ∈ tw := tw_t (i := 1) (by decide +kernel) (by decide +kernel)
def TX0 : u_T := fun k => match k with
  | 0 => ("TurnedDiscs", "own", "J", false)
  | 1 => ("TurnedDiscs", "other", "J", false)
  | 2 => ("TurnedDiscs", "player", "I", false)
  | 3 => ("TurnedDiscs", "made", "I", false)
  | 4 => ("TurnedDiscs", "squares", "[I", true)
  | 5 => ("TurnedDiscs", "turned", "[J", true)
  | _ => ("TurnedDiscs", "plan", "[I", true)
def tyX0 : Nat → FieldType := fun k => match k with
  | 0 => .long
  | 1 => .long
  | 2 => .int
  | 3 => .int
  | 4 => .array .int
  | 5 => .array .long
  | _ => .array .int
theorem nmX0 : ∀ a, a < 7 → ∀ b, b < 7 → a ≠ b → (TX0 a).2.1 ≠ (TX0 b).2.1 := by decide +kernel
theorem tyX0_ok : ∀ k, k < 7 → parseFieldDescriptor (TX0 k).2.2.1 = some (tyX0 k) := by decide +kernel
theorem usX0 : ∀ w ∈ u_ws RX0 TX0 7, w ∈ tw := by
  intro w hw
  obtain ⟨k, hk, rfl⟩ := List.mem_map.mp hw
  have hk := List.mem_range.mp hk
  rcases (show k = 0 ∨ k = 1 ∨ k = 2 ∨ k = 3 ∨ k = 4 ∨ k = 5 ∨ k = 6 by omega) with rfl | rfl | rfl | rfl | rfl | rfl | rfl
  · exact tw_t (i := 32) (by decide +kernel) (by decide +kernel)
  · exact tw_t (i := 34) (by decide +kernel) (by decide +kernel)
  · exact tw_t (i := 36) (by decide +kernel) (by decide +kernel)
  · exact tw_t (i := 38) (by decide +kernel) (by decide +kernel)
  · exact tw_t (i := 40) (by decide +kernel) (by decide +kernel)
  · exact tw_t (i := 42) (by decide +kernel) (by decide +kernel)
  · exact tw_t (i := 44) (by decide +kernel) (by decide +kernel)
def RX1 : String := "TurnedDiscsModel"
theorem in_X1 : Cond.initialized RX1 ∈ tw := tw_t (i := 2) (by decide +kernel) (by decide +kernel)
def TX1 : u_T := fun k => match k with
  | 0 => ("TurnedDiscsModel", "thrown", "I", false)
  | 1 => ("TurnedDiscsModel", "cells", "[I", true)
  | 2 => ("TurnedDiscsModel", "movers", "[I", true)
  | 3 => ("TurnedDiscsModel", "row", "[I", true)
  | 4 => ("TurnedDiscsModel", "turned", "[J", true)
  | 5 => ("TurnedDiscsModel", "made", "I", false)
  | 6 => ("TurnedDiscsModel", "at", "[I", true)
  | 7 => ("TurnedDiscsModel", "passes", "[Z", true)
  | 8 => ("TurnedDiscsModel", "worth", "[I", true)
  | 9 => ("TurnedDiscsModel", "tried", "[I", true)
  | 10 => ("TurnedDiscsModel", "chosen", "I", false)
  | 11 => ("TurnedDiscsModel", "spots", "[I", true)
  | 12 => ("TurnedDiscsModel", "spotCount", "I", false)
  | _ => ("TurnedDiscsModel", "kept", "[I", true)
def tyX1 : Nat → FieldType := fun k => match k with
  | 0 => .int
  | 1 => .array .int
  | 2 => .array .int
  | 3 => .array .int
  | 4 => .array .long
  | 5 => .int
  | 6 => .array .int
  | 7 => .array .boolean
  | 8 => .array .int
  | 9 => .array .int
  | 10 => .int
  | 11 => .array .int
  | 12 => .int
  | _ => .array .int
theorem nmX1 : ∀ a, a < 14 → ∀ b, b < 14 → a ≠ b → (TX1 a).2.1 ≠ (TX1 b).2.1 := by decide +kernel
theorem tyX1_ok : ∀ k, k < 14 → parseFieldDescriptor (TX1 k).2.2.1 = some (tyX1 k) := by decide +kernel
theorem usX1 : ∀ w ∈ u_ws RX1 TX1 14, w ∈ tw := by
  intro w hw
  obtain ⟨k, hk, rfl⟩ := List.mem_map.mp hw
  have hk := List.mem_range.mp hk
  rcases (show k = 0 ∨ k = 1 ∨ k = 2 ∨ k = 3 ∨ k = 4 ∨ k = 5 ∨ k = 6 ∨ k = 7 ∨ k = 8 ∨ k = 9 ∨ k = 10 ∨ k = 11 ∨ k = 12 ∨ k = 13 by omega) with rfl | rfl | rfl | rfl | rfl | rfl | rfl | rfl | rfl | rfl | rfl | rfl | rfl | rfl
  · exact tw_t (i := 379) (by decide +kernel) (by decide +kernel)
  · exact tw_t (i := 381) (by decide +kernel) (by decide +kernel)
  · exact tw_t (i := 383) (by decide +kernel) (by decide +kernel)
  · exact tw_t (i := 385) (by decide +kernel) (by decide +kernel)
  · exact tw_t (i := 387) (by decide +kernel) (by decide +kernel)
  · exact tw_t (i := 389) (by decide +kernel) (by decide +kernel)
  · exact tw_t (i := 391) (by decide +kernel) (by decide +kernel)
  · exact tw_t (i := 393) (by decide +kernel) (by decide +kernel)
  · exact tw_t (i := 395) (by decide +kernel) (by decide +kernel)
  · exact tw_t (i := 397) (by decide +kernel) (by decide +kernel)
  · exact tw_t (i := 399) (by decide +kernel) (by decide +kernel)
  · exact tw_t (i := 401) (by decide +kernel) (by decide +kernel)
  · exact tw_t (i := 403) (by decide +kernel) (by decide +kernel)
  · exact tw_t (i := 405) (by decide +kernel) (by decide +kernel)
def RL : String := "TurnedDiscsLaw"
theorem in_L : Cond.initialized RL ∈ tw := tw_t (i := 0) (by decide +kernel) (by decide +kernel)
def RJL : String := "java/lang/Long"
theorem in_JL : Cond.initialized RJL ∈ tw := tw_t (i := 8) (by decide +kernel) (by decide +kernel)
def RJM : String := "java/lang/Math"
theorem in_JM : Cond.initialized RJM ∈ tw := tw_t (i := 10) (by decide +kernel) (by decide +kernel)
abbrev tdC : List vw_C := [(RX0, TX0, 7), (RX1, TX1, 14)]
def y_X0_init : MethodName := ⟨RX0, "<init>", "()V"⟩
abbrev c_X0_init : ByteArray := prog_1_method_1_code
abbrev k_X0_init : Cond := .code y_X0_init c_X0_init 1 none
theorem kw_X0_init : k_X0_init ∈ tw := tw_t (i := 15) (by decide +kernel) (by decide +kernel)
theorem im_X0_init : Cond.instanceMethod y_X0_init ∈ tw := tw_t (i := 14) (by decide +kernel) (by decide +kernel)
def y_X0_begin : MethodName := ⟨RX0, "begin", "()V"⟩
abbrev c_X0_begin : ByteArray := prog_1_method_2_code
abbrev k_X0_begin : Cond := .code y_X0_begin c_X0_begin 1 none
theorem kw_X0_begin : k_X0_begin ∈ tw := tw_t (i := 52) (by decide +kernel) (by decide +kernel)
theorem im_X0_begin : Cond.instanceMethod y_X0_begin ∈ tw := tw_t (i := 50) (by decide +kernel) (by decide +kernel)
theorem se_X0_begin : Cond.selects RX0 y_X0_begin y_X0_begin ∈ tw := tw_t (i := 51) (by decide +kernel) (by decide +kernel)
def y_X0_set : MethodName := ⟨RX0, "set", "(JJI)V"⟩
abbrev c_X0_set : ByteArray := prog_1_method_3_code
abbrev k_X0_set : Cond := .code y_X0_set c_X0_set 6 none
theorem kw_X0_set : k_X0_set ∈ tw := tw_t (i := 110) (by decide +kernel) (by decide +kernel)
theorem im_X0_set : Cond.instanceMethod y_X0_set ∈ tw := tw_t (i := 108) (by decide +kernel) (by decide +kernel)
theorem se_X0_set : Cond.selects RX0 y_X0_set y_X0_set ∈ tw := tw_t (i := 109) (by decide +kernel) (by decide +kernel)
def y_X0_discs : MethodName := ⟨RX0, "discs", "(I)J"⟩
abbrev c_X0_discs : ByteArray := prog_1_method_4_code
abbrev k_X0_discs : Cond := .code y_X0_discs c_X0_discs 2 (some .long)
theorem kw_X0_discs : k_X0_discs ∈ tw := tw_t (i := 189) (by decide +kernel) (by decide +kernel)
theorem im_X0_discs : Cond.instanceMethod y_X0_discs ∈ tw := tw_t (i := 187) (by decide +kernel) (by decide +kernel)
theorem se_X0_discs : Cond.selects RX0 y_X0_discs y_X0_discs ∈ tw := tw_t (i := 188) (by decide +kernel) (by decide +kernel)
def y_X0_player : MethodName := ⟨RX0, "player", "()I"⟩
abbrev c_X0_player : ByteArray := prog_1_method_5_code
abbrev k_X0_player : Cond := .code y_X0_player c_X0_player 1 (some .int)
theorem kw_X0_player : k_X0_player ∈ tw := tw_t (i := 56) (by decide +kernel) (by decide +kernel)
theorem im_X0_player : Cond.instanceMethod y_X0_player ∈ tw := tw_t (i := 54) (by decide +kernel) (by decide +kernel)
theorem se_X0_player : Cond.selects RX0 y_X0_player y_X0_player ∈ tw := tw_t (i := 55) (by decide +kernel) (by decide +kernel)
def y_X0_moves : MethodName := ⟨RX0, "moves", "()J"⟩
abbrev c_X0_moves : ByteArray := prog_1_method_6_code
abbrev k_X0_moves : Cond := .code y_X0_moves c_X0_moves 1 (some .long)
theorem kw_X0_moves : k_X0_moves ∈ tw := tw_t (i := 60) (by decide +kernel) (by decide +kernel)
theorem im_X0_moves : Cond.instanceMethod y_X0_moves ∈ tw := tw_t (i := 58) (by decide +kernel) (by decide +kernel)
theorem se_X0_moves : Cond.selects RX0 y_X0_moves y_X0_moves ∈ tw := tw_t (i := 59) (by decide +kernel) (by decide +kernel)
def y_X0_turns : MethodName := ⟨RX0, "turns", "(I)J"⟩
abbrev c_X0_turns : ByteArray := prog_1_method_7_code
abbrev k_X0_turns : Cond := .code y_X0_turns c_X0_turns 4 (some .long)
theorem kw_X0_turns : k_X0_turns ∈ tw := tw_t (i := 196) (by decide +kernel) (by decide +kernel)
theorem im_X0_turns : Cond.instanceMethod y_X0_turns ∈ tw := tw_t (i := 194) (by decide +kernel) (by decide +kernel)
theorem se_X0_turns : Cond.selects RX0 y_X0_turns y_X0_turns ∈ tw := tw_t (i := 195) (by decide +kernel) (by decide +kernel)
def y_X0_over : MethodName := ⟨RX0, "over", "()Z"⟩
abbrev c_X0_over : ByteArray := prog_1_method_8_code
abbrev k_X0_over : Cond := .code y_X0_over c_X0_over 1 (some .boolean)
theorem kw_X0_over : k_X0_over ∈ tw := tw_t (i := 78) (by decide +kernel) (by decide +kernel)
theorem im_X0_over : Cond.instanceMethod y_X0_over ∈ tw := tw_t (i := 76) (by decide +kernel) (by decide +kernel)
theorem se_X0_over : Cond.selects RX0 y_X0_over y_X0_over ∈ tw := tw_t (i := 77) (by decide +kernel) (by decide +kernel)
def y_X0_play : MethodName := ⟨RX0, "play", "(I)I"⟩
abbrev c_X0_play : ByteArray := prog_1_method_9_code
abbrev k_X0_play : Cond := .code y_X0_play c_X0_play 2 (some .int)
theorem kw_X0_play : k_X0_play ∈ tw := tw_t (i := 218) (by decide +kernel) (by decide +kernel)
theorem im_X0_play : Cond.instanceMethod y_X0_play ∈ tw := tw_t (i := 216) (by decide +kernel) (by decide +kernel)
theorem se_X0_play : Cond.selects RX0 y_X0_play y_X0_play ∈ tw := tw_t (i := 217) (by decide +kernel) (by decide +kernel)
def y_X0_back : MethodName := ⟨RX0, "back", "()I"⟩
abbrev c_X0_back : ByteArray := prog_1_method_10_code
abbrev k_X0_back : Cond := .code y_X0_back c_X0_back 6 (some .int)
theorem kw_X0_back : k_X0_back ∈ tw := tw_t (i := 251) (by decide +kernel) (by decide +kernel)
theorem im_X0_back : Cond.instanceMethod y_X0_back ∈ tw := tw_t (i := 249) (by decide +kernel) (by decide +kernel)
theorem se_X0_back : Cond.selects RX0 y_X0_back y_X0_back ∈ tw := tw_t (i := 250) (by decide +kernel) (by decide +kernel)
def y_X0_made : MethodName := ⟨RX0, "made", "()I"⟩
abbrev c_X0_made : ByteArray := prog_1_method_11_code
abbrev k_X0_made : Cond := .code y_X0_made c_X0_made 1 (some .int)
theorem kw_X0_made : k_X0_made ∈ tw := tw_t (i := 85) (by decide +kernel) (by decide +kernel)
theorem im_X0_made : Cond.instanceMethod y_X0_made ∈ tw := tw_t (i := 83) (by decide +kernel) (by decide +kernel)
theorem se_X0_made : Cond.selects RX0 y_X0_made y_X0_made ∈ tw := tw_t (i := 84) (by decide +kernel) (by decide +kernel)
def y_X0_difference : MethodName := ⟨RX0, "difference", "()I"⟩
abbrev c_X0_difference : ByteArray := prog_1_method_12_code
abbrev k_X0_difference : Cond := .code y_X0_difference c_X0_difference 1 (some .int)
theorem kw_X0_difference : k_X0_difference ∈ tw := tw_t (i := 89) (by decide +kernel) (by decide +kernel)
theorem im_X0_difference : Cond.instanceMethod y_X0_difference ∈ tw := tw_t (i := 87) (by decide +kernel) (by decide +kernel)
theorem se_X0_difference : Cond.selects RX0 y_X0_difference y_X0_difference ∈ tw := tw_t (i := 88) (by decide +kernel) (by decide +kernel)
def y_X0_count : MethodName := ⟨RX0, "count", "(I)J"⟩
abbrev c_X0_count : ByteArray := prog_1_method_13_code
abbrev k_X0_count : Cond := .code y_X0_count c_X0_count 2 (some .long)
theorem kw_X0_count : k_X0_count ∈ tw := tw_t (i := 274) (by decide +kernel) (by decide +kernel)
theorem im_X0_count : Cond.instanceMethod y_X0_count ∈ tw := tw_t (i := 272) (by decide +kernel) (by decide +kernel)
theorem se_X0_count : Cond.selects RX0 y_X0_count y_X0_count ∈ tw := tw_t (i := 273) (by decide +kernel) (by decide +kernel)
def y_X0_outcome : MethodName := ⟨RX0, "outcome", "()I"⟩
abbrev c_X0_outcome : ByteArray := prog_1_method_14_code
abbrev k_X0_outcome : Cond := .code y_X0_outcome c_X0_outcome 1 (some .int)
theorem kw_X0_outcome : k_X0_outcome ∈ tw := tw_t (i := 285) (by decide +kernel) (by decide +kernel)
theorem im_X0_outcome : Cond.instanceMethod y_X0_outcome ∈ tw := tw_t (i := 283) (by decide +kernel) (by decide +kernel)
theorem se_X0_outcome : Cond.selects RX0 y_X0_outcome y_X0_outcome ∈ tw := tw_t (i := 284) (by decide +kernel) (by decide +kernel)
def y_X0_best : MethodName := ⟨RX0, "best", "()I"⟩
abbrev c_X0_best : ByteArray := prog_1_method_15_code
abbrev k_X0_best : Cond := .code y_X0_best c_X0_best 1 (some .int)
theorem kw_X0_best : k_X0_best ∈ tw := tw_t (i := 306) (by decide +kernel) (by decide +kernel)
theorem im_X0_best : Cond.instanceMethod y_X0_best ∈ tw := tw_t (i := 304) (by decide +kernel) (by decide +kernel)
theorem se_X0_best : Cond.selects RX0 y_X0_best y_X0_best ∈ tw := tw_t (i := 305) (by decide +kernel) (by decide +kernel)
def y_X0_finish : MethodName := ⟨RX0, "finish", "()I"⟩
abbrev c_X0_finish : ByteArray := prog_1_method_16_code
abbrev k_X0_finish : Cond := .code y_X0_finish c_X0_finish 3 (some .int)
theorem kw_X0_finish : k_X0_finish ∈ tw := tw_t (i := 319) (by decide +kernel) (by decide +kernel)
theorem im_X0_finish : Cond.instanceMethod y_X0_finish ∈ tw := tw_t (i := 317) (by decide +kernel) (by decide +kernel)
theorem se_X0_finish : Cond.selects RX0 y_X0_finish y_X0_finish ∈ tw := tw_t (i := 318) (by decide +kernel) (by decide +kernel)
def y_X0_border : MethodName := ⟨RX0, "border", "(I)I"⟩
abbrev c_X0_border : ByteArray := prog_1_method_17_code
abbrev k_X0_border : Cond := .code y_X0_border c_X0_border 2 (some .int)
theorem kw_X0_border : k_X0_border ∈ tw := tw_t (i := 331) (by decide +kernel) (by decide +kernel)
theorem im_X0_border : Cond.instanceMethod y_X0_border ∈ tw := tw_t (i := 329) (by decide +kernel) (by decide +kernel)
theorem se_X0_border : Cond.selects RX0 y_X0_border y_X0_border ∈ tw := tw_t (i := 330) (by decide +kernel) (by decide +kernel)
def y_X0_safe : MethodName := ⟨RX0, "safe", "(I)J"⟩
abbrev c_X0_safe : ByteArray := prog_1_method_18_code
abbrev k_X0_safe : Cond := .code y_X0_safe c_X0_safe 4 (some .long)
theorem kw_X0_safe : k_X0_safe ∈ tw := tw_t (i := 343) (by decide +kernel) (by decide +kernel)
theorem im_X0_safe : Cond.instanceMethod y_X0_safe ∈ tw := tw_t (i := 341) (by decide +kernel) (by decide +kernel)
theorem se_X0_safe : Cond.selects RX0 y_X0_safe y_X0_safe ∈ tw := tw_t (i := 342) (by decide +kernel) (by decide +kernel)
def y_X0_requirePlayer : MethodName := ⟨RX0, "requirePlayer", "(I)V"⟩
abbrev c_X0_requirePlayer : ByteArray := prog_1_method_19_code
abbrev k_X0_requirePlayer : Cond := .code y_X0_requirePlayer c_X0_requirePlayer 1 none
theorem kw_X0_requirePlayer : k_X0_requirePlayer ∈ tw := tw_t (i := 181) (by decide +kernel) (by decide +kernel)
theorem st_X0_requirePlayer : Cond.static y_X0_requirePlayer ∈ tw := tw_t (i := 180) (by decide +kernel) (by decide +kernel)
def y_X0_requireFewEmpty : MethodName := ⟨RX0, "requireFewEmpty", "()V"⟩
abbrev c_X0_requireFewEmpty : ByteArray := prog_1_method_20_code
abbrev k_X0_requireFewEmpty : Cond := .code y_X0_requireFewEmpty c_X0_requireFewEmpty 1 none
theorem kw_X0_requireFewEmpty : k_X0_requireFewEmpty ∈ tw := tw_t (i := 289) (by decide +kernel) (by decide +kernel)
theorem im_X0_requireFewEmpty : Cond.instanceMethod y_X0_requireFewEmpty ∈ tw := tw_t (i := 288) (by decide +kernel) (by decide +kernel)
theorem se_X0_requireFewEmpty : Cond.selects RX0 y_X0_requireFewEmpty y_X0_requireFewEmpty ∈ tw := tw_s (i := 6) (by decide +kernel) (by decide +kernel)
def y_X0_setUp : MethodName := ⟨RX0, "setUp", "(JJI)V"⟩
abbrev c_X0_setUp : ByteArray := prog_1_method_21_code
abbrev k_X0_setUp : Cond := .code y_X0_setUp c_X0_setUp 6 none
theorem kw_X0_setUp : k_X0_setUp ∈ tw := tw_t (i := 24) (by decide +kernel) (by decide +kernel)
theorem im_X0_setUp : Cond.instanceMethod y_X0_setUp ∈ tw := tw_t (i := 23) (by decide +kernel) (by decide +kernel)
theorem se_X0_setUp : Cond.selects RX0 y_X0_setUp y_X0_setUp ∈ tw := tw_s (i := 0) (by decide +kernel) (by decide +kernel)
def y_X0_discsOf : MethodName := ⟨RX0, "discsOf", "(I)J"⟩
abbrev c_X0_discsOf : ByteArray := prog_1_method_22_code
abbrev k_X0_discsOf : Cond := .code y_X0_discsOf c_X0_discsOf 2 (some .long)
theorem kw_X0_discsOf : k_X0_discsOf ∈ tw := tw_t (i := 93) (by decide +kernel) (by decide +kernel)
theorem im_X0_discsOf : Cond.instanceMethod y_X0_discsOf ∈ tw := tw_t (i := 92) (by decide +kernel) (by decide +kernel)
theorem se_X0_discsOf : Cond.selects RX0 y_X0_discsOf y_X0_discsOf ∈ tw := tw_s (i := 1) (by decide +kernel) (by decide +kernel)
def y_X0_empty : MethodName := ⟨RX0, "empty", "()J"⟩
abbrev c_X0_empty : ByteArray := prog_1_method_23_code
abbrev k_X0_empty : Cond := .code y_X0_empty c_X0_empty 1 (some .long)
theorem kw_X0_empty : k_X0_empty ∈ tw := tw_t (i := 204) (by decide +kernel) (by decide +kernel)
theorem im_X0_empty : Cond.instanceMethod y_X0_empty ∈ tw := tw_t (i := 203) (by decide +kernel) (by decide +kernel)
theorem se_X0_empty : Cond.selects RX0 y_X0_empty y_X0_empty ∈ tw := tw_s (i := 3) (by decide +kernel) (by decide +kernel)
def y_X0_mayPlay : MethodName := ⟨RX0, "mayPlay", "(I)Z"⟩
abbrev c_X0_mayPlay : ByteArray := prog_1_method_24_code
abbrev k_X0_mayPlay : Cond := .code y_X0_mayPlay c_X0_mayPlay 2 (some .boolean)
theorem kw_X0_mayPlay : k_X0_mayPlay ∈ tw := tw_t (i := 222) (by decide +kernel) (by decide +kernel)
theorem im_X0_mayPlay : Cond.instanceMethod y_X0_mayPlay ∈ tw := tw_t (i := 221) (by decide +kernel) (by decide +kernel)
theorem se_X0_mayPlay : Cond.selects RX0 y_X0_mayPlay y_X0_mayPlay ∈ tw := tw_s (i := 4) (by decide +kernel) (by decide +kernel)
def y_X0_make : MethodName := ⟨RX0, "make", "(I)I"⟩
abbrev c_X0_make : ByteArray := prog_1_method_25_code
abbrev k_X0_make : Cond := .code y_X0_make c_X0_make 8 (some .int)
theorem kw_X0_make : k_X0_make ∈ tw := tw_t (i := 243) (by decide +kernel) (by decide +kernel)
theorem im_X0_make : Cond.instanceMethod y_X0_make ∈ tw := tw_t (i := 242) (by decide +kernel) (by decide +kernel)
theorem se_X0_make : Cond.selects RX0 y_X0_make y_X0_make ∈ tw := tw_s (i := 5) (by decide +kernel) (by decide +kernel)
def y_X0_planFinish : MethodName := ⟨RX0, "planFinish", "()I"⟩
abbrev c_X0_planFinish : ByteArray := prog_1_method_26_code
abbrev k_X0_planFinish : Cond := .code y_X0_planFinish c_X0_planFinish 13 (some .int)
theorem kw_X0_planFinish : k_X0_planFinish ∈ tw := tw_t (i := 323) (by decide +kernel) (by decide +kernel)
theorem im_X0_planFinish : Cond.instanceMethod y_X0_planFinish ∈ tw := tw_t (i := 322) (by decide +kernel) (by decide +kernel)
theorem se_X0_planFinish : Cond.selects RX0 y_X0_planFinish y_X0_planFinish ∈ tw := tw_s (i := 7) (by decide +kernel) (by decide +kernel)
def y_X0_discOn : MethodName := ⟨RX0, "discOn", "(I)J"⟩
abbrev c_X0_discOn : ByteArray := prog_1_method_27_code
abbrev k_X0_discOn : Cond := .code y_X0_discOn c_X0_discOn 1 (some .long)
theorem kw_X0_discOn : k_X0_discOn ∈ tw := tw_t (i := 200) (by decide +kernel) (by decide +kernel)
theorem st_X0_discOn : Cond.static y_X0_discOn ∈ tw := tw_t (i := 199) (by decide +kernel) (by decide +kernel)
def y_X0_lead : MethodName := ⟨RX0, "lead", "(JJ)I"⟩
abbrev c_X0_lead : ByteArray := prog_1_method_28_code
abbrev k_X0_lead : Cond := .code y_X0_lead c_X0_lead 4 (some .int)
theorem kw_X0_lead : k_X0_lead ∈ tw := tw_t (i := 96) (by decide +kernel) (by decide +kernel)
theorem st_X0_lead : Cond.static y_X0_lead ∈ tw := tw_t (i := 95) (by decide +kernel) (by decide +kernel)
def y_X0_isOver : MethodName := ⟨RX0, "isOver", "(JJ)Z"⟩
abbrev c_X0_isOver : ByteArray := prog_1_method_29_code
abbrev k_X0_isOver : Cond := .code y_X0_isOver c_X0_isOver 4 (some .boolean)
theorem kw_X0_isOver : k_X0_isOver ∈ tw := tw_t (i := 81) (by decide +kernel) (by decide +kernel)
theorem st_X0_isOver : Cond.static y_X0_isOver ∈ tw := tw_t (i := 80) (by decide +kernel) (by decide +kernel)
def y_X0_movesOf : MethodName := ⟨RX0, "movesOf", "(JJ)J"⟩
abbrev c_X0_movesOf : ByteArray := prog_1_method_30_code
abbrev k_X0_movesOf : Cond := .code y_X0_movesOf c_X0_movesOf 8 (some .long)
theorem kw_X0_movesOf : k_X0_movesOf ∈ tw := tw_t (i := 63) (by decide +kernel) (by decide +kernel)
theorem st_X0_movesOf : Cond.static y_X0_movesOf ∈ tw := tw_t (i := 62) (by decide +kernel) (by decide +kernel)
def y_X0_endsAlong : MethodName := ⟨RX0, "endsAlong", "(JJI)J"⟩
abbrev c_X0_endsAlong : ByteArray := prog_1_method_31_code
abbrev k_X0_endsAlong : Cond := .code y_X0_endsAlong c_X0_endsAlong 5 (some .long)
theorem kw_X0_endsAlong : k_X0_endsAlong ∈ tw := tw_t (i := 67) (by decide +kernel) (by decide +kernel)
theorem st_X0_endsAlong : Cond.static y_X0_endsAlong ∈ tw := tw_t (i := 66) (by decide +kernel) (by decide +kernel)
def y_X0_turnedBy : MethodName := ⟨RX0, "turnedBy", "(JJJ)J"⟩
abbrev c_X0_turnedBy : ByteArray := prog_1_method_32_code
abbrev k_X0_turnedBy : Cond := .code y_X0_turnedBy c_X0_turnedBy 8 (some .long)
theorem kw_X0_turnedBy : k_X0_turnedBy ∈ tw := tw_t (i := 207) (by decide +kernel) (by decide +kernel)
theorem st_X0_turnedBy : Cond.static y_X0_turnedBy ∈ tw := tw_t (i := 206) (by decide +kernel) (by decide +kernel)
def y_X0_turnedAlong : MethodName := ⟨RX0, "turnedAlong", "(JJJI)J"⟩
abbrev c_X0_turnedAlong : ByteArray := prog_1_method_33_code
abbrev k_X0_turnedAlong : Cond := .code y_X0_turnedAlong c_X0_turnedAlong 13 (some .long)
theorem kw_X0_turnedAlong : k_X0_turnedAlong ∈ tw := tw_t (i := 210) (by decide +kernel) (by decide +kernel)
theorem st_X0_turnedAlong : Cond.static y_X0_turnedAlong ∈ tw := tw_t (i := 209) (by decide +kernel) (by decide +kernel)
def y_X0_runUp : MethodName := ⟨RX0, "runUp", "(JJI)J"⟩
abbrev c_X0_runUp : ByteArray := prog_1_method_34_code
abbrev k_X0_runUp : Cond := .code y_X0_runUp c_X0_runUp 7 (some .long)
theorem kw_X0_runUp : k_X0_runUp ∈ tw := tw_t (i := 70) (by decide +kernel) (by decide +kernel)
theorem st_X0_runUp : Cond.static y_X0_runUp ∈ tw := tw_t (i := 69) (by decide +kernel) (by decide +kernel)
def y_X0_runDown : MethodName := ⟨RX0, "runDown", "(JJI)J"⟩
abbrev c_X0_runDown : ByteArray := prog_1_method_35_code
abbrev k_X0_runDown : Cond := .code y_X0_runDown c_X0_runDown 7 (some .long)
theorem kw_X0_runDown : k_X0_runDown ∈ tw := tw_t (i := 73) (by decide +kernel) (by decide +kernel)
theorem st_X0_runDown : Cond.static y_X0_runDown ∈ tw := tw_t (i := 72) (by decide +kernel) (by decide +kernel)
def y_X0_rowsFrom : MethodName := ⟨RX0, "rowsFrom", "(JJI)J"⟩
abbrev c_X0_rowsFrom : ByteArray := prog_1_method_36_code
abbrev k_X0_rowsFrom : Cond := .code y_X0_rowsFrom c_X0_rowsFrom 15 (some .long)
theorem kw_X0_rowsFrom : k_X0_rowsFrom ∈ tw := tw_t (i := 278) (by decide +kernel) (by decide +kernel)
theorem st_X0_rowsFrom : Cond.static y_X0_rowsFrom ∈ tw := tw_t (i := 277) (by decide +kernel) (by decide +kernel)
def y_X0_worth : MethodName := ⟨RX0, "worth", "(JJIII)I"⟩
abbrev c_X0_worth : ByteArray := prog_1_method_37_code
abbrev k_X0_worth : Cond := .code y_X0_worth c_X0_worth 14 (some .int)
theorem kw_X0_worth : k_X0_worth ∈ tw := tw_t (i := 293) (by decide +kernel) (by decide +kernel)
theorem st_X0_worth : Cond.static y_X0_worth ∈ tw := tw_t (i := 292) (by decide +kernel) (by decide +kernel)
def y_X0_worthOf : MethodName := ⟨RX0, "worthOf", "(JJJIII)I"⟩
abbrev c_X0_worthOf : ByteArray := prog_1_method_38_code
abbrev k_X0_worthOf : Cond := .code y_X0_worthOf c_X0_worthOf 11 (some .int)
theorem kw_X0_worthOf : k_X0_worthOf ∈ tw := tw_t (i := 299) (by decide +kernel) (by decide +kernel)
theorem st_X0_worthOf : Cond.static y_X0_worthOf ∈ tw := tw_t (i := 298) (by decide +kernel) (by decide +kernel)
def y_X0_bestSquare : MethodName := ⟨RX0, "bestSquare", "(JJ)I"⟩
abbrev c_X0_bestSquare : ByteArray := prog_1_method_39_code
abbrev k_X0_bestSquare : Cond := .code y_X0_bestSquare c_X0_bestSquare 14 (some .int)
theorem kw_X0_bestSquare : k_X0_bestSquare ∈ tw := tw_t (i := 309) (by decide +kernel) (by decide +kernel)
theorem st_X0_bestSquare : Cond.static y_X0_bestSquare ∈ tw := tw_t (i := 308) (by decide +kernel) (by decide +kernel)
def y_X0_squareOf : MethodName := ⟨RX0, "squareOf", "(J)I"⟩
abbrev c_X0_squareOf : ByteArray := prog_1_method_40_code
abbrev k_X0_squareOf : Cond := .code y_X0_squareOf c_X0_squareOf 2 (some .int)
theorem kw_X0_squareOf : k_X0_squareOf ∈ tw := tw_t (i := 312) (by decide +kernel) (by decide +kernel)
theorem st_X0_squareOf : Cond.static y_X0_squareOf ∈ tw := tw_t (i := 311) (by decide +kernel) (by decide +kernel)
def y_X0_withNeighbours : MethodName := ⟨RX0, "withNeighbours", "(J)J"⟩
abbrev c_X0_withNeighbours : ByteArray := prog_1_method_41_code
abbrev k_X0_withNeighbours : Cond := .code y_X0_withNeighbours c_X0_withNeighbours 4 (some .long)
theorem kw_X0_withNeighbours : k_X0_withNeighbours ∈ tw := tw_t (i := 334) (by decide +kernel) (by decide +kernel)
theorem st_X0_withNeighbours : Cond.static y_X0_withNeighbours ∈ tw := tw_t (i := 333) (by decide +kernel) (by decide +kernel)
def y_X0_heldAlong : MethodName := ⟨RX0, "heldAlong", "(JIJJ)J"⟩
abbrev c_X0_heldAlong : ByteArray := prog_1_method_42_code
abbrev k_X0_heldAlong : Cond := .code y_X0_heldAlong c_X0_heldAlong 12 (some .long)
theorem kw_X0_heldAlong : k_X0_heldAlong ∈ tw := tw_t (i := 348) (by decide +kernel) (by decide +kernel)
theorem st_X0_heldAlong : Cond.static y_X0_heldAlong ∈ tw := tw_t (i := 347) (by decide +kernel) (by decide +kernel)
def y_X1_init : MethodName := ⟨RX1, "<init>", "()V"⟩
abbrev c_X1_init : ByteArray := prog_3_method_1_code
abbrev k_X1_init : Cond := .code y_X1_init c_X1_init 1 none
theorem kw_X1_init : k_X1_init ∈ tw := tw_t (i := 359) (by decide +kernel) (by decide +kernel)
theorem im_X1_init : Cond.instanceMethod y_X1_init ∈ tw := tw_t (i := 358) (by decide +kernel) (by decide +kernel)
def y_X1_thrown : MethodName := ⟨RX1, "thrown", "()I"⟩
abbrev c_X1_thrown : ByteArray := prog_3_method_2_code
abbrev k_X1_thrown : Cond := .code y_X1_thrown c_X1_thrown 1 (some .int)
theorem kw_X1_thrown : k_X1_thrown ∈ tw := tw_t (i := 412) (by decide +kernel) (by decide +kernel)
theorem im_X1_thrown : Cond.instanceMethod y_X1_thrown ∈ tw := tw_t (i := 410) (by decide +kernel) (by decide +kernel)
theorem se_X1_thrown : Cond.selects RX1 y_X1_thrown y_X1_thrown ∈ tw := tw_t (i := 411) (by decide +kernel) (by decide +kernel)
def y_X1_lay : MethodName := ⟨RX1, "lay", "()V"⟩
abbrev c_X1_lay : ByteArray := prog_3_method_3_code
abbrev k_X1_lay : Cond := .code y_X1_lay c_X1_lay 2 none
theorem kw_X1_lay : k_X1_lay ∈ tw := tw_t (i := 364) (by decide +kernel) (by decide +kernel)
theorem im_X1_lay : Cond.instanceMethod y_X1_lay ∈ tw := tw_t (i := 363) (by decide +kernel) (by decide +kernel)
theorem se_X1_lay : Cond.selects RX1 y_X1_lay y_X1_lay ∈ tw := tw_s (i := 8) (by decide +kernel) (by decide +kernel)
def y_X1_begin : MethodName := ⟨RX1, "begin", "()V"⟩
abbrev c_X1_begin : ByteArray := prog_3_method_4_code
abbrev k_X1_begin : Cond := .code y_X1_begin c_X1_begin 1 none
theorem kw_X1_begin : k_X1_begin ∈ tw := tw_t (i := 416) (by decide +kernel) (by decide +kernel)
theorem im_X1_begin : Cond.instanceMethod y_X1_begin ∈ tw := tw_t (i := 414) (by decide +kernel) (by decide +kernel)
theorem se_X1_begin : Cond.selects RX1 y_X1_begin y_X1_begin ∈ tw := tw_t (i := 415) (by decide +kernel) (by decide +kernel)
def y_X1_set : MethodName := ⟨RX1, "set", "(JJI)V"⟩
abbrev c_X1_set : ByteArray := prog_3_method_5_code
abbrev k_X1_set : Cond := .code y_X1_set c_X1_set 7 none
theorem kw_X1_set : k_X1_set ∈ tw := tw_t (i := 420) (by decide +kernel) (by decide +kernel)
theorem im_X1_set : Cond.instanceMethod y_X1_set ∈ tw := tw_t (i := 418) (by decide +kernel) (by decide +kernel)
theorem se_X1_set : Cond.selects RX1 y_X1_set y_X1_set ∈ tw := tw_t (i := 419) (by decide +kernel) (by decide +kernel)
def y_X1_isOn : MethodName := ⟨RX1, "isOn", "(II)Z"⟩
abbrev c_X1_isOn : ByteArray := prog_3_method_6_code
abbrev k_X1_isOn : Cond := .code y_X1_isOn c_X1_isOn 2 (some .boolean)
theorem kw_X1_isOn : k_X1_isOn ∈ tw := tw_t (i := 449) (by decide +kernel) (by decide +kernel)
theorem st_X1_isOn : Cond.static y_X1_isOn ∈ tw := tw_t (i := 448) (by decide +kernel) (by decide +kernel)
def y_X1_cellOf : MethodName := ⟨RX1, "cellOf", "(III)I"⟩
abbrev c_X1_cellOf : ByteArray := prog_3_method_7_code
abbrev k_X1_cellOf : Cond := .code y_X1_cellOf c_X1_cellOf 4 (some .int)
theorem kw_X1_cellOf : k_X1_cellOf ∈ tw := tw_t (i := 453) (by decide +kernel) (by decide +kernel)
theorem im_X1_cellOf : Cond.instanceMethod y_X1_cellOf ∈ tw := tw_t (i := 452) (by decide +kernel) (by decide +kernel)
theorem se_X1_cellOf : Cond.selects RX1 y_X1_cellOf y_X1_cellOf ∈ tw := tw_s (i := 11) (by decide +kernel) (by decide +kernel)
def y_X1_rowWay : MethodName := ⟨RX1, "rowWay", "(I)I"⟩
abbrev c_X1_rowWay : ByteArray := prog_3_method_8_code
abbrev k_X1_rowWay : Cond := .code y_X1_rowWay c_X1_rowWay 1 (some .int)
theorem kw_X1_rowWay : k_X1_rowWay ∈ tw := tw_t (i := 443) (by decide +kernel) (by decide +kernel)
theorem st_X1_rowWay : Cond.static y_X1_rowWay ∈ tw := tw_t (i := 442) (by decide +kernel) (by decide +kernel)
def y_X1_columnWay : MethodName := ⟨RX1, "columnWay", "(I)I"⟩
abbrev c_X1_columnWay : ByteArray := prog_3_method_9_code
abbrev k_X1_columnWay : Cond := .code y_X1_columnWay c_X1_columnWay 1 (some .int)
theorem kw_X1_columnWay : k_X1_columnWay ∈ tw := tw_t (i := 446) (by decide +kernel) (by decide +kernel)
theorem st_X1_columnWay : Cond.static y_X1_columnWay ∈ tw := tw_t (i := 445) (by decide +kernel) (by decide +kernel)
def y_X1_along : MethodName := ⟨RX1, "along", "(IIII)I"⟩
abbrev c_X1_along : ByteArray := prog_3_method_10_code
abbrev k_X1_along : Cond := .code y_X1_along c_X1_along 8 (some .int)
theorem kw_X1_along : k_X1_along ∈ tw := tw_t (i := 440) (by decide +kernel) (by decide +kernel)
theorem im_X1_along : Cond.instanceMethod y_X1_along ∈ tw := tw_t (i := 439) (by decide +kernel) (by decide +kernel)
theorem se_X1_along : Cond.selects RX1 y_X1_along y_X1_along ∈ tw := tw_s (i := 10) (by decide +kernel) (by decide +kernel)
def y_X1_flipsAt : MethodName := ⟨RX1, "flipsAt", "(III)J"⟩
abbrev c_X1_flipsAt : ByteArray := prog_3_method_11_code
abbrev k_X1_flipsAt : Cond := .code y_X1_flipsAt c_X1_flipsAt 10 (some .long)
theorem kw_X1_flipsAt : k_X1_flipsAt ∈ tw := tw_t (i := 436) (by decide +kernel) (by decide +kernel)
theorem im_X1_flipsAt : Cond.instanceMethod y_X1_flipsAt ∈ tw := tw_t (i := 435) (by decide +kernel) (by decide +kernel)
theorem se_X1_flipsAt : Cond.selects RX1 y_X1_flipsAt y_X1_flipsAt ∈ tw := tw_s (i := 9) (by decide +kernel) (by decide +kernel)
def y_X1_movesAt : MethodName := ⟨RX1, "movesAt", "(II)I"⟩
abbrev c_X1_movesAt : ByteArray := prog_3_method_12_code
abbrev k_X1_movesAt : Cond := .code y_X1_movesAt c_X1_movesAt 5 (some .int)
theorem kw_X1_movesAt : k_X1_movesAt ∈ tw := tw_t (i := 469) (by decide +kernel) (by decide +kernel)
theorem im_X1_movesAt : Cond.instanceMethod y_X1_movesAt ∈ tw := tw_t (i := 468) (by decide +kernel) (by decide +kernel)
theorem se_X1_movesAt : Cond.selects RX1 y_X1_movesAt y_X1_movesAt ∈ tw := tw_s (i := 13) (by decide +kernel) (by decide +kernel)
def y_X1_discsOf : MethodName := ⟨RX1, "discsOf", "(II)I"⟩
abbrev c_X1_discsOf : ByteArray := prog_3_method_13_code
abbrev k_X1_discsOf : Cond := .code y_X1_discsOf c_X1_discsOf 5 (some .int)
theorem kw_X1_discsOf : k_X1_discsOf ∈ tw := tw_t (i := 500) (by decide +kernel) (by decide +kernel)
theorem im_X1_discsOf : Cond.instanceMethod y_X1_discsOf ∈ tw := tw_t (i := 499) (by decide +kernel) (by decide +kernel)
theorem se_X1_discsOf : Cond.selects RX1 y_X1_discsOf y_X1_discsOf ∈ tw := tw_s (i := 16) (by decide +kernel) (by decide +kernel)
def y_X1_ones : MethodName := ⟨RX1, "ones", "(J)I"⟩
abbrev c_X1_ones : ByteArray := prog_3_method_14_code
abbrev k_X1_ones : Cond := .code y_X1_ones c_X1_ones 4 (some .int)
theorem kw_X1_ones : k_X1_ones ∈ tw := tw_t (i := 484) (by decide +kernel) (by decide +kernel)
theorem st_X1_ones : Cond.static y_X1_ones ∈ tw := tw_t (i := 483) (by decide +kernel) (by decide +kernel)
def y_X1_discs : MethodName := ⟨RX1, "discs", "(I)J"⟩
abbrev c_X1_discs : ByteArray := prog_3_method_15_code
abbrev k_X1_discs : Cond := .code y_X1_discs c_X1_discs 5 (some .long)
theorem kw_X1_discs : k_X1_discs ∈ tw := tw_t (i := 424) (by decide +kernel) (by decide +kernel)
theorem im_X1_discs : Cond.instanceMethod y_X1_discs ∈ tw := tw_t (i := 422) (by decide +kernel) (by decide +kernel)
theorem se_X1_discs : Cond.selects RX1 y_X1_discs y_X1_discs ∈ tw := tw_t (i := 423) (by decide +kernel) (by decide +kernel)
def y_X1_player : MethodName := ⟨RX1, "player", "()I"⟩
abbrev c_X1_player : ByteArray := prog_3_method_16_code
abbrev k_X1_player : Cond := .code y_X1_player c_X1_player 1 (some .int)
theorem kw_X1_player : k_X1_player ∈ tw := tw_t (i := 428) (by decide +kernel) (by decide +kernel)
theorem im_X1_player : Cond.instanceMethod y_X1_player ∈ tw := tw_t (i := 426) (by decide +kernel) (by decide +kernel)
theorem se_X1_player : Cond.selects RX1 y_X1_player y_X1_player ∈ tw := tw_t (i := 427) (by decide +kernel) (by decide +kernel)
def y_X1_moves : MethodName := ⟨RX1, "moves", "()J"⟩
abbrev c_X1_moves : ByteArray := prog_3_method_17_code
abbrev k_X1_moves : Cond := .code y_X1_moves c_X1_moves 4 (some .long)
theorem kw_X1_moves : k_X1_moves ∈ tw := tw_t (i := 432) (by decide +kernel) (by decide +kernel)
theorem im_X1_moves : Cond.instanceMethod y_X1_moves ∈ tw := tw_t (i := 430) (by decide +kernel) (by decide +kernel)
theorem se_X1_moves : Cond.selects RX1 y_X1_moves y_X1_moves ∈ tw := tw_t (i := 431) (by decide +kernel) (by decide +kernel)
def y_X1_turns : MethodName := ⟨RX1, "turns", "(I)J"⟩
abbrev c_X1_turns : ByteArray := prog_3_method_18_code
abbrev k_X1_turns : Cond := .code y_X1_turns c_X1_turns 2 (some .long)
theorem kw_X1_turns : k_X1_turns ∈ tw := tw_t (i := 457) (by decide +kernel) (by decide +kernel)
theorem im_X1_turns : Cond.instanceMethod y_X1_turns ∈ tw := tw_t (i := 455) (by decide +kernel) (by decide +kernel)
theorem se_X1_turns : Cond.selects RX1 y_X1_turns y_X1_turns ∈ tw := tw_t (i := 456) (by decide +kernel) (by decide +kernel)
def y_X1_isOver : MethodName := ⟨RX1, "isOver", "(I)Z"⟩
abbrev c_X1_isOver : ByteArray := prog_3_method_19_code
abbrev k_X1_isOver : Cond := .code y_X1_isOver c_X1_isOver 2 (some .boolean)
theorem kw_X1_isOver : k_X1_isOver ∈ tw := tw_t (i := 465) (by decide +kernel) (by decide +kernel)
theorem im_X1_isOver : Cond.instanceMethod y_X1_isOver ∈ tw := tw_t (i := 464) (by decide +kernel) (by decide +kernel)
theorem se_X1_isOver : Cond.selects RX1 y_X1_isOver y_X1_isOver ∈ tw := tw_s (i := 12) (by decide +kernel) (by decide +kernel)
def y_X1_over : MethodName := ⟨RX1, "over", "()Z"⟩
abbrev c_X1_over : ByteArray := prog_3_method_20_code
abbrev k_X1_over : Cond := .code y_X1_over c_X1_over 1 (some .boolean)
theorem kw_X1_over : k_X1_over ∈ tw := tw_t (i := 461) (by decide +kernel) (by decide +kernel)
theorem im_X1_over : Cond.instanceMethod y_X1_over ∈ tw := tw_t (i := 459) (by decide +kernel) (by decide +kernel)
theorem se_X1_over : Cond.selects RX1 y_X1_over y_X1_over ∈ tw := tw_t (i := 460) (by decide +kernel) (by decide +kernel)
def y_X1_mustPass : MethodName := ⟨RX1, "mustPass", "(I)Z"⟩
abbrev c_X1_mustPass : ByteArray := prog_3_method_21_code
abbrev k_X1_mustPass : Cond := .code y_X1_mustPass c_X1_mustPass 2 (some .boolean)
theorem kw_X1_mustPass : k_X1_mustPass ∈ tw := tw_t (i := 477) (by decide +kernel) (by decide +kernel)
theorem im_X1_mustPass : Cond.instanceMethod y_X1_mustPass ∈ tw := tw_t (i := 476) (by decide +kernel) (by decide +kernel)
theorem se_X1_mustPass : Cond.selects RX1 y_X1_mustPass y_X1_mustPass ∈ tw := tw_s (i := 14) (by decide +kernel) (by decide +kernel)
def y_X1_put : MethodName := ⟨RX1, "put", "(I)I"⟩
abbrev c_X1_put : ByteArray := prog_3_method_22_code
abbrev k_X1_put : Cond := .code y_X1_put c_X1_put 6 (some .int)
theorem kw_X1_put : k_X1_put ∈ tw := tw_t (i := 481) (by decide +kernel) (by decide +kernel)
theorem im_X1_put : Cond.instanceMethod y_X1_put ∈ tw := tw_t (i := 480) (by decide +kernel) (by decide +kernel)
theorem se_X1_put : Cond.selects RX1 y_X1_put y_X1_put ∈ tw := tw_s (i := 15) (by decide +kernel) (by decide +kernel)
def y_X1_play : MethodName := ⟨RX1, "play", "(I)I"⟩
abbrev c_X1_play : ByteArray := prog_3_method_23_code
abbrev k_X1_play : Cond := .code y_X1_play c_X1_play 3 (some .int)
theorem kw_X1_play : k_X1_play ∈ tw := tw_t (i := 473) (by decide +kernel) (by decide +kernel)
theorem im_X1_play : Cond.instanceMethod y_X1_play ∈ tw := tw_t (i := 471) (by decide +kernel) (by decide +kernel)
theorem se_X1_play : Cond.selects RX1 y_X1_play y_X1_play ∈ tw := tw_t (i := 472) (by decide +kernel) (by decide +kernel)
def y_X1_back : MethodName := ⟨RX1, "back", "()I"⟩
abbrev c_X1_back : ByteArray := prog_3_method_24_code
abbrev k_X1_back : Cond := .code y_X1_back c_X1_back 3 (some .int)
theorem kw_X1_back : k_X1_back ∈ tw := tw_t (i := 488) (by decide +kernel) (by decide +kernel)
theorem im_X1_back : Cond.instanceMethod y_X1_back ∈ tw := tw_t (i := 486) (by decide +kernel) (by decide +kernel)
theorem se_X1_back : Cond.selects RX1 y_X1_back y_X1_back ∈ tw := tw_t (i := 487) (by decide +kernel) (by decide +kernel)
def y_X1_made : MethodName := ⟨RX1, "made", "()I"⟩
abbrev c_X1_made : ByteArray := prog_3_method_25_code
abbrev k_X1_made : Cond := .code y_X1_made c_X1_made 1 (some .int)
theorem kw_X1_made : k_X1_made ∈ tw := tw_t (i := 492) (by decide +kernel) (by decide +kernel)
theorem im_X1_made : Cond.instanceMethod y_X1_made ∈ tw := tw_t (i := 490) (by decide +kernel) (by decide +kernel)
theorem se_X1_made : Cond.selects RX1 y_X1_made y_X1_made ∈ tw := tw_t (i := 491) (by decide +kernel) (by decide +kernel)
def y_X1_difference : MethodName := ⟨RX1, "difference", "()I"⟩
abbrev c_X1_difference : ByteArray := prog_3_method_26_code
abbrev k_X1_difference : Cond := .code y_X1_difference c_X1_difference 1 (some .int)
theorem kw_X1_difference : k_X1_difference ∈ tw := tw_t (i := 496) (by decide +kernel) (by decide +kernel)
theorem im_X1_difference : Cond.instanceMethod y_X1_difference ∈ tw := tw_t (i := 494) (by decide +kernel) (by decide +kernel)
theorem se_X1_difference : Cond.selects RX1 y_X1_difference y_X1_difference ∈ tw := tw_t (i := 495) (by decide +kernel) (by decide +kernel)
def y_X1_layNext : MethodName := ⟨RX1, "layNext", "(II)V"⟩
abbrev c_X1_layNext : ByteArray := prog_3_method_27_code
abbrev k_X1_layNext : Cond := .code y_X1_layNext c_X1_layNext 8 none
theorem kw_X1_layNext : k_X1_layNext ∈ tw := tw_t (i := 528) (by decide +kernel) (by decide +kernel)
theorem im_X1_layNext : Cond.instanceMethod y_X1_layNext ∈ tw := tw_t (i := 527) (by decide +kernel) (by decide +kernel)
theorem se_X1_layNext : Cond.selects RX1 y_X1_layNext y_X1_layNext ∈ tw := tw_s (i := 22) (by decide +kernel) (by decide +kernel)
def y_X1_findSpots : MethodName := ⟨RX1, "findSpots", "()V"⟩
abbrev c_X1_findSpots : ByteArray := prog_3_method_28_code
abbrev k_X1_findSpots : Cond := .code y_X1_findSpots c_X1_findSpots 2 none
theorem kw_X1_findSpots : k_X1_findSpots ∈ tw := tw_t (i := 508) (by decide +kernel) (by decide +kernel)
theorem im_X1_findSpots : Cond.instanceMethod y_X1_findSpots ∈ tw := tw_t (i := 507) (by decide +kernel) (by decide +kernel)
theorem se_X1_findSpots : Cond.selects RX1 y_X1_findSpots y_X1_findSpots ∈ tw := tw_s (i := 17) (by decide +kernel) (by decide +kernel)
def y_X1_turnsAny : MethodName := ⟨RX1, "turnsAny", "(III)Z"⟩
abbrev c_X1_turnsAny : ByteArray := prog_3_method_29_code
abbrev k_X1_turnsAny : Cond := .code y_X1_turnsAny c_X1_turnsAny 6 (some .boolean)
theorem kw_X1_turnsAny : k_X1_turnsAny ∈ tw := tw_t (i := 520) (by decide +kernel) (by decide +kernel)
theorem im_X1_turnsAny : Cond.instanceMethod y_X1_turnsAny ∈ tw := tw_t (i := 519) (by decide +kernel) (by decide +kernel)
theorem se_X1_turnsAny : Cond.selects RX1 y_X1_turnsAny y_X1_turnsAny ∈ tw := tw_s (i := 20) (by decide +kernel) (by decide +kernel)
def y_X1_movable : MethodName := ⟨RX1, "movable", "(III)I"⟩
abbrev c_X1_movable : ByteArray := prog_3_method_30_code
abbrev k_X1_movable : Cond := .code y_X1_movable c_X1_movable 6 (some .int)
theorem kw_X1_movable : k_X1_movable ∈ tw := tw_t (i := 516) (by decide +kernel) (by decide +kernel)
theorem im_X1_movable : Cond.instanceMethod y_X1_movable ∈ tw := tw_t (i := 515) (by decide +kernel) (by decide +kernel)
theorem se_X1_movable : Cond.selects RX1 y_X1_movable y_X1_movable ∈ tw := tw_s (i := 19) (by decide +kernel) (by decide +kernel)
def y_X1_enter : MethodName := ⟨RX1, "enter", "(I)V"⟩
abbrev c_X1_enter : ByteArray := prog_3_method_31_code
abbrev k_X1_enter : Cond := .code y_X1_enter c_X1_enter 4 none
theorem kw_X1_enter : k_X1_enter ∈ tw := tw_t (i := 512) (by decide +kernel) (by decide +kernel)
theorem im_X1_enter : Cond.instanceMethod y_X1_enter ∈ tw := tw_t (i := 511) (by decide +kernel) (by decide +kernel)
theorem se_X1_enter : Cond.selects RX1 y_X1_enter y_X1_enter ∈ tw := tw_s (i := 18) (by decide +kernel) (by decide +kernel)
def y_X1_nextAt : MethodName := ⟨RX1, "nextAt", "(I)I"⟩
abbrev c_X1_nextAt : ByteArray := prog_3_method_32_code
abbrev k_X1_nextAt : Cond := .code y_X1_nextAt c_X1_nextAt 3 (some .int)
theorem kw_X1_nextAt : k_X1_nextAt ∈ tw := tw_t (i := 524) (by decide +kernel) (by decide +kernel)
theorem im_X1_nextAt : Cond.instanceMethod y_X1_nextAt ∈ tw := tw_t (i := 523) (by decide +kernel) (by decide +kernel)
theorem se_X1_nextAt : Cond.selects RX1 y_X1_nextAt y_X1_nextAt ∈ tw := tw_s (i := 21) (by decide +kernel) (by decide +kernel)
def y_X1_count : MethodName := ⟨RX1, "count", "(I)J"⟩
abbrev c_X1_count : ByteArray := prog_3_method_33_code
abbrev k_X1_count : Cond := .code y_X1_count c_X1_count 7 (some .long)
theorem kw_X1_count : k_X1_count ∈ tw := tw_t (i := 504) (by decide +kernel) (by decide +kernel)
theorem im_X1_count : Cond.instanceMethod y_X1_count ∈ tw := tw_t (i := 502) (by decide +kernel) (by decide +kernel)
theorem se_X1_count : Cond.selects RX1 y_X1_count y_X1_count ∈ tw := tw_t (i := 503) (by decide +kernel) (by decide +kernel)
def y_X1_empties : MethodName := ⟨RX1, "empties", "()I"⟩
abbrev c_X1_empties : ByteArray := prog_3_method_34_code
abbrev k_X1_empties : Cond := .code y_X1_empties c_X1_empties 1 (some .int)
theorem kw_X1_empties : k_X1_empties ∈ tw := tw_t (i := 536) (by decide +kernel) (by decide +kernel)
theorem im_X1_empties : Cond.instanceMethod y_X1_empties ∈ tw := tw_t (i := 535) (by decide +kernel) (by decide +kernel)
theorem se_X1_empties : Cond.selects RX1 y_X1_empties y_X1_empties ∈ tw := tw_s (i := 23) (by decide +kernel) (by decide +kernel)
def y_X1_search : MethodName := ⟨RX1, "search", "()I"⟩
abbrev c_X1_search : ByteArray := prog_3_method_35_code
abbrev k_X1_search : Cond := .code y_X1_search c_X1_search 5 (some .int)
theorem kw_X1_search : k_X1_search ∈ tw := tw_t (i := 540) (by decide +kernel) (by decide +kernel)
theorem im_X1_search : Cond.instanceMethod y_X1_search ∈ tw := tw_t (i := 539) (by decide +kernel) (by decide +kernel)
theorem se_X1_search : Cond.selects RX1 y_X1_search y_X1_search ∈ tw := tw_s (i := 24) (by decide +kernel) (by decide +kernel)
def y_X1_outcome : MethodName := ⟨RX1, "outcome", "()I"⟩
abbrev c_X1_outcome : ByteArray := prog_3_method_36_code
abbrev k_X1_outcome : Cond := .code y_X1_outcome c_X1_outcome 1 (some .int)
theorem kw_X1_outcome : k_X1_outcome ∈ tw := tw_t (i := 532) (by decide +kernel) (by decide +kernel)
theorem im_X1_outcome : Cond.instanceMethod y_X1_outcome ∈ tw := tw_t (i := 530) (by decide +kernel) (by decide +kernel)
theorem se_X1_outcome : Cond.selects RX1 y_X1_outcome y_X1_outcome ∈ tw := tw_t (i := 531) (by decide +kernel) (by decide +kernel)
def y_X1_best : MethodName := ⟨RX1, "best", "()I"⟩
abbrev c_X1_best : ByteArray := prog_3_method_37_code
abbrev k_X1_best : Cond := .code y_X1_best c_X1_best 2 (some .int)
theorem kw_X1_best : k_X1_best ∈ tw := tw_t (i := 544) (by decide +kernel) (by decide +kernel)
theorem im_X1_best : Cond.instanceMethod y_X1_best ∈ tw := tw_t (i := 542) (by decide +kernel) (by decide +kernel)
theorem se_X1_best : Cond.selects RX1 y_X1_best y_X1_best ∈ tw := tw_t (i := 543) (by decide +kernel) (by decide +kernel)
def y_X1_finish : MethodName := ⟨RX1, "finish", "()I"⟩
abbrev c_X1_finish : ByteArray := prog_3_method_38_code
abbrev k_X1_finish : Cond := .code y_X1_finish c_X1_finish 5 (some .int)
theorem kw_X1_finish : k_X1_finish ∈ tw := tw_t (i := 548) (by decide +kernel) (by decide +kernel)
theorem im_X1_finish : Cond.instanceMethod y_X1_finish ∈ tw := tw_t (i := 546) (by decide +kernel) (by decide +kernel)
theorem se_X1_finish : Cond.selects RX1 y_X1_finish y_X1_finish ∈ tw := tw_t (i := 547) (by decide +kernel) (by decide +kernel)
def y_X1_border : MethodName := ⟨RX1, "border", "(I)I"⟩
abbrev c_X1_border : ByteArray := prog_3_method_39_code
abbrev k_X1_border : Cond := .code y_X1_border c_X1_border 8 (some .int)
theorem kw_X1_border : k_X1_border ∈ tw := tw_t (i := 552) (by decide +kernel) (by decide +kernel)
theorem im_X1_border : Cond.instanceMethod y_X1_border ∈ tw := tw_t (i := 550) (by decide +kernel) (by decide +kernel)
theorem se_X1_border : Cond.selects RX1 y_X1_border y_X1_border ∈ tw := tw_t (i := 551) (by decide +kernel) (by decide +kernel)
def y_X1_isFull : MethodName := ⟨RX1, "isFull", "(III)Z"⟩
abbrev c_X1_isFull : ByteArray := prog_3_method_40_code
abbrev k_X1_isFull : Cond := .code y_X1_isFull c_X1_isFull 6 (some .boolean)
theorem kw_X1_isFull : k_X1_isFull ∈ tw := tw_t (i := 560) (by decide +kernel) (by decide +kernel)
theorem im_X1_isFull : Cond.instanceMethod y_X1_isFull ∈ tw := tw_t (i := 559) (by decide +kernel) (by decide +kernel)
theorem se_X1_isFull : Cond.selects RX1 y_X1_isFull y_X1_isFull ∈ tw := tw_s (i := 25) (by decide +kernel) (by decide +kernel)
def y_X1_safe : MethodName := ⟨RX1, "safe", "(I)J"⟩
abbrev c_X1_safe : ByteArray := prog_3_method_41_code
abbrev k_X1_safe : Cond := .code y_X1_safe c_X1_safe 7 (some .long)
theorem kw_X1_safe : k_X1_safe ∈ tw := tw_t (i := 556) (by decide +kernel) (by decide +kernel)
theorem im_X1_safe : Cond.instanceMethod y_X1_safe ∈ tw := tw_t (i := 554) (by decide +kernel) (by decide +kernel)
theorem se_X1_safe : Cond.selects RX1 y_X1_safe y_X1_safe ∈ tw := tw_t (i := 555) (by decide +kernel) (by decide +kernel)
def y_L_set : MethodName := ⟨RL, "set", "(LTurnedDiscs;JJI)I"⟩
abbrev c_L_set : ByteArray := method_3_code
abbrev k_L_set : Cond := .codeWith y_L_set c_L_set 7 (some .int) [((0 : Nat), (8 : Nat), (11 : Nat), (13 : Nat))]
theorem kw_L_set : k_L_set ∈ tw := tw_t (i := 105) (by decide +kernel) (by decide +kernel)
theorem st_L_set : Cond.static y_L_set ∈ tw := tw_t (i := 104) (by decide +kernel) (by decide +kernel)
def y_L_discs : MethodName := ⟨RL, "discs", "(LTurnedDiscs;I[J)I"⟩
abbrev c_L_discs : ByteArray := method_4_code
abbrev k_L_discs : Cond := .codeWith y_L_discs c_L_discs 4 (some .int) [((0 : Nat), (8 : Nat), (11 : Nat), (13 : Nat))]
theorem kw_L_discs : k_L_discs ∈ tw := tw_t (i := 185) (by decide +kernel) (by decide +kernel)
theorem st_L_discs : Cond.static y_L_discs ∈ tw := tw_t (i := 184) (by decide +kernel) (by decide +kernel)
def y_L_turns : MethodName := ⟨RL, "turns", "(LTurnedDiscs;I[J)I"⟩
abbrev c_L_turns : ByteArray := method_5_code
abbrev k_L_turns : Cond := .codeWith y_L_turns c_L_turns 4 (some .int) [((0 : Nat), (8 : Nat), (11 : Nat), (13 : Nat))]
theorem kw_L_turns : k_L_turns ∈ tw := tw_t (i := 192) (by decide +kernel) (by decide +kernel)
theorem st_L_turns : Cond.static y_L_turns ∈ tw := tw_t (i := 191) (by decide +kernel) (by decide +kernel)
def y_L_play : MethodName := ⟨RL, "play", "(LTurnedDiscs;I[J)I"⟩
abbrev c_L_play : ByteArray := method_6_code
abbrev k_L_play : Cond := .codeWith y_L_play c_L_play 4 (some .int) [((0 : Nat), (9 : Nat), (12 : Nat), (13 : Nat)), ((0 : Nat), (9 : Nat), (15 : Nat), (26 : Nat))]
theorem kw_L_play : k_L_play ∈ tw := tw_t (i := 213) (by decide +kernel) (by decide +kernel)
theorem st_L_play : Cond.static y_L_play ∈ tw := tw_t (i := 212) (by decide +kernel) (by decide +kernel)
def y_L_back : MethodName := ⟨RL, "back", "(LTurnedDiscs;[J)I"⟩
abbrev c_L_back : ByteArray := method_7_code
abbrev k_L_back : Cond := .codeWith y_L_back c_L_back 3 (some .int) [((0 : Nat), (8 : Nat), (11 : Nat), (32 : Nat))]
theorem kw_L_back : k_L_back ∈ tw := tw_t (i := 246) (by decide +kernel) (by decide +kernel)
theorem st_L_back : Cond.static y_L_back ∈ tw := tw_t (i := 245) (by decide +kernel) (by decide +kernel)
def y_L_count : MethodName := ⟨RL, "count", "(LTurnedDiscs;I[J)I"⟩
abbrev c_L_count : ByteArray := method_8_code
abbrev k_L_count : Cond := .codeWith y_L_count c_L_count 4 (some .int) [((0 : Nat), (8 : Nat), (11 : Nat), (13 : Nat))]
theorem kw_L_count : k_L_count ∈ tw := tw_t (i := 270) (by decide +kernel) (by decide +kernel)
theorem st_L_count : Cond.static y_L_count ∈ tw := tw_t (i := 269) (by decide +kernel) (by decide +kernel)
def y_L_outcome : MethodName := ⟨RL, "outcome", "(LTurnedDiscs;[J)I"⟩
abbrev c_L_outcome : ByteArray := method_9_code
abbrev k_L_outcome : Cond := .codeWith y_L_outcome c_L_outcome 3 (some .int) [((0 : Nat), (8 : Nat), (11 : Nat), (26 : Nat))]
theorem kw_L_outcome : k_L_outcome ∈ tw := tw_t (i := 281) (by decide +kernel) (by decide +kernel)
theorem st_L_outcome : Cond.static y_L_outcome ∈ tw := tw_t (i := 280) (by decide +kernel) (by decide +kernel)
def y_L_best : MethodName := ⟨RL, "best", "(LTurnedDiscs;[J)I"⟩
abbrev c_L_best : ByteArray := method_10_code
abbrev k_L_best : Cond := .codeWith y_L_best c_L_best 3 (some .int) [((0 : Nat), (8 : Nat), (11 : Nat), (26 : Nat))]
theorem kw_L_best : k_L_best ∈ tw := tw_t (i := 302) (by decide +kernel) (by decide +kernel)
theorem st_L_best : Cond.static y_L_best ∈ tw := tw_t (i := 301) (by decide +kernel) (by decide +kernel)
def y_L_finish : MethodName := ⟨RL, "finish", "(LTurnedDiscs;[J)I"⟩
abbrev c_L_finish : ByteArray := method_11_code
abbrev k_L_finish : Cond := .codeWith y_L_finish c_L_finish 3 (some .int) [((0 : Nat), (8 : Nat), (11 : Nat), (26 : Nat))]
theorem kw_L_finish : k_L_finish ∈ tw := tw_t (i := 315) (by decide +kernel) (by decide +kernel)
theorem st_L_finish : Cond.static y_L_finish ∈ tw := tw_t (i := 314) (by decide +kernel) (by decide +kernel)
def y_L_border : MethodName := ⟨RL, "border", "(LTurnedDiscs;I[J)I"⟩
abbrev c_L_border : ByteArray := method_12_code
abbrev k_L_border : Cond := .codeWith y_L_border c_L_border 4 (some .int) [((0 : Nat), (9 : Nat), (12 : Nat), (13 : Nat))]
theorem kw_L_border : k_L_border ∈ tw := tw_t (i := 327) (by decide +kernel) (by decide +kernel)
theorem st_L_border : Cond.static y_L_border ∈ tw := tw_t (i := 326) (by decide +kernel) (by decide +kernel)
def y_L_safe : MethodName := ⟨RL, "safe", "(LTurnedDiscs;I[J)I"⟩
abbrev c_L_safe : ByteArray := method_13_code
abbrev k_L_safe : Cond := .codeWith y_L_safe c_L_safe 4 (some .int) [((0 : Nat), (8 : Nat), (11 : Nat), (13 : Nat))]
theorem kw_L_safe : k_L_safe ∈ tw := tw_t (i := 339) (by decide +kernel) (by decide +kernel)
theorem st_L_safe : Cond.static y_L_safe ∈ tw := tw_t (i := 338) (by decide +kernel) (by decide +kernel)
def y_L_law : MethodName := ⟨RL, "law", "([I)Z"⟩
abbrev c_L_law : ByteArray := code
def y_JL_bitCount : MethodName := ⟨RJL, "bitCount", "(J)I"⟩
abbrev c_JL_bitCount : ByteArray := prog_7_method_50_code
abbrev k_JL_bitCount : Cond := .code y_JL_bitCount c_JL_bitCount 2 (some .int)
theorem kw_JL_bitCount : k_JL_bitCount ∈ tw := tw_t (i := 99) (by decide +kernel) (by decide +kernel)
theorem st_JL_bitCount : Cond.static y_JL_bitCount ∈ tw := tw_t (i := 98) (by decide +kernel) (by decide +kernel)
def y_JM_max : MethodName := ⟨RJM, "max", "(II)I"⟩
abbrev c_JM_max : ByteArray := prog_8_method_65_code
abbrev k_JM_max : Cond := .code y_JM_max c_JM_max 2 (some .int)
theorem kw_JM_max : k_JM_max ∈ tw := tw_t (i := 296) (by decide +kernel) (by decide +kernel)
theorem st_JM_max : Cond.static y_JM_max ∈ tw := tw_t (i := 295) (by decide +kernel) (by decide +kernel)
theorem cl_L_8 : Cond.classLink RL 8 "TurnedDiscs" ∈ tw := tw_t (i := 11) (by decide +kernel) (by decide +kernel)
theorem ia_X0 : Cond.instantiable RX0 7 ∈ tw := tw_t (i := 12) (by decide +kernel) (by decide +kernel)
theorem ml_L_52 : Cond.methodLink RL 52 y_X0_init ∈ tw := tw_t (i := 13) (by decide +kernel) (by decide +kernel)
theorem ml_X0_3 : Cond.methodLink RX0 3 objectInit ∈ tw := tw_t (i := 16) (by decide +kernel) (by decide +kernel)
theorem cn_X0_20 : Cond.constantLong RX0 20 (34628173824) ∈ tw := tw_t (i := 19) (by decide +kernel) (by decide +kernel)
theorem cn_X0_22 : Cond.constantLong RX0 22 (68853694464) ∈ tw := tw_t (i := 20) (by decide +kernel) (by decide +kernel)
theorem ml_X0_24 : Cond.methodLink RX0 24 y_X0_setUp ∈ tw := tw_t (i := 21) (by decide +kernel) (by decide +kernel)
theorem fl_X0_47 : Cond.fieldLink RX0 47 "TurnedDiscs" "own" "J" ∈ tw := tw_t (i := 25) (by decide +kernel) (by decide +kernel)
theorem fl_X0_51 : Cond.fieldLink RX0 51 "TurnedDiscs" "other" "J" ∈ tw := tw_t (i := 26) (by decide +kernel) (by decide +kernel)
theorem fl_X0_43 : Cond.fieldLink RX0 43 "TurnedDiscs" "player" "I" ∈ tw := tw_t (i := 27) (by decide +kernel) (by decide +kernel)
theorem fl_X0_81 : Cond.fieldLink RX0 81 "TurnedDiscs" "made" "I" ∈ tw := tw_t (i := 28) (by decide +kernel) (by decide +kernel)
theorem fl_X0_9 : Cond.fieldLink RX0 9 "TurnedDiscs" "squares" "[I" ∈ tw := tw_t (i := 29) (by decide +kernel) (by decide +kernel)
theorem fl_X0_13 : Cond.fieldLink RX0 13 "TurnedDiscs" "turned" "[J" ∈ tw := tw_t (i := 30) (by decide +kernel) (by decide +kernel)
theorem fl_X0_17 : Cond.fieldLink RX0 17 "TurnedDiscs" "plan" "[I" ∈ tw := tw_t (i := 31) (by decide +kernel) (by decide +kernel)
theorem ac_int : Cond.arrayClass .int ∈ tw := tw_t (i := 47) (by decide +kernel) (by decide +kernel)
theorem ac_long : Cond.arrayClass .long ∈ tw := tw_t (i := 48) (by decide +kernel) (by decide +kernel)
theorem ml_L_56 : Cond.methodLink RL 56 y_X0_begin ∈ tw := tw_t (i := 49) (by decide +kernel) (by decide +kernel)
theorem ml_L_75 : Cond.methodLink RL 75 y_X0_player ∈ tw := tw_t (i := 53) (by decide +kernel) (by decide +kernel)
theorem ml_L_79 : Cond.methodLink RL 79 y_X0_moves ∈ tw := tw_t (i := 57) (by decide +kernel) (by decide +kernel)
theorem ml_X0_54 : Cond.methodLink RX0 54 y_X0_movesOf ∈ tw := tw_t (i := 61) (by decide +kernel) (by decide +kernel)
theorem cn_X0_160 : Cond.constantLong RX0 160 (9114861777597660798) ∈ tw := tw_t (i := 64) (by decide +kernel) (by decide +kernel)
theorem ml_X0_162 : Cond.methodLink RX0 162 y_X0_endsAlong ∈ tw := tw_t (i := 65) (by decide +kernel) (by decide +kernel)
theorem ml_X0_165 : Cond.methodLink RX0 165 y_X0_runUp ∈ tw := tw_t (i := 68) (by decide +kernel) (by decide +kernel)
theorem ml_X0_168 : Cond.methodLink RX0 168 y_X0_runDown ∈ tw := tw_t (i := 71) (by decide +kernel) (by decide +kernel)
theorem cn_X0_158 : Cond.constantLong RX0 158 (-1) ∈ tw := tw_t (i := 74) (by decide +kernel) (by decide +kernel)
theorem ml_L_87 : Cond.methodLink RL 87 y_X0_over ∈ tw := tw_t (i := 75) (by decide +kernel) (by decide +kernel)
theorem ml_X0_71 : Cond.methodLink RX0 71 y_X0_isOver ∈ tw := tw_t (i := 79) (by decide +kernel) (by decide +kernel)
theorem ml_L_99 : Cond.methodLink RL 99 y_X0_made ∈ tw := tw_t (i := 82) (by decide +kernel) (by decide +kernel)
theorem ml_L_103 : Cond.methodLink RL 103 y_X0_difference ∈ tw := tw_t (i := 86) (by decide +kernel) (by decide +kernel)
theorem ml_X0_39 : Cond.methodLink RX0 39 y_X0_discsOf ∈ tw := tw_t (i := 90) (by decide +kernel) (by decide +kernel)
theorem ml_X0_98 : Cond.methodLink RX0 98 y_X0_lead ∈ tw := tw_t (i := 94) (by decide +kernel) (by decide +kernel)
theorem ml_X0_128 : Cond.methodLink RX0 128 y_JL_bitCount ∈ tw := tw_t (i := 97) (by decide +kernel) (by decide +kernel)
theorem cn_JL_314 : Cond.constantLong RJL 314 (6148914691236517205) ∈ tw := tw_t (i := 100) (by decide +kernel) (by decide +kernel)
theorem cn_JL_316 : Cond.constantLong RJL 316 (3689348814741910323) ∈ tw := tw_t (i := 101) (by decide +kernel) (by decide +kernel)
theorem cn_JL_318 : Cond.constantLong RJL 318 (1085102592571150095) ∈ tw := tw_t (i := 102) (by decide +kernel) (by decide +kernel)
theorem ml_L_62 : Cond.methodLink RL 62 y_L_set ∈ tw := tw_t (i := 103) (by decide +kernel) (by decide +kernel)
theorem cl_L_13 : Cond.classLink RL 13 "java/lang/IllegalArgumentException" ∈ tw := tw_t (i := 106) (by decide +kernel) (by decide +kernel)
theorem ml_L_7 : Cond.methodLink RL 7 y_X0_set ∈ tw := tw_t (i := 107) (by decide +kernel) (by decide +kernel)
theorem cl_X0_28 : Cond.classLink RX0 28 "java/lang/IllegalArgumentException" ∈ tw := tw_t (i := 111) (by decide +kernel) (by decide +kernel)
theorem ac_byte : Cond.arrayClass .byte ∈ tw := tw_t (i := 178) (by decide +kernel) (by decide +kernel)
theorem ml_X0_35 : Cond.methodLink RX0 35 y_X0_requirePlayer ∈ tw := tw_t (i := 179) (by decide +kernel) (by decide +kernel)
theorem ml_L_71 : Cond.methodLink RL 71 y_L_discs ∈ tw := tw_t (i := 183) (by decide +kernel) (by decide +kernel)
theorem ml_L_15 : Cond.methodLink RL 15 y_X0_discs ∈ tw := tw_t (i := 186) (by decide +kernel) (by decide +kernel)
theorem ml_L_84 : Cond.methodLink RL 84 y_L_turns ∈ tw := tw_t (i := 190) (by decide +kernel) (by decide +kernel)
theorem ml_L_19 : Cond.methodLink RL 19 y_X0_turns ∈ tw := tw_t (i := 193) (by decide +kernel) (by decide +kernel)
theorem ml_X0_60 : Cond.methodLink RX0 60 y_X0_discOn ∈ tw := tw_t (i := 198) (by decide +kernel) (by decide +kernel)
theorem ml_X0_63 : Cond.methodLink RX0 63 y_X0_empty ∈ tw := tw_t (i := 201) (by decide +kernel) (by decide +kernel)
theorem ml_X0_67 : Cond.methodLink RX0 67 y_X0_turnedBy ∈ tw := tw_t (i := 205) (by decide +kernel) (by decide +kernel)
theorem ml_X0_171 : Cond.methodLink RX0 171 y_X0_turnedAlong ∈ tw := tw_t (i := 208) (by decide +kernel) (by decide +kernel)
theorem ml_L_92 : Cond.methodLink RL 92 y_L_play ∈ tw := tw_t (i := 211) (by decide +kernel) (by decide +kernel)
theorem cl_L_26 : Cond.classLink RL 26 "java/lang/IllegalStateException" ∈ tw := tw_t (i := 214) (by decide +kernel) (by decide +kernel)
theorem ml_L_22 : Cond.methodLink RL 22 y_X0_play ∈ tw := tw_t (i := 215) (by decide +kernel) (by decide +kernel)
theorem ml_X0_75 : Cond.methodLink RX0 75 y_X0_mayPlay ∈ tw := tw_t (i := 219) (by decide +kernel) (by decide +kernel)
theorem cl_X0_84 : Cond.classLink RX0 84 "java/lang/IllegalStateException" ∈ tw := tw_t (i := 224) (by decide +kernel) (by decide +kernel)
theorem ml_X0_89 : Cond.methodLink RX0 89 y_X0_make ∈ tw := tw_t (i := 240) (by decide +kernel) (by decide +kernel)
theorem ml_L_95 : Cond.methodLink RL 95 y_L_back ∈ tw := tw_t (i := 244) (by decide +kernel) (by decide +kernel)
theorem cl_L_32 : Cond.classLink RL 32 "java/util/NoSuchElementException" ∈ tw := tw_t (i := 247) (by decide +kernel) (by decide +kernel)
theorem ml_L_28 : Cond.methodLink RL 28 y_X0_back ∈ tw := tw_t (i := 248) (by decide +kernel) (by decide +kernel)
theorem cl_X0_93 : Cond.classLink RX0 93 "java/util/NoSuchElementException" ∈ tw := tw_t (i := 252) (by decide +kernel) (by decide +kernel)
theorem ml_L_107 : Cond.methodLink RL 107 y_L_count ∈ tw := tw_t (i := 268) (by decide +kernel) (by decide +kernel)
theorem ml_L_34 : Cond.methodLink RL 34 y_X0_count ∈ tw := tw_t (i := 271) (by decide +kernel) (by decide +kernel)
theorem ml_X0_104 : Cond.methodLink RX0 104 y_X0_rowsFrom ∈ tw := tw_t (i := 276) (by decide +kernel) (by decide +kernel)
theorem ml_L_110 : Cond.methodLink RL 110 y_L_outcome ∈ tw := tw_t (i := 279) (by decide +kernel) (by decide +kernel)
theorem ml_L_37 : Cond.methodLink RL 37 y_X0_outcome ∈ tw := tw_t (i := 282) (by decide +kernel) (by decide +kernel)
theorem ml_X0_108 : Cond.methodLink RX0 108 y_X0_requireFewEmpty ∈ tw := tw_t (i := 286) (by decide +kernel) (by decide +kernel)
theorem ml_X0_111 : Cond.methodLink RX0 111 y_X0_worth ∈ tw := tw_t (i := 291) (by decide +kernel) (by decide +kernel)
theorem ml_X0_175 : Cond.methodLink RX0 175 y_JM_max ∈ tw := tw_t (i := 294) (by decide +kernel) (by decide +kernel)
theorem ml_X0_181 : Cond.methodLink RX0 181 y_X0_worthOf ∈ tw := tw_t (i := 297) (by decide +kernel) (by decide +kernel)
theorem ml_L_113 : Cond.methodLink RL 113 y_L_best ∈ tw := tw_t (i := 300) (by decide +kernel) (by decide +kernel)
theorem ml_L_40 : Cond.methodLink RL 40 y_X0_best ∈ tw := tw_t (i := 303) (by decide +kernel) (by decide +kernel)
theorem ml_X0_115 : Cond.methodLink RX0 115 y_X0_bestSquare ∈ tw := tw_t (i := 307) (by decide +kernel) (by decide +kernel)
theorem ml_X0_185 : Cond.methodLink RX0 185 y_X0_squareOf ∈ tw := tw_t (i := 310) (by decide +kernel) (by decide +kernel)
theorem ml_L_116 : Cond.methodLink RL 116 y_L_finish ∈ tw := tw_t (i := 313) (by decide +kernel) (by decide +kernel)
theorem ml_L_43 : Cond.methodLink RL 43 y_X0_finish ∈ tw := tw_t (i := 316) (by decide +kernel) (by decide +kernel)
theorem ml_X0_118 : Cond.methodLink RX0 118 y_X0_planFinish ∈ tw := tw_t (i := 320) (by decide +kernel) (by decide +kernel)
theorem ml_L_119 : Cond.methodLink RL 119 y_L_border ∈ tw := tw_t (i := 325) (by decide +kernel) (by decide +kernel)
theorem ml_L_46 : Cond.methodLink RL 46 y_X0_border ∈ tw := tw_t (i := 328) (by decide +kernel) (by decide +kernel)
theorem ml_X0_124 : Cond.methodLink RX0 124 y_X0_withNeighbours ∈ tw := tw_t (i := 332) (by decide +kernel) (by decide +kernel)
theorem cn_X0_188 : Cond.constantLong RX0 188 (-72340172838076674) ∈ tw := tw_t (i := 335) (by decide +kernel) (by decide +kernel)
theorem cn_X0_190 : Cond.constantLong RX0 190 (9187201950435737471) ∈ tw := tw_t (i := 336) (by decide +kernel) (by decide +kernel)
theorem ml_L_122 : Cond.methodLink RL 122 y_L_safe ∈ tw := tw_t (i := 337) (by decide +kernel) (by decide +kernel)
theorem ml_L_49 : Cond.methodLink RL 49 y_X0_safe ∈ tw := tw_t (i := 340) (by decide +kernel) (by decide +kernel)
theorem cn_X0_134 : Cond.constantLong RX0 134 (-9187201950435737472) ∈ tw := tw_t (i := 344) (by decide +kernel) (by decide +kernel)
theorem cn_X0_136 : Cond.constantLong RX0 136 (72340172838076673) ∈ tw := tw_t (i := 345) (by decide +kernel) (by decide +kernel)
theorem ml_X0_138 : Cond.methodLink RX0 138 y_X0_heldAlong ∈ tw := tw_t (i := 346) (by decide +kernel) (by decide +kernel)
theorem cn_X0_142 : Cond.constantLong RX0 142 (-72057594037927936) ∈ tw := tw_t (i := 349) (by decide +kernel) (by decide +kernel)
theorem cn_X0_144 : Cond.constantLong RX0 144 (255) ∈ tw := tw_t (i := 350) (by decide +kernel) (by decide +kernel)
theorem cn_X0_146 : Cond.constantLong RX0 146 (-35887507618889600) ∈ tw := tw_t (i := 351) (by decide +kernel) (by decide +kernel)
theorem cn_X0_148 : Cond.constantLong RX0 148 (72340172838076927) ∈ tw := tw_t (i := 352) (by decide +kernel) (by decide +kernel)
theorem cn_X0_150 : Cond.constantLong RX0 150 (-71775015237779199) ∈ tw := tw_t (i := 353) (by decide +kernel) (by decide +kernel)
theorem cn_X0_152 : Cond.constantLong RX0 152 (-9187201950435737345) ∈ tw := tw_t (i := 354) (by decide +kernel) (by decide +kernel)
theorem cl_L_53 : Cond.classLink RL 53 "TurnedDiscsModel" ∈ tw := tw_t (i := 355) (by decide +kernel) (by decide +kernel)
theorem ia_X1 : Cond.instantiable RX1 14 ∈ tw := tw_t (i := 356) (by decide +kernel) (by decide +kernel)
theorem ml_L_55 : Cond.methodLink RL 55 y_X1_init ∈ tw := tw_t (i := 357) (by decide +kernel) (by decide +kernel)
theorem ml_X1_1 : Cond.methodLink RX1 1 objectInit ∈ tw := tw_t (i := 360) (by decide +kernel) (by decide +kernel)
theorem ml_X1_42 : Cond.methodLink RX1 42 y_X1_lay ∈ tw := tw_t (i := 361) (by decide +kernel) (by decide +kernel)
theorem fl_X1_45 : Cond.fieldLink RX1 45 "TurnedDiscsModel" "thrown" "I" ∈ tw := tw_t (i := 365) (by decide +kernel) (by decide +kernel)
theorem fl_X1_7 : Cond.fieldLink RX1 7 "TurnedDiscsModel" "cells" "[I" ∈ tw := tw_t (i := 366) (by decide +kernel) (by decide +kernel)
theorem fl_X1_13 : Cond.fieldLink RX1 13 "TurnedDiscsModel" "movers" "[I" ∈ tw := tw_t (i := 367) (by decide +kernel) (by decide +kernel)
theorem fl_X1_16 : Cond.fieldLink RX1 16 "TurnedDiscsModel" "row" "[I" ∈ tw := tw_t (i := 368) (by decide +kernel) (by decide +kernel)
theorem fl_X1_19 : Cond.fieldLink RX1 19 "TurnedDiscsModel" "turned" "[J" ∈ tw := tw_t (i := 369) (by decide +kernel) (by decide +kernel)
theorem fl_X1_49 : Cond.fieldLink RX1 49 "TurnedDiscsModel" "made" "I" ∈ tw := tw_t (i := 370) (by decide +kernel) (by decide +kernel)
theorem fl_X1_23 : Cond.fieldLink RX1 23 "TurnedDiscsModel" "at" "[I" ∈ tw := tw_t (i := 371) (by decide +kernel) (by decide +kernel)
theorem fl_X1_26 : Cond.fieldLink RX1 26 "TurnedDiscsModel" "passes" "[Z" ∈ tw := tw_t (i := 372) (by decide +kernel) (by decide +kernel)
theorem fl_X1_30 : Cond.fieldLink RX1 30 "TurnedDiscsModel" "worth" "[I" ∈ tw := tw_t (i := 373) (by decide +kernel) (by decide +kernel)
theorem fl_X1_33 : Cond.fieldLink RX1 33 "TurnedDiscsModel" "tried" "[I" ∈ tw := tw_t (i := 374) (by decide +kernel) (by decide +kernel)
theorem fl_X1_120 : Cond.fieldLink RX1 120 "TurnedDiscsModel" "chosen" "I" ∈ tw := tw_t (i := 375) (by decide +kernel) (by decide +kernel)
theorem fl_X1_36 : Cond.fieldLink RX1 36 "TurnedDiscsModel" "spots" "[I" ∈ tw := tw_t (i := 376) (by decide +kernel) (by decide +kernel)
theorem fl_X1_96 : Cond.fieldLink RX1 96 "TurnedDiscsModel" "spotCount" "I" ∈ tw := tw_t (i := 377) (by decide +kernel) (by decide +kernel)
theorem fl_X1_39 : Cond.fieldLink RX1 39 "TurnedDiscsModel" "kept" "[I" ∈ tw := tw_t (i := 378) (by decide +kernel) (by decide +kernel)
theorem ac_boolean : Cond.arrayClass .boolean ∈ tw := tw_t (i := 408) (by decide +kernel) (by decide +kernel)
theorem ml_L_68 : Cond.methodLink RL 68 y_X1_thrown ∈ tw := tw_t (i := 409) (by decide +kernel) (by decide +kernel)
theorem ml_L_59 : Cond.methodLink RL 59 y_X1_begin ∈ tw := tw_t (i := 413) (by decide +kernel) (by decide +kernel)
theorem ml_L_67 : Cond.methodLink RL 67 y_X1_set ∈ tw := tw_t (i := 417) (by decide +kernel) (by decide +kernel)
theorem ml_L_74 : Cond.methodLink RL 74 y_X1_discs ∈ tw := tw_t (i := 421) (by decide +kernel) (by decide +kernel)
theorem ml_L_78 : Cond.methodLink RL 78 y_X1_player ∈ tw := tw_t (i := 425) (by decide +kernel) (by decide +kernel)
theorem ml_L_83 : Cond.methodLink RL 83 y_X1_moves ∈ tw := tw_t (i := 429) (by decide +kernel) (by decide +kernel)
theorem ml_X1_71 : Cond.methodLink RX1 71 y_X1_flipsAt ∈ tw := tw_t (i := 433) (by decide +kernel) (by decide +kernel)
theorem ml_X1_67 : Cond.methodLink RX1 67 y_X1_along ∈ tw := tw_t (i := 437) (by decide +kernel) (by decide +kernel)
theorem ml_X1_52 : Cond.methodLink RX1 52 y_X1_rowWay ∈ tw := tw_t (i := 441) (by decide +kernel) (by decide +kernel)
theorem ml_X1_56 : Cond.methodLink RX1 56 y_X1_columnWay ∈ tw := tw_t (i := 444) (by decide +kernel) (by decide +kernel)
theorem ml_X1_59 : Cond.methodLink RX1 59 y_X1_isOn ∈ tw := tw_t (i := 447) (by decide +kernel) (by decide +kernel)
theorem ml_X1_63 : Cond.methodLink RX1 63 y_X1_cellOf ∈ tw := tw_t (i := 450) (by decide +kernel) (by decide +kernel)
theorem ml_L_86 : Cond.methodLink RL 86 y_X1_turns ∈ tw := tw_t (i := 454) (by decide +kernel) (by decide +kernel)
theorem ml_L_91 : Cond.methodLink RL 91 y_X1_over ∈ tw := tw_t (i := 458) (by decide +kernel) (by decide +kernel)
theorem ml_X1_79 : Cond.methodLink RX1 79 y_X1_isOver ∈ tw := tw_t (i := 462) (by decide +kernel) (by decide +kernel)
theorem ml_X1_75 : Cond.methodLink RX1 75 y_X1_movesAt ∈ tw := tw_t (i := 466) (by decide +kernel) (by decide +kernel)
theorem ml_L_94 : Cond.methodLink RL 94 y_X1_play ∈ tw := tw_t (i := 470) (by decide +kernel) (by decide +kernel)
theorem ml_X1_87 : Cond.methodLink RX1 87 y_X1_mustPass ∈ tw := tw_t (i := 474) (by decide +kernel) (by decide +kernel)
theorem ml_X1_90 : Cond.methodLink RX1 90 y_X1_put ∈ tw := tw_t (i := 478) (by decide +kernel) (by decide +kernel)
theorem ml_X1_83 : Cond.methodLink RX1 83 y_X1_ones ∈ tw := tw_t (i := 482) (by decide +kernel) (by decide +kernel)
theorem ml_L_98 : Cond.methodLink RL 98 y_X1_back ∈ tw := tw_t (i := 485) (by decide +kernel) (by decide +kernel)
theorem ml_L_102 : Cond.methodLink RL 102 y_X1_made ∈ tw := tw_t (i := 489) (by decide +kernel) (by decide +kernel)
theorem ml_L_106 : Cond.methodLink RL 106 y_X1_difference ∈ tw := tw_t (i := 493) (by decide +kernel) (by decide +kernel)
theorem ml_X1_93 : Cond.methodLink RX1 93 y_X1_discsOf ∈ tw := tw_t (i := 497) (by decide +kernel) (by decide +kernel)
theorem ml_L_109 : Cond.methodLink RL 109 y_X1_count ∈ tw := tw_t (i := 501) (by decide +kernel) (by decide +kernel)
theorem ml_X1_106 : Cond.methodLink RX1 106 y_X1_findSpots ∈ tw := tw_t (i := 505) (by decide +kernel) (by decide +kernel)
theorem ml_X1_109 : Cond.methodLink RX1 109 y_X1_enter ∈ tw := tw_t (i := 509) (by decide +kernel) (by decide +kernel)
theorem ml_X1_103 : Cond.methodLink RX1 103 y_X1_movable ∈ tw := tw_t (i := 513) (by decide +kernel) (by decide +kernel)
theorem ml_X1_99 : Cond.methodLink RX1 99 y_X1_turnsAny ∈ tw := tw_t (i := 517) (by decide +kernel) (by decide +kernel)
theorem ml_X1_113 : Cond.methodLink RX1 113 y_X1_nextAt ∈ tw := tw_t (i := 521) (by decide +kernel) (by decide +kernel)
theorem ml_X1_116 : Cond.methodLink RX1 116 y_X1_layNext ∈ tw := tw_t (i := 525) (by decide +kernel) (by decide +kernel)
theorem ml_L_112 : Cond.methodLink RL 112 y_X1_outcome ∈ tw := tw_t (i := 529) (by decide +kernel) (by decide +kernel)
theorem ml_X1_123 : Cond.methodLink RX1 123 y_X1_empties ∈ tw := tw_t (i := 533) (by decide +kernel) (by decide +kernel)
theorem ml_X1_127 : Cond.methodLink RX1 127 y_X1_search ∈ tw := tw_t (i := 537) (by decide +kernel) (by decide +kernel)
theorem ml_L_115 : Cond.methodLink RL 115 y_X1_best ∈ tw := tw_t (i := 541) (by decide +kernel) (by decide +kernel)
theorem ml_L_118 : Cond.methodLink RL 118 y_X1_finish ∈ tw := tw_t (i := 545) (by decide +kernel) (by decide +kernel)
theorem ml_L_121 : Cond.methodLink RL 121 y_X1_border ∈ tw := tw_t (i := 549) (by decide +kernel) (by decide +kernel)
theorem ml_L_124 : Cond.methodLink RL 124 y_X1_safe ∈ tw := tw_t (i := 553) (by decide +kernel) (by decide +kernel)
theorem ml_X1_130 : Cond.methodLink RX1 130 y_X1_isFull ∈ tw := tw_t (i := 557) (by decide +kernel) (by decide +kernel)
theorem cn_L_60 : Cond.constantLong RL 60 (4294967295) ∈ tw := tw_t (i := 561) (by decide +kernel) (by decide +kernel)
theorem im_obj : Cond.instanceMethod objectInit ∈ tw := tw_t (i := 17) (by decide +kernel) (by decide +kernel)
theorem kw_obj : Cond.code objectInit ⟨#[0xb1]⟩ 1 none ∈ tw := tw_t (i := 18) (by decide +kernel) (by decide +kernel)
