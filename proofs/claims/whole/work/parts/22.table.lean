/-- the words of the tables that the methods need -/
def nw_tbl : List Cond := [.fieldLink R_Row 15 "NearWords$Row" "length" "I",
  .fieldLink R_Row 9 "NearWords$Row" "characters" "[B",
  .methodLink R_Row 19 arraycopyName,
  .native arraycopyName,
  .static arraycopyName,
  .initialized "java/lang/System",
  .fieldLink R_WL 19 "NearWords$WordList" "size" "I",
  .fieldLink R_WL 15 "NearWords$WordList" "starts" "[I",
  .fieldLink R_WL 9 "NearWords$WordList" "characters" "[B",
  .methodLink R_WL 23 y_WL_lengthOf,
  .instanceMethod y_WL_lengthOf,
  .selects R_WL y_WL_lengthOf y_WL_lengthOf,
  .initialized R_WL,
  .code y_WL_lengthOf b_WL_lengthOf 2 (some .int),
  .methodLink R_WL 27 Lib.Math.max.name,
  .static Lib.Math.max.name,
  .initialized "java/lang/Math",
  .code Lib.Math.max.name Lib.Math.max.code 2 (some .int),
  .methodLink R_WL 40 y_Row_length,
  .instanceMethod y_Row_length,
  .selects R_Row y_Row_length y_Row_length,
  .initialized R_Row,
  .code y_Row_length b_Row_length 1 (some .int),
  .methodLink R_WL 55 Lib.Math.min.name,
  .static Lib.Math.min.name,
  .code Lib.Math.min.name Lib.Math.min.code 2 (some .int),
  .methodLink R_WL 58 y_WL_at,
  .instanceMethod y_WL_at,
  .selects R_WL y_WL_at y_WL_at,
  .code y_WL_at b_WL_at 3 (some .int),
  .methodLink R_WL 61 y_Row_at,
  .instanceMethod y_Row_at,
  .selects R_Row y_Row_at y_Row_at,
  .code y_Row_at b_Row_at 2 (some .int),
  .methodLink R_WL 33 y_WL_compare,
  .instanceMethod y_WL_compare,
  .selects R_WL y_WL_compare y_WL_compare,
  .code y_WL_compare b_WL_compare 6 (some .int),
  .methodLink R_WL 37 y_WL_characters,
  .instanceMethod y_WL_characters,
  .selects R_WL y_WL_characters y_WL_characters,
  .code y_WL_characters b_WL_characters 1 (some .int),
  .methodLink R_WL 45 arraycopyName,
  .methodLink R_WL 51 y_Row_copyTo,
  .instanceMethod y_Row_copyTo,
  .selects R_Row y_Row_copyTo y_Row_copyTo,
  .code y_Row_copyTo b_Row_copyTo 3 none,
  .methodLink R_Row 3 objectInit,
  .instanceMethod objectInit,
  .code objectInit ⟨#[0xb1]⟩ 1 none,
  .arrayClass .byte,
  .methodLink R_WL 3 objectInit,
  .arrayClass .int,
  .methodLink R_Pat 3 objectInit,
  .arrayClass .long,
  .fieldLink R_Pat 9 "NearWords$Pattern" "placesOf" "[J",
  .fieldLink R_Pat 15 "NearWords$Pattern" "anyRow" "J",
  .fieldLink R_Pat 19 "NearWords$Pattern" "anyOne" "J",
  .fieldLink R_Pat 22 "NearWords$Pattern" "length" "I",
  .methodLink R_Near 3 objectInit,
  .fieldLink R_Near 9 "NearWords$Nearest" "steps" "[B",
  .fieldLink R_Near 15 "NearWords$Nearest" "withSteps" "[I",
  .fieldLink R_Mod 46 "NearWordsModel" "thrown" "I",
  .fieldLink R_Mod 50 "NearWordsModel" "inputSize" "I",
  .fieldLink R_Mod 20 "NearWordsModel" "length" "[I",
  .methodLink R_Mod 53 y_Mod_least,
  .static y_Mod_least,
  .initialized R_Mod,
  .code y_Mod_least b_Mod_least 2 (some .int),
  .fieldLink R_Mod 14 "NearWordsModel" "word" "[B",
  .fieldLink R_Mod 7 "NearWordsModel" "input" "[B",
  .fieldLink R_Mod 57 "NearWordsModel" "words" "I",
  .methodLink R_Mod 60 y_Mod_order,
  .instanceMethod y_Mod_order,
  .selects R_Mod y_Mod_order y_Mod_order,
  .code y_Mod_order b_Mod_order 5 (some .int),
  .methodLink R_Mod 63 y_Mod_take,
  .instanceMethod y_Mod_take,
  .selects R_Mod y_Mod_take y_Mod_take,
  .code y_Mod_take b_Mod_take 2 (some .int),
  .methodLink R_Mod 67 y_Mod_standing,
  .instanceMethod y_Mod_standing,
  .selects R_Mod y_Mod_standing y_Mod_standing,
  .code y_Mod_standing b_Mod_standing 4 (some .int),
  .fieldLink R_Mod 71 "NearWordsModel" "characters" "I",
  .fieldLink R_Mod 81 "NearWordsModel" "results" "I",
  .fieldLink R_Mod 24 "NearWordsModel" "resultLength" "[I",
  .fieldLink R_Mod 17 "NearWordsModel" "result" "[B",
  .fieldLink R_Mod 27 "NearWordsModel" "resultDistance" "[I",
  .fieldLink R_Mod 36 "NearWordsModel" "step" "[I",
  .fieldLink R_Mod 39 "NearWordsModel" "now" "[Z",
  .fieldLink R_Mod 43 "NearWordsModel" "next" "[Z",
  .methodLink R_Mod 74 y_Mod_shift,
  .instanceMethod y_Mod_shift,
  .selects R_Mod y_Mod_shift y_Mod_shift,
  .code y_Mod_shift b_Mod_shift 5 none,
  .methodLink R_Mod 87 y_Mod_fits,
  .instanceMethod y_Mod_fits,
  .selects R_Mod y_Mod_fits y_Mod_fits,
  .code y_Mod_fits b_Mod_fits 7 (some .boolean),
  .methodLink R_Mod 84 y_Mod_keep,
  .instanceMethod y_Mod_keep,
  .selects R_Mod y_Mod_keep y_Mod_keep,
  .code y_Mod_keep b_Mod_keep 5 none,
  .methodLink R_Mod 78 y_Mod_steps,
  .instanceMethod y_Mod_steps,
  .selects R_Mod y_Mod_steps y_Mod_steps,
  .code y_Mod_steps b_Mod_steps 9 (some .int),
  .fieldLink R_Mod 30 "NearWordsModel" "chosen" "[I",
  .fieldLink R_Mod 33 "NearWordsModel" "far" "[I",
  .methodLink R_Mod 1 objectInit,
  .constant R_Mod 13 60000,
  .arrayClass .boolean,
  .lays R_NW "NearWords" "input" "LNearWords$Row;",
  .lays R_NW "NearWords" "taken" "LNearWords$Row;",
  .laysFinal R_NW "NearWords" "words" "LNearWords$WordList;",
  .laysFinal R_NW "NearWords" "result" "LNearWords$Result;",
  .laysFinal R_NW "NearWords" "pattern" "LNearWords$Pattern;",
  .laysFinal R_NW "NearWords" "meter" "LNearWords$Meter;",
  .laysFinal R_NW "NearWords" "nearest" "LNearWords$Nearest;",
  .laysFinal R_Mod "NearWordsModel" "input" "[B",
  .laysFinal R_Mod "NearWordsModel" "word" "[B",
  .laysFinal R_Mod "NearWordsModel" "result" "[B",
  .laysFinal R_Mod "NearWordsModel" "length" "[I",
  .laysFinal R_Mod "NearWordsModel" "resultLength" "[I",
  .laysFinal R_Mod "NearWordsModel" "resultDistance" "[I",
  .laysFinal R_Mod "NearWordsModel" "chosen" "[I",
  .laysFinal R_Mod "NearWordsModel" "far" "[I",
  .laysFinal R_Mod "NearWordsModel" "step" "[I",
  .laysFinal R_Mod "NearWordsModel" "now" "[Z",
  .laysFinal R_Mod "NearWordsModel" "next" "[Z",
  .lays R_Mod "NearWordsModel" "inputSize" "I",
  .lays R_Mod "NearWordsModel" "words" "I",
  .lays R_Mod "NearWordsModel" "characters" "I",
  .lays R_Mod "NearWordsModel" "results" "I",
  .lays R_Mod "NearWordsModel" "thrown" "I",
  .laysFinal R_Met "NearWords$Meter" "placesOf" "[J",
  .laysFinal R_Met "NearWords$Meter" "reach" "[[J",
  .lays R_Met "NearWords$Meter" "aimLength" "I",
  .laysFinal R_Near "NearWords$Nearest" "steps" "[B",
  .laysFinal R_Near "NearWords$Nearest" "withSteps" "[I",
  .laysFinal R_Pat "NearWords$Pattern" "placesOf" "[J",
  .lays R_Pat "NearWords$Pattern" "anyRow" "J",
  .lays R_Pat "NearWords$Pattern" "anyOne" "J",
  .lays R_Pat "NearWords$Pattern" "length" "I",
  .laysFinal R_Res "NearWords$Result" "characters" "[[B",
  .laysFinal R_Res "NearWords$Result" "lengths" "[I",
  .laysFinal R_Res "NearWords$Result" "steps" "[I",
  .lays R_Res "NearWords$Result" "size" "I",
  .laysFinal R_Row "NearWords$Row" "characters" "[B",
  .lays R_Row "NearWords$Row" "length" "I",
  .laysFinal R_WL "NearWords$WordList" "characters" "[B",
  .laysFinal R_WL "NearWords$WordList" "starts" "[I",
  .lays R_WL "NearWords$WordList" "size" "I"]
theorem nw_m {w : Cond} (k : Nat) (h : nw_tbl[k]? = some w) : w ∈ nw_tbl := List.mem_of_getElem? h
theorem nw_mc {x w : Cond} (k : Nat) (h : nw_tbl[k]? = some w) : w ∈ x :: nw_tbl := List.mem_cons_of_mem _ (List.mem_of_getElem? h)
theorem nw_tbl_good : nw_tbl.all goodWord = true := by decide +kernel
theorem nw_good {w : Cond} (h : w ∈ nw_tbl) : (w.onTables && w.keeps) = true ∨ ∃ ty, w = .arrayClass ty := good_of_word (List.all_eq_true.mp nw_tbl_good w h)
theorem nw_GI {x y : Cond} (h : y ∈ nw_tbl) : GoodIn (x :: nw_tbl) (y :: nw_tbl) := fun w hw => by
  rcases List.mem_cons.mp hw with e | e
  · rw [e]; exact ⟨List.mem_cons_of_mem _ h, nw_good h⟩
  · exact ⟨List.mem_cons_of_mem _ e, nw_good e⟩
theorem nw_GV {x : Cond} {own C : String} {idx : Nat} {y : MethodName} {yc : Cond} (h1 : Cond.methodLink own idx y ∈ nw_tbl) (h2 : Cond.instanceMethod y ∈ nw_tbl) (h3 : Cond.selects C y y ∈ nw_tbl) (h4 : Cond.initialized C ∈ nw_tbl) (h : yc ∈ nw_tbl) : GoodIn (x :: nw_tbl) (wsV own idx C y (yc :: nw_tbl)) := fun w hw => by
  rcases List.mem_append.mp hw with e | e
  · have h9 : w ∈ nw_tbl := by
      simp only [List.mem_cons, List.not_mem_nil, or_false] at e
      rcases e with e | e | e | e <;> rw [e] <;> assumption
    exact ⟨List.mem_cons_of_mem _ h9, nw_good h9⟩
  · exact nw_GI h w e
theorem nw_GS {x : Cond} {own : String} {idx : Nat} {y : MethodName} {yc : Cond} (h1 : Cond.methodLink own idx y ∈ nw_tbl) (h2 : Cond.static y ∈ nw_tbl) (h4 : Cond.initialized own ∈ nw_tbl) (h : yc ∈ nw_tbl) : GoodIn (x :: nw_tbl) (wsS own idx y (yc :: nw_tbl)) := fun w hw => by
  rcases List.mem_append.mp hw with e | e
  · have h9 : w ∈ nw_tbl := by
      simp only [List.mem_cons, List.not_mem_nil, or_false] at e
      rcases e with e | e | e <;> rw [e] <;> assumption
    exact ⟨List.mem_cons_of_mem _ h9, nw_good h9⟩
  · exact nw_GI h w e
theorem nw_GT {x : Cond} {own : String} {idx : Nat} {y : MethodName} {yc : Cond} (h1 : Cond.methodLink own idx y ∈ nw_tbl) (h2 : Cond.static y ∈ nw_tbl) (h4 : Cond.initialized y.cls ∈ nw_tbl) (h : yc ∈ nw_tbl) : GoodIn (x :: nw_tbl) (va_wsS own idx y (yc :: nw_tbl)) := fun w hw => by
  rcases List.mem_append.mp hw with e | e
  · have h9 : w ∈ nw_tbl := by
      simp only [List.mem_cons, List.not_mem_nil, or_false] at e
      rcases e with e | e | e <;> rw [e] <;> assumption
    exact ⟨List.mem_cons_of_mem _ h9, nw_good h9⟩
  · exact nw_GI h w e
theorem hin_NW0 : ∀ w ∈ u_ws R_NW F_NW 7, w ∈ nw_tbl := by decide +kernel
theorem hin_NW {x : Cond} : ∀ w ∈ u_ws R_NW F_NW 7, w ∈ x :: nw_tbl := fun w h => List.mem_cons_of_mem _ (hin_NW0 w h)
theorem hin_Mod0 : ∀ w ∈ u_ws R_Mod F_Mod 16, w ∈ nw_tbl := by decide +kernel
theorem hin_Mod {x : Cond} : ∀ w ∈ u_ws R_Mod F_Mod 16, w ∈ x :: nw_tbl := fun w h => List.mem_cons_of_mem _ (hin_Mod0 w h)
theorem hin_Met0 : ∀ w ∈ u_ws R_Met F_Met 3, w ∈ nw_tbl := by decide +kernel
theorem hin_Met {x : Cond} : ∀ w ∈ u_ws R_Met F_Met 3, w ∈ x :: nw_tbl := fun w h => List.mem_cons_of_mem _ (hin_Met0 w h)
theorem hin_Near0 : ∀ w ∈ u_ws R_Near F_Near 2, w ∈ nw_tbl := by decide +kernel
theorem hin_Near {x : Cond} : ∀ w ∈ u_ws R_Near F_Near 2, w ∈ x :: nw_tbl := fun w h => List.mem_cons_of_mem _ (hin_Near0 w h)
theorem hin_Pat0 : ∀ w ∈ u_ws R_Pat F_Pat 4, w ∈ nw_tbl := by decide +kernel
theorem hin_Pat {x : Cond} : ∀ w ∈ u_ws R_Pat F_Pat 4, w ∈ x :: nw_tbl := fun w h => List.mem_cons_of_mem _ (hin_Pat0 w h)
theorem hin_Res0 : ∀ w ∈ u_ws R_Res F_Res 4, w ∈ nw_tbl := by decide +kernel
theorem hin_Res {x : Cond} : ∀ w ∈ u_ws R_Res F_Res 4, w ∈ x :: nw_tbl := fun w h => List.mem_cons_of_mem _ (hin_Res0 w h)
theorem hin_Row0 : ∀ w ∈ u_ws R_Row F_Row 2, w ∈ nw_tbl := by decide +kernel
theorem hin_Row {x : Cond} : ∀ w ∈ u_ws R_Row F_Row 2, w ∈ x :: nw_tbl := fun w h => List.mem_cons_of_mem _ (hin_Row0 w h)
theorem hin_WL0 : ∀ w ∈ u_ws R_WL F_WL 3, w ∈ nw_tbl := by decide +kernel
theorem hin_WL {x : Cond} : ∀ w ∈ u_ws R_WL F_WL 3, w ∈ x :: nw_tbl := fun w h => List.mem_cons_of_mem _ (hin_WL0 w h)
abbrev w_Row_length : List Cond := .code y_Row_length b_Row_length 1 (some .int) :: nw_tbl
abbrev w_Row_isEmpty : List Cond := .code y_Row_isEmpty b_Row_isEmpty 1 (some .boolean) :: nw_tbl
abbrev w_Row_at : List Cond := .code y_Row_at b_Row_at 2 (some .int) :: nw_tbl
abbrev w_Row_clear : List Cond := .code y_Row_clear b_Row_clear 1 none :: nw_tbl
abbrev w_Row_append : List Cond := .code y_Row_append b_Row_append 2 none :: nw_tbl
abbrev w_Row_copyTo : List Cond := .code y_Row_copyTo b_Row_copyTo 3 none :: nw_tbl
abbrev w_WL_size : List Cond := .code y_WL_size b_WL_size 1 (some .int) :: nw_tbl
abbrev w_WL_characters : List Cond := .code y_WL_characters b_WL_characters 1 (some .int) :: nw_tbl
abbrev w_WL_lengthOf : List Cond := .code y_WL_lengthOf b_WL_lengthOf 2 (some .int) :: nw_tbl
abbrev w_WL_at : List Cond := .code y_WL_at b_WL_at 3 (some .int) :: nw_tbl
abbrev w_WL_longest : List Cond := .code y_WL_longest b_WL_longest 3 (some .int) :: nw_tbl
abbrev w_WL_compare : List Cond := .code y_WL_compare b_WL_compare 6 (some .int) :: nw_tbl
abbrev w_WL_placeOf : List Cond := .code y_WL_placeOf b_WL_placeOf 4 (some .int) :: nw_tbl
abbrev w_WL_isAt : List Cond := .code y_WL_isAt b_WL_isAt 3 (some .boolean) :: nw_tbl
abbrev w_WL_hasRoomFor : List Cond := .code y_WL_hasRoomFor b_WL_hasRoomFor 2 (some .boolean) :: nw_tbl
abbrev w_WL_insertAt : List Cond := .code y_WL_insertAt b_WL_insertAt 6 none :: nw_tbl
abbrev w_WL_deleteAt : List Cond := .code y_WL_deleteAt b_WL_deleteAt 5 none :: nw_tbl
abbrev w_Arr_fillJ : List Cond := .code y_Arr_fillJ b_Arr_fillJ 5 none :: nw_tbl
abbrev w_Arr_fillI : List Cond := .code y_Arr_fillI b_Arr_fillI 4 none :: nw_tbl
abbrev w_Row_init : List Cond := .code y_Row_init b_Row_init 1 none :: nw_tbl
abbrev w_WL_init : List Cond := .code y_WL_init b_WL_init 1 none :: nw_tbl
abbrev w_Pat_init : List Cond := .code y_Pat_init b_Pat_init 1 none :: nw_tbl
abbrev w_Near_init : List Cond := .code y_Near_init b_Near_init 1 none :: nw_tbl
abbrev w_Mod_thrown : List Cond := .code y_Mod_thrown b_Mod_thrown 1 (some .int) :: nw_tbl
abbrev w_Mod_least : List Cond := .code y_Mod_least b_Mod_least 2 (some .int) :: nw_tbl
abbrev w_Mod_take : List Cond := .code y_Mod_take b_Mod_take 2 (some .int) :: nw_tbl
abbrev w_Mod_order : List Cond := .code y_Mod_order b_Mod_order 5 (some .int) :: nw_tbl
abbrev w_Mod_standing : List Cond := .code y_Mod_standing b_Mod_standing 4 (some .int) :: nw_tbl
abbrev w_Mod_before : List Cond := .code y_Mod_before b_Mod_before 1 (some .int) :: nw_tbl
abbrev w_Mod_count : List Cond := .code y_Mod_count b_Mod_count 4 (some .int) :: nw_tbl
abbrev w_Mod_letter : List Cond := .code y_Mod_letter b_Mod_letter 3 (some .int) :: nw_tbl
abbrev w_Mod_distance : List Cond := .code y_Mod_distance b_Mod_distance 2 (some .int) :: nw_tbl
abbrev w_Mod_shift : List Cond := .code y_Mod_shift b_Mod_shift 5 none :: nw_tbl
abbrev w_Mod_keep : List Cond := .code y_Mod_keep b_Mod_keep 5 none :: nw_tbl
abbrev w_Mod_steps : List Cond := .code y_Mod_steps b_Mod_steps 9 (some .int) :: nw_tbl
abbrev w_Mod_fits : List Cond := .code y_Mod_fits b_Mod_fits 7 (some .boolean) :: nw_tbl
abbrev w_Mod_add : List Cond := .code y_Mod_add b_Mod_add 4 (some .int) :: nw_tbl
abbrev w_Mod_remove : List Cond := .code y_Mod_remove b_Mod_remove 4 (some .int) :: nw_tbl
abbrev w_Mod_like : List Cond := .code y_Mod_like b_Mod_like 4 (some .int) :: nw_tbl
abbrev w_Mod_near : List Cond := .code y_Mod_near b_Mod_near 6 (some .int) :: nw_tbl
abbrev w_Mod_type : List Cond := .code y_Mod_type b_Mod_type 8 (some .int) :: nw_tbl
abbrev w_Mod_init : List Cond := .code y_Mod_init b_Mod_init 1 none :: nw_tbl
