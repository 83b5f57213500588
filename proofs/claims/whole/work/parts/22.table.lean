/-- the words of the tables that the methods need -/
def nx_names : List String := ["java/lang/RuntimeException", "java/lang/Exception"]
def nx_A1 : List Cond := Bundle.ownAtoms0 R_NW 60 "java/lang/IllegalArgumentException" nx_names
def nx_A2 : List Cond := Bundle.ownAtoms0 R_NW 71 "java/lang/IndexOutOfBoundsException" nx_names
def nx_dc : Cond → Bool
  | .declares _ => true
  | .castable .. => true
  | _ => false
def nx_aw : List Cond := (nx_A1 ++ nx_A2).filter (fun w => !nx_st w && !nx_dc w)
def nw_tbl : List Cond := [.methodLink R_NW 1 objectInit,
  .instanceMethod objectInit,
  .code objectInit ⟨#[0xb1]⟩ 1 none,
  .classLink R_NW 7 R_Row,
  .instantiable R_Row 2,
  .initialized R_Row,
  .instanceMethod y_Row_init,
  .code y_Row_init b_Row_init 1 none,
  .fieldLink R_NW 10 "NearWords" "input" "LNearWords$Row;",
  .fieldLink R_NW 16 "NearWords" "taken" "LNearWords$Row;",
  .classLink R_NW 19 R_WL,
  .instantiable R_WL 3,
  .initialized R_WL,
  .instanceMethod y_WL_init,
  .code y_WL_init b_WL_init 1 none,
  .fieldLink R_NW 22 "NearWords" "words" "LNearWords$WordList;",
  .classLink R_NW 26 R_Res,
  .instantiable R_Res 4,
  .initialized R_Res,
  .instanceMethod y_Res_init,
  .code y_Res_init b_Res_init 1 none,
  .fieldLink R_NW 29 "NearWords" "result" "LNearWords$Result;",
  .classLink R_NW 33 R_Pat,
  .instantiable R_Pat 4,
  .initialized R_Pat,
  .instanceMethod y_Pat_init,
  .code y_Pat_init b_Pat_init 1 none,
  .fieldLink R_NW 36 "NearWords" "pattern" "LNearWords$Pattern;",
  .classLink R_NW 40 R_Met,
  .instantiable R_Met 3,
  .initialized R_Met,
  .methodLink R_NW 42 y_Met_init,
  .instanceMethod y_Met_init,
  .code y_Met_init b_Met_init 2 none,
  .fieldLink R_NW 43 "NearWords" "meter" "LNearWords$Meter;",
  .classLink R_NW 47 R_Near,
  .instantiable R_Near 2,
  .initialized R_Near,
  .instanceMethod y_Near_init,
  .code y_Near_init b_Near_init 1 none,
  .fieldLink R_NW 50 "NearWords" "nearest" "LNearWords$Nearest;",
  .methodLink R_NW 54 y_NW_isTypable,
  .static y_NW_isTypable,
  .initialized R_NW,
  .code y_NW_isTypable b_NW_isTypable 4 (some .boolean),
  .classLink R_NW 58 "java/lang/IllegalArgumentException",
  .initialized "java/lang/IllegalArgumentException",
  .methodLink R_NW 61 y_Row_length,
  .instanceMethod y_Row_length,
  .selects R_Row y_Row_length y_Row_length,
  .code y_Row_length b_Row_length 1 (some .int),
  .methodLink R_NW 65 y_NW_bytesIn,
  .static y_NW_bytesIn,
  .code y_NW_bytesIn b_NW_bytesIn 4 (some .int),
  .classLink R_NW 69 "java/lang/IndexOutOfBoundsException",
  .initialized "java/lang/IndexOutOfBoundsException",
  .methodLink R_NW 72 y_NW_appendToInput,
  .instanceMethod y_NW_appendToInput,
  .selects R_NW y_NW_appendToInput y_NW_appendToInput,
  .code y_NW_appendToInput b_NW_appendToInput 5 none,
  .methodLink R_NW 76 y_NW_takeInput,
  .instanceMethod y_NW_takeInput,
  .selects R_NW y_NW_takeInput y_NW_takeInput,
  .code y_NW_takeInput b_NW_takeInput 2 (some (.object "NearWords$Row")),
  .methodLink R_NW 80 y_Row_isEmpty,
  .instanceMethod y_Row_isEmpty,
  .selects R_Row y_Row_isEmpty y_Row_isEmpty,
  .code y_Row_isEmpty b_Row_isEmpty 1 (some .boolean),
  .methodLink R_NW 84 y_WL_placeOf,
  .instanceMethod y_WL_placeOf,
  .selects R_WL y_WL_placeOf y_WL_placeOf,
  .code y_WL_placeOf b_WL_placeOf 4 (some .int),
  .methodLink R_NW 88 y_WL_isAt,
  .instanceMethod y_WL_isAt,
  .selects R_WL y_WL_isAt y_WL_isAt,
  .code y_WL_isAt b_WL_isAt 3 (some .boolean),
  .methodLink R_NW 92 y_WL_size,
  .instanceMethod y_WL_size,
  .selects R_WL y_WL_size y_WL_size,
  .code y_WL_size b_WL_size 1 (some .int),
  .methodLink R_NW 95 y_WL_hasRoomFor,
  .instanceMethod y_WL_hasRoomFor,
  .selects R_WL y_WL_hasRoomFor y_WL_hasRoomFor,
  .code y_WL_hasRoomFor b_WL_hasRoomFor 2 (some .boolean),
  .methodLink R_NW 99 y_WL_insertAt,
  .instanceMethod y_WL_insertAt,
  .selects R_WL y_WL_insertAt y_WL_insertAt,
  .code y_WL_insertAt b_WL_insertAt 6 none,
  .methodLink R_NW 103 y_WL_deleteAt,
  .instanceMethod y_WL_deleteAt,
  .selects R_WL y_WL_deleteAt y_WL_deleteAt,
  .code y_WL_deleteAt b_WL_deleteAt 5 none,
  .methodLink R_NW 107 y_Met_aimAt,
  .instanceMethod y_Met_aimAt,
  .selects R_Met y_Met_aimAt y_Met_aimAt,
  .code y_Met_aimAt b_Met_aimAt 3 none,
  .methodLink R_NW 111 y_Near_clear,
  .instanceMethod y_Near_clear,
  .selects R_Near y_Near_clear y_Near_clear,
  .code y_Near_clear b_Near_clear 1 none,
  .methodLink R_NW 114 y_WL_lengthOf,
  .instanceMethod y_WL_lengthOf,
  .selects R_WL y_WL_lengthOf y_WL_lengthOf,
  .code y_WL_lengthOf b_WL_lengthOf 2 (some .int),
  .methodLink R_NW 118 Lib.Math.min.name,
  .static Lib.Math.min.name,
  .initialized "java/lang/Math",
  .code Lib.Math.min.name Lib.Math.min.code 2 (some .int),
  .methodLink R_NW 124 y_Met_stepsTo,
  .instanceMethod y_Met_stepsTo,
  .selects R_Met y_Met_stepsTo y_Met_stepsTo,
  .code y_Met_stepsTo b_Met_stepsTo 8 (some .int),
  .methodLink R_NW 128 y_Near_note,
  .instanceMethod y_Near_note,
  .selects R_Near y_Near_note y_Near_note,
  .code y_Near_note b_Near_note 3 none,
  .methodLink R_NW 132 y_Near_moveTo,
  .instanceMethod y_Near_moveTo,
  .selects R_Near y_Near_moveTo y_Near_moveTo,
  .code y_Near_moveTo b_Near_moveTo 5 none,
  .methodLink R_NW 136 y_Res_size,
  .instanceMethod y_Res_size,
  .selects R_Res y_Res_size y_Res_size,
  .code y_Res_size b_Res_size 1 (some .int),
  .methodLink R_NW 137 y_Pat_read,
  .instanceMethod y_Pat_read,
  .selects R_Pat y_Pat_read y_Pat_read,
  .code y_Pat_read b_Pat_read 3 none,
  .methodLink R_NW 140 y_Res_clear,
  .instanceMethod y_Res_clear,
  .selects R_Res y_Res_clear y_Res_clear,
  .code y_Res_clear b_Res_clear 1 none,
  .methodLink R_NW 141 y_Pat_fits,
  .instanceMethod y_Pat_fits,
  .selects R_Pat y_Pat_fits y_Pat_fits,
  .code y_Pat_fits b_Pat_fits 9 (some .boolean),
  .methodLink R_NW 145 y_Res_keep,
  .instanceMethod y_Res_keep,
  .selects R_Res y_Res_keep y_Res_keep,
  .code y_Res_keep b_Res_keep 4 none,
  .methodLink R_NW 149 y_Res_has,
  .instanceMethod y_Res_has,
  .selects R_Res y_Res_has y_Res_has,
  .code y_Res_has b_Res_has 2 (some .boolean),
  .methodLink R_NW 153 y_Res_characterAt,
  .instanceMethod y_Res_characterAt,
  .selects R_Res y_Res_characterAt y_Res_characterAt,
  .code y_Res_characterAt b_Res_characterAt 3 (some .int),
  .methodLink R_NW 156 y_Res_stepsOf,
  .instanceMethod y_Res_stepsOf,
  .selects R_Res y_Res_stepsOf y_Res_stepsOf,
  .code y_Res_stepsOf b_Res_stepsOf 2 (some .int),
  .methodLink R_NW 159 y_WL_characters,
  .instanceMethod y_WL_characters,
  .selects R_WL y_WL_characters y_WL_characters,
  .code y_WL_characters b_WL_characters 1 (some .int),
  .methodLink R_NW 162 y_WL_longest,
  .instanceMethod y_WL_longest,
  .selects R_WL y_WL_longest y_WL_longest,
  .code y_WL_longest b_WL_longest 3 (some .int),
  .methodLink R_NW 165 y_Row_clear,
  .instanceMethod y_Row_clear,
  .selects R_Row y_Row_clear y_Row_clear,
  .code y_Row_clear b_Row_clear 1 none,
  .methodLink R_NW 166 y_NW_byteOf,
  .static y_NW_byteOf,
  .code y_NW_byteOf b_NW_byteOf 3 (some .int),
  .methodLink R_NW 170 y_Row_append,
  .instanceMethod y_Row_append,
  .selects R_Row y_Row_append y_Row_append,
  .code y_Row_append b_Row_append 2 none,
  .methodLink R_Mod 1 objectInit,
  .arrayClass .byte,
  .fieldLink R_Mod 7 "NearWordsModel" "input" "[B",
  .constant R_Mod 13 60000,
  .fieldLink R_Mod 14 "NearWordsModel" "word" "[B",
  .fieldLink R_Mod 17 "NearWordsModel" "result" "[B",
  .arrayClass .int,
  .fieldLink R_Mod 20 "NearWordsModel" "length" "[I",
  .fieldLink R_Mod 24 "NearWordsModel" "resultLength" "[I",
  .fieldLink R_Mod 27 "NearWordsModel" "resultDistance" "[I",
  .fieldLink R_Mod 30 "NearWordsModel" "chosen" "[I",
  .fieldLink R_Mod 33 "NearWordsModel" "far" "[I",
  .fieldLink R_Mod 36 "NearWordsModel" "step" "[I",
  .arrayClass .boolean,
  .fieldLink R_Mod 39 "NearWordsModel" "now" "[Z",
  .fieldLink R_Mod 43 "NearWordsModel" "next" "[Z",
  .fieldLink R_Mod 46 "NearWordsModel" "thrown" "I",
  .fieldLink R_Mod 50 "NearWordsModel" "inputSize" "I",
  .methodLink R_Mod 53 y_Mod_least,
  .static y_Mod_least,
  .initialized R_Mod,
  .code y_Mod_least b_Mod_least 2 (some .int),
  .fieldLink R_Mod 57 "NearWordsModel" "words" "I",
  .methodLink R_Mod 60 y_Mod_order,
  .instanceMethod y_Mod_order,
  .selects R_Mod y_Mod_order y_Mod_order,
  .code y_Mod_order b_Mod_order 5 (some .int),
  .methodLink R_Mod 63 y_Mod_take,
  .instanceMethod y_Mod_take,
  .selects R_Mod y_Mod_take y_Mod_take,
  .code y_Mod_take b_Mod_take 2 (some .int),
  .methodLink R_Mod 67 y_Mod_standing,
  .instanceMethod y_Mod_standing,
  .selects R_Mod y_Mod_standing y_Mod_standing,
  .code y_Mod_standing b_Mod_standing 4 (some .int),
  .fieldLink R_Mod 71 "NearWordsModel" "characters" "I",
  .methodLink R_Mod 74 y_Mod_shift,
  .instanceMethod y_Mod_shift,
  .selects R_Mod y_Mod_shift y_Mod_shift,
  .code y_Mod_shift b_Mod_shift 5 none,
  .methodLink R_Mod 78 y_Mod_steps,
  .instanceMethod y_Mod_steps,
  .selects R_Mod y_Mod_steps y_Mod_steps,
  .code y_Mod_steps b_Mod_steps 9 (some .int),
  .fieldLink R_Mod 81 "NearWordsModel" "results" "I",
  .methodLink R_Mod 84 y_Mod_keep,
  .instanceMethod y_Mod_keep,
  .selects R_Mod y_Mod_keep y_Mod_keep,
  .code y_Mod_keep b_Mod_keep 5 none,
  .methodLink R_Mod 87 y_Mod_fits,
  .instanceMethod y_Mod_fits,
  .selects R_Mod y_Mod_fits y_Mod_fits,
  .code y_Mod_fits b_Mod_fits 7 (some .boolean),
  .methodLink R_Met 3 objectInit,
  .arrayClass .long,
  .fieldLink R_Met 9 "NearWords$Meter" "placesOf" "[J",
  .fieldLink R_Met 17 "NearWords$Meter" "reach" "[[J",
  .fieldLink R_Met 20 "NearWords$Meter" "aimLength" "I",
  .methodLink R_Met 24 y_Met_lowBits,
  .static y_Met_lowBits,
  .code y_Met_lowBits b_Met_lowBits 1 (some .long),
  .methodLink R_Met 28 y_Arr_fillJ,
  .static y_Arr_fillJ,
  .initialized R_Arr,
  .code y_Arr_fillJ b_Arr_fillJ 5 none,
  .methodLink R_Met 34 y_Row_length,
  .methodLink R_Met 40 y_Row_at,
  .instanceMethod y_Row_at,
  .selects R_Row y_Row_at y_Row_at,
  .code y_Row_at b_Row_at 2 (some .int),
  .methodLink R_Met 44 y_WL_lengthOf,
  .methodLink R_Met 49 Lib.Math.abs.name,
  .static Lib.Math.abs.name,
  .code Lib.Math.abs.name Lib.Math.abs.code 1 (some .int),
  .methodLink R_Met 54 y_WL_at,
  .instanceMethod y_WL_at,
  .selects R_WL y_WL_at y_WL_at,
  .code y_WL_at b_WL_at 3 (some .int),
  .methodLink R_Met 57 y_Met_extend,
  .instanceMethod y_Met_extend,
  .selects R_Met y_Met_extend y_Met_extend,
  .code y_Met_extend b_Met_extend 20 none,
  .methodLink R_Met 61 y_Met_leastSteps,
  .instanceMethod y_Met_leastSteps,
  .selects R_Met y_Met_leastSteps y_Met_leastSteps,
  .code y_Met_leastSteps b_Met_leastSteps 4 (some .int),
  .methodLink R_Met 65 y_Met_swapped,
  .instanceMethod y_Met_swapped,
  .selects R_Met y_Met_swapped y_Met_swapped,
  .code y_Met_swapped b_Met_swapped 9 (some .long),
  .methodLink R_Near 3 objectInit,
  .fieldLink R_Near 9 "NearWords$Nearest" "steps" "[B",
  .fieldLink R_Near 15 "NearWords$Nearest" "withSteps" "[I",
  .methodLink R_Near 19 y_Arr_fillI,
  .static y_Arr_fillI,
  .code y_Arr_fillI b_Arr_fillI 4 none,
  .methodLink R_Near 25 y_Near_shareRoom,
  .instanceMethod y_Near_shareRoom,
  .selects R_Near y_Near_shareRoom y_Near_shareRoom,
  .code y_Near_shareRoom b_Near_shareRoom 3 none,
  .methodLink R_Near 28 y_Res_clear,
  .methodLink R_Near 33 y_WL_size,
  .methodLink R_Near 39 y_Res_keep,
  .methodLink R_Near 43 Lib.Math.min.name,
  .methodLink R_Pat 3 objectInit,
  .fieldLink R_Pat 9 "NearWords$Pattern" "placesOf" "[J",
  .fieldLink R_Pat 15 "NearWords$Pattern" "anyRow" "J",
  .fieldLink R_Pat 19 "NearWords$Pattern" "anyOne" "J",
  .fieldLink R_Pat 22 "NearWords$Pattern" "length" "I",
  .methodLink R_Pat 26 y_Arr_fillJ,
  .methodLink R_Pat 32 y_Row_length,
  .methodLink R_Pat 37 y_Row_at,
  .methodLink R_Pat 41 y_Pat_readPart,
  .instanceMethod y_Pat_readPart,
  .selects R_Pat y_Pat_readPart y_Pat_readPart,
  .code y_Pat_readPart b_Pat_readPart 4 none,
  .methodLink R_Pat 45 y_Pat_overAnyRow,
  .instanceMethod y_Pat_overAnyRow,
  .selects R_Pat y_Pat_overAnyRow y_Pat_overAnyRow,
  .code y_Pat_overAnyRow b_Pat_overAnyRow 3 (some .long),
  .methodLink R_Pat 49 y_WL_lengthOf,
  .methodLink R_Pat 54 y_WL_at,
  .methodLink R_Res 3 objectInit,
  .fieldLink R_Res 11 "NearWords$Result" "characters" "[[B",
  .fieldLink R_Res 16 "NearWords$Result" "lengths" "[I",
  .fieldLink R_Res 20 "NearWords$Result" "steps" "[I",
  .fieldLink R_Res 23 "NearWords$Result" "size" "I",
  .methodLink R_Res 27 y_WL_copyTo,
  .instanceMethod y_WL_copyTo,
  .selects R_WL y_WL_copyTo y_WL_copyTo,
  .code y_WL_copyTo b_WL_copyTo 3 none,
  .methodLink R_Res 33 y_WL_lengthOf,
  .methodLink R_Row 3 objectInit,
  .fieldLink R_Row 9 "NearWords$Row" "characters" "[B",
  .fieldLink R_Row 15 "NearWords$Row" "length" "I",
  .methodLink R_Row 19 arraycopyName,
  .native arraycopyName,
  .static arraycopyName,
  .initialized "java/lang/System",
  .methodLink R_WL 3 objectInit,
  .fieldLink R_WL 9 "NearWords$WordList" "characters" "[B",
  .fieldLink R_WL 15 "NearWords$WordList" "starts" "[I",
  .fieldLink R_WL 19 "NearWords$WordList" "size" "I",
  .methodLink R_WL 23 y_WL_lengthOf,
  .methodLink R_WL 27 Lib.Math.max.name,
  .static Lib.Math.max.name,
  .code Lib.Math.max.name Lib.Math.max.code 2 (some .int),
  .methodLink R_WL 33 y_WL_compare,
  .instanceMethod y_WL_compare,
  .selects R_WL y_WL_compare y_WL_compare,
  .code y_WL_compare b_WL_compare 6 (some .int),
  .methodLink R_WL 37 y_WL_characters,
  .methodLink R_WL 40 y_Row_length,
  .methodLink R_WL 45 arraycopyName,
  .methodLink R_WL 51 y_Row_copyTo,
  .instanceMethod y_Row_copyTo,
  .selects R_Row y_Row_copyTo y_Row_copyTo,
  .code y_Row_copyTo b_Row_copyTo 3 none,
  .methodLink R_WL 55 Lib.Math.min.name,
  .methodLink R_WL 58 y_WL_at,
  .methodLink R_WL 61 y_Row_at,
  .methodLink R_Law 7 y_NW_type,
  .instanceMethod y_NW_type,
  .selects R_NW y_NW_type y_NW_type,
  .code y_NW_type b_NW_type 5 (some .int),
  .methodLink R_Law 17 y_NW_add,
  .instanceMethod y_NW_add,
  .selects R_NW y_NW_add y_NW_add,
  .code y_NW_add b_NW_add 3 (some .int),
  .methodLink R_Law 21 y_NW_remove,
  .instanceMethod y_NW_remove,
  .selects R_NW y_NW_remove y_NW_remove,
  .code y_NW_remove b_NW_remove 3 (some .int),
  .methodLink R_Law 24 y_NW_near,
  .instanceMethod y_NW_near,
  .selects R_NW y_NW_near y_NW_near,
  .code y_NW_near b_NW_near 5 (some .int),
  .methodLink R_Law 28 y_NW_letter,
  .instanceMethod y_NW_letter,
  .selects R_NW y_NW_letter y_NW_letter,
  .code y_NW_letter b_NW_letter 3 (some .int),
  .methodLink R_Law 32 y_NW_distance,
  .instanceMethod y_NW_distance,
  .selects R_NW y_NW_distance y_NW_distance,
  .code y_NW_distance b_NW_distance 2 (some .int),
  .classLink R_Law 8 R_NW,
  .instantiable R_NW 7,
  .methodLink R_Law 35 y_NW_init,
  .instanceMethod y_NW_init,
  .code y_NW_init b_NW_init 1 none,
  .classLink R_Law 36 R_Mod,
  .instantiable R_Mod 16,
  .methodLink R_Law 38 y_Mod_init,
  .instanceMethod y_Mod_init,
  .code y_Mod_init b_Mod_init 1 none,
  .constantLong R_Law 39 4294967295,
  .methodLink R_Law 41 y_Law_type,
  .static y_Law_type,
  .initialized R_Law,
  .methodLink R_Law 46 y_Mod_type,
  .instanceMethod y_Mod_type,
  .selects R_Mod y_Mod_type y_Mod_type,
  .code y_Mod_type b_Mod_type 8 (some .int),
  .methodLink R_Law 47 y_Mod_thrown,
  .instanceMethod y_Mod_thrown,
  .selects R_Mod y_Mod_thrown y_Mod_thrown,
  .code y_Mod_thrown b_Mod_thrown 1 (some .int),
  .methodLink R_Law 50 y_Law_add,
  .static y_Law_add,
  .methodLink R_Law 53 y_Mod_add,
  .instanceMethod y_Mod_add,
  .selects R_Mod y_Mod_add y_Mod_add,
  .code y_Mod_add b_Mod_add 4 (some .int),
  .methodLink R_Law 54 y_Law_remove,
  .static y_Law_remove,
  .methodLink R_Law 56 y_Mod_remove,
  .instanceMethod y_Mod_remove,
  .selects R_Mod y_Mod_remove y_Mod_remove,
  .code y_Mod_remove b_Mod_remove 4 (some .int),
  .methodLink R_Law 57 y_Law_near,
  .static y_Law_near,
  .methodLink R_Law 60 y_Mod_near,
  .instanceMethod y_Mod_near,
  .selects R_Mod y_Mod_near y_Mod_near,
  .code y_Mod_near b_Mod_near 6 (some .int),
  .methodLink R_Law 61 y_NW_like,
  .instanceMethod y_NW_like,
  .selects R_NW y_NW_like y_NW_like,
  .code y_NW_like b_NW_like 3 (some .int),
  .methodLink R_Law 64 y_Mod_like,
  .instanceMethod y_Mod_like,
  .selects R_Mod y_Mod_like y_Mod_like,
  .code y_Mod_like b_Mod_like 4 (some .int),
  .methodLink R_Law 65 y_NW_before,
  .instanceMethod y_NW_before,
  .selects R_NW y_NW_before y_NW_before,
  .code y_NW_before b_NW_before 1 (some .int),
  .methodLink R_Law 68 y_Mod_before,
  .instanceMethod y_Mod_before,
  .selects R_Mod y_Mod_before y_Mod_before,
  .code y_Mod_before b_Mod_before 1 (some .int),
  .methodLink R_Law 69 y_Law_letter,
  .static y_Law_letter,
  .methodLink R_Law 72 y_Mod_letter,
  .instanceMethod y_Mod_letter,
  .selects R_Mod y_Mod_letter y_Mod_letter,
  .code y_Mod_letter b_Mod_letter 3 (some .int),
  .methodLink R_Law 73 y_Law_distance,
  .static y_Law_distance,
  .methodLink R_Law 75 y_Mod_distance,
  .instanceMethod y_Mod_distance,
  .selects R_Mod y_Mod_distance y_Mod_distance,
  .code y_Mod_distance b_Mod_distance 2 (some .int),
  .methodLink R_Law 76 y_NW_count,
  .instanceMethod y_NW_count,
  .selects R_NW y_NW_count y_NW_count,
  .code y_NW_count b_NW_count 2 (some .int),
  .methodLink R_Law 79 y_Mod_count,
  .instanceMethod y_Mod_count,
  .selects R_Mod y_Mod_count y_Mod_count,
  .code y_Mod_count b_Mod_count 4 (some .int),
  .classLink R_Res 9 "[[B",
  .classLink R_Met 15 "[[J",
  .classLink R_Law 13 "java/lang/IllegalArgumentException",
  .classLink R_Law 15 "java/lang/IndexOutOfBoundsException",
  .lays R_NW "NearWords" "input" "LNearWords$Row;",
  .lays R_NW "NearWords" "taken" "LNearWords$Row;",
  .laysFinal R_NW "NearWords" "words" "LNearWords$WordList;",
  .laysFinal R_NW "NearWords" "result" "LNearWords$Result;",
  .laysFinal R_NW "NearWords" "pattern" "LNearWords$Pattern;",
  .laysFinal R_NW "NearWords" "meter" "LNearWords$Meter;",
  .laysFinal R_NW "NearWords" "nearest" "LNearWords$Nearest;",
  .laysFinal R_Mod "NearWordsModel" "input" "[B",
  .laysFinal R_Mod "NearWordsModel" "word" "[B",
  .laysFinal R_Mod "NearWordsModel" "result" "[B",
  .laysFinal R_Mod "NearWordsModel" "length" "[I",
  .laysFinal R_Mod "NearWordsModel" "resultLength" "[I",
  .laysFinal R_Mod "NearWordsModel" "resultDistance" "[I",
  .laysFinal R_Mod "NearWordsModel" "chosen" "[I",
  .laysFinal R_Mod "NearWordsModel" "far" "[I",
  .laysFinal R_Mod "NearWordsModel" "step" "[I",
  .laysFinal R_Mod "NearWordsModel" "now" "[Z",
  .laysFinal R_Mod "NearWordsModel" "next" "[Z",
  .lays R_Mod "NearWordsModel" "inputSize" "I",
  .lays R_Mod "NearWordsModel" "words" "I",
  .lays R_Mod "NearWordsModel" "characters" "I",
  .lays R_Mod "NearWordsModel" "results" "I",
  .lays R_Mod "NearWordsModel" "thrown" "I",
  .laysFinal R_Met "NearWords$Meter" "placesOf" "[J",
  .laysFinal R_Met "NearWords$Meter" "reach" "[[J",
  .lays R_Met "NearWords$Meter" "aimLength" "I",
  .laysFinal R_Near "NearWords$Nearest" "steps" "[B",
  .laysFinal R_Near "NearWords$Nearest" "withSteps" "[I",
  .laysFinal R_Pat "NearWords$Pattern" "placesOf" "[J",
  .lays R_Pat "NearWords$Pattern" "anyRow" "J",
  .lays R_Pat "NearWords$Pattern" "anyOne" "J",
  .lays R_Pat "NearWords$Pattern" "length" "I",
  .laysFinal R_Res "NearWords$Result" "characters" "[[B",
  .laysFinal R_Res "NearWords$Result" "lengths" "[I",
  .laysFinal R_Res "NearWords$Result" "steps" "[I",
  .lays R_Res "NearWords$Result" "size" "I",
  .laysFinal R_Row "NearWords$Row" "characters" "[B",
  .lays R_Row "NearWords$Row" "length" "I",
  .laysFinal R_WL "NearWords$WordList" "characters" "[B",
  .laysFinal R_WL "NearWords$WordList" "starts" "[I",
  .lays R_WL "NearWords$WordList" "size" "I"] ++ nx_aw
theorem nx_mem {w : Cond} (h : w ∈ nx_A1 ++ nx_A2) (hs : nx_st w = false) (hd : nx_dc w = false) : w ∈ nw_tbl := List.mem_append_right _ (List.mem_filter.mpr ⟨h, by rw [hs, hd]; rfl⟩)
theorem nw_m {w : Cond} (k : Nat) (h : nw_tbl[k]? = some w) : w ∈ nw_tbl := List.mem_of_getElem? h
theorem nw_mc {x w : Cond} (k : Nat) (h : nw_tbl[k]? = some w) : w ∈ x :: nw_tbl := List.mem_cons_of_mem _ (List.mem_of_getElem? h)
theorem nw_tbl_good : nw_tbl.all goodWord = true := by decide +kernel
theorem nw_good {w : Cond} (h : w ∈ nw_tbl) : (w.onTables && w.keeps) = true ∨ ∃ ty, w = .arrayClass ty := good_of_word (List.all_eq_true.mp nw_tbl_good w h)
theorem nw_GI {x y : Cond} (h : y ∈ nw_tbl) : GoodIn (x :: nw_tbl) (y :: nw_tbl) := fun w hw => by
  rcases List.mem_cons.mp hw with e | e
  · rw [e]; exact ⟨List.mem_cons_of_mem _ h, nw_good h⟩
  · exact ⟨List.mem_cons_of_mem _ e, nw_good e⟩
theorem nw_GV {x : Cond} {own C : String} {idx : Nat} {y : MethodName} {yc : Cond} (h1 : Cond.methodLink own idx y ∈ nw_tbl) (h2 : Cond.instanceMethod y ∈ nw_tbl) (h3 : Cond.selects C y y ∈ nw_tbl) (h4 : Cond.initialized C ∈ nw_tbl) (h : yc ∈ nw_tbl) : GoodIn (x :: nw_tbl) (wsV own idx C y (yc :: nw_tbl)) := fun w hw => by
  rcases List.mem_append.mp hw with e | e
  · have h9 : w ∈ nw_tbl := by
      simp only [List.mem_cons, List.not_mem_nil, or_false] at e
      rcases e with e | e | e | e <;> rw [e] <;> assumption
    exact ⟨List.mem_cons_of_mem _ h9, nw_good h9⟩
  · exact nw_GI h w e
theorem nw_GS {x : Cond} {own : String} {idx : Nat} {y : MethodName} {yc : Cond} (h1 : Cond.methodLink own idx y ∈ nw_tbl) (h2 : Cond.static y ∈ nw_tbl) (h4 : Cond.initialized own ∈ nw_tbl) (h : yc ∈ nw_tbl) : GoodIn (x :: nw_tbl) (wsS own idx y (yc :: nw_tbl)) := fun w hw => by
  rcases List.mem_append.mp hw with e | e
  · have h9 : w ∈ nw_tbl := by
      simp only [List.mem_cons, List.not_mem_nil, or_false] at e
      rcases e with e | e | e <;> rw [e] <;> assumption
    exact ⟨List.mem_cons_of_mem _ h9, nw_good h9⟩
  · exact nw_GI h w e
theorem nw_GT {x : Cond} {own : String} {idx : Nat} {y : MethodName} {yc : Cond} (h1 : Cond.methodLink own idx y ∈ nw_tbl) (h2 : Cond.static y ∈ nw_tbl) (h4 : Cond.initialized y.cls ∈ nw_tbl) (h : yc ∈ nw_tbl) : GoodIn (x :: nw_tbl) (va_wsS own idx y (yc :: nw_tbl)) := fun w hw => by
  rcases List.mem_append.mp hw with e | e
  · have h9 : w ∈ nw_tbl := by
      simp only [List.mem_cons, List.not_mem_nil, or_false] at e
      rcases e with e | e | e <;> rw [e] <;> assumption
    exact ⟨List.mem_cons_of_mem _ h9, nw_good h9⟩
  · exact nw_GI h w e
theorem hin_NW0 : ∀ w ∈ u_ws R_NW F_NW 7, w ∈ nw_tbl := by decide +kernel
theorem hin_NW {x : Cond} : ∀ w ∈ u_ws R_NW F_NW 7, w ∈ x :: nw_tbl := fun w h => List.mem_cons_of_mem _ (hin_NW0 w h)
theorem hin_Mod0 : ∀ w ∈ u_ws R_Mod F_Mod 16, w ∈ nw_tbl := by decide +kernel
theorem hin_Mod {x : Cond} : ∀ w ∈ u_ws R_Mod F_Mod 16, w ∈ x :: nw_tbl := fun w h => List.mem_cons_of_mem _ (hin_Mod0 w h)
theorem hin_Met0 : ∀ w ∈ u_ws R_Met F_Met 3, w ∈ nw_tbl := by decide +kernel
theorem hin_Met {x : Cond} : ∀ w ∈ u_ws R_Met F_Met 3, w ∈ x :: nw_tbl := fun w h => List.mem_cons_of_mem _ (hin_Met0 w h)
theorem hin_Near0 : ∀ w ∈ u_ws R_Near F_Near 2, w ∈ nw_tbl := by decide +kernel
theorem hin_Near {x : Cond} : ∀ w ∈ u_ws R_Near F_Near 2, w ∈ x :: nw_tbl := fun w h => List.mem_cons_of_mem _ (hin_Near0 w h)
theorem hin_Pat0 : ∀ w ∈ u_ws R_Pat F_Pat 4, w ∈ nw_tbl := by decide +kernel
theorem hin_Pat {x : Cond} : ∀ w ∈ u_ws R_Pat F_Pat 4, w ∈ x :: nw_tbl := fun w h => List.mem_cons_of_mem _ (hin_Pat0 w h)
theorem hin_Res0 : ∀ w ∈ u_ws R_Res F_Res 4, w ∈ nw_tbl := by decide +kernel
theorem hin_Res {x : Cond} : ∀ w ∈ u_ws R_Res F_Res 4, w ∈ x :: nw_tbl := fun w h => List.mem_cons_of_mem _ (hin_Res0 w h)
theorem hin_Row0 : ∀ w ∈ u_ws R_Row F_Row 2, w ∈ nw_tbl := by decide +kernel
theorem hin_Row {x : Cond} : ∀ w ∈ u_ws R_Row F_Row 2, w ∈ x :: nw_tbl := fun w h => List.mem_cons_of_mem _ (hin_Row0 w h)
theorem hin_WL0 : ∀ w ∈ u_ws R_WL F_WL 3, w ∈ nw_tbl := by decide +kernel
theorem hin_WL {x : Cond} : ∀ w ∈ u_ws R_WL F_WL 3, w ∈ x :: nw_tbl := fun w h => List.mem_cons_of_mem _ (hin_WL0 w h)
abbrev w_NW_init : List Cond := .code y_NW_init b_NW_init 1 none :: nw_tbl
abbrev w_NW_type : List Cond := .code y_NW_type b_NW_type 5 (some .int) :: nw_tbl
abbrev w_NW_add : List Cond := .code y_NW_add b_NW_add 3 (some .int) :: nw_tbl
abbrev w_NW_remove : List Cond := .code y_NW_remove b_NW_remove 3 (some .int) :: nw_tbl
abbrev w_NW_near : List Cond := .code y_NW_near b_NW_near 5 (some .int) :: nw_tbl
abbrev w_NW_like : List Cond := .code y_NW_like b_NW_like 3 (some .int) :: nw_tbl
abbrev w_NW_before : List Cond := .code y_NW_before b_NW_before 1 (some .int) :: nw_tbl
abbrev w_NW_letter : List Cond := .code y_NW_letter b_NW_letter 3 (some .int) :: nw_tbl
abbrev w_NW_distance : List Cond := .code y_NW_distance b_NW_distance 2 (some .int) :: nw_tbl
abbrev w_NW_count : List Cond := .code y_NW_count b_NW_count 2 (some .int) :: nw_tbl
abbrev w_NW_takeInput : List Cond := .code y_NW_takeInput b_NW_takeInput 2 (some (.object "NearWords$Row")) :: nw_tbl
abbrev w_NW_appendToInput : List Cond := .code y_NW_appendToInput b_NW_appendToInput 5 none :: nw_tbl
abbrev w_NW_isTypable : List Cond := .code y_NW_isTypable b_NW_isTypable 4 (some .boolean) :: nw_tbl
abbrev w_NW_bytesIn : List Cond := .code y_NW_bytesIn b_NW_bytesIn 4 (some .int) :: nw_tbl
abbrev w_NW_byteOf : List Cond := .code y_NW_byteOf b_NW_byteOf 3 (some .int) :: nw_tbl
abbrev w_Mod_init : List Cond := .code y_Mod_init b_Mod_init 1 none :: nw_tbl
abbrev w_Mod_thrown : List Cond := .code y_Mod_thrown b_Mod_thrown 1 (some .int) :: nw_tbl
abbrev w_Mod_type : List Cond := .code y_Mod_type b_Mod_type 8 (some .int) :: nw_tbl
abbrev w_Mod_least : List Cond := .code y_Mod_least b_Mod_least 2 (some .int) :: nw_tbl
abbrev w_Mod_take : List Cond := .code y_Mod_take b_Mod_take 2 (some .int) :: nw_tbl
abbrev w_Mod_order : List Cond := .code y_Mod_order b_Mod_order 5 (some .int) :: nw_tbl
abbrev w_Mod_standing : List Cond := .code y_Mod_standing b_Mod_standing 4 (some .int) :: nw_tbl
abbrev w_Mod_shift : List Cond := .code y_Mod_shift b_Mod_shift 5 none :: nw_tbl
abbrev w_Mod_add : List Cond := .code y_Mod_add b_Mod_add 4 (some .int) :: nw_tbl
abbrev w_Mod_remove : List Cond := .code y_Mod_remove b_Mod_remove 4 (some .int) :: nw_tbl
abbrev w_Mod_steps : List Cond := .code y_Mod_steps b_Mod_steps 9 (some .int) :: nw_tbl
abbrev w_Mod_keep : List Cond := .code y_Mod_keep b_Mod_keep 5 none :: nw_tbl
abbrev w_Mod_near : List Cond := .code y_Mod_near b_Mod_near 6 (some .int) :: nw_tbl
abbrev w_Mod_fits : List Cond := .code y_Mod_fits b_Mod_fits 7 (some .boolean) :: nw_tbl
abbrev w_Mod_like : List Cond := .code y_Mod_like b_Mod_like 4 (some .int) :: nw_tbl
abbrev w_Mod_before : List Cond := .code y_Mod_before b_Mod_before 1 (some .int) :: nw_tbl
abbrev w_Mod_letter : List Cond := .code y_Mod_letter b_Mod_letter 3 (some .int) :: nw_tbl
abbrev w_Mod_distance : List Cond := .code y_Mod_distance b_Mod_distance 2 (some .int) :: nw_tbl
abbrev w_Mod_count : List Cond := .code y_Mod_count b_Mod_count 4 (some .int) :: nw_tbl
abbrev w_Met_init : List Cond := .code y_Met_init b_Met_init 2 none :: nw_tbl
abbrev w_Met_aimAt : List Cond := .code y_Met_aimAt b_Met_aimAt 3 none :: nw_tbl
abbrev w_Met_stepsTo : List Cond := .code y_Met_stepsTo b_Met_stepsTo 8 (some .int) :: nw_tbl
abbrev w_Met_extend : List Cond := .code y_Met_extend b_Met_extend 20 none :: nw_tbl
abbrev w_Met_swapped : List Cond := .code y_Met_swapped b_Met_swapped 9 (some .long) :: nw_tbl
abbrev w_Met_leastSteps : List Cond := .code y_Met_leastSteps b_Met_leastSteps 4 (some .int) :: nw_tbl
abbrev w_Met_lowBits : List Cond := .code y_Met_lowBits b_Met_lowBits 1 (some .long) :: nw_tbl
abbrev w_Near_init : List Cond := .code y_Near_init b_Near_init 1 none :: nw_tbl
abbrev w_Near_clear : List Cond := .code y_Near_clear b_Near_clear 1 none :: nw_tbl
abbrev w_Near_note : List Cond := .code y_Near_note b_Near_note 3 none :: nw_tbl
abbrev w_Near_moveTo : List Cond := .code y_Near_moveTo b_Near_moveTo 5 none :: nw_tbl
abbrev w_Near_shareRoom : List Cond := .code y_Near_shareRoom b_Near_shareRoom 3 none :: nw_tbl
abbrev w_Pat_init : List Cond := .code y_Pat_init b_Pat_init 1 none :: nw_tbl
abbrev w_Pat_read : List Cond := .code y_Pat_read b_Pat_read 3 none :: nw_tbl
abbrev w_Pat_fits : List Cond := .code y_Pat_fits b_Pat_fits 9 (some .boolean) :: nw_tbl
abbrev w_Pat_readPart : List Cond := .code y_Pat_readPart b_Pat_readPart 4 none :: nw_tbl
abbrev w_Pat_overAnyRow : List Cond := .code y_Pat_overAnyRow b_Pat_overAnyRow 3 (some .long) :: nw_tbl
abbrev w_Res_init : List Cond := .code y_Res_init b_Res_init 1 none :: nw_tbl
abbrev w_Res_size : List Cond := .code y_Res_size b_Res_size 1 (some .int) :: nw_tbl
abbrev w_Res_has : List Cond := .code y_Res_has b_Res_has 2 (some .boolean) :: nw_tbl
abbrev w_Res_characterAt : List Cond := .code y_Res_characterAt b_Res_characterAt 3 (some .int) :: nw_tbl
abbrev w_Res_stepsOf : List Cond := .code y_Res_stepsOf b_Res_stepsOf 2 (some .int) :: nw_tbl
abbrev w_Res_clear : List Cond := .code y_Res_clear b_Res_clear 1 none :: nw_tbl
abbrev w_Res_keep : List Cond := .code y_Res_keep b_Res_keep 4 none :: nw_tbl
abbrev w_Row_init : List Cond := .code y_Row_init b_Row_init 1 none :: nw_tbl
abbrev w_Row_length : List Cond := .code y_Row_length b_Row_length 1 (some .int) :: nw_tbl
abbrev w_Row_isEmpty : List Cond := .code y_Row_isEmpty b_Row_isEmpty 1 (some .boolean) :: nw_tbl
abbrev w_Row_at : List Cond := .code y_Row_at b_Row_at 2 (some .int) :: nw_tbl
abbrev w_Row_clear : List Cond := .code y_Row_clear b_Row_clear 1 none :: nw_tbl
abbrev w_Row_append : List Cond := .code y_Row_append b_Row_append 2 none :: nw_tbl
abbrev w_Row_copyTo : List Cond := .code y_Row_copyTo b_Row_copyTo 3 none :: nw_tbl
abbrev w_WL_init : List Cond := .code y_WL_init b_WL_init 1 none :: nw_tbl
abbrev w_WL_size : List Cond := .code y_WL_size b_WL_size 1 (some .int) :: nw_tbl
abbrev w_WL_characters : List Cond := .code y_WL_characters b_WL_characters 1 (some .int) :: nw_tbl
abbrev w_WL_lengthOf : List Cond := .code y_WL_lengthOf b_WL_lengthOf 2 (some .int) :: nw_tbl
abbrev w_WL_at : List Cond := .code y_WL_at b_WL_at 3 (some .int) :: nw_tbl
abbrev w_WL_longest : List Cond := .code y_WL_longest b_WL_longest 3 (some .int) :: nw_tbl
abbrev w_WL_placeOf : List Cond := .code y_WL_placeOf b_WL_placeOf 4 (some .int) :: nw_tbl
abbrev w_WL_isAt : List Cond := .code y_WL_isAt b_WL_isAt 3 (some .boolean) :: nw_tbl
abbrev w_WL_hasRoomFor : List Cond := .code y_WL_hasRoomFor b_WL_hasRoomFor 2 (some .boolean) :: nw_tbl
abbrev w_WL_insertAt : List Cond := .code y_WL_insertAt b_WL_insertAt 6 none :: nw_tbl
abbrev w_WL_deleteAt : List Cond := .code y_WL_deleteAt b_WL_deleteAt 5 none :: nw_tbl
abbrev w_WL_copyTo : List Cond := .code y_WL_copyTo b_WL_copyTo 3 none :: nw_tbl
abbrev w_WL_compare : List Cond := .code y_WL_compare b_WL_compare 6 (some .int) :: nw_tbl
abbrev w_Arr_fillI : List Cond := .code y_Arr_fillI b_Arr_fillI 4 none :: nw_tbl
abbrev w_Arr_fillJ : List Cond := .code y_Arr_fillJ b_Arr_fillJ 5 none :: nw_tbl
