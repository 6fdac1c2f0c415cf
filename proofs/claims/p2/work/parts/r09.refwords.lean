theorem rf_gr {big : List Cond} (ws : List Cond) (ps : List Nat) (hp : ps.filterMap (fun i => big[i]?) = ws) (h : ws.all goodWord = true) : GoodIn big ws := by
  intro w hw
  have h1 := List.all_eq_true.mp h w hw
  rw [← hp] at hw
  obtain ⟨i, -, hi⟩ := List.mem_filterMap.mp hw
  exact ⟨List.mem_of_getElem? hi, good_of_word h1⟩
def rf_bw : List Cond := wsX120 ++ (js_bw ++ [Cond.initialized RX12, Cond.instantiable RX12 83,
  Cond.methodLink RX12 1 objectInit,
  Cond.instanceMethod objectInit,
  Cond.code objectInit ⟨#[0xb1]⟩ 1 none,
  Cond.classLink RX12 7 RJ0,
  Cond.arrayClass .int,
  Cond.fieldLink RX12 27 "PureHouseModel" "words" "[Ljava/lang/String;",
  Cond.fieldLink RX12 33 "PureHouseModel" "tape" "[I",
  Cond.fieldLink RX12 37 "PureHouseModel" "text" "[I",
  Cond.fieldLink RX12 40 "PureHouseModel" "faultPlace" "I",
  Cond.fieldLink RX12 44 "PureHouseModel" "sortName" "[I",
  Cond.fieldLink RX12 47 "PureHouseModel" "sortLong" "[I",
  Cond.fieldLink RX12 50 "PureHouseModel" "axiom" "[I",
  Cond.fieldLink RX12 52 "PureHouseModel" "rule" "[I",
  Cond.fieldLink RX12 54 "PureHouseModel" "knownName" "[I",
  Cond.fieldLink RX12 57 "PureHouseModel" "knownLong" "[I",
  Cond.fieldLink RX12 60 "PureHouseModel" "knownType" "[I",
  Cond.fieldLink RX12 63 "PureHouseModel" "knownSort" "[I",
  Cond.fieldLink RX12 66 "PureHouseModel" "knownValue" "[I",
  Cond.fieldLink RX12 69 "PureHouseModel" "knownNodes" "[I",
  Cond.fieldLink RX12 72 "PureHouseModel" "marks" "[I",
  Cond.fieldLink RX12 76 "PureHouseModel" "kind" "[I",
  Cond.fieldLink RX12 79 "PureHouseModel" "one" "[I",
  Cond.fieldLink RX12 82 "PureHouseModel" "two" "[I",
  Cond.fieldLink RX12 85 "PureHouseModel" "three" "[I",
  Cond.fieldLink RX12 88 "PureHouseModel" "place" "[I",
  Cond.fieldLink RX12 91 "PureHouseModel" "signAt" "[I",
  Cond.fieldLink RX12 94 "PureHouseModel" "keepA" "[I",
  Cond.fieldLink RX12 97 "PureHouseModel" "keepB" "[I",
  Cond.fieldLink RX12 100 "PureHouseModel" "binder" "[I",
  Cond.fieldLink RX12 103 "PureHouseModel" "boundType" "[I",
  Cond.fieldLink RX12 106 "PureHouseModel" "boundSort" "[I",
  Cond.fieldLink RX12 109 "PureHouseModel" "scope" "[I",
  Cond.fieldLink RX12 113 "PureHouseModel" "up" "[I",
  Cond.fieldLink RX12 116 "PureHouseModel" "binds" "[I",
  Cond.fieldLink RX12 119 "PureHouseModel" "term" "[I",
  Cond.fieldLink RX12 122 "PureHouseModel" "under" "[I",
  Cond.fieldLink RX12 125 "PureHouseModel" "cells" "I",
  Cond.fieldLink RX12 128 "PureHouseModel" "waitTerm" "[I",
  Cond.fieldLink RX12 131 "PureHouseModel" "waitCell" "[I",
  Cond.fieldLink RX12 134 "PureHouseModel" "chain" "[I",
  Cond.fieldLink RX12 137 "PureHouseModel" "limit" "I",
  Cond.fieldLink RX12 140 "PureHouseModel" "out" "[I",
  Cond.fieldLink RX12 147 "PureHouseModel" "code" "I",
  Cond.fieldLink RX12 150 "PureHouseModel" "bad" "I",
  Cond.fieldLink RX12 153 "PureHouseModel" "badPlace" "I",
  Cond.fieldLink RX12 160 "PureHouseModel" "sorts" "I",
  Cond.fieldLink RX12 167 "PureHouseModel" "known" "I",
  Cond.fieldLink RX12 170 "PureHouseModel" "marked" "I",
  Cond.fieldLink RX12 173 "PureHouseModel" "nodes" "I",
  Cond.fieldLink RX12 183 "PureHouseModel" "taped" "I",
  Cond.fieldLink RX12 186 "PureHouseModel" "size" "I",
  Cond.fieldLink RX12 193 "PureHouseModel" "at" "I",
  Cond.fieldLink RX12 200 "PureHouseModel" "begins" "I",
  Cond.fieldLink RX12 203 "PureHouseModel" "token" "I",
  Cond.fieldLink RX12 206 "PureHouseModel" "word" "I",
  Cond.fieldLink RX12 212 "PureHouseModel" "ends" "I",
  Cond.fieldLink RX12 225 "PureHouseModel" "sign" "I",
  Cond.fieldLink RX12 237 "PureHouseModel" "builds" "Z",
  Cond.fieldLink RX12 275 "PureHouseModel" "stPlace" "I",
  Cond.fieldLink RX12 278 "PureHouseModel" "stWord" "I",
  Cond.fieldLink RX12 281 "PureHouseModel" "stTerm" "I",
  Cond.fieldLink RX12 284 "PureHouseModel" "stOther" "I",
  Cond.fieldLink RX12 290 "PureHouseModel" "stX" "I",
  Cond.fieldLink RX12 293 "PureHouseModel" "stY" "I",
  Cond.fieldLink RX12 296 "PureHouseModel" "stZ" "I",
  Cond.fieldLink RX12 302 "PureHouseModel" "work" "I",
  Cond.fieldLink RX12 305 "PureHouseModel" "life" "I",
  Cond.fieldLink RX12 312 "PureHouseModel" "looks" "I",
  Cond.fieldLink RX12 315 "PureHouseModel" "isFound" "Z",
  Cond.fieldLink RX12 318 "PureHouseModel" "foundTerm" "I",
  Cond.fieldLink RX12 321 "PureHouseModel" "foundCell" "I",
  Cond.fieldLink RX12 324 "PureHouseModel" "waits" "I",
  Cond.fieldLink RX12 327 "PureHouseModel" "stepsP" "I",
  Cond.fieldLink RX12 333 "PureHouseModel" "stepsV" "I",
  Cond.fieldLink RX12 336 "PureHouseModel" "stepsD" "I",
  Cond.fieldLink RX12 339 "PureHouseModel" "stepsB" "I",
  Cond.fieldLink RX12 345 "PureHouseModel" "stepsZ" "I",
  Cond.fieldLink RX12 348 "PureHouseModel" "headTerm" "I",
  Cond.fieldLink RX12 351 "PureHouseModel" "headCell" "I",
  Cond.fieldLink RX12 371 "PureHouseModel" "fresh" "I",
  Cond.fieldLink RX12 378 "PureHouseModel" "outs" "I",
  Cond.fieldLink RX12 403 "PureHouseModel" "typeTerm" "I",
  Cond.fieldLink RX12 406 "PureHouseModel" "typeSort" "I",
  Cond.fieldLink RX12 409 "PureHouseModel" "scopes" "I",
  Cond.fieldLink RX12 443 "PureHouseModel" "chained" "I",
  Cond.fieldLink RX12 449 "PureHouseModel" "firstNode" "I",
  Cond.fieldLink RX12 471 "PureHouseModel" "done" "I",
  Cond.fieldLink RX12 486 "PureHouseModel" "fault" "I",
  Cond.constant RX12 75 140000,
  Cond.constant RX12 112 80000,
  Cond.constant RX12 308 60000,
  Cond.constant RX12 370 (-200000),
  Cond.constant RX12 391 (-1000000),
  Cond.methodLink RX12 143 yX12_table,
  Cond.instanceMethod yX12_table,
  Cond.selects RX12 yX12_table yX12_table,
  Cond.code yX12_table cX12_table 4 none,
  Cond.methodLink RX12 178 yX12_newSort,
  Cond.instanceMethod yX12_newSort,
  Cond.selects RX12 yX12_newSort yX12_newSort,
  Cond.code yX12_newSort cX12_newSort 3 (some .int),
  Cond.methodLink RX12 189 yX12_isLetter,
  Cond.static yX12_isLetter,
  Cond.code yX12_isLetter cX12_isLetter 1 (some .boolean),
  Cond.methodLink RX12 196 yX12_byteAt,
  Cond.instanceMethod yX12_byteAt,
  Cond.selects RX12 yX12_byteAt yX12_byteAt,
  Cond.code yX12_byteAt cX12_byteAt 2 (some .int),
  Cond.methodLink RX12 209 yX12_goesOn,
  Cond.static yX12_goesOn,
  Cond.code yX12_goesOn cX12_goesOn 1 (some .boolean),
  Cond.methodLink RX12 215 yX12_isWord,
  Cond.instanceMethod yX12_isWord,
  Cond.selects RX12 yX12_isWord yX12_isWord,
  Cond.code yX12_isWord cX12_isWord 4 (some .boolean),
  Cond.methodLink RX12 218 yX12_wrong,
  Cond.instanceMethod yX12_wrong,
  Cond.selects RX12 yX12_wrong yX12_wrong,
  Cond.code yX12_wrong cX12_wrong 3 none,
  Cond.methodLink RX12 222 yX12_readSign,
  Cond.instanceMethod yX12_readSign,
  Cond.selects RX12 yX12_readSign yX12_readSign,
  Cond.code yX12_readSign cX12_readSign 2 none,
  Cond.methodLink RX12 228 yX12_isSign,
  Cond.instanceMethod yX12_isSign,
  Cond.selects RX12 yX12_isSign yX12_isSign,
  Cond.code yX12_isSign cX12_isSign 2 (some .boolean),
  Cond.methodLink RX12 231 yX12_next,
  Cond.instanceMethod yX12_next,
  Cond.selects RX12 yX12_next yX12_next,
  Cond.code yX12_next cX12_next 4 none,
  Cond.methodLink RX12 234 yX12_cant,
  Cond.instanceMethod yX12_cant,
  Cond.selects RX12 yX12_cant yX12_cant,
  Cond.code yX12_cant cX12_cant 1 none,
  Cond.methodLink RX12 241 yX12_node,
  Cond.instanceMethod yX12_node,
  Cond.selects RX12 yX12_node yX12_node,
  Cond.code yX12_node cX12_node 6 (some .int),
  Cond.methodLink RX12 245 yX12_isName,
  Cond.instanceMethod yX12_isName,
  Cond.selects RX12 yX12_isName yX12_isName,
  Cond.code yX12_isName cX12_isName 1 (some .boolean),
  Cond.methodLink RX12 249 yX12_nameNode,
  Cond.instanceMethod yX12_nameNode,
  Cond.selects RX12 yX12_nameNode yX12_nameNode,
  Cond.code yX12_nameNode cX12_nameNode 2 (some .int),
  Cond.methodLink RX12 252 yX12_need,
  Cond.instanceMethod yX12_need,
  Cond.selects RX12 yX12_need yX12_need,
  Cond.code yX12_need cX12_need 2 none,
  Cond.methodLink RX12 255 yX12_readTerm,
  Cond.instanceMethod yX12_readTerm,
  Cond.selects RX12 yX12_readTerm yX12_readTerm,
  Cond.code yX12_readTerm cX12_readTerm 7 (some .int),
  Cond.methodLink RX12 258 yX12_parts,
  Cond.instanceMethod yX12_parts,
  Cond.selects RX12 yX12_parts yX12_parts,
  Cond.code yX12_parts cX12_parts 5 (some .int),
  Cond.methodLink RX12 262 yX12_needWord,
  Cond.instanceMethod yX12_needWord,
  Cond.selects RX12 yX12_needWord yX12_needWord,
  Cond.code yX12_needWord cX12_needWord 2 none,
  Cond.methodLink RX12 265 yX12_readUse,
  Cond.instanceMethod yX12_readUse,
  Cond.selects RX12 yX12_readUse yX12_readUse,
  Cond.code yX12_readUse cX12_readUse 6 (some .int),
  Cond.methodLink RX12 269 yX12_readAtom,
  Cond.instanceMethod yX12_readAtom,
  Cond.selects RX12 yX12_readAtom yX12_readAtom,
  Cond.code yX12_readAtom cX12_readAtom 4 (some .int),
  Cond.methodLink RX12 272 yX12_beginsAtom,
  Cond.instanceMethod yX12_beginsAtom,
  Cond.selects RX12 yX12_beginsAtom yX12_beginsAtom,
  Cond.code yX12_beginsAtom cX12_beginsAtom 1 (some .boolean),
  Cond.methodLink RX12 287 yX12_readTold,
  Cond.instanceMethod yX12_readTold,
  Cond.selects RX12 yX12_readTold yX12_readTold,
  Cond.code yX12_readTold cX12_readTold 1 none,
  Cond.methodLink RX12 299 yX12_readStatement,
  Cond.instanceMethod yX12_readStatement,
  Cond.selects RX12 yX12_readStatement yX12_readStatement,
  Cond.code yX12_readStatement cX12_readStatement 1 none,
  Cond.methodLink RX12 309 yX12_may,
  Cond.instanceMethod yX12_may,
  Cond.selects RX12 yX12_may yX12_may,
  Cond.code yX12_may cX12_may 1 (some .boolean),
  Cond.methodLink RX12 330 yX12_find,
  Cond.instanceMethod yX12_find,
  Cond.selects RX12 yX12_find yX12_find,
  Cond.code yX12_find cX12_find 4 none,
  Cond.methodLink RX12 342 yX12_cell,
  Cond.instanceMethod yX12_cell,
  Cond.selects RX12 yX12_cell yX12_cell,
  Cond.code yX12_cell cX12_cell 5 (some .int),
  Cond.methodLink RX12 354 yX12_look,
  Cond.instanceMethod yX12_look,
  Cond.selects RX12 yX12_look yX12_look,
  Cond.code yX12_look cX12_look 2 (some .boolean),
  Cond.methodLink RX12 357 yX12_head,
  Cond.instanceMethod yX12_head,
  Cond.selects RX12 yX12_head yX12_head,
  Cond.code yX12_head cX12_head 8 none,
  Cond.methodLink RX12 359 yX12_alike,
  Cond.instanceMethod yX12_alike,
  Cond.selects RX12 yX12_alike yX12_alike,
  Cond.code yX12_alike cX12_alike 14 (some .boolean),
  Cond.methodLink RX12 363 yX12_kindOf,
  Cond.instanceMethod yX12_kindOf,
  Cond.selects RX12 yX12_kindOf yX12_kindOf,
  Cond.code yX12_kindOf cX12_kindOf 2 (some .int),
  Cond.methodLink RX12 366 yX12_compare,
  Cond.instanceMethod yX12_compare,
  Cond.selects RX12 yX12_compare yX12_compare,
  Cond.code yX12_compare cX12_compare 13 (some .boolean),
  Cond.methodLink RX12 374 yX12_inside,
  Cond.instanceMethod yX12_inside,
  Cond.selects RX12 yX12_inside yX12_inside,
  Cond.code yX12_inside cX12_inside 4 (some .int),
  Cond.methodLink RX12 381 yX12_number,
  Cond.instanceMethod yX12_number,
  Cond.selects RX12 yX12_number yX12_number,
  Cond.code yX12_number cX12_number 2 none,
  Cond.methodLink RX12 384 yX12_put,
  Cond.instanceMethod yX12_put,
  Cond.selects RX12 yX12_put yX12_put,
  Cond.code yX12_put cX12_put 2 none,
  Cond.methodLink RX12 387 yX12_tell,
  Cond.instanceMethod yX12_tell,
  Cond.selects RX12 yX12_tell yX12_tell,
  Cond.code yX12_tell cX12_tell 14 none,
  Cond.methodLink RX12 392 yX12_putWord,
  Cond.instanceMethod yX12_putWord,
  Cond.selects RX12 yX12_putWord yX12_putWord,
  Cond.code yX12_putWord cX12_putWord 5 none,
  Cond.methodLink RX12 396 yX12_normal,
  Cond.instanceMethod yX12_normal,
  Cond.selects RX12 yX12_normal yX12_normal,
  Cond.code yX12_normal cX12_normal 12 (some .int),
  Cond.methodLink RX12 399 yX12_sameName,
  Cond.instanceMethod yX12_sameName,
  Cond.selects RX12 yX12_sameName yX12_sameName,
  Cond.code yX12_sameName cX12_sameName 8 (some .boolean),
  Cond.methodLink RX12 412 yX12_becomes,
  Cond.instanceMethod yX12_becomes,
  Cond.selects RX12 yX12_becomes yX12_becomes,
  Cond.code yX12_becomes cX12_becomes 3 none,
  Cond.methodLink RX12 415 yX12_knownOf,
  Cond.instanceMethod yX12_knownOf,
  Cond.selects RX12 yX12_knownOf yX12_knownOf,
  Cond.code yX12_knownOf cX12_knownOf 4 (some .int),
  Cond.methodLink RX12 418 yX12_sortOf,
  Cond.instanceMethod yX12_sortOf,
  Cond.selects RX12 yX12_sortOf yX12_sortOf,
  Cond.code yX12_sortOf cX12_sortOf 4 (some .int),
  Cond.methodLink RX12 421 yX12_judge,
  Cond.instanceMethod yX12_judge,
  Cond.selects RX12 yX12_judge yX12_judge,
  Cond.code yX12_judge cX12_judge 3 none,
  Cond.methodLink RX12 424 yX12_judgeLambda,
  Cond.instanceMethod yX12_judgeLambda,
  Cond.selects RX12 yX12_judgeLambda yX12_judgeLambda,
  Cond.code yX12_judgeLambda cX12_judgeLambda 8 none,
  Cond.methodLink RX12 427 yX12_judgeProduct,
  Cond.instanceMethod yX12_judgeProduct,
  Cond.selects RX12 yX12_judgeProduct yX12_judgeProduct,
  Cond.code yX12_judgeProduct cX12_judgeProduct 8 none,
  Cond.methodLink RX12 430 yX12_bind,
  Cond.instanceMethod yX12_bind,
  Cond.selects RX12 yX12_bind yX12_bind,
  Cond.code yX12_bind cX12_bind 4 none,
  Cond.methodLink RX12 434 yX12_judgeUse,
  Cond.instanceMethod yX12_judgeUse,
  Cond.selects RX12 yX12_judgeUse yX12_judgeUse,
  Cond.code yX12_judgeUse cX12_judgeUse 6 none,
  Cond.methodLink RX12 437 yX12_judgeName,
  Cond.instanceMethod yX12_judgeName,
  Cond.selects RX12 yX12_judgeName yX12_judgeName,
  Cond.code yX12_judgeName cX12_judgeName 7 none,
  Cond.methodLink RX12 440 yX12_judgeSort,
  Cond.instanceMethod yX12_judgeSort,
  Cond.selects RX12 yX12_judgeSort yX12_judgeSort,
  Cond.code yX12_judgeSort cX12_judgeSort 4 (some .int),
  Cond.methodLink RX12 446 yX12_applied,
  Cond.instanceMethod yX12_applied,
  Cond.selects RX12 yX12_applied yX12_applied,
  Cond.code yX12_applied cX12_applied 7 none,
  Cond.methodLink RX12 452 yX12_tables,
  Cond.instanceMethod yX12_tables,
  Cond.selects RX12 yX12_tables yX12_tables,
  Cond.code yX12_tables cX12_tables 4 none,
  Cond.methodLink RX12 455 yX12_yes,
  Cond.instanceMethod yX12_yes,
  Cond.selects RX12 yX12_yes yX12_yes,
  Cond.code yX12_yes cX12_yes 2 none,
  Cond.methodLink RX12 459 yX12_tellLine,
  Cond.instanceMethod yX12_tellLine,
  Cond.selects RX12 yX12_tellLine yX12_tellLine,
  Cond.code yX12_tellLine cX12_tellLine 2 none,
  Cond.methodLink RX12 462 yX12_tellHead,
  Cond.instanceMethod yX12_tellHead,
  Cond.selects RX12 yX12_tellHead yX12_tellHead,
  Cond.code yX12_tellHead cX12_tellHead 2 none,
  Cond.methodLink RX12 465 yX12_told,
  Cond.instanceMethod yX12_told,
  Cond.selects RX12 yX12_told yX12_told,
  Cond.code yX12_told cX12_told 4 none,
  Cond.methodLink RX12 468 yX12_fail,
  Cond.instanceMethod yX12_fail,
  Cond.selects RX12 yX12_fail yX12_fail,
  Cond.code yX12_fail cX12_fail 2 (some .int),
  Cond.methodLink RX12 474 yX12_readAll,
  Cond.instanceMethod yX12_readAll,
  Cond.selects RX12 yX12_readAll yX12_readAll,
  Cond.code yX12_readAll cX12_readAll 1 none,
  Cond.methodLink RX12 477 yX12_begin,
  Cond.instanceMethod yX12_begin,
  Cond.selects RX12 yX12_begin yX12_begin,
  Cond.code yX12_begin cX12_begin 1 none,
  Cond.methodLink RX12 480 yX12_doStatement,
  Cond.instanceMethod yX12_doStatement,
  Cond.selects RX12 yX12_doStatement yX12_doStatement,
  Cond.code yX12_doStatement cX12_doStatement 2 none,
  Cond.methodLink RX12 483 yX12_drop,
  Cond.instanceMethod yX12_drop,
  Cond.selects RX12 yX12_drop yX12_drop,
  Cond.code yX12_drop cX12_drop 1 none,
  Cond.methodLink RX12 156 yJ0_length_8abf5,
  Cond.instanceMethod yJ0_length_8abf5,
  Cond.selects RJ0 yJ0_length_8abf5 yJ0_length_8abf5,
  Cond.code yJ0_length_8abf5 cJ0_length_8abf5 1 (some .int),
  Cond.methodLink RX12 163 yJ0_charAt_5068e,
  Cond.instanceMethod yJ0_charAt_5068e,
  Cond.selects RJ0 yJ0_charAt_5068e yJ0_charAt_5068e,
  Cond.code yJ0_charAt_5068e cJ0_charAt_5068e 2 (some .char)])
theorem rf_oi1 : Cond.methodLink RX12 1 objectInit ∈ rf_bw := List.mem_of_getElem? (i := 109) rfl
theorem rf_oi2 : Cond.instanceMethod objectInit ∈ rf_bw := List.mem_of_getElem? (i := 110) rfl
theorem rf_oi3 : Cond.code objectInit ⟨#[0xb1]⟩ 1 none ∈ rf_bw := List.mem_of_getElem? (i := 111) rfl
theorem rf_cl7 : Cond.classLink RX12 7 RJ0 ∈ rf_bw := List.mem_of_getElem? (i := 112) rfl
theorem rf_aci : Cond.arrayClass .int ∈ rf_bw := List.mem_of_getElem? (i := 113) rfl
theorem rf_bw_js : ∀ w ∈ js_bw, w ∈ rf_bw := fun w h => List.mem_append_right _ (List.mem_append_left _ h)
def rf_ldT : Nat := 176
def rf_ldK : Nat := 182
set_option maxRecDepth 20000 in
theorem gj_156_length : GoodIn rf_bw [Cond.code yJ0_length_8abf5 cJ0_length_8abf5 1 (some .int), .methodLink RX12 156 yJ0_length_8abf5, .instanceMethod yJ0_length_8abf5, .selects RJ0 yJ0_length_8abf5 yJ0_length_8abf5, .initialized RJ0] := rf_gr _ [439, 436, 437, 438, 89] rfl (by decide +kernel)
set_option maxRecDepth 20000 in
theorem gj_163_charAt : GoodIn rf_bw [Cond.code yJ0_charAt_5068e cJ0_charAt_5068e 2 (some .char), .methodLink RX12 163 yJ0_charAt_5068e, .instanceMethod yJ0_charAt_5068e, .selects RJ0 yJ0_charAt_5068e yJ0_charAt_5068e, .initialized RJ0] := rf_gr _ [443, 440, 441, 442, 89] rfl (by decide +kernel)
theorem rf_bw_in : ∀ w ∈ u_ws RX12 TX12 83, w ∈ rf_bw := fun w h => List.mem_append_left _ h
theorem rf_bw_good : rf_bw.all goodWord = true := by decide +kernel
theorem lk_27 : Cond.fieldLink RX12 27 (TX12 0).1 (TX12 0).2.1 (TX12 0).2.2.1 ∈ rf_bw := List.mem_of_getElem? (i := 114) rfl
theorem lk_33 : Cond.fieldLink RX12 33 (TX12 2).1 (TX12 2).2.1 (TX12 2).2.2.1 ∈ rf_bw := List.mem_of_getElem? (i := 115) rfl
theorem lk_37 : Cond.fieldLink RX12 37 (TX12 4).1 (TX12 4).2.1 (TX12 4).2.2.1 ∈ rf_bw := List.mem_of_getElem? (i := 116) rfl
theorem lk_40 : Cond.fieldLink RX12 40 (TX12 13).1 (TX12 13).2.1 (TX12 13).2.2.1 ∈ rf_bw := List.mem_of_getElem? (i := 117) rfl
theorem lk_44 : Cond.fieldLink RX12 44 (TX12 16).1 (TX12 16).2.1 (TX12 16).2.2.1 ∈ rf_bw := List.mem_of_getElem? (i := 118) rfl
theorem lk_47 : Cond.fieldLink RX12 47 (TX12 17).1 (TX12 17).2.1 (TX12 17).2.2.1 ∈ rf_bw := List.mem_of_getElem? (i := 119) rfl
theorem lk_50 : Cond.fieldLink RX12 50 (TX12 18).1 (TX12 18).2.1 (TX12 18).2.2.1 ∈ rf_bw := List.mem_of_getElem? (i := 120) rfl
theorem lk_52 : Cond.fieldLink RX12 52 (TX12 19).1 (TX12 19).2.1 (TX12 19).2.2.1 ∈ rf_bw := List.mem_of_getElem? (i := 121) rfl
theorem lk_54 : Cond.fieldLink RX12 54 (TX12 21).1 (TX12 21).2.1 (TX12 21).2.2.1 ∈ rf_bw := List.mem_of_getElem? (i := 122) rfl
theorem lk_57 : Cond.fieldLink RX12 57 (TX12 22).1 (TX12 22).2.1 (TX12 22).2.2.1 ∈ rf_bw := List.mem_of_getElem? (i := 123) rfl
theorem lk_60 : Cond.fieldLink RX12 60 (TX12 23).1 (TX12 23).2.1 (TX12 23).2.2.1 ∈ rf_bw := List.mem_of_getElem? (i := 124) rfl
theorem lk_63 : Cond.fieldLink RX12 63 (TX12 24).1 (TX12 24).2.1 (TX12 24).2.2.1 ∈ rf_bw := List.mem_of_getElem? (i := 125) rfl
theorem lk_66 : Cond.fieldLink RX12 66 (TX12 25).1 (TX12 25).2.1 (TX12 25).2.2.1 ∈ rf_bw := List.mem_of_getElem? (i := 126) rfl
theorem lk_69 : Cond.fieldLink RX12 69 (TX12 26).1 (TX12 26).2.1 (TX12 26).2.2.1 ∈ rf_bw := List.mem_of_getElem? (i := 127) rfl
theorem lk_72 : Cond.fieldLink RX12 72 (TX12 28).1 (TX12 28).2.1 (TX12 28).2.2.1 ∈ rf_bw := List.mem_of_getElem? (i := 128) rfl
theorem lk_76 : Cond.fieldLink RX12 76 (TX12 30).1 (TX12 30).2.1 (TX12 30).2.2.1 ∈ rf_bw := List.mem_of_getElem? (i := 129) rfl
theorem lk_79 : Cond.fieldLink RX12 79 (TX12 31).1 (TX12 31).2.1 (TX12 31).2.2.1 ∈ rf_bw := List.mem_of_getElem? (i := 130) rfl
theorem lk_82 : Cond.fieldLink RX12 82 (TX12 32).1 (TX12 32).2.1 (TX12 32).2.2.1 ∈ rf_bw := List.mem_of_getElem? (i := 131) rfl
theorem lk_85 : Cond.fieldLink RX12 85 (TX12 33).1 (TX12 33).2.1 (TX12 33).2.2.1 ∈ rf_bw := List.mem_of_getElem? (i := 132) rfl
theorem lk_88 : Cond.fieldLink RX12 88 (TX12 34).1 (TX12 34).2.1 (TX12 34).2.2.1 ∈ rf_bw := List.mem_of_getElem? (i := 133) rfl
theorem lk_91 : Cond.fieldLink RX12 91 (TX12 35).1 (TX12 35).2.1 (TX12 35).2.2.1 ∈ rf_bw := List.mem_of_getElem? (i := 134) rfl
theorem lk_94 : Cond.fieldLink RX12 94 (TX12 36).1 (TX12 36).2.1 (TX12 36).2.2.1 ∈ rf_bw := List.mem_of_getElem? (i := 135) rfl
theorem lk_97 : Cond.fieldLink RX12 97 (TX12 37).1 (TX12 37).2.1 (TX12 37).2.2.1 ∈ rf_bw := List.mem_of_getElem? (i := 136) rfl
theorem lk_100 : Cond.fieldLink RX12 100 (TX12 38).1 (TX12 38).2.1 (TX12 38).2.2.1 ∈ rf_bw := List.mem_of_getElem? (i := 137) rfl
theorem lk_103 : Cond.fieldLink RX12 103 (TX12 40).1 (TX12 40).2.1 (TX12 40).2.2.1 ∈ rf_bw := List.mem_of_getElem? (i := 138) rfl
theorem lk_106 : Cond.fieldLink RX12 106 (TX12 41).1 (TX12 41).2.1 (TX12 41).2.2.1 ∈ rf_bw := List.mem_of_getElem? (i := 139) rfl
theorem lk_109 : Cond.fieldLink RX12 109 (TX12 42).1 (TX12 42).2.1 (TX12 42).2.2.1 ∈ rf_bw := List.mem_of_getElem? (i := 140) rfl
theorem lk_113 : Cond.fieldLink RX12 113 (TX12 44).1 (TX12 44).2.1 (TX12 44).2.2.1 ∈ rf_bw := List.mem_of_getElem? (i := 141) rfl
theorem lk_116 : Cond.fieldLink RX12 116 (TX12 45).1 (TX12 45).2.1 (TX12 45).2.2.1 ∈ rf_bw := List.mem_of_getElem? (i := 142) rfl
theorem lk_119 : Cond.fieldLink RX12 119 (TX12 46).1 (TX12 46).2.1 (TX12 46).2.2.1 ∈ rf_bw := List.mem_of_getElem? (i := 143) rfl
theorem lk_122 : Cond.fieldLink RX12 122 (TX12 47).1 (TX12 47).2.1 (TX12 47).2.2.1 ∈ rf_bw := List.mem_of_getElem? (i := 144) rfl
theorem lk_125 : Cond.fieldLink RX12 125 (TX12 48).1 (TX12 48).2.1 (TX12 48).2.2.1 ∈ rf_bw := List.mem_of_getElem? (i := 145) rfl
theorem lk_128 : Cond.fieldLink RX12 128 (TX12 49).1 (TX12 49).2.1 (TX12 49).2.2.1 ∈ rf_bw := List.mem_of_getElem? (i := 146) rfl
theorem lk_131 : Cond.fieldLink RX12 131 (TX12 50).1 (TX12 50).2.1 (TX12 50).2.2.1 ∈ rf_bw := List.mem_of_getElem? (i := 147) rfl
theorem lk_134 : Cond.fieldLink RX12 134 (TX12 58).1 (TX12 58).2.1 (TX12 58).2.2.1 ∈ rf_bw := List.mem_of_getElem? (i := 148) rfl
theorem lk_137 : Cond.fieldLink RX12 137 (TX12 63).1 (TX12 63).2.1 (TX12 63).2.2.1 ∈ rf_bw := List.mem_of_getElem? (i := 149) rfl
theorem lk_140 : Cond.fieldLink RX12 140 (TX12 74).1 (TX12 74).2.1 (TX12 74).2.2.1 ∈ rf_bw := List.mem_of_getElem? (i := 150) rfl
theorem lk_147 : Cond.fieldLink RX12 147 (TX12 1).1 (TX12 1).2.1 (TX12 1).2.2.1 ∈ rf_bw := List.mem_of_getElem? (i := 151) rfl
theorem lk_150 : Cond.fieldLink RX12 150 (TX12 72).1 (TX12 72).2.1 (TX12 72).2.2.1 ∈ rf_bw := List.mem_of_getElem? (i := 152) rfl
theorem lk_153 : Cond.fieldLink RX12 153 (TX12 73).1 (TX12 73).2.1 (TX12 73).2.2.1 ∈ rf_bw := List.mem_of_getElem? (i := 153) rfl
theorem lk_160 : Cond.fieldLink RX12 160 (TX12 20).1 (TX12 20).2.1 (TX12 20).2.2.1 ∈ rf_bw := List.mem_of_getElem? (i := 154) rfl
theorem lk_167 : Cond.fieldLink RX12 167 (TX12 27).1 (TX12 27).2.1 (TX12 27).2.2.1 ∈ rf_bw := List.mem_of_getElem? (i := 155) rfl
theorem lk_170 : Cond.fieldLink RX12 170 (TX12 29).1 (TX12 29).2.1 (TX12 29).2.2.1 ∈ rf_bw := List.mem_of_getElem? (i := 156) rfl
theorem lk_173 : Cond.fieldLink RX12 173 (TX12 39).1 (TX12 39).2.1 (TX12 39).2.2.1 ∈ rf_bw := List.mem_of_getElem? (i := 157) rfl
theorem lk_183 : Cond.fieldLink RX12 183 (TX12 3).1 (TX12 3).2.1 (TX12 3).2.2.1 ∈ rf_bw := List.mem_of_getElem? (i := 158) rfl
theorem lk_186 : Cond.fieldLink RX12 186 (TX12 5).1 (TX12 5).2.1 (TX12 5).2.2.1 ∈ rf_bw := List.mem_of_getElem? (i := 159) rfl
theorem lk_193 : Cond.fieldLink RX12 193 (TX12 6).1 (TX12 6).2.1 (TX12 6).2.2.1 ∈ rf_bw := List.mem_of_getElem? (i := 160) rfl
theorem lk_200 : Cond.fieldLink RX12 200 (TX12 9).1 (TX12 9).2.1 (TX12 9).2.2.1 ∈ rf_bw := List.mem_of_getElem? (i := 161) rfl
theorem lk_203 : Cond.fieldLink RX12 203 (TX12 7).1 (TX12 7).2.1 (TX12 7).2.2.1 ∈ rf_bw := List.mem_of_getElem? (i := 162) rfl
theorem lk_206 : Cond.fieldLink RX12 206 (TX12 11).1 (TX12 11).2.1 (TX12 11).2.2.1 ∈ rf_bw := List.mem_of_getElem? (i := 163) rfl
theorem lk_212 : Cond.fieldLink RX12 212 (TX12 10).1 (TX12 10).2.1 (TX12 10).2.2.1 ∈ rf_bw := List.mem_of_getElem? (i := 164) rfl
theorem lk_225 : Cond.fieldLink RX12 225 (TX12 8).1 (TX12 8).2.1 (TX12 8).2.2.1 ∈ rf_bw := List.mem_of_getElem? (i := 165) rfl
theorem lk_237 : Cond.fieldLink RX12 237 (TX12 15).1 (TX12 15).2.1 (TX12 15).2.2.1 ∈ rf_bw := List.mem_of_getElem? (i := 166) rfl
theorem lk_275 : Cond.fieldLink RX12 275 (TX12 77).1 (TX12 77).2.1 (TX12 77).2.2.1 ∈ rf_bw := List.mem_of_getElem? (i := 167) rfl
theorem lk_278 : Cond.fieldLink RX12 278 (TX12 76).1 (TX12 76).2.1 (TX12 76).2.2.1 ∈ rf_bw := List.mem_of_getElem? (i := 168) rfl
theorem lk_281 : Cond.fieldLink RX12 281 (TX12 78).1 (TX12 78).2.1 (TX12 78).2.2.1 ∈ rf_bw := List.mem_of_getElem? (i := 169) rfl
theorem lk_284 : Cond.fieldLink RX12 284 (TX12 79).1 (TX12 79).2.1 (TX12 79).2.2.1 ∈ rf_bw := List.mem_of_getElem? (i := 170) rfl
theorem lk_290 : Cond.fieldLink RX12 290 (TX12 80).1 (TX12 80).2.1 (TX12 80).2.2.1 ∈ rf_bw := List.mem_of_getElem? (i := 171) rfl
theorem lk_293 : Cond.fieldLink RX12 293 (TX12 81).1 (TX12 81).2.1 (TX12 81).2.2.1 ∈ rf_bw := List.mem_of_getElem? (i := 172) rfl
theorem lk_296 : Cond.fieldLink RX12 296 (TX12 82).1 (TX12 82).2.1 (TX12 82).2.2.1 ∈ rf_bw := List.mem_of_getElem? (i := 173) rfl
theorem lk_302 : Cond.fieldLink RX12 302 (TX12 64).1 (TX12 64).2.1 (TX12 64).2.2.1 ∈ rf_bw := List.mem_of_getElem? (i := 174) rfl
theorem lk_305 : Cond.fieldLink RX12 305 (TX12 65).1 (TX12 65).2.1 (TX12 65).2.2.1 ∈ rf_bw := List.mem_of_getElem? (i := 175) rfl
theorem lk_312 : Cond.fieldLink RX12 312 (TX12 71).1 (TX12 71).2.1 (TX12 71).2.2.1 ∈ rf_bw := List.mem_of_getElem? (i := 176) rfl
theorem lk_315 : Cond.fieldLink RX12 315 (TX12 56).1 (TX12 56).2.1 (TX12 56).2.2.1 ∈ rf_bw := List.mem_of_getElem? (i := 177) rfl
theorem lk_318 : Cond.fieldLink RX12 318 (TX12 54).1 (TX12 54).2.1 (TX12 54).2.2.1 ∈ rf_bw := List.mem_of_getElem? (i := 178) rfl
theorem lk_321 : Cond.fieldLink RX12 321 (TX12 55).1 (TX12 55).2.1 (TX12 55).2.2.1 ∈ rf_bw := List.mem_of_getElem? (i := 179) rfl
theorem lk_324 : Cond.fieldLink RX12 324 (TX12 51).1 (TX12 51).2.1 (TX12 51).2.2.1 ∈ rf_bw := List.mem_of_getElem? (i := 180) rfl
theorem lk_327 : Cond.fieldLink RX12 327 (TX12 69).1 (TX12 69).2.1 (TX12 69).2.2.1 ∈ rf_bw := List.mem_of_getElem? (i := 181) rfl
theorem lk_333 : Cond.fieldLink RX12 333 (TX12 70).1 (TX12 70).2.1 (TX12 70).2.2.1 ∈ rf_bw := List.mem_of_getElem? (i := 182) rfl
theorem lk_336 : Cond.fieldLink RX12 336 (TX12 67).1 (TX12 67).2.1 (TX12 67).2.2.1 ∈ rf_bw := List.mem_of_getElem? (i := 183) rfl
theorem lk_339 : Cond.fieldLink RX12 339 (TX12 66).1 (TX12 66).2.1 (TX12 66).2.2.1 ∈ rf_bw := List.mem_of_getElem? (i := 184) rfl
theorem lk_345 : Cond.fieldLink RX12 345 (TX12 68).1 (TX12 68).2.1 (TX12 68).2.2.1 ∈ rf_bw := List.mem_of_getElem? (i := 185) rfl
theorem lk_348 : Cond.fieldLink RX12 348 (TX12 52).1 (TX12 52).2.1 (TX12 52).2.2.1 ∈ rf_bw := List.mem_of_getElem? (i := 186) rfl
theorem lk_351 : Cond.fieldLink RX12 351 (TX12 53).1 (TX12 53).2.1 (TX12 53).2.2.1 ∈ rf_bw := List.mem_of_getElem? (i := 187) rfl
theorem lk_371 : Cond.fieldLink RX12 371 (TX12 57).1 (TX12 57).2.1 (TX12 57).2.2.1 ∈ rf_bw := List.mem_of_getElem? (i := 188) rfl
theorem lk_378 : Cond.fieldLink RX12 378 (TX12 75).1 (TX12 75).2.1 (TX12 75).2.2.1 ∈ rf_bw := List.mem_of_getElem? (i := 189) rfl
theorem lk_403 : Cond.fieldLink RX12 403 (TX12 60).1 (TX12 60).2.1 (TX12 60).2.2.1 ∈ rf_bw := List.mem_of_getElem? (i := 190) rfl
theorem lk_406 : Cond.fieldLink RX12 406 (TX12 61).1 (TX12 61).2.1 (TX12 61).2.2.1 ∈ rf_bw := List.mem_of_getElem? (i := 191) rfl
theorem lk_409 : Cond.fieldLink RX12 409 (TX12 43).1 (TX12 43).2.1 (TX12 43).2.2.1 ∈ rf_bw := List.mem_of_getElem? (i := 192) rfl
theorem lk_443 : Cond.fieldLink RX12 443 (TX12 59).1 (TX12 59).2.1 (TX12 59).2.2.1 ∈ rf_bw := List.mem_of_getElem? (i := 193) rfl
theorem lk_449 : Cond.fieldLink RX12 449 (TX12 62).1 (TX12 62).2.1 (TX12 62).2.2.1 ∈ rf_bw := List.mem_of_getElem? (i := 194) rfl
theorem lk_471 : Cond.fieldLink RX12 471 (TX12 14).1 (TX12 14).2.1 (TX12 14).2.2.1 ∈ rf_bw := List.mem_of_getElem? (i := 195) rfl
theorem lk_486 : Cond.fieldLink RX12 486 (TX12 12).1 (TX12 12).2.1 (TX12 12).2.2.1 ∈ rf_bw := List.mem_of_getElem? (i := 196) rfl
theorem lc_75 : Cond.constant RX12 75 140000 ∈ rf_bw := List.mem_of_getElem? (i := 197) rfl
theorem lc_112 : Cond.constant RX12 112 80000 ∈ rf_bw := List.mem_of_getElem? (i := 198) rfl
theorem lc_308 : Cond.constant RX12 308 60000 ∈ rf_bw := List.mem_of_getElem? (i := 199) rfl
theorem lc_370 : Cond.constant RX12 370 (-200000) ∈ rf_bw := List.mem_of_getElem? (i := 200) rfl
theorem lc_391 : Cond.constant RX12 391 (-1000000) ∈ rf_bw := List.mem_of_getElem? (i := 201) rfl
set_option maxRecDepth 20000 in
theorem g_143_table : GoodIn rf_bw [Cond.code yX12_table cX12_table 4 none, .methodLink RX12 143 yX12_table, .instanceMethod yX12_table, .selects RX12 yX12_table yX12_table, .initialized RX12] := rf_gr _ [205, 202, 203, 204, 107] rfl (by decide +kernel)
set_option maxRecDepth 20000 in
theorem g_178_newSort : GoodIn rf_bw [Cond.code yX12_newSort cX12_newSort 3 (some .int), .methodLink RX12 178 yX12_newSort, .instanceMethod yX12_newSort, .selects RX12 yX12_newSort yX12_newSort, .initialized RX12] := rf_gr _ [209, 206, 207, 208, 107] rfl (by decide +kernel)
set_option maxRecDepth 20000 in
theorem g_189_isLetter : GoodIn rf_bw [Cond.code yX12_isLetter cX12_isLetter 1 (some .boolean), .methodLink RX12 189 yX12_isLetter, .static yX12_isLetter, .initialized RX12] := rf_gr _ [212, 210, 211, 107] rfl (by decide +kernel)
set_option maxRecDepth 20000 in
theorem g_196_byteAt : GoodIn rf_bw [Cond.code yX12_byteAt cX12_byteAt 2 (some .int), .methodLink RX12 196 yX12_byteAt, .instanceMethod yX12_byteAt, .selects RX12 yX12_byteAt yX12_byteAt, .initialized RX12] := rf_gr _ [216, 213, 214, 215, 107] rfl (by decide +kernel)
set_option maxRecDepth 20000 in
theorem g_209_goesOn : GoodIn rf_bw [Cond.code yX12_goesOn cX12_goesOn 1 (some .boolean), .methodLink RX12 209 yX12_goesOn, .static yX12_goesOn, .initialized RX12] := rf_gr _ [219, 217, 218, 107] rfl (by decide +kernel)
set_option maxRecDepth 20000 in
theorem g_215_isWord : GoodIn rf_bw [Cond.code yX12_isWord cX12_isWord 4 (some .boolean), .methodLink RX12 215 yX12_isWord, .instanceMethod yX12_isWord, .selects RX12 yX12_isWord yX12_isWord, .initialized RX12] := rf_gr _ [223, 220, 221, 222, 107] rfl (by decide +kernel)
set_option maxRecDepth 20000 in
theorem g_218_wrong : GoodIn rf_bw [Cond.code yX12_wrong cX12_wrong 3 none, .methodLink RX12 218 yX12_wrong, .instanceMethod yX12_wrong, .selects RX12 yX12_wrong yX12_wrong, .initialized RX12] := rf_gr _ [227, 224, 225, 226, 107] rfl (by decide +kernel)
set_option maxRecDepth 20000 in
theorem g_222_readSign : GoodIn rf_bw [Cond.code yX12_readSign cX12_readSign 2 none, .methodLink RX12 222 yX12_readSign, .instanceMethod yX12_readSign, .selects RX12 yX12_readSign yX12_readSign, .initialized RX12] := rf_gr _ [231, 228, 229, 230, 107] rfl (by decide +kernel)
set_option maxRecDepth 20000 in
theorem g_228_isSign : GoodIn rf_bw [Cond.code yX12_isSign cX12_isSign 2 (some .boolean), .methodLink RX12 228 yX12_isSign, .instanceMethod yX12_isSign, .selects RX12 yX12_isSign yX12_isSign, .initialized RX12] := rf_gr _ [235, 232, 233, 234, 107] rfl (by decide +kernel)
set_option maxRecDepth 20000 in
theorem g_231_next : GoodIn rf_bw [Cond.code yX12_next cX12_next 4 none, .methodLink RX12 231 yX12_next, .instanceMethod yX12_next, .selects RX12 yX12_next yX12_next, .initialized RX12] := rf_gr _ [239, 236, 237, 238, 107] rfl (by decide +kernel)
set_option maxRecDepth 20000 in
theorem g_234_cant : GoodIn rf_bw [Cond.code yX12_cant cX12_cant 1 none, .methodLink RX12 234 yX12_cant, .instanceMethod yX12_cant, .selects RX12 yX12_cant yX12_cant, .initialized RX12] := rf_gr _ [243, 240, 241, 242, 107] rfl (by decide +kernel)
set_option maxRecDepth 20000 in
theorem g_241_node : GoodIn rf_bw [Cond.code yX12_node cX12_node 6 (some .int), .methodLink RX12 241 yX12_node, .instanceMethod yX12_node, .selects RX12 yX12_node yX12_node, .initialized RX12] := rf_gr _ [247, 244, 245, 246, 107] rfl (by decide +kernel)
set_option maxRecDepth 20000 in
theorem g_245_isName : GoodIn rf_bw [Cond.code yX12_isName cX12_isName 1 (some .boolean), .methodLink RX12 245 yX12_isName, .instanceMethod yX12_isName, .selects RX12 yX12_isName yX12_isName, .initialized RX12] := rf_gr _ [251, 248, 249, 250, 107] rfl (by decide +kernel)
set_option maxRecDepth 20000 in
theorem g_249_nameNode : GoodIn rf_bw [Cond.code yX12_nameNode cX12_nameNode 2 (some .int), .methodLink RX12 249 yX12_nameNode, .instanceMethod yX12_nameNode, .selects RX12 yX12_nameNode yX12_nameNode, .initialized RX12] := rf_gr _ [255, 252, 253, 254, 107] rfl (by decide +kernel)
set_option maxRecDepth 20000 in
theorem g_252_need : GoodIn rf_bw [Cond.code yX12_need cX12_need 2 none, .methodLink RX12 252 yX12_need, .instanceMethod yX12_need, .selects RX12 yX12_need yX12_need, .initialized RX12] := rf_gr _ [259, 256, 257, 258, 107] rfl (by decide +kernel)
set_option maxRecDepth 20000 in
theorem g_255_readTerm : GoodIn rf_bw [Cond.code yX12_readTerm cX12_readTerm 7 (some .int), .methodLink RX12 255 yX12_readTerm, .instanceMethod yX12_readTerm, .selects RX12 yX12_readTerm yX12_readTerm, .initialized RX12] := rf_gr _ [263, 260, 261, 262, 107] rfl (by decide +kernel)
set_option maxRecDepth 20000 in
theorem g_258_parts : GoodIn rf_bw [Cond.code yX12_parts cX12_parts 5 (some .int), .methodLink RX12 258 yX12_parts, .instanceMethod yX12_parts, .selects RX12 yX12_parts yX12_parts, .initialized RX12] := rf_gr _ [267, 264, 265, 266, 107] rfl (by decide +kernel)
set_option maxRecDepth 20000 in
theorem g_262_needWord : GoodIn rf_bw [Cond.code yX12_needWord cX12_needWord 2 none, .methodLink RX12 262 yX12_needWord, .instanceMethod yX12_needWord, .selects RX12 yX12_needWord yX12_needWord, .initialized RX12] := rf_gr _ [271, 268, 269, 270, 107] rfl (by decide +kernel)
set_option maxRecDepth 20000 in
theorem g_265_readUse : GoodIn rf_bw [Cond.code yX12_readUse cX12_readUse 6 (some .int), .methodLink RX12 265 yX12_readUse, .instanceMethod yX12_readUse, .selects RX12 yX12_readUse yX12_readUse, .initialized RX12] := rf_gr _ [275, 272, 273, 274, 107] rfl (by decide +kernel)
set_option maxRecDepth 20000 in
theorem g_269_readAtom : GoodIn rf_bw [Cond.code yX12_readAtom cX12_readAtom 4 (some .int), .methodLink RX12 269 yX12_readAtom, .instanceMethod yX12_readAtom, .selects RX12 yX12_readAtom yX12_readAtom, .initialized RX12] := rf_gr _ [279, 276, 277, 278, 107] rfl (by decide +kernel)
set_option maxRecDepth 20000 in
theorem g_272_beginsAtom : GoodIn rf_bw [Cond.code yX12_beginsAtom cX12_beginsAtom 1 (some .boolean), .methodLink RX12 272 yX12_beginsAtom, .instanceMethod yX12_beginsAtom, .selects RX12 yX12_beginsAtom yX12_beginsAtom, .initialized RX12] := rf_gr _ [283, 280, 281, 282, 107] rfl (by decide +kernel)
set_option maxRecDepth 20000 in
theorem g_287_readTold : GoodIn rf_bw [Cond.code yX12_readTold cX12_readTold 1 none, .methodLink RX12 287 yX12_readTold, .instanceMethod yX12_readTold, .selects RX12 yX12_readTold yX12_readTold, .initialized RX12] := rf_gr _ [287, 284, 285, 286, 107] rfl (by decide +kernel)
set_option maxRecDepth 20000 in
theorem g_299_readStatement : GoodIn rf_bw [Cond.code yX12_readStatement cX12_readStatement 1 none, .methodLink RX12 299 yX12_readStatement, .instanceMethod yX12_readStatement, .selects RX12 yX12_readStatement yX12_readStatement, .initialized RX12] := rf_gr _ [291, 288, 289, 290, 107] rfl (by decide +kernel)
set_option maxRecDepth 20000 in
theorem g_309_may : GoodIn rf_bw [Cond.code yX12_may cX12_may 1 (some .boolean), .methodLink RX12 309 yX12_may, .instanceMethod yX12_may, .selects RX12 yX12_may yX12_may, .initialized RX12] := rf_gr _ [295, 292, 293, 294, 107] rfl (by decide +kernel)
set_option maxRecDepth 20000 in
theorem g_330_find : GoodIn rf_bw [Cond.code yX12_find cX12_find 4 none, .methodLink RX12 330 yX12_find, .instanceMethod yX12_find, .selects RX12 yX12_find yX12_find, .initialized RX12] := rf_gr _ [299, 296, 297, 298, 107] rfl (by decide +kernel)
set_option maxRecDepth 20000 in
theorem g_342_cell : GoodIn rf_bw [Cond.code yX12_cell cX12_cell 5 (some .int), .methodLink RX12 342 yX12_cell, .instanceMethod yX12_cell, .selects RX12 yX12_cell yX12_cell, .initialized RX12] := rf_gr _ [303, 300, 301, 302, 107] rfl (by decide +kernel)
set_option maxRecDepth 20000 in
theorem g_354_look : GoodIn rf_bw [Cond.code yX12_look cX12_look 2 (some .boolean), .methodLink RX12 354 yX12_look, .instanceMethod yX12_look, .selects RX12 yX12_look yX12_look, .initialized RX12] := rf_gr _ [307, 304, 305, 306, 107] rfl (by decide +kernel)
set_option maxRecDepth 20000 in
theorem g_357_head : GoodIn rf_bw [Cond.code yX12_head cX12_head 8 none, .methodLink RX12 357 yX12_head, .instanceMethod yX12_head, .selects RX12 yX12_head yX12_head, .initialized RX12] := rf_gr _ [311, 308, 309, 310, 107] rfl (by decide +kernel)
set_option maxRecDepth 20000 in
theorem g_359_alike : GoodIn rf_bw [Cond.code yX12_alike cX12_alike 14 (some .boolean), .methodLink RX12 359 yX12_alike, .instanceMethod yX12_alike, .selects RX12 yX12_alike yX12_alike, .initialized RX12] := rf_gr _ [315, 312, 313, 314, 107] rfl (by decide +kernel)
set_option maxRecDepth 20000 in
theorem g_363_kindOf : GoodIn rf_bw [Cond.code yX12_kindOf cX12_kindOf 2 (some .int), .methodLink RX12 363 yX12_kindOf, .instanceMethod yX12_kindOf, .selects RX12 yX12_kindOf yX12_kindOf, .initialized RX12] := rf_gr _ [319, 316, 317, 318, 107] rfl (by decide +kernel)
set_option maxRecDepth 20000 in
theorem g_366_compare : GoodIn rf_bw [Cond.code yX12_compare cX12_compare 13 (some .boolean), .methodLink RX12 366 yX12_compare, .instanceMethod yX12_compare, .selects RX12 yX12_compare yX12_compare, .initialized RX12] := rf_gr _ [323, 320, 321, 322, 107] rfl (by decide +kernel)
set_option maxRecDepth 20000 in
theorem g_374_inside : GoodIn rf_bw [Cond.code yX12_inside cX12_inside 4 (some .int), .methodLink RX12 374 yX12_inside, .instanceMethod yX12_inside, .selects RX12 yX12_inside yX12_inside, .initialized RX12] := rf_gr _ [327, 324, 325, 326, 107] rfl (by decide +kernel)
set_option maxRecDepth 20000 in
theorem g_381_number : GoodIn rf_bw [Cond.code yX12_number cX12_number 2 none, .methodLink RX12 381 yX12_number, .instanceMethod yX12_number, .selects RX12 yX12_number yX12_number, .initialized RX12] := rf_gr _ [331, 328, 329, 330, 107] rfl (by decide +kernel)
set_option maxRecDepth 20000 in
theorem g_384_put : GoodIn rf_bw [Cond.code yX12_put cX12_put 2 none, .methodLink RX12 384 yX12_put, .instanceMethod yX12_put, .selects RX12 yX12_put yX12_put, .initialized RX12] := rf_gr _ [335, 332, 333, 334, 107] rfl (by decide +kernel)
set_option maxRecDepth 20000 in
theorem g_387_tell : GoodIn rf_bw [Cond.code yX12_tell cX12_tell 14 none, .methodLink RX12 387 yX12_tell, .instanceMethod yX12_tell, .selects RX12 yX12_tell yX12_tell, .initialized RX12] := rf_gr _ [339, 336, 337, 338, 107] rfl (by decide +kernel)
set_option maxRecDepth 20000 in
theorem g_392_putWord : GoodIn rf_bw [Cond.code yX12_putWord cX12_putWord 5 none, .methodLink RX12 392 yX12_putWord, .instanceMethod yX12_putWord, .selects RX12 yX12_putWord yX12_putWord, .initialized RX12] := rf_gr _ [343, 340, 341, 342, 107] rfl (by decide +kernel)
set_option maxRecDepth 20000 in
theorem g_396_normal : GoodIn rf_bw [Cond.code yX12_normal cX12_normal 12 (some .int), .methodLink RX12 396 yX12_normal, .instanceMethod yX12_normal, .selects RX12 yX12_normal yX12_normal, .initialized RX12] := rf_gr _ [347, 344, 345, 346, 107] rfl (by decide +kernel)
set_option maxRecDepth 20000 in
theorem g_399_sameName : GoodIn rf_bw [Cond.code yX12_sameName cX12_sameName 8 (some .boolean), .methodLink RX12 399 yX12_sameName, .instanceMethod yX12_sameName, .selects RX12 yX12_sameName yX12_sameName, .initialized RX12] := rf_gr _ [351, 348, 349, 350, 107] rfl (by decide +kernel)
set_option maxRecDepth 20000 in
theorem g_412_becomes : GoodIn rf_bw [Cond.code yX12_becomes cX12_becomes 3 none, .methodLink RX12 412 yX12_becomes, .instanceMethod yX12_becomes, .selects RX12 yX12_becomes yX12_becomes, .initialized RX12] := rf_gr _ [355, 352, 353, 354, 107] rfl (by decide +kernel)
set_option maxRecDepth 20000 in
theorem g_415_knownOf : GoodIn rf_bw [Cond.code yX12_knownOf cX12_knownOf 4 (some .int), .methodLink RX12 415 yX12_knownOf, .instanceMethod yX12_knownOf, .selects RX12 yX12_knownOf yX12_knownOf, .initialized RX12] := rf_gr _ [359, 356, 357, 358, 107] rfl (by decide +kernel)
set_option maxRecDepth 20000 in
theorem g_418_sortOf : GoodIn rf_bw [Cond.code yX12_sortOf cX12_sortOf 4 (some .int), .methodLink RX12 418 yX12_sortOf, .instanceMethod yX12_sortOf, .selects RX12 yX12_sortOf yX12_sortOf, .initialized RX12] := rf_gr _ [363, 360, 361, 362, 107] rfl (by decide +kernel)
set_option maxRecDepth 20000 in
theorem g_421_judge : GoodIn rf_bw [Cond.code yX12_judge cX12_judge 3 none, .methodLink RX12 421 yX12_judge, .instanceMethod yX12_judge, .selects RX12 yX12_judge yX12_judge, .initialized RX12] := rf_gr _ [367, 364, 365, 366, 107] rfl (by decide +kernel)
set_option maxRecDepth 20000 in
theorem g_424_judgeLambda : GoodIn rf_bw [Cond.code yX12_judgeLambda cX12_judgeLambda 8 none, .methodLink RX12 424 yX12_judgeLambda, .instanceMethod yX12_judgeLambda, .selects RX12 yX12_judgeLambda yX12_judgeLambda, .initialized RX12] := rf_gr _ [371, 368, 369, 370, 107] rfl (by decide +kernel)
set_option maxRecDepth 20000 in
theorem g_427_judgeProduct : GoodIn rf_bw [Cond.code yX12_judgeProduct cX12_judgeProduct 8 none, .methodLink RX12 427 yX12_judgeProduct, .instanceMethod yX12_judgeProduct, .selects RX12 yX12_judgeProduct yX12_judgeProduct, .initialized RX12] := rf_gr _ [375, 372, 373, 374, 107] rfl (by decide +kernel)
set_option maxRecDepth 20000 in
theorem g_430_bind : GoodIn rf_bw [Cond.code yX12_bind cX12_bind 4 none, .methodLink RX12 430 yX12_bind, .instanceMethod yX12_bind, .selects RX12 yX12_bind yX12_bind, .initialized RX12] := rf_gr _ [379, 376, 377, 378, 107] rfl (by decide +kernel)
set_option maxRecDepth 20000 in
theorem g_434_judgeUse : GoodIn rf_bw [Cond.code yX12_judgeUse cX12_judgeUse 6 none, .methodLink RX12 434 yX12_judgeUse, .instanceMethod yX12_judgeUse, .selects RX12 yX12_judgeUse yX12_judgeUse, .initialized RX12] := rf_gr _ [383, 380, 381, 382, 107] rfl (by decide +kernel)
set_option maxRecDepth 20000 in
theorem g_437_judgeName : GoodIn rf_bw [Cond.code yX12_judgeName cX12_judgeName 7 none, .methodLink RX12 437 yX12_judgeName, .instanceMethod yX12_judgeName, .selects RX12 yX12_judgeName yX12_judgeName, .initialized RX12] := rf_gr _ [387, 384, 385, 386, 107] rfl (by decide +kernel)
set_option maxRecDepth 20000 in
theorem g_440_judgeSort : GoodIn rf_bw [Cond.code yX12_judgeSort cX12_judgeSort 4 (some .int), .methodLink RX12 440 yX12_judgeSort, .instanceMethod yX12_judgeSort, .selects RX12 yX12_judgeSort yX12_judgeSort, .initialized RX12] := rf_gr _ [391, 388, 389, 390, 107] rfl (by decide +kernel)
set_option maxRecDepth 20000 in
theorem g_446_applied : GoodIn rf_bw [Cond.code yX12_applied cX12_applied 7 none, .methodLink RX12 446 yX12_applied, .instanceMethod yX12_applied, .selects RX12 yX12_applied yX12_applied, .initialized RX12] := rf_gr _ [395, 392, 393, 394, 107] rfl (by decide +kernel)
set_option maxRecDepth 20000 in
theorem g_452_tables : GoodIn rf_bw [Cond.code yX12_tables cX12_tables 4 none, .methodLink RX12 452 yX12_tables, .instanceMethod yX12_tables, .selects RX12 yX12_tables yX12_tables, .initialized RX12] := rf_gr _ [399, 396, 397, 398, 107] rfl (by decide +kernel)
set_option maxRecDepth 20000 in
theorem g_455_yes : GoodIn rf_bw [Cond.code yX12_yes cX12_yes 2 none, .methodLink RX12 455 yX12_yes, .instanceMethod yX12_yes, .selects RX12 yX12_yes yX12_yes, .initialized RX12] := rf_gr _ [403, 400, 401, 402, 107] rfl (by decide +kernel)
set_option maxRecDepth 20000 in
theorem g_459_tellLine : GoodIn rf_bw [Cond.code yX12_tellLine cX12_tellLine 2 none, .methodLink RX12 459 yX12_tellLine, .instanceMethod yX12_tellLine, .selects RX12 yX12_tellLine yX12_tellLine, .initialized RX12] := rf_gr _ [407, 404, 405, 406, 107] rfl (by decide +kernel)
set_option maxRecDepth 20000 in
theorem g_462_tellHead : GoodIn rf_bw [Cond.code yX12_tellHead cX12_tellHead 2 none, .methodLink RX12 462 yX12_tellHead, .instanceMethod yX12_tellHead, .selects RX12 yX12_tellHead yX12_tellHead, .initialized RX12] := rf_gr _ [411, 408, 409, 410, 107] rfl (by decide +kernel)
set_option maxRecDepth 20000 in
theorem g_465_told : GoodIn rf_bw [Cond.code yX12_told cX12_told 4 none, .methodLink RX12 465 yX12_told, .instanceMethod yX12_told, .selects RX12 yX12_told yX12_told, .initialized RX12] := rf_gr _ [415, 412, 413, 414, 107] rfl (by decide +kernel)
set_option maxRecDepth 20000 in
theorem g_468_fail : GoodIn rf_bw [Cond.code yX12_fail cX12_fail 2 (some .int), .methodLink RX12 468 yX12_fail, .instanceMethod yX12_fail, .selects RX12 yX12_fail yX12_fail, .initialized RX12] := rf_gr _ [419, 416, 417, 418, 107] rfl (by decide +kernel)
set_option maxRecDepth 20000 in
theorem g_474_readAll : GoodIn rf_bw [Cond.code yX12_readAll cX12_readAll 1 none, .methodLink RX12 474 yX12_readAll, .instanceMethod yX12_readAll, .selects RX12 yX12_readAll yX12_readAll, .initialized RX12] := rf_gr _ [423, 420, 421, 422, 107] rfl (by decide +kernel)
set_option maxRecDepth 20000 in
theorem g_477_begin : GoodIn rf_bw [Cond.code yX12_begin cX12_begin 1 none, .methodLink RX12 477 yX12_begin, .instanceMethod yX12_begin, .selects RX12 yX12_begin yX12_begin, .initialized RX12] := rf_gr _ [427, 424, 425, 426, 107] rfl (by decide +kernel)
set_option maxRecDepth 20000 in
theorem g_480_doStatement : GoodIn rf_bw [Cond.code yX12_doStatement cX12_doStatement 2 none, .methodLink RX12 480 yX12_doStatement, .instanceMethod yX12_doStatement, .selects RX12 yX12_doStatement yX12_doStatement, .initialized RX12] := rf_gr _ [431, 428, 429, 430, 107] rfl (by decide +kernel)
set_option maxRecDepth 20000 in
theorem g_483_drop : GoodIn rf_bw [Cond.code yX12_drop cX12_drop 1 none, .methodLink RX12 483 yX12_drop, .instanceMethod yX12_drop, .selects RX12 yX12_drop yX12_drop, .initialized RX12] := rf_gr _ [435, 432, 433, 434, 107] rfl (by decide +kernel)
