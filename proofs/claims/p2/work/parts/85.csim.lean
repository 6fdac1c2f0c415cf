def cw_body (bd : cBd) (rec : Nat → CS → List Int → CO) (d k : Nat) (σ : CS) (as : List Int) : CO := match k, as with
  | 0, [a0, a1] => if 5 ≤ d then pc_J15_checkIndex_7cf53_0 rec bd σ a0 a1 else none
  | 1, [a0, a1, a2] => if 5 ≤ d then pc_J3_checkIndex_8e157_0 rec bd σ a0 a1 a2 else none
  | 2, [a0, a1] => if 5 ≤ d then pc_J7_copyOf_1904c_0 rec bd σ a0 a1 else none
  | 3, [a0, a1, a2] => if 5 ≤ d then pc_J7_copyOf_6403c_0 rec bd σ a0 a1 a2 else none
  | 4, [a0, a1] => if 5 ≤ d then pc_J8_hugeLength_7cf53_0 rec bd σ a0 a1 else none
  | 5, [a0, a1, a2] => if 5 ≤ d then pc_J8_newLength_cabcc_0 rec bd σ a0 a1 a2 else none
  | 6, [a0, a1, a2, a3] => if 5 ≤ d then pc_Jx4a65c_add_72be8_0 rec bd σ a0 a1 a2 a3 else none
  | 7, [a0, a1] => if 5 ≤ d then pc_Jx4a65c_add_9ea2d_0 rec bd σ a0 a1 else none
  | 8, [a0, a1] => if 5 ≤ d then pc_Jx4a65c_elementData_915e3_0 rec bd σ a0 a1 else none
  | 9, [a0, a1] => if 5 ≤ d then pc_Jx4a65c_get_915e3_0 rec bd σ a0 a1 else none
  | 10, [a0, a1] => if 5 ≤ d then pc_Jx4a65c_grow_92f84_0 rec bd σ a0 a1 else none
  | 11, [a0] => if 5 ≤ d then pc_Jx4a65c_grow_d5877_0 rec bd σ a0 else none
  | 12, [a0] => if 5 ≤ d then pc_Jx4a65c_init_da8c8_0 rec bd σ a0 else none
  | 13, [a0] => if 5 ≤ d then pc_Jx4a65c_size_8abf5_0 rec bd σ a0 else none
  | 14, [a0] => if 5 ≤ d then pc_Jxa1e45_init_da8c8_0 rec bd σ a0 else none
  | 15, [a0] => if 5 ≤ d then pc_Jxc12de_init_da8c8_0 rec bd σ a0 else none
  | 16, [a0, a1, a2, a3, a4, a5] => if 5 ≤ d then pc_X0_addName_0 rec bd σ a0 a1 a2 a3 a4 a5 else none
  | 17, [a0, a1] => if 5 ≤ d then pc_X0_axiomOf_0 rec bd σ a0 a1 else none
  | 18, [a0] => if 5 ≤ d then pc_X0_clear_0 rec bd σ a0 else none
  | 19, [a0] => if 5 ≤ d then pc_X0_init_0 rec bd σ a0 else none
  | 20, [a0, a1] => if 5 ≤ d then pc_X0_loadCorner_0 rec bd σ a0 a1 else none
  | 21, [a0, a1, a2] => if 5 ≤ d then pc_X0_ruleOf_0 rec bd σ a0 a1 a2 else none
  | 22, [a0, a1, a2] => if 5 ≤ d then pc_X0_setAxiom_0 rec bd σ a0 a1 a2 else none
  | 23, [a0, a1, a2, a3] => if 5 ≤ d then pc_X0_setRule_0 rec bd σ a0 a1 a2 a3 else none
  | 24, [a0, a1] => if 5 ≤ d then pc_X0_valueOf_0 rec bd σ a0 a1 else none
  | 25, [a0, a1] => if 5 ≤ d then pc_X1_envOfSecond_0 rec bd σ a0 a1 else none
  | 26, [a0, a1, a2, a3, a4] => if 5 ≤ d then pc_X1_init_0 rec bd σ a0 a1 a2 a3 a4 else none
  | 27, [a0] => if 5 ≤ d then pc_X1_isBinder_0 rec bd σ a0 else none
  | 28, [a0] => if 5 ≤ d then pc_X10_clear_0 rec bd σ a0 else none
  | 29, [a0] => if 5 ≤ d then pc_X10_init_0 rec bd σ a0 else none
  | 30, [a0, a1, a2] => if 5 ≤ d then pc_X10_set_0 rec bd σ a0 a1 a2 else none
  | 31, [a0, a1] => if 5 ≤ d then pc_X11_addAxiom_0 rec bd σ a0 a1 else none
  | 32, [a0, a1] => if 5 ≤ d then pc_X11_addRule_0 rec bd σ a0 a1 else none
  | 33, [a0, a1] => if 5 ≤ d then pc_X11_addSort_0 rec bd σ a0 a1 else none
  | 34, [a0, a1] => if 5 ≤ d then pc_X11_answerSame_0 rec bd σ a0 a1 else none
  | 35, [a0, a1] => if 5 ≤ d then pc_X11_assume_0 rec bd σ a0 a1 else none
  | 36, [a0] => if 5 ≤ d then pc_X11_back_0 rec bd σ a0 else none
  | 37, [a0, a1] => if 5 ≤ d then pc_X11_check_0 rec bd σ a0 a1 else none
  | 38, [a0, a1, a2] => if 5 ≤ d then pc_X11_compareNames_0 rec bd σ a0 a1 a2 else none
  | 39, [a0, a1] => if 5 ≤ d then pc_X11_corner_0 rec bd σ a0 a1 else none
  | 40, [a0, a1] => if 5 ≤ d then pc_X11_count_0 rec bd σ a0 a1 else none
  | 41, [a0, a1] => if 5 ≤ d then pc_X11_define_0 rec bd σ a0 a1 else none
  | 42, [a0, a1] => if 5 ≤ d then pc_X11_fault_0 rec bd σ a0 a1 else none
  | 43, [a0, a1, a2, a3, a4, a5] => if 5 ≤ d then pc_X11_feed_0 rec bd σ a0 a1 a2 a3 a4 a5 else none
  | 44, [a0, a1] => if 5 ≤ d then pc_X11_feedFour_0 rec bd σ a0 a1 else none
  | 45, [a0] => if 5 ≤ d then pc_X11_init_0 rec bd σ a0 else none
  | 46, [a0, a1] => if 5 ≤ d then pc_X11_limit_0 rec bd σ a0 a1 else none
  | 47, [a0] => if 5 ≤ d then pc_X11_mark_0 rec bd σ a0 else none
  | 48, [a0, a1, a2] => if 5 ≤ d then pc_X11_name_0 rec bd σ a0 a1 a2 else none
  | 49, [a0, a1] => if 5 ≤ d then pc_X11_needNewName_0 rec bd σ a0 a1 else none
  | 50, [a0, a1, a2, a3] => if 5 ≤ d then pc_X11_needSame_0 rec bd σ a0 a1 a2 a3 else none
  | 51, [a0, a1] => if 5 ≤ d then pc_X11_neededSort_0 rec bd σ a0 a1 else none
  | 52, [a0, a1] => if 5 ≤ d then pc_X11_out_0 rec bd σ a0 a1 else none
  | 53, [a0] => if 5 ≤ d then pc_X11_outs_0 rec bd σ a0 else none
  | 54, [a0, a1] => if 5 ≤ d then pc_X11_perform_0 rec bd σ a0 a1 else none
  | 55, [a0, a1] => if 5 ≤ d then pc_X11_refuseBesideNames_0 rec bd σ a0 a1 else none
  | 56, [a0, a1, a2] => if 5 ≤ d then pc_X11_rule_0 rec bd σ a0 a1 a2 else none
  | 57, [a0, a1] => if 5 ≤ d then pc_X11_runText_0 rec bd σ a0 a1 else none
  | 58, [a0, a1, a2] => if 5 ≤ d then pc_X11_same_0 rec bd σ a0 a1 a2 else none
  | 59, [a0, a1, a2] => if 5 ≤ d then pc_X11_sort_0 rec bd σ a0 a1 a2 else none
  | 60, [a0, a1] => if 5 ≤ d then pc_X11_sortNumber_0 rec bd σ a0 a1 else none
  | 61, [a0, a1] => if 5 ≤ d then pc_X11_tellTypeOf_0 rec bd σ a0 a1 else none
  | 62, [a0, a1] => if 5 ≤ d then pc_X11_text_0 rec bd σ a0 a1 else none
  | 63, [a0, a1] => if 5 ≤ d then pc_X11_type_0 rec bd σ a0 a1 else none
  | 64, [a0, a1, a2, a3, a4] => if 5 ≤ d then pc_X2_init_0 rec bd σ a0 a1 a2 a3 a4 else none
  | 65, [a0, a1, a2] => if 5 ≤ d then pc_X2_isNameOf_0 rec bd σ a0 a1 a2 else none
  | 66, [a0, a1, a2] => if 5 ≤ d then pc_X2_judge_0 rec bd σ a0 a1 a2 else none
  | 67, [a0, a1, a2] => if 5 ≤ d then pc_X2_judgeName_0 rec bd σ a0 a1 a2 else none
  | 68, [a0, a1, a2] => if 5 ≤ d then pc_X2_needProduct_0 rec bd σ a0 a1 a2 else none
  | 69, [a0, a1, a2, a3] => if 5 ≤ d then pc_X2_neededRule_0 rec bd σ a0 a1 a2 a3 else none
  | 70, [a0, a1, a2] => if 5 ≤ d then pc_X2_neededSort_0 rec bd σ a0 a1 a2 else none
  | 71, [a0, a1, a2, a3, a4] => if 5 ≤ d then pc_X2_resolve_0 rec bd σ a0 a1 a2 a3 a4 else none
  | 72, [a0, a1] => if 5 ≤ d then pc_X2_sortAsType_0 rec bd σ a0 a1 else none
  | 73, [a0, a1] => if 5 ≤ d then pc_X2_typeOf_0 rec bd σ a0 a1 else none
  | 74, [a0, a1, a2, a3, a4] => if 5 ≤ d then pc_X2_typeOfLambda_0 rec bd σ a0 a1 a2 a3 a4 else none
  | 75, [a0, a1, a2, a3] => if 5 ≤ d then pc_X2_typeOfProduct_0 rec bd σ a0 a1 a2 a3 else none
  | 76, [a0, a1] => if 5 ≤ d then pc_X3_find_0 rec bd σ a0 a1 else none
  | 77, [a0, a1, a2, a3, a4] => if 5 ≤ d then pc_X3_init_0 rec bd σ a0 a1 a2 a3 a4 else none
  | 78, [a0, a1, a2, a3] => if 5 ≤ d then pc_X3_init__0 rec bd σ a0 a1 a2 a3 else none
  | 79, [a0] => if 5 ≤ d then pc_X3_lengthOf_0 rec bd σ a0 else none
  | 80, [a0, a1, a2] => if 5 ≤ d then pc_X4_areSame_0 rec bd σ a0 a1 a2 else none
  | 81, [a0, a1] => if 5 ≤ d then pc_X4_begin_0 rec bd σ a0 a1 else none
  | 82, [a0, a1, a2, a3, a4, a5, a6] => if 5 ≤ d then pc_X4_compare_0 rec bd σ a0 a1 a2 a3 a4 a5 a6 else none
  | 83, [a0, a1, a2] => if 5 ≤ d then pc_X4_head_0 rec bd σ a0 a1 a2 else none
  | 84, [a0, a1, a2] => if 5 ≤ d then pc_X4_init_0 rec bd σ a0 a1 a2 else none
  | 85, [a0, a1] => if 5 ≤ d then pc_X4_look_0 rec bd σ a0 a1 else none
  | 86, [a0, a1, a2] => if 5 ≤ d then pc_X4_normalForm_0 rec bd σ a0 a1 a2 else none
  | 87, [a0, a1, a2, a3, a4] => if 5 ≤ d then pc_X4_normalize_0 rec bd σ a0 a1 a2 a3 a4 else none
  | 88, [a0, a1] => if 5 ≤ d then pc_X4_put_0 rec bd σ a0 a1 else none
  | 89, [a0, a1] => if 5 ≤ d then pc_X4_putAnswer_0 rec bd σ a0 a1 else none
  | 90, [a0, a1] => if 5 ≤ d then pc_X4_putFront_0 rec bd σ a0 a1 else none
  | 91, [a0, a1] => if 5 ≤ d then pc_X4_putNumber_0 rec bd σ a0 a1 else none
  | 92, [a0, a1, a2] => if 5 ≤ d then pc_X4_putSigns_0 rec bd σ a0 a1 a2 else none
  | 93, [a0, a1] => if 5 ≤ d then pc_X4_spend_0 rec bd σ a0 a1 else none
  | 94, [a0, a1, a2, a3, a4, a5] => if 5 ≤ d then pc_X4_tell_0 rec bd σ a0 a1 a2 a3 a4 a5 else none
  | 95, [a0, a1] => if 5 ≤ d then pc_X4_tellHead_0 rec bd σ a0 a1 else none
  | 96, [a0, a1] => if 5 ≤ d then pc_X4_tellWhole_0 rec bd σ a0 a1 else none
  | 97, [a0, a1, a2, a3] => if 5 ≤ d then pc_X5_add_0 rec bd σ a0 a1 a2 a3 else none
  | 98, [a0, a1, a2, a3, a4] => if 5 ≤ d then pc_X5_agree_0 rec bd σ a0 a1 a2 a3 a4 else none
  | 99, [a0, a1, a2, a3] => if 5 ≤ d then pc_X5_find_0 rec bd σ a0 a1 a2 a3 else none
  | 100, [a0, a1] => if 5 ≤ d then pc_X5_has_0 rec bd σ a0 a1 else none
  | 101, [a0, a1] => if 5 ≤ d then pc_X5_init_0 rec bd σ a0 a1 else none
  | 102, [a0] => if 5 ≤ d then pc_X5_isFull_0 rec bd σ a0 else none
  | 103, [a0, a1, a2] => if 5 ≤ d then pc_X5_signOf_0 rec bd σ a0 a1 a2 else none
  | 104, [a0, a1, a2, a3] => if 5 ≤ d then pc_X6_binder_0 rec bd σ a0 a1 a2 a3 else none
  | 105, [a0, a1, a2] => if 5 ≤ d then pc_X6_init_0 rec bd σ a0 a1 a2 else none
  | 106, [a0, a1, a2] => if 5 ≤ d then pc_X6_keepSorts_0 rec bd σ a0 a1 a2 else none
  | 107, [a0, a1] => if 5 ≤ d then pc_X6_named_0 rec bd σ a0 a1 else none
  | 108, [a0, a1] => if 5 ≤ d then pc_X6_use_0 rec bd σ a0 a1 else none
  | 109, [a0] => if 5 ≤ d then pc_X7_advance_0 rec bd σ a0 else none
  | 110, [a0, a1] => if 5 ≤ d then pc_X7_atom_0 rec bd σ a0 a1 else none
  | 111, [a0] => if 5 ≤ d then pc_X7_atomBegins_0 rec bd σ a0 else none
  | 112, [a0, a1] => if 5 ≤ d then pc_X7_axiom_0 rec bd σ a0 a1 else none
  | 113, [a0, a1] => if 5 ≤ d then pc_X7_behindBlanks_0 rec bd σ a0 a1 else none
  | 114, [a0, a1] => if 5 ≤ d then pc_X7_binder_0 rec bd σ a0 a1 else none
  | 115, [a0, a1] => if 5 ≤ d then pc_X7_closeOf_0 rec bd σ a0 a1 else none
  | 116, [a0, a1] => if 5 ≤ d then pc_X7_expect_0 rec bd σ a0 a1 else none
  | 117, [a0, a1, a2] => if 5 ≤ d then pc_X7_init_0 rec bd σ a0 a1 a2 else none
  | 118, [a0] => if 5 ≤ d then pc_X7_isLetter_0 rec bd σ a0 else none
  | 119, [a0] => if 5 ≤ d then pc_X7_isNameSign_0 rec bd σ a0 else none
  | 120, [a0, a1] => if 5 ≤ d then pc_X7_isWord_0 rec bd σ a0 a1 else none
  | 121, [a0, a1] => if 5 ≤ d then pc_X7_nameStatement_0 rec bd σ a0 a1 else none
  | 122, [a0] => if 5 ≤ d then pc_X7_nameToken_0 rec bd σ a0 else none
  | 123, [a0] => if 5 ≤ d then pc_X7_newId_0 rec bd σ a0 else none
  | 124, [a0, a1] => if 5 ≤ d then pc_X7_readText_0 rec bd σ a0 a1 else none
  | 125, [a0] => if 5 ≤ d then pc_X7_refuse_0 rec bd σ a0 else none
  | 126, [a0, a1] => if 5 ≤ d then pc_X7_sameStatement_0 rec bd σ a0 a1 else none
  | 127, [a0] => if 5 ≤ d then pc_X7_scan_0 rec bd σ a0 else none
  | 128, [a0, a1] => if 5 ≤ d then pc_X7_signToken_0 rec bd σ a0 a1 else none
  | 129, [a0] => if 5 ≤ d then pc_X7_statement_0 rec bd σ a0 else none
  | 130, [a0] => if 5 ≤ d then pc_X7_takeName_0 rec bd σ a0 else none
  | 131, [a0, a1] => if 5 ≤ d then pc_X7_term_0 rec bd σ a0 a1 else none
  | 132, [a0, a1, a2] => if 5 ≤ d then pc_X7_termStatement_0 rec bd σ a0 a1 a2 else none
  | 133, [a0, a1] => if 5 ≤ d then pc_X7_use_0 rec bd σ a0 a1 else none
  | 134, [a0] => if 5 ≤ d then pc_X7_wordNumber_0 rec bd σ a0 else none
  | 135, [a0, a1, a2, a3, a4] => if 5 ≤ d then pc_X8_init_0 rec bd σ a0 a1 a2 a3 a4 else none
  | 136, [a0] => if 5 ≤ d then pc_X8_letsOf_0 rec bd σ a0 else none
  | 137, [a0, a1, a2, a3, a4, a5] => if 5 ≤ d then pc_X9_init_0 rec bd σ a0 a1 a2 a3 a4 a5 else none
  | _, _ => none
def RC (bd : cBd) : Nat → Nat → CS → List Int → CO
  | 0 => fun _ _ _ => none
  | d + 1 => fun k σ as => cc_fin (cw_body bd (RC bd d) d k σ as)
theorem cc_fin_s {x : CO} {y : CS × Nat × Int} (h : cc_fin x = some y) : x = some y ∧ inR y.2.2 := by
  cases x with
  | none => cases h
  | some q =>
    unfold cc_fin at h
    dsimp only at h
    split at h
    · next c => cases h; exact ⟨rfl, c⟩
    · cases h
theorem cc_if5 {d : Nat} {a : CO} {y : CS × Nat × Int} (h : (if 5 ≤ d then a else none) = some y) : 5 ≤ d ∧ a = some y := by
  split at h
  · next c => exact ⟨c, h⟩
  · cases h
theorem cw_sim_J15_checkIndex_7cf53 {l : Launch} {v : cwE} (htr : l.stackTraces = false) {d : Nat} (ih : cw_Rec l v d (RC (cw_bd v) d)) (σ σ' : CS) (kd : Nat) (r : Int) : ∀ as : List Int, cw_body (cw_bd v) (RC (cw_bd v) d) d 0 σ as = some (σ', kd, r) → cw_MetK l v (d + 1) 0 σ as σ' kd r
  | [a0, a1], h => fun ia0 ia1 => pm_J15_checkIndex_7cf53 rfl ih htr (cc_if5 h).1 σ σ' a0 a1 kd r ia0 ia1 (cc_if5 h).2
  | [], _ => trivial
  | [_], _ => trivial
  | (_ :: _ :: _ :: _), _ => trivial
theorem cw_sim_J3_checkIndex_8e157 {l : Launch} {v : cwE} (htr : l.stackTraces = false) {d : Nat} (ih : cw_Rec l v d (RC (cw_bd v) d)) (σ σ' : CS) (kd : Nat) (r : Int) : ∀ as : List Int, cw_body (cw_bd v) (RC (cw_bd v) d) d 1 σ as = some (σ', kd, r) → cw_MetK l v (d + 1) 1 σ as σ' kd r
  | [a0, a1, a2], h => fun ia0 ia1 ia2 => pm_J3_checkIndex_8e157 rfl ih htr (cc_if5 h).1 σ σ' a0 a1 a2 kd r ia0 ia1 ia2 (cc_if5 h).2
  | [], _ => trivial
  | [_], _ => trivial
  | [_, _], _ => trivial
  | (_ :: _ :: _ :: _ :: _), _ => trivial
theorem cw_sim_J7_copyOf_1904c {l : Launch} {v : cwE} (htr : l.stackTraces = false) {d : Nat} (ih : cw_Rec l v d (RC (cw_bd v) d)) (σ σ' : CS) (kd : Nat) (r : Int) : ∀ as : List Int, cw_body (cw_bd v) (RC (cw_bd v) d) d 2 σ as = some (σ', kd, r) → cw_MetK l v (d + 1) 2 σ as σ' kd r
  | [a0, a1], h => fun ia0 ia1 => pm_J7_copyOf_1904c rfl ih htr (cc_if5 h).1 σ σ' a0 a1 kd r ia0 ia1 (cc_if5 h).2
  | [], _ => trivial
  | [_], _ => trivial
  | (_ :: _ :: _ :: _), _ => trivial
theorem cw_sim_J7_copyOf_6403c {l : Launch} {v : cwE} (htr : l.stackTraces = false) {d : Nat} (ih : cw_Rec l v d (RC (cw_bd v) d)) (σ σ' : CS) (kd : Nat) (r : Int) : ∀ as : List Int, cw_body (cw_bd v) (RC (cw_bd v) d) d 3 σ as = some (σ', kd, r) → cw_MetK l v (d + 1) 3 σ as σ' kd r
  | [a0, a1, a2], h => fun ia0 ia1 ia2 => pm_J7_copyOf_6403c rfl ih htr (cc_if5 h).1 σ σ' a0 a1 a2 kd r ia0 ia1 ia2 (cc_if5 h).2
  | [], _ => trivial
  | [_], _ => trivial
  | [_, _], _ => trivial
  | (_ :: _ :: _ :: _ :: _), _ => trivial
theorem cw_sim_J8_hugeLength_7cf53 {l : Launch} {v : cwE} (htr : l.stackTraces = false) {d : Nat} (ih : cw_Rec l v d (RC (cw_bd v) d)) (σ σ' : CS) (kd : Nat) (r : Int) : ∀ as : List Int, cw_body (cw_bd v) (RC (cw_bd v) d) d 4 σ as = some (σ', kd, r) → cw_MetK l v (d + 1) 4 σ as σ' kd r
  | [a0, a1], h => fun ia0 ia1 => pm_J8_hugeLength_7cf53 rfl ih htr (cc_if5 h).1 σ σ' a0 a1 kd r ia0 ia1 (cc_if5 h).2
  | [], _ => trivial
  | [_], _ => trivial
  | (_ :: _ :: _ :: _), _ => trivial
theorem cw_sim_J8_newLength_cabcc {l : Launch} {v : cwE} (htr : l.stackTraces = false) {d : Nat} (ih : cw_Rec l v d (RC (cw_bd v) d)) (σ σ' : CS) (kd : Nat) (r : Int) : ∀ as : List Int, cw_body (cw_bd v) (RC (cw_bd v) d) d 5 σ as = some (σ', kd, r) → cw_MetK l v (d + 1) 5 σ as σ' kd r
  | [a0, a1, a2], h => fun ia0 ia1 ia2 => pm_J8_newLength_cabcc rfl ih htr (cc_if5 h).1 σ σ' a0 a1 a2 kd r ia0 ia1 ia2 (cc_if5 h).2
  | [], _ => trivial
  | [_], _ => trivial
  | [_, _], _ => trivial
  | (_ :: _ :: _ :: _ :: _), _ => trivial
theorem cw_sim_Jx4a65c_add_72be8 {l : Launch} {v : cwE} (htr : l.stackTraces = false) {d : Nat} (ih : cw_Rec l v d (RC (cw_bd v) d)) (σ σ' : CS) (kd : Nat) (r : Int) : ∀ as : List Int, cw_body (cw_bd v) (RC (cw_bd v) d) d 6 σ as = some (σ', kd, r) → cw_MetK l v (d + 1) 6 σ as σ' kd r
  | [a0, a1, a2, a3], h => fun ia0 ia1 ia2 ia3 => pm_Jx4a65c_add_72be8 rfl ih htr (cc_if5 h).1 σ σ' a0 a1 a2 a3 kd r ia0 ia1 ia2 ia3 (cc_if5 h).2
  | [], _ => trivial
  | [_], _ => trivial
  | [_, _], _ => trivial
  | [_, _, _], _ => trivial
  | (_ :: _ :: _ :: _ :: _ :: _), _ => trivial
theorem cw_sim_Jx4a65c_add_9ea2d {l : Launch} {v : cwE} (htr : l.stackTraces = false) {d : Nat} (ih : cw_Rec l v d (RC (cw_bd v) d)) (σ σ' : CS) (kd : Nat) (r : Int) : ∀ as : List Int, cw_body (cw_bd v) (RC (cw_bd v) d) d 7 σ as = some (σ', kd, r) → cw_MetK l v (d + 1) 7 σ as σ' kd r
  | [a0, a1], h => fun ia0 ia1 => pm_Jx4a65c_add_9ea2d rfl ih htr (cc_if5 h).1 σ σ' a0 a1 kd r ia0 ia1 (cc_if5 h).2
  | [], _ => trivial
  | [_], _ => trivial
  | (_ :: _ :: _ :: _), _ => trivial
theorem cw_sim_Jx4a65c_elementData_915e3 {l : Launch} {v : cwE} (htr : l.stackTraces = false) {d : Nat} (ih : cw_Rec l v d (RC (cw_bd v) d)) (σ σ' : CS) (kd : Nat) (r : Int) : ∀ as : List Int, cw_body (cw_bd v) (RC (cw_bd v) d) d 8 σ as = some (σ', kd, r) → cw_MetK l v (d + 1) 8 σ as σ' kd r
  | [a0, a1], h => fun ia0 ia1 => pm_Jx4a65c_elementData_915e3 rfl ih htr (cc_if5 h).1 σ σ' a0 a1 kd r ia0 ia1 (cc_if5 h).2
  | [], _ => trivial
  | [_], _ => trivial
  | (_ :: _ :: _ :: _), _ => trivial
theorem cw_sim_Jx4a65c_get_915e3 {l : Launch} {v : cwE} (htr : l.stackTraces = false) {d : Nat} (ih : cw_Rec l v d (RC (cw_bd v) d)) (σ σ' : CS) (kd : Nat) (r : Int) : ∀ as : List Int, cw_body (cw_bd v) (RC (cw_bd v) d) d 9 σ as = some (σ', kd, r) → cw_MetK l v (d + 1) 9 σ as σ' kd r
  | [a0, a1], h => fun ia0 ia1 => pm_Jx4a65c_get_915e3 rfl ih htr (cc_if5 h).1 σ σ' a0 a1 kd r ia0 ia1 (cc_if5 h).2
  | [], _ => trivial
  | [_], _ => trivial
  | (_ :: _ :: _ :: _), _ => trivial
theorem cw_sim_Jx4a65c_grow_92f84 {l : Launch} {v : cwE} (htr : l.stackTraces = false) {d : Nat} (ih : cw_Rec l v d (RC (cw_bd v) d)) (σ σ' : CS) (kd : Nat) (r : Int) : ∀ as : List Int, cw_body (cw_bd v) (RC (cw_bd v) d) d 10 σ as = some (σ', kd, r) → cw_MetK l v (d + 1) 10 σ as σ' kd r
  | [a0, a1], h => fun ia0 ia1 => pm_Jx4a65c_grow_92f84 rfl ih htr (cc_if5 h).1 σ σ' a0 a1 kd r ia0 ia1 (cc_if5 h).2
  | [], _ => trivial
  | [_], _ => trivial
  | (_ :: _ :: _ :: _), _ => trivial
theorem cw_sim_Jx4a65c_grow_d5877 {l : Launch} {v : cwE} (htr : l.stackTraces = false) {d : Nat} (ih : cw_Rec l v d (RC (cw_bd v) d)) (σ σ' : CS) (kd : Nat) (r : Int) : ∀ as : List Int, cw_body (cw_bd v) (RC (cw_bd v) d) d 11 σ as = some (σ', kd, r) → cw_MetK l v (d + 1) 11 σ as σ' kd r
  | [a0], h => fun ia0 => pm_Jx4a65c_grow_d5877 rfl ih htr (cc_if5 h).1 σ σ' a0 kd r ia0 (cc_if5 h).2
  | [], _ => trivial
  | (_ :: _ :: _), _ => trivial
theorem cw_sim_Jx4a65c_init_da8c8 {l : Launch} {v : cwE} (htr : l.stackTraces = false) {d : Nat} (ih : cw_Rec l v d (RC (cw_bd v) d)) (σ σ' : CS) (kd : Nat) (r : Int) : ∀ as : List Int, cw_body (cw_bd v) (RC (cw_bd v) d) d 12 σ as = some (σ', kd, r) → cw_MetK l v (d + 1) 12 σ as σ' kd r
  | [a0], h => fun ia0 => pm_Jx4a65c_init_da8c8 rfl ih htr (cc_if5 h).1 σ σ' a0 kd r ia0 (cc_if5 h).2
  | [], _ => trivial
  | (_ :: _ :: _), _ => trivial
theorem cw_sim_Jx4a65c_size_8abf5 {l : Launch} {v : cwE} (htr : l.stackTraces = false) {d : Nat} (ih : cw_Rec l v d (RC (cw_bd v) d)) (σ σ' : CS) (kd : Nat) (r : Int) : ∀ as : List Int, cw_body (cw_bd v) (RC (cw_bd v) d) d 13 σ as = some (σ', kd, r) → cw_MetK l v (d + 1) 13 σ as σ' kd r
  | [a0], h => fun ia0 => pm_Jx4a65c_size_8abf5 rfl ih htr (cc_if5 h).1 σ σ' a0 kd r ia0 (cc_if5 h).2
  | [], _ => trivial
  | (_ :: _ :: _), _ => trivial
theorem cw_sim_Jxa1e45_init_da8c8 {l : Launch} {v : cwE} (htr : l.stackTraces = false) {d : Nat} (ih : cw_Rec l v d (RC (cw_bd v) d)) (σ σ' : CS) (kd : Nat) (r : Int) : ∀ as : List Int, cw_body (cw_bd v) (RC (cw_bd v) d) d 14 σ as = some (σ', kd, r) → cw_MetK l v (d + 1) 14 σ as σ' kd r
  | [a0], h => fun ia0 => pm_Jxa1e45_init_da8c8 rfl ih htr (cc_if5 h).1 σ σ' a0 kd r ia0 (cc_if5 h).2
  | [], _ => trivial
  | (_ :: _ :: _), _ => trivial
theorem cw_sim_Jxc12de_init_da8c8 {l : Launch} {v : cwE} (htr : l.stackTraces = false) {d : Nat} (ih : cw_Rec l v d (RC (cw_bd v) d)) (σ σ' : CS) (kd : Nat) (r : Int) : ∀ as : List Int, cw_body (cw_bd v) (RC (cw_bd v) d) d 15 σ as = some (σ', kd, r) → cw_MetK l v (d + 1) 15 σ as σ' kd r
  | [a0], h => fun ia0 => pm_Jxc12de_init_da8c8 rfl ih htr (cc_if5 h).1 σ σ' a0 kd r ia0 (cc_if5 h).2
  | [], _ => trivial
  | (_ :: _ :: _), _ => trivial
theorem cw_sim_X0_addName {l : Launch} {v : cwE} (htr : l.stackTraces = false) {d : Nat} (ih : cw_Rec l v d (RC (cw_bd v) d)) (σ σ' : CS) (kd : Nat) (r : Int) : ∀ as : List Int, cw_body (cw_bd v) (RC (cw_bd v) d) d 16 σ as = some (σ', kd, r) → cw_MetK l v (d + 1) 16 σ as σ' kd r
  | [a0, a1, a2, a3, a4, a5], h => fun ia0 ia1 ia2 ia3 ia4 ia5 => pm_X0_addName rfl ih htr (cc_if5 h).1 σ σ' a0 a1 a2 a3 a4 a5 kd r ia0 ia1 ia2 ia3 ia4 ia5 (cc_if5 h).2
  | [], _ => trivial
  | [_], _ => trivial
  | [_, _], _ => trivial
  | [_, _, _], _ => trivial
  | [_, _, _, _], _ => trivial
  | [_, _, _, _, _], _ => trivial
  | (_ :: _ :: _ :: _ :: _ :: _ :: _ :: _), _ => trivial
theorem cw_sim_X0_axiomOf {l : Launch} {v : cwE} (htr : l.stackTraces = false) {d : Nat} (ih : cw_Rec l v d (RC (cw_bd v) d)) (σ σ' : CS) (kd : Nat) (r : Int) : ∀ as : List Int, cw_body (cw_bd v) (RC (cw_bd v) d) d 17 σ as = some (σ', kd, r) → cw_MetK l v (d + 1) 17 σ as σ' kd r
  | [a0, a1], h => fun ia0 ia1 => pm_X0_axiomOf rfl ih htr (cc_if5 h).1 σ σ' a0 a1 kd r ia0 ia1 (cc_if5 h).2
  | [], _ => trivial
  | [_], _ => trivial
  | (_ :: _ :: _ :: _), _ => trivial
theorem cw_sim_X0_clear {l : Launch} {v : cwE} (htr : l.stackTraces = false) {d : Nat} (ih : cw_Rec l v d (RC (cw_bd v) d)) (σ σ' : CS) (kd : Nat) (r : Int) : ∀ as : List Int, cw_body (cw_bd v) (RC (cw_bd v) d) d 18 σ as = some (σ', kd, r) → cw_MetK l v (d + 1) 18 σ as σ' kd r
  | [a0], h => fun ia0 => pm_X0_clear rfl ih htr (cc_if5 h).1 σ σ' a0 kd r ia0 (cc_if5 h).2
  | [], _ => trivial
  | (_ :: _ :: _), _ => trivial
theorem cw_sim_X0_init {l : Launch} {v : cwE} (htr : l.stackTraces = false) {d : Nat} (ih : cw_Rec l v d (RC (cw_bd v) d)) (σ σ' : CS) (kd : Nat) (r : Int) : ∀ as : List Int, cw_body (cw_bd v) (RC (cw_bd v) d) d 19 σ as = some (σ', kd, r) → cw_MetK l v (d + 1) 19 σ as σ' kd r
  | [a0], h => fun ia0 => pm_X0_init rfl ih htr (cc_if5 h).1 σ σ' a0 kd r ia0 (cc_if5 h).2
  | [], _ => trivial
  | (_ :: _ :: _), _ => trivial
theorem cw_sim_X0_loadCorner {l : Launch} {v : cwE} (htr : l.stackTraces = false) {d : Nat} (ih : cw_Rec l v d (RC (cw_bd v) d)) (σ σ' : CS) (kd : Nat) (r : Int) : ∀ as : List Int, cw_body (cw_bd v) (RC (cw_bd v) d) d 20 σ as = some (σ', kd, r) → cw_MetK l v (d + 1) 20 σ as σ' kd r
  | [a0, a1], h => fun ia0 ia1 => pm_X0_loadCorner rfl ih htr (cc_if5 h).1 σ σ' a0 a1 kd r ia0 ia1 (cc_if5 h).2
  | [], _ => trivial
  | [_], _ => trivial
  | (_ :: _ :: _ :: _), _ => trivial
theorem cw_sim_X0_ruleOf {l : Launch} {v : cwE} (htr : l.stackTraces = false) {d : Nat} (ih : cw_Rec l v d (RC (cw_bd v) d)) (σ σ' : CS) (kd : Nat) (r : Int) : ∀ as : List Int, cw_body (cw_bd v) (RC (cw_bd v) d) d 21 σ as = some (σ', kd, r) → cw_MetK l v (d + 1) 21 σ as σ' kd r
  | [a0, a1, a2], h => fun ia0 ia1 ia2 => pm_X0_ruleOf rfl ih htr (cc_if5 h).1 σ σ' a0 a1 a2 kd r ia0 ia1 ia2 (cc_if5 h).2
  | [], _ => trivial
  | [_], _ => trivial
  | [_, _], _ => trivial
  | (_ :: _ :: _ :: _ :: _), _ => trivial
theorem cw_sim_X0_setAxiom {l : Launch} {v : cwE} (htr : l.stackTraces = false) {d : Nat} (ih : cw_Rec l v d (RC (cw_bd v) d)) (σ σ' : CS) (kd : Nat) (r : Int) : ∀ as : List Int, cw_body (cw_bd v) (RC (cw_bd v) d) d 22 σ as = some (σ', kd, r) → cw_MetK l v (d + 1) 22 σ as σ' kd r
  | [a0, a1, a2], h => fun ia0 ia1 ia2 => pm_X0_setAxiom rfl ih htr (cc_if5 h).1 σ σ' a0 a1 a2 kd r ia0 ia1 ia2 (cc_if5 h).2
  | [], _ => trivial
  | [_], _ => trivial
  | [_, _], _ => trivial
  | (_ :: _ :: _ :: _ :: _), _ => trivial
theorem cw_sim_X0_setRule {l : Launch} {v : cwE} (htr : l.stackTraces = false) {d : Nat} (ih : cw_Rec l v d (RC (cw_bd v) d)) (σ σ' : CS) (kd : Nat) (r : Int) : ∀ as : List Int, cw_body (cw_bd v) (RC (cw_bd v) d) d 23 σ as = some (σ', kd, r) → cw_MetK l v (d + 1) 23 σ as σ' kd r
  | [a0, a1, a2, a3], h => fun ia0 ia1 ia2 ia3 => pm_X0_setRule rfl ih htr (cc_if5 h).1 σ σ' a0 a1 a2 a3 kd r ia0 ia1 ia2 ia3 (cc_if5 h).2
  | [], _ => trivial
  | [_], _ => trivial
  | [_, _], _ => trivial
  | [_, _, _], _ => trivial
  | (_ :: _ :: _ :: _ :: _ :: _), _ => trivial
theorem cw_sim_X0_valueOf {l : Launch} {v : cwE} (htr : l.stackTraces = false) {d : Nat} (ih : cw_Rec l v d (RC (cw_bd v) d)) (σ σ' : CS) (kd : Nat) (r : Int) : ∀ as : List Int, cw_body (cw_bd v) (RC (cw_bd v) d) d 24 σ as = some (σ', kd, r) → cw_MetK l v (d + 1) 24 σ as σ' kd r
  | [a0, a1], h => fun ia0 ia1 => pm_X0_valueOf rfl ih htr (cc_if5 h).1 σ σ' a0 a1 kd r ia0 ia1 (cc_if5 h).2
  | [], _ => trivial
  | [_], _ => trivial
  | (_ :: _ :: _ :: _), _ => trivial
theorem cw_sim_X1_envOfSecond {l : Launch} {v : cwE} (htr : l.stackTraces = false) {d : Nat} (ih : cw_Rec l v d (RC (cw_bd v) d)) (σ σ' : CS) (kd : Nat) (r : Int) : ∀ as : List Int, cw_body (cw_bd v) (RC (cw_bd v) d) d 25 σ as = some (σ', kd, r) → cw_MetK l v (d + 1) 25 σ as σ' kd r
  | [a0, a1], h => fun ia0 ia1 => pm_X1_envOfSecond rfl ih htr (cc_if5 h).1 σ σ' a0 a1 kd r ia0 ia1 (cc_if5 h).2
  | [], _ => trivial
  | [_], _ => trivial
  | (_ :: _ :: _ :: _), _ => trivial
theorem cw_sim_X1_init {l : Launch} {v : cwE} (htr : l.stackTraces = false) {d : Nat} (ih : cw_Rec l v d (RC (cw_bd v) d)) (σ σ' : CS) (kd : Nat) (r : Int) : ∀ as : List Int, cw_body (cw_bd v) (RC (cw_bd v) d) d 26 σ as = some (σ', kd, r) → cw_MetK l v (d + 1) 26 σ as σ' kd r
  | [a0, a1, a2, a3, a4], h => fun ia0 ia1 ia2 ia3 ia4 => pm_X1_init rfl ih htr (cc_if5 h).1 σ σ' a0 a1 a2 a3 a4 kd r ia0 ia1 ia2 ia3 ia4 (cc_if5 h).2
  | [], _ => trivial
  | [_], _ => trivial
  | [_, _], _ => trivial
  | [_, _, _], _ => trivial
  | [_, _, _, _], _ => trivial
  | (_ :: _ :: _ :: _ :: _ :: _ :: _), _ => trivial
theorem cw_sim_X1_isBinder {l : Launch} {v : cwE} (htr : l.stackTraces = false) {d : Nat} (ih : cw_Rec l v d (RC (cw_bd v) d)) (σ σ' : CS) (kd : Nat) (r : Int) : ∀ as : List Int, cw_body (cw_bd v) (RC (cw_bd v) d) d 27 σ as = some (σ', kd, r) → cw_MetK l v (d + 1) 27 σ as σ' kd r
  | [a0], h => fun ia0 => pm_X1_isBinder rfl ih htr (cc_if5 h).1 σ σ' a0 kd r ia0 (cc_if5 h).2
  | [], _ => trivial
  | (_ :: _ :: _), _ => trivial
theorem cw_sim_X10_clear {l : Launch} {v : cwE} (htr : l.stackTraces = false) {d : Nat} (ih : cw_Rec l v d (RC (cw_bd v) d)) (σ σ' : CS) (kd : Nat) (r : Int) : ∀ as : List Int, cw_body (cw_bd v) (RC (cw_bd v) d) d 28 σ as = some (σ', kd, r) → cw_MetK l v (d + 1) 28 σ as σ' kd r
  | [a0], h => fun ia0 => pm_X10_clear rfl ih htr (cc_if5 h).1 σ σ' a0 kd r ia0 (cc_if5 h).2
  | [], _ => trivial
  | (_ :: _ :: _), _ => trivial
theorem cw_sim_X10_init {l : Launch} {v : cwE} (htr : l.stackTraces = false) {d : Nat} (ih : cw_Rec l v d (RC (cw_bd v) d)) (σ σ' : CS) (kd : Nat) (r : Int) : ∀ as : List Int, cw_body (cw_bd v) (RC (cw_bd v) d) d 29 σ as = some (σ', kd, r) → cw_MetK l v (d + 1) 29 σ as σ' kd r
  | [a0], h => fun ia0 => pm_X10_init rfl ih htr (cc_if5 h).1 σ σ' a0 kd r ia0 (cc_if5 h).2
  | [], _ => trivial
  | (_ :: _ :: _), _ => trivial
theorem cw_sim_X10_set {l : Launch} {v : cwE} (htr : l.stackTraces = false) {d : Nat} (ih : cw_Rec l v d (RC (cw_bd v) d)) (σ σ' : CS) (kd : Nat) (r : Int) : ∀ as : List Int, cw_body (cw_bd v) (RC (cw_bd v) d) d 30 σ as = some (σ', kd, r) → cw_MetK l v (d + 1) 30 σ as σ' kd r
  | [a0, a1, a2], h => fun ia0 ia1 ia2 => pm_X10_set rfl ih htr (cc_if5 h).1 σ σ' a0 a1 a2 kd r ia0 ia1 ia2 (cc_if5 h).2
  | [], _ => trivial
  | [_], _ => trivial
  | [_, _], _ => trivial
  | (_ :: _ :: _ :: _ :: _), _ => trivial
theorem cw_sim_X11_addAxiom {l : Launch} {v : cwE} (htr : l.stackTraces = false) {d : Nat} (ih : cw_Rec l v d (RC (cw_bd v) d)) (σ σ' : CS) (kd : Nat) (r : Int) : ∀ as : List Int, cw_body (cw_bd v) (RC (cw_bd v) d) d 31 σ as = some (σ', kd, r) → cw_MetK l v (d + 1) 31 σ as σ' kd r
  | [a0, a1], h => fun ia0 ia1 => pm_X11_addAxiom rfl ih htr (cc_if5 h).1 σ σ' a0 a1 kd r ia0 ia1 (cc_if5 h).2
  | [], _ => trivial
  | [_], _ => trivial
  | (_ :: _ :: _ :: _), _ => trivial
theorem cw_sim_X11_addRule {l : Launch} {v : cwE} (htr : l.stackTraces = false) {d : Nat} (ih : cw_Rec l v d (RC (cw_bd v) d)) (σ σ' : CS) (kd : Nat) (r : Int) : ∀ as : List Int, cw_body (cw_bd v) (RC (cw_bd v) d) d 32 σ as = some (σ', kd, r) → cw_MetK l v (d + 1) 32 σ as σ' kd r
  | [a0, a1], h => fun ia0 ia1 => pm_X11_addRule rfl ih htr (cc_if5 h).1 σ σ' a0 a1 kd r ia0 ia1 (cc_if5 h).2
  | [], _ => trivial
  | [_], _ => trivial
  | (_ :: _ :: _ :: _), _ => trivial
theorem cw_sim_X11_addSort {l : Launch} {v : cwE} (htr : l.stackTraces = false) {d : Nat} (ih : cw_Rec l v d (RC (cw_bd v) d)) (σ σ' : CS) (kd : Nat) (r : Int) : ∀ as : List Int, cw_body (cw_bd v) (RC (cw_bd v) d) d 33 σ as = some (σ', kd, r) → cw_MetK l v (d + 1) 33 σ as σ' kd r
  | [a0, a1], h => fun ia0 ia1 => pm_X11_addSort rfl ih htr (cc_if5 h).1 σ σ' a0 a1 kd r ia0 ia1 (cc_if5 h).2
  | [], _ => trivial
  | [_], _ => trivial
  | (_ :: _ :: _ :: _), _ => trivial
theorem cw_sim_X11_answerSame {l : Launch} {v : cwE} (htr : l.stackTraces = false) {d : Nat} (ih : cw_Rec l v d (RC (cw_bd v) d)) (σ σ' : CS) (kd : Nat) (r : Int) : ∀ as : List Int, cw_body (cw_bd v) (RC (cw_bd v) d) d 34 σ as = some (σ', kd, r) → cw_MetK l v (d + 1) 34 σ as σ' kd r
  | [a0, a1], h => fun ia0 ia1 => pm_X11_answerSame rfl ih htr (cc_if5 h).1 σ σ' a0 a1 kd r ia0 ia1 (cc_if5 h).2
  | [], _ => trivial
  | [_], _ => trivial
  | (_ :: _ :: _ :: _), _ => trivial
theorem cw_sim_X11_assume {l : Launch} {v : cwE} (htr : l.stackTraces = false) {d : Nat} (ih : cw_Rec l v d (RC (cw_bd v) d)) (σ σ' : CS) (kd : Nat) (r : Int) : ∀ as : List Int, cw_body (cw_bd v) (RC (cw_bd v) d) d 35 σ as = some (σ', kd, r) → cw_MetK l v (d + 1) 35 σ as σ' kd r
  | [a0, a1], h => fun ia0 ia1 => pm_X11_assume rfl ih htr (cc_if5 h).1 σ σ' a0 a1 kd r ia0 ia1 (cc_if5 h).2
  | [], _ => trivial
  | [_], _ => trivial
  | (_ :: _ :: _ :: _), _ => trivial
theorem cw_sim_X11_back {l : Launch} {v : cwE} (htr : l.stackTraces = false) {d : Nat} (ih : cw_Rec l v d (RC (cw_bd v) d)) (σ σ' : CS) (kd : Nat) (r : Int) : ∀ as : List Int, cw_body (cw_bd v) (RC (cw_bd v) d) d 36 σ as = some (σ', kd, r) → cw_MetK l v (d + 1) 36 σ as σ' kd r
  | [a0], h => fun ia0 => pm_X11_back rfl ih htr (cc_if5 h).1 σ σ' a0 kd r ia0 (cc_if5 h).2
  | [], _ => trivial
  | (_ :: _ :: _), _ => trivial
theorem cw_sim_X11_check {l : Launch} {v : cwE} (htr : l.stackTraces = false) {d : Nat} (ih : cw_Rec l v d (RC (cw_bd v) d)) (σ σ' : CS) (kd : Nat) (r : Int) : ∀ as : List Int, cw_body (cw_bd v) (RC (cw_bd v) d) d 37 σ as = some (σ', kd, r) → cw_MetK l v (d + 1) 37 σ as σ' kd r
  | [a0, a1], h => fun ia0 ia1 => pm_X11_check rfl ih htr (cc_if5 h).1 σ σ' a0 a1 kd r ia0 ia1 (cc_if5 h).2
  | [], _ => trivial
  | [_], _ => trivial
  | (_ :: _ :: _ :: _), _ => trivial
theorem cw_sim_X11_compareNames {l : Launch} {v : cwE} (htr : l.stackTraces = false) {d : Nat} (ih : cw_Rec l v d (RC (cw_bd v) d)) (σ σ' : CS) (kd : Nat) (r : Int) : ∀ as : List Int, cw_body (cw_bd v) (RC (cw_bd v) d) d 38 σ as = some (σ', kd, r) → cw_MetK l v (d + 1) 38 σ as σ' kd r
  | [a0, a1, a2], h => fun ia0 ia1 ia2 => pm_X11_compareNames rfl ih htr (cc_if5 h).1 σ σ' a0 a1 a2 kd r ia0 ia1 ia2 (cc_if5 h).2
  | [], _ => trivial
  | [_], _ => trivial
  | [_, _], _ => trivial
  | (_ :: _ :: _ :: _ :: _), _ => trivial
theorem cw_sim_X11_corner {l : Launch} {v : cwE} (htr : l.stackTraces = false) {d : Nat} (ih : cw_Rec l v d (RC (cw_bd v) d)) (σ σ' : CS) (kd : Nat) (r : Int) : ∀ as : List Int, cw_body (cw_bd v) (RC (cw_bd v) d) d 39 σ as = some (σ', kd, r) → cw_MetK l v (d + 1) 39 σ as σ' kd r
  | [a0, a1], h => fun ia0 ia1 => pm_X11_corner rfl ih htr (cc_if5 h).1 σ σ' a0 a1 kd r ia0 ia1 (cc_if5 h).2
  | [], _ => trivial
  | [_], _ => trivial
  | (_ :: _ :: _ :: _), _ => trivial
theorem cw_sim_X11_count {l : Launch} {v : cwE} (htr : l.stackTraces = false) {d : Nat} (ih : cw_Rec l v d (RC (cw_bd v) d)) (σ σ' : CS) (kd : Nat) (r : Int) : ∀ as : List Int, cw_body (cw_bd v) (RC (cw_bd v) d) d 40 σ as = some (σ', kd, r) → cw_MetK l v (d + 1) 40 σ as σ' kd r
  | [a0, a1], h => fun ia0 ia1 => pm_X11_count rfl ih htr (cc_if5 h).1 σ σ' a0 a1 kd r ia0 ia1 (cc_if5 h).2
  | [], _ => trivial
  | [_], _ => trivial
  | (_ :: _ :: _ :: _), _ => trivial
theorem cw_sim_X11_define {l : Launch} {v : cwE} (htr : l.stackTraces = false) {d : Nat} (ih : cw_Rec l v d (RC (cw_bd v) d)) (σ σ' : CS) (kd : Nat) (r : Int) : ∀ as : List Int, cw_body (cw_bd v) (RC (cw_bd v) d) d 41 σ as = some (σ', kd, r) → cw_MetK l v (d + 1) 41 σ as σ' kd r
  | [a0, a1], h => fun ia0 ia1 => pm_X11_define rfl ih htr (cc_if5 h).1 σ σ' a0 a1 kd r ia0 ia1 (cc_if5 h).2
  | [], _ => trivial
  | [_], _ => trivial
  | (_ :: _ :: _ :: _), _ => trivial
theorem cw_sim_X11_fault {l : Launch} {v : cwE} (htr : l.stackTraces = false) {d : Nat} (ih : cw_Rec l v d (RC (cw_bd v) d)) (σ σ' : CS) (kd : Nat) (r : Int) : ∀ as : List Int, cw_body (cw_bd v) (RC (cw_bd v) d) d 42 σ as = some (σ', kd, r) → cw_MetK l v (d + 1) 42 σ as σ' kd r
  | [a0, a1], h => fun ia0 ia1 => pm_X11_fault rfl ih htr (cc_if5 h).1 σ σ' a0 a1 kd r ia0 ia1 (cc_if5 h).2
  | [], _ => trivial
  | [_], _ => trivial
  | (_ :: _ :: _ :: _), _ => trivial
theorem cw_sim_X11_feed {l : Launch} {v : cwE} (htr : l.stackTraces = false) {d : Nat} (ih : cw_Rec l v d (RC (cw_bd v) d)) (σ σ' : CS) (kd : Nat) (r : Int) : ∀ as : List Int, cw_body (cw_bd v) (RC (cw_bd v) d) d 43 σ as = some (σ', kd, r) → cw_MetK l v (d + 1) 43 σ as σ' kd r
  | [a0, a1, a2, a3, a4, a5], h => fun ia0 ia1 ia2 ia3 ia4 ia5 => pm_X11_feed rfl ih htr (cc_if5 h).1 σ σ' a0 a1 a2 a3 a4 a5 kd r ia0 ia1 ia2 ia3 ia4 ia5 (cc_if5 h).2
  | [], _ => trivial
  | [_], _ => trivial
  | [_, _], _ => trivial
  | [_, _, _], _ => trivial
  | [_, _, _, _], _ => trivial
  | [_, _, _, _, _], _ => trivial
  | (_ :: _ :: _ :: _ :: _ :: _ :: _ :: _), _ => trivial
theorem cw_sim_X11_feedFour {l : Launch} {v : cwE} (htr : l.stackTraces = false) {d : Nat} (ih : cw_Rec l v d (RC (cw_bd v) d)) (σ σ' : CS) (kd : Nat) (r : Int) : ∀ as : List Int, cw_body (cw_bd v) (RC (cw_bd v) d) d 44 σ as = some (σ', kd, r) → cw_MetK l v (d + 1) 44 σ as σ' kd r
  | [a0, a1], h => fun ia0 ia1 => pm_X11_feedFour rfl ih htr (cc_if5 h).1 σ σ' a0 a1 kd r ia0 ia1 (cc_if5 h).2
  | [], _ => trivial
  | [_], _ => trivial
  | (_ :: _ :: _ :: _), _ => trivial
theorem cw_sim_X11_init {l : Launch} {v : cwE} (htr : l.stackTraces = false) {d : Nat} (ih : cw_Rec l v d (RC (cw_bd v) d)) (σ σ' : CS) (kd : Nat) (r : Int) : ∀ as : List Int, cw_body (cw_bd v) (RC (cw_bd v) d) d 45 σ as = some (σ', kd, r) → cw_MetK l v (d + 1) 45 σ as σ' kd r
  | [a0], h => fun ia0 => pm_X11_init rfl ih htr (cc_if5 h).1 σ σ' a0 kd r ia0 (cc_if5 h).2
  | [], _ => trivial
  | (_ :: _ :: _), _ => trivial
theorem cw_sim_X11_limit {l : Launch} {v : cwE} (htr : l.stackTraces = false) {d : Nat} (ih : cw_Rec l v d (RC (cw_bd v) d)) (σ σ' : CS) (kd : Nat) (r : Int) : ∀ as : List Int, cw_body (cw_bd v) (RC (cw_bd v) d) d 46 σ as = some (σ', kd, r) → cw_MetK l v (d + 1) 46 σ as σ' kd r
  | [a0, a1], h => fun ia0 ia1 => pm_X11_limit rfl ih htr (cc_if5 h).1 σ σ' a0 a1 kd r ia0 ia1 (cc_if5 h).2
  | [], _ => trivial
  | [_], _ => trivial
  | (_ :: _ :: _ :: _), _ => trivial
theorem cw_sim_X11_mark {l : Launch} {v : cwE} (htr : l.stackTraces = false) {d : Nat} (ih : cw_Rec l v d (RC (cw_bd v) d)) (σ σ' : CS) (kd : Nat) (r : Int) : ∀ as : List Int, cw_body (cw_bd v) (RC (cw_bd v) d) d 47 σ as = some (σ', kd, r) → cw_MetK l v (d + 1) 47 σ as σ' kd r
  | [a0], h => fun ia0 => pm_X11_mark rfl ih htr (cc_if5 h).1 σ σ' a0 kd r ia0 (cc_if5 h).2
  | [], _ => trivial
  | (_ :: _ :: _), _ => trivial
theorem cw_sim_X11_name {l : Launch} {v : cwE} (htr : l.stackTraces = false) {d : Nat} (ih : cw_Rec l v d (RC (cw_bd v) d)) (σ σ' : CS) (kd : Nat) (r : Int) : ∀ as : List Int, cw_body (cw_bd v) (RC (cw_bd v) d) d 48 σ as = some (σ', kd, r) → cw_MetK l v (d + 1) 48 σ as σ' kd r
  | [a0, a1, a2], h => fun ia0 ia1 ia2 => pm_X11_name rfl ih htr (cc_if5 h).1 σ σ' a0 a1 a2 kd r ia0 ia1 ia2 (cc_if5 h).2
  | [], _ => trivial
  | [_], _ => trivial
  | [_, _], _ => trivial
  | (_ :: _ :: _ :: _ :: _), _ => trivial
theorem cw_sim_X11_needNewName {l : Launch} {v : cwE} (htr : l.stackTraces = false) {d : Nat} (ih : cw_Rec l v d (RC (cw_bd v) d)) (σ σ' : CS) (kd : Nat) (r : Int) : ∀ as : List Int, cw_body (cw_bd v) (RC (cw_bd v) d) d 49 σ as = some (σ', kd, r) → cw_MetK l v (d + 1) 49 σ as σ' kd r
  | [a0, a1], h => fun ia0 ia1 => pm_X11_needNewName rfl ih htr (cc_if5 h).1 σ σ' a0 a1 kd r ia0 ia1 (cc_if5 h).2
  | [], _ => trivial
  | [_], _ => trivial
  | (_ :: _ :: _ :: _), _ => trivial
theorem cw_sim_X11_needSame {l : Launch} {v : cwE} (htr : l.stackTraces = false) {d : Nat} (ih : cw_Rec l v d (RC (cw_bd v) d)) (σ σ' : CS) (kd : Nat) (r : Int) : ∀ as : List Int, cw_body (cw_bd v) (RC (cw_bd v) d) d 50 σ as = some (σ', kd, r) → cw_MetK l v (d + 1) 50 σ as σ' kd r
  | [a0, a1, a2, a3], h => fun ia0 ia1 ia2 ia3 => pm_X11_needSame rfl ih htr (cc_if5 h).1 σ σ' a0 a1 a2 a3 kd r ia0 ia1 ia2 ia3 (cc_if5 h).2
  | [], _ => trivial
  | [_], _ => trivial
  | [_, _], _ => trivial
  | [_, _, _], _ => trivial
  | (_ :: _ :: _ :: _ :: _ :: _), _ => trivial
theorem cw_sim_X11_neededSort {l : Launch} {v : cwE} (htr : l.stackTraces = false) {d : Nat} (ih : cw_Rec l v d (RC (cw_bd v) d)) (σ σ' : CS) (kd : Nat) (r : Int) : ∀ as : List Int, cw_body (cw_bd v) (RC (cw_bd v) d) d 51 σ as = some (σ', kd, r) → cw_MetK l v (d + 1) 51 σ as σ' kd r
  | [a0, a1], h => fun ia0 ia1 => pm_X11_neededSort rfl ih htr (cc_if5 h).1 σ σ' a0 a1 kd r ia0 ia1 (cc_if5 h).2
  | [], _ => trivial
  | [_], _ => trivial
  | (_ :: _ :: _ :: _), _ => trivial
theorem cw_sim_X11_out {l : Launch} {v : cwE} (htr : l.stackTraces = false) {d : Nat} (ih : cw_Rec l v d (RC (cw_bd v) d)) (σ σ' : CS) (kd : Nat) (r : Int) : ∀ as : List Int, cw_body (cw_bd v) (RC (cw_bd v) d) d 52 σ as = some (σ', kd, r) → cw_MetK l v (d + 1) 52 σ as σ' kd r
  | [a0, a1], h => fun ia0 ia1 => pm_X11_out rfl ih htr (cc_if5 h).1 σ σ' a0 a1 kd r ia0 ia1 (cc_if5 h).2
  | [], _ => trivial
  | [_], _ => trivial
  | (_ :: _ :: _ :: _), _ => trivial
theorem cw_sim_X11_outs {l : Launch} {v : cwE} (htr : l.stackTraces = false) {d : Nat} (ih : cw_Rec l v d (RC (cw_bd v) d)) (σ σ' : CS) (kd : Nat) (r : Int) : ∀ as : List Int, cw_body (cw_bd v) (RC (cw_bd v) d) d 53 σ as = some (σ', kd, r) → cw_MetK l v (d + 1) 53 σ as σ' kd r
  | [a0], h => fun ia0 => pm_X11_outs rfl ih htr (cc_if5 h).1 σ σ' a0 kd r ia0 (cc_if5 h).2
  | [], _ => trivial
  | (_ :: _ :: _), _ => trivial
theorem cw_sim_X11_perform {l : Launch} {v : cwE} (htr : l.stackTraces = false) {d : Nat} (ih : cw_Rec l v d (RC (cw_bd v) d)) (σ σ' : CS) (kd : Nat) (r : Int) : ∀ as : List Int, cw_body (cw_bd v) (RC (cw_bd v) d) d 54 σ as = some (σ', kd, r) → cw_MetK l v (d + 1) 54 σ as σ' kd r
  | [a0, a1], h => fun ia0 ia1 => pm_X11_perform rfl ih htr (cc_if5 h).1 σ σ' a0 a1 kd r ia0 ia1 (cc_if5 h).2
  | [], _ => trivial
  | [_], _ => trivial
  | (_ :: _ :: _ :: _), _ => trivial
theorem cw_sim_X11_refuseBesideNames {l : Launch} {v : cwE} (htr : l.stackTraces = false) {d : Nat} (ih : cw_Rec l v d (RC (cw_bd v) d)) (σ σ' : CS) (kd : Nat) (r : Int) : ∀ as : List Int, cw_body (cw_bd v) (RC (cw_bd v) d) d 55 σ as = some (σ', kd, r) → cw_MetK l v (d + 1) 55 σ as σ' kd r
  | [a0, a1], h => fun ia0 ia1 => pm_X11_refuseBesideNames rfl ih htr (cc_if5 h).1 σ σ' a0 a1 kd r ia0 ia1 (cc_if5 h).2
  | [], _ => trivial
  | [_], _ => trivial
  | (_ :: _ :: _ :: _), _ => trivial
theorem cw_sim_X11_rule {l : Launch} {v : cwE} (htr : l.stackTraces = false) {d : Nat} (ih : cw_Rec l v d (RC (cw_bd v) d)) (σ σ' : CS) (kd : Nat) (r : Int) : ∀ as : List Int, cw_body (cw_bd v) (RC (cw_bd v) d) d 56 σ as = some (σ', kd, r) → cw_MetK l v (d + 1) 56 σ as σ' kd r
  | [a0, a1, a2], h => fun ia0 ia1 ia2 => pm_X11_rule rfl ih htr (cc_if5 h).1 σ σ' a0 a1 a2 kd r ia0 ia1 ia2 (cc_if5 h).2
  | [], _ => trivial
  | [_], _ => trivial
  | [_, _], _ => trivial
  | (_ :: _ :: _ :: _ :: _), _ => trivial
theorem cw_sim_X11_runText {l : Launch} {v : cwE} (htr : l.stackTraces = false) {d : Nat} (ih : cw_Rec l v d (RC (cw_bd v) d)) (σ σ' : CS) (kd : Nat) (r : Int) : ∀ as : List Int, cw_body (cw_bd v) (RC (cw_bd v) d) d 57 σ as = some (σ', kd, r) → cw_MetK l v (d + 1) 57 σ as σ' kd r
  | [a0, a1], h => fun ia0 ia1 => pm_X11_runText rfl ih htr (cc_if5 h).1 σ σ' a0 a1 kd r ia0 ia1 (cc_if5 h).2
  | [], _ => trivial
  | [_], _ => trivial
  | (_ :: _ :: _ :: _), _ => trivial
theorem cw_sim_X11_same {l : Launch} {v : cwE} (htr : l.stackTraces = false) {d : Nat} (ih : cw_Rec l v d (RC (cw_bd v) d)) (σ σ' : CS) (kd : Nat) (r : Int) : ∀ as : List Int, cw_body (cw_bd v) (RC (cw_bd v) d) d 58 σ as = some (σ', kd, r) → cw_MetK l v (d + 1) 58 σ as σ' kd r
  | [a0, a1, a2], h => fun ia0 ia1 ia2 => pm_X11_same rfl ih htr (cc_if5 h).1 σ σ' a0 a1 a2 kd r ia0 ia1 ia2 (cc_if5 h).2
  | [], _ => trivial
  | [_], _ => trivial
  | [_, _], _ => trivial
  | (_ :: _ :: _ :: _ :: _), _ => trivial
theorem cw_sim_X11_sort {l : Launch} {v : cwE} (htr : l.stackTraces = false) {d : Nat} (ih : cw_Rec l v d (RC (cw_bd v) d)) (σ σ' : CS) (kd : Nat) (r : Int) : ∀ as : List Int, cw_body (cw_bd v) (RC (cw_bd v) d) d 59 σ as = some (σ', kd, r) → cw_MetK l v (d + 1) 59 σ as σ' kd r
  | [a0, a1, a2], h => fun ia0 ia1 ia2 => pm_X11_sort rfl ih htr (cc_if5 h).1 σ σ' a0 a1 a2 kd r ia0 ia1 ia2 (cc_if5 h).2
  | [], _ => trivial
  | [_], _ => trivial
  | [_, _], _ => trivial
  | (_ :: _ :: _ :: _ :: _), _ => trivial
theorem cw_sim_X11_sortNumber {l : Launch} {v : cwE} (htr : l.stackTraces = false) {d : Nat} (ih : cw_Rec l v d (RC (cw_bd v) d)) (σ σ' : CS) (kd : Nat) (r : Int) : ∀ as : List Int, cw_body (cw_bd v) (RC (cw_bd v) d) d 60 σ as = some (σ', kd, r) → cw_MetK l v (d + 1) 60 σ as σ' kd r
  | [a0, a1], h => fun ia0 ia1 => pm_X11_sortNumber rfl ih htr (cc_if5 h).1 σ σ' a0 a1 kd r ia0 ia1 (cc_if5 h).2
  | [], _ => trivial
  | [_], _ => trivial
  | (_ :: _ :: _ :: _), _ => trivial
theorem cw_sim_X11_tellTypeOf {l : Launch} {v : cwE} (htr : l.stackTraces = false) {d : Nat} (ih : cw_Rec l v d (RC (cw_bd v) d)) (σ σ' : CS) (kd : Nat) (r : Int) : ∀ as : List Int, cw_body (cw_bd v) (RC (cw_bd v) d) d 61 σ as = some (σ', kd, r) → cw_MetK l v (d + 1) 61 σ as σ' kd r
  | [a0, a1], h => fun ia0 ia1 => pm_X11_tellTypeOf rfl ih htr (cc_if5 h).1 σ σ' a0 a1 kd r ia0 ia1 (cc_if5 h).2
  | [], _ => trivial
  | [_], _ => trivial
  | (_ :: _ :: _ :: _), _ => trivial
theorem cw_sim_X11_text {l : Launch} {v : cwE} (htr : l.stackTraces = false) {d : Nat} (ih : cw_Rec l v d (RC (cw_bd v) d)) (σ σ' : CS) (kd : Nat) (r : Int) : ∀ as : List Int, cw_body (cw_bd v) (RC (cw_bd v) d) d 62 σ as = some (σ', kd, r) → cw_MetK l v (d + 1) 62 σ as σ' kd r
  | [a0, a1], h => fun ia0 ia1 => pm_X11_text rfl ih htr (cc_if5 h).1 σ σ' a0 a1 kd r ia0 ia1 (cc_if5 h).2
  | [], _ => trivial
  | [_], _ => trivial
  | (_ :: _ :: _ :: _), _ => trivial
theorem cw_sim_X11_type {l : Launch} {v : cwE} (htr : l.stackTraces = false) {d : Nat} (ih : cw_Rec l v d (RC (cw_bd v) d)) (σ σ' : CS) (kd : Nat) (r : Int) : ∀ as : List Int, cw_body (cw_bd v) (RC (cw_bd v) d) d 63 σ as = some (σ', kd, r) → cw_MetK l v (d + 1) 63 σ as σ' kd r
  | [a0, a1], h => fun ia0 ia1 => pm_X11_type rfl ih htr (cc_if5 h).1 σ σ' a0 a1 kd r ia0 ia1 (cc_if5 h).2
  | [], _ => trivial
  | [_], _ => trivial
  | (_ :: _ :: _ :: _), _ => trivial
theorem cw_sim_X2_init {l : Launch} {v : cwE} (htr : l.stackTraces = false) {d : Nat} (ih : cw_Rec l v d (RC (cw_bd v) d)) (σ σ' : CS) (kd : Nat) (r : Int) : ∀ as : List Int, cw_body (cw_bd v) (RC (cw_bd v) d) d 64 σ as = some (σ', kd, r) → cw_MetK l v (d + 1) 64 σ as σ' kd r
  | [a0, a1, a2, a3, a4], h => fun ia0 ia1 ia2 ia3 ia4 => pm_X2_init rfl ih htr (cc_if5 h).1 σ σ' a0 a1 a2 a3 a4 kd r ia0 ia1 ia2 ia3 ia4 (cc_if5 h).2
  | [], _ => trivial
  | [_], _ => trivial
  | [_, _], _ => trivial
  | [_, _, _], _ => trivial
  | [_, _, _, _], _ => trivial
  | (_ :: _ :: _ :: _ :: _ :: _ :: _), _ => trivial
theorem cw_sim_X2_isNameOf {l : Launch} {v : cwE} (htr : l.stackTraces = false) {d : Nat} (ih : cw_Rec l v d (RC (cw_bd v) d)) (σ σ' : CS) (kd : Nat) (r : Int) : ∀ as : List Int, cw_body (cw_bd v) (RC (cw_bd v) d) d 65 σ as = some (σ', kd, r) → cw_MetK l v (d + 1) 65 σ as σ' kd r
  | [a0, a1, a2], h => fun ia0 ia1 ia2 => pm_X2_isNameOf rfl ih htr (cc_if5 h).1 σ σ' a0 a1 a2 kd r ia0 ia1 ia2 (cc_if5 h).2
  | [], _ => trivial
  | [_], _ => trivial
  | [_, _], _ => trivial
  | (_ :: _ :: _ :: _ :: _), _ => trivial
theorem cw_sim_X2_judge {l : Launch} {v : cwE} (htr : l.stackTraces = false) {d : Nat} (ih : cw_Rec l v d (RC (cw_bd v) d)) (σ σ' : CS) (kd : Nat) (r : Int) : ∀ as : List Int, cw_body (cw_bd v) (RC (cw_bd v) d) d 66 σ as = some (σ', kd, r) → cw_MetK l v (d + 1) 66 σ as σ' kd r
  | [a0, a1, a2], h => fun ia0 ia1 ia2 => pm_X2_judge rfl ih htr (cc_if5 h).1 σ σ' a0 a1 a2 kd r ia0 ia1 ia2 (cc_if5 h).2
  | [], _ => trivial
  | [_], _ => trivial
  | [_, _], _ => trivial
  | (_ :: _ :: _ :: _ :: _), _ => trivial
theorem cw_sim_X2_judgeName {l : Launch} {v : cwE} (htr : l.stackTraces = false) {d : Nat} (ih : cw_Rec l v d (RC (cw_bd v) d)) (σ σ' : CS) (kd : Nat) (r : Int) : ∀ as : List Int, cw_body (cw_bd v) (RC (cw_bd v) d) d 67 σ as = some (σ', kd, r) → cw_MetK l v (d + 1) 67 σ as σ' kd r
  | [a0, a1, a2], h => fun ia0 ia1 ia2 => pm_X2_judgeName rfl ih htr (cc_if5 h).1 σ σ' a0 a1 a2 kd r ia0 ia1 ia2 (cc_if5 h).2
  | [], _ => trivial
  | [_], _ => trivial
  | [_, _], _ => trivial
  | (_ :: _ :: _ :: _ :: _), _ => trivial
theorem cw_sim_X2_needProduct {l : Launch} {v : cwE} (htr : l.stackTraces = false) {d : Nat} (ih : cw_Rec l v d (RC (cw_bd v) d)) (σ σ' : CS) (kd : Nat) (r : Int) : ∀ as : List Int, cw_body (cw_bd v) (RC (cw_bd v) d) d 68 σ as = some (σ', kd, r) → cw_MetK l v (d + 1) 68 σ as σ' kd r
  | [a0, a1, a2], h => fun ia0 ia1 ia2 => pm_X2_needProduct rfl ih htr (cc_if5 h).1 σ σ' a0 a1 a2 kd r ia0 ia1 ia2 (cc_if5 h).2
  | [], _ => trivial
  | [_], _ => trivial
  | [_, _], _ => trivial
  | (_ :: _ :: _ :: _ :: _), _ => trivial
theorem cw_sim_X2_neededRule {l : Launch} {v : cwE} (htr : l.stackTraces = false) {d : Nat} (ih : cw_Rec l v d (RC (cw_bd v) d)) (σ σ' : CS) (kd : Nat) (r : Int) : ∀ as : List Int, cw_body (cw_bd v) (RC (cw_bd v) d) d 69 σ as = some (σ', kd, r) → cw_MetK l v (d + 1) 69 σ as σ' kd r
  | [a0, a1, a2, a3], h => fun ia0 ia1 ia2 ia3 => pm_X2_neededRule rfl ih htr (cc_if5 h).1 σ σ' a0 a1 a2 a3 kd r ia0 ia1 ia2 ia3 (cc_if5 h).2
  | [], _ => trivial
  | [_], _ => trivial
  | [_, _], _ => trivial
  | [_, _, _], _ => trivial
  | (_ :: _ :: _ :: _ :: _ :: _), _ => trivial
theorem cw_sim_X2_neededSort {l : Launch} {v : cwE} (htr : l.stackTraces = false) {d : Nat} (ih : cw_Rec l v d (RC (cw_bd v) d)) (σ σ' : CS) (kd : Nat) (r : Int) : ∀ as : List Int, cw_body (cw_bd v) (RC (cw_bd v) d) d 70 σ as = some (σ', kd, r) → cw_MetK l v (d + 1) 70 σ as σ' kd r
  | [a0, a1, a2], h => fun ia0 ia1 ia2 => pm_X2_neededSort rfl ih htr (cc_if5 h).1 σ σ' a0 a1 a2 kd r ia0 ia1 ia2 (cc_if5 h).2
  | [], _ => trivial
  | [_], _ => trivial
  | [_, _], _ => trivial
  | (_ :: _ :: _ :: _ :: _), _ => trivial
theorem cw_sim_X2_resolve {l : Launch} {v : cwE} (htr : l.stackTraces = false) {d : Nat} (ih : cw_Rec l v d (RC (cw_bd v) d)) (σ σ' : CS) (kd : Nat) (r : Int) : ∀ as : List Int, cw_body (cw_bd v) (RC (cw_bd v) d) d 71 σ as = some (σ', kd, r) → cw_MetK l v (d + 1) 71 σ as σ' kd r
  | [a0, a1, a2, a3, a4], h => fun ia0 ia1 ia2 ia3 ia4 => pm_X2_resolve rfl ih htr (cc_if5 h).1 σ σ' a0 a1 a2 a3 a4 kd r ia0 ia1 ia2 ia3 ia4 (cc_if5 h).2
  | [], _ => trivial
  | [_], _ => trivial
  | [_, _], _ => trivial
  | [_, _, _], _ => trivial
  | [_, _, _, _], _ => trivial
  | (_ :: _ :: _ :: _ :: _ :: _ :: _), _ => trivial
theorem cw_sim_X2_sortAsType {l : Launch} {v : cwE} (htr : l.stackTraces = false) {d : Nat} (ih : cw_Rec l v d (RC (cw_bd v) d)) (σ σ' : CS) (kd : Nat) (r : Int) : ∀ as : List Int, cw_body (cw_bd v) (RC (cw_bd v) d) d 72 σ as = some (σ', kd, r) → cw_MetK l v (d + 1) 72 σ as σ' kd r
  | [a0, a1], h => fun ia0 ia1 => pm_X2_sortAsType rfl ih htr (cc_if5 h).1 σ σ' a0 a1 kd r ia0 ia1 (cc_if5 h).2
  | [], _ => trivial
  | [_], _ => trivial
  | (_ :: _ :: _ :: _), _ => trivial
theorem cw_sim_X2_typeOf {l : Launch} {v : cwE} (htr : l.stackTraces = false) {d : Nat} (ih : cw_Rec l v d (RC (cw_bd v) d)) (σ σ' : CS) (kd : Nat) (r : Int) : ∀ as : List Int, cw_body (cw_bd v) (RC (cw_bd v) d) d 73 σ as = some (σ', kd, r) → cw_MetK l v (d + 1) 73 σ as σ' kd r
  | [a0, a1], h => fun ia0 ia1 => pm_X2_typeOf rfl ih htr (cc_if5 h).1 σ σ' a0 a1 kd r ia0 ia1 (cc_if5 h).2
  | [], _ => trivial
  | [_], _ => trivial
  | (_ :: _ :: _ :: _), _ => trivial
theorem cw_sim_X2_typeOfLambda {l : Launch} {v : cwE} (htr : l.stackTraces = false) {d : Nat} (ih : cw_Rec l v d (RC (cw_bd v) d)) (σ σ' : CS) (kd : Nat) (r : Int) : ∀ as : List Int, cw_body (cw_bd v) (RC (cw_bd v) d) d 74 σ as = some (σ', kd, r) → cw_MetK l v (d + 1) 74 σ as σ' kd r
  | [a0, a1, a2, a3, a4], h => fun ia0 ia1 ia2 ia3 ia4 => pm_X2_typeOfLambda rfl ih htr (cc_if5 h).1 σ σ' a0 a1 a2 a3 a4 kd r ia0 ia1 ia2 ia3 ia4 (cc_if5 h).2
  | [], _ => trivial
  | [_], _ => trivial
  | [_, _], _ => trivial
  | [_, _, _], _ => trivial
  | [_, _, _, _], _ => trivial
  | (_ :: _ :: _ :: _ :: _ :: _ :: _), _ => trivial
theorem cw_sim_X2_typeOfProduct {l : Launch} {v : cwE} (htr : l.stackTraces = false) {d : Nat} (ih : cw_Rec l v d (RC (cw_bd v) d)) (σ σ' : CS) (kd : Nat) (r : Int) : ∀ as : List Int, cw_body (cw_bd v) (RC (cw_bd v) d) d 75 σ as = some (σ', kd, r) → cw_MetK l v (d + 1) 75 σ as σ' kd r
  | [a0, a1, a2, a3], h => fun ia0 ia1 ia2 ia3 => pm_X2_typeOfProduct rfl ih htr (cc_if5 h).1 σ σ' a0 a1 a2 a3 kd r ia0 ia1 ia2 ia3 (cc_if5 h).2
  | [], _ => trivial
  | [_], _ => trivial
  | [_, _], _ => trivial
  | [_, _, _], _ => trivial
  | (_ :: _ :: _ :: _ :: _ :: _), _ => trivial
theorem cw_sim_X3_find {l : Launch} {v : cwE} (htr : l.stackTraces = false) {d : Nat} (ih : cw_Rec l v d (RC (cw_bd v) d)) (σ σ' : CS) (kd : Nat) (r : Int) : ∀ as : List Int, cw_body (cw_bd v) (RC (cw_bd v) d) d 76 σ as = some (σ', kd, r) → cw_MetK l v (d + 1) 76 σ as σ' kd r
  | [a0, a1], h => fun ia0 ia1 => pm_X3_find rfl ih htr (cc_if5 h).1 σ σ' a0 a1 kd r ia0 ia1 (cc_if5 h).2
  | [], _ => trivial
  | [_], _ => trivial
  | (_ :: _ :: _ :: _), _ => trivial
theorem cw_sim_X3_init {l : Launch} {v : cwE} (htr : l.stackTraces = false) {d : Nat} (ih : cw_Rec l v d (RC (cw_bd v) d)) (σ σ' : CS) (kd : Nat) (r : Int) : ∀ as : List Int, cw_body (cw_bd v) (RC (cw_bd v) d) d 77 σ as = some (σ', kd, r) → cw_MetK l v (d + 1) 77 σ as σ' kd r
  | [a0, a1, a2, a3, a4], h => fun ia0 ia1 ia2 ia3 ia4 => pm_X3_init rfl ih htr (cc_if5 h).1 σ σ' a0 a1 a2 a3 a4 kd r ia0 ia1 ia2 ia3 ia4 (cc_if5 h).2
  | [], _ => trivial
  | [_], _ => trivial
  | [_, _], _ => trivial
  | [_, _, _], _ => trivial
  | [_, _, _, _], _ => trivial
  | (_ :: _ :: _ :: _ :: _ :: _ :: _), _ => trivial
theorem cw_sim_X3_init_ {l : Launch} {v : cwE} (htr : l.stackTraces = false) {d : Nat} (ih : cw_Rec l v d (RC (cw_bd v) d)) (σ σ' : CS) (kd : Nat) (r : Int) : ∀ as : List Int, cw_body (cw_bd v) (RC (cw_bd v) d) d 78 σ as = some (σ', kd, r) → cw_MetK l v (d + 1) 78 σ as σ' kd r
  | [a0, a1, a2, a3], h => fun ia0 ia1 ia2 ia3 => pm_X3_init_ rfl ih htr (cc_if5 h).1 σ σ' a0 a1 a2 a3 kd r ia0 ia1 ia2 ia3 (cc_if5 h).2
  | [], _ => trivial
  | [_], _ => trivial
  | [_, _], _ => trivial
  | [_, _, _], _ => trivial
  | (_ :: _ :: _ :: _ :: _ :: _), _ => trivial
theorem cw_sim_X3_lengthOf {l : Launch} {v : cwE} (htr : l.stackTraces = false) {d : Nat} (ih : cw_Rec l v d (RC (cw_bd v) d)) (σ σ' : CS) (kd : Nat) (r : Int) : ∀ as : List Int, cw_body (cw_bd v) (RC (cw_bd v) d) d 79 σ as = some (σ', kd, r) → cw_MetK l v (d + 1) 79 σ as σ' kd r
  | [a0], h => fun ia0 => pm_X3_lengthOf rfl ih htr (cc_if5 h).1 σ σ' a0 kd r ia0 (cc_if5 h).2
  | [], _ => trivial
  | (_ :: _ :: _), _ => trivial
theorem cw_sim_X4_areSame {l : Launch} {v : cwE} (htr : l.stackTraces = false) {d : Nat} (ih : cw_Rec l v d (RC (cw_bd v) d)) (σ σ' : CS) (kd : Nat) (r : Int) : ∀ as : List Int, cw_body (cw_bd v) (RC (cw_bd v) d) d 80 σ as = some (σ', kd, r) → cw_MetK l v (d + 1) 80 σ as σ' kd r
  | [a0, a1, a2], h => fun ia0 ia1 ia2 => pm_X4_areSame rfl ih htr (cc_if5 h).1 σ σ' a0 a1 a2 kd r ia0 ia1 ia2 (cc_if5 h).2
  | [], _ => trivial
  | [_], _ => trivial
  | [_, _], _ => trivial
  | (_ :: _ :: _ :: _ :: _), _ => trivial
theorem cw_sim_X4_begin {l : Launch} {v : cwE} (htr : l.stackTraces = false) {d : Nat} (ih : cw_Rec l v d (RC (cw_bd v) d)) (σ σ' : CS) (kd : Nat) (r : Int) : ∀ as : List Int, cw_body (cw_bd v) (RC (cw_bd v) d) d 81 σ as = some (σ', kd, r) → cw_MetK l v (d + 1) 81 σ as σ' kd r
  | [a0, a1], h => fun ia0 ia1 => pm_X4_begin rfl ih htr (cc_if5 h).1 σ σ' a0 a1 kd r ia0 ia1 (cc_if5 h).2
  | [], _ => trivial
  | [_], _ => trivial
  | (_ :: _ :: _ :: _), _ => trivial
theorem cw_sim_X4_compare {l : Launch} {v : cwE} (htr : l.stackTraces = false) {d : Nat} (ih : cw_Rec l v d (RC (cw_bd v) d)) (σ σ' : CS) (kd : Nat) (r : Int) : ∀ as : List Int, cw_body (cw_bd v) (RC (cw_bd v) d) d 82 σ as = some (σ', kd, r) → cw_MetK l v (d + 1) 82 σ as σ' kd r
  | [a0, a1, a2, a3, a4, a5, a6], h => fun ia0 ia1 ia2 ia3 ia4 ia5 ia6 => pm_X4_compare rfl ih htr (cc_if5 h).1 σ σ' a0 a1 a2 a3 a4 a5 a6 kd r ia0 ia1 ia2 ia3 ia4 ia5 ia6 (cc_if5 h).2
  | [], _ => trivial
  | [_], _ => trivial
  | [_, _], _ => trivial
  | [_, _, _], _ => trivial
  | [_, _, _, _], _ => trivial
  | [_, _, _, _, _], _ => trivial
  | [_, _, _, _, _, _], _ => trivial
  | (_ :: _ :: _ :: _ :: _ :: _ :: _ :: _ :: _), _ => trivial
theorem cw_sim_X4_head {l : Launch} {v : cwE} (htr : l.stackTraces = false) {d : Nat} (ih : cw_Rec l v d (RC (cw_bd v) d)) (σ σ' : CS) (kd : Nat) (r : Int) : ∀ as : List Int, cw_body (cw_bd v) (RC (cw_bd v) d) d 83 σ as = some (σ', kd, r) → cw_MetK l v (d + 1) 83 σ as σ' kd r
  | [a0, a1, a2], h => fun ia0 ia1 ia2 => pm_X4_head rfl ih htr (cc_if5 h).1 σ σ' a0 a1 a2 kd r ia0 ia1 ia2 (cc_if5 h).2
  | [], _ => trivial
  | [_], _ => trivial
  | [_, _], _ => trivial
  | (_ :: _ :: _ :: _ :: _), _ => trivial
theorem cw_sim_X4_init {l : Launch} {v : cwE} (htr : l.stackTraces = false) {d : Nat} (ih : cw_Rec l v d (RC (cw_bd v) d)) (σ σ' : CS) (kd : Nat) (r : Int) : ∀ as : List Int, cw_body (cw_bd v) (RC (cw_bd v) d) d 84 σ as = some (σ', kd, r) → cw_MetK l v (d + 1) 84 σ as σ' kd r
  | [a0, a1, a2], h => fun ia0 ia1 ia2 => pm_X4_init rfl ih htr (cc_if5 h).1 σ σ' a0 a1 a2 kd r ia0 ia1 ia2 (cc_if5 h).2
  | [], _ => trivial
  | [_], _ => trivial
  | [_, _], _ => trivial
  | (_ :: _ :: _ :: _ :: _), _ => trivial
theorem cw_sim_X4_look {l : Launch} {v : cwE} (htr : l.stackTraces = false) {d : Nat} (ih : cw_Rec l v d (RC (cw_bd v) d)) (σ σ' : CS) (kd : Nat) (r : Int) : ∀ as : List Int, cw_body (cw_bd v) (RC (cw_bd v) d) d 85 σ as = some (σ', kd, r) → cw_MetK l v (d + 1) 85 σ as σ' kd r
  | [a0, a1], h => fun ia0 ia1 => pm_X4_look rfl ih htr (cc_if5 h).1 σ σ' a0 a1 kd r ia0 ia1 (cc_if5 h).2
  | [], _ => trivial
  | [_], _ => trivial
  | (_ :: _ :: _ :: _), _ => trivial
theorem cw_sim_X4_normalForm {l : Launch} {v : cwE} (htr : l.stackTraces = false) {d : Nat} (ih : cw_Rec l v d (RC (cw_bd v) d)) (σ σ' : CS) (kd : Nat) (r : Int) : ∀ as : List Int, cw_body (cw_bd v) (RC (cw_bd v) d) d 86 σ as = some (σ', kd, r) → cw_MetK l v (d + 1) 86 σ as σ' kd r
  | [a0, a1, a2], h => fun ia0 ia1 ia2 => pm_X4_normalForm rfl ih htr (cc_if5 h).1 σ σ' a0 a1 a2 kd r ia0 ia1 ia2 (cc_if5 h).2
  | [], _ => trivial
  | [_], _ => trivial
  | [_, _], _ => trivial
  | (_ :: _ :: _ :: _ :: _), _ => trivial
theorem cw_sim_X4_normalize {l : Launch} {v : cwE} (htr : l.stackTraces = false) {d : Nat} (ih : cw_Rec l v d (RC (cw_bd v) d)) (σ σ' : CS) (kd : Nat) (r : Int) : ∀ as : List Int, cw_body (cw_bd v) (RC (cw_bd v) d) d 87 σ as = some (σ', kd, r) → cw_MetK l v (d + 1) 87 σ as σ' kd r
  | [a0, a1, a2, a3, a4], h => fun ia0 ia1 ia2 ia3 ia4 => pm_X4_normalize rfl ih htr (cc_if5 h).1 σ σ' a0 a1 a2 a3 a4 kd r ia0 ia1 ia2 ia3 ia4 (cc_if5 h).2
  | [], _ => trivial
  | [_], _ => trivial
  | [_, _], _ => trivial
  | [_, _, _], _ => trivial
  | [_, _, _, _], _ => trivial
  | (_ :: _ :: _ :: _ :: _ :: _ :: _), _ => trivial
theorem cw_sim_X4_put {l : Launch} {v : cwE} (htr : l.stackTraces = false) {d : Nat} (ih : cw_Rec l v d (RC (cw_bd v) d)) (σ σ' : CS) (kd : Nat) (r : Int) : ∀ as : List Int, cw_body (cw_bd v) (RC (cw_bd v) d) d 88 σ as = some (σ', kd, r) → cw_MetK l v (d + 1) 88 σ as σ' kd r
  | [a0, a1], h => fun ia0 ia1 => pm_X4_put rfl ih htr (cc_if5 h).1 σ σ' a0 a1 kd r ia0 ia1 (cc_if5 h).2
  | [], _ => trivial
  | [_], _ => trivial
  | (_ :: _ :: _ :: _), _ => trivial
theorem cw_sim_X4_putAnswer {l : Launch} {v : cwE} (htr : l.stackTraces = false) {d : Nat} (ih : cw_Rec l v d (RC (cw_bd v) d)) (σ σ' : CS) (kd : Nat) (r : Int) : ∀ as : List Int, cw_body (cw_bd v) (RC (cw_bd v) d) d 89 σ as = some (σ', kd, r) → cw_MetK l v (d + 1) 89 σ as σ' kd r
  | [a0, a1], h => fun ia0 ia1 => pm_X4_putAnswer rfl ih htr (cc_if5 h).1 σ σ' a0 a1 kd r ia0 ia1 (cc_if5 h).2
  | [], _ => trivial
  | [_], _ => trivial
  | (_ :: _ :: _ :: _), _ => trivial
theorem cw_sim_X4_putFront {l : Launch} {v : cwE} (htr : l.stackTraces = false) {d : Nat} (ih : cw_Rec l v d (RC (cw_bd v) d)) (σ σ' : CS) (kd : Nat) (r : Int) : ∀ as : List Int, cw_body (cw_bd v) (RC (cw_bd v) d) d 90 σ as = some (σ', kd, r) → cw_MetK l v (d + 1) 90 σ as σ' kd r
  | [a0, a1], h => fun ia0 ia1 => pm_X4_putFront rfl ih htr (cc_if5 h).1 σ σ' a0 a1 kd r ia0 ia1 (cc_if5 h).2
  | [], _ => trivial
  | [_], _ => trivial
  | (_ :: _ :: _ :: _), _ => trivial
theorem cw_sim_X4_putNumber {l : Launch} {v : cwE} (htr : l.stackTraces = false) {d : Nat} (ih : cw_Rec l v d (RC (cw_bd v) d)) (σ σ' : CS) (kd : Nat) (r : Int) : ∀ as : List Int, cw_body (cw_bd v) (RC (cw_bd v) d) d 91 σ as = some (σ', kd, r) → cw_MetK l v (d + 1) 91 σ as σ' kd r
  | [a0, a1], h => fun ia0 ia1 => pm_X4_putNumber rfl ih htr (cc_if5 h).1 σ σ' a0 a1 kd r ia0 ia1 (cc_if5 h).2
  | [], _ => trivial
  | [_], _ => trivial
  | (_ :: _ :: _ :: _), _ => trivial
theorem cw_sim_X4_putSigns {l : Launch} {v : cwE} (htr : l.stackTraces = false) {d : Nat} (ih : cw_Rec l v d (RC (cw_bd v) d)) (σ σ' : CS) (kd : Nat) (r : Int) : ∀ as : List Int, cw_body (cw_bd v) (RC (cw_bd v) d) d 92 σ as = some (σ', kd, r) → cw_MetK l v (d + 1) 92 σ as σ' kd r
  | [a0, a1, a2], h => fun ia0 ia1 ia2 => pm_X4_putSigns rfl ih htr (cc_if5 h).1 σ σ' a0 a1 a2 kd r ia0 ia1 ia2 (cc_if5 h).2
  | [], _ => trivial
  | [_], _ => trivial
  | [_, _], _ => trivial
  | (_ :: _ :: _ :: _ :: _), _ => trivial
theorem cw_sim_X4_spend {l : Launch} {v : cwE} (htr : l.stackTraces = false) {d : Nat} (ih : cw_Rec l v d (RC (cw_bd v) d)) (σ σ' : CS) (kd : Nat) (r : Int) : ∀ as : List Int, cw_body (cw_bd v) (RC (cw_bd v) d) d 93 σ as = some (σ', kd, r) → cw_MetK l v (d + 1) 93 σ as σ' kd r
  | [a0, a1], h => fun ia0 ia1 => pm_X4_spend rfl ih htr (cc_if5 h).1 σ σ' a0 a1 kd r ia0 ia1 (cc_if5 h).2
  | [], _ => trivial
  | [_], _ => trivial
  | (_ :: _ :: _ :: _), _ => trivial
theorem cw_sim_X4_tell {l : Launch} {v : cwE} (htr : l.stackTraces = false) {d : Nat} (ih : cw_Rec l v d (RC (cw_bd v) d)) (σ σ' : CS) (kd : Nat) (r : Int) : ∀ as : List Int, cw_body (cw_bd v) (RC (cw_bd v) d) d 94 σ as = some (σ', kd, r) → cw_MetK l v (d + 1) 94 σ as σ' kd r
  | [a0, a1, a2, a3, a4, a5], h => fun ia0 ia1 ia2 ia3 ia4 ia5 => pm_X4_tell rfl ih htr (cc_if5 h).1 σ σ' a0 a1 a2 a3 a4 a5 kd r ia0 ia1 ia2 ia3 ia4 ia5 (cc_if5 h).2
  | [], _ => trivial
  | [_], _ => trivial
  | [_, _], _ => trivial
  | [_, _, _], _ => trivial
  | [_, _, _, _], _ => trivial
  | [_, _, _, _, _], _ => trivial
  | (_ :: _ :: _ :: _ :: _ :: _ :: _ :: _), _ => trivial
theorem cw_sim_X4_tellHead {l : Launch} {v : cwE} (htr : l.stackTraces = false) {d : Nat} (ih : cw_Rec l v d (RC (cw_bd v) d)) (σ σ' : CS) (kd : Nat) (r : Int) : ∀ as : List Int, cw_body (cw_bd v) (RC (cw_bd v) d) d 95 σ as = some (σ', kd, r) → cw_MetK l v (d + 1) 95 σ as σ' kd r
  | [a0, a1], h => fun ia0 ia1 => pm_X4_tellHead rfl ih htr (cc_if5 h).1 σ σ' a0 a1 kd r ia0 ia1 (cc_if5 h).2
  | [], _ => trivial
  | [_], _ => trivial
  | (_ :: _ :: _ :: _), _ => trivial
theorem cw_sim_X4_tellWhole {l : Launch} {v : cwE} (htr : l.stackTraces = false) {d : Nat} (ih : cw_Rec l v d (RC (cw_bd v) d)) (σ σ' : CS) (kd : Nat) (r : Int) : ∀ as : List Int, cw_body (cw_bd v) (RC (cw_bd v) d) d 96 σ as = some (σ', kd, r) → cw_MetK l v (d + 1) 96 σ as σ' kd r
  | [a0, a1], h => fun ia0 ia1 => pm_X4_tellWhole rfl ih htr (cc_if5 h).1 σ σ' a0 a1 kd r ia0 ia1 (cc_if5 h).2
  | [], _ => trivial
  | [_], _ => trivial
  | (_ :: _ :: _ :: _), _ => trivial
theorem cw_sim_X5_add {l : Launch} {v : cwE} (htr : l.stackTraces = false) {d : Nat} (ih : cw_Rec l v d (RC (cw_bd v) d)) (σ σ' : CS) (kd : Nat) (r : Int) : ∀ as : List Int, cw_body (cw_bd v) (RC (cw_bd v) d) d 97 σ as = some (σ', kd, r) → cw_MetK l v (d + 1) 97 σ as σ' kd r
  | [a0, a1, a2, a3], h => fun ia0 ia1 ia2 ia3 => pm_X5_add rfl ih htr (cc_if5 h).1 σ σ' a0 a1 a2 a3 kd r ia0 ia1 ia2 ia3 (cc_if5 h).2
  | [], _ => trivial
  | [_], _ => trivial
  | [_, _], _ => trivial
  | [_, _, _], _ => trivial
  | (_ :: _ :: _ :: _ :: _ :: _), _ => trivial
theorem cw_sim_X5_agree {l : Launch} {v : cwE} (htr : l.stackTraces = false) {d : Nat} (ih : cw_Rec l v d (RC (cw_bd v) d)) (σ σ' : CS) (kd : Nat) (r : Int) : ∀ as : List Int, cw_body (cw_bd v) (RC (cw_bd v) d) d 98 σ as = some (σ', kd, r) → cw_MetK l v (d + 1) 98 σ as σ' kd r
  | [a0, a1, a2, a3, a4], h => fun ia0 ia1 ia2 ia3 ia4 => pm_X5_agree rfl ih htr (cc_if5 h).1 σ σ' a0 a1 a2 a3 a4 kd r ia0 ia1 ia2 ia3 ia4 (cc_if5 h).2
  | [], _ => trivial
  | [_], _ => trivial
  | [_, _], _ => trivial
  | [_, _, _], _ => trivial
  | [_, _, _, _], _ => trivial
  | (_ :: _ :: _ :: _ :: _ :: _ :: _), _ => trivial
theorem cw_sim_X5_find {l : Launch} {v : cwE} (htr : l.stackTraces = false) {d : Nat} (ih : cw_Rec l v d (RC (cw_bd v) d)) (σ σ' : CS) (kd : Nat) (r : Int) : ∀ as : List Int, cw_body (cw_bd v) (RC (cw_bd v) d) d 99 σ as = some (σ', kd, r) → cw_MetK l v (d + 1) 99 σ as σ' kd r
  | [a0, a1, a2, a3], h => fun ia0 ia1 ia2 ia3 => pm_X5_find rfl ih htr (cc_if5 h).1 σ σ' a0 a1 a2 a3 kd r ia0 ia1 ia2 ia3 (cc_if5 h).2
  | [], _ => trivial
  | [_], _ => trivial
  | [_, _], _ => trivial
  | [_, _, _], _ => trivial
  | (_ :: _ :: _ :: _ :: _ :: _), _ => trivial
theorem cw_sim_X5_has {l : Launch} {v : cwE} (htr : l.stackTraces = false) {d : Nat} (ih : cw_Rec l v d (RC (cw_bd v) d)) (σ σ' : CS) (kd : Nat) (r : Int) : ∀ as : List Int, cw_body (cw_bd v) (RC (cw_bd v) d) d 100 σ as = some (σ', kd, r) → cw_MetK l v (d + 1) 100 σ as σ' kd r
  | [a0, a1], h => fun ia0 ia1 => pm_X5_has rfl ih htr (cc_if5 h).1 σ σ' a0 a1 kd r ia0 ia1 (cc_if5 h).2
  | [], _ => trivial
  | [_], _ => trivial
  | (_ :: _ :: _ :: _), _ => trivial
theorem cw_sim_X5_init {l : Launch} {v : cwE} (htr : l.stackTraces = false) {d : Nat} (ih : cw_Rec l v d (RC (cw_bd v) d)) (σ σ' : CS) (kd : Nat) (r : Int) : ∀ as : List Int, cw_body (cw_bd v) (RC (cw_bd v) d) d 101 σ as = some (σ', kd, r) → cw_MetK l v (d + 1) 101 σ as σ' kd r
  | [a0, a1], h => fun ia0 ia1 => pm_X5_init rfl ih htr (cc_if5 h).1 σ σ' a0 a1 kd r ia0 ia1 (cc_if5 h).2
  | [], _ => trivial
  | [_], _ => trivial
  | (_ :: _ :: _ :: _), _ => trivial
theorem cw_sim_X5_isFull {l : Launch} {v : cwE} (htr : l.stackTraces = false) {d : Nat} (ih : cw_Rec l v d (RC (cw_bd v) d)) (σ σ' : CS) (kd : Nat) (r : Int) : ∀ as : List Int, cw_body (cw_bd v) (RC (cw_bd v) d) d 102 σ as = some (σ', kd, r) → cw_MetK l v (d + 1) 102 σ as σ' kd r
  | [a0], h => fun ia0 => pm_X5_isFull rfl ih htr (cc_if5 h).1 σ σ' a0 kd r ia0 (cc_if5 h).2
  | [], _ => trivial
  | (_ :: _ :: _), _ => trivial
theorem cw_sim_X5_signOf {l : Launch} {v : cwE} (htr : l.stackTraces = false) {d : Nat} (ih : cw_Rec l v d (RC (cw_bd v) d)) (σ σ' : CS) (kd : Nat) (r : Int) : ∀ as : List Int, cw_body (cw_bd v) (RC (cw_bd v) d) d 103 σ as = some (σ', kd, r) → cw_MetK l v (d + 1) 103 σ as σ' kd r
  | [a0, a1, a2], h => fun ia0 ia1 ia2 => pm_X5_signOf rfl ih htr (cc_if5 h).1 σ σ' a0 a1 a2 kd r ia0 ia1 ia2 (cc_if5 h).2
  | [], _ => trivial
  | [_], _ => trivial
  | [_, _], _ => trivial
  | (_ :: _ :: _ :: _ :: _), _ => trivial
theorem cw_sim_X6_binder {l : Launch} {v : cwE} (htr : l.stackTraces = false) {d : Nat} (ih : cw_Rec l v d (RC (cw_bd v) d)) (σ σ' : CS) (kd : Nat) (r : Int) : ∀ as : List Int, cw_body (cw_bd v) (RC (cw_bd v) d) d 104 σ as = some (σ', kd, r) → cw_MetK l v (d + 1) 104 σ as σ' kd r
  | [a0, a1, a2, a3], h => fun ia0 ia1 ia2 ia3 => pm_X6_binder rfl ih htr (cc_if5 h).1 σ σ' a0 a1 a2 a3 kd r ia0 ia1 ia2 ia3 (cc_if5 h).2
  | [], _ => trivial
  | [_], _ => trivial
  | [_, _], _ => trivial
  | [_, _, _], _ => trivial
  | (_ :: _ :: _ :: _ :: _ :: _), _ => trivial
theorem cw_sim_X6_init {l : Launch} {v : cwE} (htr : l.stackTraces = false) {d : Nat} (ih : cw_Rec l v d (RC (cw_bd v) d)) (σ σ' : CS) (kd : Nat) (r : Int) : ∀ as : List Int, cw_body (cw_bd v) (RC (cw_bd v) d) d 105 σ as = some (σ', kd, r) → cw_MetK l v (d + 1) 105 σ as σ' kd r
  | [a0, a1, a2], h => fun ia0 ia1 ia2 => pm_X6_init rfl ih htr (cc_if5 h).1 σ σ' a0 a1 a2 kd r ia0 ia1 ia2 (cc_if5 h).2
  | [], _ => trivial
  | [_], _ => trivial
  | [_, _], _ => trivial
  | (_ :: _ :: _ :: _ :: _), _ => trivial
theorem cw_sim_X6_keepSorts {l : Launch} {v : cwE} (htr : l.stackTraces = false) {d : Nat} (ih : cw_Rec l v d (RC (cw_bd v) d)) (σ σ' : CS) (kd : Nat) (r : Int) : ∀ as : List Int, cw_body (cw_bd v) (RC (cw_bd v) d) d 106 σ as = some (σ', kd, r) → cw_MetK l v (d + 1) 106 σ as σ' kd r
  | [a0, a1, a2], h => fun ia0 ia1 ia2 => pm_X6_keepSorts rfl ih htr (cc_if5 h).1 σ σ' a0 a1 a2 kd r ia0 ia1 ia2 (cc_if5 h).2
  | [], _ => trivial
  | [_], _ => trivial
  | [_, _], _ => trivial
  | (_ :: _ :: _ :: _ :: _), _ => trivial
theorem cw_sim_X6_named {l : Launch} {v : cwE} (htr : l.stackTraces = false) {d : Nat} (ih : cw_Rec l v d (RC (cw_bd v) d)) (σ σ' : CS) (kd : Nat) (r : Int) : ∀ as : List Int, cw_body (cw_bd v) (RC (cw_bd v) d) d 107 σ as = some (σ', kd, r) → cw_MetK l v (d + 1) 107 σ as σ' kd r
  | [a0, a1], h => fun ia0 ia1 => pm_X6_named rfl ih htr (cc_if5 h).1 σ σ' a0 a1 kd r ia0 ia1 (cc_if5 h).2
  | [], _ => trivial
  | [_], _ => trivial
  | (_ :: _ :: _ :: _), _ => trivial
theorem cw_sim_X6_use {l : Launch} {v : cwE} (htr : l.stackTraces = false) {d : Nat} (ih : cw_Rec l v d (RC (cw_bd v) d)) (σ σ' : CS) (kd : Nat) (r : Int) : ∀ as : List Int, cw_body (cw_bd v) (RC (cw_bd v) d) d 108 σ as = some (σ', kd, r) → cw_MetK l v (d + 1) 108 σ as σ' kd r
  | [a0, a1], h => fun ia0 ia1 => pm_X6_use rfl ih htr (cc_if5 h).1 σ σ' a0 a1 kd r ia0 ia1 (cc_if5 h).2
  | [], _ => trivial
  | [_], _ => trivial
  | (_ :: _ :: _ :: _), _ => trivial
theorem cw_sim_X7_advance {l : Launch} {v : cwE} (htr : l.stackTraces = false) {d : Nat} (ih : cw_Rec l v d (RC (cw_bd v) d)) (σ σ' : CS) (kd : Nat) (r : Int) : ∀ as : List Int, cw_body (cw_bd v) (RC (cw_bd v) d) d 109 σ as = some (σ', kd, r) → cw_MetK l v (d + 1) 109 σ as σ' kd r
  | [a0], h => fun ia0 => pm_X7_advance rfl ih htr (cc_if5 h).1 σ σ' a0 kd r ia0 (cc_if5 h).2
  | [], _ => trivial
  | (_ :: _ :: _), _ => trivial
theorem cw_sim_X7_atom {l : Launch} {v : cwE} (htr : l.stackTraces = false) {d : Nat} (ih : cw_Rec l v d (RC (cw_bd v) d)) (σ σ' : CS) (kd : Nat) (r : Int) : ∀ as : List Int, cw_body (cw_bd v) (RC (cw_bd v) d) d 110 σ as = some (σ', kd, r) → cw_MetK l v (d + 1) 110 σ as σ' kd r
  | [a0, a1], h => fun ia0 ia1 => pm_X7_atom rfl ih htr (cc_if5 h).1 σ σ' a0 a1 kd r ia0 ia1 (cc_if5 h).2
  | [], _ => trivial
  | [_], _ => trivial
  | (_ :: _ :: _ :: _), _ => trivial
theorem cw_sim_X7_atomBegins {l : Launch} {v : cwE} (htr : l.stackTraces = false) {d : Nat} (ih : cw_Rec l v d (RC (cw_bd v) d)) (σ σ' : CS) (kd : Nat) (r : Int) : ∀ as : List Int, cw_body (cw_bd v) (RC (cw_bd v) d) d 111 σ as = some (σ', kd, r) → cw_MetK l v (d + 1) 111 σ as σ' kd r
  | [a0], h => fun ia0 => pm_X7_atomBegins rfl ih htr (cc_if5 h).1 σ σ' a0 kd r ia0 (cc_if5 h).2
  | [], _ => trivial
  | (_ :: _ :: _), _ => trivial
theorem cw_sim_X7_axiom {l : Launch} {v : cwE} (htr : l.stackTraces = false) {d : Nat} (ih : cw_Rec l v d (RC (cw_bd v) d)) (σ σ' : CS) (kd : Nat) (r : Int) : ∀ as : List Int, cw_body (cw_bd v) (RC (cw_bd v) d) d 112 σ as = some (σ', kd, r) → cw_MetK l v (d + 1) 112 σ as σ' kd r
  | [a0, a1], h => fun ia0 ia1 => pm_X7_axiom rfl ih htr (cc_if5 h).1 σ σ' a0 a1 kd r ia0 ia1 (cc_if5 h).2
  | [], _ => trivial
  | [_], _ => trivial
  | (_ :: _ :: _ :: _), _ => trivial
theorem cw_sim_X7_behindBlanks {l : Launch} {v : cwE} (htr : l.stackTraces = false) {d : Nat} (ih : cw_Rec l v d (RC (cw_bd v) d)) (σ σ' : CS) (kd : Nat) (r : Int) : ∀ as : List Int, cw_body (cw_bd v) (RC (cw_bd v) d) d 113 σ as = some (σ', kd, r) → cw_MetK l v (d + 1) 113 σ as σ' kd r
  | [a0, a1], h => fun ia0 ia1 => pm_X7_behindBlanks rfl ih htr (cc_if5 h).1 σ σ' a0 a1 kd r ia0 ia1 (cc_if5 h).2
  | [], _ => trivial
  | [_], _ => trivial
  | (_ :: _ :: _ :: _), _ => trivial
theorem cw_sim_X7_binder {l : Launch} {v : cwE} (htr : l.stackTraces = false) {d : Nat} (ih : cw_Rec l v d (RC (cw_bd v) d)) (σ σ' : CS) (kd : Nat) (r : Int) : ∀ as : List Int, cw_body (cw_bd v) (RC (cw_bd v) d) d 114 σ as = some (σ', kd, r) → cw_MetK l v (d + 1) 114 σ as σ' kd r
  | [a0, a1], h => fun ia0 ia1 => pm_X7_binder rfl ih htr (cc_if5 h).1 σ σ' a0 a1 kd r ia0 ia1 (cc_if5 h).2
  | [], _ => trivial
  | [_], _ => trivial
  | (_ :: _ :: _ :: _), _ => trivial
theorem cw_sim_X7_closeOf {l : Launch} {v : cwE} (htr : l.stackTraces = false) {d : Nat} (ih : cw_Rec l v d (RC (cw_bd v) d)) (σ σ' : CS) (kd : Nat) (r : Int) : ∀ as : List Int, cw_body (cw_bd v) (RC (cw_bd v) d) d 115 σ as = some (σ', kd, r) → cw_MetK l v (d + 1) 115 σ as σ' kd r
  | [a0, a1], h => fun ia0 ia1 => pm_X7_closeOf rfl ih htr (cc_if5 h).1 σ σ' a0 a1 kd r ia0 ia1 (cc_if5 h).2
  | [], _ => trivial
  | [_], _ => trivial
  | (_ :: _ :: _ :: _), _ => trivial
theorem cw_sim_X7_expect {l : Launch} {v : cwE} (htr : l.stackTraces = false) {d : Nat} (ih : cw_Rec l v d (RC (cw_bd v) d)) (σ σ' : CS) (kd : Nat) (r : Int) : ∀ as : List Int, cw_body (cw_bd v) (RC (cw_bd v) d) d 116 σ as = some (σ', kd, r) → cw_MetK l v (d + 1) 116 σ as σ' kd r
  | [a0, a1], h => fun ia0 ia1 => pm_X7_expect rfl ih htr (cc_if5 h).1 σ σ' a0 a1 kd r ia0 ia1 (cc_if5 h).2
  | [], _ => trivial
  | [_], _ => trivial
  | (_ :: _ :: _ :: _), _ => trivial
theorem cw_sim_X7_init {l : Launch} {v : cwE} (htr : l.stackTraces = false) {d : Nat} (ih : cw_Rec l v d (RC (cw_bd v) d)) (σ σ' : CS) (kd : Nat) (r : Int) : ∀ as : List Int, cw_body (cw_bd v) (RC (cw_bd v) d) d 117 σ as = some (σ', kd, r) → cw_MetK l v (d + 1) 117 σ as σ' kd r
  | [a0, a1, a2], h => fun ia0 ia1 ia2 => pm_X7_init rfl ih htr (cc_if5 h).1 σ σ' a0 a1 a2 kd r ia0 ia1 ia2 (cc_if5 h).2
  | [], _ => trivial
  | [_], _ => trivial
  | [_, _], _ => trivial
  | (_ :: _ :: _ :: _ :: _), _ => trivial
theorem cw_sim_X7_isLetter {l : Launch} {v : cwE} (htr : l.stackTraces = false) {d : Nat} (ih : cw_Rec l v d (RC (cw_bd v) d)) (σ σ' : CS) (kd : Nat) (r : Int) : ∀ as : List Int, cw_body (cw_bd v) (RC (cw_bd v) d) d 118 σ as = some (σ', kd, r) → cw_MetK l v (d + 1) 118 σ as σ' kd r
  | [a0], h => fun ia0 => pm_X7_isLetter rfl ih htr (cc_if5 h).1 σ σ' a0 kd r ia0 (cc_if5 h).2
  | [], _ => trivial
  | (_ :: _ :: _), _ => trivial
theorem cw_sim_X7_isNameSign {l : Launch} {v : cwE} (htr : l.stackTraces = false) {d : Nat} (ih : cw_Rec l v d (RC (cw_bd v) d)) (σ σ' : CS) (kd : Nat) (r : Int) : ∀ as : List Int, cw_body (cw_bd v) (RC (cw_bd v) d) d 119 σ as = some (σ', kd, r) → cw_MetK l v (d + 1) 119 σ as σ' kd r
  | [a0], h => fun ia0 => pm_X7_isNameSign rfl ih htr (cc_if5 h).1 σ σ' a0 kd r ia0 (cc_if5 h).2
  | [], _ => trivial
  | (_ :: _ :: _), _ => trivial
theorem cw_sim_X7_isWord {l : Launch} {v : cwE} (htr : l.stackTraces = false) {d : Nat} (ih : cw_Rec l v d (RC (cw_bd v) d)) (σ σ' : CS) (kd : Nat) (r : Int) : ∀ as : List Int, cw_body (cw_bd v) (RC (cw_bd v) d) d 120 σ as = some (σ', kd, r) → cw_MetK l v (d + 1) 120 σ as σ' kd r
  | [a0, a1], h => fun ia0 ia1 => pm_X7_isWord rfl ih htr (cc_if5 h).1 σ σ' a0 a1 kd r ia0 ia1 (cc_if5 h).2
  | [], _ => trivial
  | [_], _ => trivial
  | (_ :: _ :: _ :: _), _ => trivial
theorem cw_sim_X7_nameStatement {l : Launch} {v : cwE} (htr : l.stackTraces = false) {d : Nat} (ih : cw_Rec l v d (RC (cw_bd v) d)) (σ σ' : CS) (kd : Nat) (r : Int) : ∀ as : List Int, cw_body (cw_bd v) (RC (cw_bd v) d) d 121 σ as = some (σ', kd, r) → cw_MetK l v (d + 1) 121 σ as σ' kd r
  | [a0, a1], h => fun ia0 ia1 => pm_X7_nameStatement rfl ih htr (cc_if5 h).1 σ σ' a0 a1 kd r ia0 ia1 (cc_if5 h).2
  | [], _ => trivial
  | [_], _ => trivial
  | (_ :: _ :: _ :: _), _ => trivial
theorem cw_sim_X7_nameToken {l : Launch} {v : cwE} (htr : l.stackTraces = false) {d : Nat} (ih : cw_Rec l v d (RC (cw_bd v) d)) (σ σ' : CS) (kd : Nat) (r : Int) : ∀ as : List Int, cw_body (cw_bd v) (RC (cw_bd v) d) d 122 σ as = some (σ', kd, r) → cw_MetK l v (d + 1) 122 σ as σ' kd r
  | [a0], h => fun ia0 => pm_X7_nameToken rfl ih htr (cc_if5 h).1 σ σ' a0 kd r ia0 (cc_if5 h).2
  | [], _ => trivial
  | (_ :: _ :: _), _ => trivial
theorem cw_sim_X7_newId {l : Launch} {v : cwE} (htr : l.stackTraces = false) {d : Nat} (ih : cw_Rec l v d (RC (cw_bd v) d)) (σ σ' : CS) (kd : Nat) (r : Int) : ∀ as : List Int, cw_body (cw_bd v) (RC (cw_bd v) d) d 123 σ as = some (σ', kd, r) → cw_MetK l v (d + 1) 123 σ as σ' kd r
  | [a0], h => fun ia0 => pm_X7_newId rfl ih htr (cc_if5 h).1 σ σ' a0 kd r ia0 (cc_if5 h).2
  | [], _ => trivial
  | (_ :: _ :: _), _ => trivial
theorem cw_sim_X7_readText {l : Launch} {v : cwE} (htr : l.stackTraces = false) {d : Nat} (ih : cw_Rec l v d (RC (cw_bd v) d)) (σ σ' : CS) (kd : Nat) (r : Int) : ∀ as : List Int, cw_body (cw_bd v) (RC (cw_bd v) d) d 124 σ as = some (σ', kd, r) → cw_MetK l v (d + 1) 124 σ as σ' kd r
  | [a0, a1], h => fun ia0 ia1 => pm_X7_readText rfl ih htr (cc_if5 h).1 σ σ' a0 a1 kd r ia0 ia1 (cc_if5 h).2
  | [], _ => trivial
  | [_], _ => trivial
  | (_ :: _ :: _ :: _), _ => trivial
theorem cw_sim_X7_refuse {l : Launch} {v : cwE} (htr : l.stackTraces = false) {d : Nat} (ih : cw_Rec l v d (RC (cw_bd v) d)) (σ σ' : CS) (kd : Nat) (r : Int) : ∀ as : List Int, cw_body (cw_bd v) (RC (cw_bd v) d) d 125 σ as = some (σ', kd, r) → cw_MetK l v (d + 1) 125 σ as σ' kd r
  | [a0], h => fun ia0 => pm_X7_refuse rfl ih htr (cc_if5 h).1 σ σ' a0 kd r ia0 (cc_if5 h).2
  | [], _ => trivial
  | (_ :: _ :: _), _ => trivial
theorem cw_sim_X7_sameStatement {l : Launch} {v : cwE} (htr : l.stackTraces = false) {d : Nat} (ih : cw_Rec l v d (RC (cw_bd v) d)) (σ σ' : CS) (kd : Nat) (r : Int) : ∀ as : List Int, cw_body (cw_bd v) (RC (cw_bd v) d) d 126 σ as = some (σ', kd, r) → cw_MetK l v (d + 1) 126 σ as σ' kd r
  | [a0, a1], h => fun ia0 ia1 => pm_X7_sameStatement rfl ih htr (cc_if5 h).1 σ σ' a0 a1 kd r ia0 ia1 (cc_if5 h).2
  | [], _ => trivial
  | [_], _ => trivial
  | (_ :: _ :: _ :: _), _ => trivial
theorem cw_sim_X7_scan {l : Launch} {v : cwE} (htr : l.stackTraces = false) {d : Nat} (ih : cw_Rec l v d (RC (cw_bd v) d)) (σ σ' : CS) (kd : Nat) (r : Int) : ∀ as : List Int, cw_body (cw_bd v) (RC (cw_bd v) d) d 127 σ as = some (σ', kd, r) → cw_MetK l v (d + 1) 127 σ as σ' kd r
  | [a0], h => fun ia0 => pm_X7_scan rfl ih htr (cc_if5 h).1 σ σ' a0 kd r ia0 (cc_if5 h).2
  | [], _ => trivial
  | (_ :: _ :: _), _ => trivial
theorem cw_sim_X7_signToken {l : Launch} {v : cwE} (htr : l.stackTraces = false) {d : Nat} (ih : cw_Rec l v d (RC (cw_bd v) d)) (σ σ' : CS) (kd : Nat) (r : Int) : ∀ as : List Int, cw_body (cw_bd v) (RC (cw_bd v) d) d 128 σ as = some (σ', kd, r) → cw_MetK l v (d + 1) 128 σ as σ' kd r
  | [a0, a1], h => fun ia0 ia1 => pm_X7_signToken rfl ih htr (cc_if5 h).1 σ σ' a0 a1 kd r ia0 ia1 (cc_if5 h).2
  | [], _ => trivial
  | [_], _ => trivial
  | (_ :: _ :: _ :: _), _ => trivial
theorem cw_sim_X7_statement {l : Launch} {v : cwE} (htr : l.stackTraces = false) {d : Nat} (ih : cw_Rec l v d (RC (cw_bd v) d)) (σ σ' : CS) (kd : Nat) (r : Int) : ∀ as : List Int, cw_body (cw_bd v) (RC (cw_bd v) d) d 129 σ as = some (σ', kd, r) → cw_MetK l v (d + 1) 129 σ as σ' kd r
  | [a0], h => fun ia0 => pm_X7_statement rfl ih htr (cc_if5 h).1 σ σ' a0 kd r ia0 (cc_if5 h).2
  | [], _ => trivial
  | (_ :: _ :: _), _ => trivial
theorem cw_sim_X7_takeName {l : Launch} {v : cwE} (htr : l.stackTraces = false) {d : Nat} (ih : cw_Rec l v d (RC (cw_bd v) d)) (σ σ' : CS) (kd : Nat) (r : Int) : ∀ as : List Int, cw_body (cw_bd v) (RC (cw_bd v) d) d 130 σ as = some (σ', kd, r) → cw_MetK l v (d + 1) 130 σ as σ' kd r
  | [a0], h => fun ia0 => pm_X7_takeName rfl ih htr (cc_if5 h).1 σ σ' a0 kd r ia0 (cc_if5 h).2
  | [], _ => trivial
  | (_ :: _ :: _), _ => trivial
theorem cw_sim_X7_term {l : Launch} {v : cwE} (htr : l.stackTraces = false) {d : Nat} (ih : cw_Rec l v d (RC (cw_bd v) d)) (σ σ' : CS) (kd : Nat) (r : Int) : ∀ as : List Int, cw_body (cw_bd v) (RC (cw_bd v) d) d 131 σ as = some (σ', kd, r) → cw_MetK l v (d + 1) 131 σ as σ' kd r
  | [a0, a1], h => fun ia0 ia1 => pm_X7_term rfl ih htr (cc_if5 h).1 σ σ' a0 a1 kd r ia0 ia1 (cc_if5 h).2
  | [], _ => trivial
  | [_], _ => trivial
  | (_ :: _ :: _ :: _), _ => trivial
theorem cw_sim_X7_termStatement {l : Launch} {v : cwE} (htr : l.stackTraces = false) {d : Nat} (ih : cw_Rec l v d (RC (cw_bd v) d)) (σ σ' : CS) (kd : Nat) (r : Int) : ∀ as : List Int, cw_body (cw_bd v) (RC (cw_bd v) d) d 132 σ as = some (σ', kd, r) → cw_MetK l v (d + 1) 132 σ as σ' kd r
  | [a0, a1, a2], h => fun ia0 ia1 ia2 => pm_X7_termStatement rfl ih htr (cc_if5 h).1 σ σ' a0 a1 a2 kd r ia0 ia1 ia2 (cc_if5 h).2
  | [], _ => trivial
  | [_], _ => trivial
  | [_, _], _ => trivial
  | (_ :: _ :: _ :: _ :: _), _ => trivial
theorem cw_sim_X7_use {l : Launch} {v : cwE} (htr : l.stackTraces = false) {d : Nat} (ih : cw_Rec l v d (RC (cw_bd v) d)) (σ σ' : CS) (kd : Nat) (r : Int) : ∀ as : List Int, cw_body (cw_bd v) (RC (cw_bd v) d) d 133 σ as = some (σ', kd, r) → cw_MetK l v (d + 1) 133 σ as σ' kd r
  | [a0, a1], h => fun ia0 ia1 => pm_X7_use rfl ih htr (cc_if5 h).1 σ σ' a0 a1 kd r ia0 ia1 (cc_if5 h).2
  | [], _ => trivial
  | [_], _ => trivial
  | (_ :: _ :: _ :: _), _ => trivial
theorem cw_sim_X7_wordNumber {l : Launch} {v : cwE} (htr : l.stackTraces = false) {d : Nat} (ih : cw_Rec l v d (RC (cw_bd v) d)) (σ σ' : CS) (kd : Nat) (r : Int) : ∀ as : List Int, cw_body (cw_bd v) (RC (cw_bd v) d) d 134 σ as = some (σ', kd, r) → cw_MetK l v (d + 1) 134 σ as σ' kd r
  | [a0], h => fun ia0 => pm_X7_wordNumber rfl ih htr (cc_if5 h).1 σ σ' a0 kd r ia0 (cc_if5 h).2
  | [], _ => trivial
  | (_ :: _ :: _), _ => trivial
theorem cw_sim_X8_init {l : Launch} {v : cwE} (htr : l.stackTraces = false) {d : Nat} (ih : cw_Rec l v d (RC (cw_bd v) d)) (σ σ' : CS) (kd : Nat) (r : Int) : ∀ as : List Int, cw_body (cw_bd v) (RC (cw_bd v) d) d 135 σ as = some (σ', kd, r) → cw_MetK l v (d + 1) 135 σ as σ' kd r
  | [a0, a1, a2, a3, a4], h => fun ia0 ia1 ia2 ia3 ia4 => pm_X8_init rfl ih htr (cc_if5 h).1 σ σ' a0 a1 a2 a3 a4 kd r ia0 ia1 ia2 ia3 ia4 (cc_if5 h).2
  | [], _ => trivial
  | [_], _ => trivial
  | [_, _], _ => trivial
  | [_, _, _], _ => trivial
  | [_, _, _, _], _ => trivial
  | (_ :: _ :: _ :: _ :: _ :: _ :: _), _ => trivial
theorem cw_sim_X8_letsOf {l : Launch} {v : cwE} (htr : l.stackTraces = false) {d : Nat} (ih : cw_Rec l v d (RC (cw_bd v) d)) (σ σ' : CS) (kd : Nat) (r : Int) : ∀ as : List Int, cw_body (cw_bd v) (RC (cw_bd v) d) d 136 σ as = some (σ', kd, r) → cw_MetK l v (d + 1) 136 σ as σ' kd r
  | [a0], h => fun ia0 => pm_X8_letsOf rfl ih htr (cc_if5 h).1 σ σ' a0 kd r ia0 (cc_if5 h).2
  | [], _ => trivial
  | (_ :: _ :: _), _ => trivial
theorem cw_sim_X9_init {l : Launch} {v : cwE} (htr : l.stackTraces = false) {d : Nat} (ih : cw_Rec l v d (RC (cw_bd v) d)) (σ σ' : CS) (kd : Nat) (r : Int) : ∀ as : List Int, cw_body (cw_bd v) (RC (cw_bd v) d) d 137 σ as = some (σ', kd, r) → cw_MetK l v (d + 1) 137 σ as σ' kd r
  | [a0, a1, a2, a3, a4, a5], h => fun ia0 ia1 ia2 ia3 ia4 ia5 => pm_X9_init rfl ih htr (cc_if5 h).1 σ σ' a0 a1 a2 a3 a4 a5 kd r ia0 ia1 ia2 ia3 ia4 ia5 (cc_if5 h).2
  | [], _ => trivial
  | [_], _ => trivial
  | [_, _], _ => trivial
  | [_, _, _], _ => trivial
  | [_, _, _, _], _ => trivial
  | [_, _, _, _, _], _ => trivial
  | (_ :: _ :: _ :: _ :: _ :: _ :: _ :: _), _ => trivial
theorem cw_simK {l : Launch} {v : cwE} (htr : l.stackTraces = false) {d : Nat} (ih : cw_Rec l v d (RC (cw_bd v) d)) (σ : CS) (as : List Int) (σ' : CS) (kd : Nat) (r : Int) : ∀ k : Nat, cw_body (cw_bd v) (RC (cw_bd v) d) d k σ as = some (σ', kd, r) → cw_MetK l v (d + 1) k σ as σ' kd r
  | 0, h => cw_sim_J15_checkIndex_7cf53 htr ih σ σ' kd r as h
  | 1, h => cw_sim_J3_checkIndex_8e157 htr ih σ σ' kd r as h
  | 2, h => cw_sim_J7_copyOf_1904c htr ih σ σ' kd r as h
  | 3, h => cw_sim_J7_copyOf_6403c htr ih σ σ' kd r as h
  | 4, h => cw_sim_J8_hugeLength_7cf53 htr ih σ σ' kd r as h
  | 5, h => cw_sim_J8_newLength_cabcc htr ih σ σ' kd r as h
  | 6, h => cw_sim_Jx4a65c_add_72be8 htr ih σ σ' kd r as h
  | 7, h => cw_sim_Jx4a65c_add_9ea2d htr ih σ σ' kd r as h
  | 8, h => cw_sim_Jx4a65c_elementData_915e3 htr ih σ σ' kd r as h
  | 9, h => cw_sim_Jx4a65c_get_915e3 htr ih σ σ' kd r as h
  | 10, h => cw_sim_Jx4a65c_grow_92f84 htr ih σ σ' kd r as h
  | 11, h => cw_sim_Jx4a65c_grow_d5877 htr ih σ σ' kd r as h
  | 12, h => cw_sim_Jx4a65c_init_da8c8 htr ih σ σ' kd r as h
  | 13, h => cw_sim_Jx4a65c_size_8abf5 htr ih σ σ' kd r as h
  | 14, h => cw_sim_Jxa1e45_init_da8c8 htr ih σ σ' kd r as h
  | 15, h => cw_sim_Jxc12de_init_da8c8 htr ih σ σ' kd r as h
  | 16, h => cw_sim_X0_addName htr ih σ σ' kd r as h
  | 17, h => cw_sim_X0_axiomOf htr ih σ σ' kd r as h
  | 18, h => cw_sim_X0_clear htr ih σ σ' kd r as h
  | 19, h => cw_sim_X0_init htr ih σ σ' kd r as h
  | 20, h => cw_sim_X0_loadCorner htr ih σ σ' kd r as h
  | 21, h => cw_sim_X0_ruleOf htr ih σ σ' kd r as h
  | 22, h => cw_sim_X0_setAxiom htr ih σ σ' kd r as h
  | 23, h => cw_sim_X0_setRule htr ih σ σ' kd r as h
  | 24, h => cw_sim_X0_valueOf htr ih σ σ' kd r as h
  | 25, h => cw_sim_X1_envOfSecond htr ih σ σ' kd r as h
  | 26, h => cw_sim_X1_init htr ih σ σ' kd r as h
  | 27, h => cw_sim_X1_isBinder htr ih σ σ' kd r as h
  | 28, h => cw_sim_X10_clear htr ih σ σ' kd r as h
  | 29, h => cw_sim_X10_init htr ih σ σ' kd r as h
  | 30, h => cw_sim_X10_set htr ih σ σ' kd r as h
  | 31, h => cw_sim_X11_addAxiom htr ih σ σ' kd r as h
  | 32, h => cw_sim_X11_addRule htr ih σ σ' kd r as h
  | 33, h => cw_sim_X11_addSort htr ih σ σ' kd r as h
  | 34, h => cw_sim_X11_answerSame htr ih σ σ' kd r as h
  | 35, h => cw_sim_X11_assume htr ih σ σ' kd r as h
  | 36, h => cw_sim_X11_back htr ih σ σ' kd r as h
  | 37, h => cw_sim_X11_check htr ih σ σ' kd r as h
  | 38, h => cw_sim_X11_compareNames htr ih σ σ' kd r as h
  | 39, h => cw_sim_X11_corner htr ih σ σ' kd r as h
  | 40, h => cw_sim_X11_count htr ih σ σ' kd r as h
  | 41, h => cw_sim_X11_define htr ih σ σ' kd r as h
  | 42, h => cw_sim_X11_fault htr ih σ σ' kd r as h
  | 43, h => cw_sim_X11_feed htr ih σ σ' kd r as h
  | 44, h => cw_sim_X11_feedFour htr ih σ σ' kd r as h
  | 45, h => cw_sim_X11_init htr ih σ σ' kd r as h
  | 46, h => cw_sim_X11_limit htr ih σ σ' kd r as h
  | 47, h => cw_sim_X11_mark htr ih σ σ' kd r as h
  | 48, h => cw_sim_X11_name htr ih σ σ' kd r as h
  | 49, h => cw_sim_X11_needNewName htr ih σ σ' kd r as h
  | 50, h => cw_sim_X11_needSame htr ih σ σ' kd r as h
  | 51, h => cw_sim_X11_neededSort htr ih σ σ' kd r as h
  | 52, h => cw_sim_X11_out htr ih σ σ' kd r as h
  | 53, h => cw_sim_X11_outs htr ih σ σ' kd r as h
  | 54, h => cw_sim_X11_perform htr ih σ σ' kd r as h
  | 55, h => cw_sim_X11_refuseBesideNames htr ih σ σ' kd r as h
  | 56, h => cw_sim_X11_rule htr ih σ σ' kd r as h
  | 57, h => cw_sim_X11_runText htr ih σ σ' kd r as h
  | 58, h => cw_sim_X11_same htr ih σ σ' kd r as h
  | 59, h => cw_sim_X11_sort htr ih σ σ' kd r as h
  | 60, h => cw_sim_X11_sortNumber htr ih σ σ' kd r as h
  | 61, h => cw_sim_X11_tellTypeOf htr ih σ σ' kd r as h
  | 62, h => cw_sim_X11_text htr ih σ σ' kd r as h
  | 63, h => cw_sim_X11_type htr ih σ σ' kd r as h
  | 64, h => cw_sim_X2_init htr ih σ σ' kd r as h
  | 65, h => cw_sim_X2_isNameOf htr ih σ σ' kd r as h
  | 66, h => cw_sim_X2_judge htr ih σ σ' kd r as h
  | 67, h => cw_sim_X2_judgeName htr ih σ σ' kd r as h
  | 68, h => cw_sim_X2_needProduct htr ih σ σ' kd r as h
  | 69, h => cw_sim_X2_neededRule htr ih σ σ' kd r as h
  | 70, h => cw_sim_X2_neededSort htr ih σ σ' kd r as h
  | 71, h => cw_sim_X2_resolve htr ih σ σ' kd r as h
  | 72, h => cw_sim_X2_sortAsType htr ih σ σ' kd r as h
  | 73, h => cw_sim_X2_typeOf htr ih σ σ' kd r as h
  | 74, h => cw_sim_X2_typeOfLambda htr ih σ σ' kd r as h
  | 75, h => cw_sim_X2_typeOfProduct htr ih σ σ' kd r as h
  | 76, h => cw_sim_X3_find htr ih σ σ' kd r as h
  | 77, h => cw_sim_X3_init htr ih σ σ' kd r as h
  | 78, h => cw_sim_X3_init_ htr ih σ σ' kd r as h
  | 79, h => cw_sim_X3_lengthOf htr ih σ σ' kd r as h
  | 80, h => cw_sim_X4_areSame htr ih σ σ' kd r as h
  | 81, h => cw_sim_X4_begin htr ih σ σ' kd r as h
  | 82, h => cw_sim_X4_compare htr ih σ σ' kd r as h
  | 83, h => cw_sim_X4_head htr ih σ σ' kd r as h
  | 84, h => cw_sim_X4_init htr ih σ σ' kd r as h
  | 85, h => cw_sim_X4_look htr ih σ σ' kd r as h
  | 86, h => cw_sim_X4_normalForm htr ih σ σ' kd r as h
  | 87, h => cw_sim_X4_normalize htr ih σ σ' kd r as h
  | 88, h => cw_sim_X4_put htr ih σ σ' kd r as h
  | 89, h => cw_sim_X4_putAnswer htr ih σ σ' kd r as h
  | 90, h => cw_sim_X4_putFront htr ih σ σ' kd r as h
  | 91, h => cw_sim_X4_putNumber htr ih σ σ' kd r as h
  | 92, h => cw_sim_X4_putSigns htr ih σ σ' kd r as h
  | 93, h => cw_sim_X4_spend htr ih σ σ' kd r as h
  | 94, h => cw_sim_X4_tell htr ih σ σ' kd r as h
  | 95, h => cw_sim_X4_tellHead htr ih σ σ' kd r as h
  | 96, h => cw_sim_X4_tellWhole htr ih σ σ' kd r as h
  | 97, h => cw_sim_X5_add htr ih σ σ' kd r as h
  | 98, h => cw_sim_X5_agree htr ih σ σ' kd r as h
  | 99, h => cw_sim_X5_find htr ih σ σ' kd r as h
  | 100, h => cw_sim_X5_has htr ih σ σ' kd r as h
  | 101, h => cw_sim_X5_init htr ih σ σ' kd r as h
  | 102, h => cw_sim_X5_isFull htr ih σ σ' kd r as h
  | 103, h => cw_sim_X5_signOf htr ih σ σ' kd r as h
  | 104, h => cw_sim_X6_binder htr ih σ σ' kd r as h
  | 105, h => cw_sim_X6_init htr ih σ σ' kd r as h
  | 106, h => cw_sim_X6_keepSorts htr ih σ σ' kd r as h
  | 107, h => cw_sim_X6_named htr ih σ σ' kd r as h
  | 108, h => cw_sim_X6_use htr ih σ σ' kd r as h
  | 109, h => cw_sim_X7_advance htr ih σ σ' kd r as h
  | 110, h => cw_sim_X7_atom htr ih σ σ' kd r as h
  | 111, h => cw_sim_X7_atomBegins htr ih σ σ' kd r as h
  | 112, h => cw_sim_X7_axiom htr ih σ σ' kd r as h
  | 113, h => cw_sim_X7_behindBlanks htr ih σ σ' kd r as h
  | 114, h => cw_sim_X7_binder htr ih σ σ' kd r as h
  | 115, h => cw_sim_X7_closeOf htr ih σ σ' kd r as h
  | 116, h => cw_sim_X7_expect htr ih σ σ' kd r as h
  | 117, h => cw_sim_X7_init htr ih σ σ' kd r as h
  | 118, h => cw_sim_X7_isLetter htr ih σ σ' kd r as h
  | 119, h => cw_sim_X7_isNameSign htr ih σ σ' kd r as h
  | 120, h => cw_sim_X7_isWord htr ih σ σ' kd r as h
  | 121, h => cw_sim_X7_nameStatement htr ih σ σ' kd r as h
  | 122, h => cw_sim_X7_nameToken htr ih σ σ' kd r as h
  | 123, h => cw_sim_X7_newId htr ih σ σ' kd r as h
  | 124, h => cw_sim_X7_readText htr ih σ σ' kd r as h
  | 125, h => cw_sim_X7_refuse htr ih σ σ' kd r as h
  | 126, h => cw_sim_X7_sameStatement htr ih σ σ' kd r as h
  | 127, h => cw_sim_X7_scan htr ih σ σ' kd r as h
  | 128, h => cw_sim_X7_signToken htr ih σ σ' kd r as h
  | 129, h => cw_sim_X7_statement htr ih σ σ' kd r as h
  | 130, h => cw_sim_X7_takeName htr ih σ σ' kd r as h
  | 131, h => cw_sim_X7_term htr ih σ σ' kd r as h
  | 132, h => cw_sim_X7_termStatement htr ih σ σ' kd r as h
  | 133, h => cw_sim_X7_use htr ih σ σ' kd r as h
  | 134, h => cw_sim_X7_wordNumber htr ih σ σ' kd r as h
  | 135, h => cw_sim_X8_init htr ih σ σ' kd r as h
  | 136, h => cw_sim_X8_letsOf htr ih σ σ' kd r as h
  | 137, h => cw_sim_X9_init htr ih σ σ' kd r as h
  | k + 138, h => trivial
/-- the class's pure words tell what the machine does -/
theorem cw_sim {l : Launch} {v : cwE} (htr : l.stackTraces = false) : ∀ d, cw_Rec l v d (RC (cw_bd v) d) := by
  intro d
  induction d with
  | zero => intro k σ as σ' kd r h; cases h
  | succ d ih =>
    intro k σ as σ' kd r h
    obtain ⟨h1, h2⟩ := cc_fin_s h
    exact ⟨h2, cw_simK htr ih σ as σ' kd r k h1⟩
