def rf_body (rec : Nat → RS → List Int → Option (RS × Int)) (d k : Nat) (σ : RS) (as : List Int) : Option (RS × Int) := match k, as with
  | 1, [] => pf_thrown_0 rec σ
  | 2, [a0] => pf_fail_0 rec σ a0
  | 3, [a0, a1] => pf_wrong_0 rec σ a0 a1
  | 4, [a0] => if 3 ≤ d then pf_newSort_0 rec a0 σ else none
  | 5, [a0] => if 3 ≤ d then pf_table_0 rec σ a0 else none
  | 6, [a0, a1, a2, a3, a4] => pf_feed_0 rec σ a0 a1 a2 a3 a4
  | 7, [a0] => pf_byteAt_0 rec σ a0
  | 8, [a0] => pf_isLetter_0 rec σ a0
  | 9, [a0] => pf_goesOn_0 rec σ a0
  | 10, [] => pf_next_0 rec σ
  | 11, [a0] => if 3 ≤ d then pf_isWord_0 rec σ a0 else none
  | 12, [a0] => pf_readSign_0 rec σ a0
  | 13, [a0] => pf_isSign_0 rec σ a0
  | 14, [] => pf_isName_0 rec σ
  | 15, [] => pf_cant_0 rec σ
  | 16, [a0] => pf_need_0 rec σ a0
  | 17, [a0] => pf_needWord_0 rec σ a0
  | 18, [a0, a1, a2, a3, a4] => pf_node_0 rec σ a0 a1 a2 a3 a4
  | 19, [] => pf_nameNode_0 rec σ
  | 20, [a0] => pf_readTerm_0 rec σ a0
  | 21, [a0, a1, a2, a3] => pf_parts_0 rec σ a0 a1 a2 a3
  | 22, [] => pf_beginsAtom_0 rec σ
  | 23, [a0, a1] => pf_readUse_0 rec σ a0 a1
  | 24, [a0] => pf_readAtom_0 rec σ a0
  | 25, [] => pf_readStatement_0 rec σ
  | 26, [] => pf_readTold_0 rec σ
  | 27, [] => pf_readAll_0 rec σ
  | 28, [] => pf_may_0 rec σ
  | 29, [a0] => pf_look_0 rec σ a0
  | 30, [a0, a1, a2, a3] => pf_cell_0 rec σ a0 a1 a2 a3
  | 31, [a0, a1] => pf_find_0 rec σ a0 a1
  | 32, [a0, a1] => pf_head_0 rec σ a0 a1
  | 33, [a0] => pf_kindOf_0 rec σ a0
  | 34, [a0, a1, a2] => pf_inside_0 rec σ a0 a1 a2
  | 35, [a0, a1, a2, a3, a4] => pf_compare_0 rec σ a0 a1 a2 a3 a4
  | 36, [a0, a1, a2, a3, a4, a5, a6] => pf_alike_0 rec σ a0 a1 a2 a3 a4 a5 a6
  | 37, [a0] => pf_put_0 rec σ a0
  | 38, [a0] => pf_number_0 rec σ a0
  | 39, [a0, a1, a2] => pf_putWord_0 rec a1 σ a0 a2
  | 40, [a0, a1, a2, a3, a4] => pf_tell_0 rec σ a0 a1 a2 a3 a4
  | 41, [a0, a1, a2] => pf_normal_0 rec σ a0 a1 a2
  | 42, [a0, a1, a2, a3, a4] => pf_sameName_0 rec a2 σ a0 a1 a3 a4
  | 43, [a0] => pf_sortOf_0 rec σ a0
  | 44, [a0] => pf_knownOf_0 rec σ a0
  | 45, [a0, a1] => pf_becomes_0 rec σ a0 a1
  | 46, [a0] => pf_judgeName_0 rec σ a0
  | 47, [a0, a1] => pf_judgeSort_0 rec σ a0 a1
  | 48, [a0, a1, a2] => pf_bind_0 rec σ a0 a1 a2
  | 49, [a0, a1] => pf_judge_0 rec σ a0 a1
  | 50, [a0, a1] => pf_judgeProduct_0 rec σ a0 a1
  | 51, [a0, a1] => pf_judgeLambda_0 rec σ a0 a1
  | 52, [a0, a1] => pf_judgeUse_0 rec σ a0 a1
  | 53, [a0, a1] => pf_applied_0 rec σ a0 a1
  | 54, [] => pf_begin_0 rec σ
  | 55, [] => pf_drop_0 rec σ
  | 56, [] => pf_tables_0 rec σ
  | 57, [a0] => pf_yes_0 rec σ a0
  | 58, [] => pf_told_0 rec σ
  | 59, [] => pf_doStatement_0 rec σ
  | 60, [a0] => pf_tellLine_0 rec σ a0
  | 61, [] => pf_tellHead_0 rec σ
  | 62, [a0] => pf_text_0 rec σ a0
  | 63, [a0] => pf_fault_0 rec σ a0
  | 64, [a0] => pf_corner_0 rec σ a0
  | 65, [a0] => pf_limit_0 rec σ a0
  | 66, [] => pf_outs_0 rec σ
  | 67, [a0] => pf_out_0 rec σ a0
  | 68, [a0] => pf_count_0 rec σ a0
  | 69, [a0, a1] => pf_name_0 rec σ a0 a1
  | 70, [a0, a1] => pf_sort_0 rec σ a0 a1
  | 71, [a0, a1] => pf_rule_0 rec σ a0 a1
  | 72, [a0] => pf_type_0 rec σ a0
  | 73, [a0, a1] => pf_same_0 rec σ a0 a1
  | 74, [] => pf_mark_0 rec σ
  | 75, [] => pf_back_0 rec σ
  | _, _ => none
def RF : Nat → Nat → RS → List Int → Option (RS × Int)
  | 0 => fun _ _ _ => none
  | d + 1 => fun k σ as => rf_fin (rf_body (RF d) d k σ as)
theorem rf_fin_s {x : Option (RS × Int)} {y : RS × Int} (h : rf_fin x = some y) : x = some y ∧ inR y.2 := by
  cases x with
  | none => cases h
  | some q =>
    unfold rf_fin at h
    dsimp only at h
    split at h
    · next c => cases h; exact ⟨rfl, c⟩
    · cases h
theorem rf_if3 {d : Nat} {a : Option (RS × Int)} {y : RS × Int} (h : (if 3 ≤ d then a else none) = some y) : 3 ≤ d ∧ a = some y := by
  split at h
  · next c => exact ⟨c, h⟩
  · cases h
theorem rf_sim_thrown {l : Launch} {v : rfE} (hD : rf_D v) {d : Nat} (ih : rf_Rec l v d (RF d)) (σ σ' : RS) (r : Int) : ∀ as : List Int, rf_body (RF d) d 1 σ as = some (σ', r) → rf_MetK l v (d + 1) 1 σ as σ' r
  | [], h => pm_thrown hD ih σ σ'  r  h
  | (_ :: _), _ => trivial
theorem rf_sim_fail {l : Launch} {v : rfE} (hD : rf_D v) {d : Nat} (ih : rf_Rec l v d (RF d)) (σ σ' : RS) (r : Int) : ∀ as : List Int, rf_body (RF d) d 2 σ as = some (σ', r) → rf_MetK l v (d + 1) 2 σ as σ' r
  | [a0], h => fun ia0 => pm_fail hD ih σ σ' a0 r ia0 h
  | [], _ => trivial
  | (_ :: _ :: _), _ => trivial
theorem rf_sim_wrong {l : Launch} {v : rfE} (hD : rf_D v) {d : Nat} (ih : rf_Rec l v d (RF d)) (σ σ' : RS) (r : Int) : ∀ as : List Int, rf_body (RF d) d 3 σ as = some (σ', r) → rf_MetK l v (d + 1) 3 σ as σ' r
  | [a0, a1], h => fun ia0 ia1 => pm_wrong hD ih σ σ' a0 a1 r ia0 ia1 h
  | [], _ => trivial
  | [_], _ => trivial
  | (_ :: _ :: _ :: _), _ => trivial
theorem rf_sim_newSort {l : Launch} {v : rfE} (hD : rf_D v) {d : Nat} (ih : rf_Rec l v d (RF d)) (σ σ' : RS) (r : Int) : ∀ as : List Int, rf_body (RF d) d 4 σ as = some (σ', r) → rf_MetK l v (d + 1) 4 σ as σ' r
  | [a0], h => pm_newSort hD ih (rf_if3 h).1 σ σ' a0 r  (rf_if3 h).2
  | [], _ => trivial
  | (_ :: _ :: _), _ => trivial
theorem rf_sim_table {l : Launch} {v : rfE} (hD : rf_D v) {d : Nat} (ih : rf_Rec l v d (RF d)) (σ σ' : RS) (r : Int) : ∀ as : List Int, rf_body (RF d) d 5 σ as = some (σ', r) → rf_MetK l v (d + 1) 5 σ as σ' r
  | [a0], h => fun ia0 => pm_table hD ih (rf_if3 h).1 σ σ' a0 r ia0 (rf_if3 h).2
  | [], _ => trivial
  | (_ :: _ :: _), _ => trivial
theorem rf_sim_feed {l : Launch} {v : rfE} (hD : rf_D v) {d : Nat} (ih : rf_Rec l v d (RF d)) (σ σ' : RS) (r : Int) : ∀ as : List Int, rf_body (RF d) d 6 σ as = some (σ', r) → rf_MetK l v (d + 1) 6 σ as σ' r
  | [a0, a1, a2, a3, a4], h => fun ia0 ia1 ia2 ia3 ia4 => pm_feed hD ih σ σ' a0 a1 a2 a3 a4 r ia0 ia1 ia2 ia3 ia4 h
  | [], _ => trivial
  | [_], _ => trivial
  | [_, _], _ => trivial
  | [_, _, _], _ => trivial
  | [_, _, _, _], _ => trivial
  | (_ :: _ :: _ :: _ :: _ :: _ :: _), _ => trivial
theorem rf_sim_byteAt {l : Launch} {v : rfE} (hD : rf_D v) {d : Nat} (ih : rf_Rec l v d (RF d)) (σ σ' : RS) (r : Int) : ∀ as : List Int, rf_body (RF d) d 7 σ as = some (σ', r) → rf_MetK l v (d + 1) 7 σ as σ' r
  | [a0], h => fun ia0 => pm_byteAt hD ih σ σ' a0 r ia0 h
  | [], _ => trivial
  | (_ :: _ :: _), _ => trivial
theorem rf_sim_isLetter {l : Launch} {v : rfE} (hD : rf_D v) {d : Nat} (ih : rf_Rec l v d (RF d)) (σ σ' : RS) (r : Int) : ∀ as : List Int, rf_body (RF d) d 8 σ as = some (σ', r) → rf_MetK l v (d + 1) 8 σ as σ' r
  | [a0], h => fun ia0 => pm_isLetter hD ih σ σ' a0 r ia0 h
  | [], _ => trivial
  | (_ :: _ :: _), _ => trivial
theorem rf_sim_goesOn {l : Launch} {v : rfE} (hD : rf_D v) {d : Nat} (ih : rf_Rec l v d (RF d)) (σ σ' : RS) (r : Int) : ∀ as : List Int, rf_body (RF d) d 9 σ as = some (σ', r) → rf_MetK l v (d + 1) 9 σ as σ' r
  | [a0], h => fun ia0 => pm_goesOn hD ih σ σ' a0 r ia0 h
  | [], _ => trivial
  | (_ :: _ :: _), _ => trivial
theorem rf_sim_next {l : Launch} {v : rfE} (hD : rf_D v) {d : Nat} (ih : rf_Rec l v d (RF d)) (σ σ' : RS) (r : Int) : ∀ as : List Int, rf_body (RF d) d 10 σ as = some (σ', r) → rf_MetK l v (d + 1) 10 σ as σ' r
  | [], h => pm_next hD ih σ σ'  r  h
  | (_ :: _), _ => trivial
theorem rf_sim_isWord {l : Launch} {v : rfE} (hD : rf_D v) {d : Nat} (ih : rf_Rec l v d (RF d)) (σ σ' : RS) (r : Int) : ∀ as : List Int, rf_body (RF d) d 11 σ as = some (σ', r) → rf_MetK l v (d + 1) 11 σ as σ' r
  | [a0], h => fun ia0 => pm_isWord hD ih (rf_if3 h).1 σ σ' a0 r ia0 (rf_if3 h).2
  | [], _ => trivial
  | (_ :: _ :: _), _ => trivial
theorem rf_sim_readSign {l : Launch} {v : rfE} (hD : rf_D v) {d : Nat} (ih : rf_Rec l v d (RF d)) (σ σ' : RS) (r : Int) : ∀ as : List Int, rf_body (RF d) d 12 σ as = some (σ', r) → rf_MetK l v (d + 1) 12 σ as σ' r
  | [a0], h => fun ia0 => pm_readSign hD ih σ σ' a0 r ia0 h
  | [], _ => trivial
  | (_ :: _ :: _), _ => trivial
theorem rf_sim_isSign {l : Launch} {v : rfE} (hD : rf_D v) {d : Nat} (ih : rf_Rec l v d (RF d)) (σ σ' : RS) (r : Int) : ∀ as : List Int, rf_body (RF d) d 13 σ as = some (σ', r) → rf_MetK l v (d + 1) 13 σ as σ' r
  | [a0], h => fun ia0 => pm_isSign hD ih σ σ' a0 r ia0 h
  | [], _ => trivial
  | (_ :: _ :: _), _ => trivial
theorem rf_sim_isName {l : Launch} {v : rfE} (hD : rf_D v) {d : Nat} (ih : rf_Rec l v d (RF d)) (σ σ' : RS) (r : Int) : ∀ as : List Int, rf_body (RF d) d 14 σ as = some (σ', r) → rf_MetK l v (d + 1) 14 σ as σ' r
  | [], h => pm_isName hD ih σ σ'  r  h
  | (_ :: _), _ => trivial
theorem rf_sim_cant {l : Launch} {v : rfE} (hD : rf_D v) {d : Nat} (ih : rf_Rec l v d (RF d)) (σ σ' : RS) (r : Int) : ∀ as : List Int, rf_body (RF d) d 15 σ as = some (σ', r) → rf_MetK l v (d + 1) 15 σ as σ' r
  | [], h => pm_cant hD ih σ σ'  r  h
  | (_ :: _), _ => trivial
theorem rf_sim_need {l : Launch} {v : rfE} (hD : rf_D v) {d : Nat} (ih : rf_Rec l v d (RF d)) (σ σ' : RS) (r : Int) : ∀ as : List Int, rf_body (RF d) d 16 σ as = some (σ', r) → rf_MetK l v (d + 1) 16 σ as σ' r
  | [a0], h => fun ia0 => pm_need hD ih σ σ' a0 r ia0 h
  | [], _ => trivial
  | (_ :: _ :: _), _ => trivial
theorem rf_sim_needWord {l : Launch} {v : rfE} (hD : rf_D v) {d : Nat} (ih : rf_Rec l v d (RF d)) (σ σ' : RS) (r : Int) : ∀ as : List Int, rf_body (RF d) d 17 σ as = some (σ', r) → rf_MetK l v (d + 1) 17 σ as σ' r
  | [a0], h => fun ia0 => pm_needWord hD ih σ σ' a0 r ia0 h
  | [], _ => trivial
  | (_ :: _ :: _), _ => trivial
theorem rf_sim_node {l : Launch} {v : rfE} (hD : rf_D v) {d : Nat} (ih : rf_Rec l v d (RF d)) (σ σ' : RS) (r : Int) : ∀ as : List Int, rf_body (RF d) d 18 σ as = some (σ', r) → rf_MetK l v (d + 1) 18 σ as σ' r
  | [a0, a1, a2, a3, a4], h => fun ia0 ia1 ia2 ia3 ia4 => pm_node hD ih σ σ' a0 a1 a2 a3 a4 r ia0 ia1 ia2 ia3 ia4 h
  | [], _ => trivial
  | [_], _ => trivial
  | [_, _], _ => trivial
  | [_, _, _], _ => trivial
  | [_, _, _, _], _ => trivial
  | (_ :: _ :: _ :: _ :: _ :: _ :: _), _ => trivial
theorem rf_sim_nameNode {l : Launch} {v : rfE} (hD : rf_D v) {d : Nat} (ih : rf_Rec l v d (RF d)) (σ σ' : RS) (r : Int) : ∀ as : List Int, rf_body (RF d) d 19 σ as = some (σ', r) → rf_MetK l v (d + 1) 19 σ as σ' r
  | [], h => pm_nameNode hD ih σ σ'  r  h
  | (_ :: _), _ => trivial
theorem rf_sim_readTerm {l : Launch} {v : rfE} (hD : rf_D v) {d : Nat} (ih : rf_Rec l v d (RF d)) (σ σ' : RS) (r : Int) : ∀ as : List Int, rf_body (RF d) d 20 σ as = some (σ', r) → rf_MetK l v (d + 1) 20 σ as σ' r
  | [a0], h => fun ia0 => pm_readTerm hD ih σ σ' a0 r ia0 h
  | [], _ => trivial
  | (_ :: _ :: _), _ => trivial
theorem rf_sim_parts {l : Launch} {v : rfE} (hD : rf_D v) {d : Nat} (ih : rf_Rec l v d (RF d)) (σ σ' : RS) (r : Int) : ∀ as : List Int, rf_body (RF d) d 21 σ as = some (σ', r) → rf_MetK l v (d + 1) 21 σ as σ' r
  | [a0, a1, a2, a3], h => fun ia0 ia1 ia2 ia3 => pm_parts hD ih σ σ' a0 a1 a2 a3 r ia0 ia1 ia2 ia3 h
  | [], _ => trivial
  | [_], _ => trivial
  | [_, _], _ => trivial
  | [_, _, _], _ => trivial
  | (_ :: _ :: _ :: _ :: _ :: _), _ => trivial
theorem rf_sim_beginsAtom {l : Launch} {v : rfE} (hD : rf_D v) {d : Nat} (ih : rf_Rec l v d (RF d)) (σ σ' : RS) (r : Int) : ∀ as : List Int, rf_body (RF d) d 22 σ as = some (σ', r) → rf_MetK l v (d + 1) 22 σ as σ' r
  | [], h => pm_beginsAtom hD ih σ σ'  r  h
  | (_ :: _), _ => trivial
theorem rf_sim_readUse {l : Launch} {v : rfE} (hD : rf_D v) {d : Nat} (ih : rf_Rec l v d (RF d)) (σ σ' : RS) (r : Int) : ∀ as : List Int, rf_body (RF d) d 23 σ as = some (σ', r) → rf_MetK l v (d + 1) 23 σ as σ' r
  | [a0, a1], h => fun ia0 ia1 => pm_readUse hD ih σ σ' a0 a1 r ia0 ia1 h
  | [], _ => trivial
  | [_], _ => trivial
  | (_ :: _ :: _ :: _), _ => trivial
theorem rf_sim_readAtom {l : Launch} {v : rfE} (hD : rf_D v) {d : Nat} (ih : rf_Rec l v d (RF d)) (σ σ' : RS) (r : Int) : ∀ as : List Int, rf_body (RF d) d 24 σ as = some (σ', r) → rf_MetK l v (d + 1) 24 σ as σ' r
  | [a0], h => fun ia0 => pm_readAtom hD ih σ σ' a0 r ia0 h
  | [], _ => trivial
  | (_ :: _ :: _), _ => trivial
theorem rf_sim_readStatement {l : Launch} {v : rfE} (hD : rf_D v) {d : Nat} (ih : rf_Rec l v d (RF d)) (σ σ' : RS) (r : Int) : ∀ as : List Int, rf_body (RF d) d 25 σ as = some (σ', r) → rf_MetK l v (d + 1) 25 σ as σ' r
  | [], h => pm_readStatement hD ih σ σ'  r  h
  | (_ :: _), _ => trivial
theorem rf_sim_readTold {l : Launch} {v : rfE} (hD : rf_D v) {d : Nat} (ih : rf_Rec l v d (RF d)) (σ σ' : RS) (r : Int) : ∀ as : List Int, rf_body (RF d) d 26 σ as = some (σ', r) → rf_MetK l v (d + 1) 26 σ as σ' r
  | [], h => pm_readTold hD ih σ σ'  r  h
  | (_ :: _), _ => trivial
theorem rf_sim_readAll {l : Launch} {v : rfE} (hD : rf_D v) {d : Nat} (ih : rf_Rec l v d (RF d)) (σ σ' : RS) (r : Int) : ∀ as : List Int, rf_body (RF d) d 27 σ as = some (σ', r) → rf_MetK l v (d + 1) 27 σ as σ' r
  | [], h => pm_readAll hD ih σ σ'  r  h
  | (_ :: _), _ => trivial
theorem rf_sim_may {l : Launch} {v : rfE} (hD : rf_D v) {d : Nat} (ih : rf_Rec l v d (RF d)) (σ σ' : RS) (r : Int) : ∀ as : List Int, rf_body (RF d) d 28 σ as = some (σ', r) → rf_MetK l v (d + 1) 28 σ as σ' r
  | [], h => pm_may hD ih σ σ'  r  h
  | (_ :: _), _ => trivial
theorem rf_sim_look {l : Launch} {v : rfE} (hD : rf_D v) {d : Nat} (ih : rf_Rec l v d (RF d)) (σ σ' : RS) (r : Int) : ∀ as : List Int, rf_body (RF d) d 29 σ as = some (σ', r) → rf_MetK l v (d + 1) 29 σ as σ' r
  | [a0], h => fun ia0 => pm_look hD ih σ σ' a0 r ia0 h
  | [], _ => trivial
  | (_ :: _ :: _), _ => trivial
theorem rf_sim_cell {l : Launch} {v : rfE} (hD : rf_D v) {d : Nat} (ih : rf_Rec l v d (RF d)) (σ σ' : RS) (r : Int) : ∀ as : List Int, rf_body (RF d) d 30 σ as = some (σ', r) → rf_MetK l v (d + 1) 30 σ as σ' r
  | [a0, a1, a2, a3], h => fun ia0 ia1 ia2 ia3 => pm_cell hD ih σ σ' a0 a1 a2 a3 r ia0 ia1 ia2 ia3 h
  | [], _ => trivial
  | [_], _ => trivial
  | [_, _], _ => trivial
  | [_, _, _], _ => trivial
  | (_ :: _ :: _ :: _ :: _ :: _), _ => trivial
theorem rf_sim_find {l : Launch} {v : rfE} (hD : rf_D v) {d : Nat} (ih : rf_Rec l v d (RF d)) (σ σ' : RS) (r : Int) : ∀ as : List Int, rf_body (RF d) d 31 σ as = some (σ', r) → rf_MetK l v (d + 1) 31 σ as σ' r
  | [a0, a1], h => fun ia0 ia1 => pm_find hD ih σ σ' a0 a1 r ia0 ia1 h
  | [], _ => trivial
  | [_], _ => trivial
  | (_ :: _ :: _ :: _), _ => trivial
theorem rf_sim_head {l : Launch} {v : rfE} (hD : rf_D v) {d : Nat} (ih : rf_Rec l v d (RF d)) (σ σ' : RS) (r : Int) : ∀ as : List Int, rf_body (RF d) d 32 σ as = some (σ', r) → rf_MetK l v (d + 1) 32 σ as σ' r
  | [a0, a1], h => fun ia0 ia1 => pm_head hD ih σ σ' a0 a1 r ia0 ia1 h
  | [], _ => trivial
  | [_], _ => trivial
  | (_ :: _ :: _ :: _), _ => trivial
theorem rf_sim_kindOf {l : Launch} {v : rfE} (hD : rf_D v) {d : Nat} (ih : rf_Rec l v d (RF d)) (σ σ' : RS) (r : Int) : ∀ as : List Int, rf_body (RF d) d 33 σ as = some (σ', r) → rf_MetK l v (d + 1) 33 σ as σ' r
  | [a0], h => fun ia0 => pm_kindOf hD ih σ σ' a0 r ia0 h
  | [], _ => trivial
  | (_ :: _ :: _), _ => trivial
theorem rf_sim_inside {l : Launch} {v : rfE} (hD : rf_D v) {d : Nat} (ih : rf_Rec l v d (RF d)) (σ σ' : RS) (r : Int) : ∀ as : List Int, rf_body (RF d) d 34 σ as = some (σ', r) → rf_MetK l v (d + 1) 34 σ as σ' r
  | [a0, a1, a2], h => fun ia0 ia1 ia2 => pm_inside hD ih σ σ' a0 a1 a2 r ia0 ia1 ia2 h
  | [], _ => trivial
  | [_], _ => trivial
  | [_, _], _ => trivial
  | (_ :: _ :: _ :: _ :: _), _ => trivial
theorem rf_sim_compare {l : Launch} {v : rfE} (hD : rf_D v) {d : Nat} (ih : rf_Rec l v d (RF d)) (σ σ' : RS) (r : Int) : ∀ as : List Int, rf_body (RF d) d 35 σ as = some (σ', r) → rf_MetK l v (d + 1) 35 σ as σ' r
  | [a0, a1, a2, a3, a4], h => fun ia0 ia1 ia2 ia3 ia4 => pm_compare hD ih σ σ' a0 a1 a2 a3 a4 r ia0 ia1 ia2 ia3 ia4 h
  | [], _ => trivial
  | [_], _ => trivial
  | [_, _], _ => trivial
  | [_, _, _], _ => trivial
  | [_, _, _, _], _ => trivial
  | (_ :: _ :: _ :: _ :: _ :: _ :: _), _ => trivial
theorem rf_sim_alike {l : Launch} {v : rfE} (hD : rf_D v) {d : Nat} (ih : rf_Rec l v d (RF d)) (σ σ' : RS) (r : Int) : ∀ as : List Int, rf_body (RF d) d 36 σ as = some (σ', r) → rf_MetK l v (d + 1) 36 σ as σ' r
  | [a0, a1, a2, a3, a4, a5, a6], h => fun ia0 ia1 ia2 ia3 ia4 ia5 ia6 => pm_alike hD ih σ σ' a0 a1 a2 a3 a4 a5 a6 r ia0 ia1 ia2 ia3 ia4 ia5 ia6 h
  | [], _ => trivial
  | [_], _ => trivial
  | [_, _], _ => trivial
  | [_, _, _], _ => trivial
  | [_, _, _, _], _ => trivial
  | [_, _, _, _, _], _ => trivial
  | [_, _, _, _, _, _], _ => trivial
  | (_ :: _ :: _ :: _ :: _ :: _ :: _ :: _ :: _), _ => trivial
theorem rf_sim_put {l : Launch} {v : rfE} (hD : rf_D v) {d : Nat} (ih : rf_Rec l v d (RF d)) (σ σ' : RS) (r : Int) : ∀ as : List Int, rf_body (RF d) d 37 σ as = some (σ', r) → rf_MetK l v (d + 1) 37 σ as σ' r
  | [a0], h => fun ia0 => pm_put hD ih σ σ' a0 r ia0 h
  | [], _ => trivial
  | (_ :: _ :: _), _ => trivial
theorem rf_sim_number {l : Launch} {v : rfE} (hD : rf_D v) {d : Nat} (ih : rf_Rec l v d (RF d)) (σ σ' : RS) (r : Int) : ∀ as : List Int, rf_body (RF d) d 38 σ as = some (σ', r) → rf_MetK l v (d + 1) 38 σ as σ' r
  | [a0], h => fun ia0 => pm_number hD ih σ σ' a0 r ia0 h
  | [], _ => trivial
  | (_ :: _ :: _), _ => trivial
theorem rf_sim_putWord {l : Launch} {v : rfE} (hD : rf_D v) {d : Nat} (ih : rf_Rec l v d (RF d)) (σ σ' : RS) (r : Int) : ∀ as : List Int, rf_body (RF d) d 39 σ as = some (σ', r) → rf_MetK l v (d + 1) 39 σ as σ' r
  | [a0, a1, a2], h => fun ia0 ia2 => pm_putWord hD ih σ σ' a0 a1 a2 r ia0 ia2 h
  | [], _ => trivial
  | [_], _ => trivial
  | [_, _], _ => trivial
  | (_ :: _ :: _ :: _ :: _), _ => trivial
theorem rf_sim_tell {l : Launch} {v : rfE} (hD : rf_D v) {d : Nat} (ih : rf_Rec l v d (RF d)) (σ σ' : RS) (r : Int) : ∀ as : List Int, rf_body (RF d) d 40 σ as = some (σ', r) → rf_MetK l v (d + 1) 40 σ as σ' r
  | [a0, a1, a2, a3, a4], h => fun ia0 ia1 ia2 ia3 ia4 => pm_tell hD ih σ σ' a0 a1 a2 a3 a4 r ia0 ia1 ia2 ia3 ia4 h
  | [], _ => trivial
  | [_], _ => trivial
  | [_, _], _ => trivial
  | [_, _, _], _ => trivial
  | [_, _, _, _], _ => trivial
  | (_ :: _ :: _ :: _ :: _ :: _ :: _), _ => trivial
theorem rf_sim_normal {l : Launch} {v : rfE} (hD : rf_D v) {d : Nat} (ih : rf_Rec l v d (RF d)) (σ σ' : RS) (r : Int) : ∀ as : List Int, rf_body (RF d) d 41 σ as = some (σ', r) → rf_MetK l v (d + 1) 41 σ as σ' r
  | [a0, a1, a2], h => fun ia0 ia1 ia2 => pm_normal hD ih σ σ' a0 a1 a2 r ia0 ia1 ia2 h
  | [], _ => trivial
  | [_], _ => trivial
  | [_, _], _ => trivial
  | (_ :: _ :: _ :: _ :: _), _ => trivial
theorem rf_sim_sameName {l : Launch} {v : rfE} (hD : rf_D v) {d : Nat} (ih : rf_Rec l v d (RF d)) (σ σ' : RS) (r : Int) : ∀ as : List Int, rf_body (RF d) d 42 σ as = some (σ', r) → rf_MetK l v (d + 1) 42 σ as σ' r
  | [a0, a1, a2, a3, a4], h => fun ia0 ia1 ia3 ia4 => pm_sameName hD ih σ σ' a0 a1 a2 a3 a4 r ia0 ia1 ia3 ia4 h
  | [], _ => trivial
  | [_], _ => trivial
  | [_, _], _ => trivial
  | [_, _, _], _ => trivial
  | [_, _, _, _], _ => trivial
  | (_ :: _ :: _ :: _ :: _ :: _ :: _), _ => trivial
theorem rf_sim_sortOf {l : Launch} {v : rfE} (hD : rf_D v) {d : Nat} (ih : rf_Rec l v d (RF d)) (σ σ' : RS) (r : Int) : ∀ as : List Int, rf_body (RF d) d 43 σ as = some (σ', r) → rf_MetK l v (d + 1) 43 σ as σ' r
  | [a0], h => fun ia0 => pm_sortOf hD ih σ σ' a0 r ia0 h
  | [], _ => trivial
  | (_ :: _ :: _), _ => trivial
theorem rf_sim_knownOf {l : Launch} {v : rfE} (hD : rf_D v) {d : Nat} (ih : rf_Rec l v d (RF d)) (σ σ' : RS) (r : Int) : ∀ as : List Int, rf_body (RF d) d 44 σ as = some (σ', r) → rf_MetK l v (d + 1) 44 σ as σ' r
  | [a0], h => fun ia0 => pm_knownOf hD ih σ σ' a0 r ia0 h
  | [], _ => trivial
  | (_ :: _ :: _), _ => trivial
theorem rf_sim_becomes {l : Launch} {v : rfE} (hD : rf_D v) {d : Nat} (ih : rf_Rec l v d (RF d)) (σ σ' : RS) (r : Int) : ∀ as : List Int, rf_body (RF d) d 45 σ as = some (σ', r) → rf_MetK l v (d + 1) 45 σ as σ' r
  | [a0, a1], h => fun ia0 ia1 => pm_becomes hD ih σ σ' a0 a1 r ia0 ia1 h
  | [], _ => trivial
  | [_], _ => trivial
  | (_ :: _ :: _ :: _), _ => trivial
theorem rf_sim_judgeName {l : Launch} {v : rfE} (hD : rf_D v) {d : Nat} (ih : rf_Rec l v d (RF d)) (σ σ' : RS) (r : Int) : ∀ as : List Int, rf_body (RF d) d 46 σ as = some (σ', r) → rf_MetK l v (d + 1) 46 σ as σ' r
  | [a0], h => fun ia0 => pm_judgeName hD ih σ σ' a0 r ia0 h
  | [], _ => trivial
  | (_ :: _ :: _), _ => trivial
theorem rf_sim_judgeSort {l : Launch} {v : rfE} (hD : rf_D v) {d : Nat} (ih : rf_Rec l v d (RF d)) (σ σ' : RS) (r : Int) : ∀ as : List Int, rf_body (RF d) d 47 σ as = some (σ', r) → rf_MetK l v (d + 1) 47 σ as σ' r
  | [a0, a1], h => fun ia0 ia1 => pm_judgeSort hD ih σ σ' a0 a1 r ia0 ia1 h
  | [], _ => trivial
  | [_], _ => trivial
  | (_ :: _ :: _ :: _), _ => trivial
theorem rf_sim_bind {l : Launch} {v : rfE} (hD : rf_D v) {d : Nat} (ih : rf_Rec l v d (RF d)) (σ σ' : RS) (r : Int) : ∀ as : List Int, rf_body (RF d) d 48 σ as = some (σ', r) → rf_MetK l v (d + 1) 48 σ as σ' r
  | [a0, a1, a2], h => fun ia0 ia1 ia2 => pm_bind hD ih σ σ' a0 a1 a2 r ia0 ia1 ia2 h
  | [], _ => trivial
  | [_], _ => trivial
  | [_, _], _ => trivial
  | (_ :: _ :: _ :: _ :: _), _ => trivial
theorem rf_sim_judge {l : Launch} {v : rfE} (hD : rf_D v) {d : Nat} (ih : rf_Rec l v d (RF d)) (σ σ' : RS) (r : Int) : ∀ as : List Int, rf_body (RF d) d 49 σ as = some (σ', r) → rf_MetK l v (d + 1) 49 σ as σ' r
  | [a0, a1], h => fun ia0 ia1 => pm_judge hD ih σ σ' a0 a1 r ia0 ia1 h
  | [], _ => trivial
  | [_], _ => trivial
  | (_ :: _ :: _ :: _), _ => trivial
theorem rf_sim_judgeProduct {l : Launch} {v : rfE} (hD : rf_D v) {d : Nat} (ih : rf_Rec l v d (RF d)) (σ σ' : RS) (r : Int) : ∀ as : List Int, rf_body (RF d) d 50 σ as = some (σ', r) → rf_MetK l v (d + 1) 50 σ as σ' r
  | [a0, a1], h => fun ia0 ia1 => pm_judgeProduct hD ih σ σ' a0 a1 r ia0 ia1 h
  | [], _ => trivial
  | [_], _ => trivial
  | (_ :: _ :: _ :: _), _ => trivial
theorem rf_sim_judgeLambda {l : Launch} {v : rfE} (hD : rf_D v) {d : Nat} (ih : rf_Rec l v d (RF d)) (σ σ' : RS) (r : Int) : ∀ as : List Int, rf_body (RF d) d 51 σ as = some (σ', r) → rf_MetK l v (d + 1) 51 σ as σ' r
  | [a0, a1], h => fun ia0 ia1 => pm_judgeLambda hD ih σ σ' a0 a1 r ia0 ia1 h
  | [], _ => trivial
  | [_], _ => trivial
  | (_ :: _ :: _ :: _), _ => trivial
theorem rf_sim_judgeUse {l : Launch} {v : rfE} (hD : rf_D v) {d : Nat} (ih : rf_Rec l v d (RF d)) (σ σ' : RS) (r : Int) : ∀ as : List Int, rf_body (RF d) d 52 σ as = some (σ', r) → rf_MetK l v (d + 1) 52 σ as σ' r
  | [a0, a1], h => fun ia0 ia1 => pm_judgeUse hD ih σ σ' a0 a1 r ia0 ia1 h
  | [], _ => trivial
  | [_], _ => trivial
  | (_ :: _ :: _ :: _), _ => trivial
theorem rf_sim_applied {l : Launch} {v : rfE} (hD : rf_D v) {d : Nat} (ih : rf_Rec l v d (RF d)) (σ σ' : RS) (r : Int) : ∀ as : List Int, rf_body (RF d) d 53 σ as = some (σ', r) → rf_MetK l v (d + 1) 53 σ as σ' r
  | [a0, a1], h => fun ia0 ia1 => pm_applied hD ih σ σ' a0 a1 r ia0 ia1 h
  | [], _ => trivial
  | [_], _ => trivial
  | (_ :: _ :: _ :: _), _ => trivial
theorem rf_sim_begin {l : Launch} {v : rfE} (hD : rf_D v) {d : Nat} (ih : rf_Rec l v d (RF d)) (σ σ' : RS) (r : Int) : ∀ as : List Int, rf_body (RF d) d 54 σ as = some (σ', r) → rf_MetK l v (d + 1) 54 σ as σ' r
  | [], h => pm_begin hD ih σ σ'  r  h
  | (_ :: _), _ => trivial
theorem rf_sim_drop {l : Launch} {v : rfE} (hD : rf_D v) {d : Nat} (ih : rf_Rec l v d (RF d)) (σ σ' : RS) (r : Int) : ∀ as : List Int, rf_body (RF d) d 55 σ as = some (σ', r) → rf_MetK l v (d + 1) 55 σ as σ' r
  | [], h => pm_drop hD ih σ σ'  r  h
  | (_ :: _), _ => trivial
theorem rf_sim_tables {l : Launch} {v : rfE} (hD : rf_D v) {d : Nat} (ih : rf_Rec l v d (RF d)) (σ σ' : RS) (r : Int) : ∀ as : List Int, rf_body (RF d) d 56 σ as = some (σ', r) → rf_MetK l v (d + 1) 56 σ as σ' r
  | [], h => pm_tables hD ih σ σ'  r  h
  | (_ :: _), _ => trivial
theorem rf_sim_yes {l : Launch} {v : rfE} (hD : rf_D v) {d : Nat} (ih : rf_Rec l v d (RF d)) (σ σ' : RS) (r : Int) : ∀ as : List Int, rf_body (RF d) d 57 σ as = some (σ', r) → rf_MetK l v (d + 1) 57 σ as σ' r
  | [a0], h => fun ia0 => pm_yes hD ih σ σ' a0 r ia0 h
  | [], _ => trivial
  | (_ :: _ :: _), _ => trivial
theorem rf_sim_told {l : Launch} {v : rfE} (hD : rf_D v) {d : Nat} (ih : rf_Rec l v d (RF d)) (σ σ' : RS) (r : Int) : ∀ as : List Int, rf_body (RF d) d 58 σ as = some (σ', r) → rf_MetK l v (d + 1) 58 σ as σ' r
  | [], h => pm_told hD ih σ σ'  r  h
  | (_ :: _), _ => trivial
theorem rf_sim_doStatement {l : Launch} {v : rfE} (hD : rf_D v) {d : Nat} (ih : rf_Rec l v d (RF d)) (σ σ' : RS) (r : Int) : ∀ as : List Int, rf_body (RF d) d 59 σ as = some (σ', r) → rf_MetK l v (d + 1) 59 σ as σ' r
  | [], h => pm_doStatement hD ih σ σ'  r  h
  | (_ :: _), _ => trivial
theorem rf_sim_tellLine {l : Launch} {v : rfE} (hD : rf_D v) {d : Nat} (ih : rf_Rec l v d (RF d)) (σ σ' : RS) (r : Int) : ∀ as : List Int, rf_body (RF d) d 60 σ as = some (σ', r) → rf_MetK l v (d + 1) 60 σ as σ' r
  | [a0], h => fun ia0 => pm_tellLine hD ih σ σ' a0 r ia0 h
  | [], _ => trivial
  | (_ :: _ :: _), _ => trivial
theorem rf_sim_tellHead {l : Launch} {v : rfE} (hD : rf_D v) {d : Nat} (ih : rf_Rec l v d (RF d)) (σ σ' : RS) (r : Int) : ∀ as : List Int, rf_body (RF d) d 61 σ as = some (σ', r) → rf_MetK l v (d + 1) 61 σ as σ' r
  | [], h => pm_tellHead hD ih σ σ'  r  h
  | (_ :: _), _ => trivial
theorem rf_sim_text {l : Launch} {v : rfE} (hD : rf_D v) {d : Nat} (ih : rf_Rec l v d (RF d)) (σ σ' : RS) (r : Int) : ∀ as : List Int, rf_body (RF d) d 62 σ as = some (σ', r) → rf_MetK l v (d + 1) 62 σ as σ' r
  | [a0], h => fun ia0 => pm_text hD ih σ σ' a0 r ia0 h
  | [], _ => trivial
  | (_ :: _ :: _), _ => trivial
theorem rf_sim_fault {l : Launch} {v : rfE} (hD : rf_D v) {d : Nat} (ih : rf_Rec l v d (RF d)) (σ σ' : RS) (r : Int) : ∀ as : List Int, rf_body (RF d) d 63 σ as = some (σ', r) → rf_MetK l v (d + 1) 63 σ as σ' r
  | [a0], h => fun ia0 => pm_fault hD ih σ σ' a0 r ia0 h
  | [], _ => trivial
  | (_ :: _ :: _), _ => trivial
theorem rf_sim_corner {l : Launch} {v : rfE} (hD : rf_D v) {d : Nat} (ih : rf_Rec l v d (RF d)) (σ σ' : RS) (r : Int) : ∀ as : List Int, rf_body (RF d) d 64 σ as = some (σ', r) → rf_MetK l v (d + 1) 64 σ as σ' r
  | [a0], h => fun ia0 => pm_corner hD ih σ σ' a0 r ia0 h
  | [], _ => trivial
  | (_ :: _ :: _), _ => trivial
theorem rf_sim_limit {l : Launch} {v : rfE} (hD : rf_D v) {d : Nat} (ih : rf_Rec l v d (RF d)) (σ σ' : RS) (r : Int) : ∀ as : List Int, rf_body (RF d) d 65 σ as = some (σ', r) → rf_MetK l v (d + 1) 65 σ as σ' r
  | [a0], h => fun ia0 => pm_limit hD ih σ σ' a0 r ia0 h
  | [], _ => trivial
  | (_ :: _ :: _), _ => trivial
theorem rf_sim_outs {l : Launch} {v : rfE} (hD : rf_D v) {d : Nat} (ih : rf_Rec l v d (RF d)) (σ σ' : RS) (r : Int) : ∀ as : List Int, rf_body (RF d) d 66 σ as = some (σ', r) → rf_MetK l v (d + 1) 66 σ as σ' r
  | [], h => pm_outs hD ih σ σ'  r  h
  | (_ :: _), _ => trivial
theorem rf_sim_out {l : Launch} {v : rfE} (hD : rf_D v) {d : Nat} (ih : rf_Rec l v d (RF d)) (σ σ' : RS) (r : Int) : ∀ as : List Int, rf_body (RF d) d 67 σ as = some (σ', r) → rf_MetK l v (d + 1) 67 σ as σ' r
  | [a0], h => fun ia0 => pm_out hD ih σ σ' a0 r ia0 h
  | [], _ => trivial
  | (_ :: _ :: _), _ => trivial
theorem rf_sim_count {l : Launch} {v : rfE} (hD : rf_D v) {d : Nat} (ih : rf_Rec l v d (RF d)) (σ σ' : RS) (r : Int) : ∀ as : List Int, rf_body (RF d) d 68 σ as = some (σ', r) → rf_MetK l v (d + 1) 68 σ as σ' r
  | [a0], h => fun ia0 => pm_count hD ih σ σ' a0 r ia0 h
  | [], _ => trivial
  | (_ :: _ :: _), _ => trivial
theorem rf_sim_name {l : Launch} {v : rfE} (hD : rf_D v) {d : Nat} (ih : rf_Rec l v d (RF d)) (σ σ' : RS) (r : Int) : ∀ as : List Int, rf_body (RF d) d 69 σ as = some (σ', r) → rf_MetK l v (d + 1) 69 σ as σ' r
  | [a0, a1], h => fun ia0 ia1 => pm_name hD ih σ σ' a0 a1 r ia0 ia1 h
  | [], _ => trivial
  | [_], _ => trivial
  | (_ :: _ :: _ :: _), _ => trivial
theorem rf_sim_sort {l : Launch} {v : rfE} (hD : rf_D v) {d : Nat} (ih : rf_Rec l v d (RF d)) (σ σ' : RS) (r : Int) : ∀ as : List Int, rf_body (RF d) d 70 σ as = some (σ', r) → rf_MetK l v (d + 1) 70 σ as σ' r
  | [a0, a1], h => fun ia0 ia1 => pm_sort hD ih σ σ' a0 a1 r ia0 ia1 h
  | [], _ => trivial
  | [_], _ => trivial
  | (_ :: _ :: _ :: _), _ => trivial
theorem rf_sim_rule {l : Launch} {v : rfE} (hD : rf_D v) {d : Nat} (ih : rf_Rec l v d (RF d)) (σ σ' : RS) (r : Int) : ∀ as : List Int, rf_body (RF d) d 71 σ as = some (σ', r) → rf_MetK l v (d + 1) 71 σ as σ' r
  | [a0, a1], h => fun ia0 ia1 => pm_rule hD ih σ σ' a0 a1 r ia0 ia1 h
  | [], _ => trivial
  | [_], _ => trivial
  | (_ :: _ :: _ :: _), _ => trivial
theorem rf_sim_type {l : Launch} {v : rfE} (hD : rf_D v) {d : Nat} (ih : rf_Rec l v d (RF d)) (σ σ' : RS) (r : Int) : ∀ as : List Int, rf_body (RF d) d 72 σ as = some (σ', r) → rf_MetK l v (d + 1) 72 σ as σ' r
  | [a0], h => fun ia0 => pm_type hD ih σ σ' a0 r ia0 h
  | [], _ => trivial
  | (_ :: _ :: _), _ => trivial
theorem rf_sim_same {l : Launch} {v : rfE} (hD : rf_D v) {d : Nat} (ih : rf_Rec l v d (RF d)) (σ σ' : RS) (r : Int) : ∀ as : List Int, rf_body (RF d) d 73 σ as = some (σ', r) → rf_MetK l v (d + 1) 73 σ as σ' r
  | [a0, a1], h => fun ia0 ia1 => pm_same hD ih σ σ' a0 a1 r ia0 ia1 h
  | [], _ => trivial
  | [_], _ => trivial
  | (_ :: _ :: _ :: _), _ => trivial
theorem rf_sim_mark {l : Launch} {v : rfE} (hD : rf_D v) {d : Nat} (ih : rf_Rec l v d (RF d)) (σ σ' : RS) (r : Int) : ∀ as : List Int, rf_body (RF d) d 74 σ as = some (σ', r) → rf_MetK l v (d + 1) 74 σ as σ' r
  | [], h => pm_mark hD ih σ σ'  r  h
  | (_ :: _), _ => trivial
theorem rf_sim_back {l : Launch} {v : rfE} (hD : rf_D v) {d : Nat} (ih : rf_Rec l v d (RF d)) (σ σ' : RS) (r : Int) : ∀ as : List Int, rf_body (RF d) d 75 σ as = some (σ', r) → rf_MetK l v (d + 1) 75 σ as σ' r
  | [], h => pm_back hD ih σ σ'  r  h
  | (_ :: _), _ => trivial
theorem rf_simK {l : Launch} {v : rfE} (hD : rf_D v) {d : Nat} (ih : rf_Rec l v d (RF d)) (σ : RS) (as : List Int) (σ' : RS) (r : Int) : ∀ k : Nat, rf_body (RF d) d k σ as = some (σ', r) → rf_MetK l v (d + 1) k σ as σ' r
  | 0, h => trivial
  | 1, h => rf_sim_thrown hD ih σ σ' r as h
  | 2, h => rf_sim_fail hD ih σ σ' r as h
  | 3, h => rf_sim_wrong hD ih σ σ' r as h
  | 4, h => rf_sim_newSort hD ih σ σ' r as h
  | 5, h => rf_sim_table hD ih σ σ' r as h
  | 6, h => rf_sim_feed hD ih σ σ' r as h
  | 7, h => rf_sim_byteAt hD ih σ σ' r as h
  | 8, h => rf_sim_isLetter hD ih σ σ' r as h
  | 9, h => rf_sim_goesOn hD ih σ σ' r as h
  | 10, h => rf_sim_next hD ih σ σ' r as h
  | 11, h => rf_sim_isWord hD ih σ σ' r as h
  | 12, h => rf_sim_readSign hD ih σ σ' r as h
  | 13, h => rf_sim_isSign hD ih σ σ' r as h
  | 14, h => rf_sim_isName hD ih σ σ' r as h
  | 15, h => rf_sim_cant hD ih σ σ' r as h
  | 16, h => rf_sim_need hD ih σ σ' r as h
  | 17, h => rf_sim_needWord hD ih σ σ' r as h
  | 18, h => rf_sim_node hD ih σ σ' r as h
  | 19, h => rf_sim_nameNode hD ih σ σ' r as h
  | 20, h => rf_sim_readTerm hD ih σ σ' r as h
  | 21, h => rf_sim_parts hD ih σ σ' r as h
  | 22, h => rf_sim_beginsAtom hD ih σ σ' r as h
  | 23, h => rf_sim_readUse hD ih σ σ' r as h
  | 24, h => rf_sim_readAtom hD ih σ σ' r as h
  | 25, h => rf_sim_readStatement hD ih σ σ' r as h
  | 26, h => rf_sim_readTold hD ih σ σ' r as h
  | 27, h => rf_sim_readAll hD ih σ σ' r as h
  | 28, h => rf_sim_may hD ih σ σ' r as h
  | 29, h => rf_sim_look hD ih σ σ' r as h
  | 30, h => rf_sim_cell hD ih σ σ' r as h
  | 31, h => rf_sim_find hD ih σ σ' r as h
  | 32, h => rf_sim_head hD ih σ σ' r as h
  | 33, h => rf_sim_kindOf hD ih σ σ' r as h
  | 34, h => rf_sim_inside hD ih σ σ' r as h
  | 35, h => rf_sim_compare hD ih σ σ' r as h
  | 36, h => rf_sim_alike hD ih σ σ' r as h
  | 37, h => rf_sim_put hD ih σ σ' r as h
  | 38, h => rf_sim_number hD ih σ σ' r as h
  | 39, h => rf_sim_putWord hD ih σ σ' r as h
  | 40, h => rf_sim_tell hD ih σ σ' r as h
  | 41, h => rf_sim_normal hD ih σ σ' r as h
  | 42, h => rf_sim_sameName hD ih σ σ' r as h
  | 43, h => rf_sim_sortOf hD ih σ σ' r as h
  | 44, h => rf_sim_knownOf hD ih σ σ' r as h
  | 45, h => rf_sim_becomes hD ih σ σ' r as h
  | 46, h => rf_sim_judgeName hD ih σ σ' r as h
  | 47, h => rf_sim_judgeSort hD ih σ σ' r as h
  | 48, h => rf_sim_bind hD ih σ σ' r as h
  | 49, h => rf_sim_judge hD ih σ σ' r as h
  | 50, h => rf_sim_judgeProduct hD ih σ σ' r as h
  | 51, h => rf_sim_judgeLambda hD ih σ σ' r as h
  | 52, h => rf_sim_judgeUse hD ih σ σ' r as h
  | 53, h => rf_sim_applied hD ih σ σ' r as h
  | 54, h => rf_sim_begin hD ih σ σ' r as h
  | 55, h => rf_sim_drop hD ih σ σ' r as h
  | 56, h => rf_sim_tables hD ih σ σ' r as h
  | 57, h => rf_sim_yes hD ih σ σ' r as h
  | 58, h => rf_sim_told hD ih σ σ' r as h
  | 59, h => rf_sim_doStatement hD ih σ σ' r as h
  | 60, h => rf_sim_tellLine hD ih σ σ' r as h
  | 61, h => rf_sim_tellHead hD ih σ σ' r as h
  | 62, h => rf_sim_text hD ih σ σ' r as h
  | 63, h => rf_sim_fault hD ih σ σ' r as h
  | 64, h => rf_sim_corner hD ih σ σ' r as h
  | 65, h => rf_sim_limit hD ih σ σ' r as h
  | 66, h => rf_sim_outs hD ih σ σ' r as h
  | 67, h => rf_sim_out hD ih σ σ' r as h
  | 68, h => rf_sim_count hD ih σ σ' r as h
  | 69, h => rf_sim_name hD ih σ σ' r as h
  | 70, h => rf_sim_sort hD ih σ σ' r as h
  | 71, h => rf_sim_rule hD ih σ σ' r as h
  | 72, h => rf_sim_type hD ih σ σ' r as h
  | 73, h => rf_sim_same hD ih σ σ' r as h
  | 74, h => rf_sim_mark hD ih σ σ' r as h
  | 75, h => rf_sim_back hD ih σ σ' r as h
  | k + 76, h => trivial
/-- the reference's pure words tell what the machine does -/
theorem rf_sim {l : Launch} {v : rfE} (hD : rf_D v) : ∀ d, rf_Rec l v d (RF d) := by
  intro d
  induction d with
  | zero => intro k σ as σ' r h; cases h
  | succ d ih =>
    intro k σ as σ' r h
    obtain ⟨h1, h2⟩ := rf_fin_s h
    exact ⟨h2, rf_simK hD ih σ as σ' r k h1⟩
