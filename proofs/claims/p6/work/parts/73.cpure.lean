def pc_X0_addName_0 (rec : Nat → CS → List Int → CO) (bd : Nat × Nat) (σ : CS) (x0 : Int) (x1 : Int) (x2 : Int) (x3 : Int) (x4 : Int) (x5 : Int) : CO :=
  cc_g σ 1 5 x0 (fun z1 => cc_t σ 6 z1 (cc_cl (rec 57 σ [z1]) (fun σ2 z4 => (if z4 = 0 then cc_g σ2 1 5 x0 (fun z6 => cc_g σ2 6 2 z6 (fun z7 => cc_g σ2 1 6 x0 (fun z8 => cc_t σ2 7 x3 (cc_w σ2 22 z8 z7 x3 (fun σ9 => cc_g σ9 1 7 x0 (fun z10 => cc_t σ9 7 x5 (cc_w σ9 22 z10 z7 x5 (fun σ11 => cc_g σ11 1 8 x0 (fun z12 => cc_w σ11 21 z12 z7 x4 (fun σ13 => cc_g σ13 1 5 x0 (fun z14 => cc_g σ13 7 4 x2 (fun z15 => cc_g σ13 7 5 x2 (fun z16 => cc_t σ13 6 z14 (cc_cl (rec 52 σ13 [z14, x1, z15, z16]) (fun σ17 z19 => some (σ17, 0, 0)))))))))))))))) else some (σ2, 0, 0)))))
def pc_X0_axiomOf_0 (rec : Nat → CS → List Int → CO) (bd : Nat × Nat) (σ : CS) (x0 : Int) (x1 : Int) : CO :=
  cc_g σ 1 0 x0 (fun z1 => cc_t σ 6 z1 (cc_cl (rec 55 σ [z1, x1]) (fun σ2 z4 => (if z4 = 0 then some (σ2, 0, (-1)) else cc_g σ2 1 1 x0 (fun z6 => cc_r σ2 21 z6 x1 (fun z7 => some (σ2, 0, z7)))))))
def pc_X0_clear_57 (rec : Nat → CS → List Int → CO) (bd : Nat × Nat) : Nat → CS → Int → Int → CO
  | 0, _, _, _ => none
  | n + 1, σ, x0, x1 =>
    cc_g σ 1 2 x0 (fun z1 => cc_l σ 21 z1 (fun z2 => (if z2 ≤ x1 then some (σ, 0, 0) else cc_g σ 1 2 x0 (fun z4 => cc_w σ 21 z4 x1 (-1) (fun σ5 => cc_ck (x1 + 1) (fun z6 => pc_X0_clear_57 rec bd n σ5 x0 z6))))))
def pc_X0_clear_33 (rec : Nat → CS → List Int → CO) (bd : Nat × Nat) : Nat → CS → Int → Int → CO
  | 0, _, _, _ => none
  | n + 1, σ, x0, x1 =>
    cc_g σ 1 1 x0 (fun z1 => cc_l σ 21 z1 (fun z2 => (if z2 ≤ x1 then pc_X0_clear_57 rec bd 1100000 σ x0 0 else cc_g σ 1 1 x0 (fun z4 => cc_w σ 21 z4 x1 (-1) (fun σ5 => cc_ck (x1 + 1) (fun z6 => pc_X0_clear_33 rec bd n σ5 x0 z6))))))
def pc_X0_clear_0 (rec : Nat → CS → List Int → CO) (bd : Nat × Nat) (σ : CS) (x0 : Int) : CO :=
  cc_g σ 1 0 x0 (fun z1 => cc_p σ 6 2 z1 0 (fun σ2 => cc_g σ2 1 5 x0 (fun z3 => cc_p σ2 6 2 z3 0 (fun σ4 => cc_p σ4 1 10 x0 0 (fun σ5 => cc_p σ5 1 3 x0 0 (fun σ6 => cc_p σ6 1 4 x0 0 (fun σ7 => pc_X0_clear_33 rec bd 1100000 σ7 x0 0)))))))
def pc_X0_ruleOf_0 (rec : Nat → CS → List Int → CO) (bd : Nat × Nat) (σ : CS) (x0 : Int) (x1 : Int) (x2 : Int) : CO :=
  cc_g σ 1 0 x0 (fun z1 => cc_t σ 6 z1 (cc_cl (rec 55 σ [z1, x1]) (fun σ2 z4 => (if z4 = 0 then some (σ2, 0, (-1)) else cc_g σ2 1 0 x0 (fun z6 => cc_t σ2 6 z6 (cc_cl (rec 55 σ2 [z6, x2]) (fun σ7 z9 => (if z9 = 0 then some (σ7, 0, (-1)) else cc_g σ7 1 2 x0 (fun z11 => cc_ck (x1 * 8) (fun z12 => cc_ck (z12 + x2) (fun z13 => cc_r σ7 21 z11 z13 (fun z14 => some (σ7, 0, z14)))))))))))))
def pc_X0_setAxiom_0 (rec : Nat → CS → List Int → CO) (bd : Nat × Nat) (σ : CS) (x0 : Int) (x1 : Int) (x2 : Int) : CO :=
  cc_g σ 1 0 x0 (fun z1 => cc_t σ 6 z1 (cc_cl (rec 55 σ [z1, x1]) (fun σ2 z4 => (if z4 = 0 then some (σ2, 0, 0) else cc_g σ2 1 1 x0 (fun z6 => cc_w σ2 21 z6 x1 x2 (fun σ7 => cc_g σ7 1 3 x0 (fun z8 => cc_ck (z8 + 1) (fun z9 => cc_p σ7 1 3 x0 z9 (fun σ10 => some (σ10, 0, 0))))))))))
def pc_X0_setRule_0 (rec : Nat → CS → List Int → CO) (bd : Nat × Nat) (σ : CS) (x0 : Int) (x1 : Int) (x2 : Int) (x3 : Int) : CO :=
  cc_g σ 1 0 x0 (fun z1 => cc_t σ 6 z1 (cc_cl (rec 55 σ [z1, x1]) (fun σ2 z4 => (if z4 = 0 then some (σ2, 0, 0) else cc_g σ2 1 0 x0 (fun z6 => cc_t σ2 6 z6 (cc_cl (rec 55 σ2 [z6, x2]) (fun σ7 z9 => (if z9 = 0 then some (σ7, 0, 0) else cc_g σ7 1 2 x0 (fun z11 => cc_ck (x1 * 8) (fun z12 => cc_ck (z12 + x2) (fun z13 => cc_w σ7 21 z11 z13 x3 (fun σ14 => cc_g σ14 1 4 x0 (fun z15 => cc_ck (z15 + 1) (fun z16 => cc_p σ14 1 4 x0 z16 (fun σ17 => some (σ17, 0, 0))))))))))))))))
def pc_X0_valueOf_0 (rec : Nat → CS → List Int → CO) (bd : Nat × Nat) (σ : CS) (x0 : Int) (x1 : Int) : CO :=
  cc_g σ 1 5 x0 (fun z1 => cc_t σ 6 z1 (cc_cl (rec 55 σ [z1, x1]) (fun σ2 z4 => (if z4 = 0 then some (σ2, 0, (-1)) else cc_g σ2 1 7 x0 (fun z6 => cc_r σ2 22 z6 x1 (fun z7 => some (σ2, 0, z7)))))))
def pc_X1_envOfSecond_0 (rec : Nat → CS → List Int → CO) (bd : Nat × Nat) (σ : CS) (x0 : Int) (x1 : Int) : CO :=
  cc_g σ 2 0 x0 (fun z1 => cc_g σ 7 1 z1 (fun z2 => cc_g σ 2 2 x0 (fun z3 => cc_cl (rec 31 σ [z2, x1, z3]) (fun σ4 z6 => some (σ4, 0, z6)))))
def pc_X1_init_0 (rec : Nat → CS → List Int → CO) (bd : Nat × Nat) (σ : CS) (x0 : Int) (x1 : Int) (x2 : Int) (x3 : Int) (x4 : Int) : CO :=
  cc_t σ 2 x0 (cc_p σ 2 0 x0 x1 (fun σ1 => cc_p σ1 2 1 x0 x2 (fun σ2 => cc_p σ2 2 2 x0 x3 (fun σ3 => cc_p σ3 2 3 x0 x4 (fun σ4 => some (σ4, 0, 0))))))
def pc_X1_isBinder_0 (rec : Nat → CS → List Int → CO) (bd : Nat × Nat) (σ : CS) (x0 : Int) : CO :=
  cc_g σ 2 0 x0 (fun z1 => cc_g σ 7 0 z1 (fun z2 => (if z2 = 4 then cc_bo 1 (some (σ, 0, 1)) else cc_g σ 2 0 x0 (fun z4 => cc_g σ 7 0 z4 (fun z5 => (if ¬ z5 = 5 then cc_bo 0 (some (σ, 0, 0)) else cc_bo 1 (some (σ, 0, 1))))))))
def pc_X2_init_0 (rec : Nat → CS → List Int → CO) (bd : Nat × Nat) (σ : CS) (x0 : Int) (x1 : Int) (x2 : Int) (x3 : Int) (x4 : Int) : CO :=
  cc_t σ 3 x0 (cc_p σ 3 4 x0 (-1) (fun σ1 => cc_p σ1 3 0 x0 x1 (fun σ2 => cc_p σ2 3 1 x0 x2 (fun σ3 => cc_p σ3 3 2 x0 x3 (fun σ4 => cc_p σ4 3 3 x0 x4 (fun σ5 => some (σ5, 0, 0)))))))
def pc_X2_isNameOf_0 (rec : Nat → CS → List Int → CO) (bd : Nat × Nat) (σ : CS) (x0 : Int) (x1 : Int) (x2 : Int) : CO :=
  cc_g σ 7 5 x1 (fun z1 => cc_g σ 7 5 x2 (fun z2 => (if ¬ z1 = z2 then cc_bo 0 (some (σ, 0, 0)) else cc_g σ 3 0 x0 (fun z4 => cc_g σ 7 4 x1 (fun z5 => cc_g σ 3 0 x0 (fun z6 => cc_g σ 7 4 x2 (fun z7 => cc_g σ 7 5 x2 (fun z8 => cc_cl (rec 53 σ [z4, z5, z6, z7, z8]) (fun σ9 z11 => (if z11 = 0 then cc_bo 0 (some (σ9, 0, 0)) else cc_bo 1 (some (σ9, 0, 1))))))))))))
def pc_X2_judgeName_2 (rec : Nat → CS → List Int → CO) (bd : Nat × Nat) : Nat → CS → Int → Int → Int → CO
  | 0, _, _, _, _ => none
  | n + 1, σ, x0, x1, x3 =>
    (if x3 < 0 then cc_g σ 3 1 x0 (fun z2 => cc_g σ 1 5 z2 (fun z3 => cc_g σ 3 0 x0 (fun z4 => cc_g σ 7 4 x1 (fun z5 => cc_g σ 7 5 x1 (fun z6 => cc_t σ 6 z3 (cc_cl (rec 54 σ [z3, z4, z5, z6]) (fun σ7 z9 => (if z9 = (-1) then cc_g σ7 3 1 x0 (fun z11 => cc_g σ7 1 0 z11 (fun z12 => cc_g σ7 3 0 x0 (fun z13 => cc_g σ7 7 4 x1 (fun z14 => cc_g σ7 7 5 x1 (fun z15 => cc_t σ7 6 z12 (cc_cl (rec 54 σ7 [z12, z13, z14, z15]) (fun σ16 z18 => (if ¬ z18 = (-1) then cc_g σ16 3 1 x0 (fun z20 => cc_t σ16 1 z20 (cc_cl (rec 1 σ16 [z20, z18]) (fun σ21 z23 => (if ¬ z23 = (-1) then cc_g σ21 3 1 x0 (fun z25 => cc_t σ21 1 z25 (cc_cl (rec 1 σ21 [z25, z23]) (fun σ26 z28 => cc_t σ26 3 x0 (cc_cl (rec 20 σ26 [x0, x1, 1, z18, z28]) (fun σ29 z31 => cc_cl (rec 62 σ29 [1, z23]) (fun σ32 z34 => some (σ32, 0, z34))))))) else cc_g σ21 3 3 x0 (fun z35 => cc_g σ21 7 2 x1 (fun z36 => cc_t σ21 11 z35 (cc_cl (rec 95 σ21 [z35, 7, z36]) (fun σ37 z39 => cc_x σ37 bd 1)))))))) else cc_g σ16 3 3 x0 (fun z40 => cc_g σ16 7 2 x1 (fun z41 => cc_t σ16 11 z40 (cc_cl (rec 95 σ16 [z40, 3, z41]) (fun σ42 z44 => cc_x σ42 bd 1)))))))))))) else cc_g σ7 3 1 x0 (fun z45 => cc_g σ7 1 8 z45 (fun z46 => cc_r σ7 21 z46 z9 (fun z47 => cc_t σ7 3 x0 (cc_cl (rec 20 σ7 [x0, x1, 2, z9, z47]) (fun σ48 z50 => cc_g σ48 3 1 x0 (fun z51 => cc_g σ48 1 6 z51 (fun z52 => cc_r σ48 22 z52 z9 (fun z53 => some (σ48, 0, z53))))))))))))))))) else cc_g σ 9 0 x3 (fun z54 => cc_t σ 3 x0 (cc_cl (rec 13 σ [x0, z54, x1]) (fun σ55 z57 => (if z57 = 0 then cc_g σ55 9 4 x3 (fun z59 => pc_X2_judgeName_2 rec bd n σ55 x0 x1 z59) else cc_g σ55 9 0 x3 (fun z60 => cc_g σ55 7 1 z60 (fun z61 => cc_g σ55 9 2 x3 (fun z62 => cc_t σ55 3 x0 (cc_cl (rec 20 σ55 [x0, x1, 3, z61, z62]) (fun σ63 z65 => cc_g σ63 9 1 x3 (fun z66 => some (σ63, 0, z66))))))))))))
def pc_X2_judgeName_0 (rec : Nat → CS → List Int → CO) (bd : Nat × Nat) (σ : CS) (x0 : Int) (x1 : Int) (x2 : Int) : CO :=
  pc_X2_judgeName_2 rec bd 1100000 σ x0 x1 x2
def pc_X2_needPart_0 (rec : Nat → CS → List Int → CO) (bd : Nat × Nat) (σ : CS) (x0 : Int) (x1 : Int) (x2 : Int) (x3 : Int) : CO :=
  cc_g σ 3 2 x0 (fun z1 => cc_g σ 7 6 x1 (fun z2 => cc_t σ 5 z1 (cc_cl (rec 32 σ [z1, z2, x2]) (fun σ3 z5 => (if ¬ z5 = 0 then some (σ3, 0, 0) else cc_g σ3 3 3 x0 (fun z7 => cc_g σ3 7 3 x3 (fun z8 => cc_t σ3 11 z7 (cc_cl (rec 95 σ3 [z7, 11, z8]) (fun σ9 z11 => cc_x σ9 bd 1)))))))))
def pc_X2_needProduct_0 (rec : Nat → CS → List Int → CO) (bd : Nat × Nat) (σ : CS) (x0 : Int) (x1 : Int) (x2 : Int) : CO :=
  cc_g σ 7 0 x1 (fun z1 => (if z1 = 5 then some (σ, 0, 0) else cc_g σ 3 3 x0 (fun z3 => cc_g σ 7 3 x2 (fun z4 => cc_t σ 11 z3 (cc_cl (rec 95 σ [z3, 10, z4]) (fun σ5 z7 => cc_x σ5 bd 1))))))
def pc_X2_neededRule_0 (rec : Nat → CS → List Int → CO) (bd : Nat × Nat) (σ : CS) (x0 : Int) (x1 : Int) (x2 : Int) (x3 : Int) : CO :=
  cc_g σ 3 1 x0 (fun z1 => cc_t σ 1 z1 (cc_cl (rec 5 σ [z1, x1, x2]) (fun σ2 z4 => (if ¬ z4 = (-1) then some (σ2, 0, z4) else cc_g σ2 3 3 x0 (fun z6 => cc_g σ2 7 2 x3 (fun z7 => cc_t σ2 11 z6 (cc_cl (rec 95 σ2 [z6, 9, z7]) (fun σ8 z10 => cc_x σ8 bd 1))))))))
def pc_X2_neededSort_0 (rec : Nat → CS → List Int → CO) (bd : Nat × Nat) (σ : CS) (x0 : Int) (x1 : Int) (x2 : Int) : CO :=
  cc_g σ 7 0 x1 (fun z1 => (if z1 = 1 then cc_g σ 7 1 x1 (fun z3 => some (σ, 0, z3)) else cc_g σ 3 3 x0 (fun z4 => cc_g σ 7 3 x2 (fun z5 => cc_t σ 11 z4 (cc_cl (rec 95 σ [z4, 8, z5]) (fun σ6 z8 => cc_x σ6 bd 1))))))
def pc_X2_resolve_0 (rec : Nat → CS → List Int → CO) (bd : Nat × Nat) (σ : CS) (x0 : Int) (x1 : Int) (x2 : Int) (x3 : Int) (x4 : Int) : CO :=
  cc_p σ 7 0 x1 x2 (fun σ1 => cc_p σ1 7 1 x1 x3 (fun σ2 => cc_p σ2 3 4 x0 x4 (fun σ3 => some (σ3, 0, 0))))
def pc_X2_typeOfLambda_0 (rec : Nat → CS → List Int → CO) (bd : Nat × Nat) (σ : CS) (x0 : Int) (x1 : Int) (x2 : Int) (x3 : Int) (x4 : Int) : CO :=
  cc_g σ 3 4 x0 (fun z1 => (if ¬ z1 = (-1) then cc_t σ 3 x0 (cc_cl (rec 18 σ [x0, x3, z1, x1]) (fun σ3 z5 => cc_p σ3 3 4 x0 z5 (fun σ6 => cc_g σ6 7 1 x1 (fun z7 => cc_cl (rec 59 σ6 [5, z7, x2, x4]) (fun σ8 z10 => cc_t σ8 7 z10 (cc_cl (rec 61 σ8 [z10, x3, z1]) (fun σ11 z13 => some (σ11, 0, z10)))))))) else cc_g σ 3 3 x0 (fun z14 => cc_g σ 7 2 x1 (fun z15 => cc_t σ 11 z14 (cc_cl (rec 95 σ [z14, 7, z15]) (fun σ16 z18 => cc_x σ16 bd 1))))))
def pc_X2_typeOfProduct_0 (rec : Nat → CS → List Int → CO) (bd : Nat × Nat) (σ : CS) (x0 : Int) (x1 : Int) (x2 : Int) (x3 : Int) : CO :=
  cc_t σ 3 x0 (cc_cl (rec 18 σ [x0, x2, x3, x1]) (fun σ1 z3 => cc_t σ1 7 x1 (cc_cl (rec 61 σ1 [x1, x2, x3]) (fun σ4 z6 => cc_g σ4 3 1 x0 (fun z7 => cc_t σ4 1 z7 (cc_cl (rec 1 σ4 [z7, z3]) (fun σ8 z10 => cc_p σ8 3 4 x0 z10 (fun σ11 => cc_cl (rec 62 σ11 [1, z3]) (fun σ12 z14 => some (σ12, 0, z14))))))))))
def pc_X3_find_2 (rec : Nat → CS → List Int → CO) (bd : Nat × Nat) : Nat → CS → Int → Int → CO
  | 0, _, _, _ => none
  | n + 1, σ, x0, x2 =>
    (if x2 < 0 then some (σ, 0, (-1)) else cc_g σ 4 0 x2 (fun z2 => (if ¬ z2 = x0 then cc_g σ 4 4 x2 (fun z4 => pc_X3_find_2 rec bd n σ x0 z4) else some (σ, 0, x2))))
def pc_X3_find_0 (rec : Nat → CS → List Int → CO) (bd : Nat × Nat) (σ : CS) (x0 : Int) (x1 : Int) : CO :=
  pc_X3_find_2 rec bd 1100000 σ x0 x1
def pc_X3_init_0 (rec : Nat → CS → List Int → CO) (bd : Nat × Nat) (σ : CS) (x0 : Int) (x1 : Int) (x2 : Int) (x3 : Int) (x4 : Int) (x5 : Int) : CO :=
  cc_t σ 4 x0 (cc_p σ 4 0 x0 x1 (fun σ1 => cc_p σ1 4 1 x0 x2 (fun σ2 => cc_p σ2 4 2 x0 x3 (fun σ3 => cc_p σ3 4 3 x0 x4 (fun σ4 => cc_p σ4 4 4 x0 x5 (fun σ5 => some (σ5, 0, 0)))))))
def pc_X3_lengthOf_4 (rec : Nat → CS → List Int → CO) (bd : Nat × Nat) : Nat → CS → Int → Int → CO
  | 0, _, _, _ => none
  | n + 1, σ, x1, x2 =>
    (if x2 < 0 then some (σ, 0, x1) else cc_ck (x1 + 1) (fun z2 => cc_g σ 4 4 x2 (fun z3 => pc_X3_lengthOf_4 rec bd n σ z2 z3)))
def pc_X3_lengthOf_0 (rec : Nat → CS → List Int → CO) (bd : Nat × Nat) (σ : CS) (x0 : Int) : CO :=
  pc_X3_lengthOf_4 rec bd 1100000 σ 0 x0
def pc_X3_part_0 (rec : Nat → CS → List Int → CO) (bd : Nat × Nat) (σ : CS) (x0 : Int) (x1 : Int) (x2 : Int) : CO :=
  cc_n σ bd 4 5 (fun σ1 z2 => cc_t σ1 4 z2 (cc_ci (rec 27 σ1 [z2, 0, x0, x1, 0, x2]) (fun σ3 => some (σ3, 0, z2))))
def pc_X3_put_0 (rec : Nat → CS → List Int → CO) (bd : Nat × Nat) (σ : CS) (x0 : Int) (x1 : Int) (x2 : Int) (x3 : Int) : CO :=
  cc_n σ bd 4 5 (fun σ1 z2 => cc_t σ1 4 z2 (cc_ci (rec 27 σ1 [z2, x0, x1, x2, 0, x3]) (fun σ3 => some (σ3, 0, z2))))
def pc_X3_putNew_0 (rec : Nat → CS → List Int → CO) (bd : Nat × Nat) (σ : CS) (x0 : Int) (x1 : Int) (x2 : Int) : CO :=
  cc_n σ bd 4 5 (fun σ1 z2 => cc_ck ((-1) - x1) (fun z3 => cc_t σ1 4 z2 (cc_ci (rec 27 σ1 [z2, x0, (-1), (-1), z3, x2]) (fun σ4 => some (σ4, 0, z2)))))
def pc_X4_areSame_0 (rec : Nat → CS → List Int → CO) (bd : Nat × Nat) (σ : CS) (x0 : Int) (x1 : Int) (x2 : Int) : CO :=
  cc_t σ 5 x0 (cc_cl (rec 34 σ [x0, x1, (-1), x2, (-1), 0, 0]) (fun σ1 z3 => cc_bo z3 (some (σ1, 0, z3))))
def pc_X4_begin_2 (rec : Nat → CS → List Int → CO) (bd : Nat × Nat) : Nat → CS → Int → Int → Int → CO
  | 0, _, _, _, _ => none
  | n + 1, σ, x0, x1, x2 =>
    cc_g σ 5 2 x0 (fun z1 => cc_l σ 21 z1 (fun z2 => (if z2 ≤ x2 then cc_p σ 5 5 x0 x1 (fun σ4 => some (σ4, 0, 0)) else cc_g σ 5 2 x0 (fun z5 => cc_w σ 21 z5 x2 0 (fun σ6 => cc_ck (x2 + 1) (fun z7 => pc_X4_begin_2 rec bd n σ6 x0 x1 z7))))))
def pc_X4_begin_0 (rec : Nat → CS → List Int → CO) (bd : Nat × Nat) (σ : CS) (x0 : Int) (x1 : Int) : CO :=
  pc_X4_begin_2 rec bd 1100000 σ x0 x1 0
def pc_X4_compare_190 (rec : Nat → CS → List Int → CO) (bd : Nat × Nat) : Nat → CS → Int → Int → Int → Int → Int → CO
  | 0, _, _, _, _, _, _ => none
  | n + 1, σ, x0, x5, x6, x9, x10 =>
    (if x10 < 0 then cc_bo 1 (some (σ, 0, 1)) else (if x9 < 0 then cc_bo 1 (some (σ, 0, 1)) else cc_g σ 4 1 x10 (fun z3 => cc_g σ 4 2 x10 (fun z4 => cc_g σ 4 1 x9 (fun z5 => cc_g σ 4 2 x9 (fun z6 => cc_ck (x6 + 1) (fun z7 => cc_t σ 5 x0 (cc_cl (rec 34 σ [x0, z3, z4, z5, z6, x5, z7]) (fun σ8 z10 => (if ¬ z10 = 0 then cc_g σ8 4 4 x9 (fun z12 => cc_g σ8 4 4 x10 (fun z13 => pc_X4_compare_190 rec bd n σ8 x0 x5 x6 z12 z13)) else cc_bo 0 (some (σ8, 0, 0))))))))))))
def pc_X4_compare_0 (rec : Nat → CS → List Int → CO) (bd : Nat × Nat) (σ : CS) (x0 : Int) (x1 : Int) (x2 : Int) (x3 : Int) (x4 : Int) (x5 : Int) (x6 : Int) : CO :=
  cc_t σ 5 x0 (cc_cl (rec 37 σ [x0, x6]) (fun σ1 z3 => cc_t σ1 5 x0 (cc_cl (rec 35 σ1 [x0, x1, x2]) (fun σ4 z6 => cc_t σ4 5 x0 (cc_cl (rec 35 σ4 [x0, x3, x4]) (fun σ7 z9 => cc_g σ7 2 0 z6 (fun z10 => cc_g σ7 7 0 z10 (fun z11 => cc_g σ7 2 0 z9 (fun z12 => cc_g σ7 7 0 z12 (fun z13 => (if z11 = z13 then cc_t σ7 2 z6 (cc_cl (rec 11 σ7 [z6]) (fun σ15 z17 => (if z17 = 0 then cc_g σ15 2 1 z6 (fun z19 => cc_g σ15 2 1 z9 (fun z20 => (if ¬ z19 = z20 then cc_bo 0 (some (σ15, 0, 0)) else cc_g σ15 2 3 z6 (fun z22 => cc_cl (rec 28 σ15 [z22]) (fun σ23 z25 => cc_g σ23 2 3 z9 (fun z26 => cc_cl (rec 28 σ23 [z26]) (fun σ27 z29 => (if z25 = z29 then cc_g σ27 2 3 z9 (fun z31 => cc_g σ27 2 3 z6 (fun z32 => pc_X4_compare_190 rec bd 1100000 σ27 x0 x5 x6 z31 z32)) else cc_bo 0 (some (σ27, 0, 0)))))))))) else cc_g σ15 2 0 z6 (fun z33 => cc_g σ15 7 6 z33 (fun z34 => cc_g σ15 2 2 z6 (fun z35 => cc_g σ15 2 0 z9 (fun z36 => cc_g σ15 7 6 z36 (fun z37 => cc_g σ15 2 2 z9 (fun z38 => cc_ck (x6 + 1) (fun z39 => cc_t σ15 5 x0 (cc_cl (rec 34 σ15 [x0, z34, z35, z37, z38, x5, z39]) (fun σ40 z42 => (if z42 = 0 then cc_bo 0 (some (σ40, 0, 0)) else cc_g σ40 2 0 z6 (fun z44 => cc_g σ40 7 7 z44 (fun z45 => cc_t σ40 2 z6 (cc_cl (rec 9 σ40 [z6, x5]) (fun σ46 z48 => cc_g σ46 2 0 z9 (fun z49 => cc_g σ46 7 7 z49 (fun z50 => cc_t σ46 2 z9 (cc_cl (rec 9 σ46 [z9, x5]) (fun σ51 z53 => cc_ck (x5 + 1) (fun z54 => cc_ck (x6 + 1) (fun z55 => cc_t σ51 5 x0 (cc_cl (rec 34 σ51 [x0, z45, z48, z50, z53, z54, z55]) (fun σ56 z58 => (if z58 = 0 then cc_bo 0 (some (σ56, 0, 0)) else cc_bo 1 (some (σ56, 0, 1)))))))))))))))))))))))))))) else cc_bo 0 (some (σ7, 0, 0)))))))))))))
def pc_X4_head_236 (rec : Nat → CS → List Int → CO) (bd : Nat × Nat) (σ : CS) (x3 : Int) (x4 : Int) (x5 : Int) (t0 : Int) : CO :=
  cc_n σ bd 2 4 (fun σ1 z2 => cc_t σ1 2 z2 (cc_ci (rec 10 σ1 [z2, x3, t0, x4, x5]) (fun σ3 => some (σ3, 0, z2))))
def pc_X4_head_219 (rec : Nat → CS → List Int → CO) (bd : Nat × Nat) (σ : CS) (x3 : Int) (x4 : Int) (x5 : Int) (x7 : Int) : CO :=
  (if 0 ≤ x7 then cc_g σ 4 3 x7 (fun z2 => pc_X4_head_236 rec bd σ x3 x4 x5 z2) else cc_g σ 7 1 x3 (fun z3 => pc_X4_head_236 rec bd σ x3 x4 x5 z3))
def pc_X4_head_291 (rec : Nat → CS → List Int → CO) (bd : Nat × Nat) (k11 : CS → Int → Int → Int → Int → Int → CO) (σ : CS) (x0 : Int) (x3 : Int) (x4 : Int) (x5 : Int) (x6 : Int) : CO :=
  cc_ck (x6 + 1) (fun z1 => k11 σ x0 x3 x4 x5 z1)
def pc_X4_head_187 (rec : Nat → CS → List Int → CO) (bd : Nat × Nat) (k11 : CS → Int → Int → Int → Int → Int → CO) (σ : CS) (x0 : Int) (x3 : Int) (x4 : Int) (x5 : Int) (x6 : Int) : CO :=
  cc_g σ 7 0 x3 (fun z1 => (if ¬ z1 = 3 then cc_n σ bd 2 4 (fun σ3 z4 => cc_g σ3 7 1 x3 (fun z5 => cc_t σ3 2 z4 (cc_ci (rec 10 σ3 [z4, x3, z5, x4, x5]) (fun σ6 => some (σ6, 0, z4))))) else cc_g σ 7 1 x3 (fun z9 => cc_cl (rec 26 σ [z9, x4]) (fun σ10 z12 => (if z12 < 0 then pc_X4_head_219 rec bd σ10 x3 x4 x5 z12 else cc_g σ10 4 1 z12 (fun z14 => (if 0 ≤ z14 then cc_t σ10 5 x0 (cc_cl (rec 48 σ10 [x0, 5]) (fun σ16 z18 => cc_g σ16 4 1 z12 (fun z19 => cc_g σ16 4 2 z12 (fun z20 => pc_X4_head_291 rec bd k11 σ16 x0 z19 z20 x5 x6)))) else pc_X4_head_219 rec bd σ10 x3 x4 x5 z12)))))))
def pc_X4_head_142 (rec : Nat → CS → List Int → CO) (bd : Nat × Nat) (k11 : CS → Int → Int → Int → Int → Int → CO) (σ : CS) (x0 : Int) (x3 : Int) (x4 : Int) (x5 : Int) (x6 : Int) : CO :=
  cc_g σ 7 0 x3 (fun z1 => (if ¬ z1 = 2 then pc_X4_head_187 rec bd k11 σ x0 x3 x4 x5 x6 else cc_g σ 5 0 x0 (fun z3 => cc_g σ 7 1 x3 (fun z4 => cc_t σ 1 z3 (cc_cl (rec 8 σ [z3, z4]) (fun σ5 z7 => (if z7 < 0 then pc_X4_head_187 rec bd k11 σ5 x0 x3 x4 x5 x6 else cc_t σ5 5 x0 (cc_cl (rec 48 σ5 [x0, 2]) (fun σ9 z11 => cc_g σ9 5 0 x0 (fun z12 => cc_g σ9 7 1 x3 (fun z13 => cc_t σ9 1 z12 (cc_cl (rec 8 σ9 [z12, z13]) (fun σ14 z16 => pc_X4_head_291 rec bd k11 σ14 x0 z16 (-1) x5 x6)))))))))))))
def pc_X4_head_11 (rec : Nat → CS → List Int → CO) (bd : Nat × Nat) : Nat → CS → Int → Int → Int → Int → Int → CO
  | 0, _, _, _, _, _, _ => none
  | n + 1, σ, x0, x3, x4, x5, x6 =>
    (if 1000000 ≤ x6 then cc_n σ bd 2 4 (fun σ2 z3 => cc_g σ2 7 1 x3 (fun z4 => cc_t σ2 2 z3 (cc_ci (rec 10 σ2 [z3, x3, z4, x4, x5]) (fun σ5 => some (σ5, 0, z3))))) else cc_g σ 7 0 x3 (fun z8 => (if ¬ z8 = 7 then cc_g σ 7 0 x3 (fun z10 => (if ¬ z10 = 6 then cc_g σ 7 0 x3 (fun z12 => (if ¬ z12 = 4 then pc_X4_head_142 rec bd (pc_X4_head_11 rec bd n) σ x0 x3 x4 x5 x6 else (if x5 < 0 then pc_X4_head_142 rec bd (pc_X4_head_11 rec bd n) σ x0 x3 x4 x5 x6 else cc_t σ 5 x0 (cc_cl (rec 48 σ [x0, 1]) (fun σ15 z17 => cc_g σ15 7 1 x3 (fun z18 => cc_g σ15 4 1 x5 (fun z19 => cc_g σ15 4 2 x5 (fun z20 => cc_cl (rec 30 σ15 [z18, z19, z20, x4]) (fun σ21 z23 => cc_g σ21 4 4 x5 (fun z24 => cc_g σ21 7 7 x3 (fun z25 => pc_X4_head_291 rec bd (pc_X4_head_11 rec bd n) σ21 x0 z25 z23 z24 x6))))))))))) else cc_t σ 5 x0 (cc_cl (rec 48 σ [x0, 3]) (fun σ26 z28 => cc_g σ26 7 1 x3 (fun z29 => cc_g σ26 7 6 x3 (fun z30 => cc_cl (rec 30 σ26 [z29, z30, x4, x4]) (fun σ31 z33 => cc_g σ31 7 7 x3 (fun z34 => pc_X4_head_291 rec bd (pc_X4_head_11 rec bd n) σ31 x0 z34 z33 x5 x6)))))))) else cc_g σ 7 8 x3 (fun z35 => cc_t σ 5 x0 (cc_cl (rec 40 σ [x0, z35, x4, x5]) (fun σ36 z38 => cc_g σ36 7 6 x3 (fun z39 => pc_X4_head_291 rec bd (pc_X4_head_11 rec bd n) σ36 x0 z39 x4 z38 x6)))))))
def pc_X4_head_0 (rec : Nat → CS → List Int → CO) (bd : Nat × Nat) (σ : CS) (x0 : Int) (x1 : Int) (x2 : Int) : CO :=
  pc_X4_head_11 rec bd 1100000 σ x0 x1 x2 (-1) 0
def pc_X4_init_0 (rec : Nat → CS → List Int → CO) (bd : Nat × Nat) (σ : CS) (x0 : Int) (x1 : Int) (x2 : Int) : CO :=
  cc_t σ 5 x0 (cc_na σ bd 21 7 (fun σ1 z2 => cc_p σ1 5 2 x0 z2 (fun σ3 => cc_p σ3 5 3 x0 0 (fun σ4 => cc_p σ4 5 4 x0 5000 (fun σ5 => cc_p σ5 5 5 x0 0 (fun σ6 => cc_na σ6 bd 20 3000 (fun σ7 z8 => cc_p σ7 5 6 x0 z8 (fun σ9 => cc_p σ9 5 7 x0 0 (fun σ10 => cc_p σ10 5 0 x0 x1 (fun σ11 => cc_p σ11 5 1 x0 x2 (fun σ12 => some (σ12, 0, 0))))))))))))
def pc_X4_look_41 (rec : Nat → CS → List Int → CO) (bd : Nat × Nat) (σ : CS) (x0 : Int) : CO :=
  cc_g σ 5 1 x0 (fun z1 => cc_g σ 5 5 x0 (fun z2 => cc_t σ 11 z1 (cc_cl (rec 95 σ [z1, 13, z2]) (fun σ3 z5 => cc_x σ3 bd 1))))
def pc_X4_look_0 (rec : Nat → CS → List Int → CO) (bd : Nat × Nat) (σ : CS) (x0 : Int) (x1 : Int) : CO :=
  (if 100 ≤ x1 then cc_g σ 5 2 x0 (fun z2 => cc_r σ 21 z2 0 (fun z3 => cc_g σ 5 4 x0 (fun z4 => (if z4 ≤ z3 then pc_X4_look_41 rec bd σ x0 else cc_g σ 5 3 x0 (fun z6 => (if 60000 ≤ z6 then pc_X4_look_41 rec bd σ x0 else cc_t σ 5 x0 (cc_cl (rec 47 σ [x0, 6]) (fun σ8 z10 => pc_X4_look_41 rec bd σ8 x0)))))))) else cc_t σ 5 x0 (cc_cl (rec 48 σ [x0, 6]) (fun σ11 z13 => some (σ11, 0, 0))))
def pc_X4_pushParts_9 (rec : Nat → CS → List Int → CO) (bd : Nat × Nat) : Nat → CS → Int → Int → Int → Int → Int → CO
  | 0, _, _, _, _, _, _ => none
  | n + 1, σ, x0, x1, x2, x4, x5 =>
    (if x5 < 0 then some (σ, 0, x4) else cc_t σ 5 x0 (cc_cl (rec 48 σ [x0, 4]) (fun σ2 z4 => cc_r σ2 22 x1 x5 (fun z5 => cc_cl (rec 29 σ2 [z5, x2, x4]) (fun σ6 z8 => cc_ck (x5 + (-1)) (fun z9 => pc_X4_pushParts_9 rec bd n σ6 x0 x1 x2 z8 z9))))))
def pc_X4_pushParts_0 (rec : Nat → CS → List Int → CO) (bd : Nat × Nat) (σ : CS) (x0 : Int) (x1 : Int) (x2 : Int) (x3 : Int) : CO :=
  cc_l σ 22 x1 (fun z1 => cc_ck (z1 - 1) (fun z2 => pc_X4_pushParts_9 rec bd 1100000 σ x0 x1 x2 x3 z2))
def pc_X4_put_23 (rec : Nat → CS → List Int → CO) (bd : Nat × Nat) (σ : CS) (x0 : Int) : CO :=
  cc_g σ 5 7 x0 (fun z1 => cc_ck (z1 + 1) (fun z2 => cc_p σ 5 7 x0 z2 (fun σ3 => some (σ3, 0, 0))))
def pc_X4_put_0 (rec : Nat → CS → List Int → CO) (bd : Nat × Nat) (σ : CS) (x0 : Int) (x1 : Int) : CO :=
  cc_g σ 5 7 x0 (fun z1 => cc_g σ 5 6 x0 (fun z2 => cc_l σ 20 z2 (fun z3 => (if z3 ≤ z1 then pc_X4_put_23 rec bd σ x0 else cc_g σ 5 6 x0 (fun z5 => cc_g σ 5 7 x0 (fun z6 => cc_nm (rn_b x1) (fun z7 => cc_w σ 20 z5 z6 (rn_b z7) (fun σ8 => pc_X4_put_23 rec bd σ8 x0))))))))
def pc_X4_putFront_94 (rec : Nat → CS → List Int → CO) (bd : Nat × Nat) (σ : CS) (x0 : Int) (x1 : Int) : CO :=
  cc_g σ 2 1 x1 (fun z1 => cc_ck ((-1) - z1) (fun z2 => cc_t σ 5 x0 (cc_cl (rec 44 σ [x0, z2]) (fun σ3 z5 => some (σ3, 0, 0)))))
def pc_X4_putFront_0 (rec : Nat → CS → List Int → CO) (bd : Nat × Nat) (σ : CS) (x0 : Int) (x1 : Int) : CO :=
  cc_g σ 2 0 x1 (fun z1 => cc_g σ 7 0 z1 (fun z2 => (if z2 = 1 then cc_g σ 5 0 x0 (fun z4 => cc_g σ 1 0 z4 (fun z5 => cc_g σ 2 1 x1 (fun z6 => cc_t σ 5 x0 (cc_cl (rec 46 σ [x0, z5, z6]) (fun σ7 z9 => some (σ7, 0, 0)))))) else (if z2 = 2 then cc_g σ 5 0 x0 (fun z11 => cc_g σ 1 5 z11 (fun z12 => cc_g σ 2 1 x1 (fun z13 => cc_t σ 5 x0 (cc_cl (rec 46 σ [x0, z12, z13]) (fun σ14 z16 => some (σ14, 0, 0)))))) else (if z2 = 3 then pc_X4_putFront_94 rec bd σ x0 x1 else (if z2 = 4 then cc_t σ 5 x0 (cc_cl (rec 41 σ [x0, 92]) (fun σ19 z21 => some (σ19, 0, 0))) else (if z2 = 5 then cc_t σ 5 x0 (cc_cl (rec 41 σ [x0, 33]) (fun σ23 z25 => some (σ23, 0, 0))) else pc_X4_putFront_94 rec bd σ x0 x1)))))))
def pc_X4_putNewName_0 (rec : Nat → CS → List Int → CO) (bd : Nat × Nat) (σ : CS) (x0 : Int) (x1 : Int) : CO :=
  cc_t σ 5 x0 (cc_cl (rec 41 σ [x0, 95]) (fun σ1 z3 => cc_t σ1 5 x0 (cc_cl (rec 45 σ1 [x0, x1]) (fun σ4 z6 => some (σ4, 0, 0)))))
def pc_X4_putNumber_29 (rec : Nat → CS → List Int → CO) (bd : Nat × Nat) : Nat → CS → Int → Int → Int → CO
  | 0, _, _, _, _ => none
  | n + 1, σ, x0, x1, x2 =>
    (if x2 ≤ 0 then some (σ, 0, 0) else (if x2 = 0 then none else cc_nm (rn_div x1 x2) (fun z2 => cc_nm (rn_rem z2 10) (fun z4 => cc_ck (48 + z4) (fun z5 => cc_t σ 5 x0 (cc_cl (rec 41 σ [x0, z5]) (fun σ6 z8 => cc_nm (rn_div x2 10) (fun z9 => pc_X4_putNumber_29 rec bd n σ6 x0 x1 z9))))))))
def pc_X4_putNumber_4 (rec : Nat → CS → List Int → CO) (bd : Nat × Nat) : Nat → CS → Int → Int → Int → Int → CO
  | 0, _, _, _, _, _ => none
  | n + 1, σ, x0, x1, x2, x3 =>
    (if 9 ≤ x3 then pc_X4_putNumber_29 rec bd 1100000 σ x0 x1 x2 else (if x2 = 0 then none else cc_nm (rn_div x1 x2) (fun z2 => (if z2 < 10 then pc_X4_putNumber_29 rec bd 1100000 σ x0 x1 x2 else cc_ck (x2 * 10) (fun z5 => cc_ck (x3 + 1) (fun z6 => pc_X4_putNumber_4 rec bd n σ x0 x1 z5 z6))))))
def pc_X4_putNumber_0 (rec : Nat → CS → List Int → CO) (bd : Nat × Nat) (σ : CS) (x0 : Int) (x1 : Int) : CO :=
  pc_X4_putNumber_4 rec bd 1100000 σ x0 x1 1 1
def pc_X4_putSigns_22 (rec : Nat → CS → List Int → CO) (bd : Nat × Nat) : Nat → CS → Int → Int → Int → Int → Int → CO
  | 0, _, _, _, _, _, _ => none
  | n + 1, σ, x0, x1, x2, x3, x4 =>
    (if x3 ≤ x4 then some (σ, 0, 0) else cc_t σ 6 x1 (cc_cl (rec 58 σ [x1, x2, x4]) (fun σ2 z4 => cc_t σ2 5 x0 (cc_cl (rec 41 σ2 [x0, z4]) (fun σ5 z7 => cc_ck (x4 + 1) (fun z8 => pc_X4_putSigns_22 rec bd n σ5 x0 x1 x2 x3 z8))))))
def pc_X4_putSigns_18 (rec : Nat → CS → List Int → CO) (bd : Nat × Nat) (σ : CS) (x0 : Int) (x1 : Int) (x2 : Int) (t0 : Int) : CO :=
  pc_X4_putSigns_22 rec bd 1100000 σ x0 x1 x2 t0 0
def pc_X4_putSigns_0 (rec : Nat → CS → List Int → CO) (bd : Nat × Nat) (σ : CS) (x0 : Int) (x1 : Int) (x2 : Int) : CO :=
  cc_t σ 6 x1 (cc_cl (rec 55 σ [x1, x2]) (fun σ1 z3 => (if z3 = 0 then pc_X4_putSigns_18 rec bd σ1 x0 x1 x2 0 else cc_g σ1 6 1 x1 (fun z5 => cc_r σ1 21 z5 x2 (fun z6 => pc_X4_putSigns_18 rec bd σ1 x0 x1 x2 z6)))))
def pc_X4_record_0 (rec : Nat → CS → List Int → CO) (bd : Nat × Nat) (σ : CS) (x0 : Int) (x1 : Int) : CO :=
  cc_g σ 5 2 x0 (fun z1 => cc_r σ 21 z1 0 (fun z2 => cc_ck (z2 + 1) (fun z3 => cc_w σ 21 z1 0 z3 (fun σ4 => cc_g σ4 5 2 x0 (fun z5 => cc_r σ4 21 z5 x1 (fun z6 => cc_ck (z6 + 1) (fun z7 => cc_w σ4 21 z5 x1 z7 (fun σ8 => cc_g σ8 5 3 x0 (fun z9 => cc_ck (z9 + 1) (fun z10 => cc_p σ8 5 3 x0 z10 (fun σ11 => some (σ11, 0, 0))))))))))))
def pc_X4_spend_0 (rec : Nat → CS → List Int → CO) (bd : Nat × Nat) (σ : CS) (x0 : Int) (x1 : Int) : CO :=
  cc_g σ 5 2 x0 (fun z1 => cc_r σ 21 z1 0 (fun z2 => cc_g σ 5 4 x0 (fun z3 => (if z2 < z3 then cc_g σ 5 3 x0 (fun z5 => (if z5 < 60000 then cc_t σ 5 x0 (cc_cl (rec 47 σ [x0, x1]) (fun σ7 z9 => some (σ7, 0, 0))) else cc_g σ 5 1 x0 (fun z10 => cc_g σ 5 5 x0 (fun z11 => cc_t σ 11 z10 (cc_cl (rec 95 σ [z10, 14, z11]) (fun σ12 z14 => cc_x σ12 bd 1)))))) else cc_g σ 5 1 x0 (fun z15 => cc_g σ 5 5 x0 (fun z16 => cc_t σ 11 z15 (cc_cl (rec 95 σ [z15, 12, z16]) (fun σ17 z19 => cc_x σ17 bd 1))))))))
def pc_X4_tell_199 (rec : Nat → CS → List Int → CO) (bd : Nat × Nat) (σ : CS) (x0 : Int) (x8 : Int) : CO :=
  (if x8 = 0 then some (σ, 0, 0) else cc_t σ 5 x0 (cc_cl (rec 41 σ [x0, 41]) (fun σ2 z4 => some (σ2, 0, 0))))
def pc_X4_tell_158 (rec : Nat → CS → List Int → CO) (bd : Nat × Nat) : Nat → CS → Int → Int → Int → Int → Int → CO
  | 0, _, _, _, _, _, _ => none
  | n + 1, σ, x0, x3, x4, x8, x9 =>
    (if x9 < 0 then pc_X4_tell_199 rec bd σ x0 x8 else cc_t σ 5 x0 (cc_cl (rec 41 σ [x0, 32]) (fun σ2 z4 => cc_g σ2 4 1 x9 (fun z5 => cc_g σ2 4 2 x9 (fun z6 => cc_ck (x4 + 1) (fun z7 => cc_t σ2 5 x0 (cc_cl (rec 49 σ2 [x0, z5, z6, x3, z7, 2]) (fun σ8 z10 => cc_g σ8 4 4 x9 (fun z11 => pc_X4_tell_158 rec bd n σ8 x0 x3 x4 x8 z11)))))))))
def pc_X4_tell_71 (rec : Nat → CS → List Int → CO) (bd : Nat × Nat) (σ : CS) (x0 : Int) (x3 : Int) (x4 : Int) (x6 : Int) (x7 : Int) (x8 : Int) : CO :=
  cc_t σ 5 x0 (cc_cl (rec 43 σ [x0, x6]) (fun σ1 z3 => (if x7 = 0 then cc_g σ1 2 3 x6 (fun z5 => pc_X4_tell_158 rec bd 1100000 σ1 x0 x3 x4 x8 z5) else cc_t σ1 5 x0 (cc_cl (rec 44 σ1 [x0, x3]) (fun σ6 z8 => cc_t σ6 5 x0 (cc_cl (rec 41 σ6 [x0, 58]) (fun σ9 z11 => cc_g σ9 2 0 x6 (fun z12 => cc_g σ9 7 6 z12 (fun z13 => cc_g σ9 2 2 x6 (fun z14 => cc_ck (x4 + 1) (fun z15 => cc_t σ9 5 x0 (cc_cl (rec 49 σ9 [x0, z13, z14, x3, z15, 1]) (fun σ16 z18 => cc_t σ16 5 x0 (cc_cl (rec 41 σ16 [x0, 46]) (fun σ19 z21 => cc_g σ19 2 0 x6 (fun z22 => cc_g σ19 7 7 z22 (fun z23 => cc_t σ19 2 x6 (cc_cl (rec 9 σ19 [x6, x3]) (fun σ24 z26 => cc_ck (x3 + 1) (fun z27 => cc_ck (x4 + 1) (fun z28 => cc_t σ24 5 x0 (cc_cl (rec 49 σ24 [x0, z23, z26, z27, z28, 0]) (fun σ29 z31 => pc_X4_tell_199 rec bd σ29 x0 x8)))))))))))))))))))))))
def pc_X4_tell_58 (rec : Nat → CS → List Int → CO) (bd : Nat × Nat) (σ : CS) (x0 : Int) (x3 : Int) (x4 : Int) (x6 : Int) (x7 : Int) (t0 : Int) : CO :=
  (if t0 = 0 then pc_X4_tell_71 rec bd σ x0 x3 x4 x6 x7 t0 else cc_t σ 5 x0 (cc_cl (rec 41 σ [x0, 40]) (fun σ2 z4 => pc_X4_tell_71 rec bd σ2 x0 x3 x4 x6 x7 t0)))
def pc_X4_tell_57 (rec : Nat → CS → List Int → CO) (bd : Nat × Nat) (σ : CS) (x0 : Int) (x3 : Int) (x4 : Int) (x6 : Int) (x7 : Int) : CO :=
  pc_X4_tell_58 rec bd σ x0 x3 x4 x6 x7 0
def pc_X4_tell_0 (rec : Nat → CS → List Int → CO) (bd : Nat × Nat) (σ : CS) (x0 : Int) (x1 : Int) (x2 : Int) (x3 : Int) (x4 : Int) (x5 : Int) : CO :=
  cc_t σ 5 x0 (cc_cl (rec 37 σ [x0, x4]) (fun σ1 z3 => cc_t σ1 5 x0 (cc_cl (rec 35 σ1 [x0, x1, x2]) (fun σ4 z6 => cc_t σ4 2 z6 (cc_cl (rec 11 σ4 [z6]) (fun σ7 z9 => (if z9 = 0 then (if ¬ x5 = 2 then pc_X4_tell_57 rec bd σ7 x0 x3 x4 z6 z9 else cc_g σ7 2 3 z6 (fun z12 => (if z12 < 0 then pc_X4_tell_57 rec bd σ7 x0 x3 x4 z6 z9 else pc_X4_tell_58 rec bd σ7 x0 x3 x4 z6 z9 1))) else (if x5 = 0 then pc_X4_tell_58 rec bd σ7 x0 x3 x4 z6 z9 0 else pc_X4_tell_58 rec bd σ7 x0 x3 x4 z6 z9 1))))))))
def pc_X4_tellHead_37 (rec : Nat → CS → List Int → CO) (bd : Nat × Nat) (σ : CS) (t0 : Int) (t1 : Int) : CO :=
  cc_t σ 5 t1 (cc_cl (rec 45 σ [t1, t0]) (fun σ1 z3 => some (σ1, 0, 0)))
def pc_X4_tellHead_0 (rec : Nat → CS → List Int → CO) (bd : Nat × Nat) (σ : CS) (x0 : Int) (x1 : Int) : CO :=
  cc_t σ 5 x0 (cc_cl (rec 35 σ [x0, x1, (-1)]) (fun σ1 z3 => cc_t σ1 5 x0 (cc_cl (rec 43 σ1 [x0, z3]) (fun σ4 z6 => cc_t σ4 5 x0 (cc_cl (rec 41 σ4 [x0, 32]) (fun σ7 z9 => cc_t σ7 2 z3 (cc_cl (rec 11 σ7 [z3]) (fun σ10 z12 => (if z12 = 0 then cc_g σ10 2 3 z3 (fun z14 => cc_cl (rec 28 σ10 [z14]) (fun σ15 z17 => pc_X4_tellHead_37 rec bd σ15 z17 x0)) else pc_X4_tellHead_37 rec bd σ10 0 x0)))))))))
def pc_X4_tellWhole_0 (rec : Nat → CS → List Int → CO) (bd : Nat × Nat) (σ : CS) (x0 : Int) (x1 : Int) : CO :=
  cc_t σ 5 x0 (cc_cl (rec 49 σ [x0, x1, (-1), 0, 0, 0]) (fun σ1 z3 => some (σ1, 0, 0)))
def pc_X5_add_29 (rec : Nat → CS → List Int → CO) (bd : Nat × Nat) : Nat → CS → Int → Int → Int → Int → Int → CO
  | 0, _, _, _, _, _, _ => none
  | n + 1, σ, x0, x1, x2, x3, x4 =>
    (if x3 ≤ x4 then cc_g σ 6 1 x0 (fun z2 => cc_g σ 6 2 x0 (fun z3 => cc_w σ 21 z2 z3 x3 (fun σ4 => cc_g σ4 6 2 x0 (fun z5 => cc_ck (z5 + 1) (fun z6 => cc_p σ4 6 2 x0 z6 (fun σ7 => some (σ7, 0, 0))))))) else cc_g σ 6 0 x0 (fun z8 => cc_g σ 6 2 x0 (fun z9 => cc_ck (z9 * 12) (fun z10 => cc_ck (z10 + x4) (fun z11 => cc_ck (x2 + x4) (fun z12 => cc_r σ 20 x1 z12 (fun z13 => cc_w σ 20 z8 z11 (rn_b z13) (fun σ14 => cc_ck (x4 + 1) (fun z15 => pc_X5_add_29 rec bd n σ14 x0 x1 x2 x3 z15)))))))))
def pc_X5_add_0 (rec : Nat → CS → List Int → CO) (bd : Nat × Nat) (σ : CS) (x0 : Int) (x1 : Int) (x2 : Int) (x3 : Int) : CO :=
  cc_t σ 6 x0 (cc_cl (rec 57 σ [x0]) (fun σ1 z3 => (if ¬ z3 = 0 then some (σ1, 0, 0) else (if 12 < x3 then some (σ1, 0, 0) else (if x2 < 0 then some (σ1, 0, 0) else cc_ck (x2 + x3) (fun z7 => cc_l σ1 20 x1 (fun z8 => (if z7 ≤ z8 then pc_X5_add_29 rec bd 1100000 σ1 x0 x1 x2 x3 0 else some (σ1, 0, 0)))))))))
def pc_X5_agree_33 (rec : Nat → CS → List Int → CO) (bd : Nat × Nat) : Nat → CS → Int → Int → Int → Int → Int → Int → CO
  | 0, _, _, _, _, _, _, _ => none
  | n + 1, σ, x0, x1, x2, x3, x4, x5 =>
    (if x4 ≤ x5 then cc_bo 1 (some (σ, 0, 1)) else cc_ck (x1 + x5) (fun z2 => cc_r σ 20 x0 z2 (fun z3 => cc_ck (x3 + x5) (fun z4 => cc_r σ 20 x2 z4 (fun z5 => (if z3 = z5 then cc_ck (x5 + 1) (fun z7 => pc_X5_agree_33 rec bd n σ x0 x1 x2 x3 x4 z7) else cc_bo 0 (some (σ, 0, 0))))))))
def pc_X5_agree_0 (rec : Nat → CS → List Int → CO) (bd : Nat × Nat) (σ : CS) (x0 : Int) (x1 : Int) (x2 : Int) (x3 : Int) (x4 : Int) : CO :=
  (if x1 < 0 then cc_bo 0 (some (σ, 0, 0)) else cc_ck (x1 + x4) (fun z2 => cc_l σ 20 x0 (fun z3 => (if z2 ≤ z3 then (if x3 < 0 then cc_bo 0 (some (σ, 0, 0)) else cc_ck (x3 + x4) (fun z6 => cc_l σ 20 x2 (fun z7 => (if z6 ≤ z7 then pc_X5_agree_33 rec bd 1100000 σ x0 x1 x2 x3 x4 0 else cc_bo 0 (some (σ, 0, 0)))))) else cc_bo 0 (some (σ, 0, 0))))))
def pc_X5_find_44 (rec : Nat → CS → List Int → CO) (bd : Nat × Nat) (k3 : CS → Int → Int → Int → Int → Int → CO) (σ : CS) (x0 : Int) (x1 : Int) (x2 : Int) (x3 : Int) (x4 : Int) : CO :=
  cc_ck (x4 + 1) (fun z1 => k3 σ x0 x1 x2 x3 z1)
def pc_X5_find_3 (rec : Nat → CS → List Int → CO) (bd : Nat × Nat) : Nat → CS → Int → Int → Int → Int → Int → CO
  | 0, _, _, _, _, _, _ => none
  | n + 1, σ, x0, x1, x2, x3, x4 =>
    cc_g σ 6 2 x0 (fun z1 => (if z1 ≤ x4 then some (σ, 0, (-1)) else cc_g σ 6 1 x0 (fun z3 => cc_r σ 21 z3 x4 (fun z4 => (if ¬ z4 = x3 then pc_X5_find_44 rec bd (pc_X5_find_3 rec bd n) σ x0 x1 x2 x3 x4 else cc_g σ 6 0 x0 (fun z6 => cc_ck (x4 * 12) (fun z7 => cc_cl (rec 53 σ [z6, z7, x1, x2, x3]) (fun σ8 z10 => (if z10 = 0 then pc_X5_find_44 rec bd (pc_X5_find_3 rec bd n) σ8 x0 x1 x2 x3 x4 else some (σ8, 0, x4))))))))))
def pc_X5_find_0 (rec : Nat → CS → List Int → CO) (bd : Nat × Nat) (σ : CS) (x0 : Int) (x1 : Int) (x2 : Int) (x3 : Int) : CO :=
  pc_X5_find_3 rec bd 1100000 σ x0 x1 x2 x3 0
def pc_X5_has_0 (rec : Nat → CS → List Int → CO) (bd : Nat × Nat) (σ : CS) (x0 : Int) (x1 : Int) : CO :=
  (if x1 < 0 then cc_bo 0 (some (σ, 0, 0)) else cc_g σ 6 2 x0 (fun z2 => (if z2 ≤ x1 then cc_bo 0 (some (σ, 0, 0)) else cc_bo 1 (some (σ, 0, 1)))))
def pc_X5_init_0 (rec : Nat → CS → List Int → CO) (bd : Nat × Nat) (σ : CS) (x0 : Int) (x1 : Int) : CO :=
  cc_t σ 6 x0 (cc_p σ 6 2 x0 0 (fun σ1 => cc_ck (x1 * 12) (fun z2 => cc_na σ1 bd 20 z2 (fun σ3 z4 => cc_p σ3 6 0 x0 z4 (fun σ5 => cc_na σ5 bd 21 x1 (fun σ6 z7 => cc_p σ6 6 1 x0 z7 (fun σ8 => some (σ8, 0, 0))))))))
def pc_X5_isFull_0 (rec : Nat → CS → List Int → CO) (bd : Nat × Nat) (σ : CS) (x0 : Int) : CO :=
  cc_g σ 6 2 x0 (fun z1 => cc_g σ 6 1 x0 (fun z2 => cc_l σ 21 z2 (fun z3 => (if z1 < z3 then cc_bo 0 (some (σ, 0, 0)) else cc_bo 1 (some (σ, 0, 1))))))
def pc_X5_signOf_0 (rec : Nat → CS → List Int → CO) (bd : Nat × Nat) (σ : CS) (x0 : Int) (x1 : Int) (x2 : Int) : CO :=
  cc_t σ 6 x0 (cc_cl (rec 55 σ [x0, x1]) (fun σ1 z3 => (if z3 = 0 then some (σ1, 0, (-1)) else (if x2 < 0 then some (σ1, 0, (-1)) else cc_g σ1 6 1 x0 (fun z6 => cc_r σ1 21 z6 x1 (fun z7 => (if x2 < z7 then cc_g σ1 6 0 x0 (fun z9 => cc_ck (x1 * 12) (fun z10 => cc_ck (z10 + x2) (fun z11 => cc_r σ1 20 z9 z11 (fun z12 => some (σ1, 0, z12))))) else some (σ1, 0, (-1)))))))))
def pc_X6_binder_0 (rec : Nat → CS → List Int → CO) (bd : Nat × Nat) (σ : CS) (x0 : Int) (x1 : Int) (x2 : Int) (x3 : Int) : CO :=
  cc_n σ bd 7 11 (fun σ1 z2 => cc_t σ1 7 z2 (cc_ci (rec 60 σ1 [z2, x0, x1]) (fun σ3 => cc_p σ3 7 6 z2 x2 (fun σ6 => cc_p σ6 7 7 z2 x3 (fun σ7 => some (σ7, 0, z2))))))
def pc_X6_init_0 (rec : Nat → CS → List Int → CO) (bd : Nat × Nat) (σ : CS) (x0 : Int) (x1 : Int) (x2 : Int) : CO :=
  cc_t σ 7 x0 (cc_p σ 7 2 x0 (-1) (fun σ1 => cc_p σ1 7 3 x0 (-1) (fun σ2 => cc_p σ2 7 4 x0 0 (fun σ3 => cc_p σ3 7 5 x0 0 (fun σ4 => cc_p σ4 7 6 x0 (-1) (fun σ5 => cc_p σ5 7 7 x0 (-1) (fun σ6 => cc_p σ6 7 8 x0 (-1) (fun σ7 => cc_p σ7 7 9 x0 (-1) (fun σ8 => cc_p σ8 7 10 x0 (-1) (fun σ9 => cc_p σ9 7 0 x0 x1 (fun σ10 => cc_p σ10 7 1 x0 x2 (fun σ11 => some (σ11, 0, 0)))))))))))))
def pc_X6_keepSorts_0 (rec : Nat → CS → List Int → CO) (bd : Nat × Nat) (σ : CS) (x0 : Int) (x1 : Int) (x2 : Int) : CO :=
  cc_p σ 7 9 x0 x1 (fun σ1 => cc_p σ1 7 10 x0 x2 (fun σ2 => some (σ2, 0, 0)))
def pc_X6_leaf_0 (rec : Nat → CS → List Int → CO) (bd : Nat × Nat) (σ : CS) (x0 : Int) (x1 : Int) : CO :=
  cc_n σ bd 7 11 (fun σ1 z2 => cc_t σ1 7 z2 (cc_ci (rec 60 σ1 [z2, x0, x1]) (fun σ3 => some (σ3, 0, z2))))
def pc_X6_named_0 (rec : Nat → CS → List Int → CO) (bd : Nat × Nat) (σ : CS) (x0 : Int) (x1 : Int) : CO :=
  cc_n σ bd 7 11 (fun σ1 z2 => cc_t σ1 7 z2 (cc_ci (rec 60 σ1 [z2, 0, 0]) (fun σ3 => cc_p σ3 7 2 z2 x0 (fun σ6 => cc_p σ6 7 3 z2 x0 (fun σ7 => cc_p σ7 7 4 z2 x0 (fun σ8 => cc_p σ8 7 5 z2 x1 (fun σ9 => some (σ9, 0, z2))))))))
def pc_X6_use_0 (rec : Nat → CS → List Int → CO) (bd : Nat × Nat) (σ : CS) (x0 : Int) (x1 : Int) : CO :=
  cc_n σ bd 7 11 (fun σ1 z2 => cc_t σ1 7 z2 (cc_ci (rec 60 σ1 [z2, 7, 0]) (fun σ3 => cc_p σ3 7 6 z2 x0 (fun σ6 => cc_p σ6 7 8 z2 x1 (fun σ7 => cc_g σ7 7 2 x0 (fun z8 => cc_p σ7 7 2 z2 z8 (fun σ9 => cc_g σ9 7 3 x0 (fun z10 => cc_p σ9 7 3 z2 z10 (fun σ11 => some (σ11, 0, z2))))))))))
def pc_X7_atomBegins_0 (rec : Nat → CS → List Int → CO) (bd : Nat × Nat) (σ : CS) (x0 : Int) : CO :=
  cc_g σ 8 4 x0 (fun z1 => (if z1 = 256 then cc_bo 1 (some (σ, 0, 1)) else cc_g σ 8 4 x0 (fun z3 => (if ¬ z3 = 40 then cc_bo 0 (some (σ, 0, 0)) else cc_bo 1 (some (σ, 0, 1))))))
def pc_X7_closeOf_4 (rec : Nat → CS → List Int → CO) (bd : Nat × Nat) : Nat → CS → Int → Int → CO
  | 0, _, _, _ => none
  | n + 1, σ, x0, x2 =>
    cc_g σ 8 2 x0 (fun z1 => (if z1 ≤ x2 then some (σ, 0, (-1)) else cc_g σ 8 0 x0 (fun z3 => cc_r σ 20 z3 x2 (fun z4 => (if ¬ z4 = 125 then cc_ck (x2 + 1) (fun z6 => pc_X7_closeOf_4 rec bd n σ x0 z6) else some (σ, 0, x2))))))
def pc_X7_closeOf_0 (rec : Nat → CS → List Int → CO) (bd : Nat × Nat) (σ : CS) (x0 : Int) (x1 : Int) : CO :=
  cc_ck (x1 + 1) (fun z1 => pc_X7_closeOf_4 rec bd 1100000 σ x0 z1)
def pc_X7_init_0 (rec : Nat → CS → List Int → CO) (bd : Nat × Nat) (σ : CS) (x0 : Int) (x1 : Int) (x2 : Int) : CO :=
  cc_t σ 8 x0 (cc_p σ 8 2 x0 0 (fun σ1 => cc_p σ1 8 3 x0 0 (fun σ2 => cc_p σ2 8 4 x0 261 (fun σ3 => cc_p σ3 8 5 x0 0 (fun σ4 => cc_p σ4 8 6 x0 0 (fun σ5 => cc_p σ5 8 7 x0 0 (fun σ6 => cc_p σ6 8 0 x0 x1 (fun σ7 => cc_p σ7 8 1 x0 x2 (fun σ8 => some (σ8, 0, 0))))))))))
def pc_X7_isLetter_12 (rec : Nat → CS → List Int → CO) (bd : Nat × Nat) (σ : CS) (x0 : Int) : CO :=
  (if x0 < 65 then cc_bo 0 (some (σ, 0, 0)) else (if 90 < x0 then cc_bo 0 (some (σ, 0, 0)) else cc_bo 1 (some (σ, 0, 1))))
def pc_X7_isLetter_0 (rec : Nat → CS → List Int → CO) (bd : Nat × Nat) (σ : CS) (x0 : Int) : CO :=
  (if x0 < 97 then pc_X7_isLetter_12 rec bd σ x0 else (if x0 ≤ 122 then cc_bo 1 (some (σ, 0, 1)) else pc_X7_isLetter_12 rec bd σ x0))
def pc_X7_isNameSign_19 (rec : Nat → CS → List Int → CO) (bd : Nat × Nat) (σ : CS) (x0 : Int) : CO :=
  (if ¬ x0 = 39 then cc_bo 0 (some (σ, 0, 0)) else cc_bo 1 (some (σ, 0, 1)))
def pc_X7_isNameSign_0 (rec : Nat → CS → List Int → CO) (bd : Nat × Nat) (σ : CS) (x0 : Int) : CO :=
  cc_cl (rec 73 σ [x0]) (fun σ1 z3 => (if ¬ z3 = 0 then cc_bo 1 (some (σ1, 0, 1)) else (if x0 < 48 then pc_X7_isNameSign_19 rec bd σ1 x0 else (if x0 ≤ 57 then cc_bo 1 (some (σ1, 0, 1)) else pc_X7_isNameSign_19 rec bd σ1 x0))))
def pc_X7_newId_0 (rec : Nat → CS → List Int → CO) (bd : Nat × Nat) (σ : CS) (x0 : Int) : CO :=
  cc_g σ 8 7 x0 (fun z1 => cc_ck (z1 + 1) (fun z2 => cc_p σ 8 7 x0 z2 (fun σ3 => cc_g σ3 8 7 x0 (fun z4 => some (σ3, 0, z4)))))
def pc_X7_refuse_19 (rec : Nat → CS → List Int → CO) (bd : Nat × Nat) (σ : CS) (x0 : Int) (t0 : Int) (t1 : Int) : CO :=
  cc_g σ 8 5 x0 (fun z1 => cc_t σ 11 t1 (cc_cl (rec 95 σ [t1, t0, z1]) (fun σ2 z4 => cc_x σ2 bd 1)))
def pc_X7_refuse_0 (rec : Nat → CS → List Int → CO) (bd : Nat × Nat) (σ : CS) (x0 : Int) : CO :=
  cc_g σ 8 1 x0 (fun z1 => cc_g σ 8 4 x0 (fun z2 => (if ¬ z2 = 257 then pc_X7_refuse_19 rec bd σ x0 1 z1 else pc_X7_refuse_19 rec bd σ x0 2 z1)))
def pc_X7_signToken_71 (rec : Nat → CS → List Int → CO) (bd : Nat × Nat) (σ : CS) (x1 : Int) : CO :=
  (if x1 = 33 then some (σ, 0, x1) else (if x1 = 40 then some (σ, 0, x1) else (if x1 = 41 then some (σ, 0, x1) else (if x1 = 44 then some (σ, 0, x1) else (if x1 = 46 then some (σ, 0, x1) else (if x1 = 58 then some (σ, 0, x1) else (if x1 = 59 then some (σ, 0, x1) else (if x1 = 61 then some (σ, 0, x1) else (if x1 = 92 then some (σ, 0, x1) else some (σ, 0, 260))))))))))
def pc_X7_signToken_50 (rec : Nat → CS → List Int → CO) (bd : Nat × Nat) (σ : CS) (x0 : Int) (x1 : Int) (x2 : Int) : CO :=
  (if ¬ x1 = 45 then pc_X7_signToken_71 rec bd σ x1 else (if ¬ x2 = 62 then pc_X7_signToken_71 rec bd σ x1 else cc_p σ 8 6 x0 2 (fun σ3 => some (σ3, 0, 259))))
def pc_X7_signToken_28 (rec : Nat → CS → List Int → CO) (bd : Nat × Nat) (σ : CS) (x0 : Int) (x1 : Int) (t0 : Int) : CO :=
  (if ¬ x1 = 58 then pc_X7_signToken_50 rec bd σ x0 x1 t0 else (if ¬ t0 = 61 then pc_X7_signToken_50 rec bd σ x0 x1 t0 else cc_p σ 8 6 x0 2 (fun σ3 => some (σ3, 0, 258))))
def pc_X7_signToken_0 (rec : Nat → CS → List Int → CO) (bd : Nat × Nat) (σ : CS) (x0 : Int) (x1 : Int) : CO :=
  cc_g σ 8 3 x0 (fun z1 => cc_ck (z1 + 1) (fun z2 => cc_g σ 8 2 x0 (fun z3 => (if z3 ≤ z2 then pc_X7_signToken_28 rec bd σ x0 x1 (-1) else cc_g σ 8 0 x0 (fun z5 => cc_g σ 8 3 x0 (fun z6 => cc_ck (z6 + 1) (fun z7 => cc_r σ 20 z5 z7 (fun z8 => pc_X7_signToken_28 rec bd σ x0 x1 z8))))))))
def pc_X7_skipBlanks_63 (rec : Nat → CS → List Int → CO) (bd : Nat × Nat) (k0 : CS → Int → CO) (σ : CS) (x0 : Int) : CO :=
  cc_g σ 8 3 x0 (fun z1 => cc_ck (z1 + 1) (fun z2 => cc_p σ 8 3 x0 z2 (fun σ3 => k0 σ3 x0)))
def pc_X7_skipBlanks_0 (rec : Nat → CS → List Int → CO) (bd : Nat × Nat) : Nat → CS → Int → CO
  | 0, _, _ => none
  | n + 1, σ, x0 =>
    cc_g σ 8 3 x0 (fun z1 => cc_g σ 8 2 x0 (fun z2 => (if z2 ≤ z1 then some (σ, 0, 0) else cc_g σ 8 0 x0 (fun z4 => cc_g σ 8 3 x0 (fun z5 => cc_r σ 20 z4 z5 (fun z6 => (if ¬ z6 = 123 then (if z6 = 10 then pc_X7_skipBlanks_63 rec bd (pc_X7_skipBlanks_0 rec bd n) σ x0 else (if z6 = 32 then pc_X7_skipBlanks_63 rec bd (pc_X7_skipBlanks_0 rec bd n) σ x0 else some (σ, 0, 0))) else cc_g σ 8 3 x0 (fun z10 => cc_t σ 8 x0 (cc_cl (rec 70 σ [x0, z10]) (fun σ11 z13 => (if ¬ z13 = (-1) then cc_p σ11 8 3 x0 z13 (fun σ15 => pc_X7_skipBlanks_63 rec bd (pc_X7_skipBlanks_0 rec bd n) σ15 x0) else some (σ11, 0, 0))))))))))))
def pc_X8_init_46 (rec : Nat → CS → List Int → CO) (bd : Nat × Nat) (σ : CS) (x0 : Int) (x1 : Int) (x5 : Int) (t0 : Int) : CO :=
  (if t0 = 0 then cc_p σ 9 3 x0 x5 (fun σ2 => some (σ2, 0, 0)) else cc_g σ 7 1 x1 (fun z3 => cc_g σ 7 6 x1 (fun z4 => cc_cl (rec 30 σ [z3, z4, x5, x5]) (fun σ5 z7 => cc_p σ5 9 3 x0 z7 (fun σ8 => some (σ8, 0, 0))))))
def pc_X8_init_0 (rec : Nat → CS → List Int → CO) (bd : Nat × Nat) (σ : CS) (x0 : Int) (x1 : Int) (x2 : Int) (x3 : Int) (x4 : Int) : CO :=
  cc_t σ 9 x0 (cc_p σ 9 0 x0 x1 (fun σ1 => cc_p σ1 9 1 x0 x2 (fun σ2 => cc_p σ2 9 2 x0 x3 (fun σ3 => cc_p σ3 9 4 x0 x4 (fun σ4 => cc_cl (rec 91 σ4 [x4]) (fun σ5 z7 => cc_g σ5 7 0 x1 (fun z8 => (if ¬ z8 = 6 then pc_X8_init_46 rec bd σ5 x0 x1 z7 0 else pc_X8_init_46 rec bd σ5 x0 x1 z7 1))))))))
def pc_X8_letsOf_0 (rec : Nat → CS → List Int → CO) (bd : Nat × Nat) (σ : CS) (x0 : Int) : CO :=
  (if 0 ≤ x0 then cc_g σ 9 3 x0 (fun z2 => some (σ, 0, z2)) else some (σ, 0, (-1)))
def pc_X9_init_0 (rec : Nat → CS → List Int → CO) (bd : Nat × Nat) (σ : CS) (x0 : Int) (x1 : Int) (x2 : Int) (x3 : Int) (x4 : Int) (x5 : Int) : CO :=
  cc_t σ 10 x0 (cc_p σ 10 0 x0 x1 (fun σ1 => cc_p σ1 10 1 x0 x2 (fun σ2 => cc_p σ2 10 2 x0 x3 (fun σ3 => cc_p σ3 10 3 x0 x4 (fun σ4 => cc_p σ4 10 4 x0 x5 (fun σ5 => some (σ5, 0, 0)))))))
def pc_X10_clear_0 (rec : Nat → CS → List Int → CO) (bd : Nat × Nat) (σ : CS) (x0 : Int) : CO :=
  cc_p σ 11 0 x0 0 (fun σ1 => cc_p σ1 11 1 x0 (-1) (fun σ2 => some (σ2, 0, 0)))
def pc_X10_init_0 (rec : Nat → CS → List Int → CO) (bd : Nat × Nat) (σ : CS) (x0 : Int) : CO :=
  cc_t σ 11 x0 (cc_p σ 11 0 x0 0 (fun σ1 => cc_p σ1 11 1 x0 (-1) (fun σ2 => some (σ2, 0, 0))))
def pc_X10_set_0 (rec : Nat → CS → List Int → CO) (bd : Nat × Nat) (σ : CS) (x0 : Int) (x1 : Int) (x2 : Int) : CO :=
  cc_p σ 11 0 x0 x1 (fun σ1 => cc_p σ1 11 1 x0 x2 (fun σ2 => some (σ2, 0, 0)))
def pc_X11_addAxiom_0 (rec : Nat → CS → List Int → CO) (bd : Nat × Nat) (σ : CS) (x0 : Int) (x1 : Int) : CO :=
  cc_t σ 12 x0 (cc_cl (rec 119 σ [x0, x1]) (fun σ1 z3 => cc_g σ1 10 2 x1 (fun z4 => cc_t σ1 12 x0 (cc_cl (rec 115 σ1 [x0, z4]) (fun σ5 z7 => cc_g σ5 10 3 x1 (fun z8 => cc_t σ5 12 x0 (cc_cl (rec 115 σ5 [x0, z8]) (fun σ9 z11 => cc_g σ9 12 2 x0 (fun z12 => cc_t σ9 1 z12 (cc_cl (rec 1 σ9 [z12, z7]) (fun σ13 z15 => (if z15 = (-1) then cc_g σ13 12 2 x0 (fun z17 => cc_t σ13 1 z17 (cc_cl (rec 6 σ13 [z17, z7, z11]) (fun σ18 z20 => some (σ18, 0, 0)))) else cc_g σ13 12 1 x0 (fun z21 => cc_g σ13 10 2 x1 (fun z22 => cc_g σ13 7 2 z22 (fun z23 => cc_t σ13 11 z21 (cc_cl (rec 95 σ13 [z21, 4, z23]) (fun σ24 z26 => cc_x σ24 bd 1)))))))))))))))))
def pc_X11_addRule_0 (rec : Nat → CS → List Int → CO) (bd : Nat × Nat) (σ : CS) (x0 : Int) (x1 : Int) : CO :=
  cc_t σ 12 x0 (cc_cl (rec 119 σ [x0, x1]) (fun σ1 z3 => cc_g σ1 10 2 x1 (fun z4 => cc_t σ1 12 x0 (cc_cl (rec 115 σ1 [x0, z4]) (fun σ5 z7 => cc_g σ5 10 3 x1 (fun z8 => cc_t σ5 12 x0 (cc_cl (rec 115 σ5 [x0, z8]) (fun σ9 z11 => cc_g σ9 10 4 x1 (fun z12 => cc_t σ9 12 x0 (cc_cl (rec 115 σ9 [x0, z12]) (fun σ13 z15 => cc_g σ13 12 2 x0 (fun z16 => cc_t σ13 1 z16 (cc_cl (rec 5 σ13 [z16, z7, z11]) (fun σ17 z19 => (if z19 = (-1) then cc_g σ17 12 2 x0 (fun z21 => cc_t σ17 1 z21 (cc_cl (rec 7 σ17 [z21, z7, z11, z15]) (fun σ22 z24 => some (σ22, 0, 0)))) else cc_g σ17 12 1 x0 (fun z25 => cc_g σ17 10 2 x1 (fun z26 => cc_g σ17 7 2 z26 (fun z27 => cc_t σ17 11 z25 (cc_cl (rec 95 σ17 [z25, 4, z27]) (fun σ28 z30 => cc_x σ28 bd 1))))))))))))))))))))
def pc_X11_addSort_0 (rec : Nat → CS → List Int → CO) (bd : Nat × Nat) (σ : CS) (x0 : Int) (x1 : Int) : CO :=
  cc_t σ 12 x0 (cc_cl (rec 119 σ [x0, x1]) (fun σ1 z3 => cc_g σ1 10 2 x1 (fun z4 => cc_t σ1 12 x0 (cc_cl (rec 123 σ1 [x0, z4]) (fun σ5 z7 => (if z7 = (-1) then cc_g σ5 12 2 x0 (fun z9 => cc_g σ5 1 0 z9 (fun z10 => cc_t σ5 6 z10 (cc_cl (rec 57 σ5 [z10]) (fun σ11 z13 => (if z13 = 0 then cc_g σ11 12 2 x0 (fun z15 => cc_g σ11 1 0 z15 (fun z16 => cc_g σ11 12 0 x0 (fun z17 => cc_g σ11 10 2 x1 (fun z18 => cc_g σ11 7 4 z18 (fun z19 => cc_g σ11 10 2 x1 (fun z20 => cc_g σ11 7 5 z20 (fun z21 => cc_t σ11 6 z16 (cc_cl (rec 52 σ11 [z16, z17, z19, z21]) (fun σ22 z24 => some (σ22, 0, 0)))))))))) else cc_g σ11 12 1 x0 (fun z25 => cc_g σ11 10 2 x1 (fun z26 => cc_g σ11 7 2 z26 (fun z27 => cc_t σ11 11 z25 (cc_cl (rec 95 σ11 [z25, 5, z27]) (fun σ28 z30 => cc_x σ28 bd 1)))))))))) else cc_g σ5 12 1 x0 (fun z31 => cc_g σ5 10 2 x1 (fun z32 => cc_g σ5 7 2 z32 (fun z33 => cc_t σ5 11 z31 (cc_cl (rec 95 σ5 [z31, 4, z33]) (fun σ34 z36 => cc_x σ34 bd 1)))))))))))
def pc_X11_back_28 (rec : Nat → CS → List Int → CO) (bd : Nat × Nat) (σ : CS) : CO :=
  cc_x σ bd 1
def pc_X11_back_0 (rec : Nat → CS → List Int → CO) (bd : Nat × Nat) (σ : CS) (x0 : Int) : CO :=
  cc_g σ 12 2 x0 (fun z1 => cc_g σ 1 10 z1 (fun z2 => (if z2 ≤ 0 then pc_X11_back_28 rec bd σ else cc_g σ 12 2 x0 (fun z4 => cc_g σ 1 10 z4 (fun z5 => cc_g σ 12 2 x0 (fun z6 => cc_g σ 1 9 z6 (fun z7 => cc_l σ 21 z7 (fun z8 => (if z5 ≤ z8 then cc_g σ 12 2 x0 (fun z10 => cc_g σ 1 10 z10 (fun z11 => cc_ck (z11 - 1) (fun z12 => cc_p σ 1 10 z10 z12 (fun σ13 => cc_g σ13 12 2 x0 (fun z14 => cc_g σ13 1 5 z14 (fun z15 => cc_g σ13 12 2 x0 (fun z16 => cc_g σ13 1 9 z16 (fun z17 => cc_g σ13 12 2 x0 (fun z18 => cc_g σ13 1 10 z18 (fun z19 => cc_r σ13 21 z17 z19 (fun z20 => cc_p σ13 6 2 z15 z20 (fun σ21 => cc_g σ21 12 2 x0 (fun z22 => cc_g σ21 1 5 z22 (fun z23 => cc_g σ21 6 2 z23 (fun z24 => some (σ21, 0, z24)))))))))))))))) else pc_X11_back_28 rec bd σ)))))))))
def pc_X11_count_26 (rec : Nat → CS → List Int → CO) (bd : Nat × Nat) (σ : CS) (x0 : Int) (x1 : Int) : CO :=
  (if x1 = 7 then cc_g σ 12 3 x0 (fun z2 => cc_g σ 5 3 z2 (fun z3 => some (σ, 0, z3))) else (if x1 = 8 then cc_g σ 12 2 x0 (fun z5 => cc_g σ 1 5 z5 (fun z6 => cc_g σ 6 2 z6 (fun z7 => some (σ, 0, z7)))) else (if x1 = 9 then cc_g σ 12 2 x0 (fun z9 => cc_g σ 1 0 z9 (fun z10 => cc_g σ 6 2 z10 (fun z11 => some (σ, 0, z11)))) else (if x1 = 10 then cc_g σ 12 2 x0 (fun z13 => cc_g σ 1 3 z13 (fun z14 => some (σ, 0, z14))) else (if x1 = 11 then cc_g σ 12 2 x0 (fun z16 => cc_g σ 1 4 z16 (fun z17 => some (σ, 0, z17))) else (if x1 = 12 then cc_g σ 12 2 x0 (fun z19 => cc_g σ 1 10 z19 (fun z20 => some (σ, 0, z20))) else (if x1 = 13 then cc_g σ 12 6 x0 (fun z22 => some (σ, 0, z22)) else cc_x σ bd 3)))))))
def pc_X11_count_0 (rec : Nat → CS → List Int → CO) (bd : Nat × Nat) (σ : CS) (x0 : Int) (x1 : Int) : CO :=
  (if x1 < 0 then pc_X11_count_26 rec bd σ x0 x1 else cc_g σ 12 3 x0 (fun z2 => cc_g σ 5 2 z2 (fun z3 => cc_l σ 21 z3 (fun z4 => (if z4 ≤ x1 then pc_X11_count_26 rec bd σ x0 x1 else cc_g σ 12 3 x0 (fun z6 => cc_g σ 5 2 z6 (fun z7 => cc_r σ 21 z7 x1 (fun z8 => some (σ, 0, z8)))))))))
def pc_X11_fault_0 (rec : Nat → CS → List Int → CO) (bd : Nat × Nat) (σ : CS) (x0 : Int) (x1 : Int) : CO :=
  (if x1 = 0 then cc_g σ 12 7 x0 (fun z2 => some (σ, 0, z2)) else (if x1 = 1 then cc_g σ 12 8 x0 (fun z4 => some (σ, 0, z4)) else (if x1 = 2 then cc_g σ 12 9 x0 (fun z6 => some (σ, 0, z6)) else cc_x σ bd 3)))
def pc_X11_feed_0 (rec : Nat → CS → List Int → CO) (bd : Nat × Nat) (σ : CS) (x0 : Int) (x1 : Int) (x2 : Int) (x3 : Int) (x4 : Int) (x5 : Int) : CO :=
  cc_g σ 12 6 x0 (fun z1 => cc_ck (z1 + 20) (fun z2 => (if z2 ≤ 4000 then cc_t σ 12 x0 (cc_cl (rec 108 σ [x0, x1]) (fun σ4 z6 => cc_t σ4 12 x0 (cc_cl (rec 108 σ4 [x0, x2]) (fun σ7 z9 => cc_t σ7 12 x0 (cc_cl (rec 108 σ7 [x0, x3]) (fun σ10 z12 => cc_t σ10 12 x0 (cc_cl (rec 108 σ10 [x0, x4]) (fun σ13 z15 => cc_t σ13 12 x0 (cc_cl (rec 108 σ13 [x0, x5]) (fun σ16 z18 => cc_g σ16 12 6 x0 (fun z19 => some (σ16, 0, z19)))))))))))) else some (σ, 0, (-1)))))
def pc_X11_feedFour_3 (rec : Nat → CS → List Int → CO) (bd : Nat × Nat) : Nat → CS → Int → Int → Int → CO
  | 0, _, _, _, _ => none
  | n + 1, σ, x0, x1, x2 =>
    (if x2 < 0 then some (σ, 0, 0) else cc_g σ 12 6 x0 (fun z2 => (if 4000 ≤ z2 then some (σ, 0, 0) else cc_g σ 12 0 x0 (fun z4 => cc_g σ 12 6 x0 (fun z5 => cc_nm (rn_shr x1 x2) (fun z6 => cc_nm (rn_b z6) (fun z7 => cc_w σ 20 z4 z5 (rn_b z7) (fun σ8 => cc_g σ8 12 6 x0 (fun z9 => cc_ck (z9 + 1) (fun z10 => cc_p σ8 12 6 x0 z10 (fun σ11 => cc_ck (x2 + (-8)) (fun z12 => pc_X11_feedFour_3 rec bd n σ11 x0 x1 z12))))))))))))
def pc_X11_feedFour_0 (rec : Nat → CS → List Int → CO) (bd : Nat × Nat) (σ : CS) (x0 : Int) (x1 : Int) : CO :=
  pc_X11_feedFour_3 rec bd 1100000 σ x0 x1 24
def pc_X11_limit_12 (rec : Nat → CS → List Int → CO) (bd : Nat × Nat) (σ : CS) : CO :=
  cc_x σ bd 2
def pc_X11_limit_0 (rec : Nat → CS → List Int → CO) (bd : Nat × Nat) (σ : CS) (x0 : Int) (x1 : Int) : CO :=
  (if x1 < 1 then pc_X11_limit_12 rec bd σ else (if x1 ≤ 20000 then cc_g σ 12 3 x0 (fun z3 => cc_g σ 5 4 z3 (fun z4 => cc_g σ 12 3 x0 (fun z5 => cc_p σ 5 4 z5 x1 (fun σ6 => some (σ6, 0, z4))))) else pc_X11_limit_12 rec bd σ))
def pc_X11_mark_0 (rec : Nat → CS → List Int → CO) (bd : Nat × Nat) (σ : CS) (x0 : Int) : CO :=
  cc_g σ 12 2 x0 (fun z1 => cc_g σ 1 10 z1 (fun z2 => cc_g σ 12 2 x0 (fun z3 => cc_g σ 1 9 z3 (fun z4 => cc_l σ 21 z4 (fun z5 => (if z2 < z5 then cc_g σ 12 2 x0 (fun z7 => cc_g σ 1 9 z7 (fun z8 => cc_g σ 12 2 x0 (fun z9 => cc_g σ 1 10 z9 (fun z10 => cc_g σ 12 2 x0 (fun z11 => cc_g σ 1 5 z11 (fun z12 => cc_g σ 6 2 z12 (fun z13 => cc_w σ 21 z8 z10 z13 (fun σ14 => cc_g σ14 12 2 x0 (fun z15 => cc_g σ14 1 10 z15 (fun z16 => cc_ck (z16 + 1) (fun z17 => cc_p σ14 1 10 z15 z17 (fun σ18 => cc_g σ18 12 2 x0 (fun z19 => cc_g σ18 1 10 z19 (fun z20 => some (σ18, 0, z20))))))))))))))) else cc_x σ bd 1))))))
def pc_X11_name_18 (rec : Nat → CS → List Int → CO) (bd : Nat × Nat) (σ : CS) : CO :=
  cc_x σ bd 3
def pc_X11_name_0 (rec : Nat → CS → List Int → CO) (bd : Nat × Nat) (σ : CS) (x0 : Int) (x1 : Int) (x2 : Int) : CO :=
  cc_g σ 12 2 x0 (fun z1 => cc_g σ 1 5 z1 (fun z2 => cc_t σ 6 z2 (cc_cl (rec 55 σ [z2, x1]) (fun σ3 z5 => (if z5 = 0 then pc_X11_name_18 rec bd σ3 else (if 0 ≤ x2 then (if x2 = 0 then cc_g σ3 12 2 x0 (fun z9 => cc_g σ3 1 7 z9 (fun z10 => cc_r σ3 22 z10 x1 (fun z11 => (if z11 < 0 then some (σ3, 0, 0) else some (σ3, 0, 1))))) else (if x2 = 1 then cc_g σ3 12 2 x0 (fun z14 => cc_g σ3 1 8 z14 (fun z15 => cc_r σ3 21 z15 x1 (fun z16 => some (σ3, 0, z16)))) else (if x2 = 2 then cc_g σ3 12 2 x0 (fun z18 => cc_g σ3 1 5 z18 (fun z19 => cc_g σ3 6 1 z19 (fun z20 => cc_r σ3 21 z20 x1 (fun z21 => some (σ3, 0, z21))))) else cc_g σ3 12 2 x0 (fun z22 => cc_g σ3 1 5 z22 (fun z23 => cc_ck (x2 - 3) (fun z24 => cc_t σ3 6 z23 (cc_cl (rec 58 σ3 [z23, x1, z24]) (fun σ25 z27 => some (σ25, 0, z27))))))))) else pc_X11_name_18 rec bd σ3))))))
def pc_X11_needNewName_37 (rec : Nat → CS → List Int → CO) (bd : Nat × Nat) (σ : CS) (x0 : Int) (x1 : Int) : CO :=
  cc_g σ 12 1 x0 (fun z1 => cc_g σ 7 2 x1 (fun z2 => cc_t σ 11 z1 (cc_cl (rec 95 σ [z1, 4, z2]) (fun σ3 z5 => cc_x σ3 bd 1))))
def pc_X11_needNewName_0 (rec : Nat → CS → List Int → CO) (bd : Nat × Nat) (σ : CS) (x0 : Int) (x1 : Int) : CO :=
  cc_g σ 12 2 x0 (fun z1 => cc_g σ 1 5 z1 (fun z2 => cc_g σ 12 0 x0 (fun z3 => cc_g σ 7 4 x1 (fun z4 => cc_g σ 7 5 x1 (fun z5 => cc_t σ 6 z2 (cc_cl (rec 54 σ [z2, z3, z4, z5]) (fun σ6 z8 => (if ¬ z8 = (-1) then pc_X11_needNewName_37 rec bd σ6 x0 x1 else cc_t σ6 12 x0 (cc_cl (rec 123 σ6 [x0, x1]) (fun σ10 z12 => (if z12 = (-1) then cc_g σ10 12 2 x0 (fun z14 => cc_g σ10 1 5 z14 (fun z15 => cc_t σ10 6 z15 (cc_cl (rec 57 σ10 [z15]) (fun σ16 z18 => (if z18 = 0 then some (σ16, 0, 0) else cc_g σ16 12 1 x0 (fun z20 => cc_g σ16 7 2 x1 (fun z21 => cc_t σ16 11 z20 (cc_cl (rec 95 σ16 [z20, 5, z21]) (fun σ22 z24 => cc_x σ22 bd 1))))))))) else pc_X11_needNewName_37 rec bd σ10 x0 x1)))))))))))
def pc_X11_neededSort_0 (rec : Nat → CS → List Int → CO) (bd : Nat × Nat) (σ : CS) (x0 : Int) (x1 : Int) : CO :=
  cc_t σ 12 x0 (cc_cl (rec 123 σ [x0, x1]) (fun σ1 z3 => (if ¬ z3 = (-1) then some (σ1, 0, z3) else cc_g σ1 12 1 x0 (fun z5 => cc_g σ1 7 2 x1 (fun z6 => cc_t σ1 11 z5 (cc_cl (rec 95 σ1 [z5, 3, z6]) (fun σ7 z9 => cc_x σ7 bd 1)))))))
def pc_X11_out_27 (rec : Nat → CS → List Int → CO) (bd : Nat × Nat) (σ : CS) : CO :=
  cc_x σ bd 3
def pc_X11_out_0 (rec : Nat → CS → List Int → CO) (bd : Nat × Nat) (σ : CS) (x0 : Int) (x1 : Int) : CO :=
  (if x1 < 0 then pc_X11_out_27 rec bd σ else cc_g σ 12 3 x0 (fun z2 => cc_g σ 5 7 z2 (fun z3 => (if z3 ≤ x1 then pc_X11_out_27 rec bd σ else cc_g σ 12 3 x0 (fun z5 => cc_g σ 5 6 z5 (fun z6 => cc_l σ 20 z6 (fun z7 => (if x1 < z7 then cc_g σ 12 3 x0 (fun z9 => cc_g σ 5 6 z9 (fun z10 => cc_r σ 20 z10 x1 (fun z11 => some (σ, 0, z11)))) else pc_X11_out_27 rec bd σ))))))))
def pc_X11_outs_0 (rec : Nat → CS → List Int → CO) (bd : Nat × Nat) (σ : CS) (x0 : Int) : CO :=
  cc_g σ 12 3 x0 (fun z1 => cc_g σ 5 7 z1 (fun z2 => some (σ, 0, z2)))
def pc_X11_refuseBesideNames_0 (rec : Nat → CS → List Int → CO) (bd : Nat × Nat) (σ : CS) (x0 : Int) (x1 : Int) : CO :=
  cc_g σ 12 2 x0 (fun z1 => cc_g σ 1 5 z1 (fun z2 => cc_g σ 6 2 z2 (fun z3 => (if z3 ≤ 0 then some (σ, 0, 0) else cc_g σ 12 1 x0 (fun z5 => cc_g σ 10 1 x1 (fun z6 => cc_t σ 11 z5 (cc_cl (rec 95 σ [z5, 6, z6]) (fun σ7 z9 => cc_x σ7 bd 1))))))))
def pc_X11_rule_28 (rec : Nat → CS → List Int → CO) (bd : Nat × Nat) (σ : CS) : CO :=
  cc_x σ bd 3
def pc_X11_rule_0 (rec : Nat → CS → List Int → CO) (bd : Nat × Nat) (σ : CS) (x0 : Int) (x1 : Int) (x2 : Int) : CO :=
  cc_g σ 12 2 x0 (fun z1 => cc_g σ 1 0 z1 (fun z2 => cc_t σ 6 z2 (cc_cl (rec 55 σ [z2, x1]) (fun σ3 z5 => (if z5 = 0 then pc_X11_rule_28 rec bd σ3 else cc_g σ3 12 2 x0 (fun z7 => cc_g σ3 1 0 z7 (fun z8 => cc_t σ3 6 z8 (cc_cl (rec 55 σ3 [z8, x2]) (fun σ9 z11 => (if ¬ z11 = 0 then cc_g σ9 12 2 x0 (fun z13 => cc_t σ9 1 z13 (cc_cl (rec 5 σ9 [z13, x1, x2]) (fun σ14 z16 => some (σ14, 0, z16)))) else pc_X11_rule_28 rec bd σ9))))))))))
def pc_X11_sort_18 (rec : Nat → CS → List Int → CO) (bd : Nat × Nat) (σ : CS) : CO :=
  cc_x σ bd 3
def pc_X11_sort_0 (rec : Nat → CS → List Int → CO) (bd : Nat × Nat) (σ : CS) (x0 : Int) (x1 : Int) (x2 : Int) : CO :=
  cc_g σ 12 2 x0 (fun z1 => cc_g σ 1 0 z1 (fun z2 => cc_t σ 6 z2 (cc_cl (rec 55 σ [z2, x1]) (fun σ3 z5 => (if z5 = 0 then pc_X11_sort_18 rec bd σ3 else (if 0 ≤ x2 then (if x2 = 0 then cc_g σ3 12 2 x0 (fun z9 => cc_t σ3 1 z9 (cc_cl (rec 1 σ3 [z9, x1]) (fun σ10 z12 => some (σ10, 0, z12)))) else (if x2 = 1 then cc_g σ3 12 2 x0 (fun z14 => cc_g σ3 1 0 z14 (fun z15 => cc_g σ3 6 1 z15 (fun z16 => cc_r σ3 21 z16 x1 (fun z17 => some (σ3, 0, z17))))) else cc_g σ3 12 2 x0 (fun z18 => cc_g σ3 1 0 z18 (fun z19 => cc_ck (x2 - 2) (fun z20 => cc_t σ3 6 z19 (cc_cl (rec 58 σ3 [z19, x1, z20]) (fun σ21 z23 => some (σ21, 0, z23)))))))) else pc_X11_sort_18 rec bd σ3))))))
def pc_X11_sortNumber_0 (rec : Nat → CS → List Int → CO) (bd : Nat × Nat) (σ : CS) (x0 : Int) (x1 : Int) : CO :=
  cc_g σ 12 2 x0 (fun z1 => cc_g σ 1 0 z1 (fun z2 => cc_g σ 12 0 x0 (fun z3 => cc_g σ 7 4 x1 (fun z4 => cc_g σ 7 5 x1 (fun z5 => cc_t σ 6 z2 (cc_cl (rec 54 σ [z2, z3, z4, z5]) (fun σ6 z8 => some (σ6, 0, z8))))))))
