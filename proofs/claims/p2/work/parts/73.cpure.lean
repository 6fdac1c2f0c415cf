def pc_J15_checkIndex_7cf53_0 (rec : Nat → CS → List Int → CO) (bd : cBd) (σ : CS) (x0 : Int) (x1 : Int) : CO :=
  cc_cn (rec 1 σ [x0, x1, (-1)]) (fun σ1 z3 => some (σ1, 0, z3))
def pc_J3_checkIndex_8e157_9 (rec : Nat → CS → List Int → CO) (bd : cBd) (σ : CS) (x0 : Int) (x1 : Int) (x2 : Int) : CO :=
  none
def pc_J3_checkIndex_8e157_0 (rec : Nat → CS → List Int → CO) (bd : cBd) (σ : CS) (x0 : Int) (x1 : Int) (x2 : Int) : CO :=
  (if x0 < 0 then pc_J3_checkIndex_8e157_9 rec bd σ x0 x1 x2 else (if x0 < x1 then some (σ, 0, x0) else pc_J3_checkIndex_8e157_9 rec bd σ x0 x1 x2))
def pc_J7_copyOf_1904c_0 (rec : Nat → CS → List Int → CO) (bd : cBd) (σ : CS) (x0 : Int) (x1 : Int) : CO :=
  cc_t σ 23 x0 (cc_gs bd 22 (fun z1 => cc_cn (rec 3 σ [x0, x1, z1]) (fun σ3 z5 => some (σ3, 0, z5))))
def pc_J7_copyOf_6403c_0 (rec : Nat → CS → List Int → CO) (bd : cBd) (σ : CS) (x0 : Int) (x1 : Int) (x2 : Int) : CO :=
  cc_gs bd 22 (fun z1 => cc_ac σ x2 z1 (if ¬ x2 = z1 then none else cc_na σ bd 23 x1 (fun σ4 z5 => cc_l σ4 23 x0 (fun z6 => cc_mn z6 x1 (fun z7 => cc_ay σ4 x0 z5 z7 (fun σ8 => some (σ8, 0, z5)))))))
def pc_J8_hugeLength_7cf53_0 (rec : Nat → CS → List Int → CO) (bd : cBd) (σ : CS) (x0 : Int) (x1 : Int) : CO :=
  cc_ck (x0 + x1) (fun z1 => (if 0 ≤ z1 then (if 2147483639 < z1 then some (σ, 0, z1) else some (σ, 0, 2147483639)) else none))
def pc_J8_newLength_cabcc_21 (rec : Nat → CS → List Int → CO) (bd : cBd) (σ : CS) (x0 : Int) (x1 : Int) : CO :=
  cc_cn (rec 4 σ [x0, x1]) (fun σ1 z3 => some (σ1, 0, z3))
def pc_J8_newLength_cabcc_0 (rec : Nat → CS → List Int → CO) (bd : cBd) (σ : CS) (x0 : Int) (x1 : Int) (x2 : Int) : CO :=
  cc_mx x1 x2 (fun z1 => cc_ck (x0 + z1) (fun z2 => (if z2 ≤ 0 then pc_J8_newLength_cabcc_21 rec bd σ x0 x1 else (if 2147483639 < z2 then pc_J8_newLength_cabcc_21 rec bd σ x0 x1 else some (σ, 0, z2)))))
def pc_Jx4a65c_add_72be8_11 (rec : Nat → CS → List Int → CO) (bd : cBd) (σ : CS) (x0 : Int) (x1 : Int) (x2 : Int) (x3 : Int) : CO :=
  cc_to σ x1 (cc_w σ 23 x2 x3 x1 (fun σ1 => cc_ck (x3 + 1) (fun z2 => cc_p σ1 13 2 x0 z2 (fun σ3 => some (σ3, 0, 0)))))
def pc_Jx4a65c_add_72be8_0 (rec : Nat → CS → List Int → CO) (bd : cBd) (σ : CS) (x0 : Int) (x1 : Int) (x2 : Int) (x3 : Int) : CO :=
  cc_l σ 23 x2 (fun z1 => (if ¬ x3 = z1 then pc_Jx4a65c_add_72be8_11 rec bd σ x0 x1 x2 x3 else cc_t σ 13 x0 (cc_cn (rec 11 σ [x0]) (fun σ3 z5 => pc_Jx4a65c_add_72be8_11 rec bd σ3 x0 x1 z5 x3))))
def pc_Jx4a65c_add_9ea2d_0 (rec : Nat → CS → List Int → CO) (bd : cBd) (σ : CS) (x0 : Int) (x1 : Int) : CO :=
  cc_g σ 13 0 x0 (fun z1 => cc_ck (z1 + 1) (fun z2 => cc_p σ 13 0 x0 z2 (fun σ3 => cc_g σ3 13 1 x0 (fun z4 => cc_g σ3 13 2 x0 (fun z5 => cc_t σ3 13 x0 (cc_cn (rec 6 σ3 [x0, x1, z4, z5]) (fun σ6 z8 => cc_bo 1 (some (σ6, 0, 1)))))))))
def pc_Jx4a65c_elementData_915e3_0 (rec : Nat → CS → List Int → CO) (bd : cBd) (σ : CS) (x0 : Int) (x1 : Int) : CO :=
  cc_g σ 13 1 x0 (fun z1 => cc_r σ 23 z1 x1 (fun z2 => some (σ, 0, z2)))
def pc_Jx4a65c_get_915e3_0 (rec : Nat → CS → List Int → CO) (bd : cBd) (σ : CS) (x0 : Int) (x1 : Int) : CO :=
  cc_g σ 13 2 x0 (fun z1 => cc_cn (rec 0 σ [x1, z1]) (fun σ2 z4 => cc_t σ2 13 x0 (cc_cn (rec 8 σ2 [x0, x1]) (fun σ5 z7 => some (σ5, 0, z7)))))
def pc_Jx4a65c_grow_92f84_20 (rec : Nat → CS → List Int → CO) (bd : cBd) (σ : CS) (x0 : Int) (x1 : Int) (x2 : Int) : CO :=
  cc_ck (x1 - x2) (fun z1 => cc_nm (rn_shr x2 1) (fun z2 => cc_cn (rec 5 σ [x2, z1, z2]) (fun σ3 z5 => cc_g σ3 13 1 x0 (fun z6 => cc_cn (rec 2 σ3 [z6, z5]) (fun σ7 z9 => cc_p σ7 13 1 x0 z9 (fun σ10 => some (σ10, 0, z9)))))))
def pc_Jx4a65c_grow_92f84_0 (rec : Nat → CS → List Int → CO) (bd : cBd) (σ : CS) (x0 : Int) (x1 : Int) : CO :=
  cc_g σ 13 1 x0 (fun z1 => cc_l σ 23 z1 (fun z2 => (if 0 < z2 then pc_Jx4a65c_grow_92f84_20 rec bd σ x0 x1 z2 else cc_g σ 13 1 x0 (fun z4 => cc_gs bd 21 (fun z5 => cc_ac σ z4 z5 (if z4 = z5 then cc_mx 10 x1 (fun z8 => cc_na σ bd 23 z8 (fun σ9 z10 => cc_p σ9 13 1 x0 z10 (fun σ11 => some (σ11, 0, z10)))) else pc_Jx4a65c_grow_92f84_20 rec bd σ x0 x1 z2))))))
def pc_Jx4a65c_grow_d5877_0 (rec : Nat → CS → List Int → CO) (bd : cBd) (σ : CS) (x0 : Int) : CO :=
  cc_g σ 13 2 x0 (fun z1 => cc_ck (z1 + 1) (fun z2 => cc_t σ 13 x0 (cc_cn (rec 10 σ [x0, z2]) (fun σ3 z5 => some (σ3, 0, z5)))))
def pc_Jx4a65c_init_da8c8_0 (rec : Nat → CS → List Int → CO) (bd : cBd) (σ : CS) (x0 : Int) : CO :=
  cc_t σ 13 x0 (cc_ci (rec 15 σ [x0]) (fun σ1 => cc_gs bd 21 (fun z4 => cc_p σ1 13 1 x0 z4 (fun σ5 => some (σ5, 0, 0)))))
def pc_Jx4a65c_size_8abf5_0 (rec : Nat → CS → List Int → CO) (bd : cBd) (σ : CS) (x0 : Int) : CO :=
  cc_g σ 13 2 x0 (fun z1 => some (σ, 0, z1))
def pc_Jxa1e45_init_da8c8_0 (rec : Nat → CS → List Int → CO) (bd : cBd) (σ : CS) (x0 : Int) : CO :=
  cc_t σ 13 x0 (some (σ, 0, 0))
def pc_Jxc12de_init_da8c8_0 (rec : Nat → CS → List Int → CO) (bd : cBd) (σ : CS) (x0 : Int) : CO :=
  cc_t σ 13 x0 (cc_ci (rec 14 σ [x0]) (fun σ1 => cc_p σ1 13 0 x0 0 (fun σ4 => some (σ4, 0, 0))))
def pc_X0_addName_0 (rec : Nat → CS → List Int → CO) (bd : cBd) (σ : CS) (x0 : Int) (x1 : Int) (x2 : Int) (x3 : Int) (x4 : Int) (x5 : Int) : CO :=
  cc_g σ 1 5 x0 (fun z1 => cc_t σ 6 z1 (cc_cl (rec 102 σ [z1]) (fun σ2 z4 => (if z4 = 0 then cc_g σ2 1 5 x0 (fun z6 => cc_g σ2 6 2 z6 (fun z7 => cc_g σ2 1 6 x0 (fun z8 => cc_tn σ2 7 x3 (cc_w σ2 22 z8 z7 x3 (fun σ9 => cc_g σ9 1 7 x0 (fun z10 => cc_tn σ9 7 x5 (cc_w σ9 22 z10 z7 x5 (fun σ11 => cc_g σ11 1 8 x0 (fun z12 => cc_w σ11 21 z12 z7 x4 (fun σ13 => cc_g σ13 1 5 x0 (fun z14 => cc_g σ13 7 4 x2 (fun z15 => cc_g σ13 7 5 x2 (fun z16 => cc_t σ13 6 z14 (cc_cl (rec 97 σ13 [z14, x1, z15, z16]) (fun σ17 z19 => some (σ17, 0, 0)))))))))))))))) else some (σ2, 0, 0)))))
def pc_X0_axiomOf_0 (rec : Nat → CS → List Int → CO) (bd : cBd) (σ : CS) (x0 : Int) (x1 : Int) : CO :=
  cc_g σ 1 0 x0 (fun z1 => cc_t σ 6 z1 (cc_cl (rec 100 σ [z1, x1]) (fun σ2 z4 => (if z4 = 0 then some (σ2, 0, (-1)) else cc_g σ2 1 1 x0 (fun z6 => cc_r σ2 21 z6 x1 (fun z7 => some (σ2, 0, z7)))))))
def pc_X0_clear_57 (rec : Nat → CS → List Int → CO) (bd : cBd) : Nat → CS → Int → Int → CO
  | 0, _, _, _ => none
  | n + 1, σ, x0, x1 =>
    cc_g σ 1 2 x0 (fun z1 => cc_l σ 21 z1 (fun z2 => (if z2 ≤ x1 then some (σ, 0, 0) else cc_g σ 1 2 x0 (fun z4 => cc_w σ 21 z4 x1 (-1) (fun σ5 => cc_ck (x1 + 1) (fun z6 => pc_X0_clear_57 rec bd n σ5 x0 z6))))))
def pc_X0_clear_33 (rec : Nat → CS → List Int → CO) (bd : cBd) : Nat → CS → Int → Int → CO
  | 0, _, _, _ => none
  | n + 1, σ, x0, x1 =>
    cc_g σ 1 1 x0 (fun z1 => cc_l σ 21 z1 (fun z2 => (if z2 ≤ x1 then pc_X0_clear_57 rec bd 2000000 σ x0 0 else cc_g σ 1 1 x0 (fun z4 => cc_w σ 21 z4 x1 (-1) (fun σ5 => cc_ck (x1 + 1) (fun z6 => pc_X0_clear_33 rec bd n σ5 x0 z6))))))
def pc_X0_clear_0 (rec : Nat → CS → List Int → CO) (bd : cBd) (σ : CS) (x0 : Int) : CO :=
  cc_g σ 1 0 x0 (fun z1 => cc_p σ 6 2 z1 0 (fun σ2 => cc_g σ2 1 5 x0 (fun z3 => cc_p σ2 6 2 z3 0 (fun σ4 => cc_p σ4 1 10 x0 0 (fun σ5 => cc_p σ5 1 3 x0 0 (fun σ6 => cc_p σ6 1 4 x0 0 (fun σ7 => pc_X0_clear_33 rec bd 2000000 σ7 x0 0)))))))
def pc_X0_init_0 (rec : Nat → CS → List Int → CO) (bd : cBd) (σ : CS) (x0 : Int) : CO :=
  cc_t σ 1 x0 (cc_n σ bd 6 3 (fun σ1 z2 => cc_t σ1 6 z2 (cc_ci (rec 101 σ1 [z2, 8]) (fun σ3 => cc_p σ3 1 0 x0 z2 (fun σ6 => cc_na σ6 bd 21 8 (fun σ7 z8 => cc_p σ7 1 1 x0 z8 (fun σ9 => cc_na σ9 bd 21 64 (fun σ10 z11 => cc_p σ10 1 2 x0 z11 (fun σ12 => cc_p σ12 1 3 x0 0 (fun σ13 => cc_p σ13 1 4 x0 0 (fun σ14 => cc_n σ14 bd 6 3 (fun σ15 z16 => cc_t σ15 6 z16 (cc_ci (rec 101 σ15 [z16, 100]) (fun σ17 => cc_p σ17 1 5 x0 z16 (fun σ20 => cc_na σ20 bd 22 100 (fun σ21 z22 => cc_p σ21 1 6 x0 z22 (fun σ23 => cc_na σ23 bd 22 100 (fun σ24 z25 => cc_p σ24 1 7 x0 z25 (fun σ26 => cc_na σ26 bd 21 100 (fun σ27 z28 => cc_p σ27 1 8 x0 z28 (fun σ29 => cc_na σ29 bd 21 20 (fun σ30 z31 => cc_p σ30 1 9 x0 z31 (fun σ32 => cc_p σ32 1 10 x0 0 (fun σ33 => some (σ33, 0, 0)))))))))))))))))))))))))
def pc_X0_loadCorner_74 (rec : Nat → CS → List Int → CO) (bd : cBd) (σ : CS) (x0 : Int) (x1 : Int) : CO :=
  cc_nm (rn_and x1 4) (fun z1 => (if z1 = 0 then some (σ, 0, 0) else cc_t σ 1 x0 (cc_cl (rec 23 σ [x0, 0, 1, 1]) (fun σ3 z5 => some (σ3, 0, 0)))))
def pc_X0_loadCorner_61 (rec : Nat → CS → List Int → CO) (bd : cBd) (σ : CS) (x0 : Int) (x1 : Int) : CO :=
  cc_nm (rn_and x1 2) (fun z1 => (if z1 = 0 then pc_X0_loadCorner_74 rec bd σ x0 x1 else cc_t σ 1 x0 (cc_cl (rec 23 σ [x0, 1, 1, 1]) (fun σ3 z5 => pc_X0_loadCorner_74 rec bd σ3 x0 x1))))
def pc_X0_loadCorner_0 (rec : Nat → CS → List Int → CO) (bd : cBd) (σ : CS) (x0 : Int) (x1 : Int) : CO :=
  cc_t σ 1 x0 (cc_cl (rec 18 σ [x0]) (fun σ1 z3 => (if ¬ x1 = 8 then cc_g σ1 1 0 x0 (fun z5 => cc_gs bd 20 (fun z6 => cc_t σ1 6 z5 (cc_cl (rec 97 σ1 [z5, z6, 0, 4]) (fun σ7 z9 => cc_g σ7 1 0 x0 (fun z10 => cc_gs bd 20 (fun z11 => cc_t σ7 6 z10 (cc_cl (rec 97 σ7 [z10, z11, 4, 4]) (fun σ12 z14 => cc_t σ12 1 x0 (cc_cl (rec 22 σ12 [x0, 0, 1]) (fun σ15 z17 => cc_t σ15 1 x0 (cc_cl (rec 23 σ15 [x0, 0, 0, 0]) (fun σ18 z20 => cc_nm (rn_and x1 1) (fun z21 => (if z21 = 0 then pc_X0_loadCorner_61 rec bd σ18 x0 x1 else cc_t σ18 1 x0 (cc_cl (rec 23 σ18 [x0, 1, 0, 0]) (fun σ23 z25 => pc_X0_loadCorner_61 rec bd σ23 x0 x1)))))))))))))))) else some (σ1, 0, 0))))
def pc_X0_ruleOf_0 (rec : Nat → CS → List Int → CO) (bd : cBd) (σ : CS) (x0 : Int) (x1 : Int) (x2 : Int) : CO :=
  (if x1 < 0 then some (σ, 0, (-1)) else (if 8 ≤ x1 then some (σ, 0, (-1)) else (if x2 < 0 then some (σ, 0, (-1)) else (if x2 < 8 then cc_g σ 1 2 x0 (fun z5 => cc_ck (x1 * 8) (fun z6 => cc_ck (z6 + x2) (fun z7 => cc_r σ 21 z5 z7 (fun z8 => some (σ, 0, z8))))) else some (σ, 0, (-1))))))
def pc_X0_setAxiom_0 (rec : Nat → CS → List Int → CO) (bd : cBd) (σ : CS) (x0 : Int) (x1 : Int) (x2 : Int) : CO :=
  cc_g σ 1 0 x0 (fun z1 => cc_t σ 6 z1 (cc_cl (rec 100 σ [z1, x1]) (fun σ2 z4 => (if z4 = 0 then some (σ2, 0, 0) else cc_g σ2 1 1 x0 (fun z6 => cc_w σ2 21 z6 x1 x2 (fun σ7 => cc_g σ7 1 3 x0 (fun z8 => cc_ck (z8 + 1) (fun z9 => cc_p σ7 1 3 x0 z9 (fun σ10 => some (σ10, 0, 0))))))))))
def pc_X0_setRule_0 (rec : Nat → CS → List Int → CO) (bd : cBd) (σ : CS) (x0 : Int) (x1 : Int) (x2 : Int) (x3 : Int) : CO :=
  cc_g σ 1 0 x0 (fun z1 => cc_t σ 6 z1 (cc_cl (rec 100 σ [z1, x1]) (fun σ2 z4 => (if z4 = 0 then some (σ2, 0, 0) else cc_g σ2 1 0 x0 (fun z6 => cc_t σ2 6 z6 (cc_cl (rec 100 σ2 [z6, x2]) (fun σ7 z9 => (if z9 = 0 then some (σ7, 0, 0) else cc_g σ7 1 2 x0 (fun z11 => cc_ck (x1 * 8) (fun z12 => cc_ck (z12 + x2) (fun z13 => cc_w σ7 21 z11 z13 x3 (fun σ14 => cc_g σ14 1 4 x0 (fun z15 => cc_ck (z15 + 1) (fun z16 => cc_p σ14 1 4 x0 z16 (fun σ17 => some (σ17, 0, 0))))))))))))))))
def pc_X0_valueOf_0 (rec : Nat → CS → List Int → CO) (bd : cBd) (σ : CS) (x0 : Int) (x1 : Int) : CO :=
  (if x1 < 0 then some (σ, 0, (-1)) else cc_g σ 1 5 x0 (fun z2 => cc_g σ 6 2 z2 (fun z3 => (if z3 ≤ x1 then some (σ, 0, (-1)) else cc_g σ 1 7 x0 (fun z5 => cc_r σ 22 z5 x1 (fun z6 => some (σ, 0, z6)))))))
def pc_X1_envOfSecond_0 (rec : Nat → CS → List Int → CO) (bd : cBd) (σ : CS) (x0 : Int) (x1 : Int) : CO :=
  cc_n σ bd 4 5 (fun σ1 z2 => cc_g σ1 2 0 x0 (fun z3 => cc_g σ1 7 1 z3 (fun z4 => cc_g σ1 2 2 x0 (fun z5 => cc_t σ1 4 z2 (cc_ci (rec 78 σ1 [z2, z4, x1, z5]) (fun σ6 => some (σ6, 0, z2)))))))
def pc_X1_init_0 (rec : Nat → CS → List Int → CO) (bd : cBd) (σ : CS) (x0 : Int) (x1 : Int) (x2 : Int) (x3 : Int) (x4 : Int) : CO :=
  cc_t σ 2 x0 (cc_p σ 2 0 x0 x1 (fun σ1 => cc_p σ1 2 1 x0 x2 (fun σ2 => cc_p σ2 2 2 x0 x3 (fun σ3 => cc_p σ3 2 3 x0 x4 (fun σ4 => some (σ4, 0, 0))))))
def pc_X1_isBinder_0 (rec : Nat → CS → List Int → CO) (bd : cBd) (σ : CS) (x0 : Int) : CO :=
  cc_g σ 2 0 x0 (fun z1 => cc_g σ 7 0 z1 (fun z2 => (if z2 = 4 then cc_bo 1 (some (σ, 0, 1)) else cc_g σ 2 0 x0 (fun z4 => cc_g σ 7 0 z4 (fun z5 => (if ¬ z5 = 5 then cc_bo 0 (some (σ, 0, 0)) else cc_bo 1 (some (σ, 0, 1))))))))
def pc_X10_clear_0 (rec : Nat → CS → List Int → CO) (bd : cBd) (σ : CS) (x0 : Int) : CO :=
  cc_p σ 11 0 x0 0 (fun σ1 => cc_p σ1 11 1 x0 (-1) (fun σ2 => some (σ2, 0, 0)))
def pc_X10_init_0 (rec : Nat → CS → List Int → CO) (bd : cBd) (σ : CS) (x0 : Int) : CO :=
  cc_t σ 11 x0 (cc_p σ 11 0 x0 0 (fun σ1 => cc_p σ1 11 1 x0 (-1) (fun σ2 => some (σ2, 0, 0))))
def pc_X10_set_0 (rec : Nat → CS → List Int → CO) (bd : cBd) (σ : CS) (x0 : Int) (x1 : Int) (x2 : Int) : CO :=
  cc_p σ 11 0 x0 x1 (fun σ1 => cc_p σ1 11 1 x0 x2 (fun σ2 => some (σ2, 0, 0)))
def pc_X11_addAxiom_0 (rec : Nat → CS → List Int → CO) (bd : cBd) (σ : CS) (x0 : Int) (x1 : Int) : CO :=
  cc_t σ 12 x0 (cc_cl (rec 55 σ [x0, x1]) (fun σ1 z3 => cc_g σ1 10 2 x1 (fun z4 => cc_t σ1 12 x0 (cc_cl (rec 51 σ1 [x0, z4]) (fun σ5 z7 => cc_g σ5 10 3 x1 (fun z8 => cc_t σ5 12 x0 (cc_cl (rec 51 σ5 [x0, z8]) (fun σ9 z11 => cc_g σ9 12 2 x0 (fun z12 => cc_t σ9 1 z12 (cc_cl (rec 17 σ9 [z12, z7]) (fun σ13 z15 => (if z15 = (-1) then cc_g σ13 12 2 x0 (fun z17 => cc_t σ13 1 z17 (cc_cl (rec 22 σ13 [z17, z7, z11]) (fun σ18 z20 => some (σ18, 0, 0)))) else cc_g σ13 12 1 x0 (fun z21 => cc_g σ13 10 2 x1 (fun z22 => cc_g σ13 7 2 z22 (fun z23 => cc_t σ13 11 z21 (cc_cl (rec 30 σ13 [z21, 4, z23]) (fun σ24 z26 => cc_x σ24 bd 1)))))))))))))))))
def pc_X11_addRule_0 (rec : Nat → CS → List Int → CO) (bd : cBd) (σ : CS) (x0 : Int) (x1 : Int) : CO :=
  cc_t σ 12 x0 (cc_cl (rec 55 σ [x0, x1]) (fun σ1 z3 => cc_g σ1 10 2 x1 (fun z4 => cc_t σ1 12 x0 (cc_cl (rec 51 σ1 [x0, z4]) (fun σ5 z7 => cc_g σ5 10 3 x1 (fun z8 => cc_t σ5 12 x0 (cc_cl (rec 51 σ5 [x0, z8]) (fun σ9 z11 => cc_g σ9 10 4 x1 (fun z12 => cc_t σ9 12 x0 (cc_cl (rec 51 σ9 [x0, z12]) (fun σ13 z15 => cc_g σ13 12 2 x0 (fun z16 => cc_t σ13 1 z16 (cc_cl (rec 21 σ13 [z16, z7, z11]) (fun σ17 z19 => (if z19 = (-1) then cc_g σ17 12 2 x0 (fun z21 => cc_t σ17 1 z21 (cc_cl (rec 23 σ17 [z21, z7, z11, z15]) (fun σ22 z24 => some (σ22, 0, 0)))) else cc_g σ17 12 1 x0 (fun z25 => cc_g σ17 10 2 x1 (fun z26 => cc_g σ17 7 2 z26 (fun z27 => cc_t σ17 11 z25 (cc_cl (rec 30 σ17 [z25, 4, z27]) (fun σ28 z30 => cc_x σ28 bd 1))))))))))))))))))))
def pc_X11_addSort_0 (rec : Nat → CS → List Int → CO) (bd : cBd) (σ : CS) (x0 : Int) (x1 : Int) : CO :=
  cc_t σ 12 x0 (cc_cl (rec 55 σ [x0, x1]) (fun σ1 z3 => cc_g σ1 10 2 x1 (fun z4 => cc_t σ1 12 x0 (cc_cl (rec 60 σ1 [x0, z4]) (fun σ5 z7 => (if z7 = (-1) then cc_g σ5 12 2 x0 (fun z9 => cc_g σ5 1 0 z9 (fun z10 => cc_t σ5 6 z10 (cc_cl (rec 102 σ5 [z10]) (fun σ11 z13 => (if z13 = 0 then cc_g σ11 12 2 x0 (fun z15 => cc_g σ11 1 0 z15 (fun z16 => cc_g σ11 12 0 x0 (fun z17 => cc_g σ11 10 2 x1 (fun z18 => cc_g σ11 7 4 z18 (fun z19 => cc_g σ11 10 2 x1 (fun z20 => cc_g σ11 7 5 z20 (fun z21 => cc_t σ11 6 z16 (cc_cl (rec 97 σ11 [z16, z17, z19, z21]) (fun σ22 z24 => some (σ22, 0, 0)))))))))) else cc_g σ11 12 1 x0 (fun z25 => cc_g σ11 10 2 x1 (fun z26 => cc_g σ11 7 2 z26 (fun z27 => cc_t σ11 11 z25 (cc_cl (rec 30 σ11 [z25, 5, z27]) (fun σ28 z30 => cc_x σ28 bd 1)))))))))) else cc_g σ5 12 1 x0 (fun z31 => cc_g σ5 10 2 x1 (fun z32 => cc_g σ5 7 2 z32 (fun z33 => cc_t σ5 11 z31 (cc_cl (rec 30 σ5 [z31, 4, z33]) (fun σ34 z36 => cc_x σ34 bd 1)))))))))))
def pc_X11_answerSame_0 (rec : Nat → CS → List Int → CO) (bd : cBd) (σ : CS) (x0 : Int) (x1 : Int) : CO :=
  cc_g σ 12 5 x0 (fun z1 => cc_g σ 10 3 x1 (fun z2 => cc_t σ 3 z1 (cc_cl (rec 73 σ [z1, z2]) (fun σ3 z5 => cc_g σ3 12 5 x0 (fun z6 => cc_g σ3 10 4 x1 (fun z7 => cc_t σ3 3 z6 (cc_cl (rec 73 σ3 [z6, z7]) (fun σ8 z10 => cc_g σ8 12 3 x0 (fun z11 => cc_g σ8 12 3 x0 (fun z12 => cc_g σ8 10 3 x1 (fun z13 => cc_g σ8 10 4 x1 (fun z14 => cc_t σ8 5 z12 (cc_cl (rec 80 σ8 [z12, z13, z14]) (fun σ15 z17 => cc_t σ15 5 z11 (cc_cl (rec 89 σ15 [z11, z17]) (fun σ18 z20 => some (σ18, 0, 0)))))))))))))))))
def pc_X11_assume_60 (rec : Nat → CS → List Int → CO) (bd : cBd) (σ : CS) (x0 : Int) (x1 : Int) (x2 : Int) (x3 : Int) : CO :=
  cc_g σ 12 2 x0 (fun z1 => cc_g σ 12 0 x0 (fun z2 => cc_g σ 10 2 x1 (fun z3 => cc_g σ 10 4 x1 (fun z4 => cc_t σ 1 z1 (cc_cl (rec 16 σ [z1, z2, z3, x3, x2, z4]) (fun σ5 z7 => some (σ5, 0, 0)))))))
def pc_X11_assume_0 (rec : Nat → CS → List Int → CO) (bd : cBd) (σ : CS) (x0 : Int) (x1 : Int) : CO :=
  cc_g σ 10 2 x1 (fun z1 => cc_t σ 12 x0 (cc_cl (rec 49 σ [x0, z1]) (fun σ2 z4 => cc_g σ2 12 5 x0 (fun z5 => cc_g σ2 10 3 x1 (fun z6 => cc_t σ2 3 z5 (cc_cl (rec 72 σ2 [z5, z6]) (fun σ7 z9 => cc_g σ7 12 3 x0 (fun z10 => cc_g σ7 10 3 x1 (fun z11 => cc_t σ7 5 z10 (cc_cl (rec 86 σ7 [z10, z11, (-1)]) (fun σ12 z14 => cc_g σ12 10 4 x1 (fun z15 => (if z15 < 0 then pc_X11_assume_60 rec bd σ12 x0 x1 z9 z14 else cc_g σ12 12 5 x0 (fun z17 => cc_g σ12 10 4 x1 (fun z18 => cc_t σ12 3 z17 (cc_cl (rec 73 σ12 [z17, z18]) (fun σ19 z21 => cc_g σ19 10 4 x1 (fun z22 => cc_t σ19 12 x0 (cc_cl (rec 50 σ19 [x0, z14, z21, z22]) (fun σ23 z25 => pc_X11_assume_60 rec bd σ23 x0 x1 z9 z14))))))))))))))))))))
def pc_X11_back_28 (rec : Nat → CS → List Int → CO) (bd : cBd) (σ : CS) : CO :=
  cc_x σ bd 1
def pc_X11_back_0 (rec : Nat → CS → List Int → CO) (bd : cBd) (σ : CS) (x0 : Int) : CO :=
  cc_g σ 12 2 x0 (fun z1 => cc_g σ 1 10 z1 (fun z2 => (if z2 ≤ 0 then pc_X11_back_28 rec bd σ else cc_g σ 12 2 x0 (fun z4 => cc_g σ 1 10 z4 (fun z5 => cc_g σ 12 2 x0 (fun z6 => cc_g σ 1 9 z6 (fun z7 => cc_l σ 21 z7 (fun z8 => (if z5 ≤ z8 then cc_g σ 12 2 x0 (fun z10 => cc_g σ 1 10 z10 (fun z11 => cc_ck (z11 - 1) (fun z12 => cc_p σ 1 10 z10 z12 (fun σ13 => cc_g σ13 12 2 x0 (fun z14 => cc_g σ13 1 5 z14 (fun z15 => cc_g σ13 12 2 x0 (fun z16 => cc_g σ13 1 9 z16 (fun z17 => cc_g σ13 12 2 x0 (fun z18 => cc_g σ13 1 10 z18 (fun z19 => cc_r σ13 21 z17 z19 (fun z20 => cc_p σ13 6 2 z15 z20 (fun σ21 => cc_g σ21 12 2 x0 (fun z22 => cc_g σ21 1 5 z22 (fun z23 => cc_g σ21 6 2 z23 (fun z24 => some (σ21, 0, z24)))))))))))))))) else pc_X11_back_28 rec bd σ)))))))))
def pc_X11_check_0 (rec : Nat → CS → List Int → CO) (bd : cBd) (σ : CS) (x0 : Int) (x1 : Int) : CO :=
  cc_g σ 10 4 x1 (fun z1 => (if 0 ≤ z1 then cc_g σ 12 5 x0 (fun z3 => cc_g σ 10 4 x1 (fun z4 => cc_t σ 3 z3 (cc_cl (rec 72 σ [z3, z4]) (fun σ5 z7 => cc_g σ5 12 3 x0 (fun z8 => cc_g σ5 10 4 x1 (fun z9 => cc_t σ5 5 z8 (cc_cl (rec 86 σ5 [z8, z9, (-1)]) (fun σ10 z12 => cc_g σ10 12 5 x0 (fun z13 => cc_g σ10 10 3 x1 (fun z14 => cc_t σ10 3 z13 (cc_cl (rec 73 σ10 [z13, z14]) (fun σ15 z17 => cc_g σ15 10 3 x1 (fun z18 => cc_t σ15 12 x0 (cc_cl (rec 50 σ15 [x0, z12, z17, z18]) (fun σ19 z21 => cc_g σ19 12 3 x0 (fun z22 => cc_t σ19 5 z22 (cc_cl (rec 89 σ19 [z22, 1]) (fun σ23 z25 => some (σ23, 0, 0))))))))))))))))))) else cc_g σ 12 3 x0 (fun z26 => cc_g σ 12 5 x0 (fun z27 => cc_g σ 10 3 x1 (fun z28 => cc_t σ 3 z27 (cc_cl (rec 73 σ [z27, z28]) (fun σ29 z31 => cc_t σ29 5 z26 (cc_cl (rec 96 σ29 [z26, z31]) (fun σ32 z34 => cc_g σ32 12 3 x0 (fun z35 => cc_t σ32 5 z35 (cc_cl (rec 88 σ32 [z35, 10]) (fun σ36 z38 => some (σ36, 0, 0)))))))))))))
def pc_X11_compareNames_0 (rec : Nat → CS → List Int → CO) (bd : cBd) (σ : CS) (x0 : Int) (x1 : Int) (x2 : Int) : CO :=
  cc_g σ 12 3 x0 (fun z1 => cc_t σ 5 z1 (cc_cn (rec 81 σ [z1, 0]) (fun σ2 z4 => cc_n σ2 bd 7 11 (fun σ5 z6 => cc_t σ5 7 z6 (cc_ci (rec 105 σ5 [z6, 2, x1]) (fun σ7 => cc_n σ7 bd 7 11 (fun σ10 z11 => cc_t σ10 7 z11 (cc_ci (rec 105 σ10 [z11, 2, x2]) (fun σ12 => cc_g σ12 12 3 x0 (fun z15 => cc_t σ12 5 z15 (cc_ct (rec 80 σ12 [z15, z6, z11]) (fun σ16 z18 => (if z18 = 0 then some (σ16, 0, 0) else some (σ16, 0, 1))) (fun σ16 => cc_g σ16 12 1 x0 (fun z20 => cc_g σ16 11 0 z20 (fun z21 => cc_ck (-z21) (fun z22 => some (σ16, 0, z22))))))))))))))))
def pc_X11_corner_10 (rec : Nat → CS → List Int → CO) (bd : cBd) (σ : CS) : CO :=
  cc_x σ bd 2
def pc_X11_corner_0 (rec : Nat → CS → List Int → CO) (bd : cBd) (σ : CS) (x0 : Int) (x1 : Int) : CO :=
  (if x1 < 0 then pc_X11_corner_10 rec bd σ else (if x1 ≤ 8 then cc_g σ 12 2 x0 (fun z3 => cc_g σ 1 5 z3 (fun z4 => cc_g σ 6 2 z4 (fun z5 => cc_g σ 12 2 x0 (fun z6 => cc_t σ 1 z6 (cc_cl (rec 20 σ [z6, x1]) (fun σ7 z9 => some (σ7, 0, z5))))))) else pc_X11_corner_10 rec bd σ))
def pc_X11_count_26 (rec : Nat → CS → List Int → CO) (bd : cBd) (σ : CS) (x0 : Int) (x1 : Int) : CO :=
  (if x1 = 7 then cc_g σ 12 3 x0 (fun z2 => cc_g σ 5 3 z2 (fun z3 => some (σ, 0, z3))) else (if x1 = 8 then cc_g σ 12 2 x0 (fun z5 => cc_g σ 1 5 z5 (fun z6 => cc_g σ 6 2 z6 (fun z7 => some (σ, 0, z7)))) else (if x1 = 9 then cc_g σ 12 2 x0 (fun z9 => cc_g σ 1 0 z9 (fun z10 => cc_g σ 6 2 z10 (fun z11 => some (σ, 0, z11)))) else (if x1 = 10 then cc_g σ 12 2 x0 (fun z13 => cc_g σ 1 3 z13 (fun z14 => some (σ, 0, z14))) else (if x1 = 11 then cc_g σ 12 2 x0 (fun z16 => cc_g σ 1 4 z16 (fun z17 => some (σ, 0, z17))) else (if x1 = 12 then cc_g σ 12 2 x0 (fun z19 => cc_g σ 1 10 z19 (fun z20 => some (σ, 0, z20))) else (if x1 = 13 then cc_g σ 12 6 x0 (fun z22 => some (σ, 0, z22)) else cc_x σ bd 3)))))))
def pc_X11_count_0 (rec : Nat → CS → List Int → CO) (bd : cBd) (σ : CS) (x0 : Int) (x1 : Int) : CO :=
  (if x1 < 0 then pc_X11_count_26 rec bd σ x0 x1 else cc_g σ 12 3 x0 (fun z2 => cc_g σ 5 2 z2 (fun z3 => cc_l σ 21 z3 (fun z4 => (if z4 ≤ x1 then pc_X11_count_26 rec bd σ x0 x1 else cc_g σ 12 3 x0 (fun z6 => cc_g σ 5 2 z6 (fun z7 => cc_r σ 21 z7 x1 (fun z8 => some (σ, 0, z8)))))))))
def pc_X11_define_0 (rec : Nat → CS → List Int → CO) (bd : cBd) (σ : CS) (x0 : Int) (x1 : Int) : CO :=
  cc_g σ 10 2 x1 (fun z1 => cc_t σ 12 x0 (cc_cl (rec 49 σ [x0, z1]) (fun σ2 z4 => cc_g σ2 12 5 x0 (fun z5 => cc_g σ2 10 3 x1 (fun z6 => cc_t σ2 3 z5 (cc_cl (rec 73 σ2 [z5, z6]) (fun σ7 z9 => cc_g σ7 12 2 x0 (fun z10 => cc_g σ7 12 0 x0 (fun z11 => cc_g σ7 10 2 x1 (fun z12 => cc_g σ7 12 5 x0 (fun z13 => cc_g σ7 3 4 z13 (fun z14 => cc_g σ7 10 3 x1 (fun z15 => cc_t σ7 1 z10 (cc_cl (rec 16 σ7 [z10, z11, z12, z9, z14, z15]) (fun σ16 z18 => some (σ16, 0, 0))))))))))))))))
def pc_X11_fault_0 (rec : Nat → CS → List Int → CO) (bd : cBd) (σ : CS) (x0 : Int) (x1 : Int) : CO :=
  (if x1 = 0 then cc_g σ 12 7 x0 (fun z2 => some (σ, 0, z2)) else (if x1 = 1 then cc_g σ 12 8 x0 (fun z4 => some (σ, 0, z4)) else (if x1 = 2 then cc_g σ 12 9 x0 (fun z6 => some (σ, 0, z6)) else cc_x σ bd 3)))
def pc_X11_feed_0 (rec : Nat → CS → List Int → CO) (bd : cBd) (σ : CS) (x0 : Int) (x1 : Int) (x2 : Int) (x3 : Int) (x4 : Int) (x5 : Int) : CO :=
  cc_g σ 12 6 x0 (fun z1 => cc_ck (z1 + 20) (fun z2 => (if z2 ≤ 4000 then cc_t σ 12 x0 (cc_cl (rec 44 σ [x0, x1]) (fun σ4 z6 => cc_t σ4 12 x0 (cc_cl (rec 44 σ4 [x0, x2]) (fun σ7 z9 => cc_t σ7 12 x0 (cc_cl (rec 44 σ7 [x0, x3]) (fun σ10 z12 => cc_t σ10 12 x0 (cc_cl (rec 44 σ10 [x0, x4]) (fun σ13 z15 => cc_t σ13 12 x0 (cc_cl (rec 44 σ13 [x0, x5]) (fun σ16 z18 => cc_g σ16 12 6 x0 (fun z19 => some (σ16, 0, z19)))))))))))) else some (σ, 0, (-1)))))
def pc_X11_feedFour_3 (rec : Nat → CS → List Int → CO) (bd : cBd) : Nat → CS → Int → Int → Int → CO
  | 0, _, _, _, _ => none
  | n + 1, σ, x0, x1, x2 =>
    (if x2 < 0 then some (σ, 0, 0) else cc_g σ 12 6 x0 (fun z2 => (if 4000 ≤ z2 then some (σ, 0, 0) else cc_g σ 12 0 x0 (fun z4 => cc_g σ 12 6 x0 (fun z5 => cc_nm (rn_shr x1 x2) (fun z6 => cc_nm (rn_b z6) (fun z7 => cc_w σ 20 z4 z5 (rn_b z7) (fun σ8 => cc_g σ8 12 6 x0 (fun z9 => cc_ck (z9 + 1) (fun z10 => cc_p σ8 12 6 x0 z10 (fun σ11 => cc_ck (x2 + (-8)) (fun z12 => pc_X11_feedFour_3 rec bd n σ11 x0 x1 z12))))))))))))
def pc_X11_feedFour_0 (rec : Nat → CS → List Int → CO) (bd : cBd) (σ : CS) (x0 : Int) (x1 : Int) : CO :=
  pc_X11_feedFour_3 rec bd 2000000 σ x0 x1 24
def pc_X11_init_0 (rec : Nat → CS → List Int → CO) (bd : cBd) (σ : CS) (x0 : Int) : CO :=
  cc_t σ 12 x0 (cc_na σ bd 20 4000 (fun σ1 z2 => cc_p σ1 12 0 x0 z2 (fun σ3 => cc_n σ3 bd 11 2 (fun σ4 z5 => cc_t σ4 11 z5 (cc_ci (rec 29 σ4 [z5]) (fun σ6 => cc_p σ6 12 1 x0 z5 (fun σ9 => cc_n σ9 bd 1 11 (fun σ10 z11 => cc_t σ10 1 z11 (cc_ci (rec 19 σ10 [z11]) (fun σ12 => cc_p σ12 12 2 x0 z11 (fun σ15 => cc_n σ15 bd 5 8 (fun σ16 z17 => cc_g σ16 12 2 x0 (fun z18 => cc_g σ16 12 1 x0 (fun z19 => cc_t σ16 5 z17 (cc_ci (rec 84 σ16 [z17, z18, z19]) (fun σ20 => cc_p σ20 12 3 x0 z17 (fun σ23 => cc_n σ23 bd 8 11 (fun σ24 z25 => cc_g σ24 12 0 x0 (fun z26 => cc_g σ24 12 1 x0 (fun z27 => cc_t σ24 8 z25 (cc_ci (rec 117 σ24 [z25, z26, z27]) (fun σ28 => cc_p σ28 12 4 x0 z25 (fun σ31 => cc_n σ31 bd 3 5 (fun σ32 z33 => cc_g σ32 12 0 x0 (fun z34 => cc_g σ32 12 2 x0 (fun z35 => cc_g σ32 12 3 x0 (fun z36 => cc_g σ32 12 1 x0 (fun z37 => cc_t σ32 3 z33 (cc_ci (rec 64 σ32 [z33, z34, z35, z36, z37]) (fun σ38 => cc_p σ38 12 5 x0 z33 (fun σ41 => cc_p σ41 12 6 x0 0 (fun σ42 => cc_p σ42 12 7 x0 0 (fun σ43 => cc_p σ43 12 8 x0 (-1) (fun σ44 => cc_p σ44 12 9 x0 0 (fun σ45 => cc_g σ45 12 2 x0 (fun z46 => cc_t σ45 1 z46 (cc_cl (rec 20 σ45 [z46, 7]) (fun σ47 z49 => some (σ47, 0, 0)))))))))))))))))))))))))))))))))))))))
def pc_X11_limit_12 (rec : Nat → CS → List Int → CO) (bd : cBd) (σ : CS) : CO :=
  cc_x σ bd 2
def pc_X11_limit_0 (rec : Nat → CS → List Int → CO) (bd : cBd) (σ : CS) (x0 : Int) (x1 : Int) : CO :=
  (if x1 < 1 then pc_X11_limit_12 rec bd σ else (if x1 ≤ 20000 then cc_g σ 12 3 x0 (fun z3 => cc_g σ 5 4 z3 (fun z4 => cc_g σ 12 3 x0 (fun z5 => cc_p σ 5 4 z5 x1 (fun σ6 => some (σ6, 0, z4))))) else pc_X11_limit_12 rec bd σ))
def pc_X11_mark_0 (rec : Nat → CS → List Int → CO) (bd : cBd) (σ : CS) (x0 : Int) : CO :=
  cc_g σ 12 2 x0 (fun z1 => cc_g σ 1 10 z1 (fun z2 => cc_g σ 12 2 x0 (fun z3 => cc_g σ 1 9 z3 (fun z4 => cc_l σ 21 z4 (fun z5 => (if z2 < z5 then cc_g σ 12 2 x0 (fun z7 => cc_g σ 1 9 z7 (fun z8 => cc_g σ 12 2 x0 (fun z9 => cc_g σ 1 10 z9 (fun z10 => cc_g σ 12 2 x0 (fun z11 => cc_g σ 1 5 z11 (fun z12 => cc_g σ 6 2 z12 (fun z13 => cc_w σ 21 z8 z10 z13 (fun σ14 => cc_g σ14 12 2 x0 (fun z15 => cc_g σ14 1 10 z15 (fun z16 => cc_ck (z16 + 1) (fun z17 => cc_p σ14 1 10 z15 z17 (fun σ18 => cc_g σ18 12 2 x0 (fun z19 => cc_g σ18 1 10 z19 (fun z20 => some (σ18, 0, z20))))))))))))))) else cc_x σ bd 1))))))
def pc_X11_name_18 (rec : Nat → CS → List Int → CO) (bd : cBd) (σ : CS) : CO :=
  cc_x σ bd 3
def pc_X11_name_0 (rec : Nat → CS → List Int → CO) (bd : cBd) (σ : CS) (x0 : Int) (x1 : Int) (x2 : Int) : CO :=
  cc_g σ 12 2 x0 (fun z1 => cc_g σ 1 5 z1 (fun z2 => cc_t σ 6 z2 (cc_cl (rec 100 σ [z2, x1]) (fun σ3 z5 => (if z5 = 0 then pc_X11_name_18 rec bd σ3 else (if 0 ≤ x2 then (if x2 = 0 then cc_g σ3 12 2 x0 (fun z9 => cc_g σ3 1 7 z9 (fun z10 => cc_r σ3 22 z10 x1 (fun z11 => (if z11 < 0 then some (σ3, 0, 0) else some (σ3, 0, 1))))) else (if x2 = 1 then cc_g σ3 12 2 x0 (fun z14 => cc_g σ3 1 8 z14 (fun z15 => cc_r σ3 21 z15 x1 (fun z16 => some (σ3, 0, z16)))) else (if x2 = 2 then cc_g σ3 12 2 x0 (fun z18 => cc_g σ3 1 5 z18 (fun z19 => cc_g σ3 6 1 z19 (fun z20 => cc_r σ3 21 z20 x1 (fun z21 => some (σ3, 0, z21))))) else cc_g σ3 12 2 x0 (fun z22 => cc_g σ3 1 5 z22 (fun z23 => cc_ck (x2 - 3) (fun z24 => cc_t σ3 6 z23 (cc_cl (rec 103 σ3 [z23, x1, z24]) (fun σ25 z27 => some (σ25, 0, z27))))))))) else pc_X11_name_18 rec bd σ3))))))
def pc_X11_needNewName_37 (rec : Nat → CS → List Int → CO) (bd : cBd) (σ : CS) (x0 : Int) (x1 : Int) : CO :=
  cc_g σ 12 1 x0 (fun z1 => cc_g σ 7 2 x1 (fun z2 => cc_t σ 11 z1 (cc_cl (rec 30 σ [z1, 4, z2]) (fun σ3 z5 => cc_x σ3 bd 1))))
def pc_X11_needNewName_0 (rec : Nat → CS → List Int → CO) (bd : cBd) (σ : CS) (x0 : Int) (x1 : Int) : CO :=
  cc_g σ 12 2 x0 (fun z1 => cc_g σ 1 5 z1 (fun z2 => cc_g σ 12 0 x0 (fun z3 => cc_g σ 7 4 x1 (fun z4 => cc_g σ 7 5 x1 (fun z5 => cc_t σ 6 z2 (cc_cl (rec 99 σ [z2, z3, z4, z5]) (fun σ6 z8 => (if ¬ z8 = (-1) then pc_X11_needNewName_37 rec bd σ6 x0 x1 else cc_t σ6 12 x0 (cc_cl (rec 60 σ6 [x0, x1]) (fun σ10 z12 => (if z12 = (-1) then cc_g σ10 12 2 x0 (fun z14 => cc_g σ10 1 5 z14 (fun z15 => cc_t σ10 6 z15 (cc_cl (rec 102 σ10 [z15]) (fun σ16 z18 => (if z18 = 0 then some (σ16, 0, 0) else cc_g σ16 12 1 x0 (fun z20 => cc_g σ16 7 2 x1 (fun z21 => cc_t σ16 11 z20 (cc_cl (rec 30 σ16 [z20, 5, z21]) (fun σ22 z24 => cc_x σ22 bd 1))))))))) else pc_X11_needNewName_37 rec bd σ10 x0 x1)))))))))))
def pc_X11_needSame_0 (rec : Nat → CS → List Int → CO) (bd : cBd) (σ : CS) (x0 : Int) (x1 : Int) (x2 : Int) (x3 : Int) : CO :=
  cc_g σ 12 3 x0 (fun z1 => cc_t σ 5 z1 (cc_cl (rec 80 σ [z1, x1, x2]) (fun σ2 z4 => (if ¬ z4 = 0 then some (σ2, 0, 0) else cc_g σ2 12 1 x0 (fun z6 => cc_g σ2 7 3 x3 (fun z7 => cc_t σ2 11 z6 (cc_cl (rec 30 σ2 [z6, 11, z7]) (fun σ8 z10 => cc_x σ8 bd 1))))))))
def pc_X11_neededSort_0 (rec : Nat → CS → List Int → CO) (bd : cBd) (σ : CS) (x0 : Int) (x1 : Int) : CO :=
  cc_t σ 12 x0 (cc_cl (rec 60 σ [x0, x1]) (fun σ1 z3 => (if ¬ z3 = (-1) then some (σ1, 0, z3) else cc_g σ1 12 1 x0 (fun z5 => cc_g σ1 7 2 x1 (fun z6 => cc_t σ1 11 z5 (cc_cl (rec 30 σ1 [z5, 3, z6]) (fun σ7 z9 => cc_x σ7 bd 1)))))))
def pc_X11_out_27 (rec : Nat → CS → List Int → CO) (bd : cBd) (σ : CS) : CO :=
  cc_x σ bd 3
def pc_X11_out_0 (rec : Nat → CS → List Int → CO) (bd : cBd) (σ : CS) (x0 : Int) (x1 : Int) : CO :=
  (if x1 < 0 then pc_X11_out_27 rec bd σ else cc_g σ 12 3 x0 (fun z2 => cc_g σ 5 7 z2 (fun z3 => (if z3 ≤ x1 then pc_X11_out_27 rec bd σ else cc_g σ 12 3 x0 (fun z5 => cc_g σ 5 6 z5 (fun z6 => cc_l σ 20 z6 (fun z7 => (if x1 < z7 then cc_g σ 12 3 x0 (fun z9 => cc_g σ 5 6 z9 (fun z10 => cc_r σ 20 z10 x1 (fun z11 => some (σ, 0, z11)))) else pc_X11_out_27 rec bd σ))))))))
def pc_X11_outs_0 (rec : Nat → CS → List Int → CO) (bd : cBd) (σ : CS) (x0 : Int) : CO :=
  cc_g σ 12 3 x0 (fun z1 => cc_g σ 5 7 z1 (fun z2 => some (σ, 0, z2)))
def pc_X11_perform_182 (rec : Nat → CS → List Int → CO) (bd : cBd) (σ : CS) (x0 : Int) (x1 : Int) : CO :=
  cc_t σ 12 x0 (cc_cl (rec 34 σ [x0, x1]) (fun σ1 z3 => some (σ1, 0, 0)))
def pc_X11_perform_0 (rec : Nat → CS → List Int → CO) (bd : cBd) (σ : CS) (x0 : Int) (x1 : Int) : CO :=
  cc_g σ 12 3 x0 (fun z1 => cc_g σ 10 1 x1 (fun z2 => cc_t σ 5 z1 (cc_cl (rec 81 σ [z1, z2]) (fun σ3 z5 => cc_g σ3 10 0 x1 (fun z6 => (if z6 = 0 then cc_t σ3 12 x0 (cc_cl (rec 33 σ3 [x0, x1]) (fun σ8 z10 => some (σ8, 0, 0))) else (if z6 = 1 then cc_t σ3 12 x0 (cc_cl (rec 31 σ3 [x0, x1]) (fun σ12 z14 => some (σ12, 0, 0))) else (if z6 = 2 then cc_t σ3 12 x0 (cc_cl (rec 32 σ3 [x0, x1]) (fun σ16 z18 => some (σ16, 0, 0))) else (if z6 = 3 then cc_t σ3 12 x0 (cc_cl (rec 37 σ3 [x0, x1]) (fun σ20 z22 => some (σ20, 0, 0))) else (if z6 = 4 then cc_g σ3 12 5 x0 (fun z24 => cc_g σ3 10 3 x1 (fun z25 => cc_t σ3 3 z24 (cc_cl (rec 73 σ3 [z24, z25]) (fun σ26 z28 => cc_g σ26 12 3 x0 (fun z29 => cc_g σ26 10 3 x1 (fun z30 => cc_t σ26 5 z29 (cc_cl (rec 96 σ26 [z29, z30]) (fun σ31 z33 => cc_g σ31 12 3 x0 (fun z34 => cc_t σ31 5 z34 (cc_cl (rec 88 σ31 [z34, 10]) (fun σ35 z37 => some (σ35, 0, 0)))))))))))) else (if z6 = 5 then pc_X11_perform_182 rec bd σ3 x0 x1 else (if z6 = 6 then cc_g σ3 12 5 x0 (fun z40 => cc_g σ3 10 3 x1 (fun z41 => cc_t σ3 3 z40 (cc_cl (rec 73 σ3 [z40, z41]) (fun σ42 z44 => cc_g σ42 12 3 x0 (fun z45 => cc_g σ42 10 3 x1 (fun z46 => cc_t σ42 5 z45 (cc_cl (rec 95 σ42 [z45, z46]) (fun σ47 z49 => cc_g σ47 12 3 x0 (fun z50 => cc_t σ47 5 z50 (cc_cl (rec 88 σ47 [z50, 10]) (fun σ51 z53 => some (σ51, 0, 0)))))))))))) else (if z6 = 7 then cc_t σ3 12 x0 (cc_cl (rec 35 σ3 [x0, x1]) (fun σ55 z57 => some (σ55, 0, 0))) else (if z6 = 8 then cc_t σ3 12 x0 (cc_cl (rec 41 σ3 [x0, x1]) (fun σ59 z61 => some (σ59, 0, 0))) else pc_X11_perform_182 rec bd σ3 x0 x1))))))))))))))
def pc_X11_refuseBesideNames_0 (rec : Nat → CS → List Int → CO) (bd : cBd) (σ : CS) (x0 : Int) (x1 : Int) : CO :=
  cc_g σ 12 2 x0 (fun z1 => cc_g σ 1 5 z1 (fun z2 => cc_g σ 6 2 z2 (fun z3 => (if z3 ≤ 0 then some (σ, 0, 0) else cc_g σ 12 1 x0 (fun z5 => cc_g σ 10 1 x1 (fun z6 => cc_t σ 11 z5 (cc_cl (rec 30 σ [z5, 6, z6]) (fun σ7 z9 => cc_x σ7 bd 1))))))))
def pc_X11_rule_28 (rec : Nat → CS → List Int → CO) (bd : cBd) (σ : CS) : CO :=
  cc_x σ bd 3
def pc_X11_rule_0 (rec : Nat → CS → List Int → CO) (bd : cBd) (σ : CS) (x0 : Int) (x1 : Int) (x2 : Int) : CO :=
  cc_g σ 12 2 x0 (fun z1 => cc_g σ 1 0 z1 (fun z2 => cc_t σ 6 z2 (cc_cl (rec 100 σ [z2, x1]) (fun σ3 z5 => (if z5 = 0 then pc_X11_rule_28 rec bd σ3 else cc_g σ3 12 2 x0 (fun z7 => cc_g σ3 1 0 z7 (fun z8 => cc_t σ3 6 z8 (cc_cl (rec 100 σ3 [z8, x2]) (fun σ9 z11 => (if ¬ z11 = 0 then cc_g σ9 12 2 x0 (fun z13 => cc_t σ9 1 z13 (cc_cl (rec 21 σ9 [z13, x1, x2]) (fun σ14 z16 => some (σ14, 0, z16)))) else pc_X11_rule_28 rec bd σ9))))))))))
def pc_X11_runText_75 (rec : Nat → CS → List Int → CO) (bd : cBd) (σ : CS) (x0 : Int) : CO :=
  cc_g σ 12 1 x0 (fun z1 => cc_g σ 11 0 z1 (fun z2 => cc_p σ 12 7 x0 z2 (fun σ3 => cc_g σ3 12 1 x0 (fun z4 => cc_g σ3 11 1 z4 (fun z5 => cc_p σ3 12 8 x0 z5 (fun σ6 => cc_g σ6 12 7 x0 (fun z7 => some (σ6, 0, z7))))))))
def pc_X11_runText_31 (rec : Nat → CS → List Int → CO) (bd : cBd) : Nat → CS → Int → Int → Int → CO
  | 0, _, _, _, _ => none
  | n + 1, σ, x0, x2, x3 =>
    cc_t σ 13 x2 (cc_cn (rec 13 σ [x2]) (fun σ1 z3 => (if z3 ≤ x3 then pc_X11_runText_75 rec bd σ1 x0 else cc_t σ1 13 x2 (cc_cn (rec 9 σ1 [x2, x3]) (fun σ5 z7 => cc_t σ5 10 z7 (cc_t σ5 12 x0 (cc_ct (rec 54 σ5 [x0, z7]) (fun σ9 z11 => cc_g σ9 12 9 x0 (fun z12 => cc_ck (z12 + 1) (fun z13 => cc_p σ9 12 9 x0 z13 (fun σ14 => cc_ck (x3 + 1) (fun z15 => pc_X11_runText_31 rec bd n σ14 x0 x2 z15))))) (fun σ9 => pc_X11_runText_75 rec bd σ9 x0))))))))
def pc_X11_runText_0 (rec : Nat → CS → List Int → CO) (bd : cBd) (σ : CS) (x0 : Int) (x1 : Int) : CO :=
  cc_g σ 12 3 x0 (fun z1 => cc_p σ 5 7 z1 0 (fun σ2 => cc_g σ2 12 1 x0 (fun z3 => cc_t σ2 11 z3 (cc_cn (rec 28 σ2 [z3]) (fun σ4 z6 => cc_p σ4 12 9 x0 0 (fun σ7 => cc_g σ7 12 4 x0 (fun z8 => cc_t σ7 8 z8 (cc_ct (rec 124 σ7 [z8, x1]) (fun σ9 z11 => pc_X11_runText_31 rec bd 2000000 σ9 x0 z11 0) (fun σ9 => pc_X11_runText_75 rec bd σ9 x0)))))))))
def pc_X11_same_28 (rec : Nat → CS → List Int → CO) (bd : cBd) (σ : CS) : CO :=
  cc_x σ bd 3
def pc_X11_same_0 (rec : Nat → CS → List Int → CO) (bd : cBd) (σ : CS) (x0 : Int) (x1 : Int) (x2 : Int) : CO :=
  cc_g σ 12 2 x0 (fun z1 => cc_g σ 1 5 z1 (fun z2 => cc_t σ 6 z2 (cc_cl (rec 100 σ [z2, x1]) (fun σ3 z5 => (if z5 = 0 then pc_X11_same_28 rec bd σ3 else cc_g σ3 12 2 x0 (fun z7 => cc_g σ3 1 5 z7 (fun z8 => cc_t σ3 6 z8 (cc_cl (rec 100 σ3 [z8, x2]) (fun σ9 z11 => (if ¬ z11 = 0 then cc_t σ9 12 x0 (cc_cl (rec 38 σ9 [x0, x1, x2]) (fun σ13 z15 => some (σ13, 0, z15))) else pc_X11_same_28 rec bd σ9))))))))))
def pc_X11_sort_18 (rec : Nat → CS → List Int → CO) (bd : cBd) (σ : CS) : CO :=
  cc_x σ bd 3
def pc_X11_sort_0 (rec : Nat → CS → List Int → CO) (bd : cBd) (σ : CS) (x0 : Int) (x1 : Int) (x2 : Int) : CO :=
  cc_g σ 12 2 x0 (fun z1 => cc_g σ 1 0 z1 (fun z2 => cc_t σ 6 z2 (cc_cl (rec 100 σ [z2, x1]) (fun σ3 z5 => (if z5 = 0 then pc_X11_sort_18 rec bd σ3 else (if 0 ≤ x2 then (if x2 = 0 then cc_g σ3 12 2 x0 (fun z9 => cc_t σ3 1 z9 (cc_cl (rec 17 σ3 [z9, x1]) (fun σ10 z12 => some (σ10, 0, z12)))) else (if x2 = 1 then cc_g σ3 12 2 x0 (fun z14 => cc_g σ3 1 0 z14 (fun z15 => cc_g σ3 6 1 z15 (fun z16 => cc_r σ3 21 z16 x1 (fun z17 => some (σ3, 0, z17))))) else cc_g σ3 12 2 x0 (fun z18 => cc_g σ3 1 0 z18 (fun z19 => cc_ck (x2 - 2) (fun z20 => cc_t σ3 6 z19 (cc_cl (rec 103 σ3 [z19, x1, z20]) (fun σ21 z23 => some (σ21, 0, z23)))))))) else pc_X11_sort_18 rec bd σ3))))))
def pc_X11_sortNumber_0 (rec : Nat → CS → List Int → CO) (bd : cBd) (σ : CS) (x0 : Int) (x1 : Int) : CO :=
  cc_g σ 12 2 x0 (fun z1 => cc_g σ 1 0 z1 (fun z2 => cc_g σ 12 0 x0 (fun z3 => cc_g σ 7 4 x1 (fun z4 => cc_g σ 7 5 x1 (fun z5 => cc_t σ 6 z2 (cc_cl (rec 99 σ [z2, z3, z4, z5]) (fun σ6 z8 => some (σ6, 0, z8))))))))
def pc_X11_tellTypeOf_0 (rec : Nat → CS → List Int → CO) (bd : cBd) (σ : CS) (x0 : Int) (x1 : Int) : CO :=
  cc_g σ 12 3 x0 (fun z1 => cc_t σ 5 z1 (cc_cn (rec 81 σ [z1, 0]) (fun σ2 z4 => cc_g σ2 12 3 x0 (fun z5 => cc_p σ2 5 7 z5 0 (fun σ6 => cc_g σ6 12 3 x0 (fun z7 => cc_t σ6 5 z7 (cc_ct (rec 96 σ6 [z7, x1]) (fun σ8 z10 => cc_g σ8 12 3 x0 (fun z11 => cc_g σ8 5 7 z11 (fun z12 => some (σ8, 0, z12)))) (fun σ8 => cc_g σ8 12 1 x0 (fun z13 => cc_g σ8 11 0 z13 (fun z14 => cc_ck (-z14) (fun z15 => some (σ8, 0, z15))))))))))))
def pc_X11_text_12 (rec : Nat → CS → List Int → CO) (bd : cBd) (σ : CS) : CO :=
  cc_x σ bd 2
def pc_X11_text_0 (rec : Nat → CS → List Int → CO) (bd : cBd) (σ : CS) (x0 : Int) (x1 : Int) : CO :=
  (if x1 < 0 then pc_X11_text_12 rec bd σ else cc_g σ 12 6 x0 (fun z2 => (if x1 ≤ z2 then cc_p σ 12 6 x0 0 (fun σ4 => cc_t σ4 12 x0 (cc_cl (rec 57 σ4 [x0, x1]) (fun σ5 z7 => some (σ5, 0, z7)))) else pc_X11_text_12 rec bd σ)))
def pc_X11_type_0 (rec : Nat → CS → List Int → CO) (bd : cBd) (σ : CS) (x0 : Int) (x1 : Int) : CO :=
  cc_g σ 12 2 x0 (fun z1 => cc_g σ 1 5 z1 (fun z2 => cc_t σ 6 z2 (cc_cl (rec 100 σ [z2, x1]) (fun σ3 z5 => (if ¬ z5 = 0 then cc_g σ3 12 2 x0 (fun z7 => cc_g σ3 1 6 z7 (fun z8 => cc_r σ3 22 z8 x1 (fun z9 => cc_t σ3 12 x0 (cc_cl (rec 61 σ3 [x0, z9]) (fun σ10 z12 => some (σ10, 0, z12)))))) else cc_x σ3 bd 3)))))
def pc_X2_init_0 (rec : Nat → CS → List Int → CO) (bd : cBd) (σ : CS) (x0 : Int) (x1 : Int) (x2 : Int) (x3 : Int) (x4 : Int) : CO :=
  cc_t σ 3 x0 (cc_p σ 3 4 x0 (-1) (fun σ1 => cc_p σ1 3 0 x0 x1 (fun σ2 => cc_p σ2 3 1 x0 x2 (fun σ3 => cc_p σ3 3 2 x0 x3 (fun σ4 => cc_p σ4 3 3 x0 x4 (fun σ5 => some (σ5, 0, 0)))))))
def pc_X2_isNameOf_0 (rec : Nat → CS → List Int → CO) (bd : cBd) (σ : CS) (x0 : Int) (x1 : Int) (x2 : Int) : CO :=
  cc_g σ 7 5 x1 (fun z1 => cc_g σ 7 5 x2 (fun z2 => (if ¬ z1 = z2 then cc_bo 0 (some (σ, 0, 0)) else cc_g σ 3 0 x0 (fun z4 => cc_g σ 7 4 x1 (fun z5 => cc_g σ 3 0 x0 (fun z6 => cc_g σ 7 4 x2 (fun z7 => cc_g σ 7 5 x2 (fun z8 => cc_cl (rec 98 σ [z4, z5, z6, z7, z8]) (fun σ9 z11 => (if z11 = 0 then cc_bo 0 (some (σ9, 0, 0)) else cc_bo 1 (some (σ9, 0, 1))))))))))))
def pc_X2_judge_68 (rec : Nat → CS → List Int → CO) (bd : cBd) : Nat → CS → Int → Int → Int → Int → Int → CO
  | 0, _, _, _, _, _, _ => none
  | n + 1, σ, x0, x1, x2, x3, x4 =>
    cc_g σ 7 8 x1 (fun z1 => cc_l σ 22 z1 (fun z2 => (if z2 ≤ x4 then some (σ, 0, x3) else cc_g σ 7 6 x1 (fun z4 => cc_t σ 3 x0 (cc_cl (rec 68 σ [x0, x3, z4]) (fun σ5 z7 => cc_g σ5 7 8 x1 (fun z8 => cc_r σ5 22 z8 x4 (fun z9 => cc_t σ5 3 x0 (cc_cl (rec 66 σ5 [x0, z9, x2]) (fun σ10 z12 => cc_g σ10 3 2 x0 (fun z13 => cc_g σ10 7 6 x3 (fun z14 => cc_t σ10 5 z13 (cc_cl (rec 80 σ10 [z13, z14, z12]) (fun σ15 z17 => (if ¬ z17 = 0 then cc_g σ15 7 10 x3 (fun z19 => cc_p σ15 3 4 x0 z19 (fun σ20 => cc_n σ20 bd 4 5 (fun σ21 z22 => cc_g σ21 7 1 x3 (fun z23 => cc_cl (rec 136 σ21 [x2]) (fun σ24 z26 => cc_t σ24 4 z22 (cc_ci (rec 77 σ24 [z22, z23, z9, z26, (-1)]) (fun σ27 => cc_g σ27 3 2 x0 (fun z30 => cc_g σ27 7 7 x3 (fun z31 => cc_t σ27 5 z30 (cc_cl (rec 86 σ27 [z30, z31, z22]) (fun σ32 z34 => cc_ck (x4 + 1) (fun z35 => pc_X2_judge_68 rec bd n σ32 x0 x1 x2 z34 z35)))))))))))) else cc_g σ15 3 3 x0 (fun z36 => cc_g σ15 7 3 z9 (fun z37 => cc_t σ15 11 z36 (cc_cl (rec 30 σ15 [z36, 11, z37]) (fun σ38 z40 => cc_x σ38 bd 1)))))))))))))))))))
def pc_X2_judge_0 (rec : Nat → CS → List Int → CO) (bd : cBd) (σ : CS) (x0 : Int) (x1 : Int) (x2 : Int) : CO :=
  cc_g σ 7 6 x1 (fun z1 => (if 0 ≤ z1 then cc_g σ 7 6 x1 (fun z3 => cc_t σ 3 x0 (cc_cl (rec 66 σ [x0, z3, x2]) (fun σ4 z6 => cc_g σ4 7 0 x1 (fun z7 => (if ¬ z7 = 6 then cc_g σ4 7 0 x1 (fun z9 => (if ¬ z9 = 7 then cc_g σ4 7 6 x1 (fun z11 => cc_t σ4 3 x0 (cc_cl (rec 70 σ4 [x0, z6, z11]) (fun σ12 z14 => cc_g σ12 3 2 x0 (fun z15 => cc_g σ12 7 6 x1 (fun z16 => cc_cl (rec 136 σ12 [x2]) (fun σ17 z19 => cc_t σ17 5 z15 (cc_cl (rec 86 σ17 [z15, z16, z19]) (fun σ20 z22 => cc_g σ20 7 7 x1 (fun z23 => cc_n σ20 bd 9 5 (fun σ24 z25 => cc_t σ24 9 z25 (cc_ci (rec 135 σ24 [z25, x1, z22, z14, x2]) (fun σ26 => cc_t σ26 3 x0 (cc_cl (rec 66 σ26 [x0, z23, z25]) (fun σ29 z31 => cc_g σ29 7 0 x1 (fun z32 => (if ¬ z32 = 5 then cc_t σ29 3 x0 (cc_cl (rec 74 σ29 [x0, x1, z22, z14, z31]) (fun σ34 z36 => some (σ34, 0, z36))) else cc_g σ29 7 7 x1 (fun z37 => cc_t σ29 3 x0 (cc_cl (rec 70 σ29 [x0, z31, z37]) (fun σ38 z40 => cc_t σ38 3 x0 (cc_cl (rec 75 σ38 [x0, x1, z14, z40]) (fun σ41 z43 => some (σ41, 0, z43)))))))))))))))))))))) else pc_X2_judge_68 rec bd 2000000 σ4 x0 x1 x2 z6 0)) else cc_g σ4 7 7 x1 (fun z44 => cc_n σ4 bd 9 5 (fun σ45 z46 => cc_g σ45 3 4 x0 (fun z47 => cc_t σ45 9 z46 (cc_ci (rec 135 σ45 [z46, x1, z6, z47, x2]) (fun σ48 => cc_t σ48 3 x0 (cc_cl (rec 66 σ48 [x0, z44, z46]) (fun σ51 z53 => some (σ51, 0, z53))))))))))))) else cc_t σ 3 x0 (cc_cl (rec 67 σ [x0, x1, x2]) (fun σ54 z56 => some (σ54, 0, z56)))))
def pc_X2_judgeName_2 (rec : Nat → CS → List Int → CO) (bd : cBd) : Nat → CS → Int → Int → Int → CO
  | 0, _, _, _, _ => none
  | n + 1, σ, x0, x1, x3 =>
    (if x3 < 0 then cc_g σ 3 1 x0 (fun z2 => cc_g σ 1 5 z2 (fun z3 => cc_g σ 3 0 x0 (fun z4 => cc_g σ 7 4 x1 (fun z5 => cc_g σ 7 5 x1 (fun z6 => cc_t σ 6 z3 (cc_cl (rec 99 σ [z3, z4, z5, z6]) (fun σ7 z9 => (if z9 = (-1) then cc_g σ7 3 1 x0 (fun z11 => cc_g σ7 1 0 z11 (fun z12 => cc_g σ7 3 0 x0 (fun z13 => cc_g σ7 7 4 x1 (fun z14 => cc_g σ7 7 5 x1 (fun z15 => cc_t σ7 6 z12 (cc_cl (rec 99 σ7 [z12, z13, z14, z15]) (fun σ16 z18 => (if ¬ z18 = (-1) then cc_g σ16 3 1 x0 (fun z20 => cc_t σ16 1 z20 (cc_cl (rec 17 σ16 [z20, z18]) (fun σ21 z23 => (if ¬ z23 = (-1) then cc_g σ21 3 1 x0 (fun z25 => cc_t σ21 1 z25 (cc_cl (rec 17 σ21 [z25, z23]) (fun σ26 z28 => cc_t σ26 3 x0 (cc_cl (rec 71 σ26 [x0, x1, 1, z18, z28]) (fun σ29 z31 => cc_n σ29 bd 7 11 (fun σ32 z33 => cc_t σ32 7 z33 (cc_ci (rec 105 σ32 [z33, 1, z23]) (fun σ34 => some (σ34, 0, z33))))))))) else cc_g σ21 3 3 x0 (fun z37 => cc_g σ21 7 2 x1 (fun z38 => cc_t σ21 11 z37 (cc_cl (rec 30 σ21 [z37, 7, z38]) (fun σ39 z41 => cc_x σ39 bd 1)))))))) else cc_g σ16 3 3 x0 (fun z42 => cc_g σ16 7 2 x1 (fun z43 => cc_t σ16 11 z42 (cc_cl (rec 30 σ16 [z42, 3, z43]) (fun σ44 z46 => cc_x σ44 bd 1)))))))))))) else cc_g σ7 3 1 x0 (fun z47 => cc_g σ7 1 8 z47 (fun z48 => cc_r σ7 21 z48 z9 (fun z49 => cc_t σ7 3 x0 (cc_cl (rec 71 σ7 [x0, x1, 2, z9, z49]) (fun σ50 z52 => cc_g σ50 3 1 x0 (fun z53 => cc_g σ50 1 6 z53 (fun z54 => cc_r σ50 22 z54 z9 (fun z55 => some (σ50, 0, z55))))))))))))))))) else cc_g σ 9 0 x3 (fun z56 => cc_t σ 3 x0 (cc_cl (rec 65 σ [x0, z56, x1]) (fun σ57 z59 => (if z59 = 0 then cc_g σ57 9 4 x3 (fun z61 => pc_X2_judgeName_2 rec bd n σ57 x0 x1 z61) else cc_g σ57 9 0 x3 (fun z62 => cc_g σ57 7 1 z62 (fun z63 => cc_g σ57 9 2 x3 (fun z64 => cc_t σ57 3 x0 (cc_cl (rec 71 σ57 [x0, x1, 3, z63, z64]) (fun σ65 z67 => cc_g σ65 9 1 x3 (fun z68 => some (σ65, 0, z68))))))))))))
def pc_X2_judgeName_0 (rec : Nat → CS → List Int → CO) (bd : cBd) (σ : CS) (x0 : Int) (x1 : Int) (x2 : Int) : CO :=
  pc_X2_judgeName_2 rec bd 2000000 σ x0 x1 x2
def pc_X2_needProduct_0 (rec : Nat → CS → List Int → CO) (bd : cBd) (σ : CS) (x0 : Int) (x1 : Int) (x2 : Int) : CO :=
  cc_g σ 7 0 x1 (fun z1 => (if z1 = 5 then some (σ, 0, 0) else cc_g σ 3 3 x0 (fun z3 => cc_g σ 7 3 x2 (fun z4 => cc_t σ 11 z3 (cc_cl (rec 30 σ [z3, 10, z4]) (fun σ5 z7 => cc_x σ5 bd 1))))))
def pc_X2_neededRule_0 (rec : Nat → CS → List Int → CO) (bd : cBd) (σ : CS) (x0 : Int) (x1 : Int) (x2 : Int) (x3 : Int) : CO :=
  cc_g σ 3 1 x0 (fun z1 => cc_t σ 1 z1 (cc_cl (rec 21 σ [z1, x1, x2]) (fun σ2 z4 => (if ¬ z4 = (-1) then some (σ2, 0, z4) else cc_g σ2 3 3 x0 (fun z6 => cc_g σ2 7 2 x3 (fun z7 => cc_t σ2 11 z6 (cc_cl (rec 30 σ2 [z6, 9, z7]) (fun σ8 z10 => cc_x σ8 bd 1))))))))
def pc_X2_neededSort_0 (rec : Nat → CS → List Int → CO) (bd : cBd) (σ : CS) (x0 : Int) (x1 : Int) (x2 : Int) : CO :=
  cc_g σ 7 0 x1 (fun z1 => (if z1 = 1 then cc_g σ 7 1 x1 (fun z3 => some (σ, 0, z3)) else cc_g σ 3 3 x0 (fun z4 => cc_g σ 7 3 x2 (fun z5 => cc_t σ 11 z4 (cc_cl (rec 30 σ [z4, 8, z5]) (fun σ6 z8 => cc_x σ6 bd 1))))))
def pc_X2_resolve_0 (rec : Nat → CS → List Int → CO) (bd : cBd) (σ : CS) (x0 : Int) (x1 : Int) (x2 : Int) (x3 : Int) (x4 : Int) : CO :=
  cc_p σ 7 0 x1 x2 (fun σ1 => cc_p σ1 7 1 x1 x3 (fun σ2 => cc_p σ2 3 4 x0 x4 (fun σ3 => some (σ3, 0, 0))))
def pc_X2_sortAsType_0 (rec : Nat → CS → List Int → CO) (bd : cBd) (σ : CS) (x0 : Int) (x1 : Int) : CO :=
  cc_t σ 3 x0 (cc_cl (rec 66 σ [x0, x1, (-1)]) (fun σ1 z3 => cc_t σ1 3 x0 (cc_cl (rec 70 σ1 [x0, z3, x1]) (fun σ4 z6 => some (σ4, 0, z6)))))
def pc_X2_typeOf_0 (rec : Nat → CS → List Int → CO) (bd : cBd) (σ : CS) (x0 : Int) (x1 : Int) : CO :=
  cc_t σ 3 x0 (cc_cl (rec 66 σ [x0, x1, (-1)]) (fun σ1 z3 => some (σ1, 0, z3)))
def pc_X2_typeOfLambda_0 (rec : Nat → CS → List Int → CO) (bd : cBd) (σ : CS) (x0 : Int) (x1 : Int) (x2 : Int) (x3 : Int) (x4 : Int) : CO :=
  cc_g σ 3 4 x0 (fun z1 => (if ¬ z1 = (-1) then cc_t σ 3 x0 (cc_cl (rec 69 σ [x0, x3, z1, x1]) (fun σ3 z5 => cc_p σ3 3 4 x0 z5 (fun σ6 => cc_g σ6 7 1 x1 (fun z7 => cc_cl (rec 104 σ6 [5, z7, x2, x4]) (fun σ8 z10 => cc_t σ8 7 z10 (cc_cl (rec 106 σ8 [z10, x3, z1]) (fun σ11 z13 => some (σ11, 0, z10)))))))) else cc_g σ 3 3 x0 (fun z14 => cc_g σ 7 2 x1 (fun z15 => cc_t σ 11 z14 (cc_cl (rec 30 σ [z14, 7, z15]) (fun σ16 z18 => cc_x σ16 bd 1))))))
def pc_X2_typeOfProduct_0 (rec : Nat → CS → List Int → CO) (bd : cBd) (σ : CS) (x0 : Int) (x1 : Int) (x2 : Int) (x3 : Int) : CO :=
  cc_t σ 3 x0 (cc_cl (rec 69 σ [x0, x2, x3, x1]) (fun σ1 z3 => cc_t σ1 7 x1 (cc_cl (rec 106 σ1 [x1, x2, x3]) (fun σ4 z6 => cc_g σ4 3 1 x0 (fun z7 => cc_t σ4 1 z7 (cc_cl (rec 17 σ4 [z7, z3]) (fun σ8 z10 => cc_p σ8 3 4 x0 z10 (fun σ11 => cc_n σ11 bd 7 11 (fun σ12 z13 => cc_t σ12 7 z13 (cc_ci (rec 105 σ12 [z13, 1, z3]) (fun σ14 => some (σ14, 0, z13))))))))))))
def pc_X3_find_2 (rec : Nat → CS → List Int → CO) (bd : cBd) : Nat → CS → Int → Int → CO
  | 0, _, _, _ => none
  | n + 1, σ, x0, x2 =>
    (if x2 < 0 then some (σ, 0, (-1)) else cc_g σ 4 0 x2 (fun z2 => (if ¬ z2 = x0 then cc_g σ 4 4 x2 (fun z4 => pc_X3_find_2 rec bd n σ x0 z4) else some (σ, 0, x2))))
def pc_X3_find_0 (rec : Nat → CS → List Int → CO) (bd : cBd) (σ : CS) (x0 : Int) (x1 : Int) : CO :=
  pc_X3_find_2 rec bd 2000000 σ x0 x1
def pc_X3_init_0 (rec : Nat → CS → List Int → CO) (bd : cBd) (σ : CS) (x0 : Int) (x1 : Int) (x2 : Int) (x3 : Int) (x4 : Int) : CO :=
  cc_t σ 4 x0 (cc_p σ 4 0 x0 x1 (fun σ1 => cc_p σ1 4 1 x0 x2 (fun σ2 => cc_p σ2 4 2 x0 x3 (fun σ3 => cc_p σ3 4 3 x0 0 (fun σ4 => cc_p σ4 4 4 x0 x4 (fun σ5 => some (σ5, 0, 0)))))))
def pc_X3_init__0 (rec : Nat → CS → List Int → CO) (bd : cBd) (σ : CS) (x0 : Int) (x1 : Int) (x2 : Int) (x3 : Int) : CO :=
  cc_t σ 4 x0 (cc_p σ 4 0 x0 x1 (fun σ1 => cc_p σ1 4 1 x0 (-1) (fun σ2 => cc_p σ2 4 2 x0 (-1) (fun σ3 => cc_ck ((-1) - x2) (fun z4 => cc_p σ3 4 3 x0 z4 (fun σ5 => cc_p σ5 4 4 x0 x3 (fun σ6 => some (σ6, 0, 0))))))))
def pc_X3_lengthOf_4 (rec : Nat → CS → List Int → CO) (bd : cBd) : Nat → CS → Int → Int → CO
  | 0, _, _, _ => none
  | n + 1, σ, x1, x2 =>
    (if x2 < 0 then some (σ, 0, x1) else cc_ck (x1 + 1) (fun z2 => cc_g σ 4 4 x2 (fun z3 => pc_X3_lengthOf_4 rec bd n σ z2 z3)))
def pc_X3_lengthOf_0 (rec : Nat → CS → List Int → CO) (bd : cBd) (σ : CS) (x0 : Int) : CO :=
  pc_X3_lengthOf_4 rec bd 2000000 σ 0 x0
def pc_X4_areSame_0 (rec : Nat → CS → List Int → CO) (bd : cBd) (σ : CS) (x0 : Int) (x1 : Int) (x2 : Int) : CO :=
  cc_t σ 5 x0 (cc_cl (rec 82 σ [x0, x1, (-1), x2, (-1), 0, 0]) (fun σ1 z3 => cc_bo z3 (some (σ1, 0, z3))))
def pc_X4_begin_2 (rec : Nat → CS → List Int → CO) (bd : cBd) : Nat → CS → Int → Int → Int → CO
  | 0, _, _, _, _ => none
  | n + 1, σ, x0, x1, x2 =>
    cc_g σ 5 2 x0 (fun z1 => cc_l σ 21 z1 (fun z2 => (if z2 ≤ x2 then cc_p σ 5 5 x0 x1 (fun σ4 => some (σ4, 0, 0)) else cc_g σ 5 2 x0 (fun z5 => cc_w σ 21 z5 x2 0 (fun σ6 => cc_ck (x2 + 1) (fun z7 => pc_X4_begin_2 rec bd n σ6 x0 x1 z7))))))
def pc_X4_begin_0 (rec : Nat → CS → List Int → CO) (bd : cBd) (σ : CS) (x0 : Int) (x1 : Int) : CO :=
  pc_X4_begin_2 rec bd 2000000 σ x0 x1 0
def pc_X4_compare_190 (rec : Nat → CS → List Int → CO) (bd : cBd) : Nat → CS → Int → Int → Int → Int → Int → CO
  | 0, _, _, _, _, _, _ => none
  | n + 1, σ, x0, x5, x6, x9, x10 =>
    (if x10 < 0 then cc_bo 1 (some (σ, 0, 1)) else (if x9 < 0 then cc_bo 1 (some (σ, 0, 1)) else cc_g σ 4 1 x10 (fun z3 => cc_g σ 4 2 x10 (fun z4 => cc_g σ 4 1 x9 (fun z5 => cc_g σ 4 2 x9 (fun z6 => cc_ck (x6 + 1) (fun z7 => cc_t σ 5 x0 (cc_cl (rec 82 σ [x0, z3, z4, z5, z6, x5, z7]) (fun σ8 z10 => (if ¬ z10 = 0 then cc_g σ8 4 4 x9 (fun z12 => cc_g σ8 4 4 x10 (fun z13 => pc_X4_compare_190 rec bd n σ8 x0 x5 x6 z12 z13)) else cc_bo 0 (some (σ8, 0, 0))))))))))))
def pc_X4_compare_0 (rec : Nat → CS → List Int → CO) (bd : cBd) (σ : CS) (x0 : Int) (x1 : Int) (x2 : Int) (x3 : Int) (x4 : Int) (x5 : Int) (x6 : Int) : CO :=
  cc_t σ 5 x0 (cc_cl (rec 85 σ [x0, x6]) (fun σ1 z3 => cc_t σ1 5 x0 (cc_cl (rec 83 σ1 [x0, x1, x2]) (fun σ4 z6 => cc_t σ4 5 x0 (cc_cl (rec 83 σ4 [x0, x3, x4]) (fun σ7 z9 => cc_g σ7 2 0 z6 (fun z10 => cc_g σ7 7 0 z10 (fun z11 => cc_g σ7 2 0 z9 (fun z12 => cc_g σ7 7 0 z12 (fun z13 => (if z11 = z13 then cc_t σ7 2 z6 (cc_cl (rec 27 σ7 [z6]) (fun σ15 z17 => (if z17 = 0 then cc_g σ15 2 1 z6 (fun z19 => cc_g σ15 2 1 z9 (fun z20 => (if ¬ z19 = z20 then cc_bo 0 (some (σ15, 0, 0)) else cc_g σ15 2 3 z6 (fun z22 => cc_cl (rec 79 σ15 [z22]) (fun σ23 z25 => cc_g σ23 2 3 z9 (fun z26 => cc_cl (rec 79 σ23 [z26]) (fun σ27 z29 => (if z25 = z29 then cc_g σ27 2 3 z9 (fun z31 => cc_g σ27 2 3 z6 (fun z32 => pc_X4_compare_190 rec bd 2000000 σ27 x0 x5 x6 z31 z32)) else cc_bo 0 (some (σ27, 0, 0)))))))))) else cc_g σ15 2 0 z6 (fun z33 => cc_g σ15 7 6 z33 (fun z34 => cc_g σ15 2 2 z6 (fun z35 => cc_g σ15 2 0 z9 (fun z36 => cc_g σ15 7 6 z36 (fun z37 => cc_g σ15 2 2 z9 (fun z38 => cc_ck (x6 + 1) (fun z39 => cc_t σ15 5 x0 (cc_cl (rec 82 σ15 [x0, z34, z35, z37, z38, x5, z39]) (fun σ40 z42 => (if z42 = 0 then cc_bo 0 (some (σ40, 0, 0)) else cc_g σ40 2 0 z6 (fun z44 => cc_g σ40 7 7 z44 (fun z45 => cc_t σ40 2 z6 (cc_cl (rec 25 σ40 [z6, x5]) (fun σ46 z48 => cc_g σ46 2 0 z9 (fun z49 => cc_g σ46 7 7 z49 (fun z50 => cc_t σ46 2 z9 (cc_cl (rec 25 σ46 [z9, x5]) (fun σ51 z53 => cc_ck (x5 + 1) (fun z54 => cc_ck (x6 + 1) (fun z55 => cc_t σ51 5 x0 (cc_cl (rec 82 σ51 [x0, z45, z48, z50, z53, z54, z55]) (fun σ56 z58 => (if z58 = 0 then cc_bo 0 (some (σ56, 0, 0)) else cc_bo 1 (some (σ56, 0, 1)))))))))))))))))))))))))))) else cc_bo 0 (some (σ7, 0, 0)))))))))))))
def pc_X4_head_331 (rec : Nat → CS → List Int → CO) (bd : cBd) (k11 : CS → Int → Int → Int → Int → Int → CO) (σ : CS) (x0 : Int) (x3 : Int) (x4 : Int) (x5 : Int) (x6 : Int) : CO :=
  cc_ck (x6 + 1) (fun z1 => k11 σ x0 x3 x4 x5 z1)
def pc_X4_head_36 (rec : Nat → CS → List Int → CO) (bd : cBd) (k11 : CS → Int → Int → Int → Int → Int → CO) : Nat → CS → Int → Int → Int → Int → Int → Int → CO
  | 0, _, _, _, _, _, _, _ => none
  | n + 1, σ, x0, x3, x4, x5, x6, x7 =>
    (if x7 < 0 then cc_g σ 7 6 x3 (fun z2 => pc_X4_head_331 rec bd k11 σ x0 z2 x4 x5 x6) else cc_t σ 5 x0 (cc_cl (rec 93 σ [x0, 4]) (fun σ3 z5 => cc_n σ3 bd 4 5 (fun σ6 z7 => cc_g σ6 7 8 x3 (fun z8 => cc_r σ6 22 z8 x7 (fun z9 => cc_t σ6 4 z7 (cc_ci (rec 77 σ6 [z7, 0, z9, x4, x5]) (fun σ10 => cc_ck (x7 + (-1)) (fun z13 => pc_X4_head_36 rec bd k11 n σ10 x0 x3 x4 z7 x6 z13)))))))))
def pc_X4_head_276 (rec : Nat → CS → List Int → CO) (bd : cBd) (σ : CS) (x3 : Int) (x4 : Int) (x5 : Int) (t0 : Int) : CO :=
  cc_n σ bd 2 4 (fun σ1 z2 => cc_t σ1 2 z2 (cc_ci (rec 26 σ1 [z2, x3, t0, x4, x5]) (fun σ3 => some (σ3, 0, z2))))
def pc_X4_head_259 (rec : Nat → CS → List Int → CO) (bd : cBd) (σ : CS) (x3 : Int) (x4 : Int) (x5 : Int) (x7 : Int) : CO :=
  (if 0 ≤ x7 then cc_g σ 4 3 x7 (fun z2 => pc_X4_head_276 rec bd σ x3 x4 x5 z2) else cc_g σ 7 1 x3 (fun z3 => pc_X4_head_276 rec bd σ x3 x4 x5 z3))
def pc_X4_head_227 (rec : Nat → CS → List Int → CO) (bd : cBd) (k11 : CS → Int → Int → Int → Int → Int → CO) (σ : CS) (x0 : Int) (x3 : Int) (x4 : Int) (x5 : Int) (x6 : Int) : CO :=
  cc_g σ 7 0 x3 (fun z1 => (if ¬ z1 = 3 then cc_n σ bd 2 4 (fun σ3 z4 => cc_g σ3 7 1 x3 (fun z5 => cc_t σ3 2 z4 (cc_ci (rec 26 σ3 [z4, x3, z5, x4, x5]) (fun σ6 => some (σ6, 0, z4))))) else cc_g σ 7 1 x3 (fun z9 => cc_cl (rec 76 σ [z9, x4]) (fun σ10 z12 => (if z12 < 0 then pc_X4_head_259 rec bd σ10 x3 x4 x5 z12 else cc_g σ10 4 1 z12 (fun z14 => (if 0 ≤ z14 then cc_t σ10 5 x0 (cc_cl (rec 93 σ10 [x0, 5]) (fun σ16 z18 => cc_g σ16 4 1 z12 (fun z19 => cc_g σ16 4 2 z12 (fun z20 => pc_X4_head_331 rec bd k11 σ16 x0 z19 z20 x5 x6)))) else pc_X4_head_259 rec bd σ10 x3 x4 x5 z12)))))))
def pc_X4_head_182 (rec : Nat → CS → List Int → CO) (bd : cBd) (k11 : CS → Int → Int → Int → Int → Int → CO) (σ : CS) (x0 : Int) (x3 : Int) (x4 : Int) (x5 : Int) (x6 : Int) : CO :=
  cc_g σ 7 0 x3 (fun z1 => (if ¬ z1 = 2 then pc_X4_head_227 rec bd k11 σ x0 x3 x4 x5 x6 else cc_g σ 5 0 x0 (fun z3 => cc_g σ 7 1 x3 (fun z4 => cc_t σ 1 z3 (cc_cl (rec 24 σ [z3, z4]) (fun σ5 z7 => (if z7 < 0 then pc_X4_head_227 rec bd k11 σ5 x0 x3 x4 x5 x6 else cc_t σ5 5 x0 (cc_cl (rec 93 σ5 [x0, 2]) (fun σ9 z11 => cc_g σ9 5 0 x0 (fun z12 => cc_g σ9 7 1 x3 (fun z13 => cc_t σ9 1 z12 (cc_cl (rec 24 σ9 [z12, z13]) (fun σ14 z16 => pc_X4_head_331 rec bd k11 σ14 x0 z16 (-1) x5 x6)))))))))))))
def pc_X4_head_11 (rec : Nat → CS → List Int → CO) (bd : cBd) : Nat → CS → Int → Int → Int → Int → Int → CO
  | 0, _, _, _, _, _, _ => none
  | n + 1, σ, x0, x3, x4, x5, x6 =>
    (if 1000000 ≤ x6 then cc_n σ bd 2 4 (fun σ2 z3 => cc_g σ2 7 1 x3 (fun z4 => cc_t σ2 2 z3 (cc_ci (rec 26 σ2 [z3, x3, z4, x4, x5]) (fun σ5 => some (σ5, 0, z3))))) else cc_g σ 7 0 x3 (fun z8 => (if ¬ z8 = 7 then cc_g σ 7 0 x3 (fun z10 => (if ¬ z10 = 6 then cc_g σ 7 0 x3 (fun z12 => (if ¬ z12 = 4 then pc_X4_head_182 rec bd (pc_X4_head_11 rec bd n) σ x0 x3 x4 x5 x6 else (if x5 < 0 then pc_X4_head_182 rec bd (pc_X4_head_11 rec bd n) σ x0 x3 x4 x5 x6 else cc_t σ 5 x0 (cc_cl (rec 93 σ [x0, 1]) (fun σ15 z17 => cc_n σ15 bd 4 5 (fun σ18 z19 => cc_g σ18 7 1 x3 (fun z20 => cc_g σ18 4 1 x5 (fun z21 => cc_g σ18 4 2 x5 (fun z22 => cc_t σ18 4 z19 (cc_ci (rec 77 σ18 [z19, z20, z21, z22, x4]) (fun σ23 => cc_g σ23 4 4 x5 (fun z26 => cc_g σ23 7 7 x3 (fun z27 => pc_X4_head_331 rec bd (pc_X4_head_11 rec bd n) σ23 x0 z27 z19 z26 x6))))))))))))) else cc_t σ 5 x0 (cc_cl (rec 93 σ [x0, 3]) (fun σ28 z30 => cc_n σ28 bd 4 5 (fun σ31 z32 => cc_g σ31 7 1 x3 (fun z33 => cc_g σ31 7 6 x3 (fun z34 => cc_t σ31 4 z32 (cc_ci (rec 77 σ31 [z32, z33, z34, x4, x4]) (fun σ35 => cc_g σ35 7 7 x3 (fun z38 => pc_X4_head_331 rec bd (pc_X4_head_11 rec bd n) σ35 x0 z38 z32 x5 x6)))))))))) else cc_g σ 7 8 x3 (fun z39 => cc_l σ 22 z39 (fun z40 => cc_ck (z40 - 1) (fun z41 => pc_X4_head_36 rec bd (pc_X4_head_11 rec bd n) 2000000 σ x0 x3 x4 x5 x6 z41))))))
def pc_X4_head_0 (rec : Nat → CS → List Int → CO) (bd : cBd) (σ : CS) (x0 : Int) (x1 : Int) (x2 : Int) : CO :=
  pc_X4_head_11 rec bd 2000000 σ x0 x1 x2 (-1) 0
def pc_X4_init_0 (rec : Nat → CS → List Int → CO) (bd : cBd) (σ : CS) (x0 : Int) (x1 : Int) (x2 : Int) : CO :=
  cc_t σ 5 x0 (cc_na σ bd 21 7 (fun σ1 z2 => cc_p σ1 5 2 x0 z2 (fun σ3 => cc_p σ3 5 3 x0 0 (fun σ4 => cc_p σ4 5 4 x0 5000 (fun σ5 => cc_p σ5 5 5 x0 0 (fun σ6 => cc_na σ6 bd 20 3000 (fun σ7 z8 => cc_p σ7 5 6 x0 z8 (fun σ9 => cc_p σ9 5 7 x0 0 (fun σ10 => cc_p σ10 5 0 x0 x1 (fun σ11 => cc_p σ11 5 1 x0 x2 (fun σ12 => some (σ12, 0, 0))))))))))))
def pc_X4_look_44 (rec : Nat → CS → List Int → CO) (bd : cBd) (σ : CS) (x0 : Int) (x2 : Int) : CO :=
  (if x2 = 0 then some (σ, 0, 0) else cc_g σ 5 1 x0 (fun z2 => cc_g σ 5 5 x0 (fun z3 => cc_t σ 11 z2 (cc_cl (rec 30 σ [z2, 13, z3]) (fun σ4 z6 => cc_x σ4 bd 1)))))
def pc_X4_look_38 (rec : Nat → CS → List Int → CO) (bd : cBd) (σ : CS) (x0 : Int) (x2 : Int) : CO :=
  cc_t σ 5 x0 (cc_cl (rec 93 σ [x0, 6]) (fun σ1 z3 => pc_X4_look_44 rec bd σ1 x0 x2))
def pc_X4_look_11 (rec : Nat → CS → List Int → CO) (bd : cBd) (σ : CS) (x0 : Int) (t0 : Int) : CO :=
  (if t0 = 0 then pc_X4_look_38 rec bd σ x0 t0 else cc_g σ 5 2 x0 (fun z2 => cc_r σ 21 z2 0 (fun z3 => cc_g σ 5 4 x0 (fun z4 => (if z4 ≤ z3 then pc_X4_look_44 rec bd σ x0 t0 else cc_g σ 5 3 x0 (fun z6 => (if 60000 ≤ z6 then pc_X4_look_44 rec bd σ x0 t0 else pc_X4_look_38 rec bd σ x0 t0)))))))
def pc_X4_look_0 (rec : Nat → CS → List Int → CO) (bd : cBd) (σ : CS) (x0 : Int) (x1 : Int) : CO :=
  (if x1 < 100 then pc_X4_look_11 rec bd σ x0 0 else pc_X4_look_11 rec bd σ x0 1)
def pc_X4_normalForm_0 (rec : Nat → CS → List Int → CO) (bd : cBd) (σ : CS) (x0 : Int) (x1 : Int) (x2 : Int) : CO :=
  cc_t σ 5 x0 (cc_cl (rec 87 σ [x0, x1, x2, 0, 0]) (fun σ1 z3 => some (σ1, 0, z3)))
def pc_X4_normalize_218 (rec : Nat → CS → List Int → CO) (bd : cBd) (σ : CS) (x7 : Int) (x8 : Int) : CO :=
  cc_cl (rec 108 σ [x7, x8]) (fun σ1 z3 => some (σ1, 0, z3))
def pc_X4_normalize_168 (rec : Nat → CS → List Int → CO) (bd : cBd) : Nat → CS → Int → Int → Int → Int → Int → Int → Int → CO
  | 0, _, _, _, _, _, _, _, _ => none
  | n + 1, σ, x0, x3, x4, x7, x8, x9, x10 =>
    cc_l σ 22 x8 (fun z1 => (if z1 ≤ x10 then pc_X4_normalize_218 rec bd σ x7 x8 else (if x9 < 0 then pc_X4_normalize_218 rec bd σ x7 x8 else cc_g σ 4 1 x9 (fun z4 => cc_g σ 4 2 x9 (fun z5 => cc_ck (x4 + 1) (fun z6 => cc_t σ 5 x0 (cc_cl (rec 87 σ [x0, z4, z5, x3, z6]) (fun σ7 z9 => cc_tn σ7 7 z9 (cc_w σ7 22 x8 x10 z9 (fun σ10 => cc_g σ10 4 4 x9 (fun z11 => cc_ck (x10 + 1) (fun z12 => pc_X4_normalize_168 rec bd n σ10 x0 x3 x4 x7 x8 z11 z12))))))))))))
def pc_X4_normalize_0 (rec : Nat → CS → List Int → CO) (bd : cBd) (σ : CS) (x0 : Int) (x1 : Int) (x2 : Int) (x3 : Int) (x4 : Int) : CO :=
  cc_t σ 5 x0 (cc_cl (rec 85 σ [x0, x4]) (fun σ1 z3 => cc_t σ1 5 x0 (cc_cl (rec 83 σ1 [x0, x1, x2]) (fun σ4 z6 => cc_g σ4 2 0 z6 (fun z7 => cc_t σ4 2 z6 (cc_cl (rec 27 σ4 [z6]) (fun σ8 z10 => (if z10 = 0 then cc_n σ8 bd 7 11 (fun σ12 z13 => cc_g σ12 7 0 z7 (fun z14 => cc_g σ12 2 1 z6 (fun z15 => cc_t σ12 7 z13 (cc_ci (rec 105 σ12 [z13, z14, z15]) (fun σ16 => cc_g σ16 2 3 z6 (fun z19 => (if 0 ≤ z19 then cc_g σ16 2 3 z6 (fun z21 => cc_cl (rec 79 σ16 [z21]) (fun σ22 z24 => cc_na σ22 bd 22 z24 (fun σ25 z26 => cc_g σ25 2 3 z6 (fun z27 => pc_X4_normalize_168 rec bd 2000000 σ25 x0 x3 x4 z13 z26 z27 0)))) else some (σ16, 0, z13)))))))) else cc_t σ8 2 z6 (cc_cl (rec 25 σ8 [z6, x3]) (fun σ28 z30 => cc_g σ28 7 6 z7 (fun z31 => cc_g σ28 2 2 z6 (fun z32 => cc_ck (x4 + 1) (fun z33 => cc_t σ28 5 x0 (cc_cl (rec 87 σ28 [x0, z31, z32, x3, z33]) (fun σ34 z36 => cc_g σ34 7 7 z7 (fun z37 => cc_ck (x3 + 1) (fun z38 => cc_ck (x4 + 1) (fun z39 => cc_t σ34 5 x0 (cc_cl (rec 87 σ34 [x0, z37, z30, z38, z39]) (fun σ40 z42 => cc_g σ40 7 0 z7 (fun z43 => cc_g σ40 4 3 z30 (fun z44 => cc_cl (rec 104 σ40 [z43, z44, z36, z42]) (fun σ45 z47 => cc_g σ45 7 9 z7 (fun z48 => cc_g σ45 7 10 z7 (fun z49 => cc_t σ45 7 z47 (cc_cl (rec 106 σ45 [z47, z48, z49]) (fun σ50 z52 => some (σ50, 0, z47))))))))))))))))))))))))))))
def pc_X4_put_23 (rec : Nat → CS → List Int → CO) (bd : cBd) (σ : CS) (x0 : Int) : CO :=
  cc_g σ 5 7 x0 (fun z1 => cc_ck (z1 + 1) (fun z2 => cc_p σ 5 7 x0 z2 (fun σ3 => some (σ3, 0, 0))))
def pc_X4_put_0 (rec : Nat → CS → List Int → CO) (bd : cBd) (σ : CS) (x0 : Int) (x1 : Int) : CO :=
  cc_g σ 5 7 x0 (fun z1 => cc_g σ 5 6 x0 (fun z2 => cc_l σ 20 z2 (fun z3 => (if z3 ≤ z1 then pc_X4_put_23 rec bd σ x0 else cc_g σ 5 6 x0 (fun z5 => cc_g σ 5 7 x0 (fun z6 => cc_nm (rn_b x1) (fun z7 => cc_w σ 20 z5 z6 (rn_b z7) (fun σ8 => pc_X4_put_23 rec bd σ8 x0))))))))
def pc_X4_putAnswer_14 (rec : Nat → CS → List Int → CO) (bd : cBd) : Nat → CS → Int → Int → Int → CO
  | 0, _, _, _, _ => none
  | n + 1, σ, x0, x2, x3 =>
    cc_sn bd x2 (fun z1 => (if z1 ≤ x3 then cc_t σ 5 x0 (cc_cl (rec 88 σ [x0, 10]) (fun σ3 z5 => some (σ3, 0, 0))) else cc_sc bd x2 x3 (fun z6 => cc_t σ 5 x0 (cc_cl (rec 88 σ [x0, z6]) (fun σ7 z9 => cc_ck (x3 + 1) (fun z10 => pc_X4_putAnswer_14 rec bd n σ7 x0 x2 z10))))))
def pc_X4_putAnswer_11 (rec : Nat → CS → List Int → CO) (bd : cBd) (σ : CS) (x0 : Int) (t0 : Int) : CO :=
  pc_X4_putAnswer_14 rec bd 2000000 σ x0 t0 0
def pc_X4_putAnswer_0 (rec : Nat → CS → List Int → CO) (bd : cBd) (σ : CS) (x0 : Int) (x1 : Int) : CO :=
  (if x1 = 0 then cc_gs bd 2 (fun z2 => pc_X4_putAnswer_11 rec bd σ x0 z2) else cc_gs bd 1 (fun z3 => pc_X4_putAnswer_11 rec bd σ x0 z3))
def pc_X4_putFront_94 (rec : Nat → CS → List Int → CO) (bd : cBd) (σ : CS) (x0 : Int) (x1 : Int) : CO :=
  cc_t σ 5 x0 (cc_cl (rec 88 σ [x0, 95]) (fun σ1 z3 => cc_g σ1 2 1 x1 (fun z4 => cc_ck ((-1) - z4) (fun z5 => cc_t σ1 5 x0 (cc_cl (rec 91 σ1 [x0, z5]) (fun σ6 z8 => some (σ6, 0, 0)))))))
def pc_X4_putFront_0 (rec : Nat → CS → List Int → CO) (bd : cBd) (σ : CS) (x0 : Int) (x1 : Int) : CO :=
  cc_g σ 2 0 x1 (fun z1 => cc_g σ 7 0 z1 (fun z2 => (if z2 = 1 then cc_g σ 5 0 x0 (fun z4 => cc_g σ 1 0 z4 (fun z5 => cc_g σ 2 1 x1 (fun z6 => cc_t σ 5 x0 (cc_cl (rec 92 σ [x0, z5, z6]) (fun σ7 z9 => some (σ7, 0, 0)))))) else (if z2 = 2 then cc_g σ 5 0 x0 (fun z11 => cc_g σ 1 5 z11 (fun z12 => cc_g σ 2 1 x1 (fun z13 => cc_t σ 5 x0 (cc_cl (rec 92 σ [x0, z12, z13]) (fun σ14 z16 => some (σ14, 0, 0)))))) else (if z2 = 3 then pc_X4_putFront_94 rec bd σ x0 x1 else (if z2 = 4 then cc_t σ 5 x0 (cc_cl (rec 88 σ [x0, 92]) (fun σ19 z21 => some (σ19, 0, 0))) else (if z2 = 5 then cc_t σ 5 x0 (cc_cl (rec 88 σ [x0, 33]) (fun σ23 z25 => some (σ23, 0, 0))) else pc_X4_putFront_94 rec bd σ x0 x1)))))))
def pc_X4_putNumber_29 (rec : Nat → CS → List Int → CO) (bd : cBd) : Nat → CS → Int → Int → Int → CO
  | 0, _, _, _, _ => none
  | n + 1, σ, x0, x1, x2 =>
    (if x2 ≤ 0 then some (σ, 0, 0) else (if x2 = 0 then none else cc_nm (rn_div x1 x2) (fun z2 => cc_nm (rn_rem z2 10) (fun z4 => cc_ck (48 + z4) (fun z5 => cc_t σ 5 x0 (cc_cl (rec 88 σ [x0, z5]) (fun σ6 z8 => cc_nm (rn_div x2 10) (fun z9 => pc_X4_putNumber_29 rec bd n σ6 x0 x1 z9))))))))
def pc_X4_putNumber_4 (rec : Nat → CS → List Int → CO) (bd : cBd) : Nat → CS → Int → Int → Int → Int → CO
  | 0, _, _, _, _, _ => none
  | n + 1, σ, x0, x1, x2, x3 =>
    (if 9 ≤ x3 then pc_X4_putNumber_29 rec bd 2000000 σ x0 x1 x2 else (if x2 = 0 then none else cc_nm (rn_div x1 x2) (fun z2 => (if z2 < 10 then pc_X4_putNumber_29 rec bd 2000000 σ x0 x1 x2 else cc_ck (x2 * 10) (fun z5 => cc_ck (x3 + 1) (fun z6 => pc_X4_putNumber_4 rec bd n σ x0 x1 z5 z6))))))
def pc_X4_putNumber_0 (rec : Nat → CS → List Int → CO) (bd : cBd) (σ : CS) (x0 : Int) (x1 : Int) : CO :=
  pc_X4_putNumber_4 rec bd 2000000 σ x0 x1 1 1
def pc_X4_putSigns_22 (rec : Nat → CS → List Int → CO) (bd : cBd) : Nat → CS → Int → Int → Int → Int → Int → CO
  | 0, _, _, _, _, _, _ => none
  | n + 1, σ, x0, x1, x2, x3, x4 =>
    (if x3 ≤ x4 then some (σ, 0, 0) else cc_t σ 6 x1 (cc_cl (rec 103 σ [x1, x2, x4]) (fun σ2 z4 => cc_t σ2 5 x0 (cc_cl (rec 88 σ2 [x0, z4]) (fun σ5 z7 => cc_ck (x4 + 1) (fun z8 => pc_X4_putSigns_22 rec bd n σ5 x0 x1 x2 x3 z8))))))
def pc_X4_putSigns_18 (rec : Nat → CS → List Int → CO) (bd : cBd) (σ : CS) (x0 : Int) (x1 : Int) (x2 : Int) (t0 : Int) : CO :=
  pc_X4_putSigns_22 rec bd 2000000 σ x0 x1 x2 t0 0
def pc_X4_putSigns_0 (rec : Nat → CS → List Int → CO) (bd : cBd) (σ : CS) (x0 : Int) (x1 : Int) (x2 : Int) : CO :=
  cc_t σ 6 x1 (cc_cl (rec 100 σ [x1, x2]) (fun σ1 z3 => (if z3 = 0 then pc_X4_putSigns_18 rec bd σ1 x0 x1 x2 0 else cc_g σ1 6 1 x1 (fun z5 => cc_r σ1 21 z5 x2 (fun z6 => pc_X4_putSigns_18 rec bd σ1 x0 x1 x2 z6)))))
def pc_X4_spend_47 (rec : Nat → CS → List Int → CO) (bd : cBd) (σ : CS) (x0 : Int) (t0 : Int) (t1 : Int) : CO :=
  cc_p σ 11 0 t1 t0 (fun σ1 => cc_g σ1 5 1 x0 (fun z2 => cc_g σ1 5 5 x0 (fun z3 => cc_p σ1 11 1 z2 z3 (fun σ4 => cc_x σ4 bd 1))))
def pc_X4_spend_32 (rec : Nat → CS → List Int → CO) (bd : cBd) (σ : CS) (x0 : Int) (x2 : Int) : CO :=
  cc_g σ 5 1 x0 (fun z1 => (if x2 = 0 then pc_X4_spend_47 rec bd σ x0 14 z1 else pc_X4_spend_47 rec bd σ x0 12 z1))
def pc_X4_spend_18 (rec : Nat → CS → List Int → CO) (bd : cBd) (σ : CS) (x0 : Int) (x1 : Int) (t0 : Int) : CO :=
  (if ¬ t0 = 0 then pc_X4_spend_32 rec bd σ x0 t0 else cc_g σ 5 3 x0 (fun z2 => (if z2 < 60000 then cc_g σ 5 2 x0 (fun z4 => cc_r σ 21 z4 0 (fun z5 => cc_ck (z5 + 1) (fun z6 => cc_w σ 21 z4 0 z6 (fun σ7 => cc_g σ7 5 2 x0 (fun z8 => cc_r σ7 21 z8 x1 (fun z9 => cc_ck (z9 + 1) (fun z10 => cc_w σ7 21 z8 x1 z10 (fun σ11 => cc_g σ11 5 3 x0 (fun z12 => cc_ck (z12 + 1) (fun z13 => cc_p σ11 5 3 x0 z13 (fun σ14 => some (σ14, 0, 0)))))))))))) else pc_X4_spend_32 rec bd σ x0 t0)))
def pc_X4_spend_0 (rec : Nat → CS → List Int → CO) (bd : cBd) (σ : CS) (x0 : Int) (x1 : Int) : CO :=
  cc_g σ 5 2 x0 (fun z1 => cc_r σ 21 z1 0 (fun z2 => cc_g σ 5 4 x0 (fun z3 => (if z2 < z3 then pc_X4_spend_18 rec bd σ x0 x1 0 else pc_X4_spend_18 rec bd σ x0 x1 1))))
def pc_X4_tell_205 (rec : Nat → CS → List Int → CO) (bd : cBd) (σ : CS) (x0 : Int) (x8 : Int) : CO :=
  (if x8 = 0 then some (σ, 0, 0) else cc_t σ 5 x0 (cc_cl (rec 88 σ [x0, 41]) (fun σ2 z4 => some (σ2, 0, 0))))
def pc_X4_tell_164 (rec : Nat → CS → List Int → CO) (bd : cBd) : Nat → CS → Int → Int → Int → Int → Int → CO
  | 0, _, _, _, _, _, _ => none
  | n + 1, σ, x0, x3, x4, x8, x9 =>
    (if x9 < 0 then pc_X4_tell_205 rec bd σ x0 x8 else cc_t σ 5 x0 (cc_cl (rec 88 σ [x0, 32]) (fun σ2 z4 => cc_g σ2 4 1 x9 (fun z5 => cc_g σ2 4 2 x9 (fun z6 => cc_ck (x4 + 1) (fun z7 => cc_t σ2 5 x0 (cc_cl (rec 94 σ2 [x0, z5, z6, x3, z7, 2]) (fun σ8 z10 => cc_g σ8 4 4 x9 (fun z11 => pc_X4_tell_164 rec bd n σ8 x0 x3 x4 x8 z11)))))))))
def pc_X4_tell_71 (rec : Nat → CS → List Int → CO) (bd : cBd) (σ : CS) (x0 : Int) (x3 : Int) (x4 : Int) (x6 : Int) (x7 : Int) (x8 : Int) : CO :=
  cc_t σ 5 x0 (cc_cl (rec 90 σ [x0, x6]) (fun σ1 z3 => (if x7 = 0 then cc_g σ1 2 3 x6 (fun z5 => pc_X4_tell_164 rec bd 2000000 σ1 x0 x3 x4 x8 z5) else cc_t σ1 5 x0 (cc_cl (rec 88 σ1 [x0, 95]) (fun σ6 z8 => cc_t σ6 5 x0 (cc_cl (rec 91 σ6 [x0, x3]) (fun σ9 z11 => cc_t σ9 5 x0 (cc_cl (rec 88 σ9 [x0, 58]) (fun σ12 z14 => cc_g σ12 2 0 x6 (fun z15 => cc_g σ12 7 6 z15 (fun z16 => cc_g σ12 2 2 x6 (fun z17 => cc_ck (x4 + 1) (fun z18 => cc_t σ12 5 x0 (cc_cl (rec 94 σ12 [x0, z16, z17, x3, z18, 1]) (fun σ19 z21 => cc_t σ19 5 x0 (cc_cl (rec 88 σ19 [x0, 46]) (fun σ22 z24 => cc_g σ22 2 0 x6 (fun z25 => cc_g σ22 7 7 z25 (fun z26 => cc_t σ22 2 x6 (cc_cl (rec 25 σ22 [x6, x3]) (fun σ27 z29 => cc_ck (x3 + 1) (fun z30 => cc_ck (x4 + 1) (fun z31 => cc_t σ27 5 x0 (cc_cl (rec 94 σ27 [x0, z26, z29, z30, z31, 0]) (fun σ32 z34 => pc_X4_tell_205 rec bd σ32 x0 x8)))))))))))))))))))))))))
def pc_X4_tell_58 (rec : Nat → CS → List Int → CO) (bd : cBd) (σ : CS) (x0 : Int) (x3 : Int) (x4 : Int) (x6 : Int) (x7 : Int) (t0 : Int) : CO :=
  (if t0 = 0 then pc_X4_tell_71 rec bd σ x0 x3 x4 x6 x7 t0 else cc_t σ 5 x0 (cc_cl (rec 88 σ [x0, 40]) (fun σ2 z4 => pc_X4_tell_71 rec bd σ2 x0 x3 x4 x6 x7 t0)))
def pc_X4_tell_57 (rec : Nat → CS → List Int → CO) (bd : cBd) (σ : CS) (x0 : Int) (x3 : Int) (x4 : Int) (x6 : Int) (x7 : Int) : CO :=
  pc_X4_tell_58 rec bd σ x0 x3 x4 x6 x7 0
def pc_X4_tell_0 (rec : Nat → CS → List Int → CO) (bd : cBd) (σ : CS) (x0 : Int) (x1 : Int) (x2 : Int) (x3 : Int) (x4 : Int) (x5 : Int) : CO :=
  cc_t σ 5 x0 (cc_cl (rec 85 σ [x0, x4]) (fun σ1 z3 => cc_t σ1 5 x0 (cc_cl (rec 83 σ1 [x0, x1, x2]) (fun σ4 z6 => cc_t σ4 2 z6 (cc_cl (rec 27 σ4 [z6]) (fun σ7 z9 => (if z9 = 0 then (if ¬ x5 = 2 then pc_X4_tell_57 rec bd σ7 x0 x3 x4 z6 z9 else cc_g σ7 2 3 z6 (fun z12 => (if z12 < 0 then pc_X4_tell_57 rec bd σ7 x0 x3 x4 z6 z9 else pc_X4_tell_58 rec bd σ7 x0 x3 x4 z6 z9 1))) else (if x5 = 0 then pc_X4_tell_58 rec bd σ7 x0 x3 x4 z6 z9 0 else pc_X4_tell_58 rec bd σ7 x0 x3 x4 z6 z9 1))))))))
def pc_X4_tellHead_37 (rec : Nat → CS → List Int → CO) (bd : cBd) (σ : CS) (t0 : Int) (t1 : Int) : CO :=
  cc_t σ 5 t1 (cc_cl (rec 91 σ [t1, t0]) (fun σ1 z3 => some (σ1, 0, 0)))
def pc_X4_tellHead_0 (rec : Nat → CS → List Int → CO) (bd : cBd) (σ : CS) (x0 : Int) (x1 : Int) : CO :=
  cc_t σ 5 x0 (cc_cl (rec 83 σ [x0, x1, (-1)]) (fun σ1 z3 => cc_t σ1 5 x0 (cc_cl (rec 90 σ1 [x0, z3]) (fun σ4 z6 => cc_t σ4 5 x0 (cc_cl (rec 88 σ4 [x0, 32]) (fun σ7 z9 => cc_t σ7 2 z3 (cc_cl (rec 27 σ7 [z3]) (fun σ10 z12 => (if z12 = 0 then cc_g σ10 2 3 z3 (fun z14 => cc_cl (rec 79 σ10 [z14]) (fun σ15 z17 => pc_X4_tellHead_37 rec bd σ15 z17 x0)) else pc_X4_tellHead_37 rec bd σ10 0 x0)))))))))
def pc_X4_tellWhole_0 (rec : Nat → CS → List Int → CO) (bd : cBd) (σ : CS) (x0 : Int) (x1 : Int) : CO :=
  cc_t σ 5 x0 (cc_cl (rec 94 σ [x0, x1, (-1), 0, 0, 0]) (fun σ1 z3 => some (σ1, 0, 0)))
def pc_X5_add_29 (rec : Nat → CS → List Int → CO) (bd : cBd) : Nat → CS → Int → Int → Int → Int → Int → CO
  | 0, _, _, _, _, _, _ => none
  | n + 1, σ, x0, x1, x2, x3, x4 =>
    (if x3 ≤ x4 then cc_g σ 6 1 x0 (fun z2 => cc_g σ 6 2 x0 (fun z3 => cc_w σ 21 z2 z3 x3 (fun σ4 => cc_g σ4 6 2 x0 (fun z5 => cc_ck (z5 + 1) (fun z6 => cc_p σ4 6 2 x0 z6 (fun σ7 => some (σ7, 0, 0))))))) else cc_g σ 6 0 x0 (fun z8 => cc_g σ 6 2 x0 (fun z9 => cc_ck (z9 * 12) (fun z10 => cc_ck (z10 + x4) (fun z11 => cc_ck (x2 + x4) (fun z12 => cc_r σ 20 x1 z12 (fun z13 => cc_w σ 20 z8 z11 (rn_b z13) (fun σ14 => cc_ck (x4 + 1) (fun z15 => pc_X5_add_29 rec bd n σ14 x0 x1 x2 x3 z15)))))))))
def pc_X5_add_0 (rec : Nat → CS → List Int → CO) (bd : cBd) (σ : CS) (x0 : Int) (x1 : Int) (x2 : Int) (x3 : Int) : CO :=
  cc_t σ 6 x0 (cc_cl (rec 102 σ [x0]) (fun σ1 z3 => (if ¬ z3 = 0 then some (σ1, 0, 0) else (if 12 < x3 then some (σ1, 0, 0) else (if x2 < 0 then some (σ1, 0, 0) else cc_ck (x2 + x3) (fun z7 => cc_l σ1 20 x1 (fun z8 => (if z7 ≤ z8 then pc_X5_add_29 rec bd 2000000 σ1 x0 x1 x2 x3 0 else some (σ1, 0, 0)))))))))
def pc_X5_agree_33 (rec : Nat → CS → List Int → CO) (bd : cBd) : Nat → CS → Int → Int → Int → Int → Int → Int → CO
  | 0, _, _, _, _, _, _, _ => none
  | n + 1, σ, x0, x1, x2, x3, x4, x5 =>
    (if x4 ≤ x5 then cc_bo 1 (some (σ, 0, 1)) else cc_ck (x1 + x5) (fun z2 => cc_r σ 20 x0 z2 (fun z3 => cc_ck (x3 + x5) (fun z4 => cc_r σ 20 x2 z4 (fun z5 => (if z3 = z5 then cc_ck (x5 + 1) (fun z7 => pc_X5_agree_33 rec bd n σ x0 x1 x2 x3 x4 z7) else cc_bo 0 (some (σ, 0, 0))))))))
def pc_X5_agree_0 (rec : Nat → CS → List Int → CO) (bd : cBd) (σ : CS) (x0 : Int) (x1 : Int) (x2 : Int) (x3 : Int) (x4 : Int) : CO :=
  (if x1 < 0 then cc_bo 0 (some (σ, 0, 0)) else cc_ck (x1 + x4) (fun z2 => cc_l σ 20 x0 (fun z3 => (if z2 ≤ z3 then (if x3 < 0 then cc_bo 0 (some (σ, 0, 0)) else cc_ck (x3 + x4) (fun z6 => cc_l σ 20 x2 (fun z7 => (if z6 ≤ z7 then pc_X5_agree_33 rec bd 2000000 σ x0 x1 x2 x3 x4 0 else cc_bo 0 (some (σ, 0, 0)))))) else cc_bo 0 (some (σ, 0, 0))))))
def pc_X5_find_44 (rec : Nat → CS → List Int → CO) (bd : cBd) (k3 : CS → Int → Int → Int → Int → Int → CO) (σ : CS) (x0 : Int) (x1 : Int) (x2 : Int) (x3 : Int) (x4 : Int) : CO :=
  cc_ck (x4 + 1) (fun z1 => k3 σ x0 x1 x2 x3 z1)
def pc_X5_find_3 (rec : Nat → CS → List Int → CO) (bd : cBd) : Nat → CS → Int → Int → Int → Int → Int → CO
  | 0, _, _, _, _, _, _ => none
  | n + 1, σ, x0, x1, x2, x3, x4 =>
    cc_g σ 6 2 x0 (fun z1 => (if z1 ≤ x4 then some (σ, 0, (-1)) else cc_g σ 6 1 x0 (fun z3 => cc_r σ 21 z3 x4 (fun z4 => (if ¬ z4 = x3 then pc_X5_find_44 rec bd (pc_X5_find_3 rec bd n) σ x0 x1 x2 x3 x4 else cc_g σ 6 0 x0 (fun z6 => cc_ck (x4 * 12) (fun z7 => cc_cl (rec 98 σ [z6, z7, x1, x2, x3]) (fun σ8 z10 => (if z10 = 0 then pc_X5_find_44 rec bd (pc_X5_find_3 rec bd n) σ8 x0 x1 x2 x3 x4 else some (σ8, 0, x4))))))))))
def pc_X5_find_0 (rec : Nat → CS → List Int → CO) (bd : cBd) (σ : CS) (x0 : Int) (x1 : Int) (x2 : Int) (x3 : Int) : CO :=
  pc_X5_find_3 rec bd 2000000 σ x0 x1 x2 x3 0
def pc_X5_has_0 (rec : Nat → CS → List Int → CO) (bd : cBd) (σ : CS) (x0 : Int) (x1 : Int) : CO :=
  (if x1 < 0 then cc_bo 0 (some (σ, 0, 0)) else cc_g σ 6 2 x0 (fun z2 => (if z2 ≤ x1 then cc_bo 0 (some (σ, 0, 0)) else cc_bo 1 (some (σ, 0, 1)))))
def pc_X5_init_0 (rec : Nat → CS → List Int → CO) (bd : cBd) (σ : CS) (x0 : Int) (x1 : Int) : CO :=
  cc_t σ 6 x0 (cc_p σ 6 2 x0 0 (fun σ1 => cc_ck (x1 * 12) (fun z2 => cc_na σ1 bd 20 z2 (fun σ3 z4 => cc_p σ3 6 0 x0 z4 (fun σ5 => cc_na σ5 bd 21 x1 (fun σ6 z7 => cc_p σ6 6 1 x0 z7 (fun σ8 => some (σ8, 0, 0))))))))
def pc_X5_isFull_0 (rec : Nat → CS → List Int → CO) (bd : cBd) (σ : CS) (x0 : Int) : CO :=
  cc_g σ 6 2 x0 (fun z1 => cc_g σ 6 1 x0 (fun z2 => cc_l σ 21 z2 (fun z3 => (if z1 < z3 then cc_bo 0 (some (σ, 0, 0)) else cc_bo 1 (some (σ, 0, 1))))))
def pc_X5_signOf_0 (rec : Nat → CS → List Int → CO) (bd : cBd) (σ : CS) (x0 : Int) (x1 : Int) (x2 : Int) : CO :=
  (if x1 < 0 then some (σ, 0, (-1)) else cc_g σ 6 2 x0 (fun z2 => (if z2 ≤ x1 then some (σ, 0, (-1)) else (if x2 < 0 then some (σ, 0, (-1)) else cc_g σ 6 1 x0 (fun z5 => cc_r σ 21 z5 x1 (fun z6 => (if x2 < z6 then cc_g σ 6 0 x0 (fun z8 => cc_ck (x1 * 12) (fun z9 => cc_ck (z9 + x2) (fun z10 => cc_r σ 20 z8 z10 (fun z11 => some (σ, 0, z11))))) else some (σ, 0, (-1)))))))))
def pc_X6_binder_0 (rec : Nat → CS → List Int → CO) (bd : cBd) (σ : CS) (x0 : Int) (x1 : Int) (x2 : Int) (x3 : Int) : CO :=
  cc_n σ bd 7 11 (fun σ1 z2 => cc_t σ1 7 z2 (cc_ci (rec 105 σ1 [z2, x0, x1]) (fun σ3 => cc_p σ3 7 6 z2 x2 (fun σ6 => cc_p σ6 7 7 z2 x3 (fun σ7 => some (σ7, 0, z2))))))
def pc_X6_init_0 (rec : Nat → CS → List Int → CO) (bd : cBd) (σ : CS) (x0 : Int) (x1 : Int) (x2 : Int) : CO :=
  cc_t σ 7 x0 (cc_p σ 7 2 x0 (-1) (fun σ1 => cc_p σ1 7 3 x0 (-1) (fun σ2 => cc_p σ2 7 4 x0 0 (fun σ3 => cc_p σ3 7 5 x0 0 (fun σ4 => cc_p σ4 7 6 x0 (-1) (fun σ5 => cc_p σ5 7 7 x0 (-1) (fun σ6 => cc_p σ6 7 8 x0 (-1) (fun σ7 => cc_p σ7 7 9 x0 (-1) (fun σ8 => cc_p σ8 7 10 x0 (-1) (fun σ9 => cc_p σ9 7 0 x0 x1 (fun σ10 => cc_p σ10 7 1 x0 x2 (fun σ11 => some (σ11, 0, 0)))))))))))))
def pc_X6_keepSorts_0 (rec : Nat → CS → List Int → CO) (bd : cBd) (σ : CS) (x0 : Int) (x1 : Int) (x2 : Int) : CO :=
  cc_p σ 7 9 x0 x1 (fun σ1 => cc_p σ1 7 10 x0 x2 (fun σ2 => some (σ2, 0, 0)))
def pc_X6_named_0 (rec : Nat → CS → List Int → CO) (bd : cBd) (σ : CS) (x0 : Int) (x1 : Int) : CO :=
  cc_n σ bd 7 11 (fun σ1 z2 => cc_t σ1 7 z2 (cc_ci (rec 105 σ1 [z2, 0, 0]) (fun σ3 => cc_p σ3 7 2 z2 x0 (fun σ6 => cc_p σ6 7 3 z2 x0 (fun σ7 => cc_p σ7 7 4 z2 x0 (fun σ8 => cc_p σ8 7 5 z2 x1 (fun σ9 => some (σ9, 0, z2))))))))
def pc_X6_use_0 (rec : Nat → CS → List Int → CO) (bd : cBd) (σ : CS) (x0 : Int) (x1 : Int) : CO :=
  cc_n σ bd 7 11 (fun σ1 z2 => cc_t σ1 7 z2 (cc_ci (rec 105 σ1 [z2, 7, 0]) (fun σ3 => cc_p σ3 7 6 z2 x0 (fun σ6 => cc_p σ6 7 8 z2 x1 (fun σ7 => cc_g σ7 7 2 x0 (fun z8 => cc_p σ7 7 2 z2 z8 (fun σ9 => cc_g σ9 7 3 x0 (fun z10 => cc_p σ9 7 3 z2 z10 (fun σ11 => some (σ11, 0, z2))))))))))
def pc_X7_advance_0 (rec : Nat → CS → List Int → CO) (bd : cBd) (σ : CS) (x0 : Int) : CO :=
  cc_g σ 8 6 x0 (fun z1 => cc_g σ 8 2 x0 (fun z2 => cc_l σ 21 z2 (fun z3 => (if z1 < z3 then cc_g σ 8 2 x0 (fun z5 => cc_g σ 8 6 x0 (fun z6 => cc_r σ 21 z5 z6 (fun z7 => cc_p σ 8 7 x0 z7 (fun σ8 => cc_g σ8 8 3 x0 (fun z9 => cc_g σ8 8 6 x0 (fun z10 => cc_r σ8 21 z9 z10 (fun z11 => cc_p σ8 8 8 x0 z11 (fun σ12 => cc_g σ12 8 4 x0 (fun z13 => cc_g σ12 8 6 x0 (fun z14 => cc_r σ12 21 z13 z14 (fun z15 => cc_p σ12 8 9 x0 z15 (fun σ16 => cc_g σ16 8 6 x0 (fun z17 => cc_ck (z17 + 1) (fun z18 => cc_p σ16 8 6 x0 z18 (fun σ19 => some (σ19, 0, 0)))))))))))))))) else some (σ, 0, 0)))))
def pc_X7_atom_0 (rec : Nat → CS → List Int → CO) (bd : cBd) (σ : CS) (x0 : Int) (x1 : Int) : CO :=
  cc_g σ 8 7 x0 (fun z1 => (if z1 = 40 then cc_g σ 8 8 x0 (fun z3 => cc_t σ 8 x0 (cc_cl (rec 109 σ [x0]) (fun σ4 z6 => cc_ck (x1 + 1) (fun z7 => cc_t σ4 8 x0 (cc_cl (rec 131 σ4 [x0, z7]) (fun σ8 z10 => cc_t σ8 8 x0 (cc_cl (rec 116 σ8 [x0, 41]) (fun σ11 z13 => cc_p σ11 7 3 z10 z3 (fun σ14 => some (σ14, 0, z10)))))))))) else cc_t σ 8 x0 (cc_cl (rec 130 σ [x0]) (fun σ15 z17 => some (σ15, 0, z17)))))
def pc_X7_atomBegins_0 (rec : Nat → CS → List Int → CO) (bd : cBd) (σ : CS) (x0 : Int) : CO :=
  cc_g σ 8 7 x0 (fun z1 => (if z1 = 256 then cc_bo 1 (some (σ, 0, 1)) else cc_g σ 8 7 x0 (fun z3 => (if ¬ z3 = 40 then cc_bo 0 (some (σ, 0, 0)) else cc_bo 1 (some (σ, 0, 1))))))
def pc_X7_axiom_0 (rec : Nat → CS → List Int → CO) (bd : cBd) (σ : CS) (x0 : Int) (x1 : Int) : CO :=
  cc_t σ 8 x0 (cc_cl (rec 130 σ [x0]) (fun σ1 z3 => cc_t σ1 8 x0 (cc_cl (rec 116 σ1 [x0, 58]) (fun σ4 z6 => cc_n σ4 bd 10 5 (fun σ7 z8 => cc_t σ7 8 x0 (cc_cl (rec 130 σ7 [x0]) (fun σ9 z11 => cc_t σ9 10 z8 (cc_ci (rec 137 σ9 [z8, 1, x1, z3, z11, (-1)]) (fun σ12 => some (σ12, 0, z8))))))))))
def pc_X7_behindBlanks_58 (rec : Nat → CS → List Int → CO) (bd : cBd) (k2 : CS → Int → Int → CO) (σ : CS) (x0 : Int) (x2 : Int) : CO :=
  cc_ck (x2 + 1) (fun z1 => k2 σ x0 z1)
def pc_X7_behindBlanks_2 (rec : Nat → CS → List Int → CO) (bd : cBd) : Nat → CS → Int → Int → CO
  | 0, _, _, _ => none
  | n + 1, σ, x0, x2 =>
    cc_g σ 8 5 x0 (fun z1 => (if z1 ≤ x2 then some (σ, 0, x2) else cc_g σ 8 0 x0 (fun z3 => cc_r σ 20 z3 x2 (fun z4 => (if ¬ z4 = 123 then (if z4 = 10 then pc_X7_behindBlanks_58 rec bd (pc_X7_behindBlanks_2 rec bd n) σ x0 x2 else (if z4 = 32 then pc_X7_behindBlanks_58 rec bd (pc_X7_behindBlanks_2 rec bd n) σ x0 x2 else some (σ, 0, x2))) else cc_t σ 8 x0 (cc_cl (rec 115 σ [x0, x2]) (fun σ8 z10 => (if ¬ z10 = (-1) then pc_X7_behindBlanks_58 rec bd (pc_X7_behindBlanks_2 rec bd n) σ8 x0 z10 else some (σ8, 0, x2)))))))))
def pc_X7_behindBlanks_0 (rec : Nat → CS → List Int → CO) (bd : cBd) (σ : CS) (x0 : Int) (x1 : Int) : CO :=
  pc_X7_behindBlanks_2 rec bd 2000000 σ x0 x1
def pc_X7_binder_85 (rec : Nat → CS → List Int → CO) (bd : cBd) (σ : CS) (x0 : Int) (x1 : Int) (x2 : Int) (x4 : Int) (x5 : Int) (x6 : Int) (t0 : Int) (t1 : Int) : CO :=
  cc_t σ 8 t1 (cc_cl (rec 116 σ [t1, t0]) (fun σ1 z3 => cc_t σ1 8 x0 (cc_cl (rec 123 σ1 [x0]) (fun σ4 z6 => cc_ck (x1 + 1) (fun z7 => cc_t σ4 8 x0 (cc_cl (rec 131 σ4 [x0, z7]) (fun σ8 z10 => cc_cl (rec 104 σ8 [x4, z6, x6, z10]) (fun σ11 z13 => cc_p σ11 7 2 z13 x2 (fun σ14 => cc_p σ14 7 3 z13 x2 (fun σ15 => cc_g σ15 7 4 x5 (fun z16 => cc_p σ15 7 4 z13 z16 (fun σ17 => cc_g σ17 7 5 x5 (fun z18 => cc_p σ17 7 5 z13 z18 (fun σ19 => some (σ19, 0, z13)))))))))))))))
def pc_X7_binder_59 (rec : Nat → CS → List Int → CO) (bd : cBd) (σ : CS) (x0 : Int) (x1 : Int) (x2 : Int) (x3 : Int) (x4 : Int) (x5 : Int) (t0 : Int) (t1 : Int) : CO :=
  cc_t σ 8 t1 (cc_cl (rec 116 σ [t1, t0]) (fun σ1 z3 => cc_ck (x1 + 1) (fun z4 => cc_t σ1 8 x0 (cc_cl (rec 131 σ1 [x0, z4]) (fun σ5 z7 => (if ¬ x3 = 7 then pc_X7_binder_85 rec bd σ5 x0 x1 x2 x4 x5 z7 46 x0 else pc_X7_binder_85 rec bd σ5 x0 x1 x2 x4 x5 z7 8 x0))))))
def pc_X7_binder_32 (rec : Nat → CS → List Int → CO) (bd : cBd) (σ : CS) (x0 : Int) (x1 : Int) (x2 : Int) (x3 : Int) (t0 : Int) : CO :=
  cc_t σ 8 x0 (cc_cl (rec 109 σ [x0]) (fun σ1 z3 => cc_t σ1 8 x0 (cc_cl (rec 130 σ1 [x0]) (fun σ4 z6 => (if ¬ x3 = 7 then pc_X7_binder_59 rec bd σ4 x0 x1 x2 x3 t0 z6 58 x0 else pc_X7_binder_59 rec bd σ4 x0 x1 x2 x3 t0 z6 258 x0)))))
def pc_X7_binder_0 (rec : Nat → CS → List Int → CO) (bd : cBd) (σ : CS) (x0 : Int) (x1 : Int) : CO :=
  cc_g σ 8 8 x0 (fun z1 => cc_g σ 8 7 x0 (fun z2 => (if ¬ z2 = 7 then (if ¬ z2 = 33 then pc_X7_binder_32 rec bd σ x0 x1 z1 z2 4 else pc_X7_binder_32 rec bd σ x0 x1 z1 z2 5) else pc_X7_binder_32 rec bd σ x0 x1 z1 z2 6)))
def pc_X7_closeOf_4 (rec : Nat → CS → List Int → CO) (bd : cBd) : Nat → CS → Int → Int → CO
  | 0, _, _, _ => none
  | n + 1, σ, x0, x2 =>
    cc_g σ 8 5 x0 (fun z1 => (if z1 ≤ x2 then some (σ, 0, (-1)) else cc_g σ 8 0 x0 (fun z3 => cc_r σ 20 z3 x2 (fun z4 => (if ¬ z4 = 125 then cc_ck (x2 + 1) (fun z6 => pc_X7_closeOf_4 rec bd n σ x0 z6) else some (σ, 0, x2))))))
def pc_X7_closeOf_0 (rec : Nat → CS → List Int → CO) (bd : cBd) (σ : CS) (x0 : Int) (x1 : Int) : CO :=
  cc_ck (x1 + 1) (fun z1 => pc_X7_closeOf_4 rec bd 2000000 σ x0 z1)
def pc_X7_expect_12 (rec : Nat → CS → List Int → CO) (bd : cBd) (σ : CS) (x0 : Int) : CO :=
  cc_t σ 8 x0 (cc_cl (rec 109 σ [x0]) (fun σ1 z3 => some (σ1, 0, 0)))
def pc_X7_expect_0 (rec : Nat → CS → List Int → CO) (bd : cBd) (σ : CS) (x0 : Int) (x1 : Int) : CO :=
  cc_g σ 8 7 x0 (fun z1 => (if z1 = x1 then pc_X7_expect_12 rec bd σ x0 else cc_t σ 8 x0 (cc_cl (rec 125 σ [x0]) (fun σ3 z5 => pc_X7_expect_12 rec bd σ3 x0))))
def pc_X7_init_0 (rec : Nat → CS → List Int → CO) (bd : cBd) (σ : CS) (x0 : Int) (x1 : Int) (x2 : Int) : CO :=
  cc_t σ 8 x0 (cc_p σ 8 5 x0 0 (fun σ1 => cc_p σ1 8 6 x0 0 (fun σ2 => cc_p σ2 8 7 x0 261 (fun σ3 => cc_p σ3 8 8 x0 0 (fun σ4 => cc_p σ4 8 9 x0 0 (fun σ5 => cc_p σ5 8 10 x0 0 (fun σ6 => cc_p σ6 8 0 x0 x1 (fun σ7 => cc_p σ7 8 1 x0 x2 (fun σ8 => cc_l σ8 20 x1 (fun z9 => cc_ck (z9 + 1) (fun z10 => cc_na σ8 bd 21 z10 (fun σ11 z12 => cc_p σ11 8 2 x0 z12 (fun σ13 => cc_l σ13 20 x1 (fun z14 => cc_ck (z14 + 1) (fun z15 => cc_na σ13 bd 21 z15 (fun σ16 z17 => cc_p σ16 8 3 x0 z17 (fun σ18 => cc_l σ18 20 x1 (fun z19 => cc_ck (z19 + 1) (fun z20 => cc_na σ18 bd 21 z20 (fun σ21 z22 => cc_p σ21 8 4 x0 z22 (fun σ23 => some (σ23, 0, 0))))))))))))))))))))))
def pc_X7_isLetter_12 (rec : Nat → CS → List Int → CO) (bd : cBd) (σ : CS) (x0 : Int) : CO :=
  (if x0 < 65 then cc_bo 0 (some (σ, 0, 0)) else (if 90 < x0 then cc_bo 0 (some (σ, 0, 0)) else cc_bo 1 (some (σ, 0, 1))))
def pc_X7_isLetter_0 (rec : Nat → CS → List Int → CO) (bd : cBd) (σ : CS) (x0 : Int) : CO :=
  (if x0 < 97 then pc_X7_isLetter_12 rec bd σ x0 else (if x0 ≤ 122 then cc_bo 1 (some (σ, 0, 1)) else pc_X7_isLetter_12 rec bd σ x0))
def pc_X7_isNameSign_19 (rec : Nat → CS → List Int → CO) (bd : cBd) (σ : CS) (x0 : Int) : CO :=
  (if ¬ x0 = 39 then cc_bo 0 (some (σ, 0, 0)) else cc_bo 1 (some (σ, 0, 1)))
def pc_X7_isNameSign_0 (rec : Nat → CS → List Int → CO) (bd : cBd) (σ : CS) (x0 : Int) : CO :=
  cc_cl (rec 118 σ [x0]) (fun σ1 z3 => (if ¬ z3 = 0 then cc_bo 1 (some (σ1, 0, 1)) else (if x0 < 48 then pc_X7_isNameSign_19 rec bd σ1 x0 else (if x0 ≤ 57 then cc_bo 1 (some (σ1, 0, 1)) else pc_X7_isNameSign_19 rec bd σ1 x0))))
def pc_X7_isWord_2 (rec : Nat → CS → List Int → CO) (bd : cBd) : Nat → CS → Int → Int → Int → CO
  | 0, _, _, _, _ => none
  | n + 1, σ, x0, x1, x2 =>
    cc_g σ 8 9 x0 (fun z1 => (if z1 ≤ x2 then cc_gs bd 0 (fun z3 => cc_g σ 8 9 x0 (fun z4 => cc_ck (x1 + z4) (fun z5 => cc_sc bd z3 z5 (fun z6 => (if ¬ z6 = 32 then cc_bo 0 (some (σ, 0, 0)) else cc_bo 1 (some (σ, 0, 1))))))) else cc_gs bd 0 (fun z8 => cc_ck (x1 + x2) (fun z9 => cc_sc bd z8 z9 (fun z10 => cc_g σ 8 0 x0 (fun z11 => cc_g σ 8 8 x0 (fun z12 => cc_ck (z12 + x2) (fun z13 => cc_r σ 20 z11 z13 (fun z14 => (if z10 = z14 then cc_ck (x2 + 1) (fun z16 => pc_X7_isWord_2 rec bd n σ x0 x1 z16) else cc_bo 0 (some (σ, 0, 0))))))))))))
def pc_X7_isWord_0 (rec : Nat → CS → List Int → CO) (bd : cBd) (σ : CS) (x0 : Int) (x1 : Int) : CO :=
  pc_X7_isWord_2 rec bd 2000000 σ x0 x1 0
def pc_X7_nameStatement_73 (rec : Nat → CS → List Int → CO) (bd : cBd) (σ : CS) (x1 : Int) (x2 : Int) (x3 : Int) (x4 : Int) : CO :=
  cc_n σ bd 10 5 (fun σ1 z2 => cc_t σ1 10 z2 (cc_ci (rec 137 σ1 [z2, 7, x1, x2, x3, x4]) (fun σ3 => some (σ3, 0, z2))))
def pc_X7_nameStatement_0 (rec : Nat → CS → List Int → CO) (bd : cBd) (σ : CS) (x0 : Int) (x1 : Int) : CO :=
  cc_t σ 8 x0 (cc_cl (rec 130 σ [x0]) (fun σ1 z3 => cc_g σ1 8 7 x0 (fun z4 => (if ¬ z4 = 258 then cc_t σ1 8 x0 (cc_cl (rec 116 σ1 [x0, 58]) (fun σ6 z8 => cc_t σ6 8 x0 (cc_cl (rec 131 σ6 [x0, 0]) (fun σ9 z11 => cc_g σ9 8 7 x0 (fun z12 => (if ¬ z12 = 258 then pc_X7_nameStatement_73 rec bd σ9 x1 z3 z11 (-1) else cc_t σ9 8 x0 (cc_cl (rec 109 σ9 [x0]) (fun σ14 z16 => cc_t σ14 8 x0 (cc_cl (rec 131 σ14 [x0, 0]) (fun σ17 z19 => pc_X7_nameStatement_73 rec bd σ17 x1 z3 z11 z19)))))))))) else cc_t σ1 8 x0 (cc_cl (rec 109 σ1 [x0]) (fun σ20 z22 => cc_n σ20 bd 10 5 (fun σ23 z24 => cc_t σ23 8 x0 (cc_cl (rec 131 σ23 [x0, 0]) (fun σ25 z27 => cc_t σ25 10 z24 (cc_ci (rec 137 σ25 [z24, 8, x1, z3, z27, (-1)]) (fun σ28 => some (σ28, 0, z24))))))))))))
def pc_X7_nameToken_33 (rec : Nat → CS → List Int → CO) (bd : cBd) (σ : CS) (x0 : Int) (x1 : Int) : CO :=
  cc_g σ 8 8 x0 (fun z1 => cc_ck (x1 - z1) (fun z2 => cc_p σ 8 9 x0 z2 (fun σ3 => cc_t σ3 8 x0 (cc_cl (rec 134 σ3 [x0]) (fun σ4 z6 => (if z6 = (-1) then cc_g σ4 8 9 x0 (fun z8 => (if z8 ≤ 12 then some (σ4, 0, 256) else some (σ4, 0, 257))) else some (σ4, 0, z6)))))))
def pc_X7_nameToken_7 (rec : Nat → CS → List Int → CO) (bd : cBd) : Nat → CS → Int → Int → CO
  | 0, _, _, _ => none
  | n + 1, σ, x0, x1 =>
    cc_g σ 8 5 x0 (fun z1 => (if z1 ≤ x1 then pc_X7_nameToken_33 rec bd σ x0 x1 else cc_g σ 8 0 x0 (fun z3 => cc_r σ 20 z3 x1 (fun z4 => cc_cl (rec 119 σ [z4]) (fun σ5 z7 => (if z7 = 0 then pc_X7_nameToken_33 rec bd σ5 x0 x1 else cc_ck (x1 + 1) (fun z9 => pc_X7_nameToken_7 rec bd n σ5 x0 z9)))))))
def pc_X7_nameToken_0 (rec : Nat → CS → List Int → CO) (bd : cBd) (σ : CS) (x0 : Int) : CO :=
  cc_g σ 8 8 x0 (fun z1 => cc_ck (z1 + 1) (fun z2 => pc_X7_nameToken_7 rec bd 2000000 σ x0 z2))
def pc_X7_newId_0 (rec : Nat → CS → List Int → CO) (bd : cBd) (σ : CS) (x0 : Int) : CO :=
  cc_g σ 8 10 x0 (fun z1 => cc_ck (z1 + 1) (fun z2 => cc_p σ 8 10 x0 z2 (fun σ3 => cc_g σ3 8 10 x0 (fun z4 => some (σ3, 0, z4)))))
def pc_X7_readText_36 (rec : Nat → CS → List Int → CO) (bd : cBd) : Nat → CS → Int → Int → Int → CO
  | 0, _, _, _, _ => none
  | n + 1, σ, x0, x2, x3 =>
    cc_g σ 8 5 x0 (fun z1 => (if z1 ≤ x3 then some (σ, 0, x2) else cc_g σ 8 7 x0 (fun z3 => (if z3 = 261 then some (σ, 0, x2) else cc_t σ 8 x0 (cc_cl (rec 129 σ [x0]) (fun σ5 z7 => cc_t σ5 13 x2 (cc_cn (rec 7 σ5 [x2, z7]) (fun σ8 z10 => cc_t σ8 8 x0 (cc_cl (rec 116 σ8 [x0, 59]) (fun σ11 z13 => cc_ck (x3 + 1) (fun z14 => pc_X7_readText_36 rec bd n σ11 x0 x2 z14)))))))))))
def pc_X7_readText_0 (rec : Nat → CS → List Int → CO) (bd : cBd) (σ : CS) (x0 : Int) (x1 : Int) : CO :=
  cc_g σ 8 0 x0 (fun z1 => cc_l σ 20 z1 (fun z2 => cc_mn x1 z2 (fun z3 => cc_p σ 8 5 x0 z3 (fun σ4 => cc_t σ4 8 x0 (cc_cl (rec 127 σ4 [x0]) (fun σ5 z7 => cc_p σ5 8 6 x0 0 (fun σ8 => cc_n σ8 bd 13 3 (fun σ9 z10 => cc_t σ9 13 z10 (cc_ci (rec 12 σ9 [z10]) (fun σ11 => cc_t σ11 8 x0 (cc_cl (rec 109 σ11 [x0]) (fun σ14 z16 => pc_X7_readText_36 rec bd 2000000 σ14 x0 z10 0))))))))))))
def pc_X7_refuse_19 (rec : Nat → CS → List Int → CO) (bd : cBd) (σ : CS) (x0 : Int) (t0 : Int) (t1 : Int) : CO :=
  cc_g σ 8 8 x0 (fun z1 => cc_t σ 11 t1 (cc_cl (rec 30 σ [t1, t0, z1]) (fun σ2 z4 => cc_x σ2 bd 1)))
def pc_X7_refuse_0 (rec : Nat → CS → List Int → CO) (bd : cBd) (σ : CS) (x0 : Int) : CO :=
  cc_g σ 8 1 x0 (fun z1 => cc_g σ 8 7 x0 (fun z2 => (if ¬ z2 = 257 then pc_X7_refuse_19 rec bd σ x0 1 z1 else pc_X7_refuse_19 rec bd σ x0 2 z1)))
def pc_X7_sameStatement_0 (rec : Nat → CS → List Int → CO) (bd : cBd) (σ : CS) (x0 : Int) (x1 : Int) : CO :=
  cc_t σ 8 x0 (cc_cl (rec 131 σ [x0, 0]) (fun σ1 z3 => cc_t σ1 8 x0 (cc_cl (rec 116 σ1 [x0, 61]) (fun σ4 z6 => cc_n σ4 bd 10 5 (fun σ7 z8 => cc_t σ7 8 x0 (cc_cl (rec 131 σ7 [x0, 0]) (fun σ9 z11 => cc_t σ9 10 z8 (cc_ci (rec 137 σ9 [z8, 5, x1, (-1), z3, z11]) (fun σ12 => some (σ12, 0, z8))))))))))
def pc_X7_scan_80 (rec : Nat → CS → List Int → CO) (bd : cBd) (k4 : CS → Int → Int → Int → CO) (σ : CS) (x0 : Int) (x1 : Int) (x2 : Int) : CO :=
  cc_g σ 8 2 x0 (fun z1 => cc_g σ 8 7 x0 (fun z2 => cc_w σ 21 z1 x2 z2 (fun σ3 => cc_g σ3 8 3 x0 (fun z4 => cc_w σ3 21 z4 x2 x1 (fun σ5 => cc_g σ5 8 4 x0 (fun z6 => cc_g σ5 8 9 x0 (fun z7 => cc_w σ5 21 z6 x2 z7 (fun σ8 => cc_g σ8 8 7 x0 (fun z9 => (if z9 = 261 then some (σ8, 0, 0) else cc_g σ8 8 7 x0 (fun z11 => (if ¬ z11 = 260 then cc_g σ8 8 9 x0 (fun z13 => cc_ck (x1 + z13) (fun z14 => cc_ck (x2 + 1) (fun z15 => k4 σ8 x0 z14 z15))) else some (σ8, 0, 0)))))))))))))
def pc_X7_scan_77 (rec : Nat → CS → List Int → CO) (bd : cBd) (k4 : CS → Int → Int → Int → CO) (σ : CS) (x0 : Int) (x1 : Int) (x2 : Int) (t0 : Int) (t1 : Int) : CO :=
  cc_p σ 8 7 t1 t0 (fun σ1 => pc_X7_scan_80 rec bd k4 σ1 x0 x1 x2)
def pc_X7_scan_4 (rec : Nat → CS → List Int → CO) (bd : cBd) : Nat → CS → Int → Int → Int → CO
  | 0, _, _, _, _ => none
  | n + 1, σ, x0, x1, x2 =>
    cc_g σ 8 2 x0 (fun z1 => cc_l σ 21 z1 (fun z2 => (if z2 ≤ x2 then some (σ, 0, 0) else cc_t σ 8 x0 (cc_cl (rec 113 σ [x0, x1]) (fun σ4 z6 => cc_p σ4 8 8 x0 z6 (fun σ7 => cc_p σ7 8 9 x0 1 (fun σ8 => cc_g σ8 8 5 x0 (fun z9 => (if z6 < z9 then cc_g σ8 8 0 x0 (fun z11 => cc_r σ8 20 z11 z6 (fun z12 => cc_cl (rec 118 σ8 [z12]) (fun σ13 z15 => (if z15 = 0 then cc_g σ13 8 0 x0 (fun z17 => cc_r σ13 20 z17 z6 (fun z18 => cc_t σ13 8 x0 (cc_cl (rec 128 σ13 [x0, z18]) (fun σ19 z21 => pc_X7_scan_77 rec bd (pc_X7_scan_4 rec bd n) σ19 x0 z6 x2 z21 x0)))) else cc_t σ13 8 x0 (cc_cl (rec 122 σ13 [x0]) (fun σ22 z24 => pc_X7_scan_77 rec bd (pc_X7_scan_4 rec bd n) σ22 x0 z6 x2 z24 x0)))))) else cc_p σ8 8 7 x0 261 (fun σ25 => pc_X7_scan_80 rec bd (pc_X7_scan_4 rec bd n) σ25 x0 z6 x2))))))))))
def pc_X7_scan_0 (rec : Nat → CS → List Int → CO) (bd : cBd) (σ : CS) (x0 : Int) : CO :=
  pc_X7_scan_4 rec bd 2000000 σ x0 0 0
def pc_X7_signToken_71 (rec : Nat → CS → List Int → CO) (bd : cBd) (σ : CS) (x1 : Int) : CO :=
  (if x1 = 33 then some (σ, 0, x1) else (if x1 = 40 then some (σ, 0, x1) else (if x1 = 41 then some (σ, 0, x1) else (if x1 = 44 then some (σ, 0, x1) else (if x1 = 46 then some (σ, 0, x1) else (if x1 = 58 then some (σ, 0, x1) else (if x1 = 59 then some (σ, 0, x1) else (if x1 = 61 then some (σ, 0, x1) else (if x1 = 92 then some (σ, 0, x1) else some (σ, 0, 260))))))))))
def pc_X7_signToken_50 (rec : Nat → CS → List Int → CO) (bd : cBd) (σ : CS) (x0 : Int) (x1 : Int) (x2 : Int) : CO :=
  (if ¬ x1 = 45 then pc_X7_signToken_71 rec bd σ x1 else (if ¬ x2 = 62 then pc_X7_signToken_71 rec bd σ x1 else cc_p σ 8 9 x0 2 (fun σ3 => some (σ3, 0, 259))))
def pc_X7_signToken_28 (rec : Nat → CS → List Int → CO) (bd : cBd) (σ : CS) (x0 : Int) (x1 : Int) (t0 : Int) : CO :=
  (if ¬ x1 = 58 then pc_X7_signToken_50 rec bd σ x0 x1 t0 else (if ¬ t0 = 61 then pc_X7_signToken_50 rec bd σ x0 x1 t0 else cc_p σ 8 9 x0 2 (fun σ3 => some (σ3, 0, 258))))
def pc_X7_signToken_0 (rec : Nat → CS → List Int → CO) (bd : cBd) (σ : CS) (x0 : Int) (x1 : Int) : CO :=
  cc_g σ 8 8 x0 (fun z1 => cc_ck (z1 + 1) (fun z2 => cc_g σ 8 5 x0 (fun z3 => (if z3 ≤ z2 then pc_X7_signToken_28 rec bd σ x0 x1 (-1) else cc_g σ 8 0 x0 (fun z5 => cc_g σ 8 8 x0 (fun z6 => cc_ck (z6 + 1) (fun z7 => cc_r σ 20 z5 z7 (fun z8 => pc_X7_signToken_28 rec bd σ x0 x1 z8))))))))
def pc_X7_statement_130 (rec : Nat → CS → List Int → CO) (bd : cBd) (σ : CS) (x0 : Int) (x1 : Int) (x2 : Int) : CO :=
  cc_t σ 8 x0 (cc_cl (rec 132 σ [x0, x2, x1]) (fun σ1 z3 => some (σ1, 0, z3)))
def pc_X7_statement_37 (rec : Nat → CS → List Int → CO) (bd : cBd) (σ : CS) (x0 : Int) (x1 : Int) (x2 : Int) : CO :=
  cc_t σ 8 x0 (cc_cl (rec 109 σ [x0]) (fun σ1 z3 => (if x2 = 0 then cc_n σ1 bd 10 5 (fun σ5 z6 => cc_t σ5 8 x0 (cc_cl (rec 130 σ5 [x0]) (fun σ7 z9 => cc_t σ7 10 z6 (cc_ci (rec 137 σ7 [z6, x2, x1, z9, (-1), (-1)]) (fun σ10 => some (σ10, 0, z6)))))) else (if x2 = 1 then cc_t σ1 8 x0 (cc_cl (rec 112 σ1 [x0, x1]) (fun σ14 z16 => some (σ14, 0, z16))) else (if x2 = 2 then cc_n σ1 bd 10 5 (fun σ18 z19 => cc_t σ18 8 x0 (cc_cl (rec 130 σ18 [x0]) (fun σ20 z22 => cc_t σ20 8 x0 (cc_cl (rec 130 σ20 [x0]) (fun σ23 z25 => cc_t σ23 8 x0 (cc_cl (rec 130 σ23 [x0]) (fun σ26 z28 => cc_t σ26 10 z19 (cc_ci (rec 137 σ26 [z19, x2, x1, z22, z25, z28]) (fun σ29 => some (σ29, 0, z19)))))))))) else (if x2 = 3 then pc_X7_statement_130 rec bd σ1 x0 x1 x2 else (if x2 = 4 then pc_X7_statement_130 rec bd σ1 x0 x1 x2 else (if x2 = 5 then cc_t σ1 8 x0 (cc_cl (rec 126 σ1 [x0, x1]) (fun σ35 z37 => some (σ35, 0, z37))) else pc_X7_statement_130 rec bd σ1 x0 x1 x2))))))))
def pc_X7_statement_33 (rec : Nat → CS → List Int → CO) (bd : cBd) (σ : CS) (x0 : Int) (x1 : Int) (x2 : Int) : CO :=
  cc_t σ 8 x0 (cc_cl (rec 125 σ [x0]) (fun σ1 z3 => pc_X7_statement_37 rec bd σ1 x0 x1 x2))
def pc_X7_statement_0 (rec : Nat → CS → List Int → CO) (bd : cBd) (σ : CS) (x0 : Int) : CO :=
  cc_g σ 8 8 x0 (fun z1 => cc_g σ 8 7 x0 (fun z2 => (if ¬ z2 = 256 then (if z2 < 0 then pc_X7_statement_33 rec bd σ x0 z1 z2 else (if z2 ≤ 6 then pc_X7_statement_37 rec bd σ x0 z1 z2 else pc_X7_statement_33 rec bd σ x0 z1 z2)) else cc_t σ 8 x0 (cc_cl (rec 121 σ [x0, z1]) (fun σ6 z8 => some (σ6, 0, z8))))))
def pc_X7_takeName_14 (rec : Nat → CS → List Int → CO) (bd : cBd) (σ : CS) (x0 : Int) : CO :=
  cc_g σ 8 8 x0 (fun z1 => cc_g σ 8 9 x0 (fun z2 => cc_cl (rec 107 σ [z1, z2]) (fun σ3 z5 => cc_t σ3 8 x0 (cc_cl (rec 109 σ3 [x0]) (fun σ6 z8 => some (σ6, 0, z5))))))
def pc_X7_takeName_0 (rec : Nat → CS → List Int → CO) (bd : cBd) (σ : CS) (x0 : Int) : CO :=
  cc_g σ 8 7 x0 (fun z1 => (if z1 = 256 then pc_X7_takeName_14 rec bd σ x0 else cc_t σ 8 x0 (cc_cl (rec 125 σ [x0]) (fun σ3 z5 => pc_X7_takeName_14 rec bd σ3 x0))))
def pc_X7_term_63 (rec : Nat → CS → List Int → CO) (bd : cBd) (σ : CS) (x0 : Int) (x1 : Int) : CO :=
  cc_t σ 8 x0 (cc_cl (rec 114 σ [x0, x1]) (fun σ1 z3 => some (σ1, 0, z3)))
def pc_X7_term_36 (rec : Nat → CS → List Int → CO) (bd : cBd) (σ : CS) (x0 : Int) (x1 : Int) : CO :=
  cc_g σ 8 7 x0 (fun z1 => (if z1 = 92 then pc_X7_term_63 rec bd σ x0 x1 else cc_g σ 8 7 x0 (fun z3 => (if z3 = 33 then pc_X7_term_63 rec bd σ x0 x1 else cc_g σ 8 7 x0 (fun z5 => (if ¬ z5 = 7 then cc_t σ 8 x0 (cc_cl (rec 133 σ [x0, x1]) (fun σ7 z9 => cc_g σ7 8 7 x0 (fun z10 => (if z10 = 259 then cc_g σ7 8 8 x0 (fun z12 => cc_t σ7 8 x0 (cc_cl (rec 109 σ7 [x0]) (fun σ13 z15 => cc_t σ13 8 x0 (cc_cl (rec 123 σ13 [x0]) (fun σ16 z18 => cc_ck (x1 + 1) (fun z19 => cc_t σ16 8 x0 (cc_cl (rec 131 σ16 [x0, z19]) (fun σ20 z22 => cc_cl (rec 104 σ20 [5, z18, z9, z22]) (fun σ23 z25 => cc_p σ23 7 2 z25 z12 (fun σ26 => cc_g σ26 7 3 z9 (fun z27 => cc_p σ26 7 3 z25 z27 (fun σ28 => some (σ28, 0, z25))))))))))))) else some (σ7, 0, z9))))) else pc_X7_term_63 rec bd σ x0 x1))))))
def pc_X7_term_0 (rec : Nat → CS → List Int → CO) (bd : cBd) (σ : CS) (x0 : Int) (x1 : Int) : CO :=
  (if x1 < 40 then pc_X7_term_36 rec bd σ x0 x1 else cc_g σ 8 7 x0 (fun z2 => (if z2 = 261 then pc_X7_term_36 rec bd σ x0 x1 else cc_g σ 8 1 x0 (fun z4 => cc_g σ 8 8 x0 (fun z5 => cc_t σ 11 z4 (cc_cl (rec 30 σ [z4, 2, z5]) (fun σ6 z8 => cc_x σ6 bd 1)))))))
def pc_X7_termStatement_34 (rec : Nat → CS → List Int → CO) (bd : cBd) (σ : CS) (x1 : Int) (x2 : Int) (x3 : Int) (x4 : Int) : CO :=
  cc_n σ bd 10 5 (fun σ1 z2 => cc_t σ1 10 z2 (cc_ci (rec 137 σ1 [z2, x1, x2, (-1), x3, x4]) (fun σ3 => some (σ3, 0, z2))))
def pc_X7_termStatement_0 (rec : Nat → CS → List Int → CO) (bd : cBd) (σ : CS) (x0 : Int) (x1 : Int) (x2 : Int) : CO :=
  cc_t σ 8 x0 (cc_cl (rec 131 σ [x0, 0]) (fun σ1 z3 => (if ¬ x1 = 3 then pc_X7_termStatement_34 rec bd σ1 x1 x2 z3 (-1) else cc_g σ1 8 7 x0 (fun z5 => (if ¬ z5 = 58 then pc_X7_termStatement_34 rec bd σ1 x1 x2 z3 (-1) else cc_t σ1 8 x0 (cc_cl (rec 109 σ1 [x0]) (fun σ7 z9 => cc_t σ7 8 x0 (cc_cl (rec 131 σ7 [x0, 0]) (fun σ10 z12 => pc_X7_termStatement_34 rec bd σ10 x1 x2 z3 z12)))))))))
def pc_X7_use_74 (rec : Nat → CS → List Int → CO) (bd : cBd) : Nat → CS → Int → Int → Int → Int → CO
  | 0, _, _, _, _, _ => none
  | n + 1, σ, x2, x3, x4, x5 =>
    cc_l σ 22 x4 (fun z1 => (if z1 ≤ x5 then cc_cl (rec 108 σ [x2, x4]) (fun σ3 z5 => some (σ3, 0, z5)) else cc_t σ 13 x3 (cc_cn (rec 9 σ [x3, x5]) (fun σ6 z8 => cc_t σ6 7 z8 (cc_tn σ6 7 z8 (cc_w σ6 22 x4 x5 z8 (fun σ10 => cc_ck (x5 + 1) (fun z11 => pc_X7_use_74 rec bd n σ10 x2 x3 x4 z11))))))))
def pc_X7_use_60 (rec : Nat → CS → List Int → CO) (bd : cBd) (σ : CS) (x2 : Int) (x3 : Int) : CO :=
  cc_t σ 13 x3 (cc_cn (rec 13 σ [x3]) (fun σ1 z3 => cc_na σ1 bd 22 z3 (fun σ4 z5 => pc_X7_use_74 rec bd 2000000 σ4 x2 x3 z5 0)))
def pc_X7_use_26 (rec : Nat → CS → List Int → CO) (bd : cBd) : Nat → CS → Int → Int → Int → Int → Int → CO
  | 0, _, _, _, _, _, _ => none
  | n + 1, σ, x0, x1, x2, x3, x4 =>
    cc_g σ 8 5 x0 (fun z1 => (if z1 ≤ x4 then pc_X7_use_60 rec bd σ x2 x3 else cc_t σ 8 x0 (cc_cl (rec 111 σ [x0]) (fun σ3 z5 => (if z5 = 0 then pc_X7_use_60 rec bd σ3 x2 x3 else cc_t σ3 8 x0 (cc_cl (rec 110 σ3 [x0, x1]) (fun σ7 z9 => cc_t σ7 13 x3 (cc_cn (rec 7 σ7 [x3, z9]) (fun σ10 z12 => cc_ck (x4 + 1) (fun z13 => pc_X7_use_26 rec bd n σ10 x0 x1 x2 x3 z13))))))))))
def pc_X7_use_0 (rec : Nat → CS → List Int → CO) (bd : cBd) (σ : CS) (x0 : Int) (x1 : Int) : CO :=
  cc_t σ 8 x0 (cc_cl (rec 110 σ [x0, x1]) (fun σ1 z3 => cc_t σ1 8 x0 (cc_cl (rec 111 σ1 [x0]) (fun σ4 z6 => (if ¬ z6 = 0 then cc_n σ4 bd 13 3 (fun σ8 z9 => cc_t σ8 13 z9 (cc_ci (rec 12 σ8 [z9]) (fun σ10 => pc_X7_use_26 rec bd 2000000 σ10 x0 x1 z3 z9 0))) else some (σ4, 0, z3))))))
def pc_X7_wordNumber_13 (rec : Nat → CS → List Int → CO) (bd : cBd) : Nat → CS → Int → Int → CO
  | 0, _, _, _ => none
  | n + 1, σ, x0, x1 =>
    (if 9 ≤ x1 then some (σ, 0, (-1)) else cc_ck (x1 * 6) (fun z2 => cc_t σ 8 x0 (cc_cl (rec 120 σ [x0, z2]) (fun σ3 z5 => (if z5 = 0 then cc_ck (x1 + 1) (fun z7 => pc_X7_wordNumber_13 rec bd n σ3 x0 z7) else some (σ3, 0, x1))))))
def pc_X7_wordNumber_0 (rec : Nat → CS → List Int → CO) (bd : cBd) (σ : CS) (x0 : Int) : CO :=
  cc_g σ 8 9 x0 (fun z1 => (if z1 < 6 then pc_X7_wordNumber_13 rec bd 2000000 σ x0 0 else some (σ, 0, (-1))))
def pc_X8_init_46 (rec : Nat → CS → List Int → CO) (bd : cBd) (σ : CS) (x0 : Int) (x1 : Int) (x5 : Int) (t0 : Int) : CO :=
  (if t0 = 0 then cc_p σ 9 3 x0 x5 (fun σ2 => some (σ2, 0, 0)) else cc_n σ bd 4 5 (fun σ3 z4 => cc_g σ3 7 1 x1 (fun z5 => cc_g σ3 7 6 x1 (fun z6 => cc_t σ3 4 z4 (cc_ci (rec 77 σ3 [z4, z5, z6, x5, x5]) (fun σ7 => cc_p σ7 9 3 x0 z4 (fun σ10 => some (σ10, 0, 0))))))))
def pc_X8_init_0 (rec : Nat → CS → List Int → CO) (bd : cBd) (σ : CS) (x0 : Int) (x1 : Int) (x2 : Int) (x3 : Int) (x4 : Int) : CO :=
  cc_t σ 9 x0 (cc_p σ 9 0 x0 x1 (fun σ1 => cc_p σ1 9 1 x0 x2 (fun σ2 => cc_p σ2 9 2 x0 x3 (fun σ3 => cc_p σ3 9 4 x0 x4 (fun σ4 => cc_cl (rec 136 σ4 [x4]) (fun σ5 z7 => cc_g σ5 7 0 x1 (fun z8 => (if ¬ z8 = 6 then pc_X8_init_46 rec bd σ5 x0 x1 z7 0 else pc_X8_init_46 rec bd σ5 x0 x1 z7 1))))))))
def pc_X8_letsOf_0 (rec : Nat → CS → List Int → CO) (bd : cBd) (σ : CS) (x0 : Int) : CO :=
  (if 0 ≤ x0 then cc_g σ 9 3 x0 (fun z2 => some (σ, 0, z2)) else some (σ, 0, (-1)))
def pc_X9_init_0 (rec : Nat → CS → List Int → CO) (bd : cBd) (σ : CS) (x0 : Int) (x1 : Int) (x2 : Int) (x3 : Int) (x4 : Int) (x5 : Int) : CO :=
  cc_t σ 10 x0 (cc_p σ 10 0 x0 x1 (fun σ1 => cc_p σ1 10 1 x0 x2 (fun σ2 => cc_p σ2 10 2 x0 x3 (fun σ3 => cc_p σ3 10 3 x0 x4 (fun σ4 => cc_p σ4 10 4 x0 x5 (fun σ5 => some (σ5, 0, 0)))))))
