def pf_thrown_0 (rec : Nat → RS → List Int → Option (RS × Int)) (σ : RS) : Option (RS × Int) :=
  rf_gi σ 1 (fun z1 => some (σ, z1))
def pf_fail_0 (rec : Nat → RS → List Int → Option (RS × Int)) (σ : RS) (x1 : Int) : Option (RS × Int) :=
  rf_pi σ 1 x1 (fun σ1 => some (σ1, 0))
def pf_wrong_0 (rec : Nat → RS → List Int → Option (RS × Int)) (σ : RS) (x1 : Int) (x2 : Int) : Option (RS × Int) :=
  rf_gi σ 72 (fun z1 => (if z1 = 0 then rf_pi σ 72 x1 (fun σ3 => rf_pi σ3 73 x2 (fun σ4 => some (σ4, 0))) else some (σ, 0)))
def pf_newSort_2 (rec : Nat → RS → List Int → Option (RS × Int)) (b1 : Int) : Nat → RS → Int → Option (RS × Int)
  | 0, _, _ => none
  | n + 1, σ, x2 =>
    rf_sL b1 (fun z1 => (if z1 ≤ x2 then rf_gi σ 20 (fun z3 => rf_sL b1 (fun z4 => rf_wr σ 17 z3 z4 (fun σ5 => rf_gi σ5 20 (fun z6 => rf_wr σ5 18 z6 (-1) (fun σ7 => rf_gi σ7 20 (fun z8 => rf_wr σ7 30 z8 3 (fun σ9 => rf_gi σ9 20 (fun z10 => rf_gi σ9 20 (fun z11 => rf_wr σ9 31 z10 z11 (fun σ12 => rf_gi σ12 20 (fun z13 => rf_ck (z13 + 1) (fun z14 => rf_pi σ12 20 z14 (fun σ15 => rf_gi σ15 20 (fun z16 => rf_ck (z16 - 1) (fun z17 => some (σ15, z17)))))))))))))))) else rf_gi σ 20 (fun z18 => rf_ck (12 * z18) (fun z19 => rf_ck (z19 + x2) (fun z20 => rf_sC b1 x2 (fun z21 => rf_wr σ 16 z20 z21 (fun σ22 => rf_ck (x2 + 1) (fun z23 => pf_newSort_2 rec b1 n σ22 z23))))))))
def pf_newSort_0 (rec : Nat → RS → List Int → Option (RS × Int)) (b1 : Int) (σ : RS) : Option (RS × Int) :=
  pf_newSort_2 rec b1 200000 σ 0
def pf_table_139 (rec : Nat → RS → List Int → Option (RS × Int)) (σ : RS) (x1 : Int) (x2 : Int) (x3 : Int) : Option (RS × Int) :=
  rf_nm (rn_and x1 4) (fun z1 => (if z1 = 0 then some (σ, 0) else rf_ck (8 * x2) (fun z3 => rf_ck (z3 + x3) (fun z4 => rf_wr σ 19 z4 x3 (fun σ5 => some (σ5, 0))))))
def pf_table_121 (rec : Nat → RS → List Int → Option (RS × Int)) (σ : RS) (x1 : Int) (x2 : Int) (x3 : Int) : Option (RS × Int) :=
  rf_nm (rn_and x1 2) (fun z1 => (if z1 = 0 then pf_table_139 rec σ x1 x2 x3 else rf_ck (8 * x3) (fun z3 => rf_ck (z3 + x3) (fun z4 => rf_wr σ 19 z4 x3 (fun σ5 => pf_table_139 rec σ5 x1 x2 x3)))))
def pf_table_28 (rec : Nat → RS → List Int → Option (RS × Int)) : Nat → RS → Int → Int → Option (RS × Int)
  | 0, _, _, _ => none
  | n + 1, σ, x1, x2 =>
    (if 8 ≤ x2 then rf_pi σ 27 0 (fun σ2 => rf_pi σ2 29 0 (fun σ3 => rf_pi σ3 39 8 (fun σ4 => (if ¬ x1 = 8 then rf_cl (rec 4 σ4 [9]) (fun σ6 z7 => rf_cl (rec 4 σ6 [10]) (fun σ8 z9 => rf_wr σ8 18 z7 z9 (fun σ10 => rf_ck (8 * z7) (fun z11 => rf_ck (z11 + z7) (fun z12 => rf_wr σ10 19 z12 z7 (fun σ13 => rf_nm (rn_and x1 1) (fun z14 => (if z14 = 0 then pf_table_121 rec σ13 x1 z7 z9 else rf_ck (8 * z9) (fun z16 => rf_ck (z16 + z7) (fun z17 => rf_wr σ13 19 z17 z7 (fun σ18 => pf_table_121 rec σ18 x1 z7 z9))))))))))) else some (σ4, 0))))) else rf_wr σ 18 x2 (-1) (fun σ19 => rf_ck (x2 + 1) (fun z20 => pf_table_28 rec n σ19 x1 z20)))
def pf_table_7 (rec : Nat → RS → List Int → Option (RS × Int)) : Nat → RS → Int → Int → Option (RS × Int)
  | 0, _, _, _ => none
  | n + 1, σ, x1, x2 =>
    (if 64 ≤ x2 then pf_table_28 rec 200000 σ x1 0 else rf_wr σ 19 x2 (-1) (fun σ2 => rf_ck (x2 + 1) (fun z3 => pf_table_7 rec n σ2 x1 z3)))
def pf_table_0 (rec : Nat → RS → List Int → Option (RS × Int)) (σ : RS) (x1 : Int) : Option (RS × Int) :=
  rf_pi σ 20 0 (fun σ1 => pf_table_7 rec 200000 σ1 x1 0)
def pf_feed_76 (rec : Nat → RS → List Int → Option (RS × Int)) (k23 : RS → Int → Int → Int → Int → Int → Int → Option (RS × Int)) (σ : RS) (x1 : Int) (x2 : Int) (x3 : Int) (x4 : Int) (x5 : Int) (x6 : Int) (t0 : Int) : Option (RS × Int) :=
  rf_gi σ 3 (fun z1 => rf_nm (rn_rem x6 4) (fun z2 => rf_ck (8 * z2) (fun z3 => rf_ck (24 - z3) (fun z4 => rf_nm (rn_shr t0 z4) (fun z5 => rf_nm (rn_and z5 255) (fun z6 => rf_wr σ 2 z1 z6 (fun σ7 => rf_gi σ7 3 (fun z8 => rf_ck (z8 + 1) (fun z9 => rf_pi σ7 3 z9 (fun σ10 => rf_ck (x6 + 1) (fun z11 => k23 σ10 x1 x2 x3 x4 x5 z11)))))))))))
def pf_feed_23 (rec : Nat → RS → List Int → Option (RS × Int)) : Nat → RS → Int → Int → Int → Int → Int → Int → Option (RS × Int)
  | 0, _, _, _, _, _, _, _ => none
  | n + 1, σ, x1, x2, x3, x4, x5, x6 =>
    (if 20 ≤ x6 then rf_gi σ 3 (fun z2 => some (σ, z2)) else (if 4 ≤ x6 then (if 8 ≤ x6 then (if 12 ≤ x6 then (if 16 ≤ x6 then pf_feed_76 rec (pf_feed_23 rec n) σ x1 x2 x3 x4 x5 x6 x5 else pf_feed_76 rec (pf_feed_23 rec n) σ x1 x2 x3 x4 x5 x6 x4) else pf_feed_76 rec (pf_feed_23 rec n) σ x1 x2 x3 x4 x5 x6 x3) else pf_feed_76 rec (pf_feed_23 rec n) σ x1 x2 x3 x4 x5 x6 x2) else pf_feed_76 rec (pf_feed_23 rec n) σ x1 x2 x3 x4 x5 x6 x1))
def pf_feed_0 (rec : Nat → RS → List Int → Option (RS × Int)) (σ : RS) (x1 : Int) (x2 : Int) (x3 : Int) (x4 : Int) (x5 : Int) : Option (RS × Int) :=
  rf_pi σ 1 0 (fun σ1 => rf_gi σ1 3 (fun z2 => rf_ck (z2 + 20) (fun z3 => (if z3 ≤ 4000 then pf_feed_23 rec 200000 σ1 x1 x2 x3 x4 x5 0 else some (σ1, (-1))))))
def pf_byteAt_0 (rec : Nat → RS → List Int → Option (RS × Int)) (σ : RS) (x1 : Int) : Option (RS × Int) :=
  rf_gi σ 5 (fun z1 => (if z1 ≤ x1 then some (σ, (-1)) else rf_rd σ 4 x1 (fun z3 => some (σ, z3))))
def pf_isLetter_12 (rec : Nat → RS → List Int → Option (RS × Int)) (σ : RS) (x0 : Int) : Option (RS × Int) :=
  (if x0 < 65 then rf_bo 0 (some (σ, 0)) else (if 90 < x0 then rf_bo 0 (some (σ, 0)) else rf_bo 1 (some (σ, 1))))
def pf_isLetter_0 (rec : Nat → RS → List Int → Option (RS × Int)) (σ : RS) (x0 : Int) : Option (RS × Int) :=
  (if x0 < 97 then pf_isLetter_12 rec σ x0 else (if x0 ≤ 122 then rf_bo 1 (some (σ, 1)) else pf_isLetter_12 rec σ x0))
def pf_goesOn_19 (rec : Nat → RS → List Int → Option (RS × Int)) (σ : RS) (x0 : Int) : Option (RS × Int) :=
  (if ¬ x0 = 39 then rf_bo 0 (some (σ, 0)) else rf_bo 1 (some (σ, 1)))
def pf_goesOn_0 (rec : Nat → RS → List Int → Option (RS × Int)) (σ : RS) (x0 : Int) : Option (RS × Int) :=
  rf_cl (rec 8 σ [x0]) (fun σ1 z2 => (if ¬ z2 = 0 then rf_bo 1 (some (σ1, 1)) else (if x0 < 48 then pf_goesOn_19 rec σ1 x0 else (if x0 ≤ 57 then rf_bo 1 (some (σ1, 1)) else pf_goesOn_19 rec σ1 x0))))
def pf_next_32 (rec : Nat → RS → List Int → Option (RS × Int)) (k2 : RS → Int → Option (RS × Int)) (k6 : RS → Option (RS × Int)) (σ : RS) : Option (RS × Int) :=
  rf_gi σ 6 (fun z1 => rf_ck (z1 + 1) (fun z2 => rf_pi σ 6 z2 (fun σ3 => k6 σ3)))
def pf_next_111 (rec : Nat → RS → List Int → Option (RS × Int)) (k2 : RS → Int → Option (RS × Int)) (σ : RS) (x1 : Int) (x2 : Int) : Option (RS × Int) :=
  rf_gi σ 6 (fun z1 => rf_gi σ 5 (fun z2 => (if ¬ z1 = z2 then rf_gi σ 6 (fun z4 => rf_ck (z4 + 1) (fun z5 => rf_pi σ 6 z5 (fun σ6 => k2 σ6 x1))) else rf_pi σ 9 x2 (fun σ7 => rf_pi σ7 7 3 (fun σ8 => rf_pi σ8 11 (-1) (fun σ9 => some (σ9, 0)))))))
def pf_next_73 (rec : Nat → RS → List Int → Option (RS × Int)) (k2 : RS → Int → Option (RS × Int)) : Nat → RS → Int → Int → Option (RS × Int)
  | 0, _, _, _ => none
  | n + 1, σ, x1, x2 =>
    rf_gi σ 6 (fun z1 => rf_gi σ 5 (fun z2 => (if z2 ≤ z1 then pf_next_111 rec k2 σ x1 x2 else rf_gi σ 6 (fun z4 => rf_rd σ 4 z4 (fun z5 => (if z5 = 125 then pf_next_111 rec k2 σ x1 x2 else rf_gi σ 6 (fun z7 => rf_ck (z7 + 1) (fun z8 => rf_pi σ 6 z8 (fun σ9 => pf_next_73 rec k2 n σ9 x1 x2)))))))))
def pf_next_63 (rec : Nat → RS → List Int → Option (RS × Int)) (k2 : RS → Int → Option (RS × Int)) (σ : RS) (t0 : Int) : Option (RS × Int) :=
  (if t0 = 0 then k2 σ t0 else rf_gi σ 6 (fun z2 => pf_next_73 rec k2 200000 σ t0 z2))
def pf_next_6 (rec : Nat → RS → List Int → Option (RS × Int)) (k2 : RS → Int → Option (RS × Int)) : Nat → RS → Option (RS × Int)
  | 0, _ => none
  | n + 1, σ =>
    rf_gi σ 6 (fun z1 => rf_cl (rec 7 σ [z1]) (fun σ2 z3 => (if z3 = 10 then pf_next_32 rec k2 (pf_next_6 rec k2 n) σ2 else rf_gi σ2 6 (fun z5 => rf_cl (rec 7 σ2 [z5]) (fun σ6 z7 => (if ¬ z7 = 32 then rf_gi σ6 6 (fun z9 => rf_cl (rec 7 σ6 [z9]) (fun σ10 z11 => (if ¬ z11 = 123 then pf_next_63 rec k2 σ10 0 else pf_next_63 rec k2 σ10 1))) else pf_next_32 rec k2 (pf_next_6 rec k2 n) σ6))))))
def pf_next_254 (rec : Nat → RS → List Int → Option (RS × Int)) (k235 : RS → Int → Option (RS × Int)) (σ : RS) (x3 : Int) : Option (RS × Int) :=
  rf_ck (x3 + 1) (fun z1 => k235 σ z1)
def pf_next_235 (rec : Nat → RS → List Int → Option (RS × Int)) : Nat → RS → Int → Option (RS × Int)
  | 0, _, _ => none
  | n + 1, σ, x3 =>
    (if 9 ≤ x3 then rf_gi σ 10 (fun z2 => rf_gi σ 9 (fun z3 => rf_ck (z2 - z3) (fun z4 => (if z4 ≤ 12 then some (σ, 0) else rf_gi σ 9 (fun z6 => rf_cl (rec 3 σ [2, z6]) (fun σ7 z8 => some (σ7, 0))))))) else rf_cl (rec 11 σ [x3]) (fun σ9 z10 => (if z10 = 0 then pf_next_254 rec (pf_next_235 rec n) σ9 x3 else rf_pi σ9 11 x3 (fun σ12 => pf_next_254 rec (pf_next_235 rec n) σ12 x3))))
def pf_next_193 (rec : Nat → RS → List Int → Option (RS × Int)) : Nat → RS → Option (RS × Int)
  | 0, _ => none
  | n + 1, σ =>
    rf_gi σ 6 (fun z1 => rf_cl (rec 7 σ [z1]) (fun σ2 z3 => rf_cl (rec 9 σ2 [z3]) (fun σ4 z5 => (if z5 = 0 then rf_pi σ4 7 1 (fun σ7 => rf_gi σ7 6 (fun z8 => rf_pi σ7 10 z8 (fun σ9 => pf_next_235 rec 200000 σ9 0))) else rf_gi σ4 6 (fun z10 => rf_ck (z10 + 1) (fun z11 => rf_pi σ4 6 z11 (fun σ12 => pf_next_193 rec n σ12)))))))
def pf_next_2 (rec : Nat → RS → List Int → Option (RS × Int)) : Nat → RS → Int → Option (RS × Int)
  | 0, _, _ => none
  | n + 1, σ, x1 =>
    (if x1 = 0 then rf_gi σ 6 (fun z2 => rf_pi σ 9 z2 (fun σ3 => rf_gi σ3 6 (fun z4 => rf_cl (rec 7 σ3 [z4]) (fun σ5 z6 => rf_pi σ5 11 (-1) (fun σ7 => (if ¬ z6 = (-1) then rf_cl (rec 8 σ7 [z6]) (fun σ9 z10 => (if z10 = 0 then rf_cl (rec 12 σ9 [z6]) (fun σ12 z13 => some (σ12, 0)) else pf_next_193 rec 200000 σ9)) else rf_pi σ7 7 0 (fun σ14 => some (σ14, 0)))))))) else pf_next_6 rec (pf_next_2 rec n) 200000 σ)
def pf_next_0 (rec : Nat → RS → List Int → Option (RS × Int)) (σ : RS) : Option (RS × Int) :=
  pf_next_2 rec 200000 σ 1
def pf_isWord_75 (rec : Nat → RS → List Int → Option (RS × Int)) (k29 : RS → Int → Int → Int → Option (RS × Int)) (σ : RS) (x1 : Int) (x3 : Int) (t0 : Int) : Option (RS × Int) :=
  rf_ck (x3 + 1) (fun z1 => k29 σ x1 t0 z1)
def pf_isWord_29 (rec : Nat → RS → List Int → Option (RS × Int)) : Nat → RS → Int → Int → Int → Option (RS × Int)
  | 0, _, _, _, _ => none
  | n + 1, σ, x1, x2, x3 =>
    (if x2 = 0 then rf_bo x2 (some (σ, x2)) else rf_gi σ 10 (fun z2 => rf_gi σ 9 (fun z3 => rf_ck (z2 - z3) (fun z4 => (if z4 ≤ x3 then rf_bo x2 (some (σ, x2)) else rf_ws x1 (fun z6 => rf_sC x1 x3 (fun z7 => rf_gi σ 9 (fun z8 => rf_ck (z8 + x3) (fun z9 => rf_rd σ 4 z9 (fun z10 => (if ¬ z7 = z10 then pf_isWord_75 rec (pf_isWord_29 rec n) σ x1 x3 0 else pf_isWord_75 rec (pf_isWord_29 rec n) σ x1 x3 1)))))))))))
def pf_isWord_26 (rec : Nat → RS → List Int → Option (RS × Int)) (σ : RS) (x1 : Int) (t0 : Int) : Option (RS × Int) :=
  pf_isWord_29 rec 200000 σ x1 t0 0
def pf_isWord_0 (rec : Nat → RS → List Int → Option (RS × Int)) (σ : RS) (x1 : Int) : Option (RS × Int) :=
  rf_ws x1 (fun z1 => rf_sL x1 (fun z2 => rf_gi σ 10 (fun z3 => rf_gi σ 9 (fun z4 => rf_ck (z3 - z4) (fun z5 => (if ¬ z2 = z5 then pf_isWord_26 rec σ x1 0 else pf_isWord_26 rec σ x1 1))))))
def pf_readSign_98 (rec : Nat → RS → List Int → Option (RS × Int)) (σ : RS) (x1 : Int) : Option (RS × Int) :=
  (if x1 = 92 then some (σ, 0) else (if x1 = 33 then some (σ, 0) else (if x1 = 58 then some (σ, 0) else (if x1 = 46 then some (σ, 0) else (if x1 = 59 then some (σ, 0) else (if x1 = 61 then some (σ, 0) else (if x1 = 40 then some (σ, 0) else (if x1 = 41 then some (σ, 0) else rf_pi σ 7 3 (fun σ9 => some (σ9, 0))))))))))
def pf_readSign_59 (rec : Nat → RS → List Int → Option (RS × Int)) (σ : RS) (x1 : Int) : Option (RS × Int) :=
  (if ¬ x1 = 45 then pf_readSign_98 rec σ x1 else rf_gi σ 6 (fun z2 => rf_cl (rec 7 σ [z2]) (fun σ3 z4 => (if ¬ z4 = 62 then pf_readSign_98 rec σ3 x1 else rf_pi σ3 8 257 (fun σ6 => rf_gi σ6 6 (fun z7 => rf_ck (z7 + 1) (fun z8 => rf_pi σ6 6 z8 (fun σ9 => some (σ9, 0)))))))))
def pf_readSign_0 (rec : Nat → RS → List Int → Option (RS × Int)) (σ : RS) (x1 : Int) : Option (RS × Int) :=
  rf_pi σ 7 2 (fun σ1 => rf_pi σ1 8 x1 (fun σ2 => rf_gi σ2 6 (fun z3 => rf_ck (z3 + 1) (fun z4 => rf_pi σ2 6 z4 (fun σ5 => (if ¬ x1 = 58 then pf_readSign_59 rec σ5 x1 else rf_gi σ5 6 (fun z7 => rf_cl (rec 7 σ5 [z7]) (fun σ8 z9 => (if ¬ z9 = 61 then pf_readSign_59 rec σ8 x1 else rf_pi σ8 8 256 (fun σ11 => rf_gi σ11 6 (fun z12 => rf_ck (z12 + 1) (fun z13 => rf_pi σ11 6 z13 (fun σ14 => some (σ14, 0))))))))))))))
def pf_isSign_0 (rec : Nat → RS → List Int → Option (RS × Int)) (σ : RS) (x1 : Int) : Option (RS × Int) :=
  rf_gi σ 7 (fun z1 => (if ¬ z1 = 2 then rf_bo 0 (some (σ, 0)) else rf_gi σ 8 (fun z3 => (if ¬ z3 = x1 then rf_bo 0 (some (σ, 0)) else rf_bo 1 (some (σ, 1))))))
def pf_isName_0 (rec : Nat → RS → List Int → Option (RS × Int)) (σ : RS) : Option (RS × Int) :=
  rf_gi σ 7 (fun z1 => (if ¬ z1 = 1 then rf_bo 0 (some (σ, 0)) else rf_gi σ 11 (fun z3 => (if ¬ z3 = (-1) then rf_bo 0 (some (σ, 0)) else rf_bo 1 (some (σ, 1))))))
def pf_cant_0 (rec : Nat → RS → List Int → Option (RS × Int)) (σ : RS) : Option (RS × Int) :=
  rf_gi σ 9 (fun z1 => rf_cl (rec 3 σ [1, z1]) (fun σ2 z3 => some (σ2, 0)))
def pf_need_0 (rec : Nat → RS → List Int → Option (RS × Int)) (σ : RS) (x1 : Int) : Option (RS × Int) :=
  rf_cl (rec 13 σ [x1]) (fun σ1 z2 => (if z2 = 0 then rf_cl (rec 15 σ1 []) (fun σ4 z5 => some (σ4, 0)) else rf_cl (rec 10 σ1 []) (fun σ6 z7 => some (σ6, 0))))
def pf_needWord_23 (rec : Nat → RS → List Int → Option (RS × Int)) (σ : RS) : Option (RS × Int) :=
  rf_cl (rec 15 σ []) (fun σ1 z2 => some (σ1, 0))
def pf_needWord_0 (rec : Nat → RS → List Int → Option (RS × Int)) (σ : RS) (x1 : Int) : Option (RS × Int) :=
  rf_gi σ 7 (fun z1 => (if ¬ z1 = 1 then pf_needWord_23 rec σ else rf_gi σ 11 (fun z3 => (if ¬ z3 = x1 then pf_needWord_23 rec σ else rf_cl (rec 10 σ []) (fun σ5 z6 => some (σ5, 0))))))
def pf_node_0 (rec : Nat → RS → List Int → Option (RS × Int)) (σ : RS) (x1 : Int) (x2 : Int) (x3 : Int) (x4 : Int) (x5 : Int) : Option (RS × Int) :=
  rf_gi σ 15 (fun z1 => (if ¬ z1 = 0 then rf_gi σ 39 (fun z3 => rf_wr σ 30 z3 x1 (fun σ4 => rf_gi σ4 39 (fun z5 => rf_wr σ4 31 z5 x2 (fun σ6 => rf_gi σ6 39 (fun z7 => rf_wr σ6 32 z7 x3 (fun σ8 => rf_gi σ8 39 (fun z9 => rf_wr σ8 33 z9 x4 (fun σ10 => rf_gi σ10 39 (fun z11 => rf_wr σ10 34 z11 x5 (fun σ12 => rf_gi σ12 39 (fun z13 => rf_wr σ12 35 z13 x5 (fun σ14 => rf_gi σ14 39 (fun z15 => rf_gi σ14 39 (fun z16 => rf_wr σ14 38 z15 z16 (fun σ17 => rf_gi σ17 39 (fun z18 => rf_ck (z18 + 1) (fun z19 => rf_pi σ17 39 z19 (fun σ20 => rf_gi σ20 39 (fun z21 => rf_ck (z21 - 1) (fun z22 => some (σ20, z22))))))))))))))))))))) else some (σ, 0)))
def pf_nameNode_0 (rec : Nat → RS → List Int → Option (RS × Int)) (σ : RS) : Option (RS × Int) :=
  rf_gi σ 9 (fun z1 => rf_gi σ 10 (fun z2 => rf_gi σ 9 (fun z3 => rf_ck (z2 - z3) (fun z4 => rf_gi σ 9 (fun z5 => rf_cl (rec 18 σ [0, z1, z4, 0, z5]) (fun σ6 z7 => rf_cl (rec 14 σ6 []) (fun σ8 z9 => (if z9 = 0 then rf_cl (rec 15 σ8 []) (fun σ11 z12 => some (σ11, z7)) else rf_cl (rec 10 σ8 []) (fun σ13 z14 => some (σ13, z7))))))))))
def pf_readTerm_76 (rec : Nat → RS → List Int → Option (RS × Int)) (σ : RS) (x1 : Int) (x2 : Int) (t0 : Int) : Option (RS × Int) :=
  rf_cl (rec 18 σ [t0, 0, 0, 0, x2]) (fun σ1 z2 => rf_cl (rec 10 σ1 []) (fun σ3 z4 => rf_cl (rec 19 σ3 []) (fun σ5 z6 => rf_cl (rec 16 σ5 [58]) (fun σ7 z8 => rf_ck (x1 + 1) (fun z9 => rf_cl (rec 20 σ7 [z9]) (fun σ10 z11 => rf_cl (rec 16 σ10 [46]) (fun σ12 z13 => rf_ck (x1 + 1) (fun z14 => rf_cl (rec 20 σ12 [z14]) (fun σ15 z16 => rf_cl (rec 21 σ15 [z2, z6, z11, z16]) (fun σ17 z18 => some (σ17, z18)))))))))))
def pf_readTerm_61 (rec : Nat → RS → List Int → Option (RS × Int)) (σ : RS) (x1 : Int) (x2 : Int) : Option (RS × Int) :=
  rf_cl (rec 13 σ [92]) (fun σ1 z2 => (if z2 = 0 then pf_readTerm_76 rec σ1 x1 x2 5 else pf_readTerm_76 rec σ1 x1 x2 4))
def pf_readTerm_217 (rec : Nat → RS → List Int → Option (RS × Int)) (σ : RS) (x1 : Int) (x2 : Int) : Option (RS × Int) :=
  rf_cl (rec 23 σ [x1, x2]) (fun σ1 z2 => some (σ1, z2))
def pf_readTerm_29 (rec : Nat → RS → List Int → Option (RS × Int)) (σ : RS) (x1 : Int) : Option (RS × Int) :=
  rf_gi σ 72 (fun z1 => (if z1 = 0 then rf_gi σ 9 (fun z3 => rf_cl (rec 13 σ [92]) (fun σ4 z5 => (if ¬ z5 = 0 then pf_readTerm_61 rec σ4 x1 z3 else rf_cl (rec 13 σ4 [33]) (fun σ7 z8 => (if z8 = 0 then rf_gi σ7 7 (fun z10 => (if ¬ z10 = 1 then pf_readTerm_217 rec σ7 x1 z3 else rf_gi σ7 11 (fun z12 => (if ¬ z12 = 7 then pf_readTerm_217 rec σ7 x1 z3 else rf_cl (rec 18 σ7 [6, 0, 0, 0, z3]) (fun σ14 z15 => rf_cl (rec 10 σ14 []) (fun σ16 z17 => rf_cl (rec 19 σ16 []) (fun σ18 z19 => rf_cl (rec 16 σ18 [256]) (fun σ20 z21 => rf_ck (x1 + 1) (fun z22 => rf_cl (rec 20 σ20 [z22]) (fun σ23 z24 => rf_cl (rec 17 σ23 [8]) (fun σ25 z26 => rf_ck (x1 + 1) (fun z27 => rf_cl (rec 20 σ25 [z27]) (fun σ28 z29 => rf_cl (rec 21 σ28 [z15, z19, z24, z29]) (fun σ30 z31 => some (σ30, z31))))))))))))))) else pf_readTerm_61 rec σ7 x1 z3))))) else some (σ, 0)))
def pf_readTerm_0 (rec : Nat → RS → List Int → Option (RS × Int)) (σ : RS) (x1 : Int) : Option (RS × Int) :=
  (if ¬ x1 = 40 then pf_readTerm_29 rec σ x1 else rf_gi σ 7 (fun z2 => (if ¬ z2 = 0 then rf_gi σ 9 (fun z4 => rf_cl (rec 3 σ [2, z4]) (fun σ5 z6 => pf_readTerm_29 rec σ5 x1)) else rf_cl (rec 15 σ []) (fun σ7 z8 => pf_readTerm_29 rec σ7 x1))))
def pf_parts_0 (rec : Nat → RS → List Int → Option (RS × Int)) (σ : RS) (x1 : Int) (x2 : Int) (x3 : Int) (x4 : Int) : Option (RS × Int) :=
  rf_gi σ 15 (fun z1 => (if z1 = 0 then some (σ, x1) else rf_wr σ 31 x1 x2 (fun σ3 => rf_wr σ3 32 x1 x3 (fun σ4 => rf_wr σ4 33 x1 x4 (fun σ5 => some (σ5, x1))))))
def pf_beginsAtom_0 (rec : Nat → RS → List Int → Option (RS × Int)) (σ : RS) : Option (RS × Int) :=
  rf_cl (rec 14 σ []) (fun σ1 z2 => (if ¬ z2 = 0 then rf_bo 1 (some (σ1, 1)) else rf_cl (rec 13 σ1 [40]) (fun σ4 z5 => (if z5 = 0 then rf_bo 0 (some (σ4, 0)) else rf_bo 1 (some (σ4, 1))))))
def pf_readUse_42 (rec : Nat → RS → List Int → Option (RS × Int)) (σ : RS) (x1 : Int) (x2 : Int) (x3 : Int) : Option (RS × Int) :=
  rf_gi σ 72 (fun z1 => (if ¬ z1 = 0 then some (σ, x3) else rf_cl (rec 13 σ [257]) (fun σ3 z4 => (if z4 = 0 then some (σ3, x3) else rf_gi σ3 9 (fun z6 => rf_cl (rec 10 σ3 []) (fun σ7 z8 => rf_ck (x1 + 1) (fun z9 => rf_cl (rec 20 σ7 [z9]) (fun σ10 z11 => rf_cl (rec 18 σ10 [5, (-1), x3, z11, x2]) (fun σ12 z13 => rf_gi σ12 15 (fun z14 => (if z14 = 0 then some (σ12, z13) else rf_wr σ12 35 z13 z6 (fun σ16 => some (σ16, z13)))))))))))))
def pf_readUse_6 (rec : Nat → RS → List Int → Option (RS × Int)) : Nat → RS → Int → Int → Int → Option (RS × Int)
  | 0, _, _, _, _ => none
  | n + 1, σ, x1, x2, x3 =>
    rf_gi σ 72 (fun z1 => (if ¬ z1 = 0 then pf_readUse_42 rec σ x1 x2 x3 else rf_cl (rec 22 σ []) (fun σ3 z4 => (if z4 = 0 then pf_readUse_42 rec σ3 x1 x2 x3 else rf_cl (rec 24 σ3 [x1]) (fun σ6 z7 => rf_cl (rec 18 σ6 [7, 0, x3, z7, x2]) (fun σ8 z9 => pf_readUse_6 rec n σ8 x1 x2 z9))))))
def pf_readUse_0 (rec : Nat → RS → List Int → Option (RS × Int)) (σ : RS) (x1 : Int) (x2 : Int) : Option (RS × Int) :=
  rf_cl (rec 24 σ [x1]) (fun σ1 z2 => pf_readUse_6 rec 200000 σ1 x1 x2 z2)
def pf_readAtom_0 (rec : Nat → RS → List Int → Option (RS × Int)) (σ : RS) (x1 : Int) : Option (RS × Int) :=
  rf_cl (rec 13 σ [40]) (fun σ1 z2 => (if ¬ z2 = 0 then rf_gi σ1 9 (fun z4 => rf_cl (rec 10 σ1 []) (fun σ5 z6 => rf_ck (x1 + 1) (fun z7 => rf_cl (rec 20 σ5 [z7]) (fun σ8 z9 => rf_cl (rec 16 σ8 [41]) (fun σ10 z11 => rf_gi σ10 15 (fun z12 => (if z12 = 0 then some (σ10, z9) else rf_wr σ10 34 z9 z4 (fun σ14 => some (σ14, z9))))))))) else rf_cl (rec 19 σ1 []) (fun σ15 z16 => some (σ15, z16))))
def pf_readStatement_159 (rec : Nat → RS → List Int → Option (RS × Int)) (σ : RS) : Option (RS × Int) :=
  rf_gi σ 72 (fun z1 => (if ¬ z1 = 0 then some (σ, 0) else rf_cl (rec 19 σ []) (fun σ3 z4 => rf_pi σ3 82 z4 (fun σ5 => some (σ5, 0)))))
def pf_readStatement_226 (rec : Nat → RS → List Int → Option (RS × Int)) (σ : RS) : Option (RS × Int) :=
  rf_gi σ 72 (fun z1 => (if ¬ z1 = 0 then some (σ, 0) else rf_gi σ 76 (fun z3 => (if ¬ z3 = 5 then some (σ, 0) else rf_cl (rec 16 σ [61]) (fun σ5 z6 => rf_cl (rec 20 σ5 [0]) (fun σ7 z8 => rf_pi σ7 79 z8 (fun σ9 => some (σ9, 0))))))))
def pf_readStatement_25 (rec : Nat → RS → List Int → Option (RS × Int)) (σ : RS) (t0 : Int) : Option (RS × Int) :=
  rf_pi σ 76 t0 (fun σ1 => rf_pi σ1 78 (-1) (fun σ2 => rf_pi σ2 79 (-1) (fun σ3 => rf_gi σ3 76 (fun z4 => (if ¬ z4 = (-1) then rf_gi σ3 76 (fun z6 => (if z6 ≤ 6 then rf_cl (rec 10 σ3 []) (fun σ8 z9 => rf_gi σ8 76 (fun z10 => (if z10 = 0 then rf_cl (rec 19 σ8 []) (fun σ12 z13 => rf_pi σ12 80 z13 (fun σ14 => some (σ14, 0))) else (if z10 = 1 then rf_cl (rec 19 σ8 []) (fun σ16 z17 => rf_pi σ16 80 z17 (fun σ18 => rf_cl (rec 16 σ18 [58]) (fun σ19 z20 => rf_cl (rec 19 σ19 []) (fun σ21 z22 => rf_pi σ21 81 z22 (fun σ23 => some (σ23, 0)))))) else (if z10 = 2 then rf_cl (rec 19 σ8 []) (fun σ25 z26 => rf_pi σ25 80 z26 (fun σ27 => rf_gi σ27 72 (fun z28 => (if ¬ z28 = 0 then pf_readStatement_159 rec σ27 else rf_cl (rec 19 σ27 []) (fun σ30 z31 => rf_pi σ30 81 z31 (fun σ32 => pf_readStatement_159 rec σ32)))))) else rf_cl (rec 20 σ8 [0]) (fun σ33 z34 => rf_pi σ33 78 z34 (fun σ35 => rf_gi σ35 72 (fun z36 => (if ¬ z36 = 0 then pf_readStatement_226 rec σ35 else rf_gi σ35 76 (fun z38 => (if ¬ z38 = 3 then pf_readStatement_226 rec σ35 else rf_cl (rec 13 σ35 [58]) (fun σ40 z41 => (if z41 = 0 then pf_readStatement_226 rec σ40 else rf_cl (rec 10 σ40 []) (fun σ43 z44 => rf_cl (rec 20 σ43 [0]) (fun σ45 z46 => rf_pi σ45 79 z46 (fun σ47 => some (σ47, 0))))))))))))))))) else rf_cl (rec 15 σ3 []) (fun σ48 z49 => some (σ48, 0)))) else rf_cl (rec 26 σ3 []) (fun σ50 z51 => some (σ50, 0)))))))
def pf_readStatement_0 (rec : Nat → RS → List Int → Option (RS × Int)) (σ : RS) : Option (RS × Int) :=
  rf_gi σ 9 (fun z1 => rf_pi σ 77 z1 (fun σ2 => rf_gi σ2 7 (fun z3 => (if ¬ z3 = 1 then pf_readStatement_25 rec σ2 (-1) else rf_gi σ2 11 (fun z5 => pf_readStatement_25 rec σ2 z5)))))
def pf_readTold_0 (rec : Nat → RS → List Int → Option (RS × Int)) (σ : RS) : Option (RS × Int) :=
  rf_cl (rec 19 σ []) (fun σ1 z2 => rf_pi σ1 80 z2 (fun σ3 => rf_gi σ3 72 (fun z4 => (if z4 = 0 then rf_cl (rec 13 σ3 [58]) (fun σ6 z7 => (if z7 = 0 then rf_cl (rec 16 σ6 [256]) (fun σ9 z10 => rf_cl (rec 20 σ9 [0]) (fun σ11 z12 => rf_pi σ11 78 z12 (fun σ13 => some (σ13, 0)))) else rf_cl (rec 10 σ6 []) (fun σ14 z15 => rf_cl (rec 20 σ14 [0]) (fun σ16 z17 => rf_pi σ16 79 z17 (fun σ18 => rf_gi σ18 72 (fun z19 => (if ¬ z19 = 0 then some (σ18, 0) else rf_cl (rec 13 σ18 [256]) (fun σ21 z22 => (if z22 = 0 then some (σ21, 0) else rf_cl (rec 10 σ21 []) (fun σ24 z25 => rf_cl (rec 20 σ24 [0]) (fun σ26 z27 => rf_pi σ26 78 z27 (fun σ28 => some (σ28, 0))))))))))))) else some (σ3, 0)))))
def pf_readAll_14 (rec : Nat → RS → List Int → Option (RS × Int)) : Nat → RS → Option (RS × Int)
  | 0, _ => none
  | n + 1, σ =>
    rf_gi σ 72 (fun z1 => (if ¬ z1 = 0 then some (σ, 0) else rf_gi σ 7 (fun z3 => (if z3 = 0 then some (σ, 0) else rf_cl (rec 25 σ []) (fun σ5 z6 => rf_gi σ5 72 (fun z7 => (if ¬ z7 = 0 then pf_readAll_14 rec n σ5 else rf_cl (rec 16 σ5 [59]) (fun σ9 z10 => pf_readAll_14 rec n σ9))))))))
def pf_readAll_0 (rec : Nat → RS → List Int → Option (RS × Int)) (σ : RS) : Option (RS × Int) :=
  rf_bo 0 (rf_pi σ 15 0 (fun σ1 => rf_pi σ1 6 0 (fun σ3 => rf_cl (rec 10 σ3 []) (fun σ4 z5 => pf_readAll_14 rec 200000 σ4))))
def pf_may_53 (rec : Nat → RS → List Int → Option (RS × Int)) (σ : RS) : Option (RS × Int) :=
  rf_gi σ 72 (fun z1 => (if z1 = 0 then rf_gi σ 64 (fun z3 => rf_ck (z3 + 1) (fun z4 => rf_pi σ 64 z4 (fun σ5 => rf_gi σ5 65 (fun z6 => rf_ck (z6 + 1) (fun z7 => rf_pi σ5 65 z7 (fun σ8 => rf_bo 1 (some (σ8, 1)))))))) else rf_bo 0 (some (σ, 0))))
def pf_may_0 (rec : Nat → RS → List Int → Option (RS × Int)) (σ : RS) : Option (RS × Int) :=
  rf_gi σ 72 (fun z1 => (if z1 = 0 then rf_gi σ 64 (fun z3 => rf_gi σ 63 (fun z4 => (if ¬ z3 = z4 then rf_gi σ 65 (fun z6 => (if ¬ z6 = 60000 then pf_may_53 rec σ else rf_gi σ 77 (fun z8 => rf_cl (rec 3 σ [14, z8]) (fun σ9 z10 => pf_may_53 rec σ9)))) else rf_gi σ 77 (fun z11 => rf_cl (rec 3 σ [12, z11]) (fun σ12 z13 => pf_may_53 rec σ12))))) else rf_bo 0 (some (σ, 0))))
def pf_look_23 (rec : Nat → RS → List Int → Option (RS × Int)) (σ : RS) : Option (RS × Int) :=
  rf_cl (rec 28 σ []) (fun σ1 z2 => (if ¬ z2 = 0 then rf_gi σ1 71 (fun z4 => rf_ck (z4 + 1) (fun z5 => rf_pi σ1 71 z5 (fun σ6 => rf_bo 1 (some (σ6, 1))))) else rf_bo 0 (some (σ1, 0))))
def pf_look_0 (rec : Nat → RS → List Int → Option (RS × Int)) (σ : RS) (x1 : Int) : Option (RS × Int) :=
  rf_gi σ 72 (fun z1 => (if ¬ z1 = 0 then pf_look_23 rec σ else (if x1 < 100 then pf_look_23 rec σ else rf_gi σ 77 (fun z4 => rf_cl (rec 3 σ [13, z4]) (fun σ5 z6 => pf_look_23 rec σ5)))))
def pf_cell_0 (rec : Nat → RS → List Int → Option (RS × Int)) (σ : RS) (x1 : Int) (x2 : Int) (x3 : Int) (x4 : Int) : Option (RS × Int) :=
  rf_gi σ 48 (fun z1 => rf_wr σ 44 z1 x1 (fun σ2 => rf_gi σ2 48 (fun z3 => rf_wr σ2 45 z3 x2 (fun σ4 => rf_gi σ4 48 (fun z5 => rf_wr σ4 46 z5 x3 (fun σ6 => rf_gi σ6 48 (fun z7 => rf_wr σ6 47 z7 x4 (fun σ8 => rf_gi σ8 48 (fun z9 => rf_ck (z9 + 1) (fun z10 => rf_pi σ8 48 z10 (fun σ11 => rf_gi σ11 48 (fun z12 => rf_ck (z12 - 1) (fun z13 => some (σ11, z13))))))))))))))
def pf_find_36 (rec : Nat → RS → List Int → Option (RS × Int)) (σ : RS) (x3 : Int) (t0 : Int) : Option (RS × Int) :=
  rf_bo t0 (rf_pi σ 56 t0 (fun σ1 => rf_gi σ1 56 (fun z3 => (if z3 = 0 then some (σ1, 0) else rf_rd σ1 46 x3 (fun z5 => rf_pi σ1 54 z5 (fun σ6 => rf_rd σ6 47 x3 (fun z7 => rf_pi σ6 55 z7 (fun σ8 => some (σ8, 0)))))))))
def pf_find_26 (rec : Nat → RS → List Int → Option (RS × Int)) (σ : RS) (x3 : Int) : Option (RS × Int) :=
  (if x3 = 0 then pf_find_36 rec σ x3 0 else pf_find_36 rec σ x3 1)
def pf_find_2 (rec : Nat → RS → List Int → Option (RS × Int)) : Nat → RS → Int → Int → Option (RS × Int)
  | 0, _, _, _ => none
  | n + 1, σ, x1, x3 =>
    (if x3 = 0 then pf_find_26 rec σ x3 else rf_rd σ 45 x3 (fun z2 => (if z2 = x1 then pf_find_26 rec σ x3 else rf_rd σ 44 x3 (fun z4 => pf_find_2 rec n σ x1 z4))))
def pf_find_0 (rec : Nat → RS → List Int → Option (RS × Int)) (σ : RS) (x1 : Int) (x2 : Int) : Option (RS × Int) :=
  pf_find_2 rec 200000 σ x1 x2
def pf_head_428 (rec : Nat → RS → List Int → Option (RS × Int)) (k25 : RS → Int → Int → Int → Int → Option (RS × Int)) (σ : RS) (x3 : Int) (x4 : Int) (x5 : Int) (x6 : Int) : Option (RS × Int) :=
  k25 σ x3 x4 x5 x6
def pf_head_173 (rec : Nat → RS → List Int → Option (RS × Int)) (k25 : RS → Int → Int → Int → Int → Option (RS × Int)) (σ : RS) (x3 : Int) (x4 : Int) (x5 : Int) (x6 : Int) : Option (RS × Int) :=
  rf_gi σ 56 (fun z1 => (if z1 = 0 then pf_head_428 rec k25 σ x3 x4 x5 x6 else rf_cl (rec 28 σ []) (fun σ3 z4 => (if z4 = 0 then pf_head_428 rec k25 σ3 x3 x4 x5 x6 else rf_gi σ3 70 (fun z6 => rf_ck (z6 + 1) (fun z7 => rf_pi σ3 70 z7 (fun σ8 => rf_gi σ8 54 (fun z9 => rf_gi σ8 55 (fun z10 => pf_head_428 rec k25 σ8 x3 z9 z10 1)))))))))
def pf_head_367 (rec : Nat → RS → List Int → Option (RS × Int)) (k25 : RS → Int → Int → Int → Int → Option (RS × Int)) (σ : RS) (x3 : Int) (x4 : Int) (x5 : Int) (x6 : Int) (x7 : Int) : Option (RS × Int) :=
  (if ¬ x7 = 6 then pf_head_428 rec k25 σ x3 x4 x5 x6 else rf_cl (rec 28 σ []) (fun σ2 z3 => (if z3 = 0 then pf_head_428 rec k25 σ2 x3 x4 x5 z3 else rf_gi σ2 68 (fun z5 => rf_ck (z5 + 1) (fun z6 => rf_pi σ2 68 z6 (fun σ7 => rf_rd σ7 38 x4 (fun z8 => rf_rd σ7 32 x4 (fun z9 => rf_cl (rec 30 σ7 [x5, z8, z9, x5]) (fun σ10 z11 => rf_rd σ10 33 x4 (fun z12 => pf_head_428 rec k25 σ10 x3 z12 z11 z3))))))))))
def pf_head_277 (rec : Nat → RS → List Int → Option (RS × Int)) (k25 : RS → Int → Int → Int → Int → Option (RS × Int)) (σ : RS) (x3 : Int) (x4 : Int) (x5 : Int) (x6 : Int) (x7 : Int) : Option (RS × Int) :=
  (if ¬ x7 = 4 then pf_head_367 rec k25 σ x3 x4 x5 x6 x7 else rf_gi σ 51 (fun z2 => (if z2 ≤ x3 then pf_head_367 rec k25 σ x3 x4 x5 x6 x7 else rf_cl (rec 28 σ []) (fun σ4 z5 => (if z5 = 0 then pf_head_428 rec k25 σ4 x3 x4 x5 z5 else rf_gi σ4 66 (fun z7 => rf_ck (z7 + 1) (fun z8 => rf_pi σ4 66 z8 (fun σ9 => rf_gi σ9 51 (fun z10 => rf_ck (z10 - 1) (fun z11 => rf_pi σ9 51 z11 (fun σ12 => rf_rd σ12 38 x4 (fun z13 => rf_gi σ12 51 (fun z14 => rf_rd σ12 49 z14 (fun z15 => rf_gi σ12 51 (fun z16 => rf_rd σ12 50 z16 (fun z17 => rf_cl (rec 30 σ12 [x5, z13, z15, z17]) (fun σ18 z19 => rf_rd σ18 33 x4 (fun z20 => pf_head_428 rec k25 σ18 x3 z20 z19 z5))))))))))))))))))
def pf_head_46 (rec : Nat → RS → List Int → Option (RS × Int)) (k25 : RS → Int → Int → Int → Int → Option (RS × Int)) (σ : RS) (x3 : Int) (x4 : Int) (x5 : Int) (t0 : Int) : Option (RS × Int) :=
  (if ¬ t0 = 7 then (if ¬ t0 = 1 then (if ¬ t0 = 2 then pf_head_277 rec k25 σ x3 x4 x5 0 t0 else rf_rd σ 31 x4 (fun z4 => rf_rd σ 25 z4 (fun z5 => (if z5 < 0 then pf_head_277 rec k25 σ x3 x4 x5 0 t0 else rf_cl (rec 28 σ []) (fun σ7 z8 => (if z8 = 0 then pf_head_428 rec k25 σ7 x3 x4 x5 z8 else rf_gi σ7 67 (fun z10 => rf_ck (z10 + 1) (fun z11 => rf_pi σ7 67 z11 (fun σ12 => rf_rd σ12 31 x4 (fun z13 => rf_rd σ12 25 z13 (fun z14 => pf_head_428 rec k25 σ12 x3 z14 0 z8))))))))))) else rf_rd σ 31 x4 (fun z15 => rf_cl (rec 31 σ [z15, x5]) (fun σ16 z17 => rf_gi σ16 56 (fun z18 => (if z18 = 0 then pf_head_173 rec k25 σ16 x3 x4 x5 0 else rf_gi σ16 54 (fun z20 => (if 0 ≤ z20 then pf_head_173 rec k25 σ16 x3 x4 x5 0 else rf_gi σ16 54 (fun z22 => pf_head_428 rec k25 σ16 x3 z22 0 0)))))))) else rf_cl (rec 28 σ []) (fun σ23 z24 => (if z24 = 0 then pf_head_428 rec k25 σ23 x3 x4 x5 z24 else rf_gi σ23 69 (fun z26 => rf_ck (z26 + 1) (fun z27 => rf_pi σ23 69 z27 (fun σ28 => rf_gi σ28 51 (fun z29 => rf_rd σ28 33 x4 (fun z30 => rf_wr σ28 49 z29 z30 (fun σ31 => rf_gi σ31 51 (fun z32 => rf_wr σ31 50 z32 x5 (fun σ33 => rf_gi σ33 51 (fun z34 => rf_ck (z34 + 1) (fun z35 => rf_pi σ33 51 z35 (fun σ36 => rf_rd σ36 32 x4 (fun z37 => pf_head_428 rec k25 σ36 x3 z37 x5 z24)))))))))))))))
def pf_head_25 (rec : Nat → RS → List Int → Option (RS × Int)) : Nat → RS → Int → Int → Int → Int → Option (RS × Int)
  | 0, _, _, _, _, _ => none
  | n + 1, σ, x3, x4, x5, x6 =>
    (if x6 = 0 then rf_pi σ 52 x4 (fun σ2 => rf_pi σ2 53 x5 (fun σ3 => some (σ3, 0))) else (if 0 ≤ x4 then rf_rd σ 30 x4 (fun z5 => pf_head_46 rec (pf_head_25 rec n) σ x3 x4 x5 z5) else pf_head_46 rec (pf_head_25 rec n) σ x3 x4 x5 (-1)))
def pf_head_23 (rec : Nat → RS → List Int → Option (RS × Int)) (σ : RS) (x3 : Int) (x4 : Int) (x5 : Int) (t0 : Int) : Option (RS × Int) :=
  pf_head_25 rec 200000 σ x3 x4 x5 t0
def pf_head_0 (rec : Nat → RS → List Int → Option (RS × Int)) (σ : RS) (x1 : Int) (x2 : Int) : Option (RS × Int) :=
  rf_gi σ 51 (fun z1 => rf_gi σ 72 (fun z2 => (if ¬ z2 = 0 then pf_head_23 rec σ z1 x1 x2 0 else pf_head_23 rec σ z1 x1 x2 1)))
def pf_kindOf_0 (rec : Nat → RS → List Int → Option (RS × Int)) (σ : RS) (x1 : Int) : Option (RS × Int) :=
  (if 0 ≤ x1 then rf_rd σ 30 x1 (fun z2 => some (σ, z2)) else some (σ, (-1)))
def pf_inside_0 (rec : Nat → RS → List Int → Option (RS × Int)) (σ : RS) (x1 : Int) (x2 : Int) (x3 : Int) : Option (RS × Int) :=
  rf_rd σ 38 x1 (fun z1 => rf_cl (rec 30 σ [x2, z1, x3, 0]) (fun σ2 z3 => some (σ2, z3)))
def pf_compare_92 (rec : Nat → RS → List Int → Option (RS × Int)) (σ : RS) (x6 : Int) : Option (RS × Int) :=
  rf_pi σ 51 x6 (fun σ1 => rf_bo 0 (some (σ1, 0)))
def pf_compare_0 (rec : Nat → RS → List Int → Option (RS × Int)) (σ : RS) (x1 : Int) (x2 : Int) (x3 : Int) (x4 : Int) (x5 : Int) : Option (RS × Int) :=
  rf_cl (rec 29 σ [x5]) (fun σ1 z2 => (if ¬ z2 = 0 then rf_gi σ1 51 (fun z4 => rf_cl (rec 32 σ1 [x1, x2]) (fun σ5 z6 => rf_gi σ5 52 (fun z7 => rf_gi σ5 53 (fun z8 => rf_gi σ5 51 (fun z9 => rf_cl (rec 32 σ5 [x3, x4]) (fun σ10 z11 => rf_gi σ10 52 (fun z12 => rf_gi σ10 53 (fun z13 => rf_gi σ10 72 (fun z14 => (if ¬ z14 = 0 then pf_compare_92 rec σ10 z4 else rf_cl (rec 36 σ10 [z7, z8, z9, z4, z12, z13, x5]) (fun σ16 z17 => (if z17 = 0 then pf_compare_92 rec σ16 z4 else rf_pi σ16 51 z4 (fun σ19 => rf_bo 1 (some (σ19, 1))))))))))))))) else rf_bo 0 (some (σ1, 0))))
def pf_alike_34 (rec : Nat → RS → List Int → Option (RS × Int)) (σ : RS) (x1 : Int) (x2 : Int) (x5 : Int) (x6 : Int) (x7 : Int) : Option (RS × Int) :=
  rf_rd σ 32 x1 (fun z1 => rf_rd σ 32 x5 (fun z2 => rf_ck (x7 + 1) (fun z3 => rf_cl (rec 35 σ [z1, x2, z2, x6, z3]) (fun σ4 z5 => (if ¬ z5 = 0 then rf_gi σ4 57 (fun z7 => rf_ck ((-200000) - z7) (fun z8 => rf_gi σ4 57 (fun z9 => rf_ck (z9 + 1) (fun z10 => rf_pi σ4 57 z10 (fun σ11 => rf_cl (rec 34 σ11 [x1, x2, z8]) (fun σ12 z13 => rf_cl (rec 34 σ12 [x5, x6, z8]) (fun σ14 z15 => rf_rd σ14 33 x1 (fun z16 => rf_rd σ14 33 x5 (fun z17 => rf_ck (x7 + 1) (fun z18 => rf_cl (rec 35 σ14 [z16, z13, z17, z15, z18]) (fun σ19 z20 => rf_bo z20 (some (σ19, z20))))))))))))) else rf_bo 0 (some (σ4, 0)))))))
def pf_alike_220 (rec : Nat → RS → List Int → Option (RS × Int)) : Nat → RS → Int → Int → Int → Int → Int → Int → Option (RS × Int)
  | 0, _, _, _, _, _, _, _ => none
  | n + 1, σ, x3, x7, x10, x11, x12, x13 =>
    (if x11 = 0 then rf_bo x11 (some (σ, x11)) else (if x10 < x13 then rf_bo x11 (some (σ, x11)) else rf_ck (x3 - x13) (fun z3 => rf_rd σ 49 z3 (fun z4 => rf_ck (x3 - x13) (fun z5 => rf_rd σ 50 z5 (fun z6 => rf_ck (x12 - x13) (fun z7 => rf_rd σ 49 z7 (fun z8 => rf_ck (x12 - x13) (fun z9 => rf_rd σ 50 z9 (fun z10 => rf_ck (x7 + 1) (fun z11 => rf_cl (rec 35 σ [z4, z6, z8, z10, z11]) (fun σ12 z13 => rf_ck (x13 + 1) (fun z14 => pf_alike_220 rec n σ12 x3 x7 x10 z13 x12 z14)))))))))))))
def pf_alike_209 (rec : Nat → RS → List Int → Option (RS × Int)) (σ : RS) (x3 : Int) (x7 : Int) (x10 : Int) (t0 : Int) : Option (RS × Int) :=
  rf_gi σ 51 (fun z1 => pf_alike_220 rec 200000 σ x3 x7 x10 t0 z1 1)
def pf_alike_204 (rec : Nat → RS → List Int → Option (RS × Int)) (σ : RS) (x3 : Int) (x7 : Int) (x10 : Int) : Option (RS × Int) :=
  pf_alike_209 rec σ x3 x7 x10 1
def pf_alike_208 (rec : Nat → RS → List Int → Option (RS × Int)) (σ : RS) (x3 : Int) (x7 : Int) (x10 : Int) : Option (RS × Int) :=
  pf_alike_209 rec σ x3 x7 x10 0
def pf_alike_188 (rec : Nat → RS → List Int → Option (RS × Int)) (σ : RS) (x1 : Int) (x3 : Int) (x5 : Int) (x7 : Int) (x10 : Int) : Option (RS × Int) :=
  rf_rd σ 31 x1 (fun z1 => rf_rd σ 31 x5 (fun z2 => (if ¬ z1 = z2 then pf_alike_208 rec σ x3 x7 x10 else pf_alike_204 rec σ x3 x7 x10)))
def pf_alike_131 (rec : Nat → RS → List Int → Option (RS × Int)) (σ : RS) (x1 : Int) (x3 : Int) (x4 : Int) (x5 : Int) (x7 : Int) (x8 : Int) (x9 : Int) : Option (RS × Int) :=
  rf_ck (x3 - x4) (fun z1 => (if ¬ x8 = x9 then pf_alike_208 rec σ x3 x7 z1 else rf_gi σ 51 (fun z3 => rf_ck (z3 - x3) (fun z4 => (if ¬ z1 = z4 then pf_alike_208 rec σ x3 x7 z1 else (if ¬ x8 = (-1) then (if x8 = 1 then pf_alike_188 rec σ x1 x3 x5 x7 z1 else (if x8 = 2 then pf_alike_188 rec σ x1 x3 x5 x7 z1 else (if ¬ x8 = 3 then pf_alike_208 rec σ x3 x7 z1 else pf_alike_188 rec σ x1 x3 x5 x7 z1))) else (if ¬ x1 = x5 then pf_alike_208 rec σ x3 x7 z1 else pf_alike_204 rec σ x3 x7 z1)))))))
def pf_alike_0 (rec : Nat → RS → List Int → Option (RS × Int)) (σ : RS) (x1 : Int) (x2 : Int) (x3 : Int) (x4 : Int) (x5 : Int) (x6 : Int) (x7 : Int) : Option (RS × Int) :=
  rf_cl (rec 33 σ [x1]) (fun σ1 z2 => rf_cl (rec 33 σ1 [x5]) (fun σ3 z4 => (if ¬ z2 = z4 then pf_alike_131 rec σ3 x1 x3 x4 x5 x7 z2 z4 else (if z2 = 4 then pf_alike_34 rec σ3 x1 x2 x5 x6 x7 else (if ¬ z2 = 5 then pf_alike_131 rec σ3 x1 x3 x4 x5 x7 z2 z4 else pf_alike_34 rec σ3 x1 x2 x5 x6 x7)))))
def pf_put_20 (rec : Nat → RS → List Int → Option (RS × Int)) (σ : RS) : Option (RS × Int) :=
  rf_gi σ 75 (fun z1 => rf_ck (z1 + 1) (fun z2 => rf_pi σ 75 z2 (fun σ3 => some (σ3, 0))))
def pf_put_0 (rec : Nat → RS → List Int → Option (RS × Int)) (σ : RS) (x1 : Int) : Option (RS × Int) :=
  rf_gi σ 75 (fun z1 => (if 3000 ≤ z1 then pf_put_20 rec σ else rf_gi σ 75 (fun z3 => rf_wr σ 74 z3 x1 (fun σ4 => pf_put_20 rec σ4))))
def pf_number_14 (rec : Nat → RS → List Int → Option (RS × Int)) (σ : RS) (x1 : Int) : Option (RS × Int) :=
  rf_nm (rn_rem x1 10) (fun z1 => rf_ck (48 + z1) (fun z2 => rf_cl (rec 37 σ [z2]) (fun σ3 z4 => some (σ3, 0))))
def pf_number_0 (rec : Nat → RS → List Int → Option (RS × Int)) (σ : RS) (x1 : Int) : Option (RS × Int) :=
  (if x1 ≤ 9 then pf_number_14 rec σ x1 else rf_nm (rn_div x1 10) (fun z2 => rf_cl (rec 38 σ [z2]) (fun σ3 z4 => pf_number_14 rec σ3 x1)))
def pf_putWord_3 (rec : Nat → RS → List Int → Option (RS × Int)) (b2 : Int) : Nat → RS → Int → Int → Int → Option (RS × Int)
  | 0, _, _, _, _ => none
  | n + 1, σ, x1, x3, x4 =>
    (if x3 ≤ x4 then some (σ, 0) else rf_ck (x1 + x4) (fun z2 => rf_rd σ (Int.toNat b2) z2 (fun z3 => rf_cl (rec 37 σ [z3]) (fun σ4 z5 => rf_ck (x4 + 1) (fun z6 => pf_putWord_3 rec b2 n σ4 x1 x3 z6)))))
def pf_putWord_0 (rec : Nat → RS → List Int → Option (RS × Int)) (b2 : Int) (σ : RS) (x1 : Int) (x3 : Int) : Option (RS × Int) :=
  pf_putWord_3 rec b2 200000 σ x1 x3 0
def pf_tell_382 (rec : Nat → RS → List Int → Option (RS × Int)) (σ : RS) (x6 : Int) (x11 : Int) : Option (RS × Int) :=
  rf_gi σ 72 (fun z1 => (if z1 = 0 then rf_pi σ 51 x6 (fun σ3 => (if x11 = 0 then some (σ3, 0) else rf_cl (rec 37 σ3 [41]) (fun σ5 z6 => some (σ5, 0)))) else some (σ, 0)))
def pf_tell_130 (rec : Nat → RS → List Int → Option (RS × Int)) (σ : RS) (x3 : Int) (x4 : Int) (x6 : Int) (x7 : Int) (x8 : Int) (x11 : Int) (t0 : Int) : Option (RS × Int) :=
  rf_cl (rec 37 σ [t0]) (fun σ1 z2 => rf_cl (rec 37 σ1 [95]) (fun σ3 z4 => rf_cl (rec 38 σ3 [x4]) (fun σ5 z6 => rf_cl (rec 37 σ5 [58]) (fun σ7 z8 => rf_rd σ7 32 x7 (fun z9 => rf_ck (x3 + 1) (fun z10 => rf_cl (rec 40 σ7 [z9, x8, z10, x4, 1]) (fun σ11 z12 => rf_gi σ11 72 (fun z13 => (if z13 = 0 then rf_cl (rec 37 σ11 [46]) (fun σ15 z16 => rf_rd σ15 33 x7 (fun z17 => rf_ck ((-1000000) - x4) (fun z18 => rf_cl (rec 34 σ15 [x7, x8, z18]) (fun σ19 z20 => rf_ck (x3 + 1) (fun z21 => rf_ck (x4 + 1) (fun z22 => rf_cl (rec 40 σ19 [z17, z20, z21, z22, 0]) (fun σ23 z24 => pf_tell_382 rec σ23 x6 x11))))))) else some (σ11, 0))))))))))
def pf_tell_323 (rec : Nat → RS → List Int → Option (RS × Int)) : Nat → RS → Int → Int → Int → Int → Int → Int → Option (RS × Int)
  | 0, _, _, _, _, _, _, _ => none
  | n + 1, σ, x3, x4, x6, x11, x12, x13 =>
    rf_gi σ 72 (fun z1 => (if ¬ z1 = 0 then pf_tell_382 rec σ x6 x11 else rf_ck (x12 - x6) (fun z3 => (if z3 < x13 then pf_tell_382 rec σ x6 x11 else rf_cl (rec 37 σ [32]) (fun σ5 z6 => rf_ck (x12 - x13) (fun z7 => rf_rd σ5 49 z7 (fun z8 => rf_ck (x12 - x13) (fun z9 => rf_rd σ5 50 z9 (fun z10 => rf_ck (x3 + 1) (fun z11 => rf_cl (rec 40 σ5 [z8, z10, z11, x4, 2]) (fun σ12 z13 => rf_ck (x13 + 1) (fun z14 => pf_tell_323 rec n σ12 x3 x4 x6 x11 x12 z14))))))))))))
def pf_tell_314 (rec : Nat → RS → List Int → Option (RS × Int)) (σ : RS) (x3 : Int) (x4 : Int) (x6 : Int) (x11 : Int) : Option (RS × Int) :=
  rf_gi σ 51 (fun z1 => pf_tell_323 rec 200000 σ x3 x4 x6 x11 z1 1)
def pf_tell_111 (rec : Nat → RS → List Int → Option (RS × Int)) (σ : RS) (x3 : Int) (x4 : Int) (x6 : Int) (x7 : Int) (x8 : Int) (x9 : Int) (x10 : Int) (x11 : Int) : Option (RS × Int) :=
  (if x10 = 0 then (if ¬ x9 = (-1) then (if ¬ x9 = 3 then rf_rd σ 31 x7 (fun z4 => rf_ck (12 * z4) (fun z5 => rf_rd σ 31 x7 (fun z6 => rf_rd σ 22 z6 (fun z7 => rf_cl (rec 39 σ [z5, 21, z7]) (fun σ8 z9 => pf_tell_314 rec σ8 x3 x4 x6 x11))))) else rf_rd σ 31 x7 (fun z10 => rf_ck (12 * z10) (fun z11 => rf_rd σ 31 x7 (fun z12 => rf_rd σ 17 z12 (fun z13 => rf_cl (rec 39 σ [z11, 16, z13]) (fun σ14 z15 => pf_tell_314 rec σ14 x3 x4 x6 x11)))))) else rf_cl (rec 37 σ [95]) (fun σ16 z17 => rf_ck ((-1000000) - x7) (fun z18 => rf_cl (rec 38 σ16 [z18]) (fun σ19 z20 => pf_tell_314 rec σ19 x3 x4 x6 x11)))) else (if ¬ x9 = 4 then pf_tell_130 rec σ x3 x4 x6 x7 x8 x11 33 else pf_tell_130 rec σ x3 x4 x6 x7 x8 x11 92))
def pf_tell_98 (rec : Nat → RS → List Int → Option (RS × Int)) (σ : RS) (x3 : Int) (x4 : Int) (x6 : Int) (x7 : Int) (x8 : Int) (x9 : Int) (x10 : Int) (t0 : Int) : Option (RS × Int) :=
  (if t0 = 0 then pf_tell_111 rec σ x3 x4 x6 x7 x8 x9 x10 t0 else rf_cl (rec 37 σ [40]) (fun σ2 z3 => pf_tell_111 rec σ2 x3 x4 x6 x7 x8 x9 x10 t0))
def pf_tell_93 (rec : Nat → RS → List Int → Option (RS × Int)) (σ : RS) (x3 : Int) (x4 : Int) (x6 : Int) (x7 : Int) (x8 : Int) (x9 : Int) (x10 : Int) : Option (RS × Int) :=
  pf_tell_98 rec σ x3 x4 x6 x7 x8 x9 x10 1
def pf_tell_97 (rec : Nat → RS → List Int → Option (RS × Int)) (σ : RS) (x3 : Int) (x4 : Int) (x6 : Int) (x7 : Int) (x8 : Int) (x9 : Int) (x10 : Int) : Option (RS × Int) :=
  pf_tell_98 rec σ x3 x4 x6 x7 x8 x9 x10 0
def pf_tell_78 (rec : Nat → RS → List Int → Option (RS × Int)) (σ : RS) (x3 : Int) (x4 : Int) (x5 : Int) (x6 : Int) (x7 : Int) (x8 : Int) (x9 : Int) (x10 : Int) : Option (RS × Int) :=
  (if ¬ x5 = 2 then pf_tell_97 rec σ x3 x4 x6 x7 x8 x9 x10 else rf_gi σ 51 (fun z2 => (if z2 ≤ x6 then pf_tell_97 rec σ x3 x4 x6 x7 x8 x9 x10 else pf_tell_93 rec σ x3 x4 x6 x7 x8 x9 x10)))
def pf_tell_66 (rec : Nat → RS → List Int → Option (RS × Int)) (σ : RS) (x3 : Int) (x4 : Int) (x5 : Int) (x6 : Int) (x7 : Int) (x8 : Int) (x9 : Int) (t0 : Int) : Option (RS × Int) :=
  (if t0 = 0 then pf_tell_78 rec σ x3 x4 x5 x6 x7 x8 x9 t0 else (if 0 < x5 then pf_tell_93 rec σ x3 x4 x6 x7 x8 x9 t0 else pf_tell_78 rec σ x3 x4 x5 x6 x7 x8 x9 t0))
def pf_tell_61 (rec : Nat → RS → List Int → Option (RS × Int)) (σ : RS) (x3 : Int) (x4 : Int) (x5 : Int) (x6 : Int) (x7 : Int) (x8 : Int) (x9 : Int) : Option (RS × Int) :=
  pf_tell_66 rec σ x3 x4 x5 x6 x7 x8 x9 1
def pf_tell_0 (rec : Nat → RS → List Int → Option (RS × Int)) (σ : RS) (x1 : Int) (x2 : Int) (x3 : Int) (x4 : Int) (x5 : Int) : Option (RS × Int) :=
  rf_cl (rec 29 σ [x3]) (fun σ1 z2 => (if ¬ z2 = 0 then rf_gi σ1 51 (fun z4 => rf_cl (rec 32 σ1 [x1, x2]) (fun σ5 z6 => rf_gi σ5 72 (fun z7 => (if z7 = 0 then rf_gi σ5 52 (fun z9 => rf_gi σ5 53 (fun z10 => rf_cl (rec 33 σ5 [z9]) (fun σ11 z12 => (if z12 = 4 then pf_tell_61 rec σ11 x3 x4 x5 z4 z9 z10 z12 else (if ¬ z12 = 5 then pf_tell_66 rec σ11 x3 x4 x5 z4 z9 z10 z12 0 else pf_tell_61 rec σ11 x3 x4 x5 z4 z9 z10 z12))))) else some (σ5, 0))))) else some (σ1, 0)))
def pf_normal_63 (rec : Nat → RS → List Int → Option (RS × Int)) (σ : RS) (x3 : Int) (x4 : Int) (x5 : Int) (x6 : Int) (x7 : Int) : Option (RS × Int) :=
  rf_cl (rec 18 σ [x7, (-1), 0, 0, 0]) (fun σ1 z2 => rf_rd σ1 36 x5 (fun z3 => rf_wr σ1 36 z2 z3 (fun σ4 => rf_rd σ4 37 x5 (fun z5 => rf_wr σ4 37 z2 z5 (fun σ6 => rf_rd σ6 32 x5 (fun z7 => rf_ck (x3 + 1) (fun z8 => rf_cl (rec 41 σ6 [z7, x6, z8]) (fun σ9 z10 => rf_wr σ9 32 z2 z10 (fun σ11 => rf_rd σ11 33 x5 (fun z12 => rf_ck ((-2) - z2) (fun z13 => rf_cl (rec 34 σ11 [x5, x6, z13]) (fun σ14 z15 => rf_ck (x3 + 1) (fun z16 => rf_cl (rec 41 σ14 [z12, z15, z16]) (fun σ17 z18 => rf_wr σ17 33 z2 z18 (fun σ19 => rf_pi σ19 51 x4 (fun σ20 => some (σ20, z2)))))))))))))))))
def pf_normal_229 (rec : Nat → RS → List Int → Option (RS × Int)) : Nat → RS → Int → Int → Int → Int → Int → Option (RS × Int)
  | 0, _, _, _, _, _, _ => none
  | n + 1, σ, x3, x4, x8, x9, x10 =>
    rf_gi σ 72 (fun z1 => (if ¬ z1 = 0 then rf_pi σ 51 x4 (fun σ3 => some (σ3, x8)) else rf_ck (x9 - x4) (fun z4 => (if z4 < x10 then rf_pi σ 51 x4 (fun σ6 => some (σ6, x8)) else rf_ck (x9 - x10) (fun z7 => rf_rd σ 49 z7 (fun z8 => rf_ck (x9 - x10) (fun z9 => rf_rd σ 50 z9 (fun z10 => rf_ck (x3 + 1) (fun z11 => rf_cl (rec 41 σ [z8, z10, z11]) (fun σ12 z13 => rf_cl (rec 18 σ12 [7, 0, x8, z13, 0]) (fun σ14 z15 => rf_ck (x10 + 1) (fun z16 => pf_normal_229 rec n σ14 x3 x4 z15 x9 z16))))))))))))
def pf_normal_218 (rec : Nat → RS → List Int → Option (RS × Int)) (σ : RS) (x3 : Int) (x4 : Int) (t0 : Int) : Option (RS × Int) :=
  rf_gi σ 51 (fun z1 => pf_normal_229 rec 200000 σ x3 x4 t0 z1 1)
def pf_normal_212 (rec : Nat → RS → List Int → Option (RS × Int)) (σ : RS) (x3 : Int) (x4 : Int) (t0 : Int) (t1 : Int) : Option (RS × Int) :=
  rf_cl (rec 18 σ [t1, t0, 0, 0, 0]) (fun σ1 z2 => pf_normal_218 rec σ1 x3 x4 z2)
def pf_normal_191 (rec : Nat → RS → List Int → Option (RS × Int)) (σ : RS) (x3 : Int) (x4 : Int) (x5 : Int) (x7 : Int) (t0 : Int) : Option (RS × Int) :=
  (if ¬ x7 = (-1) then rf_rd σ 31 x5 (fun z2 => pf_normal_212 rec σ x3 x4 z2 t0) else rf_ck ((-2) - x5) (fun z3 => pf_normal_212 rec σ x3 x4 z3 t0))
def pf_normal_0 (rec : Nat → RS → List Int → Option (RS × Int)) (σ : RS) (x1 : Int) (x2 : Int) (x3 : Int) : Option (RS × Int) :=
  rf_cl (rec 29 σ [x3]) (fun σ1 z2 => (if ¬ z2 = 0 then rf_gi σ1 51 (fun z4 => rf_cl (rec 32 σ1 [x1, x2]) (fun σ5 z6 => rf_gi σ5 72 (fun z7 => (if z7 = 0 then rf_gi σ5 52 (fun z9 => rf_gi σ5 53 (fun z10 => rf_cl (rec 33 σ5 [z9]) (fun σ11 z12 => (if z12 = 4 then pf_normal_63 rec σ11 x3 z4 z9 z10 z12 else (if ¬ z12 = 5 then (if ¬ z12 = 3 then (if ¬ z12 = 2 then pf_normal_191 rec σ11 x3 z4 z9 z12 1 else pf_normal_191 rec σ11 x3 z4 z9 z12 2) else rf_rd σ11 31 z9 (fun z17 => pf_normal_218 rec σ11 x3 z4 z17)) else pf_normal_63 rec σ11 x3 z4 z9 z10 z12))))) else some (σ5, 0))))) else some (σ1, 0)))
def pf_sameName_51 (rec : Nat → RS → List Int → Option (RS × Int)) (b3 : Int) (k16 : RS → Int → Int → Int → Int → Int → Option (RS × Int)) (σ : RS) (x1 : Int) (x2 : Int) (x4 : Int) (x7 : Int) (t0 : Int) : Option (RS × Int) :=
  rf_ck (x7 + 1) (fun z1 => k16 σ x1 x2 x4 t0 z1)
def pf_sameName_16 (rec : Nat → RS → List Int → Option (RS × Int)) (b3 : Int) : Nat → RS → Int → Int → Int → Int → Int → Option (RS × Int)
  | 0, _, _, _, _, _, _ => none
  | n + 1, σ, x1, x2, x4, x6, x7 =>
    (if x6 = 0 then rf_bo x6 (some (σ, x6)) else (if x2 ≤ x7 then rf_bo x6 (some (σ, x6)) else rf_ck (x1 + x7) (fun z3 => rf_rd σ 4 z3 (fun z4 => rf_ck (x4 + x7) (fun z5 => rf_rd σ (Int.toNat b3) z5 (fun z6 => (if ¬ z4 = z6 then pf_sameName_51 rec b3 (pf_sameName_16 rec b3 n) σ x1 x2 x4 x7 0 else pf_sameName_51 rec b3 (pf_sameName_16 rec b3 n) σ x1 x2 x4 x7 1)))))))
def pf_sameName_11 (rec : Nat → RS → List Int → Option (RS × Int)) (b3 : Int) (σ : RS) (x1 : Int) (x2 : Int) (x4 : Int) (t0 : Int) : Option (RS × Int) :=
  pf_sameName_16 rec b3 200000 σ x1 x2 x4 t0 0
def pf_sameName_0 (rec : Nat → RS → List Int → Option (RS × Int)) (b3 : Int) (σ : RS) (x1 : Int) (x2 : Int) (x4 : Int) (x5 : Int) : Option (RS × Int) :=
  (if ¬ x2 = x5 then pf_sameName_11 rec b3 σ x1 x2 x4 0 else pf_sameName_11 rec b3 σ x1 x2 x4 1)
def pf_sortOf_47 (rec : Nat → RS → List Int → Option (RS × Int)) (k4 : RS → Int → Int → Int → Option (RS × Int)) (σ : RS) (x1 : Int) (x2 : Int) (x3 : Int) : Option (RS × Int) :=
  rf_ck (x3 + 1) (fun z1 => k4 σ x1 x2 z1)
def pf_sortOf_4 (rec : Nat → RS → List Int → Option (RS × Int)) : Nat → RS → Int → Int → Int → Option (RS × Int)
  | 0, _, _, _, _ => none
  | n + 1, σ, x1, x2, x3 =>
    rf_gi σ 20 (fun z1 => (if z1 ≤ x3 then some (σ, x2) else rf_rd σ 31 x1 (fun z3 => rf_rd σ 32 x1 (fun z4 => rf_ck (12 * x3) (fun z5 => rf_rd σ 17 x3 (fun z6 => rf_cl (rec 42 σ [z3, z4, 16, z5, z6]) (fun σ7 z8 => (if z8 = 0 then pf_sortOf_47 rec (pf_sortOf_4 rec n) σ7 x1 x2 x3 else pf_sortOf_47 rec (pf_sortOf_4 rec n) σ7 x1 x3 x3))))))))
def pf_sortOf_0 (rec : Nat → RS → List Int → Option (RS × Int)) (σ : RS) (x1 : Int) : Option (RS × Int) :=
  pf_sortOf_4 rec 200000 σ x1 (-1) 0
def pf_knownOf_47 (rec : Nat → RS → List Int → Option (RS × Int)) (k4 : RS → Int → Int → Int → Option (RS × Int)) (σ : RS) (x1 : Int) (x2 : Int) (x3 : Int) : Option (RS × Int) :=
  rf_ck (x3 + 1) (fun z1 => k4 σ x1 x2 z1)
def pf_knownOf_4 (rec : Nat → RS → List Int → Option (RS × Int)) : Nat → RS → Int → Int → Int → Option (RS × Int)
  | 0, _, _, _, _ => none
  | n + 1, σ, x1, x2, x3 =>
    rf_gi σ 27 (fun z1 => (if z1 ≤ x3 then some (σ, x2) else rf_rd σ 31 x1 (fun z3 => rf_rd σ 32 x1 (fun z4 => rf_ck (12 * x3) (fun z5 => rf_rd σ 22 x3 (fun z6 => rf_cl (rec 42 σ [z3, z4, 21, z5, z6]) (fun σ7 z8 => (if z8 = 0 then pf_knownOf_47 rec (pf_knownOf_4 rec n) σ7 x1 x2 x3 else pf_knownOf_47 rec (pf_knownOf_4 rec n) σ7 x1 x3 x3))))))))
def pf_knownOf_0 (rec : Nat → RS → List Int → Option (RS × Int)) (σ : RS) (x1 : Int) : Option (RS × Int) :=
  pf_knownOf_4 rec 200000 σ x1 (-1) 0
def pf_becomes_0 (rec : Nat → RS → List Int → Option (RS × Int)) (σ : RS) (x1 : Int) (x2 : Int) : Option (RS × Int) :=
  rf_pi σ 60 x1 (fun σ1 => rf_pi σ1 61 x2 (fun σ2 => some (σ2, 0)))
def pf_judgeName_104 (rec : Nat → RS → List Int → Option (RS × Int)) (k4 : RS → Int → Int → Int → Option (RS × Int)) (k51 : RS → Int → Int → Int → Int → Int → Int → Option (RS × Int)) (σ : RS) (x1 : Int) (x2 : Int) (x3 : Int) (x4 : Int) (x6 : Int) (t0 : Int) : Option (RS × Int) :=
  rf_ck (x6 + 1) (fun z1 => k51 σ x1 x2 x3 x4 t0 z1)
def pf_judgeName_124 (rec : Nat → RS → List Int → Option (RS × Int)) (k4 : RS → Int → Int → Int → Option (RS × Int)) (σ : RS) (x1 : Int) (x2 : Int) (x3 : Int) : Option (RS × Int) :=
  rf_ck (x3 + 1) (fun z1 => k4 σ x1 x2 z1)
def pf_judgeName_112 (rec : Nat → RS → List Int → Option (RS × Int)) (k4 : RS → Int → Int → Int → Option (RS × Int)) (σ : RS) (x1 : Int) (x2 : Int) (x3 : Int) (x5 : Int) : Option (RS × Int) :=
  (if x5 = 0 then pf_judgeName_124 rec k4 σ x1 x2 x3 else rf_rd σ 42 x3 (fun z2 => pf_judgeName_124 rec k4 σ x1 z2 x3))
def pf_judgeName_51 (rec : Nat → RS → List Int → Option (RS × Int)) (k4 : RS → Int → Int → Int → Option (RS × Int)) : Nat → RS → Int → Int → Int → Int → Int → Int → Option (RS × Int)
  | 0, _, _, _, _, _, _, _ => none
  | n + 1, σ, x1, x2, x3, x4, x5, x6 =>
    (if x5 = 0 then pf_judgeName_112 rec k4 σ x1 x2 x3 x5 else rf_rd σ 32 x1 (fun z2 => (if z2 ≤ x6 then pf_judgeName_112 rec k4 σ x1 x2 x3 x5 else rf_rd σ 31 x1 (fun z4 => rf_ck (z4 + x6) (fun z5 => rf_rd σ 4 z5 (fun z6 => rf_rd σ 31 x4 (fun z7 => rf_ck (z7 + x6) (fun z8 => rf_rd σ 4 z8 (fun z9 => (if ¬ z6 = z9 then pf_judgeName_104 rec k4 (pf_judgeName_51 rec k4 n) σ x1 x2 x3 x4 x6 0 else pf_judgeName_104 rec k4 (pf_judgeName_51 rec k4 n) σ x1 x2 x3 x4 x6 1))))))))))
def pf_judgeName_46 (rec : Nat → RS → List Int → Option (RS × Int)) (k4 : RS → Int → Int → Int → Option (RS × Int)) (σ : RS) (x1 : Int) (x2 : Int) (x3 : Int) (x4 : Int) (t0 : Int) : Option (RS × Int) :=
  pf_judgeName_51 rec k4 200000 σ x1 x2 x3 x4 t0 0
def pf_judgeName_184 (rec : Nat → RS → List Int → Option (RS × Int)) (σ : RS) (x1 : Int) (x3 : Int) (t0 : Int) : Option (RS × Int) :=
  (if x3 < 0 then (if 0 ≤ t0 then rf_rd σ 18 t0 (fun z3 => (if 0 ≤ z3 then rf_wr σ 30 x1 3 (fun σ5 => rf_wr σ5 31 x1 t0 (fun σ6 => rf_rd σ6 18 t0 (fun z7 => rf_rd σ6 18 t0 (fun z8 => rf_rd σ6 18 z8 (fun z9 => rf_cl (rec 45 σ6 [z7, z9]) (fun σ10 z11 => some (σ10, 0))))))) else rf_rd σ 31 x1 (fun z12 => rf_cl (rec 3 σ [7, z12]) (fun σ13 z14 => some (σ13, 0))))) else rf_rd σ 31 x1 (fun z15 => rf_cl (rec 3 σ [3, z15]) (fun σ16 z17 => some (σ16, 0)))) else rf_wr σ 30 x1 2 (fun σ18 => rf_wr σ18 31 x1 x3 (fun σ19 => rf_rd σ19 23 x3 (fun z20 => rf_rd σ19 24 x3 (fun z21 => rf_cl (rec 45 σ19 [z20, z21]) (fun σ22 z23 => some (σ22, 0)))))))
def pf_judgeName_4 (rec : Nat → RS → List Int → Option (RS × Int)) : Nat → RS → Int → Int → Int → Option (RS × Int)
  | 0, _, _, _, _ => none
  | n + 1, σ, x1, x2, x3 =>
    rf_gi σ 43 (fun z1 => (if z1 ≤ x3 then (if x2 < 0 then rf_cl (rec 44 σ [x1]) (fun σ4 z5 => (if z5 < 0 then rf_cl (rec 43 σ4 [x1]) (fun σ7 z8 => pf_judgeName_184 rec σ7 x1 z5 z8) else pf_judgeName_184 rec σ4 x1 z5 (-1))) else rf_wr σ 30 x1 1 (fun σ9 => rf_wr σ9 31 x1 x2 (fun σ10 => rf_rd σ10 40 x2 (fun z11 => rf_rd σ10 41 x2 (fun z12 => rf_cl (rec 45 σ10 [z11, z12]) (fun σ13 z14 => some (σ13, 0))))))) else rf_rd σ 42 x3 (fun z15 => rf_rd σ 31 z15 (fun z16 => rf_rd σ 32 x1 (fun z17 => rf_rd σ 32 z16 (fun z18 => (if ¬ z17 = z18 then pf_judgeName_46 rec (pf_judgeName_4 rec n) σ x1 x2 x3 z16 0 else pf_judgeName_46 rec (pf_judgeName_4 rec n) σ x1 x2 x3 z16 1)))))))
def pf_judgeName_0 (rec : Nat → RS → List Int → Option (RS × Int)) (σ : RS) (x1 : Int) : Option (RS × Int) :=
  pf_judgeName_4 rec 200000 σ x1 (-1) 0
def pf_judgeSort_48 (rec : Nat → RS → List Int → Option (RS × Int)) (σ : RS) (x3 : Int) : Option (RS × Int) :=
  (if x3 = 0 then some (σ, 0) else rf_gi σ 60 (fun z2 => rf_rd σ 31 z2 (fun z3 => some (σ, z3))))
def pf_judgeSort_31 (rec : Nat → RS → List Int → Option (RS × Int)) (σ : RS) (x1 : Int) (t0 : Int) : Option (RS × Int) :=
  (if ¬ t0 = 0 then pf_judgeSort_48 rec σ t0 else rf_rd σ 34 x1 (fun z2 => rf_cl (rec 3 σ [8, z2]) (fun σ3 z4 => pf_judgeSort_48 rec σ3 t0)))
def pf_judgeSort_30 (rec : Nat → RS → List Int → Option (RS × Int)) (σ : RS) (x1 : Int) : Option (RS × Int) :=
  pf_judgeSort_31 rec σ x1 0
def pf_judgeSort_0 (rec : Nat → RS → List Int → Option (RS × Int)) (σ : RS) (x1 : Int) (x2 : Int) : Option (RS × Int) :=
  rf_cl (rec 49 σ [x1, x2]) (fun σ1 z2 => rf_gi σ1 72 (fun z3 => (if ¬ z3 = 0 then pf_judgeSort_30 rec σ1 x1 else rf_gi σ1 60 (fun z5 => rf_rd σ1 30 z5 (fun z6 => (if ¬ z6 = 3 then pf_judgeSort_30 rec σ1 x1 else pf_judgeSort_31 rec σ1 x1 1))))))
def pf_bind_0 (rec : Nat → RS → List Int → Option (RS × Int)) (σ : RS) (x1 : Int) (x2 : Int) (x3 : Int) : Option (RS × Int) :=
  rf_wr σ 40 x1 x2 (fun σ1 => rf_wr σ1 41 x1 x3 (fun σ2 => rf_gi σ2 43 (fun z3 => rf_wr σ2 42 z3 x1 (fun σ4 => rf_gi σ4 43 (fun z5 => rf_ck (z5 + 1) (fun z6 => rf_pi σ4 43 z6 (fun σ7 => some (σ7, 0))))))))
def pf_judge_0 (rec : Nat → RS → List Int → Option (RS × Int)) (σ : RS) (x1 : Int) (x2 : Int) : Option (RS × Int) :=
  rf_gi σ 72 (fun z1 => (if z1 = 0 then rf_rd σ 30 x1 (fun z3 => (if z3 = 4 then rf_cl (rec 51 σ [x1, x2]) (fun σ5 z6 => some (σ5, 0)) else (if z3 = 5 then rf_cl (rec 50 σ [x1, x2]) (fun σ8 z9 => some (σ8, 0)) else (if z3 = 6 then rf_rd σ 32 x1 (fun z11 => rf_cl (rec 49 σ [z11, x2]) (fun σ12 z13 => rf_gi σ12 72 (fun z14 => (if z14 = 0 then rf_gi σ12 60 (fun z16 => rf_gi σ12 61 (fun z17 => rf_cl (rec 48 σ12 [x1, z16, z17]) (fun σ18 z19 => rf_rd σ18 33 x1 (fun z20 => rf_rd σ18 32 x1 (fun z21 => rf_cl (rec 30 σ18 [x2, x1, z21, x2]) (fun σ22 z23 => rf_cl (rec 49 σ22 [z20, z23]) (fun σ24 z25 => rf_gi σ24 43 (fun z26 => rf_ck (z26 - 1) (fun z27 => rf_pi σ24 43 z27 (fun σ28 => some (σ28, 0))))))))))) else some (σ12, 0))))) else (if z3 = 7 then rf_cl (rec 52 σ [x1, x2]) (fun σ30 z31 => some (σ30, 0)) else rf_cl (rec 46 σ [x1]) (fun σ32 z33 => some (σ32, 0))))))) else some (σ, 0)))
def pf_judgeProduct_102 (rec : Nat → RS → List Int → Option (RS × Int)) (σ : RS) (x1 : Int) (x3 : Int) (x6 : Int) : Option (RS × Int) :=
  rf_gi σ 72 (fun z1 => (if z1 = 0 then rf_ck (8 * x3) (fun z3 => rf_ck (z3 + x6) (fun z4 => rf_rd σ 19 z4 (fun z5 => (if 0 ≤ z5 then rf_wr σ 36 x1 x3 (fun σ7 => rf_wr σ7 37 x1 x6 (fun σ8 => rf_rd σ8 18 z5 (fun z9 => rf_cl (rec 45 σ8 [z5, z9]) (fun σ10 z11 => some (σ10, 0))))) else rf_rd σ 35 x1 (fun z12 => rf_cl (rec 3 σ [9, z12]) (fun σ13 z14 => some (σ13, 0))))))) else some (σ, 0)))
def pf_judgeProduct_74 (rec : Nat → RS → List Int → Option (RS × Int)) (σ : RS) (x1 : Int) (x2 : Int) (x3 : Int) (x5 : Int) : Option (RS × Int) :=
  rf_rd σ 33 x1 (fun z1 => rf_cl (rec 47 σ [z1, x2]) (fun σ2 z3 => (if x5 = 0 then pf_judgeProduct_102 rec σ2 x1 x3 z3 else rf_gi σ2 43 (fun z5 => rf_ck (z5 - 1) (fun z6 => rf_pi σ2 43 z6 (fun σ7 => pf_judgeProduct_102 rec σ7 x1 x3 z3))))))
def pf_judgeProduct_59 (rec : Nat → RS → List Int → Option (RS × Int)) (σ : RS) (x1 : Int) (x2 : Int) (x3 : Int) (x4 : Int) (t0 : Int) : Option (RS × Int) :=
  (if t0 = 0 then pf_judgeProduct_74 rec σ x1 x2 x3 t0 else rf_cl (rec 48 σ [x1, x4, x3]) (fun σ2 z3 => pf_judgeProduct_74 rec σ2 x1 x2 x3 t0))
def pf_judgeProduct_35 (rec : Nat → RS → List Int → Option (RS × Int)) (σ : RS) (x1 : Int) (x2 : Int) (x3 : Int) (t0 : Int) : Option (RS × Int) :=
  rf_gi σ 72 (fun z1 => (if z1 = 0 then rf_rd σ 31 x1 (fun z3 => (if z3 < 0 then pf_judgeProduct_59 rec σ x1 x2 x3 t0 0 else pf_judgeProduct_59 rec σ x1 x2 x3 t0 1)) else some (σ, 0)))
def pf_judgeProduct_0 (rec : Nat → RS → List Int → Option (RS × Int)) (σ : RS) (x1 : Int) (x2 : Int) : Option (RS × Int) :=
  rf_rd σ 32 x1 (fun z1 => rf_cl (rec 47 σ [z1, x2]) (fun σ2 z3 => rf_gi σ2 72 (fun z4 => (if ¬ z4 = 0 then pf_judgeProduct_35 rec σ2 x1 x2 z3 0 else rf_rd σ2 32 x1 (fun z6 => rf_cl (rec 41 σ2 [z6, x2, 0]) (fun σ7 z8 => pf_judgeProduct_35 rec σ7 x1 x2 z3 z8))))))
def pf_judgeLambda_129 (rec : Nat → RS → List Int → Option (RS × Int)) (σ : RS) (x1 : Int) (t0 : Int) : Option (RS × Int) :=
  rf_rd σ 35 x1 (fun z1 => rf_cl (rec 3 σ [t0, z1]) (fun σ2 z3 => some (σ2, 0)))
def pf_judgeLambda_109 (rec : Nat → RS → List Int → Option (RS × Int)) (σ : RS) (x1 : Int) (x3 : Int) (x4 : Int) (x5 : Int) (t0 : Int) : Option (RS × Int) :=
  (if 0 ≤ t0 then rf_gi σ 60 (fun z2 => rf_cl (rec 18 σ [5, (-1), x4, z2, 0]) (fun σ3 z4 => rf_wr σ3 38 z4 x1 (fun σ5 => rf_wr σ5 36 z4 x3 (fun σ6 => rf_wr σ6 37 z4 x5 (fun σ7 => rf_cl (rec 45 σ7 [z4, t0]) (fun σ8 z9 => some (σ8, 0))))))) else (if 0 ≤ x5 then pf_judgeLambda_129 rec σ x1 9 else pf_judgeLambda_129 rec σ x1 7))
def pf_judgeLambda_35 (rec : Nat → RS → List Int → Option (RS × Int)) (σ : RS) (x1 : Int) (x2 : Int) (x3 : Int) (t0 : Int) : Option (RS × Int) :=
  rf_gi σ 72 (fun z1 => (if z1 = 0 then rf_cl (rec 48 σ [x1, t0, x3]) (fun σ3 z4 => rf_rd σ3 33 x1 (fun z5 => rf_cl (rec 49 σ3 [z5, x2]) (fun σ6 z7 => rf_gi σ6 43 (fun z8 => rf_ck (z8 - 1) (fun z9 => rf_pi σ6 43 z9 (fun σ10 => rf_gi σ10 72 (fun z11 => (if z11 = 0 then rf_gi σ10 61 (fun z13 => (if 0 ≤ z13 then rf_ck (8 * x3) (fun z15 => rf_ck (z15 + z13) (fun z16 => rf_rd σ10 19 z16 (fun z17 => pf_judgeLambda_109 rec σ10 x1 x3 t0 z13 z17))) else pf_judgeLambda_109 rec σ10 x1 x3 t0 z13 (-1))) else some (σ10, 0))))))))) else some (σ, 0)))
def pf_judgeLambda_0 (rec : Nat → RS → List Int → Option (RS × Int)) (σ : RS) (x1 : Int) (x2 : Int) : Option (RS × Int) :=
  rf_rd σ 32 x1 (fun z1 => rf_cl (rec 47 σ [z1, x2]) (fun σ2 z3 => rf_gi σ2 72 (fun z4 => (if ¬ z4 = 0 then pf_judgeLambda_35 rec σ2 x1 x2 z3 0 else rf_rd σ2 32 x1 (fun z6 => rf_cl (rec 41 σ2 [z6, x2, 0]) (fun σ7 z8 => pf_judgeLambda_35 rec σ7 x1 x2 z3 z8))))))
def pf_judgeUse_68 (rec : Nat → RS → List Int → Option (RS × Int)) : Nat → RS → Int → Int → Int → Option (RS × Int)
  | 0, _, _, _, _ => none
  | n + 1, σ, x2, x3, x5 =>
    rf_gi σ 72 (fun z1 => (if ¬ z1 = 0 then rf_pi σ 59 x3 (fun σ3 => some (σ3, 0)) else (if x5 < x3 then rf_pi σ 59 x3 (fun σ5 => some (σ5, 0)) else rf_rd σ 58 x5 (fun z6 => rf_cl (rec 53 σ [z6, x2]) (fun σ7 z8 => rf_ck (x5 + (-1)) (fun z9 => pf_judgeUse_68 rec n σ7 x2 x3 z9))))))
def pf_judgeUse_8 (rec : Nat → RS → List Int → Option (RS × Int)) : Nat → RS → Int → Int → Int → Option (RS × Int)
  | 0, _, _, _, _ => none
  | n + 1, σ, x2, x3, x4 =>
    rf_rd σ 30 x4 (fun z1 => (if ¬ z1 = 7 then rf_cl (rec 49 σ [x4, x2]) (fun σ3 z4 => rf_gi σ3 59 (fun z5 => rf_ck (z5 - 1) (fun z6 => pf_judgeUse_68 rec 200000 σ3 x2 x3 z6))) else rf_gi σ 59 (fun z7 => rf_wr σ 58 z7 x4 (fun σ8 => rf_gi σ8 59 (fun z9 => rf_ck (z9 + 1) (fun z10 => rf_pi σ8 59 z10 (fun σ11 => rf_rd σ11 32 x4 (fun z12 => pf_judgeUse_8 rec n σ11 x2 x3 z12))))))))
def pf_judgeUse_0 (rec : Nat → RS → List Int → Option (RS × Int)) (σ : RS) (x1 : Int) (x2 : Int) : Option (RS × Int) :=
  rf_gi σ 59 (fun z1 => pf_judgeUse_8 rec 200000 σ x2 z1 x1)
def pf_applied_129 (rec : Nat → RS → List Int → Option (RS × Int)) (σ : RS) (x3 : Int) (t0 : Int) : Option (RS × Int) :=
  rf_rd σ 37 x3 (fun z1 => rf_cl (rec 45 σ [t0, z1]) (fun σ2 z3 => some (σ2, 0)))
def pf_applied_93 (rec : Nat → RS → List Int → Option (RS × Int)) (σ : RS) (x2 : Int) (x3 : Int) (x4 : Int) : Option (RS × Int) :=
  rf_gi σ 72 (fun z1 => (if ¬ z1 = 0 then pf_applied_129 rec σ x3 0 else rf_rd σ 33 x3 (fun z3 => rf_rd σ 38 x3 (fun z4 => rf_cl (rec 30 σ [0, z4, x4, x2]) (fun σ5 z6 => rf_cl (rec 41 σ5 [z3, z6, 0]) (fun σ7 z8 => pf_applied_129 rec σ7 x3 z8))))))
def pf_applied_0 (rec : Nat → RS → List Int → Option (RS × Int)) (σ : RS) (x1 : Int) (x2 : Int) : Option (RS × Int) :=
  rf_gi σ 60 (fun z1 => rf_rd σ 30 z1 (fun z2 => (if z2 = 5 then rf_rd σ 33 x1 (fun z4 => rf_cl (rec 49 σ [z4, x2]) (fun σ5 z6 => rf_gi σ5 72 (fun z7 => (if z7 = 0 then rf_rd σ5 32 z1 (fun z9 => rf_gi σ5 60 (fun z10 => rf_cl (rec 35 σ5 [z9, 0, z10, 0, 0]) (fun σ11 z12 => (if ¬ z12 = 0 then pf_applied_93 rec σ11 x2 z1 z4 else rf_rd σ11 34 z4 (fun z14 => rf_cl (rec 3 σ11 [11, z14]) (fun σ15 z16 => pf_applied_93 rec σ15 x2 z1 z4)))))) else some (σ5, 0))))) else rf_rd σ 32 x1 (fun z17 => rf_rd σ 34 z17 (fun z18 => rf_cl (rec 3 σ [10, z18]) (fun σ19 z20 => some (σ19, 0)))))))
def pf_begin_0 (rec : Nat → RS → List Int → Option (RS × Int)) (σ : RS) : Option (RS × Int) :=
  rf_pi σ 64 0 (fun σ1 => rf_pi σ1 66 0 (fun σ2 => rf_pi σ2 67 0 (fun σ3 => rf_pi σ3 68 0 (fun σ4 => rf_pi σ4 69 0 (fun σ5 => rf_pi σ5 70 0 (fun σ6 => rf_pi σ6 71 0 (fun σ7 => rf_pi σ7 51 0 (fun σ8 => rf_pi σ8 43 0 (fun σ9 => rf_pi σ9 59 0 (fun σ10 => rf_pi σ10 57 0 (fun σ11 => rf_gi σ11 39 (fun z12 => rf_pi σ11 62 z12 (fun σ13 => rf_pi σ13 48 1 (fun σ14 => some (σ14, 0)))))))))))))))
def pf_drop_0 (rec : Nat → RS → List Int → Option (RS × Int)) (σ : RS) : Option (RS × Int) :=
  rf_gi σ 62 (fun z1 => rf_pi σ 39 z1 (fun σ2 => some (σ2, 0)))
def pf_tables_88 (rec : Nat → RS → List Int → Option (RS × Int)) : Nat → RS → Int → Option (RS × Int)
  | 0, _, _ => none
  | n + 1, σ, x2 =>
    rf_gi σ 80 (fun z1 => rf_rd σ 32 z1 (fun z2 => (if z2 ≤ x2 then rf_gi σ 20 (fun z4 => rf_gi σ 80 (fun z5 => rf_rd σ 32 z5 (fun z6 => rf_wr σ 17 z4 z6 (fun σ7 => rf_gi σ7 20 (fun z8 => rf_wr σ7 18 z8 (-1) (fun σ9 => rf_gi σ9 20 (fun z10 => rf_wr σ9 30 z10 3 (fun σ11 => rf_gi σ11 20 (fun z12 => rf_gi σ11 20 (fun z13 => rf_wr σ11 31 z12 z13 (fun σ14 => rf_gi σ14 20 (fun z15 => rf_ck (z15 + 1) (fun z16 => rf_pi σ14 20 z16 (fun σ17 => some (σ17, 0))))))))))))))) else rf_gi σ 20 (fun z18 => rf_ck (12 * z18) (fun z19 => rf_ck (z19 + x2) (fun z20 => rf_gi σ 80 (fun z21 => rf_rd σ 31 z21 (fun z22 => rf_ck (z22 + x2) (fun z23 => rf_rd σ 4 z23 (fun z24 => rf_wr σ 16 z20 z24 (fun σ25 => rf_ck (x2 + 1) (fun z26 => pf_tables_88 rec n σ25 z26))))))))))))
def pf_tables_78 (rec : Nat → RS → List Int → Option (RS × Int)) (σ : RS) : Option (RS × Int) :=
  rf_gi σ 72 (fun z1 => (if z1 = 0 then pf_tables_88 rec 200000 σ 0 else some (σ, 0)))
def pf_tables_282 (rec : Nat → RS → List Int → Option (RS × Int)) (σ : RS) (x1 : Int) (x2 : Int) : Option (RS × Int) :=
  rf_gi σ 72 (fun z1 => (if ¬ z1 = 0 then some (σ, 0) else rf_wr σ 18 x1 x2 (fun σ3 => some (σ3, 0))))
def pf_tables_359 (rec : Nat → RS → List Int → Option (RS × Int)) (σ : RS) (x1 : Int) (x2 : Int) (x3 : Int) : Option (RS × Int) :=
  rf_gi σ 72 (fun z1 => (if ¬ z1 = 0 then some (σ, 0) else rf_ck (8 * x1) (fun z3 => rf_ck (z3 + x2) (fun z4 => rf_wr σ 19 z4 x3 (fun σ5 => some (σ5, 0))))))
def pf_tables_324 (rec : Nat → RS → List Int → Option (RS × Int)) (σ : RS) (x1 : Int) (x2 : Int) (x3 : Int) : Option (RS × Int) :=
  rf_gi σ 72 (fun z1 => (if ¬ z1 = 0 then pf_tables_359 rec σ x1 x2 x3 else rf_ck (8 * x1) (fun z3 => rf_ck (z3 + x2) (fun z4 => rf_rd σ 19 z4 (fun z5 => (if z5 < 0 then pf_tables_359 rec σ x1 x2 x3 else rf_gi σ 80 (fun z7 => rf_rd σ 31 z7 (fun z8 => rf_cl (rec 3 σ [4, z8]) (fun σ9 z10 => pf_tables_359 rec σ9 x1 x2 x3)))))))))
def pf_tables_244 (rec : Nat → RS → List Int → Option (RS × Int)) (σ : RS) (x1 : Int) (x2 : Int) : Option (RS × Int) :=
  rf_gi σ 76 (fun z1 => (if ¬ z1 = 1 then rf_gi σ 82 (fun z3 => rf_cl (rec 43 σ [z3]) (fun σ4 z5 => (if 0 ≤ z5 then pf_tables_324 rec σ4 x1 x2 z5 else rf_gi σ4 82 (fun z7 => rf_rd σ4 31 z7 (fun z8 => rf_cl (rec 3 σ4 [3, z8]) (fun σ9 z10 => pf_tables_324 rec σ9 x1 x2 z5)))))) else rf_gi σ 72 (fun z11 => (if ¬ z11 = 0 then pf_tables_282 rec σ x1 x2 else rf_rd σ 18 x1 (fun z13 => (if z13 < 0 then pf_tables_282 rec σ x1 x2 else rf_gi σ 80 (fun z15 => rf_rd σ 31 z15 (fun z16 => rf_cl (rec 3 σ [4, z16]) (fun σ17 z18 => pf_tables_282 rec σ17 x1 x2)))))))))
def pf_tables_217 (rec : Nat → RS → List Int → Option (RS × Int)) (σ : RS) (x1 : Int) : Option (RS × Int) :=
  rf_gi σ 81 (fun z1 => rf_cl (rec 43 σ [z1]) (fun σ2 z3 => (if 0 ≤ z3 then pf_tables_244 rec σ2 x1 z3 else rf_gi σ2 81 (fun z5 => rf_rd σ2 31 z5 (fun z6 => rf_cl (rec 3 σ2 [3, z6]) (fun σ7 z8 => pf_tables_244 rec σ7 x1 z3))))))
def pf_tables_0 (rec : Nat → RS → List Int → Option (RS × Int)) (σ : RS) : Option (RS × Int) :=
  rf_gi σ 27 (fun z1 => (if z1 ≤ 0 then rf_gi σ 80 (fun z3 => rf_cl (rec 43 σ [z3]) (fun σ4 z5 => rf_gi σ4 76 (fun z6 => (if ¬ z6 = 0 then (if 0 ≤ z5 then pf_tables_217 rec σ4 z5 else rf_gi σ4 80 (fun z9 => rf_rd σ4 31 z9 (fun z10 => rf_cl (rec 3 σ4 [3, z10]) (fun σ11 z12 => pf_tables_217 rec σ11 z5)))) else (if z5 < 0 then rf_gi σ4 20 (fun z14 => (if ¬ z14 = 8 then pf_tables_78 rec σ4 else rf_gi σ4 80 (fun z16 => rf_rd σ4 31 z16 (fun z17 => rf_cl (rec 3 σ4 [5, z17]) (fun σ18 z19 => pf_tables_78 rec σ18))))) else rf_gi σ4 80 (fun z20 => rf_rd σ4 31 z20 (fun z21 => rf_cl (rec 3 σ4 [4, z21]) (fun σ22 z23 => pf_tables_78 rec σ22)))))))) else rf_gi σ 77 (fun z24 => rf_cl (rec 3 σ [6, z24]) (fun σ25 z26 => some (σ25, 0)))))
def pf_yes_37 (rec : Nat → RS → List Int → Option (RS × Int)) (σ : RS) : Option (RS × Int) :=
  rf_cl (rec 37 σ [10]) (fun σ1 z2 => some (σ1, 0))
def pf_yes_0 (rec : Nat → RS → List Int → Option (RS × Int)) (σ : RS) (x1 : Int) : Option (RS × Int) :=
  (if x1 = 0 then rf_cl (rec 37 σ [110]) (fun σ2 z3 => rf_cl (rec 37 σ2 [111]) (fun σ4 z5 => pf_yes_37 rec σ4)) else rf_cl (rec 37 σ [121]) (fun σ6 z7 => rf_cl (rec 37 σ6 [101]) (fun σ8 z9 => rf_cl (rec 37 σ8 [115]) (fun σ10 z11 => pf_yes_37 rec σ10))))
def pf_told_198 (rec : Nat → RS → List Int → Option (RS × Int)) : Nat → RS → Int → Option (RS × Int)
  | 0, _, _ => none
  | n + 1, σ, x3 =>
    rf_gi σ 80 (fun z1 => rf_rd σ 32 z1 (fun z2 => (if z2 ≤ x3 then rf_gi σ 27 (fun z4 => rf_gi σ 80 (fun z5 => rf_rd σ 32 z5 (fun z6 => rf_wr σ 22 z4 z6 (fun σ7 => rf_gi σ7 27 (fun z8 => rf_gi σ7 60 (fun z9 => rf_wr σ7 23 z8 z9 (fun σ10 => rf_gi σ10 27 (fun z11 => rf_gi σ10 61 (fun z12 => rf_wr σ10 24 z11 z12 (fun σ13 => rf_gi σ13 27 (fun z14 => rf_gi σ13 78 (fun z15 => rf_wr σ13 25 z14 z15 (fun σ16 => rf_gi σ16 27 (fun z17 => rf_gi σ16 39 (fun z18 => rf_wr σ16 26 z17 z18 (fun σ19 => rf_gi σ19 27 (fun z20 => rf_ck (z20 + 1) (fun z21 => rf_pi σ19 27 z21 (fun σ22 => rf_gi σ22 39 (fun z23 => rf_pi σ22 62 z23 (fun σ24 => some (σ24, 0)))))))))))))))))))))) else rf_gi σ 27 (fun z25 => rf_ck (12 * z25) (fun z26 => rf_ck (z26 + x3) (fun z27 => rf_gi σ 80 (fun z28 => rf_rd σ 31 z28 (fun z29 => rf_ck (z29 + x3) (fun z30 => rf_rd σ 4 z30 (fun z31 => rf_wr σ 21 z27 z31 (fun σ32 => rf_ck (x3 + 1) (fun z33 => pf_told_198 rec n σ32 z33))))))))))))
def pf_told_196 (rec : Nat → RS → List Int → Option (RS × Int)) (σ : RS) : Option (RS × Int) :=
  pf_told_198 rec 200000 σ 0
def pf_told_175 (rec : Nat → RS → List Int → Option (RS × Int)) (σ : RS) (x1 : Int) (x2 : Int) : Option (RS × Int) :=
  rf_gi σ 72 (fun z1 => (if z1 = 0 then rf_gi σ 79 (fun z3 => (if z3 < 0 then pf_told_196 rec σ else rf_cl (rec 45 σ [x2, x1]) (fun σ5 z6 => pf_told_196 rec σ5))) else some (σ, 0)))
def pf_told_108 (rec : Nat → RS → List Int → Option (RS × Int)) (σ : RS) (x1 : Int) (x2 : Int) : Option (RS × Int) :=
  rf_gi σ 72 (fun z1 => (if ¬ z1 = 0 then pf_told_175 rec σ x1 x2 else rf_gi σ 78 (fun z3 => (if z3 < 0 then pf_told_175 rec σ x1 x2 else rf_gi σ 78 (fun z5 => rf_cl (rec 49 σ [z5, 0]) (fun σ6 z7 => rf_gi σ6 72 (fun z8 => (if ¬ z8 = 0 then pf_told_175 rec σ6 x1 x2 else rf_gi σ6 79 (fun z10 => (if z10 < 0 then pf_told_175 rec σ6 x1 x2 else rf_gi σ6 60 (fun z12 => rf_cl (rec 35 σ6 [x2, 0, z12, 0, 0]) (fun σ13 z14 => (if ¬ z14 = 0 then pf_told_175 rec σ13 x1 x2 else rf_gi σ13 78 (fun z16 => rf_rd σ13 34 z16 (fun z17 => rf_cl (rec 3 σ13 [11, z17]) (fun σ18 z19 => pf_told_175 rec σ18 x1 x2))))))))))))))))
def pf_told_62 (rec : Nat → RS → List Int → Option (RS × Int)) (σ : RS) : Option (RS × Int) :=
  rf_gi σ 72 (fun z1 => (if ¬ z1 = 0 then pf_told_108 rec σ 0 0 else rf_gi σ 79 (fun z3 => (if z3 < 0 then pf_told_108 rec σ 0 0 else rf_gi σ 79 (fun z5 => rf_cl (rec 47 σ [z5, 0]) (fun σ6 z7 => rf_gi σ6 72 (fun z8 => (if ¬ z8 = 0 then pf_told_108 rec σ6 z7 0 else rf_gi σ6 79 (fun z10 => rf_cl (rec 41 σ6 [z10, 0, 0]) (fun σ11 z12 => pf_told_108 rec σ11 z7 z12))))))))))
def pf_told_22 (rec : Nat → RS → List Int → Option (RS × Int)) (σ : RS) : Option (RS × Int) :=
  rf_gi σ 80 (fun z1 => rf_rd σ 31 z1 (fun z2 => rf_cl (rec 3 σ [4, z2]) (fun σ3 z4 => pf_told_62 rec σ3)))
def pf_told_0 (rec : Nat → RS → List Int → Option (RS × Int)) (σ : RS) : Option (RS × Int) :=
  rf_gi σ 80 (fun z1 => rf_cl (rec 44 σ [z1]) (fun σ2 z3 => (if 0 ≤ z3 then pf_told_22 rec σ2 else rf_gi σ2 80 (fun z5 => rf_cl (rec 43 σ2 [z5]) (fun σ6 z7 => (if z7 < 0 then rf_gi σ6 27 (fun z9 => (if ¬ z9 = 100 then pf_told_62 rec σ6 else rf_gi σ6 80 (fun z11 => rf_rd σ6 31 z11 (fun z12 => rf_cl (rec 3 σ6 [5, z12]) (fun σ13 z14 => pf_told_62 rec σ13))))) else pf_told_22 rec σ6))))))
def pf_doStatement_141 (rec : Nat → RS → List Int → Option (RS × Int)) (σ : RS) : Option (RS × Int) :=
  rf_gi σ 72 (fun z1 => (if ¬ z1 = 0 then some (σ, 0) else rf_cl (rec 57 σ [1]) (fun σ3 z4 => some (σ3, 0))))
def pf_doStatement_94 (rec : Nat → RS → List Int → Option (RS × Int)) (σ : RS) (t0 : Int) : Option (RS × Int) :=
  rf_gi σ 78 (fun z1 => rf_cl (rec 49 σ [z1, 0]) (fun σ2 z3 => rf_gi σ2 72 (fun z4 => (if ¬ z4 = 0 then pf_doStatement_141 rec σ2 else rf_gi σ2 60 (fun z6 => rf_cl (rec 35 σ2 [t0, 0, z6, 0, 0]) (fun σ7 z8 => (if ¬ z8 = 0 then pf_doStatement_141 rec σ7 else rf_gi σ7 78 (fun z10 => rf_rd σ7 34 z10 (fun z11 => rf_cl (rec 3 σ7 [11, z11]) (fun σ12 z13 => pf_doStatement_141 rec σ12))))))))))
def pf_doStatement_20 (rec : Nat → RS → List Int → Option (RS × Int)) (σ : RS) : Option (RS × Int) :=
  rf_gi σ 76 (fun z1 => (if z1 = 3 then rf_gi σ 79 (fun z3 => (if z3 < 0 then rf_gi σ 78 (fun z5 => rf_cl (rec 49 σ [z5, 0]) (fun σ6 z7 => rf_gi σ6 60 (fun z8 => rf_cl (rec 60 σ6 [z8]) (fun σ9 z10 => some (σ9, 0))))) else rf_gi σ 79 (fun z11 => rf_cl (rec 47 σ [z11, 0]) (fun σ12 z13 => rf_gi σ12 72 (fun z14 => (if ¬ z14 = 0 then pf_doStatement_94 rec σ12 0 else rf_gi σ12 79 (fun z16 => rf_cl (rec 41 σ12 [z16, 0, 0]) (fun σ17 z18 => pf_doStatement_94 rec σ17 z18)))))))) else (if z1 = 4 then rf_gi σ 78 (fun z20 => rf_cl (rec 49 σ [z20, 0]) (fun σ21 z22 => rf_gi σ21 78 (fun z23 => rf_cl (rec 60 σ21 [z23]) (fun σ24 z25 => some (σ24, 0))))) else (if z1 = 5 then rf_gi σ 78 (fun z27 => rf_cl (rec 49 σ [z27, 0]) (fun σ28 z29 => rf_gi σ28 79 (fun z30 => rf_cl (rec 49 σ28 [z30, 0]) (fun σ31 z32 => rf_gi σ31 72 (fun z33 => (if ¬ z33 = 0 then some (σ31, 0) else rf_gi σ31 78 (fun z35 => rf_gi σ31 79 (fun z36 => rf_cl (rec 35 σ31 [z35, 0, z36, 0, 0]) (fun σ37 z38 => rf_gi σ37 72 (fun z39 => (if ¬ z39 = 0 then some (σ37, 0) else rf_cl (rec 57 σ37 [z38]) (fun σ41 z42 => some (σ41, 0))))))))))))) else (if z1 = 6 then rf_gi σ 78 (fun z44 => rf_cl (rec 49 σ [z44, 0]) (fun σ45 z46 => rf_cl (rec 61 σ45 []) (fun σ47 z48 => some (σ47, 0)))) else rf_cl (rec 58 σ []) (fun σ49 z50 => some (σ49, 0)))))))
def pf_doStatement_0 (rec : Nat → RS → List Int → Option (RS × Int)) (σ : RS) : Option (RS × Int) :=
  rf_gi σ 76 (fun z1 => (if z1 < 0 then pf_doStatement_20 rec σ else rf_gi σ 76 (fun z3 => (if 2 < z3 then pf_doStatement_20 rec σ else rf_cl (rec 56 σ []) (fun σ5 z6 => some (σ5, 0))))))
def pf_tellLine_0 (rec : Nat → RS → List Int → Option (RS × Int)) (σ : RS) (x1 : Int) : Option (RS × Int) :=
  rf_gi σ 72 (fun z1 => (if z1 = 0 then rf_cl (rec 40 σ [x1, 0, 0, 0, 0]) (fun σ3 z4 => rf_gi σ3 72 (fun z5 => (if ¬ z5 = 0 then some (σ3, 0) else rf_cl (rec 37 σ3 [10]) (fun σ7 z8 => some (σ7, 0))))) else some (σ, 0)))
def pf_tellHead_130 (rec : Nat → RS → List Int → Option (RS × Int)) (σ : RS) : Option (RS × Int) :=
  rf_cl (rec 37 σ [32]) (fun σ1 z2 => rf_gi σ1 51 (fun z3 => rf_cl (rec 38 σ1 [z3]) (fun σ4 z5 => rf_cl (rec 37 σ4 [10]) (fun σ6 z7 => some (σ6, 0)))))
def pf_tellHead_0 (rec : Nat → RS → List Int → Option (RS × Int)) (σ : RS) : Option (RS × Int) :=
  rf_gi σ 78 (fun z1 => rf_cl (rec 32 σ [z1, 0]) (fun σ2 z3 => rf_gi σ2 72 (fun z4 => (if z4 = 0 then rf_gi σ2 52 (fun z6 => rf_cl (rec 33 σ2 [z6]) (fun σ7 z8 => (if ¬ z8 = 4 then (if ¬ z8 = 5 then (if ¬ z8 = 3 then rf_gi σ7 52 (fun z12 => rf_rd σ7 31 z12 (fun z13 => rf_ck (12 * z13) (fun z14 => rf_gi σ7 52 (fun z15 => rf_rd σ7 31 z15 (fun z16 => rf_rd σ7 22 z16 (fun z17 => rf_cl (rec 39 σ7 [z14, 21, z17]) (fun σ18 z19 => pf_tellHead_130 rec σ18))))))) else rf_gi σ7 52 (fun z20 => rf_rd σ7 31 z20 (fun z21 => rf_ck (12 * z21) (fun z22 => rf_gi σ7 52 (fun z23 => rf_rd σ7 31 z23 (fun z24 => rf_rd σ7 17 z24 (fun z25 => rf_cl (rec 39 σ7 [z22, 16, z25]) (fun σ26 z27 => pf_tellHead_130 rec σ26)))))))) else rf_cl (rec 37 σ7 [33]) (fun σ28 z29 => pf_tellHead_130 rec σ28)) else rf_cl (rec 37 σ7 [92]) (fun σ30 z31 => pf_tellHead_130 rec σ30)))) else some (σ2, 0)))))
def pf_text_17 (rec : Nat → RS → List Int → Option (RS × Int)) (σ : RS) : Option (RS × Int) :=
  rf_cl (rec 2 σ [1]) (fun σ1 z2 => some (σ1, z2))
def pf_text_183 (rec : Nat → RS → List Int → Option (RS × Int)) (σ : RS) (t0 : Int) : Option (RS × Int) :=
  rf_pi σ 13 t0 (fun σ1 => rf_pi σ1 72 0 (fun σ2 => rf_gi σ2 12 (fun z3 => some (σ2, z3))))
def pf_text_159 (rec : Nat → RS → List Int → Option (RS × Int)) (σ : RS) : Option (RS × Int) :=
  rf_gi σ 72 (fun z1 => rf_pi σ 12 z1 (fun σ2 => rf_gi σ2 72 (fun z3 => (if ¬ z3 = 0 then rf_gi σ2 73 (fun z5 => pf_text_183 rec σ2 z5) else pf_text_183 rec σ2 (-1)))))
def pf_text_154 (rec : Nat → RS → List Int → Option (RS × Int)) (σ : RS) : Option (RS × Int) :=
  rf_bo 0 (rf_pi σ 15 0 (fun σ1 => pf_text_159 rec σ1))
def pf_text_98 (rec : Nat → RS → List Int → Option (RS × Int)) : Nat → RS → Option (RS × Int)
  | 0, _ => none
  | n + 1, σ =>
    rf_gi σ 72 (fun z1 => (if ¬ z1 = 0 then pf_text_154 rec σ else rf_gi σ 7 (fun z3 => (if z3 = 0 then pf_text_154 rec σ else rf_cl (rec 54 σ []) (fun σ5 z6 => rf_cl (rec 25 σ5 []) (fun σ7 z8 => rf_cl (rec 59 σ7 []) (fun σ9 z10 => rf_cl (rec 55 σ9 []) (fun σ11 z12 => rf_gi σ11 72 (fun z13 => (if ¬ z13 = 0 then pf_text_98 rec n σ11 else rf_gi σ11 14 (fun z15 => rf_ck (z15 + 1) (fun z16 => rf_pi σ11 14 z16 (fun σ17 => rf_cl (rec 16 σ17 [59]) (fun σ18 z19 => pf_text_98 rec n σ18))))))))))))))
def pf_text_25 (rec : Nat → RS → List Int → Option (RS × Int)) : Nat → RS → Int → Int → Option (RS × Int)
  | 0, _, _, _ => none
  | n + 1, σ, x1, x2 =>
    (if x1 ≤ x2 then rf_pi σ 5 x1 (fun σ2 => rf_pi σ2 3 0 (fun σ3 => rf_pi σ3 75 0 (fun σ4 => rf_pi σ4 72 0 (fun σ5 => rf_pi σ5 14 0 (fun σ6 => rf_cl (rec 27 σ6 []) (fun σ7 z8 => rf_gi σ7 72 (fun z9 => (if ¬ z9 = 0 then pf_text_159 rec σ7 else rf_bo 1 (rf_pi σ7 15 1 (fun σ11 => rf_pi σ11 6 0 (fun σ13 => rf_cl (rec 10 σ13 []) (fun σ14 z15 => pf_text_98 rec 200000 σ14)))))))))))) else rf_rd σ 2 x2 (fun z16 => rf_wr σ 4 x2 z16 (fun σ17 => rf_ck (x2 + 1) (fun z18 => pf_text_25 rec n σ17 x1 z18))))
def pf_text_0 (rec : Nat → RS → List Int → Option (RS × Int)) (σ : RS) (x1 : Int) : Option (RS × Int) :=
  rf_pi σ 1 0 (fun σ1 => (if x1 < 0 then pf_text_17 rec σ1 else rf_gi σ1 3 (fun z3 => (if x1 ≤ z3 then pf_text_25 rec 200000 σ1 x1 0 else pf_text_17 rec σ1))))
def pf_fault_0 (rec : Nat → RS → List Int → Option (RS × Int)) (σ : RS) (x1 : Int) : Option (RS × Int) :=
  rf_pi σ 1 0 (fun σ1 => (if x1 = 0 then rf_gi σ1 12 (fun z3 => some (σ1, z3)) else (if x1 = 1 then rf_gi σ1 13 (fun z5 => some (σ1, z5)) else (if x1 = 2 then rf_gi σ1 14 (fun z7 => some (σ1, z7)) else rf_cl (rec 2 σ1 [1]) (fun σ8 z9 => some (σ8, z9))))))
def pf_corner_15 (rec : Nat → RS → List Int → Option (RS × Int)) (σ : RS) : Option (RS × Int) :=
  rf_cl (rec 2 σ [1]) (fun σ1 z2 => some (σ1, z2))
def pf_corner_0 (rec : Nat → RS → List Int → Option (RS × Int)) (σ : RS) (x1 : Int) : Option (RS × Int) :=
  rf_pi σ 1 0 (fun σ1 => (if x1 < 0 then pf_corner_15 rec σ1 else (if x1 ≤ 8 then rf_gi σ1 27 (fun z4 => rf_cl (rec 5 σ1 [x1]) (fun σ5 z6 => some (σ5, z4))) else pf_corner_15 rec σ1)))
def pf_limit_17 (rec : Nat → RS → List Int → Option (RS × Int)) (σ : RS) : Option (RS × Int) :=
  rf_cl (rec 2 σ [1]) (fun σ1 z2 => some (σ1, z2))
def pf_limit_0 (rec : Nat → RS → List Int → Option (RS × Int)) (σ : RS) (x1 : Int) : Option (RS × Int) :=
  rf_pi σ 1 0 (fun σ1 => (if x1 < 1 then pf_limit_17 rec σ1 else (if x1 ≤ 20000 then rf_gi σ1 63 (fun z4 => rf_pi σ1 63 x1 (fun σ5 => some (σ5, z4))) else pf_limit_17 rec σ1)))
def pf_outs_0 (rec : Nat → RS → List Int → Option (RS × Int)) (σ : RS) : Option (RS × Int) :=
  rf_pi σ 1 0 (fun σ1 => rf_gi σ1 75 (fun z2 => some (σ1, z2)))
def pf_out_24 (rec : Nat → RS → List Int → Option (RS × Int)) (σ : RS) : Option (RS × Int) :=
  rf_cl (rec 2 σ [1]) (fun σ1 z2 => some (σ1, z2))
def pf_out_0 (rec : Nat → RS → List Int → Option (RS × Int)) (σ : RS) (x1 : Int) : Option (RS × Int) :=
  rf_pi σ 1 0 (fun σ1 => (if x1 < 0 then pf_out_24 rec σ1 else rf_gi σ1 75 (fun z3 => (if z3 ≤ x1 then pf_out_24 rec σ1 else (if x1 < 3000 then rf_rd σ1 74 x1 (fun z6 => some (σ1, z6)) else pf_out_24 rec σ1)))))
def pf_count_37 (rec : Nat → RS → List Int → Option (RS × Int)) (k12 : RS → Int → Int → Int → Int → Option (RS × Int)) (σ : RS) (x1 : Int) (x3 : Int) (x4 : Int) (t0 : Int) (t1 : Int) : Option (RS × Int) :=
  rf_ck (t1 + t0) (fun z1 => rf_ck (x4 + 1) (fun z2 => k12 σ x1 z1 x3 z2))
def pf_count_71 (rec : Nat → RS → List Int → Option (RS × Int)) (k48 : RS → Int → Int → Int → Int → Option (RS × Int)) (σ : RS) (x1 : Int) (x2 : Int) (x4 : Int) (t0 : Int) (t1 : Int) : Option (RS × Int) :=
  rf_ck (t1 + t0) (fun z1 => rf_ck (x4 + 1) (fun z2 => k48 σ x1 x2 z1 z2))
def pf_count_48 (rec : Nat → RS → List Int → Option (RS × Int)) : Nat → RS → Int → Int → Int → Int → Option (RS × Int)
  | 0, _, _, _, _, _ => none
  | n + 1, σ, x1, x2, x3, x4 =>
    (if 64 ≤ x4 then (if x1 = 0 then rf_gi σ 64 (fun z3 => some (σ, z3)) else (if x1 = 1 then rf_gi σ 66 (fun z5 => some (σ, z5)) else (if x1 = 2 then rf_gi σ 67 (fun z7 => some (σ, z7)) else (if x1 = 3 then rf_gi σ 68 (fun z9 => some (σ, z9)) else (if x1 = 4 then rf_gi σ 69 (fun z11 => some (σ, z11)) else (if x1 = 5 then rf_gi σ 70 (fun z13 => some (σ, z13)) else (if x1 = 6 then rf_gi σ 71 (fun z15 => some (σ, z15)) else (if x1 = 7 then rf_gi σ 65 (fun z17 => some (σ, z17)) else (if x1 = 8 then rf_gi σ 27 (fun z19 => some (σ, z19)) else (if x1 = 9 then rf_gi σ 20 (fun z21 => some (σ, z21)) else (if x1 = 10 then some (σ, x2) else (if x1 = 11 then some (σ, x3) else (if x1 = 12 then rf_gi σ 29 (fun z25 => some (σ, z25)) else (if x1 = 13 then rf_gi σ 3 (fun z27 => some (σ, z27)) else rf_cl (rec 2 σ [1]) (fun σ28 z29 => some (σ28, z29)))))))))))))))) else rf_rd σ 19 x4 (fun z30 => (if z30 < 0 then pf_count_71 rec (pf_count_48 rec n) σ x1 x2 x4 0 x3 else pf_count_71 rec (pf_count_48 rec n) σ x1 x2 x4 1 x3)))
def pf_count_12 (rec : Nat → RS → List Int → Option (RS × Int)) : Nat → RS → Int → Int → Int → Int → Option (RS × Int)
  | 0, _, _, _, _, _ => none
  | n + 1, σ, x1, x2, x3, x4 =>
    rf_gi σ 20 (fun z1 => (if z1 ≤ x4 then pf_count_48 rec 200000 σ x1 x2 x3 0 else rf_rd σ 18 x4 (fun z3 => (if z3 < 0 then pf_count_37 rec (pf_count_12 rec n) σ x1 x3 x4 0 x2 else pf_count_37 rec (pf_count_12 rec n) σ x1 x3 x4 1 x2))))
def pf_count_0 (rec : Nat → RS → List Int → Option (RS × Int)) (σ : RS) (x1 : Int) : Option (RS × Int) :=
  rf_pi σ 1 0 (fun σ1 => pf_count_12 rec 200000 σ1 x1 0 0 0)
def pf_name_21 (rec : Nat → RS → List Int → Option (RS × Int)) (σ : RS) : Option (RS × Int) :=
  rf_cl (rec 2 σ [1]) (fun σ1 z2 => some (σ1, z2))
def pf_name_0 (rec : Nat → RS → List Int → Option (RS × Int)) (σ : RS) (x1 : Int) (x2 : Int) : Option (RS × Int) :=
  rf_pi σ 1 0 (fun σ1 => (if x1 < 0 then pf_name_21 rec σ1 else rf_gi σ1 27 (fun z3 => (if z3 ≤ x1 then pf_name_21 rec σ1 else (if 0 ≤ x2 then (if ¬ x2 = 0 then (if ¬ x2 = 1 then (if ¬ x2 = 2 then rf_ck (x2 - 3) (fun z9 => rf_rd σ1 22 x1 (fun z10 => (if z10 ≤ z9 then some (σ1, (-1)) else rf_ck (12 * x1) (fun z12 => rf_ck (z12 + x2) (fun z13 => rf_ck (z13 - 3) (fun z14 => rf_rd σ1 21 z14 (fun z15 => some (σ1, z15)))))))) else rf_rd σ1 22 x1 (fun z16 => some (σ1, z16))) else rf_rd σ1 24 x1 (fun z17 => some (σ1, z17))) else rf_rd σ1 25 x1 (fun z18 => (if z18 < 0 then some (σ1, 0) else some (σ1, 1)))) else pf_name_21 rec σ1)))))
def pf_sort_21 (rec : Nat → RS → List Int → Option (RS × Int)) (σ : RS) : Option (RS × Int) :=
  rf_cl (rec 2 σ [1]) (fun σ1 z2 => some (σ1, z2))
def pf_sort_0 (rec : Nat → RS → List Int → Option (RS × Int)) (σ : RS) (x1 : Int) (x2 : Int) : Option (RS × Int) :=
  rf_pi σ 1 0 (fun σ1 => (if x1 < 0 then pf_sort_21 rec σ1 else rf_gi σ1 20 (fun z3 => (if z3 ≤ x1 then pf_sort_21 rec σ1 else (if 0 ≤ x2 then (if ¬ x2 = 0 then (if ¬ x2 = 1 then rf_ck (x2 - 2) (fun z8 => rf_rd σ1 17 x1 (fun z9 => (if z9 ≤ z8 then some (σ1, (-1)) else rf_ck (12 * x1) (fun z11 => rf_ck (z11 + x2) (fun z12 => rf_ck (z12 - 2) (fun z13 => rf_rd σ1 16 z13 (fun z14 => some (σ1, z14)))))))) else rf_rd σ1 17 x1 (fun z15 => some (σ1, z15))) else rf_rd σ1 18 x1 (fun z16 => some (σ1, z16))) else pf_sort_21 rec σ1)))))
def pf_rule_29 (rec : Nat → RS → List Int → Option (RS × Int)) (σ : RS) : Option (RS × Int) :=
  rf_cl (rec 2 σ [1]) (fun σ1 z2 => some (σ1, z2))
def pf_rule_0 (rec : Nat → RS → List Int → Option (RS × Int)) (σ : RS) (x1 : Int) (x2 : Int) : Option (RS × Int) :=
  rf_pi σ 1 0 (fun σ1 => (if x1 < 0 then pf_rule_29 rec σ1 else rf_gi σ1 20 (fun z3 => (if z3 ≤ x1 then pf_rule_29 rec σ1 else (if x2 < 0 then pf_rule_29 rec σ1 else rf_gi σ1 20 (fun z6 => (if x2 < z6 then rf_ck (8 * x1) (fun z8 => rf_ck (z8 + x2) (fun z9 => rf_rd σ1 19 z9 (fun z10 => some (σ1, z10)))) else pf_rule_29 rec σ1)))))))
def pf_type_17 (rec : Nat → RS → List Int → Option (RS × Int)) (σ : RS) : Option (RS × Int) :=
  rf_cl (rec 2 σ [1]) (fun σ1 z2 => some (σ1, z2))
def pf_type_0 (rec : Nat → RS → List Int → Option (RS × Int)) (σ : RS) (x1 : Int) : Option (RS × Int) :=
  rf_pi σ 1 0 (fun σ1 => (if x1 < 0 then pf_type_17 rec σ1 else rf_gi σ1 27 (fun z3 => (if x1 < z3 then rf_cl (rec 54 σ1 []) (fun σ5 z6 => rf_pi σ5 75 0 (fun σ7 => rf_pi σ7 72 0 (fun σ8 => rf_rd σ8 23 x1 (fun z9 => rf_cl (rec 40 σ8 [z9, 0, 0, 0, 0]) (fun σ10 z11 => rf_cl (rec 55 σ10 []) (fun σ12 z13 => rf_gi σ12 72 (fun z14 => rf_pi σ12 72 0 (fun σ15 => (if ¬ z14 = 0 then rf_ck (-z14) (fun z17 => some (σ15, z17)) else rf_gi σ15 75 (fun z18 => some (σ15, z18))))))))))) else pf_type_17 rec σ1))))
def pf_same_29 (rec : Nat → RS → List Int → Option (RS × Int)) (σ : RS) : Option (RS × Int) :=
  rf_cl (rec 2 σ [1]) (fun σ1 z2 => some (σ1, z2))
def pf_same_0 (rec : Nat → RS → List Int → Option (RS × Int)) (σ : RS) (x1 : Int) (x2 : Int) : Option (RS × Int) :=
  rf_pi σ 1 0 (fun σ1 => (if x1 < 0 then pf_same_29 rec σ1 else rf_gi σ1 27 (fun z3 => (if z3 ≤ x1 then pf_same_29 rec σ1 else (if x2 < 0 then pf_same_29 rec σ1 else rf_gi σ1 27 (fun z6 => (if x2 < z6 then rf_cl (rec 54 σ1 []) (fun σ8 z9 => rf_pi σ8 72 0 (fun σ10 => rf_bo 1 (rf_pi σ10 15 1 (fun σ11 => rf_cl (rec 18 σ11 [2, x1, 0, 0, 0]) (fun σ13 z14 => rf_cl (rec 18 σ13 [2, x2, 0, 0, 0]) (fun σ15 z16 => rf_bo 0 (rf_pi σ15 15 0 (fun σ17 => rf_cl (rec 35 σ17 [z14, 0, z16, 0, 0]) (fun σ19 z20 => rf_cl (rec 55 σ19 []) (fun σ21 z22 => rf_gi σ21 72 (fun z23 => rf_pi σ21 72 0 (fun σ24 => (if z23 = 0 then (if z20 = 0 then some (σ24, 0) else some (σ24, 1)) else rf_ck (-z23) (fun z27 => some (σ24, z27))))))))))))))) else pf_same_29 rec σ1)))))))
def pf_mark_0 (rec : Nat → RS → List Int → Option (RS × Int)) (σ : RS) : Option (RS × Int) :=
  rf_pi σ 1 0 (fun σ1 => rf_gi σ1 29 (fun z2 => (if ¬ z2 = 20 then rf_gi σ1 29 (fun z4 => rf_gi σ1 27 (fun z5 => rf_wr σ1 28 z4 z5 (fun σ6 => rf_gi σ6 29 (fun z7 => rf_ck (z7 + 1) (fun z8 => rf_pi σ6 29 z8 (fun σ9 => rf_gi σ9 29 (fun z10 => some (σ9, z10)))))))) else rf_cl (rec 2 σ1 [1]) (fun σ11 z12 => some (σ11, z12)))))
def pf_back_0 (rec : Nat → RS → List Int → Option (RS × Int)) (σ : RS) : Option (RS × Int) :=
  rf_pi σ 1 0 (fun σ1 => rf_gi σ1 29 (fun z2 => (if ¬ z2 = 0 then rf_gi σ1 29 (fun z4 => rf_ck (z4 - 1) (fun z5 => rf_pi σ1 29 z5 (fun σ6 => rf_gi σ6 29 (fun z7 => rf_rd σ6 28 z7 (fun z8 => rf_pi σ6 27 z8 (fun σ9 => rf_gi σ9 27 (fun z10 => (if ¬ z10 = 0 then rf_gi σ9 27 (fun z12 => rf_ck (z12 - 1) (fun z13 => rf_rd σ9 26 z13 (fun z14 => rf_pi σ9 39 z14 (fun σ15 => rf_gi σ15 27 (fun z16 => some (σ15, z16)))))) else rf_pi σ9 39 8 (fun σ17 => rf_gi σ17 27 (fun z18 => some (σ17, z18))))))))))) else rf_cl (rec 2 σ1 [1]) (fun σ19 z20 => some (σ19, z20)))))
