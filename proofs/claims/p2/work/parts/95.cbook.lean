section CBK
variable {bd : cBd} {b d : Nat} {σ σ1 σ2 σ3 : CS} {Q : CS → Nat → Int → Prop} {k s o z : Nat}
theorem rn_div_R (a b : Int) : inR (rn_div a b) := inR_of _
theorem rn_div_p {a b : Int} (ha : inR a) (hb : 1 ≤ b ∧ b ≤ 2147483647) : rn_div a b = a.tdiv b := by
  have hb' : inR b := ⟨by omega, hb.2⟩
  unfold rn_div
  rw [Int32.toInt_div_of_ne_right (rI a) (rI b) (fun e => by
    have e2 := congrArg Int32.toInt e
    rw [rI_T hb'] at e2
    have e3 : (-1 : Int32).toInt = -1 := by decide
    rw [e3] at e2
    omega), rI_T ha, rI_T hb']
theorem rn_div_10 {x : Int} (hx : 0 ≤ x ∧ x ≤ 2147483647) : rn_div x 10 = x / 10 := by
  rw [rn_div_p ⟨by omega, hx.2⟩ ⟨by decide, by decide⟩, Int.tdiv_eq_ediv_of_nonneg hx.1]
theorem tdiv_10 (x : Int) : -9 ≤ x - x.tdiv 10 * 10 ∧ x - x.tdiv 10 * 10 ≤ 9 := by
  by_cases c : 0 ≤ x
  · rw [Int.tdiv_eq_ediv_of_nonneg c]; omega
  · have e : x.tdiv 10 = -((-x) / 10) := by
      rw [← Int.tdiv_eq_ediv_of_nonneg (by omega : 0 ≤ -x), ← Int.neg_tdiv, Int.neg_neg]
    rw [e]; omega
theorem rn_rem_10 {x : Int} (hx : inR x) : -9 ≤ rn_rem x 10 ∧ rn_rem x 10 ≤ 9 := by
  have h1 : rn_div x 10 = x.tdiv 10 := rn_div_p hx ⟨by decide, by decide⟩
  have h3 := tdiv_10 x
  have h2 : rn_rem x 10 = x - x.tdiv 10 * 10 := by
    have e : rI x / rI 10 = rI (x.tdiv 10) := by
      rw [← h1]; unfold rn_div; rw [rI_of]
    unfold rn_rem
    rw [e, rI_mul, rI_sub]
    exact rI_T ⟨by omega, by omega⟩
  rw [h2]
  exact h3
/-- a row of parts, of n links -/
def pl (σ : CS) : Nat → Int → Prop
  | 0, x => x < 0
  | n + 1, x => oPn σ x ∧ pl σ n (c_pv σ x.toNat 4)
theorem pl.upz {σ' : CS} : ∀ {n : Nat} {x : Int}, pl σ n x → Ext0 b σ σ' → pl σ' n x
  | 0, _, h, _ => h
  | n + 1, x, h, e => ⟨h.1.upz e, by rw [e.lk h.1.2.1]; exact pl.upz h.2 e⟩
theorem pl.up {σ' : CS} {n : Nat} {x : Int} (h : pl σ n x) (e : Ext b σ σ') : pl σ' n x := h.upz e.z
theorem pl.p : ∀ {n : Nat} {x : Int}, pl σ n x → oP σ x
  | 0, _, h => Or.inl h
  | _ + 1, _, h => Or.inr h.1
theorem Pout {σ1 : CS} (G : GG bd b σ) (R : RR bd b σ k s (o + 1) z) {y : Int} (e : σ1 = cs_p σ (b + 16) 7 y) (hy : y = c_pv σ (b + 16) 7 + 1) : GG bd b σ1 ∧ Ext b σ σ1 ∧ RR bd b σ1 k s o z := by
  subst e; subst hy
  have h3 := R.2.2.1
  have hl := G.nu 16 3
  have ho := G.nu 16 7
  exact ⟨gg_put G 16 7 ⟨by omega, by omega⟩ (by decide) (by decide) (fun lo hi q => by cases q; exact ⟨by omega, by omega⟩) (Or.inl ⟨by decide, by decide⟩) (hw_put G (by decide)), ext_p (fz_g G (by decide) (by decide) (by decide) (by decide)), rr_out R⟩
/-- OUT is emptied -/
theorem Pout0 {σ1 : CS} (G : GG bd b σ) (R : RR bd b σ k s o z) (e : σ1 = cs_p σ (b + 16) 7 0) : GG bd b σ1 ∧ Ext b σ σ1 ∧ RR bd b σ1 k s o z := by
  subst e
  have ho := G.nu 16 7
  refine ⟨gg_put G 16 7 ⟨by decide, by decide⟩ (by decide) (by decide) (fun lo hi q => by cases q; exact ⟨by omega, by omega⟩) (Or.inl ⟨by decide, by decide⟩) (hw_put G (by decide)), ext_p (fz_g G (by decide) (by decide) (by decide) (by decide)), ?_⟩
  obtain ⟨a1, a2, a3, a4⟩ := R
  unfold RR
  rw [cs_p_eq, cs_p_nf (g := 3) (by decide), cs_p_na (q := b + 19) (by omega), cs_p_na (q := b + 3) (by omega), cs_p_na (q := b + 3) (by omega), cs_p_na (q := b + 0) (by omega)]
  exact ⟨a1, a2, by omega, a4⟩
theorem s_signOf4 (hd : 6 ≤ d) (G : GG bd b σ) {x y : Int} : sf (RC bd d 103 σ [((b + 4 : Nat) : Int), x, y]) (PU σ (fun _ => True)) := by
  obtain ⟨d, rfl⟩ : ∃ d0, d = d0 + 1 := ⟨d - 1, by omega⟩
  rw [rc_X5_signOf (by omega)]
  refine fin_U ?_
  unfold pc_X5_signOf_0
  have n4_2_σ := G.nu 4 2
  have n9_2_σ := G.nu 9 2
  refine sf_if (fun c1 => ?_) (fun c1 => ?_)
  · exact ret_U ⟨by decide, by decide⟩ (by first | trivial | assumption | omega | (dsimp only; omega))
  · refine wgN (G.tg 4) (fun z2_2 hz2_2 => ?_)
    have fz2_2 := G.nu 4 2
    have rz2_2 : inR z2_2 := hz2_2 ▸ G.ir _ _
    refine sf_if (fun c3 => ?_) (fun c3 => ?_)
    · exact ret_U ⟨by decide, by decide⟩ (by first | trivial | assumption | omega | (dsimp only; omega))
    · refine sf_if (fun c4 => ?_) (fun c4 => ?_)
      · exact ret_U ⟨by decide, by decide⟩ (by first | trivial | assumption | omega | (dsimp only; omega))
      · refine wgF (G.tg 4) (G.fi 15 (i := 4) (f := 1) (j := 6)) ?_
        refine wrN (G.tg 6) (G.ln 6 (n := 8)) ⟨by omega, by omega⟩ (fun z6_6 hz6_6 => ?_)
        have fz6_6 := G.nu 6 (x : Int).toNat (lo := 0) (hi := 12)
        have rz6_6 : inR z6_6 := hz6_6 ▸ G.ir _ _
        refine sf_if (fun c7 => ?_) (fun c7 => ?_)
        · refine wgF (G.tg 4) (G.fi 14 (i := 4) (f := 0) (j := 5)) ?_
          refine wck ⟨by omega, by omega⟩ (fun z9_9 hz9_9 => ?_)
          refine wck ⟨by omega, by omega⟩ (fun z10_10 hz10_10 => ?_)
          refine wrN (G.tg 5) (G.ln 5 (n := 96)) ⟨by omega, by omega⟩ (fun z11_11 hz11_11 => ?_)
          have rz11_11 : inR z11_11 := hz11_11 ▸ G.ir _ _
          exact ret_U (by first | assumption | exact inR_of _ | exact ⟨by omega, by omega⟩) (by first | trivial | assumption | omega | (dsimp only; omega))
        · exact ret_U ⟨by decide, by decide⟩ (by first | trivial | assumption | omega | (dsimp only; omega))
theorem s_signOf9 (hd : 6 ≤ d) (G : GG bd b σ) {x y : Int} : sf (RC bd d 103 σ [((b + 9 : Nat) : Int), x, y]) (PU σ (fun _ => True)) := by
  obtain ⟨d, rfl⟩ : ∃ d0, d = d0 + 1 := ⟨d - 1, by omega⟩
  rw [rc_X5_signOf (by omega)]
  refine fin_U ?_
  unfold pc_X5_signOf_0
  have n4_2_σ := G.nu 4 2
  have n9_2_σ := G.nu 9 2
  refine sf_if (fun c1 => ?_) (fun c1 => ?_)
  · exact ret_U ⟨by decide, by decide⟩ (by first | trivial | assumption | omega | (dsimp only; omega))
  · refine wgN (G.tg 9) (fun z2_2 hz2_2 => ?_)
    have fz2_2 := G.nu 9 2
    have rz2_2 : inR z2_2 := hz2_2 ▸ G.ir _ _
    refine sf_if (fun c3 => ?_) (fun c3 => ?_)
    · exact ret_U ⟨by decide, by decide⟩ (by first | trivial | assumption | omega | (dsimp only; omega))
    · refine sf_if (fun c4 => ?_) (fun c4 => ?_)
      · exact ret_U ⟨by decide, by decide⟩ (by first | trivial | assumption | omega | (dsimp only; omega))
      · refine wgF (G.tg 9) (G.fi 17 (i := 9) (f := 1) (j := 11)) ?_
        refine wrN (G.tg 11) (G.ln 11 (n := 100)) ⟨by omega, by omega⟩ (fun z6_6 hz6_6 => ?_)
        have fz6_6 := G.nu 11 (x : Int).toNat (lo := 0) (hi := 12)
        have rz6_6 : inR z6_6 := hz6_6 ▸ G.ir _ _
        refine sf_if (fun c7 => ?_) (fun c7 => ?_)
        · refine wgF (G.tg 9) (G.fi 16 (i := 9) (f := 0) (j := 10)) ?_
          refine wck ⟨by omega, by omega⟩ (fun z9_9 hz9_9 => ?_)
          refine wck ⟨by omega, by omega⟩ (fun z10_10 hz10_10 => ?_)
          refine wrN (G.tg 10) (G.ln 10 (n := 1200)) ⟨by omega, by omega⟩ (fun z11_11 hz11_11 => ?_)
          have rz11_11 : inR z11_11 := hz11_11 ▸ G.ir _ _
          exact ret_U (by first | assumption | exact inR_of _ | exact ⟨by omega, by omega⟩) (by first | trivial | assumption | omega | (dsimp only; omega))
        · exact ret_U ⟨by decide, by decide⟩ (by first | trivial | assumption | omega | (dsimp only; omega))
theorem s_axiomOf (hd : 7 ≤ d) (G : GG bd b σ) {x : Int} : sf (RC bd d 17 σ [((b + 3 : Nat) : Int), x]) (PU σ (fun r => -1 ≤ r ∧ r ≤ 100)) := by
  obtain ⟨d, rfl⟩ : ∃ d0, d = d0 + 1 := ⟨d - 1, by omega⟩
  rw [rc_X0_axiomOf (by omega)]
  refine fin_U ?_
  unfold pc_X0_axiomOf_0
  have n4_2_σ := G.nu 4 2
  have n9_2_σ := G.nu 9 2
  refine wgF (G.tg 3) (G.fi 6 (i := 3) (f := 0) (j := 4)) ?_
  refine wtN (G.tg 4) ?_
  refine cl_U (s_has4 (by omega) G) (fun z4_3 rz4_3 fz4_3 => ?_)
  refine sf_if (fun c4 => ?_) (fun c4 => ?_)
  · exact ret_U ⟨by decide, by decide⟩ (by first | trivial | assumption | omega | (dsimp only; omega))
  · refine wgF (G.tg 3) (G.fi 7 (i := 3) (f := 1) (j := 7)) ?_
    refine wrN (G.tg 7) (G.ln 7 (n := 8)) ⟨by omega, by omega⟩ (fun z7_6 hz7_6 => ?_)
    have fz7_6 := G.nu 7 (x : Int).toNat (lo := -1) (hi := 100)
    have rz7_6 : inR z7_6 := hz7_6 ▸ G.ir _ _
    exact ret_U (by first | assumption | exact inR_of _ | exact ⟨by omega, by omega⟩) (by first | trivial | assumption | omega | (dsimp only; omega))
theorem s_ruleOf (hd : 6 ≤ d) (G : GG bd b σ) {x y : Int} : sf (RC bd d 21 σ [((b + 3 : Nat) : Int), x, y]) (PU σ (fun r => -1 ≤ r ∧ r ≤ 100)) := by
  obtain ⟨d, rfl⟩ : ∃ d0, d = d0 + 1 := ⟨d - 1, by omega⟩
  rw [rc_X0_ruleOf (by omega)]
  refine fin_U ?_
  unfold pc_X0_ruleOf_0
  have n4_2_σ := G.nu 4 2
  have n9_2_σ := G.nu 9 2
  refine sf_if (fun c1 => ?_) (fun c1 => ?_)
  · exact ret_U ⟨by decide, by decide⟩ (by first | trivial | assumption | omega | (dsimp only; omega))
  · refine sf_if (fun c2 => ?_) (fun c2 => ?_)
    · exact ret_U ⟨by decide, by decide⟩ (by first | trivial | assumption | omega | (dsimp only; omega))
    · refine sf_if (fun c3 => ?_) (fun c3 => ?_)
      · exact ret_U ⟨by decide, by decide⟩ (by first | trivial | assumption | omega | (dsimp only; omega))
      · refine sf_if (fun c4 => ?_) (fun c4 => ?_)
        · refine wgF (G.tg 3) (G.fi 8 (i := 3) (f := 2) (j := 8)) ?_
          refine wck ⟨by omega, by omega⟩ (fun z6_6 hz6_6 => ?_)
          refine wck ⟨by omega, by omega⟩ (fun z7_7 hz7_7 => ?_)
          refine wrN (G.tg 8) (G.ln 8 (n := 64)) ⟨by omega, by omega⟩ (fun z8_8 hz8_8 => ?_)
          have fz8_8 := G.nu 8 (z7_7 : Int).toNat (lo := -1) (hi := 100)
          have rz8_8 : inR z8_8 := hz8_8 ▸ G.ir _ _
          exact ret_U (by first | assumption | exact inR_of _ | exact ⟨by omega, by omega⟩) (by first | trivial | assumption | omega | (dsimp only; omega))
        · exact ret_U ⟨by decide, by decide⟩ (by first | trivial | assumption | omega | (dsimp only; omega))
theorem s_valueOf (hd : 6 ≤ d) (G : GG bd b σ) {x : Int} : sf (RC bd d 24 σ [((b + 3 : Nat) : Int), x]) (PU σ (fun r => oNN σ r ∧ ((0 ≤ x ∧ x < c_pv σ (b + 9) 2) → r = c_pv σ (b + 13) x.toNat) ∧ (¬ (0 ≤ x ∧ x < c_pv σ (b + 9) 2) → r = -1))) := by
  obtain ⟨d, rfl⟩ : ∃ d0, d = d0 + 1 := ⟨d - 1, by omega⟩
  rw [rc_X0_valueOf (by omega)]
  refine fin_U ?_
  unfold pc_X0_valueOf_0
  have n4_2_σ := G.nu 4 2
  have n9_2_σ := G.nu 9 2
  refine sf_if (fun c1 => ?_) (fun c1 => ?_)
  · exact ret_U ⟨by decide, by decide⟩ (by first | trivial | assumption | omega | (dsimp only; omega) | exact ⟨by first | assumption | exact oNN.nul (by decide), fun _ => by omega, fun _ => by omega⟩)
  · refine wgF (G.tg 3) (G.fi 9 (i := 3) (f := 5) (j := 9)) ?_
    refine wgN (G.tg 9) (fun z3_3 hz3_3 => ?_)
    have fz3_3 := G.nu 9 2
    have rz3_3 : inR z3_3 := hz3_3 ▸ G.ir _ _
    refine sf_if (fun c4 => ?_) (fun c4 => ?_)
    · exact ret_U ⟨by decide, by decide⟩ (by first | trivial | assumption | omega | (dsimp only; omega) | exact ⟨by first | assumption | exact oNN.nul (by decide), fun _ => by omega, fun _ => by omega⟩)
    · refine wgF (G.tg 3) (G.fi 11 (i := 3) (f := 7) (j := 13)) ?_
      refine wrN (G.tg 13) (G.ln 13 (n := 100)) ⟨by omega, by omega⟩ (fun z6_6 hz6_6 => ?_)
      have rz6_6 : inR z6_6 := hz6_6 ▸ G.ir _ _
      have t_z6 : oNN σ z6_6 := hz6_6 ▸ G.2.2.2.1.2.1 _ (by omega)
      exact ret_U (by first | assumption | exact inR_of _ | exact ⟨by omega, by omega⟩) (by first | trivial | assumption | omega | (dsimp only; omega) | exact ⟨by first | assumption | exact oNN.nul (by decide), fun _ => by omega, fun _ => by omega⟩)
theorem s_isBinder (hd : 6 ≤ d) (G : GG bd b σ) {x : Int} (t_x : oHd σ x) : sf (RC bd d 27 σ [x]) (PU σ (fun r => (r = 0 ∧ ¬ (c_pv σ (c_pv σ x.toNat 0).toNat 0 = 4 ∨ c_pv σ (c_pv σ x.toNat 0).toNat 0 = 5)) ∨ (r = 1 ∧ (c_pv σ (c_pv σ x.toNat 0).toNat 0 = 4 ∨ c_pv σ (c_pv σ x.toNat 0).toNat 0 = 5)))) := by
  obtain ⟨d, rfl⟩ : ∃ d0, d = d0 + 1 := ⟨d - 1, by omega⟩
  rw [rc_X1_isBinder (by omega)]
  refine fin_U ?_
  unfold pc_X1_isBinder_0
  have n4_2_σ := G.nu 4 2
  have n9_2_σ := G.nu 9 2
  refine wg t_x.tg (fun z1_1 hz1_1 => ?_)
  have rz1_1 : inR z1_1 := hz1_1 ▸ G.ir _ _
  have t_z1_1 : oN σ z1_1 := hz1_1 ▸ (G.hdf t_x.tg).1
  refine wg t_z1_1.tg (fun z2_2 hz2_2 => ?_)
  have rz2_2 : inR z2_2 := hz2_2 ▸ G.ir _ _
  have fz2_2 := G.kd t_z1_1.tg
  rw [hz2_2] at fz2_2
  have k2 : c_pv σ (c_pv σ x.toNat 0).toNat 0 = z2_2 := by rw [hz1_1]; exact hz2_2
  refine sf_if (fun c3 => ?_) (fun c3 => ?_)
  · refine sf_bo (by omega) ?_
    exact ret_U ⟨by decide, by decide⟩ (by first | trivial | assumption | omega | (dsimp only; omega))
  · refine wg t_x.tg (fun z4_4 hz4_4 => ?_)
    have rz4_4 : inR z4_4 := hz4_4 ▸ G.ir _ _
    have t_z4_4 : oN σ z4_4 := hz4_4 ▸ (G.hdf t_x.tg).1
    refine wg t_z4_4.tg (fun z5_5 hz5_5 => ?_)
    have rz5_5 : inR z5_5 := hz5_5 ▸ G.ir _ _
    have fz5_5 := G.kd t_z4_4.tg
    rw [hz5_5] at fz5_5
    have k5 : c_pv σ (c_pv σ x.toNat 0).toNat 0 = z5_5 := by rw [hz4_4]; exact hz5_5
    refine sf_if (fun c6 => ?_) (fun c6 => ?_)
    · refine sf_bo (by omega) ?_
      exact ret_U ⟨by decide, by decide⟩ (by first | trivial | assumption | omega | (dsimp only; omega))
    · refine sf_bo (by omega) ?_
      exact ret_U ⟨by decide, by decide⟩ (by first | trivial | assumption | omega | (dsimp only; omega))
theorem s_envOfSecond (hd : 7 ≤ d) (G : GG bd b σ) (R : RR bd b σ (k + 1) (s + 5) (o) (z)) {x l : Int} (t_x : oHd σ x) (hb : oB σ (c_pv σ x.toNat 0)) (hl : 0 ≤ l ∧ l ≤ 1000) : sf (RC bd d 25 σ [x, l]) (PZ bd b σ k s o z (fun σ' r => oLn σ' r ∧ c_pv σ' r.toNat 3 = -1 - l)) := by
  obtain ⟨d, rfl⟩ : ∃ d0, d = d0 + 1 := ⟨d - 1, by omega⟩
  rw [rc_X1_envOfSecond (by omega)]
  refine fin_Z ?_
  unfold pc_X1_envOfSecond_0
  have n4_2_σ := G.nu 4 2
  have n9_2_σ := G.nu 9 2
  refine sf_n (rr_room G (R.le (k' := k + 1) (s' := s + 5) (o' := o) (z' := z) (by omega) (by omega) (by omega) (by omega))) ?_
  refine wgn G t_x.tg (by decide) (fun z3_1 hz3_1 => ?_)
  have rz3_1 : inR z3_1 := hz3_1 ▸ G.ir _ _
  have t_z3_1 : oN σ z3_1 := hz3_1 ▸ (G.hdf t_x.tg).1
  have hb3 : oB σ z3_1 := hz3_1 ▸ hb
  refine wgn G t_z3_1.tg (by decide) (fun z4_2 hz4_2 => ?_)
  have rz4_2 : inR z4_2 := hz4_2 ▸ G.ir _ _
  have fz4_2 : oid z4_2 := hz4_2 ▸ G.ni t_z3_1.tg
  have n4 : z4_2 ≠ 0 := hz4_2 ▸ G.n1 hb3.tg hb3.2.1 hb3.2.2
  refine wgn G t_x.tg (by decide) (fun z5_3 hz5_3 => ?_)
  have rz5_3 : inR z5_3 := hz5_3 ▸ G.ir _ _
  have t_z5_3 : oL σ z5_3 := hz5_3 ▸ (G.hdf t_x.tg).2.2.1
  refine mk_put (k := k) (s := s) (o := o) (z := z) (by omega) G (R.le (by omega) (by omega) (by omega) (by omega)) ⟨(by first | assumption | exact inR_of _ | exact ⟨by omega, by omega⟩), (by first | assumption | exact inR_of _ | exact ⟨by omega, by omega⟩), (by first | assumption | exact ref_R G R t_z5_3.tg (by decide))⟩ (by first | assumption | exact ⟨by omega, by omega⟩) (by omega) ⟨by omega, by omega⟩ t_z5_3 (fun s4 Gs4 es4 Rs4 fs4 => ?_)
  obtain ⟨t_z2_s4, v_z2_s4, F_z2_s4⟩ := fs4
  have E5 := (Ext.refl (b := b) (σ := σ)).trans es4
  have n4_2_s4 := Gs4.nu 4 2
  have n9_2_s4 := Gs4.nu 9 2
  exact ret_Z (by first | assumption | exact ref_R Gs4 Rs4 t_z2_s4.tg (by decide) | exact ⟨by omega, by omega⟩) Gs4 E5 (Rs4.le (by omega) (by omega) (by omega) (by omega)) (by first | trivial | assumption | omega | (dsimp only; omega) | exact ⟨t_z2_s4, v_z2_s4⟩)
theorem s_find2 : ∀ (n : Nat) {x y : Int}, (G : GG bd b σ) → inR y → oL σ y → y + 2 ≤ (n : Int) ∧ 1 ≤ n → sf (pc_X3_find_2 (RC bd d) bd n σ x y) (PU σ (fun r => oL σ r)) := by
  intro n
  induction n with
  | zero =>
    intro x y G r_y t_y hn
    omega
  | succ n ih =>
    intro x y G r_y t_y hn
    unfold pc_X3_find_2
    have n4_2_σ := G.nu 4 2
    have n9_2_σ := G.nu 9 2
    refine sf_if (fun c1 => ?_) (fun c1 => ?_)
    · exact ret_U ⟨by decide, by decide⟩ (by first | trivial | assumption | omega | (dsimp only; omega) | exact oL.nul (by decide) | exact oLn.l (by assumption))
    · have t_y := t_y.pos (by omega)
      refine wg t_y.tg (fun z2_2 hz2_2 => ?_)
      have rz2_2 : inR z2_2 := hz2_2 ▸ G.ir _ _
      have fz2_2 : oid z2_2 := hz2_2 ▸ (G.lkf t_y.tg).1
      refine sf_if (fun c3 => ?_) (fun c3 => ?_)
      · refine wg t_y.tg (fun z4_4 hz4_4 => ?_)
        have rz4_4 : inR z4_4 := hz4_4 ▸ G.ir _ _
        have fz4_4 : z4_4 < ((y).toNat : Int) := hz4_4 ▸ (G.lkf t_y.tg).2.2.2.2.2.1
        have t_z4_4 : oL σ z4_4 := hz4_4 ▸ (G.lkf t_y.tg).2.2.2.2.1
        exact ih G (by assumption) t_z4_4 (by have := t_y.tg.1; omega)
      · exact ret_U (by first | assumption | exact ref_R G R t_y.tg (by decide) | exact ⟨by omega, by omega⟩) (by first | trivial | assumption | omega | (dsimp only; omega) | exact oL.nul (by decide) | exact oLn.l (by assumption))
theorem s_find (hd : 6 ≤ d) (G : GG bd b σ) (R : RR bd b σ k s o z) {x y : Int} (r_y : inR y) (t_y : oL σ y) : sf (RC bd d 76 σ [x, y]) (PU σ (fun r => oL σ r)) := by
  obtain ⟨d, rfl⟩ : ∃ d0, d = d0 + 1 := ⟨d - 1, by omega⟩
  rw [rc_X3_find (by omega)]
  refine fin_U ?_
  unfold pc_X3_find_0
  have n4_2_σ := G.nu 4 2
  have n9_2_σ := G.nu 9 2
  exact s_find2 _ G (by assumption) t_y (by have := t_y.lt G; have := hp_M G R; omega)
end CBK
