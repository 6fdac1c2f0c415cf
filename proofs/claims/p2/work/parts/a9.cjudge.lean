section CJU
variable {bd : cBd} {b d : Nat} {σ σ1 σ2 σ3 : CS} {Q : CS → Nat → Int → Prop} {k s o z : Nat}
theorem s_letsOf (hd : 6 ≤ d) (G : GG bd b σ) {x : Int} (t_x : oS σ x) : sf (RC bd d 136 σ [x]) (PU σ (fun r => oL σ r)) := by
  obtain ⟨d, rfl⟩ : ∃ d0, d = d0 + 1 := ⟨d - 1, by omega⟩
  rw [rc_X8_letsOf (by omega)]
  refine fin_U ?_
  unfold pc_X8_letsOf_0
  refine sf_if (fun c => ?_) (fun c => ?_)
  · have t := t_x.pos c
    refine wg t.tg (fun z hz => ?_)
    exact ret_U (hz ▸ G.ir _ _) (hz ▸ (G.scf t.tg).2.2.1)
  · exact ret_U ⟨by decide, by decide⟩ (oL.nul (by decide))
theorem s_letsOf_n (hd : 6 ≤ d) (G : GG bd b σ) {t n : Nat} {x : Int} (t_x : oS σ x) : sf (RC bd d 136 (cs_n σ t n) [x]) (PU (cs_n σ t n) (fun r => oL σ r)) := by
  obtain ⟨d, rfl⟩ : ∃ d0, d = d0 + 1 := ⟨d - 1, by omega⟩
  rw [rc_X8_letsOf (by omega)]
  refine fin_U ?_
  unfold pc_X8_letsOf_0
  refine sf_if (fun c => ?_) (fun c => ?_)
  · have tx := t_x.pos c
    refine wgn G tx.tg (by decide) (fun z hz => ?_)
    exact ret_U (hz ▸ G.ir _ _) (hz ▸ (G.scf tx.tg).2.2.1)
  · exact ret_U ⟨by decide, by decide⟩ (oL.nul (by decide))
/-- what is put into a Scope that is being made -/
theorem gg_sc {σ1 : CS} (G : GG bd b σ) (R : RR bd b σ k s o z) {a : Nat} {y : Int} (e : σ1 = cs_p σ a 3 y) (ha : c_tg σ a = 9) (hb : b + 24 ≤ a) (hy : oL σ y) (ry : inR y) : GG bd b σ1 ∧ RR bd b σ1 k s o z := by
  subst e
  have hne : ∀ i, i < 24 → b + i ≠ a := fun i hi => by omega
  refine ⟨⟨G.1, fun q hq => ?_, ⟨fun i' f' lo hi' hi2 hr2 => ?_, fun j => ?_⟩, ?_, fun q => ?_, cs_p_ir G.ir ry, G.st.p (by have := G.st.1.2.2.1; omega)⟩, rr_far R hne⟩
  · have hq2 : q.1 < 24 := (by decide : ∀ q ∈ gF, q.1 < 24) q hq
    rw [cs_p_na (hne _ hq2)]; exact G.2.1 q hq
  · rw [cs_p_na (hne _ hi2)]; exact G.2.2.1.1 i' f' lo hi' hi2 hr2
  · rw [cs_p_na (hne 17 (by decide)), cs_p_na (hne 16 (by decide))]; exact G.2.2.1.2 j
  · exact hw_same G.2.2.2.1 (fun j => cs_p_na (hne 12 (by decide))) (fun j => cs_p_na (hne 13 (by decide))) (fun j => cs_p_na (hne 15 (by decide))) (cs_p_na (hne 9 (by decide))) (fun x q => q)
  · have o := G.oi q
    have tP : ∀ x, oP σ x → oP (cs_p σ a 3 y) x := by
      intro x c
      rcases c with c | ⟨c1, c2, c3⟩
      · exact Or.inl c
      · refine Or.inr ⟨c1, c2, ?_⟩
        rw [cs_p_na (fun e3 => by rw [e3, ha] at c2; omega)]
        exact c3
    have tA : ∀ x, oA b σ x → oA b (cs_p σ a 3 y) x := by
      intro x c
      obtain ⟨q1, q3, q4, q5, q6⟩ := c
      refine ⟨q1, q3, q4, q5, fun j hj => ?_⟩
      rw [cs_p_na (fun e3 => by have := q1.2; rw [e3, ha] at this; omega)]
      exact q6 j hj
    by_cases e : q = a
    · subst e
      have ht : c_tg (cs_p σ q 3 y) q = 9 := ha
      refine ⟨fun c => by omega, fun c => by omega, fun c => by omega, fun _ => ?_, fun c => by omega⟩
      obtain ⟨a1, a2, a3, a4, a5⟩ := o.2.2.2.1 ha
      have e0 : c_pv (cs_p σ q 3 y) q 0 = c_pv σ q 0 := cs_p_nf (by decide)
      have e1 : c_pv (cs_p σ q 3 y) q 1 = c_pv σ q 1 := cs_p_nf (by decide)
      have e4 : c_pv (cs_p σ q 3 y) q 4 = c_pv σ q 4 := cs_p_nf (by decide)
      unfold oSc
      rw [e0, e1, e4, cs_p_eq]
      exact ⟨a1, a2, hy, a4, a5⟩
    · have e2 : c_pv (cs_p σ a 3 y) q = c_pv σ q := funext fun g => cs_p_na e
      unfold OI
      rw [e2]
      show (c_tg σ q = 2 → _) ∧ (c_tg σ q = 4 → _) ∧ (c_tg σ q = 7 → _) ∧ (c_tg σ q = 9 → _) ∧ (c_tg σ q = 10 → _)
      refine ⟨fun q => ?_, fun q => ?_, fun q => ?_, fun q => ?_, fun q => ?_⟩
      · obtain ⟨a1, a2, a3, a4⟩ := o.1 q
        exact ⟨a1, a2, a3, tP _ a4⟩
      · obtain ⟨a1, a2, a3, a4, a5, a6, a7⟩ := o.2.1 q
        exact ⟨a1, a2, a3, a4, a5, a6, fun c => ⟨(a7 c).1, tP _ (a7 c).2⟩⟩
      · obtain ⟨a1, a2, a3, a4, a5, a6, a7, a8⟩ := o.2.2.1 q
        exact ⟨a1, a2, a3, a4, a5, a6, a7, fun c => tA _ (a8 c)⟩
      · exact o.2.2.2.1 q
      · exact o.2.2.2.2 q
theorem mk_scope (hd : 8 ≤ d) (h : GG bd b σ) (hr : RR bd b σ (k + 2) (s + 10) o z) {x1 x2 x3 x4 : Int} (hx : inR x1 ∧ inR x2 ∧ inR x3 ∧ inR x4) (t1 : oB σ x1) (t2 : oN σ x2) (t4 : oS σ x4) {K : CS → CO}
    (kk : ∀ σ', GG bd b σ' → Ext b σ σ' → RR bd b σ' k s o z → oSn σ' ((c_hp σ : Nat) : Int) → sf (K σ') Q) : sf (cc_t (cs_n σ 9 5) 9 ((c_hp σ : Nat) : Int) (cc_ci (RC bd d 135 (cs_n σ 9 5) [((c_hp σ : Nat) : Int), x1, x2, x3, x4]) K)) Q := by
  have h0 : c_tg σ (c_hp σ) = 0 := by
    by_cases c : c_tg σ (c_hp σ) = 0
    · exact c
    · have := h.lt c
      omega
  refine wtN (by rw [cs_n_o]; exact cs_o_tg) (sf_ci (P := fun σ' kd r => kd = 0 ∧ GG bd b σ' ∧ Ext b σ σ' ∧ RR bd b σ' k s o z ∧ oSn σ' ((c_hp σ : Nat) : Int)) ?_ (fun σ' kd r hp => ⟨hp.1, kk σ' hp.2.1 hp.2.2.1 hp.2.2.2.1 hp.2.2.2.2⟩))
  obtain ⟨d, rfl⟩ : ∃ d0, d = d0 + 1 := ⟨d - 1, by omega⟩
  rw [rc_X8_init (by omega)]
  refine sf_fin ?_
  unfold pc_X8_init_0
  rw [cs_n_o]
  refine wtN cs_o_tg ?_
  refine sf_pN0 cs_o_tg ?_
  rw [cs_o_p]
  refine sf_pN0 cs_o_tg ?_
  rw [cs_o_p]
  refine sf_pN0 cs_o_tg ?_
  rw [cs_o_p]
  refine sf_pN0 cs_o_tg ?_
  rw [cs_o_p]
  obtain ⟨F, hF⟩ : ∃ F : Nat → Int, F = (fun g => if g = 4 then x4 else (if g = 2 then x3 else (if g = 1 then x2 else (if g = 0 then x1 else (if cw_isR 9 g = true then -1 else 0))))) := ⟨_, rfl⟩
  rw [← hF]
  have f0 : F 0 = x1 := by rw [hF]; rfl
  have f1 : F 1 = x2 := by rw [hF]; rfl
  have f3 : F 3 = -1 := by rw [hF]; rfl
  have f4 : F 4 = x4 := by rw [hF]; rfl
  obtain ⟨i1, i2, i3, i4⟩ := hx
  have hg := gg_scope h (F := F) (fun f => by
    rw [hF]
    dsimp only
    repeat' split
    all_goals first | assumption | exact ⟨by decide, by decide⟩) (by
    unfold oSc
    rw [f0, f1, f3, f4]
    exact ⟨t1.1, t2, oL.nul (by decide), t4, t4.lt h⟩)
  have R1 : RR bd b (cs_o σ 9 5 F) (k + 1) (s + 5) o z := rr_new h (hr.le (by omega) (by omega) (by omega) (by omega))
  have e1 := hg.2
  have t1' := t1.up e1
  refine cl_U (s_letsOf (by omega) hg.1 (t4.up e1)) (fun z7 r7 f7 => ?_)
  have ha : ((c_hp σ : Nat) : Int).toNat = c_hp σ := Int.toNat_natCast _
  have fin : ∀ (σ2 : CS) (y : Int), GG bd b σ2 → Ext b σ σ2 → RR bd b σ2 k s o z → c_tg σ2 (c_hp σ) = 9 → oL σ2 y → inR y → sf (cc_p σ2 9 3 ((c_hp σ : Nat) : Int) y (fun σ' => some (σ', 0, 0))) (fun σ' kd r => inR r ∧ kd = 0 ∧ GG bd b σ' ∧ Ext b σ σ' ∧ RR bd b σ' k s o z ∧ oSn σ' ((c_hp σ : Nat) : Int)) := by
    intro σ2 y G2 E2 R2 tg2 hy ry
    refine wpN tg2 (fun σ3 w3 => ?_)
    obtain ⟨G3, R3⟩ := gg_sc G2 R2 w3 tg2 h.hp hy ry
    exact sf_some ⟨⟨by decide, by decide⟩, rfl, G3, E2.fill w3 h0 h.hp, R3, by rw [w3]; exact ⟨by omega, by rw [ha]; exact tg2⟩⟩
  refine wg t1'.tg (fun z8 q8 => ?_)
  refine sf_if (fun c => ?_) (fun c => ?_)
  · unfold pc_X8_init_46
    rw [if_pos rfl]
    exact fin _ _ hg.1 e1 (R1.le (by omega) (by omega) (by omega) (by omega)) cs_o_tg f7 r7
  · unfold pc_X8_init_46
    rw [if_neg (by decide)]
    refine sf_n (rr_room hg.1 R1) ?_
    refine wgn hg.1 t1'.tg (by decide) (fun z9 q9 => ?_)
    refine wgn hg.1 t1'.tg (by decide) (fun z10 q10 => ?_)
    refine mk_link (k := k) (s := s) (o := o) (z := z) (by omega) hg.1 R1 ⟨q9 ▸ hg.1.ir _ _, q10 ▸ hg.1.ir _ _, r7, r7⟩ (q9 ▸ hg.1.ni t1'.tg) (q9 ▸ hg.1.n1 t1'.tg t1'.2.1 t1'.2.2) (q10 ▸ (hg.1.n6 t1'.tg t1'.2.1).nn) f7 f7 (fun σ2 G2 e2 R2 f2 => ?_)
    exact fin _ _ G2 (e1.trans e2) R2 (e2.tg cs_o_tg (by decide)) f2.1.l (hp_R hg.1 R1)
theorem s_isNameOf (hd : 7 ≤ d) (G : GG bd b σ) {x y : Int} (t_x : oN σ x) (t_y : oN σ y) : sf (RC bd d 65 σ [((b + 23 : Nat) : Int), x, y]) (PU σ (fun r => r = 0 ∨ r = 1)) := by
  obtain ⟨d, rfl⟩ : ∃ d0, d = d0 + 1 := ⟨d - 1, by omega⟩
  rw [rc_X2_isNameOf (by omega)]
  refine fin_U ?_
  unfold pc_X2_isNameOf_0
  refine wg t_x.tg (fun z1_1 hz1_1 => ?_)
  have rz1_1 : inR z1_1 := hz1_1 ▸ G.ir _ _
  have fz1_1 := G.n5 t_x.tg
  rw [hz1_1] at fz1_1
  refine wg t_y.tg (fun z2_2 hz2_2 => ?_)
  have rz2_2 : inR z2_2 := hz2_2 ▸ G.ir _ _
  have fz2_2 := G.n5 t_y.tg
  rw [hz2_2] at fz2_2
  refine sf_if (fun c3 => ?_) (fun c3 => ?_)
  · refine sf_bo (by omega) ?_
    exact ret_U ⟨by decide, by decide⟩ (by first | trivial | assumption | omega | (dsimp only; omega))
  · refine wgF (G.tg 23) (G.fi 27 (i := 23) (f := 0) (j := 1)) ?_
    refine wg t_x.tg (fun z5_5 hz5_5 => ?_)
    have rz5_5 : inR z5_5 := hz5_5 ▸ G.ir _ _
    have fz5_5 := G.n4 t_x.tg
    rw [hz5_5] at fz5_5
    refine wgF (G.tg 23) (G.fi 27 (i := 23) (f := 0) (j := 1)) ?_
    refine wg t_y.tg (fun z7_7 hz7_7 => ?_)
    have rz7_7 : inR z7_7 := hz7_7 ▸ G.ir _ _
    have fz7_7 := G.n4 t_y.tg
    rw [hz7_7] at fz7_7
    refine wg t_y.tg (fun z8_8 hz8_8 => ?_)
    have rz8_8 : inR z8_8 := hz8_8 ▸ G.ir _ _
    have fz8_8 := G.n5 t_y.tg
    rw [hz8_8] at fz8_8
    refine cl_U (s_agree1 (by omega) G (by omega) (by omega) ⟨by omega, by omega⟩) (fun z11_10 rz11_10 fz11_10 => ?_)
    refine sf_if (fun c11 => ?_) (fun c11 => ?_)
    · refine sf_bo (by omega) ?_
      exact ret_U ⟨by decide, by decide⟩ (by first | trivial | assumption | omega | (dsimp only; omega))
    · refine sf_bo (by omega) ?_
      exact ret_U ⟨by decide, by decide⟩ (by first | trivial | assumption | omega | (dsimp only; omega))
theorem s_resolve (hd : 6 ≤ d) (G : GG bd b σ) (R : RR bd b σ (k) (s) (o) (z)) {x a i w : Int} (t_x : oN σ x) (h6 : c_pv σ x.toNat 6 < 0) (ha : 1 ≤ a ∧ a ≤ 3) (hi : oid i) (ri : inR i) (rw_ : inR w) : sf (RC bd d 71 σ [((b + 23 : Nat) : Int), x, a, i, w]) (PZ bd b σ k s o z (fun σ' _ => ∀ a f, a ≠ x.toNat → a ≠ b + 23 → c_pv σ' a f = c_pv σ a f)) := by
  obtain ⟨d, rfl⟩ : ∃ d0, d = d0 + 1 := ⟨d - 1, by omega⟩
  rw [rc_X2_resolve (by omega)]
  refine fin_Z ?_
  unfold pc_X2_resolve_0
  refine wp t_x.tg (fun s1 ws1 => ?_)
  obtain ⟨Gs1, es1, Rs1, Fs1⟩ := P7 G R t_x ws1 ⟨by omega, by omega⟩ (by omega)
  have E2 := (Ext.refl (b := b) (σ := σ)).trans es1
  have t_x := t_x.up es1
  have h61 := Fs1 x.toNat 6 (Or.inr (by decide))
  have F1 := Fs1
  refine wp t_x.tg (fun s3 ws3 => ?_)
  obtain ⟨Gs3, es3, Rs3, Fs3⟩ := P7 Gs1 Rs1 t_x ws3 ri (Or.inr (Or.inr (Or.inr (Or.inr (Or.inr (Or.inr ⟨by omega, Or.inr ⟨rfl, hi⟩⟩))))))
  have E4 := E2.trans es3
  have F2 := Fs3
  refine wpN (Gs3.tg 23) (fun s5 ws5 => ?_)
  obtain ⟨Gs5, es5, Rs5, Fs5, Vs5⟩ := P0 Gs3 Rs3 ws5 (by decide) (by first | assumption | exact inR_of _ | exact ⟨by omega, by omega⟩) (by intro lo hi q; cases q <;> omega)
  have E6 := E4.trans es5
  have F3 := Fs5
  exact ret_Z ⟨by decide, by decide⟩ Gs5 E6 (Rs5.le (by omega) (by omega) (by omega) (by omega)) (by first | trivial | assumption | omega | (dsimp only; omega) | exact fun a f h1 h2 => ((F3 a f (Or.inl h2)).trans (F2 a f (Or.inl h1))).trans (F1 a f (Or.inl h1)))
theorem s_needProduct (hd : 7 ≤ d) (G : GG bd b σ) (R : RR bd b σ (k + 1) (s + 6) (o) (z)) {x y : Int} (t_x : oN σ x) (t_y : oN σ y) : sf (RC bd d 68 σ [((b + 23 : Nat) : Int), x, y]) (PO bd b σ k s o z (fun σ' r => oPr σ' x ∧ RR bd b σ' (k + 1) (s + 6) o z)) := by
  obtain ⟨d, rfl⟩ : ∃ d0, d = d0 + 1 := ⟨d - 1, by omega⟩
  rw [rc_X2_needProduct (by omega)]
  refine fin_O ?_
  unfold pc_X2_needProduct_0
  refine wg t_x.tg (fun z1_1 hz1_1 => ?_)
  have rz1_1 : inR z1_1 := hz1_1 ▸ G.ir _ _
  have fz1_1 := G.kd t_x.tg
  rw [hz1_1] at fz1_1
  refine sf_if (fun c2 => ?_) (fun c2 => ?_)
  · exact ret_O ⟨by decide, by decide⟩ G (Ext.refl (b := b) (σ := σ)) (R.le (by omega) (by omega) (by omega) (by omega)) (by first | trivial | assumption | omega | (dsimp only; omega) | exact ⟨⟨t_x, by omega⟩, (R.le (by omega) (by omega) (by omega) (by omega))⟩)
  · refine wgF (G.tg 23) (G.fi 30 (i := 23) (f := 3) (j := 2)) ?_
    refine wg t_y.tg (fun z4_4 hz4_4 => ?_)
    have rz4_4 : inR z4_4 := hz4_4 ▸ G.ir _ _
    refine wtN (G.tg 2) ?_
    refine cl_Z (s_set (k := k + 1) (s := s + 6) (o := o) (z := z) (by omega) G (R.le (by omega) (by omega) (by omega) (by omega)) ⟨by omega, by omega⟩ (by first | assumption | exact inR_of _ | exact ⟨by omega, by omega⟩)) (fun s5 z7_6 rz7_6 Gs5 es5 Rs5 fz7_6 => ?_)
    have E7 := (Ext.refl (b := b) (σ := σ)).trans es5
    exact thr_O Gs5 E7 (Rs5.le (by omega) (by omega) (by omega) (by omega))
theorem s_jneededSort (hd : 7 ≤ d) (G : GG bd b σ) (R : RR bd b σ (k + 1) (s + 6) (o) (z)) {x y : Int} (t_x : oN σ x) (t_y : oN σ y) : sf (RC bd d 70 σ [((b + 23 : Nat) : Int), x, y]) (PO bd b σ k s o z (fun σ' r => oid r ∧ RR bd b σ' (k + 1) (s + 6) o z)) := by
  obtain ⟨d, rfl⟩ : ∃ d0, d = d0 + 1 := ⟨d - 1, by omega⟩
  rw [rc_X2_neededSort (by omega)]
  refine fin_O ?_
  unfold pc_X2_neededSort_0
  refine wg t_x.tg (fun z1_1 hz1_1 => ?_)
  have rz1_1 : inR z1_1 := hz1_1 ▸ G.ir _ _
  have fz1_1 := G.kd t_x.tg
  rw [hz1_1] at fz1_1
  refine sf_if (fun c2 => ?_) (fun c2 => ?_)
  · refine wg t_x.tg (fun z3_3 hz3_3 => ?_)
    have rz3_3 : inR z3_3 := hz3_3 ▸ G.ir _ _
    have fz3_3 : oid z3_3 := hz3_3 ▸ G.ni t_x.tg
    exact ret_O (by first | assumption | exact inR_of _ | exact ⟨by omega, by omega⟩) G (Ext.refl (b := b) (σ := σ)) (R.le (by omega) (by omega) (by omega) (by omega)) (by first | trivial | assumption | omega | (dsimp only; omega) | exact ⟨by assumption, (R.le (by omega) (by omega) (by omega) (by omega))⟩)
  · refine wgF (G.tg 23) (G.fi 30 (i := 23) (f := 3) (j := 2)) ?_
    refine wg t_y.tg (fun z5_5 hz5_5 => ?_)
    have rz5_5 : inR z5_5 := hz5_5 ▸ G.ir _ _
    refine wtN (G.tg 2) ?_
    refine cl_Z (s_set (k := k + 1) (s := s + 6) (o := o) (z := z) (by omega) G (R.le (by omega) (by omega) (by omega) (by omega)) ⟨by omega, by omega⟩ (by first | assumption | exact inR_of _ | exact ⟨by omega, by omega⟩)) (fun s6 z8_7 rz8_7 Gs6 es6 Rs6 fz8_7 => ?_)
    have E8 := (Ext.refl (b := b) (σ := σ)).trans es6
    exact thr_O Gs6 E8 (Rs6.le (by omega) (by omega) (by omega) (by omega))
theorem s_neededRule (hd : 7 ≤ d) (G : GG bd b σ) (R : RR bd b σ (k + 1) (s + 6) (o) (z)) {x y w : Int} (t_w : oN σ w) : sf (RC bd d 69 σ [((b + 23 : Nat) : Int), x, y, w]) (PO bd b σ k s o z (fun σ' r => (0 ≤ r ∧ r ≤ 100) ∧ RR bd b σ' (k + 1) (s + 6) o z)) := by
  obtain ⟨d, rfl⟩ : ∃ d0, d = d0 + 1 := ⟨d - 1, by omega⟩
  rw [rc_X2_neededRule (by omega)]
  refine fin_O ?_
  unfold pc_X2_neededRule_0
  refine wgF (G.tg 23) (G.fi 28 (i := 23) (f := 1) (j := 3)) ?_
  refine wtN (G.tg 3) ?_
  refine cl_U (s_ruleOf (by omega) G) (fun z4_3 rz4_3 fz4_3 => ?_)
  refine sf_if (fun c4 => ?_) (fun c4 => ?_)
  · exact ret_O (by first | assumption | exact inR_of _ | exact ⟨by omega, by omega⟩) G (Ext.refl (b := b) (σ := σ)) (R.le (by omega) (by omega) (by omega) (by omega)) (by first | trivial | assumption | omega | (dsimp only; omega) | exact ⟨by omega, (R.le (by omega) (by omega) (by omega) (by omega))⟩)
  · refine wgF (G.tg 23) (G.fi 30 (i := 23) (f := 3) (j := 2)) ?_
    refine wg t_w.tg (fun z7_6 hz7_6 => ?_)
    have rz7_6 : inR z7_6 := hz7_6 ▸ G.ir _ _
    refine wtN (G.tg 2) ?_
    refine cl_Z (s_set (k := k + 1) (s := s + 6) (o := o) (z := z) (by omega) G (R.le (by omega) (by omega) (by omega) (by omega)) ⟨by omega, by omega⟩ (by first | assumption | exact inR_of _ | exact ⟨by omega, by omega⟩)) (fun s7 z10_8 rz10_8 Gs7 es7 Rs7 fz10_8 => ?_)
    have E9 := (Ext.refl (b := b) (σ := σ)).trans es7
    exact thr_O Gs7 E9 (Rs7.le (by omega) (by omega) (by omega) (by omega))
theorem s_typeOfProduct (hd : 9 ≤ d) (G : GG bd b σ) (R : RR bd b σ (k + 2) (s + 17) (o) (z)) {x y w : Int} (t_x : oN σ x) (ry : inR y) (rw_ : inR w) : sf (RC bd d 75 σ [((b + 23 : Nat) : Int), x, y, w]) (PO bd b σ k s o z (fun σ' r => oN σ' r ∧ RR bd b σ' (k + 1) (s + 6) o z)) := by
  obtain ⟨d, rfl⟩ : ∃ d0, d = d0 + 1 := ⟨d - 1, by omega⟩
  rw [rc_X2_typeOfProduct (by omega)]
  refine fin_O ?_
  unfold pc_X2_typeOfProduct_0
  refine wtN (G.tg 23) ?_
  refine cl_O (s_neededRule (k := k + 1) (s := s + 11) (o := o) (z := z) (by omega) G (R.le (by omega) (by omega) (by omega) (by omega)) t_x) (Ext.refl (b := b) (σ := σ)) (by omega) (by omega) (by omega) (by omega) (fun s1 z3_2 rz3_2 Gs1 es1 Rs1 fz3_2 => ?_)
  obtain ⟨fz3_2, Qz3_2⟩ := fz3_2
  have E3 := (Ext.refl (b := b) (σ := σ)).trans es1
  have t_x := t_x.up es1
  refine sf_t t_x.tg ?_
  refine cl_Z (s_keepSorts (k := k + 2) (s := s + 17) (o := o) (z := z) (by omega) Gs1 (Qz3_2.le (by omega) (by omega) (by omega) (by omega)) t_x (by first | assumption | exact inR_of _ | exact ⟨by omega, by omega⟩) (by first | assumption | exact inR_of _ | exact ⟨by omega, by omega⟩)) (fun s4 z6_5 rz6_5 Gs4 es4 Rs4 fz6_5 => ?_)
  have E6 := E3.trans es4
  refine wgF (Gs4.tg 23) (Gs4.fi 28 (i := 23) (f := 1) (j := 3)) ?_
  refine wtN (Gs4.tg 3) ?_
  refine cl_U (s_axiomOf (by omega) Gs4) (fun z10_9 rz10_9 fz10_9 => ?_)
  refine wpN (Gs4.tg 23) (fun s10 ws10 => ?_)
  obtain ⟨Gs10, es10, Rs10, Fs10, Vs10⟩ := P0 Gs4 Rs4 ws10 (by decide) (by first | assumption | exact inR_of _ | exact ⟨by omega, by omega⟩) (by intro lo hi q; cases q <;> omega)
  have E11 := E6.trans es10
  refine sf_n (rr_room Gs10 (Rs10.le (k' := (k + 1) + 1) (s' := (s + 6) + 11) (o' := o) (z' := z) (by omega) (by omega) (by omega) (by omega))) ?_
  refine mk_leaf (k := k + 1) (s := s + 6) (o := o) (z := z) (by omega) Gs10 (Rs10.le (by omega) (by omega) (by omega) (by omega)) ⟨⟨by decide, by decide⟩, (by first | assumption | exact inR_of _ | exact ⟨by omega, by omega⟩)⟩ ⟨by omega, by omega⟩ (by first | assumption | exact ⟨by omega, by omega⟩) (fun s12 Gs12 es12 Rs12 fs12 => ?_)
  obtain ⟨t_z13_s12, v_z13_s12, F_z13_s12⟩ := fs12
  have E13 := E11.trans es12
  exact ret_O (by first | assumption | exact ref_R Gs12 Rs12 t_z13_s12.tg (by decide) | exact ⟨by omega, by omega⟩) Gs12 E13 (Rs12.le (by omega) (by omega) (by omega) (by omega)) (by first | trivial | assumption | omega | (dsimp only; omega) | exact ⟨by assumption, (Rs12.le (by omega) (by omega) (by omega) (by omega))⟩)
theorem s_typeOfLambda (hd : 9 ≤ d) (G : GG bd b σ) (R : RR bd b σ (k + 2) (s + 17) (o) (z)) {x y a w : Int} (t_x : oB σ x) (t_y : oN σ y) (ry : inR y) (ra : inR a) (t_w : oN σ w) (rw_ : inR w) : sf (RC bd d 74 σ [((b + 23 : Nat) : Int), x, y, a, w]) (PO bd b σ k s o z (fun σ' r => oN σ' r ∧ RR bd b σ' (k + 1) (s + 6) o z)) := by
  obtain ⟨d, rfl⟩ : ∃ d0, d = d0 + 1 := ⟨d - 1, by omega⟩
  rw [rc_X2_typeOfLambda (by omega)]
  refine fin_O ?_
  unfold pc_X2_typeOfLambda_0
  refine wgN (G.tg 23) (fun z1_1 hz1_1 => ?_)
  have rz1_1 : inR z1_1 := hz1_1 ▸ G.ir _ _
  refine sf_if (fun c2 => ?_) (fun c2 => ?_)
  · refine wtN (G.tg 23) ?_
    refine cl_O (s_neededRule (k := k + 1) (s := s + 11) (o := o) (z := z) (by omega) G (R.le (by omega) (by omega) (by omega) (by omega)) t_x.n) (Ext.refl (b := b) (σ := σ)) (by omega) (by omega) (by omega) (by omega) (fun s3 z5_4 rz5_4 Gs3 es3 Rs3 fz5_4 => ?_)
    obtain ⟨fz5_4, Qz5_4⟩ := fz5_4
    have E5 := (Ext.refl (b := b) (σ := σ)).trans es3
    have t_x := t_x.up es3
    have t_y := t_y.up es3
    have t_w := t_w.up es3
    refine wpN (Gs3.tg 23) (fun s6 ws6 => ?_)
    obtain ⟨Gs6, es6, Rs6, Fs6, Vs6⟩ := P0 Gs3 Qz5_4 ws6 (by decide) (by first | assumption | exact inR_of _ | exact ⟨by omega, by omega⟩) (by intro lo hi q; cases q <;> omega)
    have E7 := E5.trans es6
    have t_x := t_x.up es6
    have t_y := t_y.up es6
    have t_w := t_w.up es6
    refine wg t_x.tg (fun z7_8 hz7_8 => ?_)
    have rz7_8 : inR z7_8 := hz7_8 ▸ Gs6.ir _ _
    have fz7_8 : oid z7_8 := hz7_8 ▸ Gs6.ni t_x.tg
    have n7 : z7_8 ≠ 0 := hz7_8 ▸ Gs6.n1 t_x.tg t_x.2.1 t_x.2.2
    refine cl_Z (s_binder (k := k + 1) (s := s + 6) (o := o) (z := z) (by omega) Gs6 (Rs6.le (by omega) (by omega) (by omega) (by omega)) ⟨by omega, by omega⟩ (by first | assumption | exact ⟨by omega, by omega⟩) (by omega) t_y (by first | assumption | exact ref_R Gs6 Rs6 t_y.tg (by decide)) t_w (by first | assumption | exact ref_R Gs6 Rs6 t_w.tg (by decide))) (fun s9 z10_10 rz10_10 Gs9 es9 Rs9 fz10_10 => ?_)
    obtain ⟨t_z10_10, v0_z10_10, v6_z10_10, v7_z10_10, Fn_z10_10⟩ := fz10_10
    have E11 := E7.trans es9
    refine sf_t t_z10_10.tg ?_
    refine cl_Z (s_keepSorts (k := k + 1) (s := s + 6) (o := o) (z := z) (by omega) Gs9 (Rs9.le (by omega) (by omega) (by omega) (by omega)) t_z10_10.n (by first | assumption | exact inR_of _ | exact ⟨by omega, by omega⟩) (by first | assumption | exact inR_of _ | exact ⟨by omega, by omega⟩)) (fun s12 z13_13 rz13_13 Gs12 es12 Rs12 fz13_13 => ?_)
    have E14 := E11.trans es12
    have t_z10_10 := t_z10_10.up es12
    exact ret_O (by first | assumption | exact ref_R Gs12 Rs12 t_z10_10.tg (by decide) | exact ⟨by omega, by omega⟩) Gs12 E14 (Rs12.le (by omega) (by omega) (by omega) (by omega)) (by first | trivial | assumption | omega | (dsimp only; omega) | exact ⟨oB.n (by assumption), (Rs12.le (by omega) (by omega) (by omega) (by omega))⟩)
  · refine wgF (G.tg 23) (G.fi 30 (i := 23) (f := 3) (j := 2)) ?_
    refine wg t_x.tg (fun z15_16 hz15_16 => ?_)
    have rz15_16 : inR z15_16 := hz15_16 ▸ G.ir _ _
    refine wtN (G.tg 2) ?_
    refine cl_Z (s_set (k := k + 2) (s := s + 17) (o := o) (z := z) (by omega) G (R.le (by omega) (by omega) (by omega) (by omega)) ⟨by omega, by omega⟩ (by first | assumption | exact inR_of _ | exact ⟨by omega, by omega⟩)) (fun s17 z18_18 rz18_18 Gs17 es17 Rs17 fz18_18 => ?_)
    have E19 := (Ext.refl (b := b) (σ := σ)).trans es17
    exact thr_O Gs17 E19 (Rs17.le (by omega) (by omega) (by omega) (by omega))
end CJU
