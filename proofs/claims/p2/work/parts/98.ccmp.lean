section CCM
variable {bd : cBd} {b d : Nat} {σ σ1 σ2 σ3 : CS} {Q : CS → Nat → Int → Prop} {k s o z : Nat}
theorem s_compare190 (hc : ∀ {σ : CS} {k s o z : Nat} {x1 x2 x3 x4 l δ : Int}, 112 ≤ (d : Int) + δ → GG bd b σ → RR bd b σ (k + 1) (s + 6) o z → oN σ x1 → inR x1 → oL σ x2 → inR x2 → oN σ x3 → inR x3 → oL σ x4 → inR x4 → (0 ≤ l ∧ l ≤ δ) → δ ≤ 100 → sf (RC bd d 82 σ [((b + 16 : Nat) : Int), x1, x2, x3, x4, l, δ]) (PO bd b σ k s o z (fun σ' r => (r = 0 ∨ r = 1) ∧ RR bd b σ' (k + 1) (s + 6) o z))) {l δ : Int} (hd : 111 ≤ (d : Int) + δ) (hl : 0 ≤ l ∧ l ≤ δ) (hδ : δ < 100) : ∀ (n : Nat) {σ : CS} {m : Nat} {x9 x10 : Int}, GG bd b σ → RR bd b σ (k + 1) (s + 6) o z → oP σ x9 → inR x9 → pl σ m x10 → inR x10 → m < n → sf (pc_X4_compare_190 (RC bd d) bd n σ ((b + 16 : Nat) : Int) l δ x9 x10) (PO bd b σ k s o z (fun σ' r => (r = 0 ∨ r = 1) ∧ RR bd b σ' (k + 1) (s + 6) o z)) := by
  intro n
  induction n with
  | zero =>
    intro σ m x9 x10 G R t_x9 rx9 p_x10 rx10 hn
    omega
  | succ n ih =>
    intro σ m x9 x10 G R t_x9 rx9 p_x10 rx10 hn
    have t_x10 := p_x10.p
    unfold pc_X4_compare_190
    refine sf_if (fun c1 => ?_) (fun c1 => ?_)
    · refine sf_bo (by omega) ?_
      exact ret_O ⟨by decide, by decide⟩ G (Ext.refl (b := b) (σ := σ)) (R.le (by omega) (by omega) (by omega) (by omega)) (by first | trivial | assumption | omega | (dsimp only; omega) | exact ⟨by omega, (R.le (by omega) (by omega) (by omega) (by omega))⟩)
    · have t_x10 := t_x10.pos (by omega)
      obtain ⟨m0, rfl⟩ := p_x10.succ (by omega)
      refine sf_if (fun c2 => ?_) (fun c2 => ?_)
      · refine sf_bo (by omega) ?_
        exact ret_O ⟨by decide, by decide⟩ G (Ext.refl (b := b) (σ := σ)) (R.le (by omega) (by omega) (by omega) (by omega)) (by first | trivial | assumption | omega | (dsimp only; omega) | exact ⟨by omega, (R.le (by omega) (by omega) (by omega) (by omega))⟩)
      · have t_x9 := t_x9.pos (by omega)
        refine wg t_x10.tg (fun z3_3 hz3_3 => ?_)
        have rz3_3 : inR z3_3 := hz3_3 ▸ G.ir _ _
        have t_z3_3 : oN σ z3_3 := hz3_3 ▸ ((G.lkf t_x10.tg).2.2.2.2.2.2 t_x10.2.2).1
        refine wg t_x10.tg (fun z4_4 hz4_4 => ?_)
        have rz4_4 : inR z4_4 := hz4_4 ▸ G.ir _ _
        have t_z4_4 : oL σ z4_4 := hz4_4 ▸ (G.lkf t_x10.tg).2.2.1
        refine wg t_x9.tg (fun z5_5 hz5_5 => ?_)
        have rz5_5 : inR z5_5 := hz5_5 ▸ G.ir _ _
        have t_z5_5 : oN σ z5_5 := hz5_5 ▸ ((G.lkf t_x9.tg).2.2.2.2.2.2 t_x9.2.2).1
        refine wg t_x9.tg (fun z6_6 hz6_6 => ?_)
        have rz6_6 : inR z6_6 := hz6_6 ▸ G.ir _ _
        have t_z6_6 : oL σ z6_6 := hz6_6 ▸ (G.lkf t_x9.tg).2.2.1
        refine wck ⟨by omega, by omega⟩ (fun z7_7 hz7_7 => ?_)
        refine wtN (G.tg 16) ?_
        refine cl_O (hc (k := k) (s := s) (o := o) (z := z) (by omega) G (R.le (by omega) (by omega) (by omega) (by omega)) t_z3_3 (by first | assumption | exact ref_R G R t_z3_3.tg (by decide)) t_z4_4 (by first | assumption | exact ref_R G R t_z4_4.tg (by decide)) t_z5_5 (by first | assumption | exact ref_R G R t_z5_5.tg (by decide)) t_z6_6 (by first | assumption | exact ref_R G R t_z6_6.tg (by decide)) ⟨by omega, by omega⟩ (by omega)) (Ext.refl (b := b) (σ := σ)) (by omega) (by omega) (by omega) (by omega) (fun s8 z10_9 rz10_9 Gs8 es8 Rs8 fz10_9 => ?_)
        obtain ⟨fz10_9, Qz10_9⟩ := fz10_9
        have E10 := (Ext.refl (b := b) (σ := σ)).trans es8
        have t_x9 := t_x9.up es8
        have t_x10 := t_x10.up es8
        have p_x10 := p_x10.up es8
        refine sf_if (fun c11 => ?_) (fun c11 => ?_)
        · refine wg t_x9.tg (fun z12_12 hz12_12 => ?_)
          have rz12_12 : inR z12_12 := hz12_12 ▸ Gs8.ir _ _
          have fz12_12 : z12_12 < ((x9).toNat : Int) := hz12_12 ▸ (Gs8.lkf t_x9.tg).2.2.2.2.2.1
          have t_z12_12 : oP s8 z12_12 := hz12_12 ▸ ((Gs8.lkf t_x9.tg).2.2.2.2.2.2 t_x9.2.2).2
          refine wg t_x10.tg (fun z13_13 hz13_13 => ?_)
          have rz13_13 : inR z13_13 := hz13_13 ▸ Gs8.ir _ _
          have fz13_13 : z13_13 < ((x10).toNat : Int) := hz13_13 ▸ (Gs8.lkf t_x10.tg).2.2.2.2.2.1
          have t_z13_13 : oP s8 z13_13 := hz13_13 ▸ ((Gs8.lkf t_x10.tg).2.2.2.2.2.2 t_x10.2.2).2
          have p_13 : pl s8 m0 z13_13 := hz13_13 ▸ p_x10.2
          exact tr_O E10 (ih Gs8 Qz10_9 t_z12_12 (by first | assumption | exact ref_R Gs8 Qz10_9 t_z12_12.tg (by decide)) p_13 (by first | assumption | exact ref_R Gs8 Qz10_9 t_z13_13.tg (by decide)) (by omega))
        · refine sf_bo (by omega) ?_
          exact ret_O ⟨by decide, by decide⟩ Gs8 E10 (Qz10_9.le (by omega) (by omega) (by omega) (by omega)) (by first | trivial | assumption | omega | (dsimp only; omega) | exact ⟨by omega, (Qz10_9.le (by omega) (by omega) (by omega) (by omega))⟩)
theorem s_compare : ∀ (d : Nat), ∀ {σ : CS} {k s o z : Nat} {x1 x2 x3 x4 l δ : Int}, 112 ≤ (d : Int) + δ → GG bd b σ → RR bd b σ (k + 1) (s + 6) o z → oN σ x1 → inR x1 → oL σ x2 → inR x2 → oN σ x3 → inR x3 → oL σ x4 → inR x4 → (0 ≤ l ∧ l ≤ δ) → δ ≤ 100 → sf (RC bd d 82 σ [((b + 16 : Nat) : Int), x1, x2, x3, x4, l, δ]) (PO bd b σ k s o z (fun σ' r => (r = 0 ∨ r = 1) ∧ RR bd b σ' (k + 1) (s + 6) o z)) := by
  intro d
  induction d with
  | zero =>
    intro σ k s o z x1 x2 x3 x4 l δ hd G R t_x1 rx1 t_x2 rx2 t_x3 rx3 t_x4 rx4 hl hδ
    omega
  | succ d hc =>
    intro σ k s o z x1 x2 x3 x4 l δ hd G R t_x1 rx1 t_x2 rx2 t_x3 rx3 t_x4 rx4 hl hδ
    rw [rc_X4_compare (by omega)]
    refine fin_O ?_
    unfold pc_X4_compare_0
    refine wtN (G.tg 16) ?_
    refine cl_O (s_look (k := k) (s := s) (o := o) (z := z) (by omega) G (R.le (by omega) (by omega) (by omega) (by omega))) (Ext.refl (b := b) (σ := σ)) (by omega) (by omega) (by omega) (by omega) (fun s1 z3_2 rz3_2 Gs1 es1 Rs1 fz3_2 => ?_)
    obtain ⟨Qz3_2, Dz3_2⟩ := fz3_2
    have E3 := (Ext.refl (b := b) (σ := σ)).trans es1
    have t_x1 := t_x1.up es1
    have t_x2 := t_x2.up es1
    have t_x3 := t_x3.up es1
    have t_x4 := t_x4.up es1
    refine wtN (Gs1.tg 16) ?_
    refine cl_O (s_head (k := k + 5) (s := s + 56) (o := o + 40) (z := z) (by omega) Gs1 (Qz3_2.le (by omega) (by omega) (by omega) (by omega)) t_x1 (by first | assumption | exact ref_R Gs1 Qz3_2 t_x1.tg (by decide)) t_x2 (by first | assumption | exact ref_R Gs1 Qz3_2 t_x2.tg (by decide))) E3 (by omega) (by omega) (by omega) (by omega) (fun s4 z6_5 rz6_5 Gs4 es4 Rs4 fz6_5 => ?_)
    obtain ⟨m_z6_5, Hz6_5, q_z6_5, Qz6_5, k5_z6_5⟩ := fz6_5
    have t_z6_5 := Hz6_5.1
    have E6 := E3.trans es4
    have t_x3 := t_x3.up es4
    have t_x4 := t_x4.up es4
    refine wtN (Gs4.tg 16) ?_
    refine cl_O (s_head (k := k + 4) (s := s + 52 + m_z6_5) (o := o + 40 + m_z6_5) (z := z) (by omega) Gs4 (Qz6_5.le (by omega) (by omega) (by omega) (by omega)) t_x3 (by first | assumption | exact ref_R Gs4 Qz6_5 t_x3.tg (by decide)) t_x4 (by first | assumption | exact ref_R Gs4 Qz6_5 t_x4.tg (by decide))) E6 (by omega) (by omega) (by omega) (by omega) (fun s7 z9_8 rz9_8 Gs7 es7 Rs7 fz9_8 => ?_)
    obtain ⟨m_z9_8, Hz9_8, q_z9_8, Qz9_8, k5_z9_8⟩ := fz9_8
    have t_z9_8 := Hz9_8.1
    have E9 := E6.trans es7
    have t_z6_5 := t_z6_5.up es7
    have Hz6_5 := Hz6_5.up es7
    refine wg t_z6_5.tg (fun z10_10 hz10_10 => ?_)
    have rz10_10 : inR z10_10 := hz10_10 ▸ Gs7.ir _ _
    have t_z10_10 : oN s7 z10_10 := hz10_10 ▸ (Gs7.hdf t_z6_5.tg).1
    refine wg t_z10_10.tg (fun z11_11 hz11_11 => ?_)
    have rz11_11 : inR z11_11 := hz11_11 ▸ Gs7.ir _ _
    have fz11_11 := Gs7.kd t_z10_10.tg
    rw [hz11_11] at fz11_11
    refine wg t_z9_8.tg (fun z12_12 hz12_12 => ?_)
    have rz12_12 : inR z12_12 := hz12_12 ▸ Gs7.ir _ _
    have t_z12_12 : oN s7 z12_12 := hz12_12 ▸ (Gs7.hdf t_z9_8.tg).1
    refine wg t_z12_12.tg (fun z13_13 hz13_13 => ?_)
    have rz13_13 : inR z13_13 := hz13_13 ▸ Gs7.ir _ _
    have fz13_13 := Gs7.kd t_z12_12.tg
    rw [hz13_13] at fz13_13
    refine sf_if (fun c14 => ?_) (fun c14 => ?_)
    · refine sf_t t_z6_5.tg ?_
      refine cl_U (s_isBinder (by omega) Gs7 t_z6_5) (fun z17_16 rz17_16 fz17_16 => ?_)
      refine sf_if (fun c17 => ?_) (fun c17 => ?_)
      · refine wg t_z6_5.tg (fun z19_18 hz19_18 => ?_)
        have rz19_18 : inR z19_18 := hz19_18 ▸ Gs7.ir _ _
        have fz19_18 : oid z19_18 := hz19_18 ▸ (Gs7.hdf t_z6_5.tg).2.1
        refine wg t_z9_8.tg (fun z20_19 hz20_19 => ?_)
        have rz20_19 : inR z20_19 := hz20_19 ▸ Gs7.ir _ _
        have fz20_19 : oid z20_19 := hz20_19 ▸ (Gs7.hdf t_z9_8.tg).2.1
        refine sf_if (fun c20 => ?_) (fun c20 => ?_)
        · refine sf_bo (by omega) ?_
          exact ret_O ⟨by decide, by decide⟩ Gs7 E9 (Qz9_8.le (by omega) (by omega) (by omega) (by omega)) (by first | trivial | assumption | omega | (dsimp only; omega) | exact ⟨by omega, (Qz9_8.le (by omega) (by omega) (by omega) (by omega))⟩)
        · refine wg t_z6_5.tg (fun z22_21 hz22_21 => ?_)
          have rz22_21 : inR z22_21 := hz22_21 ▸ Gs7.ir _ _
          have t_z22_21 : oP s7 z22_21 := hz22_21 ▸ (Gs7.hdf t_z6_5.tg).2.2.2
          refine cl_U (s_lengthOf (by omega) Gs7 (hz22_21 ▸ Hz6_5.2) (by omega)) (fun z25_23 rz25_23 fz25_23 => ?_)
          refine wg t_z9_8.tg (fun z26_24 hz26_24 => ?_)
          have rz26_24 : inR z26_24 := hz26_24 ▸ Gs7.ir _ _
          have t_z26_24 : oP s7 z26_24 := hz26_24 ▸ (Gs7.hdf t_z9_8.tg).2.2.2
          refine cl_U (s_lengthOf (by omega) Gs7 (hz26_24 ▸ Hz9_8.2) (by omega)) (fun z29_26 rz29_26 fz29_26 => ?_)
          refine sf_if (fun c27 => ?_) (fun c27 => ?_)
          · refine wg t_z9_8.tg (fun z31_28 hz31_28 => ?_)
            have rz31_28 : inR z31_28 := hz31_28 ▸ Gs7.ir _ _
            have t_z31_28 : oP s7 z31_28 := hz31_28 ▸ (Gs7.hdf t_z9_8.tg).2.2.2
            refine wg t_z6_5.tg (fun z32_29 hz32_29 => ?_)
            have rz32_29 : inR z32_29 := hz32_29 ▸ Gs7.ir _ _
            have t_z32_29 : oP s7 z32_29 := hz32_29 ▸ (Gs7.hdf t_z6_5.tg).2.2.2
            exact tr_O E9 (s_compare190 hc (by omega) hl (by omega) _ Gs7 (Qz9_8.le (by omega) (by omega) (by omega) (by omega)) t_z31_28 (by first | assumption | exact ref_R Gs7 Qz9_8 t_z31_28.tg (by decide)) (hz32_29 ▸ Hz6_5.2) (by first | assumption | exact ref_R Gs7 Qz9_8 t_z32_29.tg (by decide)) (by omega))
          · refine sf_bo (by omega) ?_
            exact ret_O ⟨by decide, by decide⟩ Gs7 E9 (Qz9_8.le (by omega) (by omega) (by omega) (by omega)) (by first | trivial | assumption | omega | (dsimp only; omega) | exact ⟨by omega, (Qz9_8.le (by omega) (by omega) (by omega) (by omega))⟩)
      · rw [hz10_10, hz11_11] at fz17_16
        have b6 : oB s7 z10_10 := ⟨t_z10_10, by omega, by omega⟩
        have b9 : oB s7 z12_12 := ⟨t_z12_12, by omega, by omega⟩
        have q6 : oHB s7 z6_5 := ⟨t_z6_5, by rw [hz10_10]; exact b6⟩
        have q9 : oHB s7 z9_8 := ⟨t_z9_8, by rw [hz12_12]; exact b9⟩
        refine wg t_z6_5.tg (fun z33_30 hz33_30 => ?_)
        have rz33_30 : inR z33_30 := hz33_30 ▸ Gs7.ir _ _
        have t_z33_30 : oN s7 z33_30 := hz33_30 ▸ (Gs7.hdf t_z6_5.tg).1
        have t_z33_30 : oB s7 z33_30 := hz33_30 ▸ q6.2
        refine wg t_z33_30.tg (fun z34_31 hz34_31 => ?_)
        have rz34_31 : inR z34_31 := hz34_31 ▸ Gs7.ir _ _
        have t_z34_31 : oN s7 z34_31 := hz34_31 ▸ Gs7.n6 t_z33_30.tg t_z33_30.2.1
        refine wg t_z6_5.tg (fun z35_32 hz35_32 => ?_)
        have rz35_32 : inR z35_32 := hz35_32 ▸ Gs7.ir _ _
        have t_z35_32 : oL s7 z35_32 := hz35_32 ▸ (Gs7.hdf t_z6_5.tg).2.2.1
        refine wg t_z9_8.tg (fun z36_33 hz36_33 => ?_)
        have rz36_33 : inR z36_33 := hz36_33 ▸ Gs7.ir _ _
        have t_z36_33 : oN s7 z36_33 := hz36_33 ▸ (Gs7.hdf t_z9_8.tg).1
        have t_z36_33 : oB s7 z36_33 := hz36_33 ▸ q9.2
        refine wg t_z36_33.tg (fun z37_34 hz37_34 => ?_)
        have rz37_34 : inR z37_34 := hz37_34 ▸ Gs7.ir _ _
        have t_z37_34 : oN s7 z37_34 := hz37_34 ▸ Gs7.n6 t_z36_33.tg t_z36_33.2.1
        refine wg t_z9_8.tg (fun z38_35 hz38_35 => ?_)
        have rz38_35 : inR z38_35 := hz38_35 ▸ Gs7.ir _ _
        have t_z38_35 : oL s7 z38_35 := hz38_35 ▸ (Gs7.hdf t_z9_8.tg).2.2.1
        refine wck ⟨by omega, by omega⟩ (fun z39_36 hz39_36 => ?_)
        refine wtN (Gs7.tg 16) ?_
        refine cl_O (hc (k := k + 4) (s := s + 52 + m_z6_5 + m_z9_8) (o := o + 40 + m_z6_5 + m_z9_8) (z := z) (by omega) Gs7 (Qz9_8.le (by omega) (by omega) (by omega) (by omega)) t_z34_31 (by first | assumption | exact ref_R Gs7 Qz9_8 t_z34_31.tg (by decide)) t_z35_32 (by first | assumption | exact ref_R Gs7 Qz9_8 t_z35_32.tg (by decide)) t_z37_34 (by first | assumption | exact ref_R Gs7 Qz9_8 t_z37_34.tg (by decide)) t_z38_35 (by first | assumption | exact ref_R Gs7 Qz9_8 t_z38_35.tg (by decide)) ⟨by omega, by omega⟩ (by omega)) E9 (by omega) (by omega) (by omega) (by omega) (fun s37 z42_38 rz42_38 Gs37 es37 Rs37 fz42_38 => ?_)
        obtain ⟨fz42_38, Qz42_38⟩ := fz42_38
        have E39 := E9.trans es37
        have t_z6_5 := t_z6_5.up es37
        have t_z9_8 := t_z9_8.up es37
        have Hz6_5 := Hz6_5.up es37
        have Hz9_8 := Hz9_8.up es37
        have q6 := q6.up es37
        have q9 := q9.up es37
        refine sf_if (fun c40 => ?_) (fun c40 => ?_)
        · refine sf_bo (by omega) ?_
          exact ret_O ⟨by decide, by decide⟩ Gs37 E39 (Qz42_38.le (by omega) (by omega) (by omega) (by omega)) (by first | trivial | assumption | omega | (dsimp only; omega) | exact ⟨by omega, (Qz42_38.le (by omega) (by omega) (by omega) (by omega))⟩)
        · refine wg t_z6_5.tg (fun z44_41 hz44_41 => ?_)
          have rz44_41 : inR z44_41 := hz44_41 ▸ Gs37.ir _ _
          have t_z44_41 : oN s37 z44_41 := hz44_41 ▸ (Gs37.hdf t_z6_5.tg).1
          have t_z44_41 : oB s37 z44_41 := hz44_41 ▸ q6.2
          refine wg t_z44_41.tg (fun z45_42 hz45_42 => ?_)
          have rz45_42 : inR z45_42 := hz45_42 ▸ Gs37.ir _ _
          have t_z45_42 : oN s37 z45_42 := hz45_42 ▸ Gs37.n7 t_z44_41.tg t_z44_41.2.1 t_z44_41.2.2
          refine sf_t t_z6_5.tg ?_
          refine cl_Z (s_envOfSecond (k := k + 4) (s := s + 53 + m_z6_5 + m_z9_8) (o := o + 40 + m_z6_5 + m_z9_8) (z := z) (by omega) Gs37 (Qz42_38.le (by omega) (by omega) (by omega) (by omega)) t_z6_5 q6.2 ⟨by omega, by omega⟩) (fun s43 z48_44 rz48_44 Gs43 es43 Rs43 fz48_44 => ?_)
          obtain ⟨t_z48_44, v_z48_44⟩ := fz48_44
          have E45 := E39.trans es43
          have t_z9_8 := t_z9_8.up es43
          have t_z45_42 := t_z45_42.up es43
          have Hz6_5 := Hz6_5.up es43
          have Hz9_8 := Hz9_8.up es43
          have q6 := q6.up es43
          have q9 := q9.up es43
          refine wg t_z9_8.tg (fun z49_46 hz49_46 => ?_)
          have rz49_46 : inR z49_46 := hz49_46 ▸ Gs43.ir _ _
          have t_z49_46 : oN s43 z49_46 := hz49_46 ▸ (Gs43.hdf t_z9_8.tg).1
          have t_z49_46 : oB s43 z49_46 := hz49_46 ▸ q9.2
          refine wg t_z49_46.tg (fun z50_47 hz50_47 => ?_)
          have rz50_47 : inR z50_47 := hz50_47 ▸ Gs43.ir _ _
          have t_z50_47 : oN s43 z50_47 := hz50_47 ▸ Gs43.n7 t_z49_46.tg t_z49_46.2.1 t_z49_46.2.2
          refine sf_t t_z9_8.tg ?_
          refine cl_Z (s_envOfSecond (k := k + 3) (s := s + 48 + m_z6_5 + m_z9_8) (o := o + 40 + m_z6_5 + m_z9_8) (z := z) (by omega) Gs43 (Rs43.le (by omega) (by omega) (by omega) (by omega)) t_z9_8 q9.2 ⟨by omega, by omega⟩) (fun s48 z53_49 rz53_49 Gs48 es48 Rs48 fz53_49 => ?_)
          obtain ⟨t_z53_49, v_z53_49⟩ := fz53_49
          have E50 := E45.trans es48
          have t_z45_42 := t_z45_42.up es48
          have t_z48_44 := t_z48_44.up es48
          have t_z50_47 := t_z50_47.up es48
          have Hz6_5 := Hz6_5.up es48
          have Hz9_8 := Hz9_8.up es48
          have q6 := q6.up es48
          have q9 := q9.up es48
          refine wck ⟨by omega, by omega⟩ (fun z54_51 hz54_51 => ?_)
          refine wck ⟨by omega, by omega⟩ (fun z55_52 hz55_52 => ?_)
          refine wtN (Gs48.tg 16) ?_
          refine cl_O (hc (k := k + 2) (s := s + 42 + m_z6_5 + m_z9_8) (o := o + 40 + m_z6_5 + m_z9_8) (z := z) (by omega) Gs48 (Rs48.le (by omega) (by omega) (by omega) (by omega)) t_z45_42 (by first | assumption | exact ref_R Gs48 Rs48 t_z45_42.tg (by decide)) t_z48_44.l (by first | assumption | exact ref_R Gs48 Rs48 t_z48_44.tg (by decide)) t_z50_47 (by first | assumption | exact ref_R Gs48 Rs48 t_z50_47.tg (by decide)) t_z53_49.l (by first | assumption | exact ref_R Gs48 Rs48 t_z53_49.tg (by decide)) ⟨by omega, by omega⟩ (by omega)) E50 (by omega) (by omega) (by omega) (by omega) (fun s53 z58_54 rz58_54 Gs53 es53 Rs53 fz58_54 => ?_)
          obtain ⟨fz58_54, Qz58_54⟩ := fz58_54
          have E55 := E50.trans es53
          have Hz6_5 := Hz6_5.up es53
          have Hz9_8 := Hz9_8.up es53
          have q6 := q6.up es53
          have q9 := q9.up es53
          refine sf_if (fun c56 => ?_) (fun c56 => ?_)
          · refine sf_bo (by omega) ?_
            exact ret_O ⟨by decide, by decide⟩ Gs53 E55 (Qz58_54.le (by omega) (by omega) (by omega) (by omega)) (by first | trivial | assumption | omega | (dsimp only; omega) | exact ⟨by omega, (Qz58_54.le (by omega) (by omega) (by omega) (by omega))⟩)
          · refine sf_bo (by omega) ?_
            exact ret_O ⟨by decide, by decide⟩ Gs53 E55 (Qz58_54.le (by omega) (by omega) (by omega) (by omega)) (by first | trivial | assumption | omega | (dsimp only; omega) | exact ⟨by omega, (Qz58_54.le (by omega) (by omega) (by omega) (by omega))⟩)
    · refine sf_bo (by omega) ?_
      exact ret_O ⟨by decide, by decide⟩ Gs7 E9 (Qz9_8.le (by omega) (by omega) (by omega) (by omega)) (by first | trivial | assumption | omega | (dsimp only; omega) | exact ⟨by omega, (Qz9_8.le (by omega) (by omega) (by omega) (by omega))⟩)
theorem s_areSame (hd : 113 ≤ d) (G : GG bd b σ) (R : RR bd b σ (k + 1) (s + 6) (o) (z)) {x y : Int} (t_x : oN σ x) (rx : inR x) (t_y : oN σ y) (ry : inR y) : sf (RC bd d 80 σ [((b + 16 : Nat) : Int), x, y]) (PO bd b σ k s o z (fun σ' r => (r = 0 ∨ r = 1) ∧ RR bd b σ' (k + 1) (s + 6) o z)) := by
  obtain ⟨d, rfl⟩ : ∃ d0, d = d0 + 1 := ⟨d - 1, by omega⟩
  rw [rc_X4_areSame (by omega)]
  refine fin_O ?_
  unfold pc_X4_areSame_0
  refine wtN (G.tg 16) ?_
  refine cl_O (s_compare _ (k := k) (s := s) (o := o) (z := z) (by omega) G (R.le (by omega) (by omega) (by omega) (by omega)) t_x (by first | assumption | exact ref_R G R t_x.tg (by decide)) (oL.nul (by decide)) ⟨by decide, by decide⟩ t_y (by first | assumption | exact ref_R G R t_y.tg (by decide)) (oL.nul (by decide)) ⟨by decide, by decide⟩ ⟨by omega, by omega⟩ (by omega)) (Ext.refl (b := b) (σ := σ)) (by omega) (by omega) (by omega) (by omega) (fun s1 z3_2 rz3_2 Gs1 es1 Rs1 fz3_2 => ?_)
  obtain ⟨fz3_2, Qz3_2⟩ := fz3_2
  have E3 := (Ext.refl (b := b) (σ := σ)).trans es1
  refine sf_bo (by omega) ?_
  exact ret_O (by first | assumption | exact inR_of _ | exact ⟨by omega, by omega⟩) Gs1 E3 (Qz3_2.le (by omega) (by omega) (by omega) (by omega)) (by first | trivial | assumption | omega | (dsimp only; omega) | exact ⟨by omega, (Qz3_2.le (by omega) (by omega) (by omega) (by omega))⟩)
end CCM
