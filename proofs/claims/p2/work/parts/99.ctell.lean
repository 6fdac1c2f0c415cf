section CTE
variable {bd : cBd} {b d : Nat} {σ σ1 σ2 σ3 : CS} {Q : CS → Nat → Int → Prop} {k s o z : Nat}
theorem s_tell164 (hc : ∀ {σ : CS} {k s o z : Nat} {x1 x2 l δ β : Int}, 112 ≤ (d : Int) + δ → GG bd b σ → RR bd b σ (k + 1) (s + 6) o z → oN σ x1 → inR x1 → oL σ x2 → inR x2 → (0 ≤ l ∧ l ≤ δ) → δ ≤ 100 → sf (RC bd d 94 σ [((b + 16 : Nat) : Int), x1, x2, l, δ, β]) (PO bd b σ k s o z (fun σ' _ => RR bd b σ' (k + 1) (s + 6) o z))) {l δ : Int} (hd : 111 ≤ (d : Int) + δ) (hl : 0 ≤ l ∧ l ≤ δ) (hδ : δ < 100) : ∀ (n : Nat) {σ : CS} {m : Nat} {x8 x9 : Int}, GG bd b σ → RR bd b σ (k + 1) (s + 6) (o + 1 + m) z → pl σ m x9 → inR x9 → m < n → sf (pc_X4_tell_164 (RC bd d) bd n σ ((b + 16 : Nat) : Int) l δ x8 x9) (PO bd b σ k s o z (fun σ' _ => RR bd b σ' (k + 1) (s + 6) o z)) := by
  intro n
  induction n with
  | zero =>
    intro σ m x8 x9 G R p_x9 rx9 hn
    omega
  | succ n ih =>
    intro σ m x8 x9 G R p_x9 rx9 hn
    have t_x9 := p_x9.p
    unfold pc_X4_tell_164
    refine sf_if (fun c1 => ?_) (fun c1 => ?_)
    · unfold pc_X4_tell_205
      refine sf_if (fun c2 => ?_) (fun c2 => ?_)
      · exact ret_O ⟨by decide, by decide⟩ G (Ext.refl (b := b) (σ := σ)) (R.le (by omega) (by omega) (by omega) (by omega)) (by first | trivial | assumption | omega | (dsimp only; omega) | exact (R.le (by omega) (by omega) (by omega) (by omega)))
      · refine wtN (G.tg 16) ?_
        refine cl_Z (s_put (k := k + 1) (s := s + 6) (o := o) (z := z) (by omega) G (R.le (by omega) (by omega) (by omega) (by omega))) (fun s3 z4_4 rz4_4 Gs3 es3 Rs3 fz4_4 => ?_)
        have E5 := (Ext.refl (b := b) (σ := σ)).trans es3
        have p_x9 := p_x9.up es3
        exact ret_O ⟨by decide, by decide⟩ Gs3 E5 (Rs3.le (by omega) (by omega) (by omega) (by omega)) (by first | trivial | assumption | omega | (dsimp only; omega) | exact (Rs3.le (by omega) (by omega) (by omega) (by omega)))
    · have t_x9 := t_x9.pos (by omega)
      obtain ⟨m0, rfl⟩ := p_x9.succ (by omega)
      refine wtN (G.tg 16) ?_
      refine cl_Z (s_put (k := k + 1) (s := s + 6) (o := o + 1 + m0) (z := z) (by omega) G (R.le (by omega) (by omega) (by omega) (by omega))) (fun s6 z4_7 rz4_7 Gs6 es6 Rs6 fz4_7 => ?_)
      have E8 := (Ext.refl (b := b) (σ := σ)).trans es6
      have t_x9 := t_x9.up es6
      have p_x9 := p_x9.up es6
      refine wg t_x9.tg (fun z5_9 hz5_9 => ?_)
      have rz5_9 : inR z5_9 := hz5_9 ▸ Gs6.ir _ _
      have t_z5_9 : oN s6 z5_9 := hz5_9 ▸ ((Gs6.lkf t_x9.tg).2.2.2.2.2.2 t_x9.2.2).1
      refine wg t_x9.tg (fun z6_10 hz6_10 => ?_)
      have rz6_10 : inR z6_10 := hz6_10 ▸ Gs6.ir _ _
      have t_z6_10 : oL s6 z6_10 := hz6_10 ▸ (Gs6.lkf t_x9.tg).2.2.1
      refine wck ⟨by omega, by omega⟩ (fun z7_11 hz7_11 => ?_)
      refine wtN (Gs6.tg 16) ?_
      refine cl_O (hc (k := k) (s := s) (o := o + 1 + m0) (z := z) (by omega) Gs6 (Rs6.le (by omega) (by omega) (by omega) (by omega)) t_z5_9 (by first | assumption | exact ref_R Gs6 Rs6 t_z5_9.tg (by decide)) t_z6_10 (by first | assumption | exact ref_R Gs6 Rs6 t_z6_10.tg (by decide)) ⟨by omega, by omega⟩ (by omega)) E8 (by omega) (by omega) (by omega) (by omega) (fun s12 z10_13 rz10_13 Gs12 es12 Rs12 fz10_13 => ?_)
      have Qz10_13 := fz10_13
      have E14 := E8.trans es12
      have t_x9 := t_x9.up es12
      have p_x9 := p_x9.up es12
      refine wg t_x9.tg (fun z11_15 hz11_15 => ?_)
      have rz11_15 : inR z11_15 := hz11_15 ▸ Gs12.ir _ _
      have fz11_15 : z11_15 < ((x9).toNat : Int) := hz11_15 ▸ (Gs12.lkf t_x9.tg).2.2.2.2.2.1
      have t_z11_15 : oP s12 z11_15 := hz11_15 ▸ ((Gs12.lkf t_x9.tg).2.2.2.2.2.2 t_x9.2.2).2
      have p_11 : pl s12 m0 z11_15 := hz11_15 ▸ p_x9.2
      exact tr_O E14 (ih Gs12 Qz10_13 p_11 (by first | assumption | exact ref_R Gs12 Qz10_13 t_z11_15.tg (by decide)) (by omega))
theorem s_tell : ∀ (d : Nat), ∀ {σ : CS} {k s o z : Nat} {x1 x2 l δ β : Int}, 112 ≤ (d : Int) + δ → GG bd b σ → RR bd b σ (k + 1) (s + 6) o z → oN σ x1 → inR x1 → oL σ x2 → inR x2 → (0 ≤ l ∧ l ≤ δ) → δ ≤ 100 → sf (RC bd d 94 σ [((b + 16 : Nat) : Int), x1, x2, l, δ, β]) (PO bd b σ k s o z (fun σ' _ => RR bd b σ' (k + 1) (s + 6) o z)) := by
  intro d
  induction d with
  | zero =>
    intro σ k s o z x1 x2 l δ β hd G R t_x1 rx1 t_x2 rx2 hl hδ
    omega
  | succ d hc =>
    intro σ k s o z x1 x2 l δ β hd G R t_x1 rx1 t_x2 rx2 hl hδ
    rw [rc_X4_tell (by omega)]
    refine fin_O ?_
    unfold pc_X4_tell_0
    refine wtN (G.tg 16) ?_
    refine cl_O (s_look (k := k) (s := s) (o := o) (z := z) (by omega) G (R.le (by omega) (by omega) (by omega) (by omega))) (Ext.refl (b := b) (σ := σ)) (by omega) (by omega) (by omega) (by omega) (fun s1 z3_2 rz3_2 Gs1 es1 Rs1 fz3_2 => ?_)
    obtain ⟨Qz3_2, Dz3_2⟩ := fz3_2
    have E3 := (Ext.refl (b := b) (σ := σ)).trans es1
    have t_x1 := t_x1.up es1
    have t_x2 := t_x2.up es1
    refine wtN (Gs1.tg 16) ?_
    refine cl_O (s_head (k := k + 5) (s := s + 56) (o := o + 40) (z := z) (by omega) Gs1 (Qz3_2.le (by omega) (by omega) (by omega) (by omega)) t_x1 (by first | assumption | exact ref_R Gs1 Qz3_2 t_x1.tg (by decide)) t_x2 (by first | assumption | exact ref_R Gs1 Qz3_2 t_x2.tg (by decide))) E3 (by omega) (by omega) (by omega) (by omega) (fun s4 z6_5 rz6_5 Gs4 es4 Rs4 fz6_5 => ?_)
    obtain ⟨m_z6_5, Hz6_5, q_z6_5, Qz6_5, k5_z6_5⟩ := fz6_5
    have t_z6_5 := Hz6_5.1
    have E6 := E3.trans es4
    refine sf_t t_z6_5.tg ?_
    refine cl_U (s_isBinder (by omega) Gs4 t_z6_5) (fun z9_8 rz9_8 fz9_8 => ?_)
    refine sf_if (fun c9 => ?_) (fun c9 => ?_)
    · refine sf_if (fun c10 => ?_) (fun c10 => ?_)
      · unfold pc_X4_tell_57
        unfold pc_X4_tell_58
        refine sf_if (fun c11 => ?_) (fun c11 => ?_)
        · unfold pc_X4_tell_71
          refine wtN (Gs4.tg 16) ?_
          refine cl_Z (s_putFront (k := k + 6) (s := s + 62 + m_z6_5) (o := o + 28 + m_z6_5) (z := z) (by omega) Gs4 (Qz6_5.le (by omega) (by omega) (by omega) (by omega)) t_z6_5) (fun s12 z3_13 rz3_13 Gs12 es12 Rs12 fz3_13 => ?_)
          have E14 := E6.trans es12
          have t_z6_5 := t_z6_5.up es12
          have Hz6_5 := Hz6_5.up es12
          refine sf_if (fun c15 => ?_) (fun c15 => ?_)
          · refine wg t_z6_5.tg (fun z5_16 hz5_16 => ?_)
            have rz5_16 : inR z5_16 := hz5_16 ▸ Gs12.ir _ _
            have t_z5_16 : oP s12 z5_16 := hz5_16 ▸ (Gs12.hdf t_z6_5.tg).2.2.2
            exact tr_O E14 (s_tell164 hc (by omega) hl (by omega) _ Gs12 (Rs12.le (by omega) (by omega) (by omega) (by omega)) (hz5_16 ▸ Hz6_5.2) (by first | assumption | exact ref_R Gs12 Rs12 t_z5_16.tg (by decide)) (by omega))
          · exfalso; omega
        · refine wtN (Gs4.tg 16) ?_
          refine cl_Z (s_put (k := k + 6) (s := s + 62 + m_z6_5) (o := o + 39 + m_z6_5) (z := z) (by omega) Gs4 (Qz6_5.le (by omega) (by omega) (by omega) (by omega))) (fun s17 z4_18 rz4_18 Gs17 es17 Rs17 fz4_18 => ?_)
          have E19 := E6.trans es17
          have t_z6_5 := t_z6_5.up es17
          have Hz6_5 := Hz6_5.up es17
          unfold pc_X4_tell_71
          refine wtN (Gs17.tg 16) ?_
          refine cl_Z (s_putFront (k := k + 6) (s := s + 62 + m_z6_5) (o := o + 27 + m_z6_5) (z := z) (by omega) Gs17 (Rs17.le (by omega) (by omega) (by omega) (by omega)) t_z6_5) (fun s20 z3_21 rz3_21 Gs20 es20 Rs20 fz3_21 => ?_)
          have E22 := E19.trans es20
          have t_z6_5 := t_z6_5.up es20
          have Hz6_5 := Hz6_5.up es20
          refine sf_if (fun c23 => ?_) (fun c23 => ?_)
          · refine wg t_z6_5.tg (fun z5_24 hz5_24 => ?_)
            have rz5_24 : inR z5_24 := hz5_24 ▸ Gs20.ir _ _
            have t_z5_24 : oP s20 z5_24 := hz5_24 ▸ (Gs20.hdf t_z6_5.tg).2.2.2
            exact tr_O E22 (s_tell164 hc (by omega) hl (by omega) _ Gs20 (Rs20.le (by omega) (by omega) (by omega) (by omega)) (hz5_24 ▸ Hz6_5.2) (by first | assumption | exact ref_R Gs20 Rs20 t_z5_24.tg (by decide)) (by omega))
          · exfalso; omega
      · refine wg t_z6_5.tg (fun z12_25 hz12_25 => ?_)
        have rz12_25 : inR z12_25 := hz12_25 ▸ Gs4.ir _ _
        have t_z12_25 : oP s4 z12_25 := hz12_25 ▸ (Gs4.hdf t_z6_5.tg).2.2.2
        refine sf_if (fun c26 => ?_) (fun c26 => ?_)
        · unfold pc_X4_tell_57
          unfold pc_X4_tell_58
          refine sf_if (fun c27 => ?_) (fun c27 => ?_)
          · unfold pc_X4_tell_71
            refine wtN (Gs4.tg 16) ?_
            refine cl_Z (s_putFront (k := k + 6) (s := s + 62 + m_z6_5) (o := o + 28 + m_z6_5) (z := z) (by omega) Gs4 (Qz6_5.le (by omega) (by omega) (by omega) (by omega)) t_z6_5) (fun s28 z3_29 rz3_29 Gs28 es28 Rs28 fz3_29 => ?_)
            have E30 := E6.trans es28
            have t_z6_5 := t_z6_5.up es28
            have Hz6_5 := Hz6_5.up es28
            refine sf_if (fun c31 => ?_) (fun c31 => ?_)
            · refine wg t_z6_5.tg (fun z5_32 hz5_32 => ?_)
              have rz5_32 : inR z5_32 := hz5_32 ▸ Gs28.ir _ _
              have t_z5_32 : oP s28 z5_32 := hz5_32 ▸ (Gs28.hdf t_z6_5.tg).2.2.2
              exact tr_O E30 (s_tell164 hc (by omega) hl (by omega) _ Gs28 (Rs28.le (by omega) (by omega) (by omega) (by omega)) (hz5_32 ▸ Hz6_5.2) (by first | assumption | exact ref_R Gs28 Rs28 t_z5_32.tg (by decide)) (by omega))
            · exfalso; omega
          · refine wtN (Gs4.tg 16) ?_
            refine cl_Z (s_put (k := k + 6) (s := s + 62 + m_z6_5) (o := o + 39 + m_z6_5) (z := z) (by omega) Gs4 (Qz6_5.le (by omega) (by omega) (by omega) (by omega))) (fun s33 z4_34 rz4_34 Gs33 es33 Rs33 fz4_34 => ?_)
            have E35 := E6.trans es33
            have t_z6_5 := t_z6_5.up es33
            have Hz6_5 := Hz6_5.up es33
            unfold pc_X4_tell_71
            refine wtN (Gs33.tg 16) ?_
            refine cl_Z (s_putFront (k := k + 6) (s := s + 62 + m_z6_5) (o := o + 27 + m_z6_5) (z := z) (by omega) Gs33 (Rs33.le (by omega) (by omega) (by omega) (by omega)) t_z6_5) (fun s36 z3_37 rz3_37 Gs36 es36 Rs36 fz3_37 => ?_)
            have E38 := E35.trans es36
            have t_z6_5 := t_z6_5.up es36
            have Hz6_5 := Hz6_5.up es36
            refine sf_if (fun c39 => ?_) (fun c39 => ?_)
            · refine wg t_z6_5.tg (fun z5_40 hz5_40 => ?_)
              have rz5_40 : inR z5_40 := hz5_40 ▸ Gs36.ir _ _
              have t_z5_40 : oP s36 z5_40 := hz5_40 ▸ (Gs36.hdf t_z6_5.tg).2.2.2
              exact tr_O E38 (s_tell164 hc (by omega) hl (by omega) _ Gs36 (Rs36.le (by omega) (by omega) (by omega) (by omega)) (hz5_40 ▸ Hz6_5.2) (by first | assumption | exact ref_R Gs36 Rs36 t_z5_40.tg (by decide)) (by omega))
            · exfalso; omega
        · have t_z12_25 := t_z12_25.pos (by omega)
          unfold pc_X4_tell_58
          refine sf_if (fun c41 => ?_) (fun c41 => ?_)
          · unfold pc_X4_tell_71
            refine wtN (Gs4.tg 16) ?_
            refine cl_Z (s_putFront (k := k + 6) (s := s + 62 + m_z6_5) (o := o + 28 + m_z6_5) (z := z) (by omega) Gs4 (Qz6_5.le (by omega) (by omega) (by omega) (by omega)) t_z6_5) (fun s42 z3_43 rz3_43 Gs42 es42 Rs42 fz3_43 => ?_)
            have E44 := E6.trans es42
            have t_z6_5 := t_z6_5.up es42
            have Hz6_5 := Hz6_5.up es42
            refine sf_if (fun c45 => ?_) (fun c45 => ?_)
            · refine wg t_z6_5.tg (fun z5_46 hz5_46 => ?_)
              have rz5_46 : inR z5_46 := hz5_46 ▸ Gs42.ir _ _
              have t_z5_46 : oP s42 z5_46 := hz5_46 ▸ (Gs42.hdf t_z6_5.tg).2.2.2
              exact tr_O E44 (s_tell164 hc (by omega) hl (by omega) _ Gs42 (Rs42.le (by omega) (by omega) (by omega) (by omega)) (hz5_46 ▸ Hz6_5.2) (by first | assumption | exact ref_R Gs42 Rs42 t_z5_46.tg (by decide)) (by omega))
            · exfalso; omega
          · refine wtN (Gs4.tg 16) ?_
            refine cl_Z (s_put (k := k + 6) (s := s + 62 + m_z6_5) (o := o + 39 + m_z6_5) (z := z) (by omega) Gs4 (Qz6_5.le (by omega) (by omega) (by omega) (by omega))) (fun s47 z4_48 rz4_48 Gs47 es47 Rs47 fz4_48 => ?_)
            have E49 := E6.trans es47
            have t_z6_5 := t_z6_5.up es47
            have Hz6_5 := Hz6_5.up es47
            unfold pc_X4_tell_71
            refine wtN (Gs47.tg 16) ?_
            refine cl_Z (s_putFront (k := k + 6) (s := s + 62 + m_z6_5) (o := o + 27 + m_z6_5) (z := z) (by omega) Gs47 (Rs47.le (by omega) (by omega) (by omega) (by omega)) t_z6_5) (fun s50 z3_51 rz3_51 Gs50 es50 Rs50 fz3_51 => ?_)
            have E52 := E49.trans es50
            have t_z6_5 := t_z6_5.up es50
            have Hz6_5 := Hz6_5.up es50
            refine sf_if (fun c53 => ?_) (fun c53 => ?_)
            · refine wg t_z6_5.tg (fun z5_54 hz5_54 => ?_)
              have rz5_54 : inR z5_54 := hz5_54 ▸ Gs50.ir _ _
              have t_z5_54 : oP s50 z5_54 := hz5_54 ▸ (Gs50.hdf t_z6_5.tg).2.2.2
              exact tr_O E52 (s_tell164 hc (by omega) hl (by omega) _ Gs50 (Rs50.le (by omega) (by omega) (by omega) (by omega)) (hz5_54 ▸ Hz6_5.2) (by first | assumption | exact ref_R Gs50 Rs50 t_z5_54.tg (by decide)) (by omega))
            · exfalso; omega
    · have q6 : oHB s4 z6_5 := ⟨t_z6_5, (Gs4.hdf t_z6_5.tg).1, by omega, by omega⟩
      refine sf_if (fun c55 => ?_) (fun c55 => ?_)
      · unfold pc_X4_tell_58
        refine sf_if (fun c56 => ?_) (fun c56 => ?_)
        · unfold pc_X4_tell_71
          refine wtN (Gs4.tg 16) ?_
          refine cl_Z (s_putFront (k := k + 6) (s := s + 62 + m_z6_5) (o := o + 28 + m_z6_5) (z := z) (by omega) Gs4 (Qz6_5.le (by omega) (by omega) (by omega) (by omega)) t_z6_5) (fun s57 z3_58 rz3_58 Gs57 es57 Rs57 fz3_58 => ?_)
          have E59 := E6.trans es57
          have t_z6_5 := t_z6_5.up es57
          have Hz6_5 := Hz6_5.up es57
          have q6 := q6.up es57
          refine sf_if (fun c60 => ?_) (fun c60 => ?_)
          · refine wg t_z6_5.tg (fun z5_61 hz5_61 => ?_)
            have rz5_61 : inR z5_61 := hz5_61 ▸ Gs57.ir _ _
            have t_z5_61 : oP s57 z5_61 := hz5_61 ▸ (Gs57.hdf t_z6_5.tg).2.2.2
            exact tr_O E59 (s_tell164 hc (by omega) hl (by omega) _ Gs57 (Rs57.le (by omega) (by omega) (by omega) (by omega)) (hz5_61 ▸ Hz6_5.2) (by first | assumption | exact ref_R Gs57 Rs57 t_z5_61.tg (by decide)) (by omega))
          · refine wtN (Gs57.tg 16) ?_
            refine cl_Z (s_put (k := k + 6) (s := s + 62 + m_z6_5) (o := o + 27 + m_z6_5) (z := z) (by omega) Gs57 (Rs57.le (by omega) (by omega) (by omega) (by omega))) (fun s62 z8_63 rz8_63 Gs62 es62 Rs62 fz8_63 => ?_)
            have E64 := E59.trans es62
            have t_z6_5 := t_z6_5.up es62
            have Hz6_5 := Hz6_5.up es62
            have q6 := q6.up es62
            refine wtN (Gs62.tg 16) ?_
            refine cl_Z (s_putNumber (k := k + 6) (s := s + 62 + m_z6_5) (o := o + 18 + m_z6_5) (z := z) (by omega) Gs62 (Rs62.le (by omega) (by omega) (by omega) (by omega)) (by first | assumption | exact inR_of _ | exact ⟨by omega, by omega⟩)) (fun s65 z11_66 rz11_66 Gs65 es65 Rs65 fz11_66 => ?_)
            have E67 := E64.trans es65
            have t_z6_5 := t_z6_5.up es65
            have Hz6_5 := Hz6_5.up es65
            have q6 := q6.up es65
            refine wtN (Gs65.tg 16) ?_
            refine cl_Z (s_put (k := k + 6) (s := s + 62 + m_z6_5) (o := o + 17 + m_z6_5) (z := z) (by omega) Gs65 (Rs65.le (by omega) (by omega) (by omega) (by omega))) (fun s68 z14_69 rz14_69 Gs68 es68 Rs68 fz14_69 => ?_)
            have E70 := E67.trans es68
            have t_z6_5 := t_z6_5.up es68
            have Hz6_5 := Hz6_5.up es68
            have q6 := q6.up es68
            refine wg t_z6_5.tg (fun z15_71 hz15_71 => ?_)
            have rz15_71 : inR z15_71 := hz15_71 ▸ Gs68.ir _ _
            have t_z15_71 : oN s68 z15_71 := hz15_71 ▸ (Gs68.hdf t_z6_5.tg).1
            have t_z15_71 : oB s68 z15_71 := hz15_71 ▸ q6.2
            refine wg t_z15_71.tg (fun z16_72 hz16_72 => ?_)
            have rz16_72 : inR z16_72 := hz16_72 ▸ Gs68.ir _ _
            have t_z16_72 : oN s68 z16_72 := hz16_72 ▸ Gs68.n6 t_z15_71.tg t_z15_71.2.1
            refine wg t_z6_5.tg (fun z17_73 hz17_73 => ?_)
            have rz17_73 : inR z17_73 := hz17_73 ▸ Gs68.ir _ _
            have t_z17_73 : oL s68 z17_73 := hz17_73 ▸ (Gs68.hdf t_z6_5.tg).2.2.1
            refine wck ⟨by omega, by omega⟩ (fun z18_74 hz18_74 => ?_)
            refine wtN (Gs68.tg 16) ?_
            refine cl_O (hc (k := k + 5) (s := s + 56 + m_z6_5) (o := o + 17 + m_z6_5) (z := z) (by omega) Gs68 (Rs68.le (by omega) (by omega) (by omega) (by omega)) t_z16_72 (by first | assumption | exact ref_R Gs68 Rs68 t_z16_72.tg (by decide)) t_z17_73 (by first | assumption | exact ref_R Gs68 Rs68 t_z17_73.tg (by decide)) ⟨by omega, by omega⟩ (by omega)) E70 (by omega) (by omega) (by omega) (by omega) (fun s75 z21_76 rz21_76 Gs75 es75 Rs75 fz21_76 => ?_)
            have Qz21_76 := fz21_76
            have E77 := E70.trans es75
            have t_z6_5 := t_z6_5.up es75
            have Hz6_5 := Hz6_5.up es75
            have q6 := q6.up es75
            refine wtN (Gs75.tg 16) ?_
            refine cl_Z (s_put (k := k + 6) (s := s + 62 + m_z6_5) (o := o + 16 + m_z6_5) (z := z) (by omega) Gs75 (Qz21_76.le (by omega) (by omega) (by omega) (by omega))) (fun s78 z24_79 rz24_79 Gs78 es78 Rs78 fz24_79 => ?_)
            have E80 := E77.trans es78
            have t_z6_5 := t_z6_5.up es78
            have Hz6_5 := Hz6_5.up es78
            have q6 := q6.up es78
            refine wg t_z6_5.tg (fun z25_81 hz25_81 => ?_)
            have rz25_81 : inR z25_81 := hz25_81 ▸ Gs78.ir _ _
            have t_z25_81 : oN s78 z25_81 := hz25_81 ▸ (Gs78.hdf t_z6_5.tg).1
            have t_z25_81 : oB s78 z25_81 := hz25_81 ▸ q6.2
            refine wg t_z25_81.tg (fun z26_82 hz26_82 => ?_)
            have rz26_82 : inR z26_82 := hz26_82 ▸ Gs78.ir _ _
            have t_z26_82 : oN s78 z26_82 := hz26_82 ▸ Gs78.n7 t_z25_81.tg t_z25_81.2.1 t_z25_81.2.2
            refine sf_t t_z6_5.tg ?_
            refine cl_Z (s_envOfSecond (k := k + 5) (s := s + 57 + m_z6_5) (o := o + 16 + m_z6_5) (z := z) (by omega) Gs78 (Rs78.le (by omega) (by omega) (by omega) (by omega)) t_z6_5 q6.2 ⟨by omega, by omega⟩) (fun s83 z29_84 rz29_84 Gs83 es83 Rs83 fz29_84 => ?_)
            obtain ⟨t_z29_84, v_z29_84⟩ := fz29_84
            have E85 := E80.trans es83
            have t_z26_82 := t_z26_82.up es83
            have Hz6_5 := Hz6_5.up es83
            have q6 := q6.up es83
            refine wck ⟨by omega, by omega⟩ (fun z30_86 hz30_86 => ?_)
            refine wck ⟨by omega, by omega⟩ (fun z31_87 hz31_87 => ?_)
            refine wtN (Gs83.tg 16) ?_
            refine cl_O (hc (k := k + 4) (s := s + 51 + m_z6_5) (o := o + 16 + m_z6_5) (z := z) (by omega) Gs83 (Rs83.le (by omega) (by omega) (by omega) (by omega)) t_z26_82 (by first | assumption | exact ref_R Gs83 Rs83 t_z26_82.tg (by decide)) t_z29_84.l (by first | assumption | exact ref_R Gs83 Rs83 t_z29_84.tg (by decide)) ⟨by omega, by omega⟩ (by omega)) E85 (by omega) (by omega) (by omega) (by omega) (fun s88 z34_89 rz34_89 Gs88 es88 Rs88 fz34_89 => ?_)
            have Qz34_89 := fz34_89
            have E90 := E85.trans es88
            have Hz6_5 := Hz6_5.up es88
            have q6 := q6.up es88
            unfold pc_X4_tell_205
            refine sf_if (fun c91 => ?_) (fun c91 => ?_)
            · exact ret_O ⟨by decide, by decide⟩ Gs88 E90 (Qz34_89.le (by omega) (by omega) (by omega) (by omega)) (by first | trivial | assumption | omega | (dsimp only; omega) | exact (Qz34_89.le (by omega) (by omega) (by omega) (by omega)))
            · refine wtN (Gs88.tg 16) ?_
              refine cl_Z (s_put (k := k + 5) (s := s + 57 + m_z6_5) (o := o + 15 + m_z6_5) (z := z) (by omega) Gs88 (Qz34_89.le (by omega) (by omega) (by omega) (by omega))) (fun s92 z4_93 rz4_93 Gs92 es92 Rs92 fz4_93 => ?_)
              have E94 := E90.trans es92
              have Hz6_5 := Hz6_5.up es92
              have q6 := q6.up es92
              exact ret_O ⟨by decide, by decide⟩ Gs92 E94 (Rs92.le (by omega) (by omega) (by omega) (by omega)) (by first | trivial | assumption | omega | (dsimp only; omega) | exact (Rs92.le (by omega) (by omega) (by omega) (by omega)))
        · refine wtN (Gs4.tg 16) ?_
          refine cl_Z (s_put (k := k + 6) (s := s + 62 + m_z6_5) (o := o + 39 + m_z6_5) (z := z) (by omega) Gs4 (Qz6_5.le (by omega) (by omega) (by omega) (by omega))) (fun s95 z4_96 rz4_96 Gs95 es95 Rs95 fz4_96 => ?_)
          have E97 := E6.trans es95
          have t_z6_5 := t_z6_5.up es95
          have Hz6_5 := Hz6_5.up es95
          have q6 := q6.up es95
          unfold pc_X4_tell_71
          refine wtN (Gs95.tg 16) ?_
          refine cl_Z (s_putFront (k := k + 6) (s := s + 62 + m_z6_5) (o := o + 27 + m_z6_5) (z := z) (by omega) Gs95 (Rs95.le (by omega) (by omega) (by omega) (by omega)) t_z6_5) (fun s98 z3_99 rz3_99 Gs98 es98 Rs98 fz3_99 => ?_)
          have E100 := E97.trans es98
          have t_z6_5 := t_z6_5.up es98
          have Hz6_5 := Hz6_5.up es98
          have q6 := q6.up es98
          refine sf_if (fun c101 => ?_) (fun c101 => ?_)
          · refine wg t_z6_5.tg (fun z5_102 hz5_102 => ?_)
            have rz5_102 : inR z5_102 := hz5_102 ▸ Gs98.ir _ _
            have t_z5_102 : oP s98 z5_102 := hz5_102 ▸ (Gs98.hdf t_z6_5.tg).2.2.2
            exact tr_O E100 (s_tell164 hc (by omega) hl (by omega) _ Gs98 (Rs98.le (by omega) (by omega) (by omega) (by omega)) (hz5_102 ▸ Hz6_5.2) (by first | assumption | exact ref_R Gs98 Rs98 t_z5_102.tg (by decide)) (by omega))
          · refine wtN (Gs98.tg 16) ?_
            refine cl_Z (s_put (k := k + 6) (s := s + 62 + m_z6_5) (o := o + 26 + m_z6_5) (z := z) (by omega) Gs98 (Rs98.le (by omega) (by omega) (by omega) (by omega))) (fun s103 z8_104 rz8_104 Gs103 es103 Rs103 fz8_104 => ?_)
            have E105 := E100.trans es103
            have t_z6_5 := t_z6_5.up es103
            have Hz6_5 := Hz6_5.up es103
            have q6 := q6.up es103
            refine wtN (Gs103.tg 16) ?_
            refine cl_Z (s_putNumber (k := k + 6) (s := s + 62 + m_z6_5) (o := o + 17 + m_z6_5) (z := z) (by omega) Gs103 (Rs103.le (by omega) (by omega) (by omega) (by omega)) (by first | assumption | exact inR_of _ | exact ⟨by omega, by omega⟩)) (fun s106 z11_107 rz11_107 Gs106 es106 Rs106 fz11_107 => ?_)
            have E108 := E105.trans es106
            have t_z6_5 := t_z6_5.up es106
            have Hz6_5 := Hz6_5.up es106
            have q6 := q6.up es106
            refine wtN (Gs106.tg 16) ?_
            refine cl_Z (s_put (k := k + 6) (s := s + 62 + m_z6_5) (o := o + 16 + m_z6_5) (z := z) (by omega) Gs106 (Rs106.le (by omega) (by omega) (by omega) (by omega))) (fun s109 z14_110 rz14_110 Gs109 es109 Rs109 fz14_110 => ?_)
            have E111 := E108.trans es109
            have t_z6_5 := t_z6_5.up es109
            have Hz6_5 := Hz6_5.up es109
            have q6 := q6.up es109
            refine wg t_z6_5.tg (fun z15_112 hz15_112 => ?_)
            have rz15_112 : inR z15_112 := hz15_112 ▸ Gs109.ir _ _
            have t_z15_112 : oN s109 z15_112 := hz15_112 ▸ (Gs109.hdf t_z6_5.tg).1
            have t_z15_112 : oB s109 z15_112 := hz15_112 ▸ q6.2
            refine wg t_z15_112.tg (fun z16_113 hz16_113 => ?_)
            have rz16_113 : inR z16_113 := hz16_113 ▸ Gs109.ir _ _
            have t_z16_113 : oN s109 z16_113 := hz16_113 ▸ Gs109.n6 t_z15_112.tg t_z15_112.2.1
            refine wg t_z6_5.tg (fun z17_114 hz17_114 => ?_)
            have rz17_114 : inR z17_114 := hz17_114 ▸ Gs109.ir _ _
            have t_z17_114 : oL s109 z17_114 := hz17_114 ▸ (Gs109.hdf t_z6_5.tg).2.2.1
            refine wck ⟨by omega, by omega⟩ (fun z18_115 hz18_115 => ?_)
            refine wtN (Gs109.tg 16) ?_
            refine cl_O (hc (k := k + 5) (s := s + 56 + m_z6_5) (o := o + 16 + m_z6_5) (z := z) (by omega) Gs109 (Rs109.le (by omega) (by omega) (by omega) (by omega)) t_z16_113 (by first | assumption | exact ref_R Gs109 Rs109 t_z16_113.tg (by decide)) t_z17_114 (by first | assumption | exact ref_R Gs109 Rs109 t_z17_114.tg (by decide)) ⟨by omega, by omega⟩ (by omega)) E111 (by omega) (by omega) (by omega) (by omega) (fun s116 z21_117 rz21_117 Gs116 es116 Rs116 fz21_117 => ?_)
            have Qz21_117 := fz21_117
            have E118 := E111.trans es116
            have t_z6_5 := t_z6_5.up es116
            have Hz6_5 := Hz6_5.up es116
            have q6 := q6.up es116
            refine wtN (Gs116.tg 16) ?_
            refine cl_Z (s_put (k := k + 6) (s := s + 62 + m_z6_5) (o := o + 15 + m_z6_5) (z := z) (by omega) Gs116 (Qz21_117.le (by omega) (by omega) (by omega) (by omega))) (fun s119 z24_120 rz24_120 Gs119 es119 Rs119 fz24_120 => ?_)
            have E121 := E118.trans es119
            have t_z6_5 := t_z6_5.up es119
            have Hz6_5 := Hz6_5.up es119
            have q6 := q6.up es119
            refine wg t_z6_5.tg (fun z25_122 hz25_122 => ?_)
            have rz25_122 : inR z25_122 := hz25_122 ▸ Gs119.ir _ _
            have t_z25_122 : oN s119 z25_122 := hz25_122 ▸ (Gs119.hdf t_z6_5.tg).1
            have t_z25_122 : oB s119 z25_122 := hz25_122 ▸ q6.2
            refine wg t_z25_122.tg (fun z26_123 hz26_123 => ?_)
            have rz26_123 : inR z26_123 := hz26_123 ▸ Gs119.ir _ _
            have t_z26_123 : oN s119 z26_123 := hz26_123 ▸ Gs119.n7 t_z25_122.tg t_z25_122.2.1 t_z25_122.2.2
            refine sf_t t_z6_5.tg ?_
            refine cl_Z (s_envOfSecond (k := k + 5) (s := s + 57 + m_z6_5) (o := o + 15 + m_z6_5) (z := z) (by omega) Gs119 (Rs119.le (by omega) (by omega) (by omega) (by omega)) t_z6_5 q6.2 ⟨by omega, by omega⟩) (fun s124 z29_125 rz29_125 Gs124 es124 Rs124 fz29_125 => ?_)
            obtain ⟨t_z29_125, v_z29_125⟩ := fz29_125
            have E126 := E121.trans es124
            have t_z26_123 := t_z26_123.up es124
            have Hz6_5 := Hz6_5.up es124
            have q6 := q6.up es124
            refine wck ⟨by omega, by omega⟩ (fun z30_127 hz30_127 => ?_)
            refine wck ⟨by omega, by omega⟩ (fun z31_128 hz31_128 => ?_)
            refine wtN (Gs124.tg 16) ?_
            refine cl_O (hc (k := k + 4) (s := s + 51 + m_z6_5) (o := o + 15 + m_z6_5) (z := z) (by omega) Gs124 (Rs124.le (by omega) (by omega) (by omega) (by omega)) t_z26_123 (by first | assumption | exact ref_R Gs124 Rs124 t_z26_123.tg (by decide)) t_z29_125.l (by first | assumption | exact ref_R Gs124 Rs124 t_z29_125.tg (by decide)) ⟨by omega, by omega⟩ (by omega)) E126 (by omega) (by omega) (by omega) (by omega) (fun s129 z34_130 rz34_130 Gs129 es129 Rs129 fz34_130 => ?_)
            have Qz34_130 := fz34_130
            have E131 := E126.trans es129
            have Hz6_5 := Hz6_5.up es129
            have q6 := q6.up es129
            unfold pc_X4_tell_205
            refine sf_if (fun c132 => ?_) (fun c132 => ?_)
            · exact ret_O ⟨by decide, by decide⟩ Gs129 E131 (Qz34_130.le (by omega) (by omega) (by omega) (by omega)) (by first | trivial | assumption | omega | (dsimp only; omega) | exact (Qz34_130.le (by omega) (by omega) (by omega) (by omega)))
            · refine wtN (Gs129.tg 16) ?_
              refine cl_Z (s_put (k := k + 5) (s := s + 57 + m_z6_5) (o := o + 14 + m_z6_5) (z := z) (by omega) Gs129 (Qz34_130.le (by omega) (by omega) (by omega) (by omega))) (fun s133 z4_134 rz4_134 Gs133 es133 Rs133 fz4_134 => ?_)
              have E135 := E131.trans es133
              have Hz6_5 := Hz6_5.up es133
              have q6 := q6.up es133
              exact ret_O ⟨by decide, by decide⟩ Gs133 E135 (Rs133.le (by omega) (by omega) (by omega) (by omega)) (by first | trivial | assumption | omega | (dsimp only; omega) | exact (Rs133.le (by omega) (by omega) (by omega) (by omega)))
      · unfold pc_X4_tell_58
        refine sf_if (fun c136 => ?_) (fun c136 => ?_)
        · unfold pc_X4_tell_71
          refine wtN (Gs4.tg 16) ?_
          refine cl_Z (s_putFront (k := k + 6) (s := s + 62 + m_z6_5) (o := o + 28 + m_z6_5) (z := z) (by omega) Gs4 (Qz6_5.le (by omega) (by omega) (by omega) (by omega)) t_z6_5) (fun s137 z3_138 rz3_138 Gs137 es137 Rs137 fz3_138 => ?_)
          have E139 := E6.trans es137
          have t_z6_5 := t_z6_5.up es137
          have Hz6_5 := Hz6_5.up es137
          have q6 := q6.up es137
          refine sf_if (fun c140 => ?_) (fun c140 => ?_)
          · refine wg t_z6_5.tg (fun z5_141 hz5_141 => ?_)
            have rz5_141 : inR z5_141 := hz5_141 ▸ Gs137.ir _ _
            have t_z5_141 : oP s137 z5_141 := hz5_141 ▸ (Gs137.hdf t_z6_5.tg).2.2.2
            exact tr_O E139 (s_tell164 hc (by omega) hl (by omega) _ Gs137 (Rs137.le (by omega) (by omega) (by omega) (by omega)) (hz5_141 ▸ Hz6_5.2) (by first | assumption | exact ref_R Gs137 Rs137 t_z5_141.tg (by decide)) (by omega))
          · refine wtN (Gs137.tg 16) ?_
            refine cl_Z (s_put (k := k + 6) (s := s + 62 + m_z6_5) (o := o + 27 + m_z6_5) (z := z) (by omega) Gs137 (Rs137.le (by omega) (by omega) (by omega) (by omega))) (fun s142 z8_143 rz8_143 Gs142 es142 Rs142 fz8_143 => ?_)
            have E144 := E139.trans es142
            have t_z6_5 := t_z6_5.up es142
            have Hz6_5 := Hz6_5.up es142
            have q6 := q6.up es142
            refine wtN (Gs142.tg 16) ?_
            refine cl_Z (s_putNumber (k := k + 6) (s := s + 62 + m_z6_5) (o := o + 18 + m_z6_5) (z := z) (by omega) Gs142 (Rs142.le (by omega) (by omega) (by omega) (by omega)) (by first | assumption | exact inR_of _ | exact ⟨by omega, by omega⟩)) (fun s145 z11_146 rz11_146 Gs145 es145 Rs145 fz11_146 => ?_)
            have E147 := E144.trans es145
            have t_z6_5 := t_z6_5.up es145
            have Hz6_5 := Hz6_5.up es145
            have q6 := q6.up es145
            refine wtN (Gs145.tg 16) ?_
            refine cl_Z (s_put (k := k + 6) (s := s + 62 + m_z6_5) (o := o + 17 + m_z6_5) (z := z) (by omega) Gs145 (Rs145.le (by omega) (by omega) (by omega) (by omega))) (fun s148 z14_149 rz14_149 Gs148 es148 Rs148 fz14_149 => ?_)
            have E150 := E147.trans es148
            have t_z6_5 := t_z6_5.up es148
            have Hz6_5 := Hz6_5.up es148
            have q6 := q6.up es148
            refine wg t_z6_5.tg (fun z15_151 hz15_151 => ?_)
            have rz15_151 : inR z15_151 := hz15_151 ▸ Gs148.ir _ _
            have t_z15_151 : oN s148 z15_151 := hz15_151 ▸ (Gs148.hdf t_z6_5.tg).1
            have t_z15_151 : oB s148 z15_151 := hz15_151 ▸ q6.2
            refine wg t_z15_151.tg (fun z16_152 hz16_152 => ?_)
            have rz16_152 : inR z16_152 := hz16_152 ▸ Gs148.ir _ _
            have t_z16_152 : oN s148 z16_152 := hz16_152 ▸ Gs148.n6 t_z15_151.tg t_z15_151.2.1
            refine wg t_z6_5.tg (fun z17_153 hz17_153 => ?_)
            have rz17_153 : inR z17_153 := hz17_153 ▸ Gs148.ir _ _
            have t_z17_153 : oL s148 z17_153 := hz17_153 ▸ (Gs148.hdf t_z6_5.tg).2.2.1
            refine wck ⟨by omega, by omega⟩ (fun z18_154 hz18_154 => ?_)
            refine wtN (Gs148.tg 16) ?_
            refine cl_O (hc (k := k + 5) (s := s + 56 + m_z6_5) (o := o + 17 + m_z6_5) (z := z) (by omega) Gs148 (Rs148.le (by omega) (by omega) (by omega) (by omega)) t_z16_152 (by first | assumption | exact ref_R Gs148 Rs148 t_z16_152.tg (by decide)) t_z17_153 (by first | assumption | exact ref_R Gs148 Rs148 t_z17_153.tg (by decide)) ⟨by omega, by omega⟩ (by omega)) E150 (by omega) (by omega) (by omega) (by omega) (fun s155 z21_156 rz21_156 Gs155 es155 Rs155 fz21_156 => ?_)
            have Qz21_156 := fz21_156
            have E157 := E150.trans es155
            have t_z6_5 := t_z6_5.up es155
            have Hz6_5 := Hz6_5.up es155
            have q6 := q6.up es155
            refine wtN (Gs155.tg 16) ?_
            refine cl_Z (s_put (k := k + 6) (s := s + 62 + m_z6_5) (o := o + 16 + m_z6_5) (z := z) (by omega) Gs155 (Qz21_156.le (by omega) (by omega) (by omega) (by omega))) (fun s158 z24_159 rz24_159 Gs158 es158 Rs158 fz24_159 => ?_)
            have E160 := E157.trans es158
            have t_z6_5 := t_z6_5.up es158
            have Hz6_5 := Hz6_5.up es158
            have q6 := q6.up es158
            refine wg t_z6_5.tg (fun z25_161 hz25_161 => ?_)
            have rz25_161 : inR z25_161 := hz25_161 ▸ Gs158.ir _ _
            have t_z25_161 : oN s158 z25_161 := hz25_161 ▸ (Gs158.hdf t_z6_5.tg).1
            have t_z25_161 : oB s158 z25_161 := hz25_161 ▸ q6.2
            refine wg t_z25_161.tg (fun z26_162 hz26_162 => ?_)
            have rz26_162 : inR z26_162 := hz26_162 ▸ Gs158.ir _ _
            have t_z26_162 : oN s158 z26_162 := hz26_162 ▸ Gs158.n7 t_z25_161.tg t_z25_161.2.1 t_z25_161.2.2
            refine sf_t t_z6_5.tg ?_
            refine cl_Z (s_envOfSecond (k := k + 5) (s := s + 57 + m_z6_5) (o := o + 16 + m_z6_5) (z := z) (by omega) Gs158 (Rs158.le (by omega) (by omega) (by omega) (by omega)) t_z6_5 q6.2 ⟨by omega, by omega⟩) (fun s163 z29_164 rz29_164 Gs163 es163 Rs163 fz29_164 => ?_)
            obtain ⟨t_z29_164, v_z29_164⟩ := fz29_164
            have E165 := E160.trans es163
            have t_z26_162 := t_z26_162.up es163
            have Hz6_5 := Hz6_5.up es163
            have q6 := q6.up es163
            refine wck ⟨by omega, by omega⟩ (fun z30_166 hz30_166 => ?_)
            refine wck ⟨by omega, by omega⟩ (fun z31_167 hz31_167 => ?_)
            refine wtN (Gs163.tg 16) ?_
            refine cl_O (hc (k := k + 4) (s := s + 51 + m_z6_5) (o := o + 16 + m_z6_5) (z := z) (by omega) Gs163 (Rs163.le (by omega) (by omega) (by omega) (by omega)) t_z26_162 (by first | assumption | exact ref_R Gs163 Rs163 t_z26_162.tg (by decide)) t_z29_164.l (by first | assumption | exact ref_R Gs163 Rs163 t_z29_164.tg (by decide)) ⟨by omega, by omega⟩ (by omega)) E165 (by omega) (by omega) (by omega) (by omega) (fun s168 z34_169 rz34_169 Gs168 es168 Rs168 fz34_169 => ?_)
            have Qz34_169 := fz34_169
            have E170 := E165.trans es168
            have Hz6_5 := Hz6_5.up es168
            have q6 := q6.up es168
            unfold pc_X4_tell_205
            refine sf_if (fun c171 => ?_) (fun c171 => ?_)
            · exact ret_O ⟨by decide, by decide⟩ Gs168 E170 (Qz34_169.le (by omega) (by omega) (by omega) (by omega)) (by first | trivial | assumption | omega | (dsimp only; omega) | exact (Qz34_169.le (by omega) (by omega) (by omega) (by omega)))
            · refine wtN (Gs168.tg 16) ?_
              refine cl_Z (s_put (k := k + 5) (s := s + 57 + m_z6_5) (o := o + 15 + m_z6_5) (z := z) (by omega) Gs168 (Qz34_169.le (by omega) (by omega) (by omega) (by omega))) (fun s172 z4_173 rz4_173 Gs172 es172 Rs172 fz4_173 => ?_)
              have E174 := E170.trans es172
              have Hz6_5 := Hz6_5.up es172
              have q6 := q6.up es172
              exact ret_O ⟨by decide, by decide⟩ Gs172 E174 (Rs172.le (by omega) (by omega) (by omega) (by omega)) (by first | trivial | assumption | omega | (dsimp only; omega) | exact (Rs172.le (by omega) (by omega) (by omega) (by omega)))
        · refine wtN (Gs4.tg 16) ?_
          refine cl_Z (s_put (k := k + 6) (s := s + 62 + m_z6_5) (o := o + 39 + m_z6_5) (z := z) (by omega) Gs4 (Qz6_5.le (by omega) (by omega) (by omega) (by omega))) (fun s175 z4_176 rz4_176 Gs175 es175 Rs175 fz4_176 => ?_)
          have E177 := E6.trans es175
          have t_z6_5 := t_z6_5.up es175
          have Hz6_5 := Hz6_5.up es175
          have q6 := q6.up es175
          unfold pc_X4_tell_71
          refine wtN (Gs175.tg 16) ?_
          refine cl_Z (s_putFront (k := k + 6) (s := s + 62 + m_z6_5) (o := o + 27 + m_z6_5) (z := z) (by omega) Gs175 (Rs175.le (by omega) (by omega) (by omega) (by omega)) t_z6_5) (fun s178 z3_179 rz3_179 Gs178 es178 Rs178 fz3_179 => ?_)
          have E180 := E177.trans es178
          have t_z6_5 := t_z6_5.up es178
          have Hz6_5 := Hz6_5.up es178
          have q6 := q6.up es178
          refine sf_if (fun c181 => ?_) (fun c181 => ?_)
          · refine wg t_z6_5.tg (fun z5_182 hz5_182 => ?_)
            have rz5_182 : inR z5_182 := hz5_182 ▸ Gs178.ir _ _
            have t_z5_182 : oP s178 z5_182 := hz5_182 ▸ (Gs178.hdf t_z6_5.tg).2.2.2
            exact tr_O E180 (s_tell164 hc (by omega) hl (by omega) _ Gs178 (Rs178.le (by omega) (by omega) (by omega) (by omega)) (hz5_182 ▸ Hz6_5.2) (by first | assumption | exact ref_R Gs178 Rs178 t_z5_182.tg (by decide)) (by omega))
          · refine wtN (Gs178.tg 16) ?_
            refine cl_Z (s_put (k := k + 6) (s := s + 62 + m_z6_5) (o := o + 26 + m_z6_5) (z := z) (by omega) Gs178 (Rs178.le (by omega) (by omega) (by omega) (by omega))) (fun s183 z8_184 rz8_184 Gs183 es183 Rs183 fz8_184 => ?_)
            have E185 := E180.trans es183
            have t_z6_5 := t_z6_5.up es183
            have Hz6_5 := Hz6_5.up es183
            have q6 := q6.up es183
            refine wtN (Gs183.tg 16) ?_
            refine cl_Z (s_putNumber (k := k + 6) (s := s + 62 + m_z6_5) (o := o + 17 + m_z6_5) (z := z) (by omega) Gs183 (Rs183.le (by omega) (by omega) (by omega) (by omega)) (by first | assumption | exact inR_of _ | exact ⟨by omega, by omega⟩)) (fun s186 z11_187 rz11_187 Gs186 es186 Rs186 fz11_187 => ?_)
            have E188 := E185.trans es186
            have t_z6_5 := t_z6_5.up es186
            have Hz6_5 := Hz6_5.up es186
            have q6 := q6.up es186
            refine wtN (Gs186.tg 16) ?_
            refine cl_Z (s_put (k := k + 6) (s := s + 62 + m_z6_5) (o := o + 16 + m_z6_5) (z := z) (by omega) Gs186 (Rs186.le (by omega) (by omega) (by omega) (by omega))) (fun s189 z14_190 rz14_190 Gs189 es189 Rs189 fz14_190 => ?_)
            have E191 := E188.trans es189
            have t_z6_5 := t_z6_5.up es189
            have Hz6_5 := Hz6_5.up es189
            have q6 := q6.up es189
            refine wg t_z6_5.tg (fun z15_192 hz15_192 => ?_)
            have rz15_192 : inR z15_192 := hz15_192 ▸ Gs189.ir _ _
            have t_z15_192 : oN s189 z15_192 := hz15_192 ▸ (Gs189.hdf t_z6_5.tg).1
            have t_z15_192 : oB s189 z15_192 := hz15_192 ▸ q6.2
            refine wg t_z15_192.tg (fun z16_193 hz16_193 => ?_)
            have rz16_193 : inR z16_193 := hz16_193 ▸ Gs189.ir _ _
            have t_z16_193 : oN s189 z16_193 := hz16_193 ▸ Gs189.n6 t_z15_192.tg t_z15_192.2.1
            refine wg t_z6_5.tg (fun z17_194 hz17_194 => ?_)
            have rz17_194 : inR z17_194 := hz17_194 ▸ Gs189.ir _ _
            have t_z17_194 : oL s189 z17_194 := hz17_194 ▸ (Gs189.hdf t_z6_5.tg).2.2.1
            refine wck ⟨by omega, by omega⟩ (fun z18_195 hz18_195 => ?_)
            refine wtN (Gs189.tg 16) ?_
            refine cl_O (hc (k := k + 5) (s := s + 56 + m_z6_5) (o := o + 16 + m_z6_5) (z := z) (by omega) Gs189 (Rs189.le (by omega) (by omega) (by omega) (by omega)) t_z16_193 (by first | assumption | exact ref_R Gs189 Rs189 t_z16_193.tg (by decide)) t_z17_194 (by first | assumption | exact ref_R Gs189 Rs189 t_z17_194.tg (by decide)) ⟨by omega, by omega⟩ (by omega)) E191 (by omega) (by omega) (by omega) (by omega) (fun s196 z21_197 rz21_197 Gs196 es196 Rs196 fz21_197 => ?_)
            have Qz21_197 := fz21_197
            have E198 := E191.trans es196
            have t_z6_5 := t_z6_5.up es196
            have Hz6_5 := Hz6_5.up es196
            have q6 := q6.up es196
            refine wtN (Gs196.tg 16) ?_
            refine cl_Z (s_put (k := k + 6) (s := s + 62 + m_z6_5) (o := o + 15 + m_z6_5) (z := z) (by omega) Gs196 (Qz21_197.le (by omega) (by omega) (by omega) (by omega))) (fun s199 z24_200 rz24_200 Gs199 es199 Rs199 fz24_200 => ?_)
            have E201 := E198.trans es199
            have t_z6_5 := t_z6_5.up es199
            have Hz6_5 := Hz6_5.up es199
            have q6 := q6.up es199
            refine wg t_z6_5.tg (fun z25_202 hz25_202 => ?_)
            have rz25_202 : inR z25_202 := hz25_202 ▸ Gs199.ir _ _
            have t_z25_202 : oN s199 z25_202 := hz25_202 ▸ (Gs199.hdf t_z6_5.tg).1
            have t_z25_202 : oB s199 z25_202 := hz25_202 ▸ q6.2
            refine wg t_z25_202.tg (fun z26_203 hz26_203 => ?_)
            have rz26_203 : inR z26_203 := hz26_203 ▸ Gs199.ir _ _
            have t_z26_203 : oN s199 z26_203 := hz26_203 ▸ Gs199.n7 t_z25_202.tg t_z25_202.2.1 t_z25_202.2.2
            refine sf_t t_z6_5.tg ?_
            refine cl_Z (s_envOfSecond (k := k + 5) (s := s + 57 + m_z6_5) (o := o + 15 + m_z6_5) (z := z) (by omega) Gs199 (Rs199.le (by omega) (by omega) (by omega) (by omega)) t_z6_5 q6.2 ⟨by omega, by omega⟩) (fun s204 z29_205 rz29_205 Gs204 es204 Rs204 fz29_205 => ?_)
            obtain ⟨t_z29_205, v_z29_205⟩ := fz29_205
            have E206 := E201.trans es204
            have t_z26_203 := t_z26_203.up es204
            have Hz6_5 := Hz6_5.up es204
            have q6 := q6.up es204
            refine wck ⟨by omega, by omega⟩ (fun z30_207 hz30_207 => ?_)
            refine wck ⟨by omega, by omega⟩ (fun z31_208 hz31_208 => ?_)
            refine wtN (Gs204.tg 16) ?_
            refine cl_O (hc (k := k + 4) (s := s + 51 + m_z6_5) (o := o + 15 + m_z6_5) (z := z) (by omega) Gs204 (Rs204.le (by omega) (by omega) (by omega) (by omega)) t_z26_203 (by first | assumption | exact ref_R Gs204 Rs204 t_z26_203.tg (by decide)) t_z29_205.l (by first | assumption | exact ref_R Gs204 Rs204 t_z29_205.tg (by decide)) ⟨by omega, by omega⟩ (by omega)) E206 (by omega) (by omega) (by omega) (by omega) (fun s209 z34_210 rz34_210 Gs209 es209 Rs209 fz34_210 => ?_)
            have Qz34_210 := fz34_210
            have E211 := E206.trans es209
            have Hz6_5 := Hz6_5.up es209
            have q6 := q6.up es209
            unfold pc_X4_tell_205
            refine sf_if (fun c212 => ?_) (fun c212 => ?_)
            · exact ret_O ⟨by decide, by decide⟩ Gs209 E211 (Qz34_210.le (by omega) (by omega) (by omega) (by omega)) (by first | trivial | assumption | omega | (dsimp only; omega) | exact (Qz34_210.le (by omega) (by omega) (by omega) (by omega)))
            · refine wtN (Gs209.tg 16) ?_
              refine cl_Z (s_put (k := k + 5) (s := s + 57 + m_z6_5) (o := o + 14 + m_z6_5) (z := z) (by omega) Gs209 (Qz34_210.le (by omega) (by omega) (by omega) (by omega))) (fun s213 z4_214 rz4_214 Gs213 es213 Rs213 fz4_214 => ?_)
              have E215 := E211.trans es213
              have Hz6_5 := Hz6_5.up es213
              have q6 := q6.up es213
              exact ret_O ⟨by decide, by decide⟩ Gs213 E215 (Rs213.le (by omega) (by omega) (by omega) (by omega)) (by first | trivial | assumption | omega | (dsimp only; omega) | exact (Rs213.le (by omega) (by omega) (by omega) (by omega)))
theorem s_tellWhole (hd : 113 ≤ d) (G : GG bd b σ) (R : RR bd b σ (k + 1) (s + 6) (o) (z)) {x : Int} (t_x : oN σ x) (rx : inR x) : sf (RC bd d 96 σ [((b + 16 : Nat) : Int), x]) (PO bd b σ k s o z (fun σ' r => RR bd b σ' (k + 1) (s + 6) o z)) := by
  obtain ⟨d, rfl⟩ : ∃ d0, d = d0 + 1 := ⟨d - 1, by omega⟩
  rw [rc_X4_tellWhole (by omega)]
  refine fin_O ?_
  unfold pc_X4_tellWhole_0
  refine wtN (G.tg 16) ?_
  refine cl_O (s_tell _ (k := k) (s := s) (o := o) (z := z) (by omega) G (R.le (by omega) (by omega) (by omega) (by omega)) t_x (by first | assumption | exact ref_R G R t_x.tg (by decide)) (oL.nul (by decide)) ⟨by decide, by decide⟩ ⟨by omega, by omega⟩ (by omega)) (Ext.refl (b := b) (σ := σ)) (by omega) (by omega) (by omega) (by omega) (fun s1 z3_2 rz3_2 Gs1 es1 Rs1 fz3_2 => ?_)
  have Qz3_2 := fz3_2
  have E3 := (Ext.refl (b := b) (σ := σ)).trans es1
  exact ret_O ⟨by decide, by decide⟩ Gs1 E3 (Qz3_2.le (by omega) (by omega) (by omega) (by omega)) (by first | trivial | assumption | omega | (dsimp only; omega) | exact (Qz3_2.le (by omega) (by omega) (by omega) (by omega)))
theorem s_tellHead (hd : 11 ≤ d) (G : GG bd b σ) (R : RR bd b σ (k + 2) (s + 10) (o + 30) (z)) {x : Int} (t_x : oN σ x) (rx : inR x) : sf (RC bd d 95 σ [((b + 16 : Nat) : Int), x]) (PO bd b σ k s o z (fun σ' r => RR bd b σ' (k + 1) (s + 6) o z)) := by
  obtain ⟨d, rfl⟩ : ∃ d0, d = d0 + 1 := ⟨d - 1, by omega⟩
  rw [rc_X4_tellHead (by omega)]
  refine fin_O ?_
  unfold pc_X4_tellHead_0
  refine wtN (G.tg 16) ?_
  refine cl_O (s_head (k := k) (s := s) (o := o + 30) (z := z) (by omega) G (R.le (by omega) (by omega) (by omega) (by omega)) t_x (by first | assumption | exact ref_R G R t_x.tg (by decide)) (oL.nul (by decide)) ⟨by decide, by decide⟩) (Ext.refl (b := b) (σ := σ)) (by omega) (by omega) (by omega) (by omega) (fun s1 z3_2 rz3_2 Gs1 es1 Rs1 fz3_2 => ?_)
  obtain ⟨m_z3_2, Hz3_2, q_z3_2, Qz3_2, k5_z3_2⟩ := fz3_2
  have t_z3_2 := Hz3_2.1
  have E3 := (Ext.refl (b := b) (σ := σ)).trans es1
  refine wtN (Gs1.tg 16) ?_
  refine cl_Z (s_putFront (k := k + 1) (s := s + 6 + m_z3_2) (o := o + 18 + m_z3_2) (z := z) (by omega) Gs1 (Qz3_2.le (by omega) (by omega) (by omega) (by omega)) t_z3_2) (fun s4 z6_5 rz6_5 Gs4 es4 Rs4 fz6_5 => ?_)
  have E6 := E3.trans es4
  have t_z3_2 := t_z3_2.up es4
  have Hz3_2 := Hz3_2.up es4
  refine wtN (Gs4.tg 16) ?_
  refine cl_Z (s_put (k := k + 1) (s := s + 6 + m_z3_2) (o := o + 17 + m_z3_2) (z := z) (by omega) Gs4 (Rs4.le (by omega) (by omega) (by omega) (by omega))) (fun s7 z9_8 rz9_8 Gs7 es7 Rs7 fz9_8 => ?_)
  have E9 := E6.trans es7
  have t_z3_2 := t_z3_2.up es7
  have Hz3_2 := Hz3_2.up es7
  refine sf_t t_z3_2.tg ?_
  refine cl_U (s_isBinder (by omega) Gs7 t_z3_2) (fun z12_11 rz12_11 fz12_11 => ?_)
  refine sf_if (fun c12 => ?_) (fun c12 => ?_)
  · refine wg t_z3_2.tg (fun z14_13 hz14_13 => ?_)
    have rz14_13 : inR z14_13 := hz14_13 ▸ Gs7.ir _ _
    have t_z14_13 : oP s7 z14_13 := hz14_13 ▸ (Gs7.hdf t_z3_2.tg).2.2.2
    refine cl_U (s_lengthOf (by omega) Gs7 (hz14_13 ▸ Hz3_2.2) (by omega)) (fun z17_15 rz17_15 fz17_15 => ?_)
    unfold pc_X4_tellHead_37
    refine wtN (Gs7.tg 16) ?_
    refine cl_Z (s_putNumber (k := k + 1) (s := s + 6 + m_z3_2) (o := o + 8 + m_z3_2) (z := z) (by omega) Gs7 (Rs7.le (by omega) (by omega) (by omega) (by omega)) (by first | assumption | exact inR_of _ | exact ⟨by omega, by omega⟩)) (fun s16 z3_17 rz3_17 Gs16 es16 Rs16 fz3_17 => ?_)
    have E18 := E9.trans es16
    have Hz3_2 := Hz3_2.up es16
    exact ret_O ⟨by decide, by decide⟩ Gs16 E18 (Rs16.le (by omega) (by omega) (by omega) (by omega)) (by first | trivial | assumption | omega | (dsimp only; omega) | exact (Rs16.le (by omega) (by omega) (by omega) (by omega)))
  · unfold pc_X4_tellHead_37
    refine wtN (Gs7.tg 16) ?_
    refine cl_Z (s_putNumber (k := k + 1) (s := s + 6 + m_z3_2) (o := o + 8 + m_z3_2) (z := z) (by omega) Gs7 (Rs7.le (by omega) (by omega) (by omega) (by omega)) ⟨by decide, by decide⟩) (fun s19 z3_20 rz3_20 Gs19 es19 Rs19 fz3_20 => ?_)
    have E21 := E9.trans es19
    have Hz3_2 := Hz3_2.up es19
    exact ret_O ⟨by decide, by decide⟩ Gs19 E21 (Rs19.le (by omega) (by omega) (by omega) (by omega)) (by first | trivial | assumption | omega | (dsimp only; omega) | exact (Rs19.le (by omega) (by omega) (by omega) (by omega)))
end CTE
