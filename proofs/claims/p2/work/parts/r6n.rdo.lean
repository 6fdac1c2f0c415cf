section RDO
variable {σ σ' σ'' σ0 σh s s' : RS} {d : Nat} {S V T U A : Int → Prop} {r w w' lo hi sc ch l h R N : Int} {Q : RS → Int → Prop}
/-- a statement that was read, before it is done -/
def STx (σ : RS) : Prop := M0 (16001 - (σ.1 39 - σ.1 62)) σ ∧ (σ.1 62 ≤ σ.1 39 ∧ σ.1 39 - σ.1 62 ≤ 8000) ∧ σ.1 15 ≠ 0 ∧ (σ.1 51 = 0 ∧ σ.1 43 = 0 ∧ σ.1 59 = 0 ∧ σ.1 64 = 0) ∧ HG (σ.1 62) σ ∧ σ.1 72 = 0 ∧ SO σ (σ.1 62) (σ.1 39) ∧ σ.1 75 + 60 ≤ 100 * σ.1 65 + 1000000
theorem STx.rn (X : STx σ) : RN (16001 - (σ.1 39 - σ.1 62)) σ σ := ⟨X.1, KF.refl, rfl, ⟨X.2.2.2.1.2.1, X.2.2.2.1.2.2.1⟩, Int.le_refl _, fun _ => X.2.2.2.1.1⟩
theorem NM1.x {k : Nat} {lo hi : Int} (H : NM1 σ k lo hi) (h8 : 8 ≤ lo) (h : hi ≤ 140000) : NMx σ k := by
  obtain ⟨a, b, c⟩ := H
  exact ⟨⟨by omega, by omega⟩, c⟩
theorem q_told (hd : 712 ≤ d) (X : STx σ) (h80 : NM1 σ 80 (σ.1 62) (σ.1 62 + 1)) (hT : (σ.1 78 = -1 ∧ TM σ 79 (σ.1 62 + 1) (σ.1 39)) ∨ (σ.1 79 = -1 ∧ TM σ 78 (σ.1 62 + 1) (σ.1 39)) ∨ ∃ m, TM σ 79 (σ.1 62 + 1) m ∧ TM σ 78 m (σ.1 39)) : rsf (RF d 58 σ []) (fun s _ => DO σ s) := by
  rw [rq_told (by omega)]
  refine rsf_fin ?_
  unfold pf_told_0
  have X' := X
  obtain ⟨M, hN, h15, ⟨h51, h43, h59, h64⟩, H0, h72, _, h75⟩ := X'
  have n8 := H0.n8
  have b7 := M.2.1.2.2.2.2.2.2.1
  have b3 := M.2.1.2.2.1
  have b11 := M.2.1.2.2.2.2.2.2.2.2.2.2
  have g27 := M.2.2.1.1
  have e80 : σ.1 80 = σ.1 62 := by have := h80.1; have := h80.2.1; omega
  have x80 : NMx σ 80 := h80.x n8 (by omega)
  have x80' := x80.1
  have bad : ∀ {x y : Int}, (1 ≤ x ∧ x ≤ 14) → inR y → rsf (rf_cl (RF (d - 1) 3 σ [x, y]) (fun s3 z4 => pf_told_62 (RF (d - 1)) s3)) (fun s' b => inR b ∧ DO σ s') := fun {x y} hx hy => by
    refine rsf_cl (X.rn.wr (by omega) hN.1 hx hy) (fun s3 z4 f => ?_)
    obtain ⟨H3, nb, e2, n2⟩ := f
    exact q_told62 (by omega) h64 H3 H0 hN (by rw [n2 15 (by decide) (by decide)]; exact h15) (fun q => absurd q nb) (x80.eq (n2 80 (by decide) (by decide)) (by rw [e2]; exact ⟨rfl, rfl, rfl⟩)) (by rw [n2 80 (by decide) (by decide)]; exact e80) (fun q => absurd q nb)
  have t22 : rsf (pf_told_22 (RF (d - 1)) σ) (fun s' b => inR b ∧ DO σ s') := by
    unfold pf_told_22
    refine rsf_gi (fun z1 q1 => ?_)
    refine rsf_rd ⟨by omega, by show _ < ((140000 : Nat) : Int); omega⟩ (fun z2 q2 => ?_)
    exact bad ⟨by decide, by decide⟩ (q2 ▸ M.1.2 _ _)
  refine rsf_gi (fun z1 q1 => ?_)
  subst q1
  refine rsf_cl (q_knownOf (by omega) M.2.2.1 ⟨by omega, x80'.2⟩ x80.2) (fun s2 z3 f => ?_)
  obtain ⟨e2, f⟩ := f
  subst e2
  refine rsf_if (fun _ => t22) (fun c3 => ?_)
  refine rsf_gi (fun z5 q5 => ?_)
  subst q5
  refine rsf_cl (q_sortOf (by omega) M.2.2.1 ⟨by omega, x80'.2⟩ x80.2) (fun s6 z7 g => ?_)
  obtain ⟨e6, g⟩ := g
  subst e6
  refine rsf_if (fun c7 => ?_) (fun _ => t22)
  refine rsf_gi (fun z9 q9 => rsf_if (fun c9 => ?_) (fun c9 => ?_))
  · exact q_told62 (by omega) h64 X.rn H0 hN h15 (fun _ => by omega) x80 e80 (fun _ => hT)
  · refine rsf_gi (fun z11 q11 => ?_)
    refine rsf_rd ⟨by omega, by show _ < ((140000 : Nat) : Int); omega⟩ (fun z12 q12 => ?_)
    exact bad ⟨by decide, by decide⟩ (q12 ▸ M.1.2 _ _)
theorem DO.rn (X : STx σ) (H : RN R σ s) : DO σ s := by
  have b2 := H.1.2.1.2.1
  have h64 := X.2.2.2.1.2.2.2
  exact DO.of X.2.2.2.2.1 X.2.1.1 H.1 H.2.1 (by rw [H.2.2.1]; omega)
theorem DO.sy (X : STx σ) (H : RN R σ s) (Y : SY r (σ.1 62) s s') : DO σ s' := by
  obtain ⟨M, F, h75⟩ := Y
  have b2 := H.1.2.1.2.1
  have h64 := X.2.2.2.1.2.2.2
  have e75 := H.2.2.1
  exact DO.of X.2.2.2.2.1 X.2.1.1 M (H.2.1.trans F) (by omega)
theorem DO.pp {n : Int} (X : STx σ) (H : RN R σ s) (Y : PP r n s s') (hn : n ≤ 60) : DO σ s' := by
  obtain ⟨M, F, h75, n', _⟩ := Y
  have b2 := H.1.2.1.2.1
  have h64 := X.2.2.2.1.2.2.2
  have e75 := H.2.2.1
  have e64 := n' 64 (by decide)
  have l39 := H.2.2.2.2.1
  have hN := X.2.1
  exact DO.of X.2.2.2.2.1 X.2.1.1 M (H.2.1.trans ((F 0).kf (by omega))) (by omega)
theorem RN.rm (X : STx σ) (H : RN R σ s) : s.1 75 + 60 ≤ 100 * s.1 65 + 1000000 := by
  have h75 := X.2.2.2.2.2.2.2
  have e75 := H.2.2.1
  have D := H.2.1.2.2.2
  have b2 := H.1.2.1.2.1
  have h64 := X.2.2.2.1.2.2.2
  omega
theorem q_do141 (hd : 3 ≤ d) (X : STx σ) (H : RN R σ s) : rsf (pf_doStatement_141 (RF d) s) (fun s' b => inR b ∧ DO σ s') := by
  unfold pf_doStatement_141
  refine rsf_gi (fun z1 q1 => rsf_if (fun _ => ?_) (fun _ => ?_))
  · exact rsf_some ⟨⟨by decide, by decide⟩, DO.rn X H⟩
  · exact rsf_cl (q_yes (by omega) H.1 (by have := H.rm X; omega)) (fun s3 z4 f => rsf_some ⟨⟨by decide, by decide⟩, DO.pp X H f (by decide)⟩)
theorem q_do94 {t0 : Int} (hd : 710 ≤ d) (X : STx σ) (H : RN (R + (h - l)) σ s) (hR : 0 ≤ R) (h15 : s.1 15 ≠ 0) (T : TM s 78 l h) (hl : 8 ≤ l ∧ h ≤ s.1 39) (hz : h - l ≤ 8000) (W : s.1 72 = 0 → WSs s t0 none0) : rsf (pf_doStatement_94 (RF d) s t0) (fun s' b => inR b ∧ DO σ s') := by
  unfold pf_doStatement_94
  have hN := X.2.1.1
  have rg := T.rg
  refine rsf_gi (fun z1 q1 => ?_)
  subst q1
  refine rsf_cl (st_judge hd H hN h15 hR T hl hz) (fun s2 z3 f => ?_)
  obtain ⟨H2, F2, f2⟩ := f
  refine rsf_gi (fun z4 q4 => rsf_if (fun _ => q_do141 (by omega) X H2) (fun c4 => ?_))
  have c2 : s2.1 72 = 0 := by omega
  obtain ⟨c0, w, ty⟩ := f2 c2
  refine rsf_gi (fun z6 q6 => ?_)
  subst q6
  refine rsf_cl (st_compare (by omega) H2 hN c2 ((W c0).jf F2) ty.1) (fun s7 z8 u => ?_)
  obtain ⟨H7, F7, _⟩ := u
  refine rsf_if (fun _ => q_do141 (by omega) X H7) (fun _ => ?_)
  refine rsf_gi (fun z10 q10 => ?_)
  have e78 : s2.1 78 = s.1 78 := F2.1 78 rfl
  have f78 : s7.1 78 = s2.1 78 := F7.1 78 rfl
  have l2 := F2.2.2.1.1
  have l7 := F7.2.2.1.1
  have b7 := H7.1.2.1.2.2.2.2.2.2.1
  have b3 := H7.1.2.1.2.2.1
  have b11 := H7.1.2.1.2.2.2.2.2.2.2.2.2.2
  refine rsf_rd ⟨by omega, by show _ < ((140000 : Nat) : Int); omega⟩ (fun z11 q11 => ?_)
  refine rsf_cl (H7.wr (by omega) hN ⟨by decide, by decide⟩ (q11 ▸ H7.1.1.2 _ _)) (fun s12 z13 v => ?_)
  exact q_do141 (by omega) X v.1
theorem q_do20 (hd : 713 ≤ d) (X : STx σ) (h76 : σ.1 76 = -1 ∨ (3 ≤ σ.1 76 ∧ σ.1 76 ≤ 6)) : rsf (pf_doStatement_20 (RF d) σ) (fun s' b => inR b ∧ DO σ s') := by
  unfold pf_doStatement_20
  have X' := X
  obtain ⟨M, hN, h15, ⟨h51, h43, h59, h64⟩, H0, h72, so, h75⟩ := X'
  have n8 := H0.n8
  have H := X.rn
  have so1 : σ.1 76 = -1 → NM1 σ 80 (σ.1 62) (σ.1 62 + 1) ∧ ((σ.1 78 = -1 ∧ TM σ 79 (σ.1 62 + 1) (σ.1 39)) ∨ (σ.1 79 = -1 ∧ TM σ 78 (σ.1 62 + 1) (σ.1 39)) ∨ ∃ m, TM σ 79 (σ.1 62 + 1) m ∧ TM σ 78 m (σ.1 39)) := fun q => by
    rcases so with u | u | u | u | u
    · exact u.2
    · omega
    · omega
    · omega
    · omega
  have so2 : 3 ≤ σ.1 76 → (σ.1 79 = -1 ∧ σ.1 76 ≠ 5 ∧ TM σ 78 (σ.1 62) (σ.1 39)) ∨ ((σ.1 76 = 3 ∨ σ.1 76 = 5) ∧ ∃ m, TM σ 78 (σ.1 62) m ∧ TM σ 79 m (σ.1 39)) := fun q => by
    rcases so with u | u | u | u | u
    · omega
    · omega
    · omega
    · omega
    · exact u.2
  -- the term alone
  have one : σ.1 76 ≠ 5 → σ.1 79 < 0 → 3 ≤ σ.1 76 → TM σ 78 (σ.1 62) (σ.1 39) := fun q q9 q3 => by
    rcases so2 q3 with u | ⟨_, m, _, u⟩
    · exact u.2.2
    · have := u.rg; omega
  have Hj : ∀ {m : Int}, m ≤ σ.1 39 → σ.1 62 ≤ m → RN (16001 - (σ.1 39 - σ.1 62) - (m - σ.1 62) + (m - σ.1 62)) σ σ := fun {m} a b => H.le (by omega) (by omega)
  refine rsf_gi (fun z1 q1 => rsf_if (fun c3 => ?_) (fun c3 => ?_))
  · refine rsf_gi (fun z3 q3 => rsf_if (fun c9 => ?_) (fun c9 => ?_))
    · have T := one (by omega) (by omega) (by omega)
      refine rsf_gi (fun z5 q5 => ?_)
      subst q5
      refine rsf_cl (st_judge (by omega) (Hj (Int.le_refl _) hN.1) hN.1 h15 (by omega) T ⟨n8, Int.le_refl _⟩ hN.2) (fun s6 z7 f => ?_)
      obtain ⟨H6, F6, f6⟩ := f
      have l6 := H6.2.2.2.2.1
      refine rsf_gi (fun z8 q8 => ?_)
      subst q8
      refine rsf_cl (q_tellLine (N := σ.1 62) (by omega) H6.1 (by omega) (fun q => ⟨H6.2.2.2.2.2 q, (f6 q).2.2.1⟩)) (fun s9 z10 g => ?_)
      exact rsf_some ⟨⟨by decide, by decide⟩, DO.sy X H6 g⟩
    · obtain ⟨m, T1, T2⟩ : ∃ m, TM σ 78 (σ.1 62) m ∧ TM σ 79 m (σ.1 39) := by
        rcases so2 (by omega) with u | u
        · omega
        · exact u.2
      have r1 := T1.rg
      have r2 := T2.rg
      refine rsf_gi (fun z11 q11 => ?_)
      subst q11
      have H' : RN (16001 - (σ.1 39 - σ.1 62) - (σ.1 39 - m) + (σ.1 39 - m)) σ σ := H.le (by omega) (by omega)
      refine rsf_cl (st_sort (by omega) H' hN.1 h15 (by omega) h72 T2 ⟨by omega, Int.le_refl _⟩ (by omega)) (fun s12 z13 f => ?_)
      obtain ⟨hb, H12, F12, f12⟩ := f
      have l12 := F12.2.2.1.1
      have k15 : s12.1 15 ≠ 0 := by rw [F12.1 15 rfl]; exact h15
      have T12 : TM s12 78 (σ.1 62) m := tm_ag T1 (F12.ag (by omega) (by omega) (Or.inl (Int.le_refl _))) (F12.1 78 rfl)
      have eR : 16001 - (σ.1 39 - σ.1 62) - (σ.1 39 - m) = (16001 - (σ.1 39 - σ.1 62) - (σ.1 39 - σ.1 62)) + (m - σ.1 62) := by omega
      rw [eR] at H12
      refine rsf_gi (fun z14 q14 => rsf_if (fun c14 => ?_) (fun c14 => ?_))
      · exact q_do94 (by omega) X H12 (by omega) k15 T12 ⟨n8, by omega⟩ (by omega) (fun q => absurd (q14.symm.trans q) c14)
      · have c12 : s12.1 72 = 0 := by omega
        refine rsf_gi (fun z16 q16 => ?_)
        have q16' : z16 = σ.1 79 := by rw [← q16, F12.1 79 rfl]
        rw [q16']
        refine rsf_cl (st_normal (by omega) H12 hN.1 k15 c12 (f12 c12)) (fun s17 z18 g => ?_)
        obtain ⟨H17, F17, i18, g17⟩ := g
        have l17 := F17.2.2.1.1
        have T17 : TM s17 78 (σ.1 62) m := tm_ag T12 (F17.2.2.2.1.sub (by omega) (by omega)) (F17.1 78 rfl)
        exact q_do94 (by omega) X H17 (by omega) (by rw [F17.1 15 rfl]; exact k15) T17 ⟨n8, by omega⟩ (by omega) g17
  · refine rsf_if (fun c4 => ?_) (fun c4 => ?_)
    · have T : TM σ 78 (σ.1 62) (σ.1 39) := by
        rcases so2 (by omega) with u | u
        · exact u.2.2
        · omega
      refine rsf_gi (fun z5 q5 => ?_)
      subst q5
      refine rsf_cl (st_judge (by omega) (Hj (Int.le_refl _) hN.1) hN.1 h15 (by omega) T ⟨n8, Int.le_refl _⟩ hN.2) (fun s6 z7 f => ?_)
      obtain ⟨H6, F6, f6⟩ := f
      have l6 := H6.2.2.2.2.1
      refine rsf_gi (fun z8 q8 => ?_)
      have q8' : z8 = σ.1 78 := by rw [← q8, F6.1 78 rfl]
      rw [q8']
      refine rsf_cl (q_tellLine (N := σ.1 62) (by omega) H6.1 (by omega) (fun q => ⟨H6.2.2.2.2.2 q, (f6 q).2.1⟩)) (fun s9 z10 g => ?_)
      exact rsf_some ⟨⟨by decide, by decide⟩, DO.sy X H6 g⟩
    · refine rsf_if (fun c5 => ?_) (fun c5 => ?_)
      · obtain ⟨m, T1, T2⟩ : ∃ m, TM σ 78 (σ.1 62) m ∧ TM σ 79 m (σ.1 39) := by
          rcases so2 (by omega) with u | u
          · omega
          · exact u.2
        have r1 := T1.rg
        have r2 := T2.rg
        refine rsf_gi (fun z5 q5 => ?_)
        subst q5
        refine rsf_cl (st_judge (by omega) (Hj (m := m) (by omega) (by omega)) hN.1 h15 (by omega) T1 ⟨n8, by omega⟩ (by omega)) (fun s6 z7 f => ?_)
        obtain ⟨H6, F6, f6⟩ := f
        have l6 := F6.2.2.1.1
        have k15 : s6.1 15 ≠ 0 := by rw [F6.1 15 rfl]; exact h15
        have T6 : TM s6 79 m (σ.1 39) := tm_ag T2 (F6.ag (by omega) (by omega) (Or.inr (Int.le_refl _))) (F6.1 79 rfl)
        have eR : 16001 - (σ.1 39 - σ.1 62) - (m - σ.1 62) = (16001 - (σ.1 39 - σ.1 62) - (σ.1 39 - σ.1 62)) + (σ.1 39 - m) := by omega
        rw [eR] at H6
        refine rsf_gi (fun z30 q30 => ?_)
        subst q30
        refine rsf_cl (st_judge (by omega) H6 hN.1 k15 (by omega) T6 ⟨by omega, by omega⟩ (by omega)) (fun s31 z32 g => ?_)
        obtain ⟨H31, F31, f31⟩ := g
        refine rsf_gi (fun z33 q33 => rsf_if (fun _ => ?_) (fun c33 => ?_))
        · exact rsf_some ⟨⟨by decide, by decide⟩, DO.rn X H31⟩
        · have c31 : s31.1 72 = 0 := by omega
          obtain ⟨c6, w79, _⟩ := f31 c31
          obtain ⟨_, w78, _⟩ := f6 c6
          refine rsf_gi (fun z35 q35 => rsf_gi (fun z36 q36 => ?_))
          have q35' : z35 = σ.1 78 := by rw [← q35, F31.1 78 rfl, F6.1 78 rfl]
          have q36' : z36 = s6.1 79 := by rw [← q36, F31.1 79 rfl]
          rw [q35', q36']
          refine rsf_cl (st_compare (by omega) H31 hN.1 c31 (w78.jf F31) w79) (fun s37 z38 u => ?_)
          obtain ⟨H37, F37, _⟩ := u
          refine rsf_gi (fun z39 q39 => rsf_if (fun _ => ?_) (fun _ => ?_))
          · exact rsf_some ⟨⟨by decide, by decide⟩, DO.rn X H37⟩
          · exact rsf_cl (q_yes (by omega) H37.1 (by have := H37.rm X; omega)) (fun s41 z42 f => rsf_some ⟨⟨by decide, by decide⟩, DO.pp X H37 f (by decide)⟩)
      · refine rsf_if (fun c6 => ?_) (fun c6 => ?_)
        · have T : TM σ 78 (σ.1 62) (σ.1 39) := by
            rcases so2 (by omega) with u | u
            · exact u.2.2
            · omega
          refine rsf_gi (fun z5 q5 => ?_)
          subst q5
          refine rsf_cl (st_judge (by omega) (Hj (Int.le_refl _) hN.1) hN.1 h15 (by omega) T ⟨n8, Int.le_refl _⟩ hN.2) (fun s6 z7 f => ?_)
          obtain ⟨H6, F6, f6⟩ := f
          have l6 := H6.2.2.2.2.1
          refine rsf_cl (q_tellHead (N := σ.1 62) (by omega) H6.1 (by omega) (by have := H6.rm X; omega) (fun q => ⟨H6.2.2.2.2.2 q, by rw [F6.1 78 rfl]; exact (f6 q).2.1⟩)) (fun s9 z10 g => ?_)
          exact rsf_some ⟨⟨by decide, by decide⟩, DO.sy X H6 g⟩
        · have e : σ.1 76 = -1 := by omega
          obtain ⟨y1, y2⟩ := so1 e
          exact rsf_cl (q_told (by omega) X y1 y2) (fun s49 z50 g => rsf_some ⟨⟨by decide, by decide⟩, g⟩)
/-- a statement is done -/
theorem q_doStatement (hd : 714 ≤ d) (X : STx σ) : rsf (RF d 59 σ []) (fun s _ => DO σ s) := by
  rw [rq_doStatement (by omega)]
  refine rsf_fin ?_
  unfold pf_doStatement_0
  have X' := X
  obtain ⟨M, hN, h15, ⟨h51, h43, h59, h64⟩, H0, h72, so, h75⟩ := X'
  have n8 := H0.n8
  have b7 := M.2.1.2.2.2.2.2.2.1
  have b3 := M.2.1.2.2.1
  have b8 := M.2.1.2.2.2.2.2.2.2.1
  have b10 := M.2.1.2.2.2.2.2.2.2.2.2.1
  have b11 := M.2.1.2.2.2.2.2.2.2.2.2.2
  refine rsf_gi (fun z1 q1 => rsf_if (fun c1 => ?_) (fun c1 => ?_))
  · refine q_do20 (by omega) X (Or.inl ?_)
    rcases so with u | u | u | u | u <;> omega
  · refine rsf_gi (fun z3 q3 => rsf_if (fun c3 => ?_) (fun c3 => ?_))
    · refine q_do20 (by omega) X (Or.inr ?_)
      rcases so with u | u | u | u | u <;> omega
    · have TXs : TX σ := by
        refine ⟨M.1, M.2.2.1, b10, ?_, fun q => ?_, fun q q' => ?_⟩
        · rcases so with u | u | u | u | u
          · omega
          · exact u.2.x n8 (by omega)
          · exact u.2.1.x n8 (by omega)
          · exact u.2.1.x n8 (by omega)
          · omega
        · rcases so with u | u | u | u | u
          · omega
          · omega
          · exact u.2.2.x n8 (by omega)
          · exact u.2.2.1.x n8 (by omega)
          · omega
        · rcases so with u | u | u | u | u
          · omega
          · omega
          · omega
          · exact u.2.2.2.x n8 (by omega)
          · omega
      refine rsf_cl (q_tables (by omega) TXs) (fun s5 z6 f => ?_)
      obtain ⟨T5, g5⟩ := f
      refine rsf_some ⟨⟨by decide, by decide⟩, ?_⟩
      by_cases c27 : σ.1 27 = 0
      · exact T5.do H0 c27 h64 b3 b8.1 hN.1
      · obtain ⟨e2, e20⟩ := g5 c27
        obtain ⟨I5, n5, _, b72, _⟩ := T5
        have fr : ∀ j, j ≠ 72 → j ≠ 73 → s5.1 j = σ.1 j := fun j p q => by
          by_cases c : j = 20
          · rw [c]; exact e20
          · exact n5 j c p q
        obtain ⟨M5, F5, P5⟩ := M.wrong (w := 0) I5 e2 fr (fun q => absurd h72 q) b72
        refine DO.of H0 hN.1 M5 (F5.kf hN.1) ?_
        rw [fr 75 (by decide) (by decide), fr 64 (by decide) (by decide)]
        omega
end RDO
