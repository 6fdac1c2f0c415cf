section RTD
variable {σ σ' σ'' σ0 σh s s' : RS} {d : Nat} {S V T U A : Int → Prop} {r w w' lo hi sc ch l h R N : Int} {Q : RS → Int → Prop}
/-- a statement being done -/
def RN (R : Int) (σ s : RS) : Prop := M0 R s ∧ KF (σ.1 62) σ s ∧ s.1 75 = σ.1 75 ∧ (s.1 43 = 0 ∧ s.1 59 = 0) ∧ σ.1 39 ≤ s.1 39 ∧ (s.1 72 = 0 → s.1 51 = 0)
theorem RN.le {R' : Int} (h : RN R σ s) (h1 : R' ≤ R) (h0 : 0 ≤ R') : RN R' σ s := ⟨h.1.le h1 h0, h.2⟩
theorem RN.mf (H : RN R σ s) (hN : σ.1 62 ≤ σ.1 39) (M : M0 R s') (F : MF w s s') (h75 : s'.1 75 = s.1 75) (h51 : s'.1 72 = 0 → s'.1 51 = 0) : RN R σ s' := by
  obtain ⟨_, a2, a3, a4, a5, a6⟩ := H
  have l := F.2.2.1.1
  exact ⟨M, a2.trans (F.kf (by omega)), h75.trans a3, ⟨by rw [F.1 43 rfl]; exact a4.1, by rw [F.1 59 rfl]; exact a4.2⟩, by omega, h51⟩
theorem RN.wr {x y : Int} (hd : 1 ≤ d) (H : RN R σ s) (hN : σ.1 62 ≤ σ.1 39) (hx : 1 ≤ x ∧ x ≤ 14) (hy : inR y) : rsf (RF d 3 s [x, y]) (fun s' _ => RN R σ s' ∧ s'.1 72 ≠ 0 ∧ s'.2 = s.2 ∧ ∀ j, j ≠ 72 → j ≠ 73 → s'.1 j = s.1 j) := by
  refine rsf_mono (j_wrong (n := 0) hd H.1 hx hy) (fun s' _ f => ?_)
  obtain ⟨f1, f2, f3, f4, f5, _⟩ := f
  exact ⟨H.mf hN f1 (f2 0) (f3 75 (by decide) (by decide)) (fun q => absurd q f5), f5, f4, f3⟩
theorem tm_ag {k : Nat} (T : TM s k l h) (A : AG s.2 s'.2 l h) (e : s'.1 k = s.1 k) : TM s' k l h := by
  unfold TM at *
  rw [e]
  exact T.ag A
theorem st_judge {k : Nat} (hd : 710 ≤ d) (H : RN (R + (h - l)) σ s) (hN : σ.1 62 ≤ σ.1 39) (h15 : s.1 15 ≠ 0) (hR : 0 ≤ R) (T : TM s k l h) (hl : 8 ≤ l ∧ h ≤ s.1 39) (hz : h - l ≤ 8000) : rsf (RF d 49 s [s.1 k, 0]) (fun s' _ => RN R σ s' ∧ JF l h 0 0 s s' ∧ (s'.1 72 = 0 → s.1 72 = 0 ∧ WSs s' (s.1 k) none0 ∧ TY none0 s')) := by
  have rg := T.rg
  by_cases c : s.1 72 = 0
  · obtain ⟨a1, a2, a3, a4, a5, a6⟩ := H
    refine rsf_mono (q_judge 80 (by omega) (top_pre a1 hR h15 (a6 c) a4.1 a4.2 T hl hz)) (fun s' _ f => ?_)
    obtain ⟨M, F, e, g⟩ := f
    have F0 : JF l h 0 0 s s' := F.wide (Int.le_refl _) (Int.le_refl _) (by omega) (by omega)
    have l39 := F.2.2.1.1
    refine ⟨⟨M, a2.trans (F.kf (by omega)), by rw [F.1 75 rfl]; exact a3, ⟨by omega, by omega⟩, by omega, fun q => (g q).1⟩, F0, fun q => ⟨c, (g q).2.1.sub (sa_none a4.1), (g q).2.2⟩⟩
  · refine rsf_mono (q_judgeb (by omega) c) (fun s' _ e => ?_)
    subst e
    exact ⟨H.le (by omega) hR, JF.refl, fun q => absurd q c⟩
theorem st_sort {k : Nat} (hd : 711 ≤ d) (H : RN (R + (h - l)) σ s) (hN : σ.1 62 ≤ σ.1 39) (h15 : s.1 15 ≠ 0) (hR : 0 ≤ R) (c : s.1 72 = 0) (T : TM s k l h) (hl : 8 ≤ l ∧ h ≤ s.1 39) (hz : h - l ≤ 8000) : rsf (RF d 47 s [s.1 k, 0]) (fun s' b => (0 ≤ b ∧ b ≤ 7) ∧ RN R σ s' ∧ JF l h 0 0 s s' ∧ (s'.1 72 = 0 → WSs s' (s.1 k) none0)) := by
  obtain ⟨a1, a2, a3, a4, a5, a6⟩ := H
  refine rsf_mono (q_judgeSort (q_judge 80) (by omega) (top_pre a1 hR h15 (a6 c) a4.1 a4.2 T hl hz)) (fun s' b f => ?_)
  obtain ⟨hb, M, F, e, g⟩ := f
  have F0 : JF l h 0 0 s s' := F.wide (Int.le_refl _) (Int.le_refl _) (by omega) (by omega)
  have l39 := F.2.2.1.1
  exact ⟨hb, ⟨M, a2.trans (F.kf (by omega)), by rw [F.1 75 rfl]; exact a3, ⟨by omega, by omega⟩, by omega, fun q => (g q).1⟩, F0, fun q => (g q).2.1.sub (sa_none a4.1)⟩
theorem st_normal {t : Int} (hd : 106 ≤ d) (H : RN R σ s) (hN : σ.1 62 ≤ σ.1 39) (h15 : s.1 15 ≠ 0) (c : s.1 72 = 0) (W : WSs s t none0) : rsf (RF d 41 s [t, 0, 0]) (fun s' b => RN R σ s' ∧ MF 0 s s' ∧ inR b ∧ (s'.1 72 = 0 → WSs s' b none0)) := by
  have h51 := H.2.2.2.2.2 c
  refine rsf_mono (q_normal (S := none0) (V := none0) 100 (by omega) (by omega) (by omega) none0_R H.1 h15 (WT.zero h51) (co_ty W)) (fun s' b f => ?_)
  obtain ⟨N', hb, g⟩ := f
  have F := N'.1.2
  refine ⟨H.mf hN N'.1.1 F N'.2.2.2.2.2.1 (fun q => (g q).1.trans h51), F.le (by omega), hb, fun q => ?_⟩
  refine WS.sub (WSL.ws (g q).2) (fun x hx => ?_)
  rcases hx with hx | hx
  · exact hx
  · exact False.elim hx
theorem st_compare {t u : Int} (hd : 208 ≤ d) (H : RN R σ s) (hN : σ.1 62 ≤ σ.1 39) (c : s.1 72 = 0) (W : WSs s t none0) (W' : WSs s u none0) : rsf (RF d 35 s [t, 0, u, 0, 0]) (fun s' b => RN R σ s' ∧ MF 0 s s' ∧ (b = 0 ∨ b = 1)) := by
  have h51 := H.2.2.2.2.2 c
  refine rsf_mono (q_compare (S := none0) 100 (by omega) (by omega) (by omega) H.1 (WT.zero h51) (co_ty W) (co_ty W')) (fun s' b f => ?_)
  obtain ⟨hb, ⟨M, F, P⟩, j51, _⟩ := f
  exact ⟨H.mf hN M F P.2.2.2.2.1 (fun _ => by omega), F.le (by omega), hb⟩
theorem NMx.eq {k : Nat} (H : NMx s k) (e : s'.1 k = s.1 k) (A : s'.2 30 (s.1 k).toNat = s.2 30 (s.1 k).toNat ∧ s'.2 31 (s.1 k).toNat = s.2 31 (s.1 k).toNat ∧ s'.2 32 (s.1 k).toNat = s.2 32 (s.1 k).toNat) : NMx s' k := by
  unfold NMx NMr at *
  rw [e, A.1, A.2.1, A.2.2]
  exact H
theorem NMx.jf {k : Nat} (H : NMx s k) (F : JF l h sc ch s s') (hk : k = 80) (h39 : s.1 k < s.1 39) (hn : s.1 k < l ∨ h ≤ s.1 k) : NMx s' k := by
  subst hk
  have h8 := H.1
  obtain ⟨a1, a2, a3, _⟩ := F.2.2.2.1 (s.1 80) (by omega) h39 (fun z => by omega)
  exact H.eq (F.1 80 rfl) ⟨a1, a2, a3⟩
theorem NMx.mf {k : Nat} (H : NMx s k) (F : MF w s s') (hk : k = 80) (h39 : s.1 k < s.1 39) : NMx s' k := by
  subst hk
  have h8 := H.1
  obtain ⟨a1, a2, a3, _⟩ := F.2.2.2.1 (s.1 80) (by omega) h39
  exact H.eq (F.1 80 rfl) ⟨a1, a2, a3⟩
/-- the last of a telling -/
theorem q_told175 {x1 x2 : Int} (hd : 1 ≤ d) (h64 : σ.1 64 = 0) (H : RN R σ s) (H0 : HG (σ.1 62) σ) (hN : σ.1 62 ≤ σ.1 39) (hR : 16001 - 2 * (σ.1 39 - σ.1 62) ≤ R) (h27 : s.1 72 = 0 → s.1 27 < 100) (h80 : NMx s 80) (i1 : inR x1) (i2 : inR x2) (g1 : s.1 72 = 0 → 0 ≤ s.1 79 → (0 ≤ x1 ∧ x1 ≤ 7) ∧ WSs s x2 none0) (g2 : s.1 72 = 0 → s.1 79 < 0 → TY none0 s) (g3 : s.1 72 = 0 → s.1 78 < 0 ∨ WSs s (s.1 78) none0) : rsf (pf_told_175 (RF d) s x1 x2) (fun s' b => inR b ∧ DO σ s') := by
  unfold pf_told_175
  obtain ⟨M, F, e75, e43, l39, h51⟩ := H
  have e62 : s.1 62 = σ.1 62 := F.1 62 rfl (by decide)
  have e27 : s.1 27 = σ.1 27 := F.1 27 rfl (by decide)
  have HGs : HG (σ.1 62) s := H0.kf F M
  have fin : ∀ {s3 : RS}, M0 R s3 → KF (σ.1 62) σ s3 → s3.1 75 = σ.1 75 → s3.1 39 = s.1 39 → s3.1 72 = 0 → s3.1 27 < 100 → NMx s3 80 → TY none0 s3 → (s3.1 78 < 0 ∨ WSs s3 (s3.1 78) none0) → rsf (pf_told_196 (RF d) s3) (fun s' b => inR b ∧ DO σ s') := by
    intro s3 M3 F3 v75 v39 v72 v27 v80 vT v78
    unfold pf_told_196
    have m2 := v80.2.2.2.1
    have f62 : s3.1 62 = σ.1 62 := F3.1 62 rfl (by decide)
    have f27 : s3.1 27 = σ.1 27 := F3.1 27 rfl (by decide)
    refine rsf_mono (q_told198 (N := σ.1 62) 200000 M3.1 (H0.kf F3 M3) (by omega) v27 v80 vT.1 vT.2 v78 ⟨by omega, by omega⟩ (by omega) (by omega)) (fun s' b u => ⟨u.1, ?_⟩)
    obtain ⟨y1, y2, y3, y4, y5, y6⟩ := u.2
    obtain ⟨b1, b2, b3, b4, b5, b6, b7, b8, b9, b10, b11⟩ := M3.2.1
    have w72 := y2 72 (by decide) (by decide)
    have w65 := y2 65 (by decide) (by decide)
    have w64 := y2 64 (by decide) (by decide)
    have w75 := y2 75 (by decide) (by decide)
    have D := F3.2.2.2
    refine ⟨y1, fun j hj => ?_, fun k hk => ?_, by omega, ⟨by omega, by omega, by omega⟩, ⟨by omega, by omega⟩, y6, by omega, by omega⟩
    · have q := dn_jn hj
      rw [y2 j q.2.2.2.1 q.2.2.2.2]
      exact F3.1 j q.1 q.2.1
    · have hk' : k < 21 ∨ 26 < k := by
        by_cases c : k < 21 ∨ 26 < k
        · exact c
        · have : k = 21 ∨ k = 22 ∨ k = 23 ∨ k = 24 ∨ k = 25 ∨ k = 26 := by omega
          rcases this with rfl | rfl | rfl | rfl | rfl | rfl <;> cases hk
      rw [y3 k hk']
      exact F3.2.1 k (da_ja hk)
  refine rsf_gi (fun z1 q1 => rsf_if (fun c => ?_) (fun c => ?_))
  · have c0 : s.1 72 = 0 := q1.trans c
    refine rsf_gi (fun z3 q3 => rsf_if (fun c3 => ?_) (fun c3 => ?_))
    · exact fin M F e75 rfl c0 (h27 c0) h80 (g2 c0 (by omega)) (g3 c0)
    · obtain ⟨y1, y2⟩ := g1 c0 (by omega)
      refine rsf_cl (q_becomes hd M i2 i1) (fun s5 z6 f => ?_)
      obtain ⟨M5, F5, e5, n5, v60, v61⟩ := f
      have F5' := F5 0 0 0 0
      have n78 := n5 78 (by decide) (by decide)
      refine fin M5 (F.trans (F5'.kf (by omega))) (by rw [n5 75 (by decide) (by decide)]; exact e75) (n5 39 (by decide) (by decide)) (by rw [n5 72 (by decide) (by decide)]; exact c0) (by rw [n5 27 (by decide) (by decide)]; exact h27 c0) (h80.eq (n5 80 (by decide) (by decide)) (by rw [e5]; exact ⟨rfl, rfl, rfl⟩)) ⟨by rw [v60]; exact y2.jf F5', by omega⟩ ?_
      rw [n78]
      rcases g3 c0 with q | q
      · exact Or.inl q
      · exact Or.inr (q.jf F5')
  · have b2 := M.2.1.2.1
    exact rsf_some ⟨⟨by decide, by decide⟩, DO.of H0 hN M F (by omega)⟩
theorem q_told108 {x1 x2 : Int} (hd : 710 ≤ d) (h64 : σ.1 64 = 0) (H : RN R σ s) (H0 : HG (σ.1 62) σ) (hN : σ.1 62 ≤ σ.1 39) (h15 : s.1 15 ≠ 0) (hR : 16001 - 2 * (σ.1 39 - σ.1 62) ≤ R) (h27 : s.1 72 = 0 → s.1 27 < 100) (h80 : NMx s 80) (i1 : inR x1) (i2 : inR x2) (g1 : s.1 72 = 0 → 0 ≤ s.1 79 → (0 ≤ x1 ∧ x1 ≤ 7) ∧ WSs s x2 none0) (hT : s.1 72 = 0 → (s.1 78 < 0 ∧ 0 ≤ s.1 79) ∨ (0 ≤ s.1 78 ∧ ∃ l h R2, R = R2 + (h - l) ∧ 0 ≤ R2 ∧ 16001 - 2 * (σ.1 39 - σ.1 62) ≤ R2 ∧ TM s 78 l h ∧ (8 ≤ l ∧ h ≤ s.1 39) ∧ h - l ≤ 8000 ∧ (s.1 80 < s.1 39 ∧ (s.1 80 < l ∨ h ≤ s.1 80)))) : rsf (pf_told_108 (RF d) s x1 x2) (fun s' b => inR b ∧ DO σ s') := by
  unfold pf_told_108
  refine rsf_gi (fun z1 q1 => rsf_if (fun c => ?_) (fun c => ?_))
  · have nb : ¬ s.1 72 = 0 := fun q => c (q1.symm.trans q)
    exact q_told175 (by omega) h64 H H0 hN hR h27 h80 i1 i2 (fun q => absurd q nb) (fun q => absurd q nb) (fun q => absurd q nb)
  · have c0 : s.1 72 = 0 := by omega
    refine rsf_gi (fun z3 q3 => rsf_if (fun c3 => ?_) (fun c3 => ?_))
    · refine q_told175 (by omega) h64 H H0 hN hR h27 h80 i1 i2 g1 (fun _ q => ?_) (fun _ => Or.inl (by omega))
      rcases hT c0 with u | u <;> omega
    · obtain ⟨l, h, R2, eR, r0, r1, T, hl, hz, h8⟩ : ∃ l h R2, R = R2 + (h - l) ∧ 0 ≤ R2 ∧ 16001 - 2 * (σ.1 39 - σ.1 62) ≤ R2 ∧ TM s 78 l h ∧ (8 ≤ l ∧ h ≤ s.1 39) ∧ h - l ≤ 8000 ∧ (s.1 80 < s.1 39 ∧ (s.1 80 < l ∨ h ≤ s.1 80)) := by
        rcases hT c0 with u | u
        · omega
        · exact u.2
      refine rsf_gi (fun z5 q5 => ?_)
      subst q5
      rw [eR] at H
      refine rsf_cl (st_judge (by omega) H hN h15 r0 T hl hz) (fun s6 z7 f => ?_)
      obtain ⟨H6, F6, f6⟩ := f
      have e27 : s6.1 27 = s.1 27 := F6.1 27 rfl
      have e78 : s6.1 78 = s.1 78 := F6.1 78 rfl
      have e79 : s6.1 79 = s.1 79 := F6.1 79 rfl
      have n80 : NMx s6 80 := h80.jf F6 rfl h8.1 h8.2
      refine rsf_gi (fun z8 q8 => rsf_if (fun c8 => ?_) (fun c8 => ?_))
      · have nb : ¬ s6.1 72 = 0 := fun q => c8 (q8.symm.trans q)
        exact q_told175 (by omega) h64 H6 H0 hN r1 (fun q => absurd q nb) n80 i1 i2 (fun q => absurd q nb) (fun q => absurd q nb) (fun q => absurd q nb)
      · have c6 : s6.1 72 = 0 := by omega
        obtain ⟨_, w78, ty⟩ := f6 c6
        have k27 := h27 c0
        refine rsf_gi (fun z10 q10 => rsf_if (fun c10 => ?_) (fun c10 => ?_))
        · exact q_told175 (by omega) h64 H6 H0 hN r1 (fun _ => by omega) n80 i1 i2 (fun _ q => by omega) (fun _ _ => ty) (fun _ => Or.inr (by rw [e78]; exact w78))
        · obtain ⟨y1, y2⟩ := g1 c0 (by omega)
          refine rsf_gi (fun z12 q12 => ?_)
          subst q12
          refine rsf_cl (st_compare (by omega) H6 hN c6 (y2.jf F6) ty.1) (fun s13 z14 u => ?_)
          obtain ⟨H13, F13, _⟩ := u
          have l6 := F6.2.2.1.1
          have e80 : s6.1 80 = s.1 80 := F6.1 80 rfl
          have m80 : NMx s13 80 := n80.mf F13 rfl (by omega)
          have m27 : s13.1 27 = s6.1 27 := F13.1 27 rfl
          have m78 : s13.1 78 = s6.1 78 := F13.1 78 rfl
          have m79 : s13.1 79 = s6.1 79 := F13.1 79 rfl
          refine rsf_if (fun c14 => ?_) (fun c14 => ?_)
          · exact q_told175 (by omega) h64 H13 H0 hN r1 (fun _ => by omega) m80 i1 i2 (fun _ _ => ⟨y1, (y2.jf F6).mf F13⟩) (fun _ q => by omega) (fun _ => Or.inr (by rw [m78, e78]; exact w78.mf F13))
          · refine rsf_gi (fun z16 q16 => ?_)
            have rg := T.rg
            have l13 := F13.2.2.1.1
            have b7 := H13.1.2.1.2.2.2.2.2.2.1
            have b3 := H13.1.2.1.2.2.1
            have b11 := H13.1.2.1.2.2.2.2.2.2.2.2.2.2
            refine rsf_rd ⟨by omega, by show _ < ((140000 : Nat) : Int); omega⟩ (fun z17 q17 => ?_)
            refine rsf_cl (H13.wr (by omega) hN ⟨by decide, by decide⟩ (q17 ▸ H13.1.1.2 _ _)) (fun s18 z19 v => ?_)
            obtain ⟨H18, nb, e2, n2⟩ := v
            exact q_told175 (by omega) h64 H18 H0 hN r1 (fun q => absurd q nb) (m80.eq (n2 80 (by decide) (by decide)) (by rw [e2]; exact ⟨rfl, rfl, rfl⟩)) i1 i2 (fun q => absurd q nb) (fun q => absurd q nb) (fun q => absurd q nb)
theorem q_told62 (hd : 711 ≤ d) (h64 : σ.1 64 = 0) (H : RN (16001 - (σ.1 39 - σ.1 62)) σ s) (H0 : HG (σ.1 62) σ) (hN : σ.1 62 ≤ σ.1 39 ∧ σ.1 39 - σ.1 62 ≤ 8000) (h15 : s.1 15 ≠ 0) (h27 : s.1 72 = 0 → s.1 27 < 100) (h80 : NMx s 80) (h8 : s.1 80 = σ.1 62) (hT : s.1 72 = 0 → (s.1 78 = -1 ∧ TM s 79 (σ.1 62 + 1) (σ.1 39)) ∨ (s.1 79 = -1 ∧ TM s 78 (σ.1 62 + 1) (σ.1 39)) ∨ ∃ m, TM s 79 (σ.1 62 + 1) m ∧ TM s 78 m (σ.1 39)) : rsf (pf_told_62 (RF d) s) (fun s' b => inR b ∧ DO σ s') := by
  unfold pf_told_62
  have hN' := hN.1
  have z0 : inR 0 := ⟨by decide, by decide⟩
  have n8 := H0.n8
  have l39 := H.2.2.2.2.1
  refine rsf_gi (fun z1 q1 => rsf_if (fun c => ?_) (fun c => ?_))
  · have nb : ¬ s.1 72 = 0 := fun q => c (q1.symm.trans q)
    exact q_told108 (by omega) h64 H H0 hN' h15 (by omega) (fun q => absurd q nb) h80 z0 z0 (fun q => absurd q nb) (fun q => absurd q nb)
  · have c0 : s.1 72 = 0 := by omega
    have hT0 := hT c0
    refine rsf_gi (fun z3 q3 => rsf_if (fun c3 => ?_) (fun c3 => ?_))
    · refine q_told108 (by omega) h64 H H0 hN' h15 (by omega) h27 h80 z0 z0 (fun _ q => by omega) (fun _ => ?_)
      rcases hT0 with ⟨_, T⟩ | ⟨_, T⟩ | ⟨m, T, _⟩
      · have := T.rg; omega
      · have rg := T.rg
        exact Or.inr ⟨by omega, σ.1 62 + 1, σ.1 39, 16001 - (σ.1 39 - σ.1 62) - (σ.1 39 - (σ.1 62 + 1)), by omega, by omega, by omega, T, ⟨by omega, by omega⟩, by omega, by omega, Or.inl (by omega)⟩
      · have := T.rg; omega
    · -- the type is told
      have go : ∀ {m R1 : Int}, TM s 79 (σ.1 62 + 1) m → m ≤ σ.1 39 → R1 = 16001 - (σ.1 39 - σ.1 62) - (m - (σ.1 62 + 1)) → (∀ {s' : RS}, s'.1 78 = s.1 78 → AG s.2 s'.2 m (σ.1 39) → s.1 39 ≤ s'.1 39 → s'.1 80 = s.1 80 → (s'.1 78 < 0 ∧ 0 ≤ s.1 79) ∨ (0 ≤ s'.1 78 ∧ ∃ l h R2, R1 = R2 + (h - l) ∧ 0 ≤ R2 ∧ 16001 - 2 * (σ.1 39 - σ.1 62) ≤ R2 ∧ TM s' 78 l h ∧ (8 ≤ l ∧ h ≤ s'.1 39) ∧ h - l ≤ 8000 ∧ (s'.1 80 < s'.1 39 ∧ (s'.1 80 < l ∨ h ≤ s'.1 80)))) → rsf (rf_gi s 79 (fun z5 => rf_cl (RF d 47 s [z5, 0]) (fun σ6 z7 => rf_gi σ6 72 (fun z8 => (if ¬ z8 = 0 then pf_told_108 (RF d) σ6 z7 0 else rf_gi σ6 79 (fun z10 => rf_cl (RF d 41 σ6 [z10, 0, 0]) (fun σ11 z12 => pf_told_108 (RF d) σ11 z7 z12))))))) (fun s' b => inR b ∧ DO σ s') := by
        intro m R1 T hm eR hT'
        have rg := T.rg
        refine rsf_gi (fun z5 q5 => ?_)
        subst q5
        have H' : RN (R1 + (m - (σ.1 62 + 1))) σ s := by rw [eR]; exact H.le (by omega) (by omega)
        refine rsf_cl (st_sort hd H' hN' h15 (by omega) c0 T ⟨by omega, by omega⟩ (by omega)) (fun s6 z7 f => ?_)
        obtain ⟨hb, H6, F6, f6⟩ := f
        have e27 : s6.1 27 = s.1 27 := F6.1 27 rfl
        have e78 : s6.1 78 = s.1 78 := F6.1 78 rfl
        have e79 : s6.1 79 = s.1 79 := F6.1 79 rfl
        have e80 : s6.1 80 = s.1 80 := F6.1 80 rfl
        have l6 := F6.2.2.1.1
        have n80 : NMx s6 80 := h80.jf F6 rfl (by omega) (Or.inl (by omega))
        have k15 : s6.1 15 ≠ 0 := by rw [F6.1 15 rfl]; exact h15
        have A6 : AG s.2 s6.2 m (σ.1 39) := F6.ag (by omega) (by omega) (Or.inr (Int.le_refl _))
        have ib : inR z7 := ⟨by omega, by omega⟩
        refine rsf_gi (fun z8 q8 => rsf_if (fun c8 => ?_) (fun c8 => ?_))
        · have nb : ¬ s6.1 72 = 0 := fun q => c8 (q8.symm.trans q)
          exact q_told108 (by omega) h64 H6 H0 hN' k15 (by omega) (fun q => absurd q nb) n80 ib z0 (fun q => absurd q nb) (fun q => absurd q nb)
        · have c6 : s6.1 72 = 0 := by omega
          have w79 := f6 c6
          refine rsf_gi (fun z10 q10 => ?_)
          have q10' : z10 = s.1 79 := by rw [← q10]; exact e79
          rw [q10']
          refine rsf_cl (st_normal (by omega) H6 hN' k15 c6 w79) (fun s11 z12 g => ?_)
          obtain ⟨H11, F11, i12, g11⟩ := g
          have f27 : s11.1 27 = s6.1 27 := F11.1 27 rfl
          have f78 : s11.1 78 = s6.1 78 := F11.1 78 rfl
          have f79 : s11.1 79 = s6.1 79 := F11.1 79 rfl
          have f80 : s11.1 80 = s6.1 80 := F11.1 80 rfl
          have l11 := F11.2.2.1.1
          have k27 := h27 c0
          refine q_told108 (by omega) h64 H11 H0 hN' (by rw [F11.1 15 rfl]; exact k15) (by omega) (fun _ => by omega) (n80.mf F11 rfl (by omega)) ib i12 (fun q _ => ⟨hb, g11 q⟩) (fun _ => ?_)
          have u := hT' (s' := s11) (by omega) (A6.trans (F11.2.2.2.1.sub (by omega) (by omega))) (by omega) (by omega)
          have f79' : s11.1 79 = s.1 79 := by omega
          rw [f79']
          exact u
      rcases hT0 with ⟨u78, T⟩ | ⟨u79, T⟩ | ⟨m, T, T2⟩
      · exact go T (Int.le_refl _) rfl (fun {s'} a _ _ _ => Or.inl ⟨by omega, by omega⟩)
      · omega
      · have r1 := T.rg
        have r2 := T2.rg
        refine go T (by omega) rfl (fun {s'} a b c' e => Or.inr ⟨by omega, m, σ.1 39, 16001 - (σ.1 39 - σ.1 62) - (m - (σ.1 62 + 1)) - (σ.1 39 - m), by omega, by omega, by omega, tm_ag T2 b a, ⟨by omega, by omega⟩, by omega, by omega, Or.inl (by omega)⟩)
end RTD
