section RSY
variable {σ σ' σ'' σ0 σh s : RS} {d : Nat} {S V T U A : Int → Prop} {r w w' lo hi sc ch l R N : Int} {Q : RS → Int → Prop}
/-- what the doing of a statement leaves, but for the tables and the known -/
def KF (N : Int) (σ s : RS) : Prop := (∀ j, jn j = false → j ≠ 75 → s.1 j = σ.1 j) ∧ (∀ k, ja k = false → s.2 k = σ.2 k) ∧ NFr σ.2 s.2 N ∧ s.1 65 - s.1 64 = σ.1 65 - σ.1 64
theorem JF.kf (F : JF lo hi sc ch σ s) (h : N ≤ σ.1 39) : KF N σ s := ⟨fun j hj _ => F.1 j hj, F.2.1, fun q q0 q1 => F.nf q q0 (by omega), F.2.2.2.2.2.2.2.2.2⟩
theorem MF.kf (F : MF w σ s) (h : N ≤ σ.1 39) : KF N σ s := by
  refine ⟨fun j hj h75 => ?_, fun k hk => F.2.1 k (ja_ma hk), fun q q0 q1 q2 => F.2.2.2.1 q q0 (by omega), F.2.2.2.2.2.2.2⟩
  rcases jn_mn hj with q | q
  · exact F.1 j q
  · exact absurd q h75
theorem KF.trans (h : KF N σ σ') (k : KF N σ' σ'') : KF N σ σ'' := by
  obtain ⟨a1, a2, a3, a4⟩ := h
  obtain ⟨b1, b2, b3, b4⟩ := k
  refine ⟨fun j hj h75 => (b1 j hj h75).trans (a1 j hj h75), fun k hk => (b2 k hk).trans (a2 k hk), fun q q0 q1 q2 => ?_, b4.trans a4⟩
  obtain ⟨c1, c2, c3, c4, c5⟩ := a3 q q0 q1 q2
  obtain ⟨d1, d2, d3, d4, d5⟩ := b3 q q0 q1 (by rw [c1]; exact q2)
  exact ⟨d1.trans c1, d2.trans c2, d3.trans c3, d4.trans c4, d5.trans c5⟩
theorem KF.refl : KF N σ σ := ⟨fun _ _ _ => rfl, fun _ _ => rfl, fun _ _ _ _ => ⟨rfl, rfl, rfl, rfl, rfl⟩, rfl⟩
theorem HG.kf (H : HG N σ) (F : KF N σ s) (M : M0 r s) : HG N s := H.fr F.2.2.1 M.2.2.1 M.2.2.2.2 (F.1 27 rfl (by decide)) (F.2.1 23 rfl) (F.2.1 25 rfl) (F.2.1 26 rfl)
/-- a statement's term, before it is judged -/
theorem top_pre {k : Nat} {h : Int} (M : M0 (R + (h - l)) σ) (hR : 0 ≤ R) (h15 : σ.1 15 ≠ 0) (h51 : σ.1 51 = 0) (h43 : σ.1 43 = 0) (h59 : σ.1 59 = 0) (T : TM σ k l h) (hl : 8 ≤ l ∧ h ≤ σ.1 39) (hz : h - l ≤ 8000) : JPre R none0 80 (σ.1 k) l h 0 σ :=
  ⟨⟨M, hR⟩, h15, h51, T, hl, fun k k0 k1 => by omega, ⟨by omega, by omega⟩, ⟨by omega, by omega⟩, WC.zero, fun x hx => by
    obtain ⟨k, k0, k1, _⟩ := hx
    omega⟩
theorem sa_none (h43 : σ.1 43 = 0) : ∀ x, SA σ x → none0 x := fun x hx => by
  obtain ⟨k, k0, k1, _⟩ := hx
  omega
theorem q_judgeb {n c : Int} (hd : 1 ≤ d) (h72 : σ.1 72 ≠ 0) : rsf (RF d 49 σ [n, c]) (fun s _ => s = σ) := by
  rw [rq_judge (by omega)]
  refine rsf_fin ?_
  unfold pf_judge_0
  exact rsf_gi (fun z1 q1 => rsf_if (fun c1 => absurd (q1.trans c1) h72) (fun _ => rsf_some ⟨⟨by decide, by decide⟩, rfl⟩))
theorem q_headb {x1 x2 : Int} (hd : 1 ≤ d) (M : M0 r σ) (h72 : σ.1 72 ≠ 0) (h1 : inR x1) (h2 : inR x2) : rsf (RF d 32 σ [x1, x2]) (fun s _ => M0 r s ∧ (∀ w, MF w σ s) ∧ (s.1 75 = σ.1 75 ∧ s.1 64 = σ.1 64) ∧ s.1 72 ≠ 0) := by
  rw [rq_head (by omega)]
  refine rsf_fin ?_
  unfold pf_head_0
  refine rsf_gi (fun z1 q1 => rsf_gi (fun z2 q2 => rsf_if (fun _ => ?_) (fun c => absurd (q2.trans (by omega)) h72)))
  unfold pf_head_23
  show rsf (pf_head_25 (RF (d - 1)) (199999 + 1) σ z1 x1 x2 0) _
  unfold pf_head_25
  refine rsf_if (fun _ => ?_) (fun c => absurd rfl c)
  refine rsf_pi (fun s2 w2 => rsf_pi (fun s3 w3 => ?_))
  obtain ⟨M2, _, P2⟩ := M.p (w := 0) w2 rfl h1
  obtain ⟨M3, _, P3⟩ := M2.p (w := 0) w3 rfl h2
  exact rsf_some ⟨⟨by decide, by decide⟩, M3, fun w => (MF.p w2 rfl (by decide) (by decide) (by decide)).trans (MF.p w3 rfl (by decide) (by decide) (by decide)), ⟨by rw [rs_i_n w3 (by decide), rs_i_n w2 (by decide)], by rw [rs_i_n w3 (by decide), rs_i_n w2 (by decide)]⟩, by rw [rs_i_n w3 (by decide), rs_i_n w2 (by decide)]; exact h72⟩
theorem q_yes {x : Int} (hd : 2 ≤ d) (M : M0 r σ) (h : σ.1 75 + 4 ≤ 100 * σ.1 65 + 1000000) : rsf (RF d 57 σ [x]) (fun s _ => PP r 4 σ s) := by
  rw [rq_yes (by omega)]
  refine rsf_fin ?_
  unfold pf_yes_0
  refine rsf_if (fun _ => ?_) (fun _ => ?_)
  · refine rsf_cl (q_put (by omega) M (by omega) ⟨by decide, by decide⟩) (fun s2 z3 f2 => ?_)
    have a2 := f2.2.2.1
    have e2 := f2.2.2.2.1 65 (by decide)
    refine rsf_cl (q_put (by omega) f2.1 (by omega) ⟨by decide, by decide⟩) (fun s4 z5 f4 => ?_)
    have a4 := f4.2.2.1
    have e4 := f4.2.2.2.1 65 (by decide)
    unfold pf_yes_37
    refine rsf_cl (q_put (by omega) f4.1 (by omega) ⟨by decide, by decide⟩) (fun s6 z7 f6 => ?_)
    have p := (f2.trans f4).trans f6
    obtain ⟨y1, y2, y3, y4, y5⟩ := p
    exact rsf_some ⟨⟨by decide, by decide⟩, y1, y2, by omega, y4, y5⟩
  · refine rsf_cl (q_put (by omega) M (by omega) ⟨by decide, by decide⟩) (fun s2 z3 f2 => ?_)
    have a2 := f2.2.2.1
    have e2 := f2.2.2.2.1 65 (by decide)
    refine rsf_cl (q_put (by omega) f2.1 (by omega) ⟨by decide, by decide⟩) (fun s4 z5 f4 => ?_)
    have a4 := f4.2.2.1
    have e4 := f4.2.2.2.1 65 (by decide)
    refine rsf_cl (q_put (by omega) f4.1 (by omega) ⟨by decide, by decide⟩) (fun s5 z6 f5 => ?_)
    have a5 := f5.2.2.1
    have e5 := f5.2.2.2.1 65 (by decide)
    unfold pf_yes_37
    refine rsf_cl (q_put (by omega) f5.1 (by omega) ⟨by decide, by decide⟩) (fun s6 z7 f6 => ?_)
    have p := ((f2.trans f4).trans f5).trans f6
    obtain ⟨y1, y2, y3, y4, y5⟩ := p
    exact rsf_some ⟨⟨by decide, by decide⟩, y1, y2, by omega, y4, y5⟩
/-- what a statement's answer comes to -/
def SY (r N : Int) (σ s : RS) : Prop := M0 r s ∧ KF N σ s ∧ s.1 75 ≤ σ.1 75 + 100 * (s.1 64 - σ.1 64) + 30
theorem q_tellLine {t : Int} (hd : 115 ≤ d) (M : M0 r σ) (hN : N ≤ σ.1 39) (H : σ.1 72 = 0 → σ.1 51 = 0 ∧ WSs σ t none0) : rsf (RF d 60 σ [t]) (fun s _ => SY r N σ s) := by
  rw [rq_tellLine (by omega)]
  refine rsf_fin ?_
  unfold pf_tellLine_0
  refine rsf_gi (fun z1 q1 => rsf_if (fun c1 => ?_) (fun c1 => ?_))
  · obtain ⟨h51, hW⟩ := H (q1.trans c1)
    refine rsf_cl (q_tell 100 (by omega) (by omega) (by omega) ⟨by omega, by omega⟩ M (WT.zero h51) (co_ty hW)) (fun s3 z4 f => ?_)
    obtain ⟨T3, g3⟩ := f
    have a3 := T3.2.1
    refine rsf_gi (fun z5 q5 => rsf_if (fun c5 => ?_) (fun c5 => ?_))
    · exact rsf_some ⟨⟨by decide, by decide⟩, T3.1.1, T3.1.2.kf hN, by omega⟩
    · obtain ⟨_, T3'⟩ := g3 (by omega)
      refine rsf_cl (q_put (by omega) T3.1.1 (by have := T3'.rm M.2.1; omega) ⟨by decide, by decide⟩) (fun s7 z8 f7 => ?_)
      have T7 := T3'.pp f7
      have a7 := T7.2.1
      exact rsf_some ⟨⟨by decide, by decide⟩, T7.1.1, T7.1.2.kf hN, by omega⟩
  · exact rsf_some ⟨⟨by decide, by decide⟩, M, KF.refl, by omega⟩
theorem q_tellHead130 {e : Int} (hd : 11 ≤ d) (M : M0 r σ) (h : σ.1 75 + 12 ≤ 100 * σ.1 65 + 1000000) (_ : e = e) : rsf (pf_tellHead_130 (RF d) σ) (fun s b => inR b ∧ PP r 12 σ s) := by
  unfold pf_tellHead_130
  refine rsf_cl (q_put (by omega) M (by omega) ⟨by decide, by decide⟩) (fun s1 z2 f1 => ?_)
  have a1 := f1.2.2.1
  have e1 := f1.2.2.2.1 65 (by decide)
  refine rsf_gi (fun z3 q3 => ?_)
  refine rsf_cl (q_number (by omega) f1.1 (q3 ▸ f1.1.1.1 51) (by omega)) (fun s4 z5 f4 => ?_)
  have a4 := f4.2.2.1
  have e4 := f4.2.2.2.1 65 (by decide)
  refine rsf_cl (q_put (by omega) f4.1 (by omega) ⟨by decide, by decide⟩) (fun s6 z7 f6 => ?_)
  have p := (f1.trans f4).trans f6
  obtain ⟨y1, y2, y3, y4, y5⟩ := p
  exact rsf_some ⟨⟨by decide, by decide⟩, y1, y2, by omega, y4, y5⟩
theorem q_tellHead (hd : 12 ≤ d) (M : M0 r σ) (hN : N ≤ σ.1 39) (h75 : σ.1 75 + 30 ≤ 100 * σ.1 65 + 1000000) (H : σ.1 72 = 0 → σ.1 51 = 0 ∧ WSs σ (σ.1 78) none0) : rsf (RF d 61 σ []) (fun s _ => SY r N σ s) := by
  rw [rq_tellHead (by omega)]
  refine rsf_fin ?_
  unfold pf_tellHead_0
  refine rsf_gi (fun z1 q1 => ?_)
  by_cases h72 : σ.1 72 = 0
  · obtain ⟨h51, hW⟩ := H h72
    rw [q1] at hW
    refine rsf_cl (q_head (V := none0) (by omega) none0_R M (WT.zero h51) (co_ty hW)) (fun s2 z3 f => ?_)
    obtain ⟨⟨M2, F2, P2⟩, W2, C2, _, ⟨m39, mk⟩, hK⟩ := f
    obtain ⟨p1, p2, p3, p4, p5, p6⟩ := P2
    refine rsf_gi (fun z4 q4 => rsf_if (fun c4 => ?_) (fun c4 => ?_))
    · refine rsf_gi (fun z6 q6 => ?_)
      have hK' := hK (q4.trans c4)
      rw [q6] at hK' C2
      have b7 := M2.2.1.2.2.2.2.2.2.1
      have b3 := M2.2.1.2.2.1
      have b11 := M2.2.1.2.2.2.2.2.2.2.2.2.2
      have rg := (CLU.rg C2).1
      have hs := M2.2.2.1
      have kd : 0 ≤ z6 ∧ ((s2.2 30 z6.toNat = 2 ∧ (0 ≤ s2.2 31 z6.toNat ∧ s2.2 31 z6.toNat < 100)) ∨ (s2.2 30 z6.toNat = 3 ∧ (0 ≤ s2.2 31 z6.toNat ∧ s2.2 31 z6.toNat < 8)) ∨ (4 ≤ s2.2 30 z6.toNat ∧ s2.2 30 z6.toNat ≤ 5)) := by
        rcases C2.2 with u | ⟨A, u, _⟩
        · exact False.elim u.2
        · have ur := u.out.1
          refine ⟨ur.1, ?_⟩
          rcases u.out.2 with y | y | y | y | y
          · rcases hK' with v | ⟨_, v | v⟩
            · omega
            · omega
            · exact False.elim v.2
          · refine Or.inl ⟨y.1, y.2.1, ?_⟩
            have := hs.1; omega
          · exact Or.inr (Or.inl ⟨y.1, y.2.1⟩)
          · rcases hK' with v | ⟨_, v | v⟩ <;> omega
          · rcases hK' with v | ⟨_, v | v⟩ <;> omega
      refine rsf_cl (q_kindOf (by omega) M2.1 (by omega)) (fun s7 z8 g => ?_)
      obtain ⟨e7, g⟩ := g
      subst e7
      have gk : z8 = s7.2 30 z6.toNat := by rcases g with g | g <;> omega
      have fin : ∀ {s : RS} {n : Int}, n ≤ 12 → PP r n s7 s → rsf (pf_tellHead_130 (RF (d - 1)) s) (fun s b => inR b ∧ SY r N σ s) := fun {s n} hn p => by
        have a := p.2.2.1
        have e65 := p.2.2.2.1 65 (by decide)
        refine rsf_mono (q_tellHead130 (e := 0) (by omega) p.1 (by omega) rfl) (fun s' b u => ⟨u.1, ?_⟩)
        have t := p.trans u.2
        obtain ⟨y1, y2, y3, y4, y5⟩ := t
        have e64 := y4 64 (by decide)
        exact ⟨y1, (F2.kf hN).trans ((y2 0).kf (by omega)), by omega⟩
      refine rsf_if (fun c8 => ?_) (fun c8 => ?_)
      · refine rsf_if (fun c9 => ?_) (fun c9 => ?_)
        · refine rsf_if (fun c10 => ?_) (fun c10 => ?_)
          · refine rsf_gi (fun z12 q12 => ?_)
            have e12 : z12 = z6 := by omega
            subst e12
            refine rsf_rd ⟨by omega, by show _ < ((140000 : Nat) : Int); omega⟩ (fun z13 q13 => ?_)
            refine rsf_ck ⟨by omega, by omega⟩ (fun z14 q14 => rsf_gi (fun z15 q15 => ?_))
            have e15 : z15 = z12 := by omega
            subst e15
            refine rsf_rd ⟨by omega, by show _ < ((140000 : Nat) : Int); omega⟩ (fun z16 q16 => ?_)
            refine rsf_rd ⟨by omega, by show _ < ((100 : Nat) : Int); omega⟩ (fun z17 q17 => ?_)
            have hl := hs.2.2.1 z16.toNat
            refine rsf_cl (q_putWord (by omega) (Or.inl ⟨rfl, by omega, by omega⟩) (by omega) M2 (by omega)) (fun s8 z9 f => ?_)
            exact fin (by decide) f
          · refine rsf_gi (fun z12 q12 => ?_)
            have e12 : z12 = z6 := by omega
            subst e12
            refine rsf_rd ⟨by omega, by show _ < ((140000 : Nat) : Int); omega⟩ (fun z13 q13 => ?_)
            refine rsf_ck ⟨by omega, by omega⟩ (fun z14 q14 => rsf_gi (fun z15 q15 => ?_))
            have e15 : z15 = z12 := by omega
            subst e15
            refine rsf_rd ⟨by omega, by show _ < ((140000 : Nat) : Int); omega⟩ (fun z16 q16 => ?_)
            refine rsf_rd ⟨by omega, by show _ < ((8 : Nat) : Int); omega⟩ (fun z17 q17 => ?_)
            have hl := hs.2.2.2.1 z16.toNat
            refine rsf_cl (q_putWord (by omega) (Or.inr ⟨rfl, by omega, by omega⟩) (by omega) M2 (by omega)) (fun s8 z9 f => ?_)
            exact fin (by decide) f
        · exact rsf_cl (q_put (by omega) M2 (by omega) ⟨by decide, by decide⟩) (fun s8 z9 f => fin (by decide) f)
      · exact rsf_cl (q_put (by omega) M2 (by omega) ⟨by decide, by decide⟩) (fun s8 z9 f => fin (by decide) f)
    · exact rsf_some ⟨⟨by decide, by decide⟩, M2, F2.kf hN, by omega⟩
  · refine rsf_cl (q_headb (by omega) M h72 (q1 ▸ M.1.1 78) ⟨by decide, by decide⟩) (fun s2 z3 f => ?_)
    obtain ⟨M2, F2, e75, b72⟩ := f
    refine rsf_gi (fun z4 q4 => rsf_if (fun c4 => absurd (q4.trans c4) b72) (fun _ => ?_))
    exact rsf_some ⟨⟨by decide, by decide⟩, M2, (F2 0).kf hN, by omega⟩
end RSY
