section RJA
variable {σ σ' σ'' σ0 σh s : RS} {d : Nat} {S V T U A : Int → Prop} {r w w' lo hi sc ch l R : Int} {Q : RS → Int → Prop}
theorem co_ty {t : Int} (W : WSs σ t S) : COs σ S V t 0 := ⟨WC.zero, Or.inr ⟨S, W, fun _ hx => Or.inl hx⟩⟩
/-- what applying comes to -/
def APo (R : Int) (S : Int → Prop) (l m : Int) (σ : RS) (y : Int) (s : RS) : Prop := M0 R s ∧ JF l m (σ.1 43) (σ.1 59) σ s ∧ (s.1 43 = σ.1 43 ∧ s.1 59 = σ.1 59) ∧ (s.1 72 = 0 → s.1 51 = 0 ∧ WSs s y (SA σ) ∧ TY S s)
theorem q_applied129 {p t : Int} (hd : 1 ≤ d) (M : M0 R σ) (hp : 0 ≤ p ∧ p < σ.1 39) (ht : inR t) (W : σ.1 72 = 0 → WSs σ t S) : rsf (pf_applied_129 (RF d) σ p t) (fun s z => inR z ∧ M0 R s ∧ (∀ lo hi sc ch, JF lo hi sc ch σ s) ∧ (∀ j, j ≠ 60 → j ≠ 61 → s.1 j = σ.1 j) ∧ (s.1 72 = 0 → TY S s)) := by
  unfold pf_applied_129
  have b7 := M.2.1.2.2.2.2.2.2.1
  have b3 := M.2.1.2.2.1
  have b11 := M.2.1.2.2.2.2.2.2.2.2.2.2
  refine rsf_rd ⟨by omega, by show _ < ((140000 : Nat) : Int); omega⟩ (fun z1 q1 => ?_)
  have k := (M.2.2.2.2 p.toNat).2
  refine rsf_cl (q_becomes hd M ht ⟨by omega, by omega⟩) (fun s2 z3 f => ?_)
  obtain ⟨M2, F2, e2, n2, v60, v61⟩ := f
  refine rsf_some ⟨⟨by decide, by decide⟩, M2, F2, n2, fun q => ⟨?_, by omega⟩⟩
  rw [v60]
  rw [n2 72 (by decide) (by decide)] at q
  exact (W q).jf (F2 0 0 0 0)
theorem q_applied93 {p y c : Int} (hd : 106 ≤ d) (hR : 0 ≤ R) (M : M0 (R + 1) σ) (h15 : σ.1 15 ≠ 0) (hp : 0 ≤ p ∧ p < σ.1 39) (hW : σ.1 72 = 0 → σ.1 51 = 0 ∧ σ.2 30 p.toNat = 5 ∧ WSs σ p S ∧ COs σ S none0 y c) (hy : inR y) (hc : inR c) : rsf (pf_applied_93 (RF d) σ c p y) (fun s z => inR z ∧ M0 R s ∧ (∀ lo hi sc ch, JF lo hi sc ch σ s) ∧ (s.1 43 = σ.1 43 ∧ s.1 59 = σ.1 59) ∧ (s.1 72 = 0 → σ.1 72 = 0 ∧ s.1 51 = 0 ∧ TY S s)) := by
  unfold pf_applied_93
  obtain ⟨b1, b2, b3, b4, b5, b6, b7, b8, b9, b10, b11⟩ := M.2.1
  refine rsf_gi (fun z1 q1 => rsf_if (fun c1 => ?_) (fun c1 => ?_))
  · refine rsf_mono (q_applied129 (S := S) (by omega) (M.le (by omega) hR) hp ⟨by decide, by decide⟩ (fun q => absurd (q1.symm.trans q) c1)) (fun s b u => ?_)
    obtain ⟨u0, u1, u2, u3, u4⟩ := u
    refine ⟨u0, u1, u2, ⟨u3 43 (by decide) (by decide), u3 59 (by decide) (by decide)⟩, fun q => ?_⟩
    rw [u3 72 (by decide) (by decide)] at q
    exact absurd (q1.symm.trans q) c1
  · obtain ⟨h51, h30, hP, hY⟩ := hW (by omega)
    refine rsf_rd ⟨by omega, by show _ < ((140000 : Nat) : Int); omega⟩ (fun z3 q3 => ?_)
    refine rsf_rd ⟨by omega, by show _ < ((140000 : Nat) : Int); omega⟩ (fun z4 q4 => ?_)
    have hC : COs σ S none0 p 0 := co_ty hP
    refine rsf_cl (q_cell (S := S) (V := none0) (by omega) (M.le (w := R) (by omega) hR) WC.zero (q4 ▸ M.1.2 _ _) hy hY (by omega)) (fun s5 z6 f => ?_)
    obtain ⟨f1, M5, F5, n5, f48, k5, W5, D5⟩ := f
    have C5 : COs s5 S none0 z3 z6 := by
      rw [← q3]
      exact (hC.bi hp.1 (by omega)).2 (F5 0) (n5 39 (by decide)) W5 (fun z hz => D5 z (by rw [← q4]; exact hz))
    have i51 : s5.1 51 = 0 := by rw [n5 51 (by decide)]; exact h51
    have i15 : s5.1 15 ≠ 0 := by rw [n5 15 (by decide)]; exact h15
    refine rsf_cl (q_normal (S := S) 100 (by omega) (by omega) (by omega) none0_R M5 i15 (WT.zero i51) C5) (fun s7 z8 g => ?_)
    obtain ⟨N, hz, gN⟩ := g
    have F7 := N.1.2
    have F07 : ∀ lo hi sc ch, JF lo hi sc ch σ s7 := fun _ _ _ _ => ((F5 0).jf (n5 75 (by decide))).trans (F7.jf N.2.2.2.2.2.1)
    have l7 := (F07 0 0 0 0).2.2.1.1
    refine rsf_mono (q_applied129 (S := S) (by omega) N.1.1 ⟨hp.1, by omega⟩ hz (fun q => ?_)) (fun s b u => ?_)
    · refine WS.sub (WSL.ws (gN q).2) (fun x hx => ?_)
      rcases hx with hx | hx
      · exact hx
      · exact False.elim hx
    · obtain ⟨u0, u1, u2, u3, u4⟩ := u
      refine ⟨u0, u1, fun _ _ _ _ => (F07 _ _ _ _).trans (u2 _ _ _ _), ⟨?_, ?_⟩, fun q => ?_⟩
      · rw [u3 43 (by decide) (by decide), F7.1 43 rfl, n5 43 (by decide)]
      · rw [u3 59 (by decide) (by decide), F7.1 59 rfl, n5 59 (by decide)]
      · have q' := q
        rw [u3 72 (by decide) (by decide)] at q'
        refine ⟨by omega, ?_, u4 q⟩
        rw [u3 51 (by decide) (by decide), (gN q').1]; exact i51
/-- a function's part is applied to a part -/
theorem q_applied {k : Nat} {n y m c : Int} (J : JC k) (hd : 6 * k + 231 ≤ d) (P : JPre (R + 1) S k y l m c σ) (hR : 0 ≤ R) (hT : TY S σ) (hn : 0 ≤ n ∧ n < σ.1 39) (e30 : σ.2 30 n.toNat = 7) (e33 : σ.2 33 n.toNat = y) (e32 : 0 ≤ σ.2 32 n.toNat ∧ σ.2 32 n.toNat < σ.1 39) : rsf (RF d 53 σ [n, c]) (fun s _ => APo R S l m σ y s) := by
  rw [rq_applied (by omega)]
  refine rsf_fin ?_
  unfold pf_applied_0
  have P' := P
  obtain ⟨⟨M, hR1⟩, p15, p51, pT, ⟨p8, p39⟩, pS, p43, p59, pC, pA⟩ := P'
  obtain ⟨b1, b2, b3, b4, b5, b6, b7, b8, b9, b10, b11⟩ := M.2.1
  have g1 := pT.rg
  have rp := (WS.out hT.1).1
  have rc := WC.rg pC
  refine rsf_gi (fun z1 q1 => ?_)
  rw [q1] at rp
  refine rsf_rd ⟨by omega, by show _ < ((140000 : Nat) : Int); omega⟩ (fun z2 q2 => rsf_if (fun c2 => ?_) (fun c2 => ?_))
  · refine rsf_rd ⟨by omega, by show _ < ((140000 : Nat) : Int); omega⟩ (fun z4 q4 => ?_)
    have q4' : z4 = y := by rw [← q4]; exact e33
    rw [q4']
    refine rsf_cl (J (by omega) P) (fun s5 z6 g => ?_)
    obtain ⟨M5, F5, e5, g5⟩ := g
    refine rsf_gi (fun z7 q7 => rsf_if (fun c7 => ?_) (fun c7 => ?_))
    · obtain ⟨i51, wy, wt⟩ := g5 (q7.trans c7)
      have wp : WSs s5 z1 S := by rw [← q1]; exact hT.1.jf F5
      obtain ⟨f30, f31, f32, f33, f38⟩ := F5.2.2.2.1 z1 rp.1 rp.2 (fun z => by omega)
      have l5 := F5.2.2.1.1
      have c7' := M5.2.1.2.2.2.2.2.2.1
      have c3' := M5.2.1.2.2.1
      refine rsf_rd ⟨by omega, by show _ < ((140000 : Nat) : Int); omega⟩ (fun z9 q9 => ?_)
      refine rsf_gi (fun z10 q10 => ?_)
      have w9 : WSs s5 z9 S := by
        rcases (WS.out wp).2 with u | u | u | u | u
        · omega
        · omega
        · omega
        · omega
        · rw [← q9]; exact u.2.1
      have w10 : WSs s5 z10 S := by rw [← q10]; exact wt.1
      refine rsf_cl (q_compare (S := S) 100 (by omega) (by omega) (by omega) M5 (WT.zero i51) (co_ty w9) (co_ty w10)) (fun s11 z12 g => ?_)
      obtain ⟨_, ⟨M11, F11, P11⟩, j51, j39, jk⟩ := g
      have F011 : JF l m (σ.1 43) (σ.1 59) σ s11 := F5.trans (F11.jf P11.2.2.2.2.1)
      have ry := (WS.out wy).1
      have fin : ∀ {s15 : RS}, M0 (R + 1) s15 → (∀ w, MF w s11 s15) → (∀ j, j ≠ 72 → j ≠ 73 → s15.1 j = s11.1 j) → (s15.1 72 = 0 → s15.2 = s11.2) → rsf (pf_applied_93 (RF (d - 1)) s15 c z1 y) (fun s b => inR b ∧ APo R S l m σ y s) := by
        intro s15 M15 F15 n15 e15
        have F015 : JF l m (σ.1 43) (σ.1 59) σ s15 := F011.trans ((F15 0).jf (n15 75 (by decide) (by decide)))
        have l15 := F015.2.2.1.1
        refine rsf_mono (q_applied93 (S := S) (by omega) hR M15 (by rw [F015.1 15 rfl]; exact p15) ⟨rp.1, by omega⟩ (fun q => ⟨?_, ?_, ?_, ?_⟩) ⟨by omega, by omega⟩ ⟨by omega, by omega⟩) (fun s b u => ?_)
        · rw [n15 51 (by decide) (by decide), j51]; exact i51
        · rw [(F015.2.2.2.1 z1 rp.1 rp.2 (fun z => by omega)).1]; omega
        · exact (wp.mf F11).mf (F15 0)
        · exact co_of ((wy.mf F11).mf (F15 0)) pC pA F015
        · obtain ⟨u0, u1, u2, u3, u4⟩ := u
          refine ⟨u0, u1, F015.trans (u2 _ _ _ _), ⟨?_, ?_⟩, fun q => ?_⟩
          · rw [u3.1, n15 43 (by decide) (by decide), F11.1 43 rfl]; exact e5.1
          · rw [u3.2, n15 59 (by decide) (by decide), F11.1 59 rfl]; exact e5.2
          · obtain ⟨u5, u6, u7⟩ := u4 q
            exact ⟨u6, ((wy.mf F11).mf (F15 0)).jf (u2 0 0 0 0), u7⟩
      refine rsf_if (fun _ => ?_) (fun _ => ?_)
      · exact fin M11 (fun _ => MF.refl) (fun _ _ _ => rfl) (fun _ => rfl)
      · refine rsf_rd ⟨by omega, by show _ < ((140000 : Nat) : Int); omega⟩ (fun z14 q14 => ?_)
        refine rsf_cl (j_wrong (n := 0) (by omega) M11 ⟨by decide, by decide⟩ (q14 ▸ M11.1.2 _ _)) (fun s15 z16 f => ?_)
        obtain ⟨f1, f2, f3, f4, f5, _⟩ := f
        exact fin f1 f2 f3 (fun q => absurd q f5)
    · exact rsf_some ⟨⟨by decide, by decide⟩, M5.le (by omega) hR, F5, e5, fun q => absurd (q7.symm.trans q) c7⟩
  · refine rsf_rd ⟨by omega, by show _ < ((140000 : Nat) : Int); omega⟩ (fun z17 q17 => ?_)
    refine rsf_rd ⟨by omega, by show _ < ((140000 : Nat) : Int); omega⟩ (fun z18 q18 => ?_)
    refine rsf_cl (j_wrong (n := 0) (by omega) M ⟨by decide, by decide⟩ (q18 ▸ M.1.2 _ _)) (fun s z f => ?_)
    obtain ⟨f1, f2, f3, f4, f5, _⟩ := f
    exact rsf_some ⟨⟨by decide, by decide⟩, f1.le (by omega) hR, ((f2 0).jf (f3 75 (by decide) (by decide))), ⟨f3 43 (by decide) (by decide), f3 59 (by decide) (by decide)⟩, fun q => absurd q f5⟩
end RJA
