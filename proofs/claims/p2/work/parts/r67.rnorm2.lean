section RNN
variable {σ σ' σ'' σ0 σh s : RS} {d : Nat} {S V T U A : Int → Prop} {r w w' : Int} {Q : RS → Int → Prop}
theorem q_normal212 {x3 x4 t0 t1 : Int} (hd : 1 ≤ d) (hV : ∀ x, V x → inR x) (hx3 : 0 ≤ x3 ∧ x3 ≤ 100) (B : BG r σ0) (h15 : σ0.1 15 ≠ 0) (h4 : x4 = σ0.1 51) (h51 : σ0.1 51 ≤ σ.1 51) (nrm : ∀ {s : RS} {a b : Int}, M0 r s → s.1 15 ≠ 0 → WT s S V → COs s S V a b → rsf (RF d 41 s [a, b, x3 + 1]) (NP r (nma S V) s)) (H : NS 0 (1 + (σ.1 51 - σ0.1 51)) r σ0 σ) (h0 : inR t0) (hW : WT σ S V) (hl : (t1 = 1 ∧ nma S V t0) ∨ (t1 = 2 ∧ 0 ≤ t0 ∧ t0 < σ.1 27)) : rsf (pf_normal_212 (RF d) σ x3 x4 t0 t1) (fun s b => inR b ∧ NP r (nma S V) σ0 s b) := by
  unfold pf_normal_212
  have h3 := H.2
  have l0 := H.1.2.2.2.1.1
  have e62 := H.1.2.1 62 rfl
  have o11 := B.2.2.2.2.2.2.2.2.2.2
  have b7 := H.1.1.2.1.2.2.2.2.2.2.1
  have b3 := H.1.1.2.1.2.2.1
  have o7 := B.2.2.2.2.2.2.1
  have b11 := H.1.1.2.1.2.2.2.2.2.2.2.2.2.2
  have h15' : σ.1 15 ≠ 0 := by rw [H.1.2.1 15 rfl]; exact h15
  have ht : inR t1 := by rcases hl with q | q <;> exact ⟨by omega, by omega⟩
  refine rsf_cl (q_nodeM hd H.1.1 h15' ht h0 ⟨by decide, by decide⟩ ⟨by decide, by decide⟩ ⟨by decide, by decide⟩ (by omega)) (fun s1 z2 k => ?_)
  have N1 := H.nd k
  obtain ⟨k0, M1, F1, k3, k4, k5, k6, k7, k8, k9, k10, k11⟩ := k
  have e51 := k3 51 (by decide)
  refine q_normal218 hd hV hx3 B h15 h4 (by omega) nrm (N1.le (by omega) (by omega)) ⟨by omega, by omega⟩ (hW.mf (F1 (σ.1 51)) (by omega) (by omega)) ?_
  unfold WSls
  refine WSL.mk ⟨⟨by omega, by omega⟩, ?_⟩ (Or.inl (by omega))
  rcases hl with ⟨q1, q2⟩ | ⟨q1, q2⟩
  · exact Or.inl ⟨k7.trans q1, by rw [k8]; exact q2⟩
  · exact Or.inr (Or.inl ⟨k7.trans q1, by rw [k8, k3 27 (by decide)]; exact q2⟩)
/-- a term brought to its normal form -/
theorem q_normal : ∀ (k : Nat) {d : Nat} {σ : RS} {V : Int → Prop} {x1 x2 x3 : Int}, x3 = 100 - (k : Int) → k ≤ 100 → k + 6 ≤ d → (∀ x, V x → inR x) → M0 r σ → σ.1 15 ≠ 0 → WT σ S V → COs σ S V x1 x2 → rsf (RF d 41 σ [x1, x2, x3]) (NP r (nma S V) σ) := by
  intro k
  induction k with
  | zero =>
    intro d σ V x1 x2 x3 h3 hk hd hV M h15 hW hC
    rw [rq_normal (by omega)]
    refine rsf_fin ?_
    unfold pf_normal_0
    refine rsf_cl (q_look (by omega) M) (fun s1 z2 f => ?_)
    obtain ⟨f, fx⟩ := f
    refine rsf_if (fun c => ?_) (fun c => ?_)
    · exfalso
      rcases f.2.2.2.2 with g | g
      · omega
      · have := fx g.1; omega
    · have T := NS.look f
      refine rsf_some ⟨⟨by decide, by decide⟩, T.le (by omega) (by omega), ⟨by decide, by decide⟩, fun q => ?_⟩
      rcases f.2.2.2.2 with g | g
      · exact absurd q g.2.1
      · omega
  | succ k ih =>
    intro d σ V x1 x2 x3 h3 hk hd hV M h15 hW hC
    rw [rq_normal (by omega)]
    refine rsf_fin ?_
    unfold pf_normal_0
    refine rsf_cl (q_look (by omega) M) (fun s1 z2 f => ?_)
    obtain ⟨f, fx⟩ := f
    have T1 := NS.look f
    obtain ⟨M1, F1, e1, n1, g1⟩ := f
    have n51 := n1 51 (by decide) (by decide) (by decide) (by decide) (by decide)
    refine rsf_if (fun c => ?_) (fun c => ?_)
    · have g1' : z2 = 1 := by rcases g1 with g | g <;> omega
      subst g1'
      refine rsf_gi (fun z4 q4 => ?_)
      have hW1 : WT s1 S V := hW.mf (F1 (σ.1 51)) (by omega) (by omega)
      refine rsf_cl (q_head (by omega) hV M1 hW1 (hC.mf (F1 0))) (fun s5 z6 f5 => ?_)
      have T5 := T1.head f5 (by omega)
      obtain ⟨⟨M5, F5, P5⟩, W5, C5, h51, ⟨m39, mk⟩, hK⟩ := f5
      refine rsf_gi (fun z7 q7 => rsf_if (fun c7 => ?_) (fun c7 => ?_))
      · refine rsf_gi (fun z9 q9 => rsf_gi (fun z10 q10 => ?_))
        have hK' := hK (by omega)
        rw [q9] at hK'
        rw [q9, q10] at C5
        have rg := CLU.rg C5
        have b7 := M5.2.1.2.2.2.2.2.2.1
        have b3 := M5.2.1.2.2.1
        have b11 := M5.2.1.2.2.2.2.2.2.2.2.2.2
        refine rsf_cl (q_kindOf (by omega) M5.1 (by omega)) (fun s11 z12 g => ?_)
        obtain ⟨e11, g⟩ := g
        subst e11
        have h9 : inR z9 := q9 ▸ M5.1.1 52
        have nrm : ∀ {s : RS} {a b : Int} {U : Int → Prop}, (∀ x, U x → inR x) → M0 r s → s.1 15 ≠ 0 → WT s S U → COs s S U a b → rsf (RF (d - 1) 41 s [a, b, x3 + 1]) (NP r (nma S U) s) := fun {s a b U} hU A1 A2 A3 A4 => ih (by omega) (by omega) (by omega) hU A1 A2 A3 A4
        have bi : (z12 = 4 ∨ z12 = 5) → rsf (pf_normal_63 (RF (d - 1)) s11 x3 z4 z9 z10 z12) (fun s b => inR b ∧ NP r (nma S V) σ s b) := fun hz => by
          have p : 0 ≤ z9 ∧ s11.2 30 z9.toNat = z12 := by rcases g with g | g <;> omega
          exact q_normal63 (by omega) hV ⟨by omega, by omega⟩ M.2.1 h15 (by omega) (by omega) nrm (T5.le (by omega) (by omega)) W5 C5 p.1 p.2 hz
        have TN : NS 0 (1 + (s11.1 51 - σ.1 51)) r σ s11 := T5.le (by omega) (by omega)
        refine rsf_if (fun c12 => bi (Or.inl c12)) (fun c12 => rsf_if (fun c13 => ?_) (fun c13 => bi (Or.inr (by omega))))
        have nm1 : ∀ {t0 t1 : Int}, inR t0 → ((t1 = 1 ∧ nma S V t0) ∨ (t1 = 2 ∧ 0 ≤ t0 ∧ t0 < s11.1 27)) → rsf (pf_normal_212 (RF (d - 1)) s11 x3 z4 t0 t1) (fun s b => inR b ∧ NP r (nma S V) σ s b) := fun {t0 t1} a b => q_normal212 (by omega) hV ⟨by omega, by omega⟩ M.2.1 h15 (by omega) (by omega) (nrm hV) TN a W5 b
        refine rsf_if (fun c14 => ?_) (fun c14 => ?_)
        · refine rsf_if (fun c15 => ?_) (fun c15 => ?_)
          · unfold pf_normal_191
            refine rsf_if (fun c16 => ?_) (fun c16 => ?_)
            · have p : 0 ≤ z9 ∧ s11.2 30 z9.toNat = z12 := by rcases g with g | g <;> omega
              refine rsf_rd ⟨by omega, by show _ < ((140000 : Nat) : Int); omega⟩ (fun z2 q2 => ?_)
              refine nm1 (q2 ▸ M5.1.2 _ _) (Or.inl ⟨rfl, Or.inl ?_⟩)
              rcases hK' with u | ⟨_, u | u⟩
              · omega
              · omega
              · rw [← q2]; exact u.2
            · have p : z9 < 0 := by
                rcases g with g | g
                · exact g.1
                · rcases hK' with u | ⟨_, u | u⟩ <;> omega
              refine rsf_ck ⟨by omega, by omega⟩ (fun z3 q3 => ?_)
              refine nm1 ⟨by omega, by omega⟩ (Or.inl ⟨rfl, Or.inr ?_⟩)
              have e : -2 - z3 = z9 := by omega
              rw [e]
              rcases C5.2 with u | ⟨A, u, _⟩
              · exact u.2
              · have := u.out.1; omega
          · unfold pf_normal_191
            refine rsf_if (fun c16 => ?_) (fun c16 => absurd (by omega) c16)
            have p : 0 ≤ z9 ∧ s11.2 30 z9.toNat = 2 := by rcases g with g | g <;> omega
            refine rsf_rd ⟨by omega, by show _ < ((140000 : Nat) : Int); omega⟩ (fun z2 q2 => ?_)
            refine nm1 (q2 ▸ M5.1.2 _ _) (Or.inr ⟨rfl, ?_⟩)
            rcases C5.2 with u | ⟨A, u, _⟩
            · exact absurd u.1 (by omega)
            · rcases u.out.2 with y | y | y | y | y
              · omega
              · rw [← q2]; exact y.2
              · omega
              · omega
              · omega
        · have p : 0 ≤ z9 ∧ s11.2 30 z9.toNat = 3 := by rcases g with g | g <;> omega
          refine rsf_rd ⟨by omega, by show _ < ((140000 : Nat) : Int); omega⟩ (fun z17 q17 => ?_)
          have so : (0 ≤ z17 ∧ z17 < 8) ∧ z17 < s11.1 39 ∧ s11.2 30 z17.toNat = 3 ∧ s11.2 31 z17.toNat = z17 := by
            rcases C5.2 with u | ⟨A, u, _⟩
            · exact absurd u.1 (by omega)
            · rcases u.out.2 with y | y | y | y | y
              · omega
              · omega
              · rw [← q17]; exact y.2
              · omega
              · omega
          exact q_normal218 (by omega) hV ⟨by omega, by omega⟩ M.2.1 h15 (by omega) (by omega) (nrm hV) (TN.le (by omega) (by omega)) ⟨by omega, by omega⟩ W5 (WSL.sort ⟨so.1.1, so.2.1⟩ so.1.2 so.2.2.1 so.2.2.2)
      · exact rsf_some ⟨⟨by decide, by decide⟩, T5.le (by omega) (by omega), ⟨by decide, by decide⟩, fun q => absurd (q7.symm.trans q) c7⟩
    · refine rsf_some ⟨⟨by decide, by decide⟩, T1.le (by omega) (by omega), ⟨by decide, by decide⟩, fun q => ?_⟩
      rcases g1 with g | g
      · exact absurd q g.2.1
      · omega
end RNN
