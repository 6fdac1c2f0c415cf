section RTG
variable {σ σ' σ'' σ0 : RS}
theorem q_bad29 {rec : Nat → RS → List Int → RO} {x : Int} (h : σ.1 72 ≠ 0) : rsf (pf_readTerm_29 rec σ x) (fun σ' r => σ' = σ ∧ r = 0) := by
  unfold pf_readTerm_29
  refine rsf_gi (fun z1 h1 => ?_)
  exact rsf_if (fun c => absurd (h1.trans c) h) (fun c => rsf_some ⟨rfl, rfl⟩)
/-- a term is read, whatever stands there -/
theorem q_readTerm : ∀ (k : Nat) {d : Nat} {σ : RS} {x : Int}, x = 40 - (k : Int) → k ≤ 40 → 3 * k + 11 ≤ d → LZ σ → BU σ → rsf (RF d 20 σ [x]) (PT (2 * k) σ) := by
  intro k
  induction k with
  | zero =>
    intro d σ x hx hk hd L B
    rw [rq_readTerm (by omega)]
    refine rsf_fin ?_
    unfold pf_readTerm_0
    have l72 := L.1.2.2.2.2.2.2.2.1
    have fin : ∀ {s : RS}, LX s → s.2 = σ.2 → (∀ j, j ≠ 72 → j ≠ 73 → s.1 j = σ.1 j) → s.1 72 ≠ 0 → (σ.1 72 ≠ 0 → s.1 72 = σ.1 72) → rsf (pf_readTerm_29 (RF (d - 1)) s x) (fun σ' r => inR r ∧ PT (2 * 0) σ σ' r) := by
      intro s Ls e2 fr hb hb'
      refine rsf_mono (q_bad29 hb) (fun σ' r f => ?_)
      obtain ⟨e, e'⟩ := f
      subst e
      subst e'
      have n := ND.cant Ls e2 fr hb hb'
      have n39 := fr 39 (by decide) (by decide)
      have n9 := fr 9 (by decide) (by decide)
      exact ⟨⟨by decide, by decide⟩, ⟨⟨Ls, fun _ q => absurd q hb⟩, PF.ofFL n.2.1 n.2.2.1 n.2.2.2.1 n.2.2.2.2.1, ⟨by decide, by decide⟩, fun _ => n39, by omega, fun q => absurd q hb, fun q => absurd q hb⟩, fun _ => n39⟩
    refine rsf_if (fun c => absurd hx (by omega)) (fun c => ?_)
    refine rsf_gi (fun z2 h2 => ?_)
    refine rsf_if (fun c2 => ?_) (fun c2 => ?_)
    · refine rsf_gi (fun z4 h4 => ?_)
      refine rsf_cl (q_wrong (by omega) L.1.1 ⟨by decide, by decide⟩ (h4 ▸ L.1.1.1 _)) (fun s5 z6 f6 => ?_)
      obtain ⟨_, I1, e2, fr, hb⟩ := f6
      exact fin (L.1.wr I1 fr (by omega)) e2 fr (by omega) (by omega)
    · refine rsf_cl (q_cant (by omega) L.1) (fun s7 z8 f8 => ?_)
      obtain ⟨_, L4, e2, fr, h4, h4'⟩ := f8
      exact fin L4 e2 fr h4 h4'
  | succ k ih =>
    intro d σ x hx hk hd L B
    rw [rq_readTerm (by omega)]
    refine rsf_fin ?_
    unfold pf_readTerm_0
    refine rsf_if (fun c => ?_) (fun c => absurd hx (by omega))
    exact q_term29 (by omega) ⟨by omega, by omega⟩ (ih (by omega) (by omega) (by omega)) (ih (by omega) (by omega) (by omega)) (ih (by omega) (by omega) (by omega)) L B
end RTG
