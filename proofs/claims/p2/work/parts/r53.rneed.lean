section RND
variable {σ : RS} {d : Nat}
theorem q_isSign (hd : 1 ≤ d) (Iσ : IR σ) {x : Int} : rsf (RF d 13 σ [x]) (fun σ' r => σ' = σ ∧ ((r = 1 ∧ σ.1 7 = 2 ∧ σ.1 8 = x) ∨ (r = 0 ∧ ¬ (σ.1 7 = 2 ∧ σ.1 8 = x)))) := by
  rw [rq_isSign (by omega)]
  refine rsf_fin ?_
  unfold pf_isSign_0
  refine rsf_gi (fun z1_1 hz1_1 => ?_)
  refine rsf_if (fun c2 => ?_) (fun c2 => ?_)
  · refine rsf_bo (by omega) ?_
    exact rsf_some (⟨⟨by decide, by decide⟩, rfl, by omega⟩)
  · refine rsf_gi (fun z3_3 hz3_3 => ?_)
    refine rsf_if (fun c4 => ?_) (fun c4 => ?_)
    · refine rsf_bo (by omega) ?_
      exact rsf_some (⟨⟨by decide, by decide⟩, rfl, by omega⟩)
    · refine rsf_bo (by omega) ?_
      exact rsf_some (⟨⟨by decide, by decide⟩, rfl, by omega⟩)
theorem q_isName (hd : 1 ≤ d) (Iσ : IR σ) : rsf (RF d 14 σ []) (fun σ' r => σ' = σ ∧ ((r = 1 ∧ σ.1 7 = 1 ∧ σ.1 11 = -1) ∨ (r = 0 ∧ ¬ (σ.1 7 = 1 ∧ σ.1 11 = -1)))) := by
  rw [rq_isName (by omega)]
  refine rsf_fin ?_
  unfold pf_isName_0
  refine rsf_gi (fun z1_1 hz1_1 => ?_)
  refine rsf_if (fun c2 => ?_) (fun c2 => ?_)
  · refine rsf_bo (by omega) ?_
    exact rsf_some (⟨⟨by decide, by decide⟩, rfl, by omega⟩)
  · refine rsf_gi (fun z3_3 hz3_3 => ?_)
    refine rsf_if (fun c4 => ?_) (fun c4 => ?_)
    · refine rsf_bo (by omega) ?_
      exact rsf_some (⟨⟨by decide, by decide⟩, rfl, by omega⟩)
    · refine rsf_bo (by omega) ?_
      exact rsf_some (⟨⟨by decide, by decide⟩, rfl, by omega⟩)
theorem q_beginsAtom (hd : 2 ≤ d) (Iσ : IR σ) : rsf (RF d 22 σ []) (fun σ' r => σ' = σ ∧ ((r = 1 ∧ ((σ.1 7 = 1 ∧ σ.1 11 = -1) ∨ (σ.1 7 = 2 ∧ σ.1 8 = 40))) ∨ (r = 0 ∧ ¬ ((σ.1 7 = 1 ∧ σ.1 11 = -1) ∨ (σ.1 7 = 2 ∧ σ.1 8 = 40))))) := by
  rw [rq_beginsAtom (by omega)]
  refine rsf_fin ?_
  unfold pf_beginsAtom_0
  refine rsf_cl (q_isName (by omega) Iσ) (fun s1 z2_2 fz2_2 => ?_)
  obtain ⟨rfl, fz2_2⟩ := fz2_2
  refine rsf_if (fun c3 => ?_) (fun c3 => ?_)
  · refine rsf_bo (by omega) ?_
    exact rsf_some (⟨⟨by decide, by decide⟩, rfl, by omega⟩)
  · refine rsf_cl (q_isSign (by omega) Iσ) (fun s4 z5_5 fz5_5 => ?_)
    obtain ⟨rfl, fz5_5⟩ := fz5_5
    refine rsf_if (fun c6 => ?_) (fun c6 => ?_)
    · refine rsf_bo (by omega) ?_
      exact rsf_some (⟨⟨by decide, by decide⟩, rfl, by omega⟩)
    · refine rsf_bo (by omega) ?_
      exact rsf_some (⟨⟨by decide, by decide⟩, rfl, by omega⟩)
theorem LX.wr {σ' : RS} (L : LX σ) (I : IR σ') (fr : ∀ j, j ≠ 72 → j ≠ 73 → σ'.1 j = σ.1 j) (hb : 0 ≤ σ'.1 72 ∧ σ'.1 72 ≤ 14) : LX σ' := by
  obtain ⟨hI, l5, l6, l7, l9, l10, l11, l72, lt1, lt2⟩ := L
  have a5 := fr 5 (by decide) (by decide)
  have a6 := fr 6 (by decide) (by decide)
  have a7 := fr 7 (by decide) (by decide)
  have a9 := fr 9 (by decide) (by decide)
  have a10 := fr 10 (by decide) (by decide)
  have a11 := fr 11 (by decide) (by decide)
  exact ⟨I, by omega, by omega, by omega, by omega, by omega, by omega, hb, by omega, by omega⟩
/-- it can't go on: the fault is noted at the token -/
theorem q_cant (hd : 2 ≤ d) (L : LX σ) : rsf (RF d 15 σ []) (fun σ' r => r = 0 ∧ LX σ' ∧ σ'.2 = σ.2 ∧ (∀ j, j ≠ 72 → j ≠ 73 → σ'.1 j = σ.1 j) ∧ σ'.1 72 ≠ 0 ∧ (σ.1 72 ≠ 0 → σ'.1 72 = σ.1 72)) := by
  rw [rq_cant (by omega)]
  refine rsf_fin ?_
  unfold pf_cant_0
  have l72 := L.2.2.2.2.2.2.2.1
  refine rsf_gi (fun z1 h1 => ?_)
  refine rsf_cl (q_wrong (by omega) L.1 ⟨by decide, by decide⟩ (h1 ▸ L.1.1 _)) (fun s1 r f => ?_)
  obtain ⟨_, I1, e2, fr, hb⟩ := f
  exact rsf_some ⟨⟨by decide, by decide⟩, rfl, L.wr I1 fr (by omega), e2, fr, by omega, by omega⟩
/-- a step over what must stand there: it goes on, or a fault is noted -/
def ND (σ σ' : RS) : Prop := LX σ' ∧ FL σ σ' ∧ σ'.1 5 = σ.1 5 ∧ σ.1 9 ≤ σ'.1 9 ∧ (σ.1 72 ≠ 0 → σ'.1 72 = σ.1 72) ∧ (σ'.1 72 = 0 → σ.1 9 < σ'.1 9) ∧ (σ'.1 7 = 1 → σ'.1 72 = 0 → σ'.1 10 - σ'.1 9 ≤ 12)
theorem ND.of {σ' : RS} (L : LX σ) (h7 : σ.1 7 = 1 ∨ σ.1 7 = 2) (h : NX σ (σ.1 6) σ') : ND σ σ' := by
  obtain ⟨hI, l5, l6, l7, l9, l10, l11, l72, lt1, lt2⟩ := L
  obtain ⟨n1, n2, n3, n4, n5, n6⟩ := h
  have : σ.1 9 < σ.1 6 := by
    rcases h7 with q | q
    · exact (lt1 q).2
    · exact lt2 q
  exact ⟨n1, n2, n5, by omega, n4, fun _ => by omega, n6⟩
theorem ND.cant {σ' : RS} (L' : LX σ') (e2 : σ'.2 = σ.2) (fr : ∀ j, j ≠ 72 → j ≠ 73 → σ'.1 j = σ.1 j) (h : σ'.1 72 ≠ 0) (h' : σ.1 72 ≠ 0 → σ'.1 72 = σ.1 72) : ND σ σ' := ⟨L', FL.wr e2 fr, fr 5 (by decide) (by decide), by rw [fr 9 (by decide) (by decide)]; exact Int.le_refl _, h', fun q => absurd q h, fun _ q => absurd q h⟩
theorem q_need (hd : 6 ≤ d) (L : LX σ) {x : Int} : rsf (RF d 16 σ [x]) (fun σ' r => r = 0 ∧ ND σ σ' ∧ (σ'.1 72 = 0 → σ.1 7 = 2 ∧ σ.1 8 = x)) := by
  rw [rq_need (by omega)]
  refine rsf_fin ?_
  unfold pf_need_0
  refine rsf_cl (q_isSign (by omega) L.1) (fun s1 z2 f2 => ?_)
  obtain ⟨rfl, f2⟩ := f2
  refine rsf_if (fun c => ?_) (fun c => ?_)
  · refine rsf_cl (q_cant (by omega) L) (fun s4 z5 f5 => ?_)
    obtain ⟨_, L4, e2, fr, h4, h4'⟩ := f5
    exact rsf_some ⟨⟨by decide, by decide⟩, rfl, ND.cant L4 e2 fr h4 h4', fun q => absurd q h4⟩
  · refine rsf_cl (q_next (by omega) L.b) (fun s6 z7 f7 => ?_)
    exact rsf_some ⟨⟨by decide, by decide⟩, rfl, ND.of L (by omega) f7, fun _ => by omega⟩
theorem q_needWord (hd : 6 ≤ d) (L : LX σ) {x : Int} : rsf (RF d 17 σ [x]) (fun σ' r => r = 0 ∧ ND σ σ') := by
  rw [rq_needWord (by omega)]
  refine rsf_fin ?_
  unfold pf_needWord_0
  have hc : rsf (pf_needWord_23 (RF (d - 1)) σ) (fun σ' r => inR r ∧ r = 0 ∧ ND σ σ') := by
    unfold pf_needWord_23
    refine rsf_cl (q_cant (by omega) L) (fun s4 z5 f5 => ?_)
    obtain ⟨_, L4, e2, fr, h4, h4'⟩ := f5
    exact rsf_some ⟨⟨by decide, by decide⟩, rfl, ND.cant L4 e2 fr h4 h4'⟩
  refine rsf_gi (fun z1 h1 => ?_)
  refine rsf_if (fun c => hc) (fun c => ?_)
  refine rsf_gi (fun z3 h3 => ?_)
  refine rsf_if (fun c2 => hc) (fun c2 => ?_)
  refine rsf_cl (q_next (by omega) L.b) (fun s6 z7 f7 => ?_)
  exact rsf_some ⟨⟨by decide, by decide⟩, rfl, ND.of L (by omega) f7⟩
end RND
