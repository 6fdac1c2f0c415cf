section RL2
variable {Q : RS → Int → Prop} {σ σ1 : RS} {d : Nat}
theorem q_byteAt (hd : 1 ≤ d) (hI : IR σ) (h5 : 0 ≤ σ.1 5 ∧ σ.1 5 ≤ 4000) {x : Int} (hx : 0 ≤ x) : rsf (RF d 7 σ [x]) (fun σ' r => σ' = σ ∧ inR r ∧ (r = -1 ∨ x < σ.1 5)) := by
  rw [rq_byteAt hd]
  refine rsf_fin ?_
  unfold pf_byteAt_0
  refine rsf_gi (fun z1 h1 => ?_)
  refine rsf_if (fun c => ?_) (fun c => ?_)
  · exact rsf_some ⟨⟨by decide, by decide⟩, rfl, ⟨by decide, by decide⟩, Or.inl rfl⟩
  · refine rsf_rd ⟨hx, by show x < ((4000 : Nat) : Int); omega⟩ (fun z h => ?_)
    exact rsf_some ⟨h ▸ hI.2 _ _, rfl, h ▸ hI.2 _ _, Or.inr (by omega)⟩
theorem q_isLetter (hd : 1 ≤ d) {x : Int} : rsf (RF d 8 σ [x]) (fun σ' r => σ' = σ ∧ (r = 0 ∨ r = 1)) := by
  rw [rq_isLetter (by omega)]
  refine rsf_fin ?_
  unfold pf_isLetter_0
  refine rsf_if (fun c1 => ?_) (fun c1 => ?_)
  · unfold pf_isLetter_12
    refine rsf_if (fun c2 => ?_) (fun c2 => ?_)
    · refine rsf_bo (by omega) ?_
      exact rsf_some (⟨⟨by decide, by decide⟩, rfl, by omega⟩)
    · refine rsf_if (fun c3 => ?_) (fun c3 => ?_)
      · refine rsf_bo (by omega) ?_
        exact rsf_some (⟨⟨by decide, by decide⟩, rfl, by omega⟩)
      · refine rsf_bo (by omega) ?_
        exact rsf_some (⟨⟨by decide, by decide⟩, rfl, by omega⟩)
  · refine rsf_if (fun c4 => ?_) (fun c4 => ?_)
    · refine rsf_bo (by omega) ?_
      exact rsf_some (⟨⟨by decide, by decide⟩, rfl, by omega⟩)
    · unfold pf_isLetter_12
      refine rsf_if (fun c5 => ?_) (fun c5 => ?_)
      · refine rsf_bo (by omega) ?_
        exact rsf_some (⟨⟨by decide, by decide⟩, rfl, by omega⟩)
      · refine rsf_if (fun c6 => ?_) (fun c6 => ?_)
        · refine rsf_bo (by omega) ?_
          exact rsf_some (⟨⟨by decide, by decide⟩, rfl, by omega⟩)
        · refine rsf_bo (by omega) ?_
          exact rsf_some (⟨⟨by decide, by decide⟩, rfl, by omega⟩)
theorem q_goesOn (hd : 2 ≤ d) {x : Int} : rsf (RF d 9 σ [x]) (fun σ' r => σ' = σ ∧ (r = 0 ∨ r = 1)) := by
  rw [rq_goesOn (by omega)]
  refine rsf_fin ?_
  unfold pf_goesOn_0
  refine rsf_cl (q_isLetter (by omega)) (fun s1 z2_2 fz2_2 => ?_)
  obtain ⟨rfl, fz2_2⟩ := fz2_2
  refine rsf_if (fun c3 => ?_) (fun c3 => ?_)
  · refine rsf_bo (by omega) ?_
    exact rsf_some (⟨⟨by decide, by decide⟩, rfl, by omega⟩)
  · refine rsf_if (fun c4 => ?_) (fun c4 => ?_)
    · unfold pf_goesOn_19
      refine rsf_if (fun c5 => ?_) (fun c5 => ?_)
      · refine rsf_bo (by omega) ?_
        exact rsf_some (⟨⟨by decide, by decide⟩, rfl, by omega⟩)
      · refine rsf_bo (by omega) ?_
        exact rsf_some (⟨⟨by decide, by decide⟩, rfl, by omega⟩)
    · refine rsf_if (fun c6 => ?_) (fun c6 => ?_)
      · refine rsf_bo (by omega) ?_
        exact rsf_some (⟨⟨by decide, by decide⟩, rfl, by omega⟩)
      · unfold pf_goesOn_19
        refine rsf_if (fun c7 => ?_) (fun c7 => ?_)
        · refine rsf_bo (by omega) ?_
          exact rsf_some (⟨⟨by decide, by decide⟩, rfl, by omega⟩)
        · refine rsf_bo (by omega) ?_
          exact rsf_some (⟨⟨by decide, by decide⟩, rfl, by omega⟩)
theorem rf_sn_le : ∀ i, i < 9 → 2 ≤ rf_sn i ∧ rf_sn i ≤ 5 := by decide
theorem q_isWord29 (hI : IR σ) {x : Int} (hx : 0 ≤ x ∧ x < 9) (hb : 0 ≤ σ.1 9 ∧ σ.1 9 ≤ σ.1 10 ∧ σ.1 10 ≤ 4000) : ∀ (n : Nat) {y j : Int}, (y = 0 ∨ (y = 1 ∧ σ.1 10 - σ.1 9 = rf_sn x.toNat)) → 0 ≤ j → (6 - j < (n : Int) ∧ 0 < n) → rsf (pf_isWord_29 (RF d) n σ x y j) (fun σ' r => inR r ∧ σ' = σ ∧ (r = 0 ∨ r = 1)) := by
  intro n
  induction n with
  | zero => intro y j hy hj hn; omega
  | succ n ih =>
    intro y j hy hj hn
    have hl := rf_sn_le x.toNat (by omega)
    unfold pf_isWord_29
    refine rsf_if (fun c => ?_) (fun c => ?_)
    · refine rsf_bo (by omega) ?_
      exact rsf_some ⟨⟨by omega, by omega⟩, rfl, by omega⟩
    refine rsf_gi (fun z2 h2 => rsf_gi (fun z3 h3 => rsf_ck ⟨by omega, by omega⟩ (fun z4 h4 => ?_)))
    refine rsf_if (fun c2 => ?_) (fun c2 => ?_)
    · refine rsf_bo (by omega) ?_
      exact rsf_some ⟨⟨by omega, by omega⟩, rfl, by omega⟩
    refine rsf_ws hx (fun z6 h6 => rsf_sC ⟨⟨hx.1, by omega⟩, hj, by omega⟩ (fun z7 h7 => rsf_gi (fun z8 h8 => rsf_ck ⟨by omega, by omega⟩ (fun z9 h9 => rsf_rd ⟨by omega, by show _ < ((4000 : Nat) : Int); omega⟩ (fun z10 h10 => ?_)))))
    refine rsf_if (fun c3 => ?_) (fun c3 => ?_)
    · unfold pf_isWord_75
      refine rsf_ck ⟨by omega, by omega⟩ (fun z11 h11 => ?_)
      exact ih (Or.inl rfl) (by omega) (by omega)
    · unfold pf_isWord_75
      refine rsf_ck ⟨by omega, by omega⟩ (fun z11 h11 => ?_)
      exact ih (Or.inr ⟨rfl, by omega⟩) (by omega) (by omega)
theorem q_isWord (hd : 4 ≤ d) (hI : IR σ) {x : Int} (hx : 0 ≤ x ∧ x < 9) (hb : 0 ≤ σ.1 9 ∧ σ.1 9 ≤ σ.1 10 ∧ σ.1 10 ≤ 4000) : rsf (RF d 11 σ [x]) (fun σ' r => σ' = σ ∧ (r = 0 ∨ r = 1)) := by
  rw [rq_isWord hd]
  refine rsf_fin ?_
  have hl := rf_sn_le x.toNat (by omega)
  unfold pf_isWord_0 pf_isWord_26
  refine rsf_ws hx (fun z1 h1 => rsf_sL ⟨hx.1, by omega⟩ (fun z2 h2 => rsf_gi (fun z3 h3 => rsf_gi (fun z4 h4 => rsf_ck ⟨by omega, by omega⟩ (fun z5 h5 => ?_)))))
  refine rsf_if (fun c => ?_) (fun c => ?_)
  · exact q_isWord29 hI hx hb _ (Or.inl rfl) (by decide) (by decide)
  · exact q_isWord29 hI hx hb _ (Or.inr ⟨rfl, by omega⟩) (by decide) (by decide)
/-- a fault is noted, if it is the first -/
theorem q_wrong (hd : 1 ≤ d) (hI : IR σ) {x y : Int} (hx : 1 ≤ x ∧ x ≤ 14) (hy : inR y) : rsf (RF d 3 σ [x, y]) (fun σ' r => r = 0 ∧ IR σ' ∧ σ'.2 = σ.2 ∧ (∀ j, j ≠ 72 → j ≠ 73 → σ'.1 j = σ.1 j) ∧ ((σ.1 72 = 0 ∧ σ'.1 72 = x) ∨ (σ.1 72 ≠ 0 ∧ σ'.1 72 = σ.1 72))) := by
  rw [rq_wrong hd]
  refine rsf_fin ?_
  unfold pf_wrong_0
  refine rsf_gi (fun z1 h1 => ?_)
  refine rsf_if (fun c => ?_) (fun c => ?_)
  · refine rsf_pi (fun s1 w1 => rsf_pi (fun s2 w2 => ?_))
    refine rsf_some ⟨⟨by decide, by decide⟩, rfl, (hI.p w1 ⟨by omega, by omega⟩).p w2 hy, by rw [w2, w1]; rfl, fun j h72 h73 => by rw [rs_i_n w2 h73, rs_i_n w1 h72], Or.inl ⟨by omega, by rw [rs_i_n w2 (by decide)]; exact rs_i_e w1⟩⟩
  · exact rsf_some ⟨⟨by decide, by decide⟩, rfl, hI, rfl, fun _ _ _ => rfl, Or.inr ⟨by omega, rfl⟩⟩
/-- what one step of the lexer comes to -/
def NX (σ : RS) (a : Int) (σ' : RS) : Prop := LX σ' ∧ FL σ σ' ∧ a ≤ σ'.1 9 ∧ (σ.1 72 ≠ 0 → σ'.1 72 = σ.1 72) ∧ σ'.1 5 = σ.1 5
end RL2
