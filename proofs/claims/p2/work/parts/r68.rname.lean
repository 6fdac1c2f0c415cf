section RNA
variable {σ σ' σ'' σ0 σh s : RS} {d : Nat} {S V T U A : Int → Prop} {r w w' : Int} {Q : RS → Int → Prop}
theorem q_sameName16 {rec : Nat → RS → List Int → RO} {b3 x1 x2 x4 : Int} (h1 : 0 ≤ x1 ∧ x1 + x2 ≤ 4000) (h2 : x2 ≤ 12) (hb : (b3 = 21 ∧ 0 ≤ x4 ∧ x4 + 12 ≤ 1200) ∨ (b3 = 16 ∧ 0 ≤ x4 ∧ x4 + 12 ≤ 96)) : ∀ (n : Nat) {x6 x7 : Int}, (x6 = 0 ∨ x6 = 1) → 0 ≤ x7 → x2 - x7 + 1 ≤ (n : Int) → 1 ≤ n → rsf (pf_sameName_16 rec b3 n σ x1 x2 x4 x6 x7) (fun s b => inR b ∧ s = σ ∧ (b = 0 ∨ b = 1)) := by
  intro n
  induction n with
  | zero => intro x6 x7 _ _ _ h; omega
  | succ n ih =>
    intro x6 x7 h6 h7 hn _
    unfold pf_sameName_16
    have fin : rsf (rf_bo x6 (some (σ, x6))) (fun s b => inR b ∧ s = σ ∧ (b = 0 ∨ b = 1)) := rsf_bo h6 (rsf_some ⟨⟨by omega, by omega⟩, rfl, h6⟩)
    refine rsf_if (fun _ => fin) (fun c => rsf_if (fun _ => fin) (fun c2 => ?_))
    refine rsf_ck ⟨by omega, by omega⟩ (fun z3 q3 => ?_)
    refine rsf_rd ⟨by omega, by show _ < ((4000 : Nat) : Int); omega⟩ (fun z4 q4 => ?_)
    refine rsf_ck ⟨by omega, by omega⟩ (fun z5 q5 => ?_)
    have hi : 0 ≤ z5 ∧ z5 < (rf_len (Int.toNat b3) : Int) := by
      rcases hb with ⟨rfl, g⟩ | ⟨rfl, g⟩
      · exact ⟨by omega, by show _ < ((1200 : Nat) : Int); omega⟩
      · exact ⟨by omega, by show _ < ((96 : Nat) : Int); omega⟩
    refine rsf_rd hi (fun z6 q6 => ?_)
    refine rsf_if (fun _ => ?_) (fun _ => ?_)
    · unfold pf_sameName_51
      refine rsf_ck ⟨by omega, by omega⟩ (fun z1 q1 => ih (Or.inl rfl) (by omega) (by omega) (by omega))
    · unfold pf_sameName_51
      refine rsf_ck ⟨by omega, by omega⟩ (fun z1 q1 => ih (Or.inr rfl) (by omega) (by omega) (by omega))
theorem q_sameName {b3 x1 x2 x4 x5 : Int} (hd : 1 ≤ d) (h1 : 0 ≤ x1 ∧ x1 + x2 ≤ 4000) (h2 : x2 ≤ 12) (hb : (b3 = 21 ∧ 0 ≤ x4 ∧ x4 + 12 ≤ 1200) ∨ (b3 = 16 ∧ 0 ≤ x4 ∧ x4 + 12 ≤ 96)) : rsf (RF d 42 σ [x1, x2, b3, x4, x5]) (fun s b => s = σ ∧ (b = 0 ∨ b = 1)) := by
  rw [rq_sameName (by omega)]
  refine rsf_fin ?_
  unfold pf_sameName_0
  refine rsf_if (fun _ => ?_) (fun _ => ?_)
  · unfold pf_sameName_11
    exact q_sameName16 h1 h2 hb 200000 (Or.inl rfl) (by omega) (by omega) (by omega)
  · unfold pf_sameName_11
    exact q_sameName16 h1 h2 hb 200000 (Or.inr rfl) (by omega) (by omega) (by omega)
theorem q_sortOf4 {x1 : Int} (hd : 1 ≤ d) (H : HS σ) (h1 : 0 ≤ x1 ∧ x1 < 140000) (hn : NMr σ.2 x1) : ∀ (n : Nat) {x2 x3 : Int}, (-1 ≤ x2 ∧ x2 < σ.1 20) → 0 ≤ x3 → σ.1 20 - x3 + 1 ≤ (n : Int) → 1 ≤ n → rsf (pf_sortOf_4 (RF d) n σ x1 x2 x3) (fun s b => inR b ∧ s = σ ∧ (-1 ≤ b ∧ b < σ.1 20)) := by
  intro n
  have h20 := H.2.1
  obtain ⟨_, m1, m2, m3⟩ := hn
  induction n with
  | zero => intro x2 x3 _ _ _ h; omega
  | succ n ih =>
    intro x2 x3 h2 h3 hn _
    unfold pf_sortOf_4
    refine rsf_gi (fun z1 q1 => rsf_if (fun c => ?_) (fun c => ?_))
    · exact rsf_some ⟨⟨by omega, by omega⟩, rfl, h2⟩
    · refine rsf_rd ⟨by omega, by show _ < ((140000 : Nat) : Int); omega⟩ (fun z3 q3 => ?_)
      refine rsf_rd ⟨by omega, by show _ < ((140000 : Nat) : Int); omega⟩ (fun z4 q4 => ?_)
      refine rsf_ck ⟨by omega, by omega⟩ (fun z5 q5 => ?_)
      refine rsf_rd ⟨by omega, by show _ < ((8 : Nat) : Int); omega⟩ (fun z6 q6 => ?_)
      refine rsf_cl (q_sameName hd ⟨by omega, by omega⟩ (by omega) (Or.inr ⟨rfl, by omega, by omega⟩)) (fun s7 z8 f => ?_)
      obtain ⟨e7, f⟩ := f
      subst e7
      refine rsf_if (fun _ => ?_) (fun _ => ?_)
      · unfold pf_sortOf_47
        exact rsf_ck ⟨by omega, by omega⟩ (fun z9 q9 => ih h2 (by omega) (by omega) (by omega))
      · unfold pf_sortOf_47
        exact rsf_ck ⟨by omega, by omega⟩ (fun z9 q9 => ih (by omega) (by omega) (by omega) (by omega))
theorem q_sortOf {x1 : Int} (hd : 2 ≤ d) (H : HS σ) (h1 : 0 ≤ x1 ∧ x1 < 140000) (hn : NMr σ.2 x1) : rsf (RF d 43 σ [x1]) (fun s b => s = σ ∧ (-1 ≤ b ∧ b < σ.1 20)) := by
  rw [rq_sortOf (by omega)]
  refine rsf_fin ?_
  unfold pf_sortOf_0
  have h20 := H.2.1
  exact q_sortOf4 (by omega) H h1 hn 200000 (by omega) (by omega) (by omega) (by omega)
theorem q_knownOf4 {x1 : Int} (hd : 1 ≤ d) (H : HS σ) (h1 : 0 ≤ x1 ∧ x1 < 140000) (hn : NMr σ.2 x1) : ∀ (n : Nat) {x2 x3 : Int}, (-1 ≤ x2 ∧ x2 < σ.1 27) → 0 ≤ x3 → σ.1 27 - x3 + 1 ≤ (n : Int) → 1 ≤ n → rsf (pf_knownOf_4 (RF d) n σ x1 x2 x3) (fun s b => inR b ∧ s = σ ∧ (-1 ≤ b ∧ b < σ.1 27)) := by
  intro n
  have h20 := H.1
  obtain ⟨_, m1, m2, m3⟩ := hn
  induction n with
  | zero => intro x2 x3 _ _ _ h; omega
  | succ n ih =>
    intro x2 x3 h2 h3 hn _
    unfold pf_knownOf_4
    refine rsf_gi (fun z1 q1 => rsf_if (fun c => ?_) (fun c => ?_))
    · exact rsf_some ⟨⟨by omega, by omega⟩, rfl, h2⟩
    · refine rsf_rd ⟨by omega, by show _ < ((140000 : Nat) : Int); omega⟩ (fun z3 q3 => ?_)
      refine rsf_rd ⟨by omega, by show _ < ((140000 : Nat) : Int); omega⟩ (fun z4 q4 => ?_)
      refine rsf_ck ⟨by omega, by omega⟩ (fun z5 q5 => ?_)
      refine rsf_rd ⟨by omega, by show _ < ((100 : Nat) : Int); omega⟩ (fun z6 q6 => ?_)
      refine rsf_cl (q_sameName hd ⟨by omega, by omega⟩ (by omega) (Or.inl ⟨rfl, by omega, by omega⟩)) (fun s7 z8 f => ?_)
      obtain ⟨e7, f⟩ := f
      subst e7
      refine rsf_if (fun _ => ?_) (fun _ => ?_)
      · unfold pf_knownOf_47
        exact rsf_ck ⟨by omega, by omega⟩ (fun z9 q9 => ih h2 (by omega) (by omega) (by omega))
      · unfold pf_knownOf_47
        exact rsf_ck ⟨by omega, by omega⟩ (fun z9 q9 => ih (by omega) (by omega) (by omega) (by omega))
theorem q_knownOf {x1 : Int} (hd : 2 ≤ d) (H : HS σ) (h1 : 0 ≤ x1 ∧ x1 < 140000) (hn : NMr σ.2 x1) : rsf (RF d 44 σ [x1]) (fun s b => s = σ ∧ (-1 ≤ b ∧ b < σ.1 27)) := by
  rw [rq_knownOf (by omega)]
  refine rsf_fin ?_
  unfold pf_knownOf_0
  have h20 := H.1
  exact q_knownOf4 (by omega) H h1 hn 200000 (by omega) (by omega) (by omega) (by omega)
end RNA
