section RAL
variable {σ σ' σ'' σ0 σh s s' : RS} {d : Nat} {S V T U A : Int → Prop} {r w w' lo hi sc ch l h R N : Int} {Q : RS → Int → Prop}
theorem rsf_and {o : RO} {P Q : RS → Int → Prop} (h : rsf o P) (k : rsf o Q) : rsf o (fun s r => P s r ∧ Q s r) := by
  obtain ⟨s, r, e, hp⟩ := h
  obtain ⟨s', r', e', hq⟩ := k
  rw [e] at e'
  cases e'
  exact ⟨s, r, e, hp, hq⟩
theorem rsf_eq {o : RO} {P : RS → Int → Prop} (h : rsf o P) : rsf o (fun s r => P s r ∧ o = some (s, r)) := by
  obtain ⟨s, r, e, hp⟩ := h
  exact ⟨s, r, e, hp, e⟩
theorem SF.refl : SF σ σ := PF.refl.s
/-- the first reading -/
theorem q_readAll14 (hd : 133 ≤ d) : ∀ (n : Nat) {σ : RS}, LZ σ → BU σ → σ.1 15 = 0 → σ.1 5 - σ.1 9 + 2 ≤ (n : Int) → rsf (pf_readAll_14 (RF d) n σ) (fun s b => inR b ∧ LZ s ∧ SF σ s ∧ s.1 39 = σ.1 39) := by
  intro n
  induction n with
  | zero => intro σ L _ _ h; have := L.1.2.2.1; have := L.1.2.2.2.2.1; omega
  | succ n ih =>
    intro σ L B h15 hn
    unfold pf_readAll_14
    have l9 := L.1.2.2.2.2.1
    have l6 := L.1.2.2.1
    refine rsf_gi (fun z1 q1 => rsf_if (fun _ => ?_) (fun c1 => ?_))
    · exact rsf_some ⟨⟨by decide, by decide⟩, L, SF.refl, rfl⟩
    · refine rsf_gi (fun z3 q3 => rsf_if (fun _ => ?_) (fun c3 => ?_))
      · exact rsf_some ⟨⟨by decide, by decide⟩, L, SF.refl, rfl⟩
      · refine rsf_cl (q_readStatement hd L B) (fun s5 z6 f => ?_)
        obtain ⟨⟨L5, F5, n5, _⟩, g5⟩ := f
        have e39 := n5 h15
        have e5 : s5.1 5 = σ.1 5 := F5.2.2.2.2.1
        have m9 := F5.2.2.2.2.2.1
        have b15 : s5.1 15 = 0 := by rw [F5.1 15 rfl (by decide) (by omega)]; exact h15
        have B5 : BU s5 := ⟨by have := B.1; omega, by have := B.2; omega⟩
        refine rsf_gi (fun z7 q7 => rsf_if (fun c7 => ?_) (fun c7 => ?_))
        · have l5 := L5.1.2.2.2.2.1
          have l5' := L5.1.2.2.1
          cases n with
          | zero => omega
          | succ n =>
            unfold pf_readAll_14
            refine rsf_gi (fun z8 q8 => rsf_if (fun _ => ?_) (fun c8 => absurd (by omega) c8))
            exact rsf_some ⟨⟨by decide, by decide⟩, L5, F5, e39⟩
        · have p9 := (g5 (by omega)).2.1
          refine rsf_cl (q_need (by omega) L5.1) (fun s9 z10 f => ?_)
          obtain ⟨_, nd, _⟩ := f
          have P9 := PF.ofFL nd.2.1 nd.2.2.1 nd.2.2.2.1 nd.2.2.2.2.1
          have k39 := nd.2.1.2 39 rfl
          have k15 := nd.2.1.2 15 rfl
          have k5 := nd.2.2.1
          have k9 := nd.2.2.2.1
          have L9 : LZ s9 := ⟨nd.1, nd.2.2.2.2.2.2⟩
          refine rsf_mono (ih L9 ⟨by have := B5.1; omega, by have := B5.2; omega⟩ (by omega) (by omega)) (fun s b u => ?_)
          obtain ⟨u1, u2, u3, u4⟩ := u
          exact ⟨u1, u2, (F5.trans P9.s).trans u3, by omega⟩
/-- the lexer begins anew -/
theorem start (hd : 5 ≤ d) (I : IR σ) (h5 : 0 ≤ σ.1 5 ∧ σ.1 5 ≤ 4000) (h6 : σ.1 6 = 0) (h10 : 0 ≤ σ.1 10 ∧ σ.1 10 ≤ 4000) (h11 : -1 ≤ σ.1 11 ∧ σ.1 11 ≤ 8) (h72 : σ.1 72 = 0) : rsf (RF d 10 σ []) (fun s _ => LZ s ∧ FL σ s ∧ s.1 5 = σ.1 5 ∧ 0 ≤ s.1 9) := by
  refine rsf_mono (q_next hd ⟨I, h5, by omega, h10, h11, by omega⟩) (fun s r f => ?_)
  obtain ⟨L, F, a, _, e5, n⟩ := f
  exact ⟨⟨L, n⟩, F, e5, by omega⟩
end RAL
