section RTX
variable {σ σ' σ'' σ0 σh s s' A B : RS} {d : Nat} {r w w' lo hi l h R N m : Int} {Q : RS → Int → Prop}
/-- the marks stand in order -/
def MK (σ : RS) : Prop := (0 ≤ σ.1 29 ∧ σ.1 29 ≤ 20) ∧ ∀ i j : Int, 0 ≤ i → i ≤ j → j < σ.1 29 → 0 ≤ σ.2 28 i.toNat ∧ σ.2 28 i.toNat ≤ σ.2 28 j.toNat ∧ σ.2 28 j.toNat ≤ σ.1 27
theorem MK.eq (M : MK σ) (e29 : s.1 29 = σ.1 29) (e28 : s.2 28 = σ.2 28) (e27 : σ.1 27 ≤ s.1 27) : MK s := by
  unfold MK
  rw [e29, e28]
  refine ⟨M.1, fun i j a b c => ?_⟩
  obtain ⟨x, y, z⟩ := M.2 i j a b c
  exact ⟨x, y, by omega⟩
/-- the house between calls; m calls were made -/
def HO (m : Int) (σ : RS) : Prop := IR σ ∧ HG (σ.1 39) σ ∧ (1 ≤ σ.1 63 ∧ σ.1 63 ≤ 20000) ∧ (0 ≤ σ.1 65 ∧ σ.1 65 ≤ 60000) ∧ (σ.1 39 + 4 * σ.1 3 ≤ σ.1 65 + 8 + 80 * m ∧ 0 ≤ m ∧ m ≤ 512) ∧ (0 ≤ σ.1 3 ∧ σ.1 3 ≤ 4000) ∧ (0 ≤ σ.1 75 ∧ σ.1 75 ≤ 100 * σ.1 65 + 1000000) ∧ σ.1 72 = 0 ∧ σ.1 15 = 0 ∧ MK σ ∧ (0 ≤ σ.1 10 ∧ σ.1 10 ≤ 4000) ∧ (-1 ≤ σ.1 11 ∧ σ.1 11 ≤ 8)
theorem HG.n (H : HG N σ) (e : s.2 = σ.2) (e27 : s.1 27 = σ.1 27) (e20 : s.1 20 = σ.1 20) : HG N s := by
  have hs : HS s := by unfold HS; rw [e, e27, e20]; exact H.1
  exact H.fr (fun _ _ _ _ => by rw [e]; exact ⟨rfl, rfl, rfl, rfl, rfl⟩) hs (H.2.1.eq (by rw [e]) (by rw [e])) e27 (by rw [e]) (by rw [e]) (by rw [e])
/-- between the statements of a text -/
def TBi (m : Int) (σ : RS) : Prop := LZ σ ∧ HG (σ.1 39) σ ∧ (1 ≤ σ.1 63 ∧ σ.1 63 ≤ 20000) ∧ (0 ≤ σ.1 65 ∧ σ.1 65 ≤ 60000) ∧ (σ.1 39 + 4 * (σ.1 5 - σ.1 9) ≤ σ.1 65 + 8 + 80 * m ∧ 0 ≤ m ∧ m ≤ 512) ∧ σ.1 3 = 0 ∧ (0 ≤ σ.1 75 ∧ σ.1 75 ≤ 100 * σ.1 65 + 100 * σ.1 9) ∧ MK σ ∧ (0 ≤ σ.1 14 ∧ σ.1 14 ≤ σ.1 9)
/-- what a text leaves -/
def TE (m : Int) (σ s : RS) : Prop := HO m s ∧ s.1 63 = σ.1 63 ∧ s.1 29 = σ.1 29 ∧ s.1 3 = 0
theorem q_text159 {rec : Nat → RS → List Int → RO} (X : TBi m σ) (h15 : σ.1 15 = 0) : rsf (pf_text_159 rec σ) (fun s b => inR b ∧ TE m σ s) := by
  obtain ⟨L, H, h63, h65, h39, h3, h75, hM, h14⟩ := X
  have I := L.1.1
  have l9 := L.1.2.2.2.2.1
  have l6 := L.1.2.2.1
  have l5 := L.1.2.1
  have l10 := L.1.2.2.2.2.2.1
  have l11 := L.1.2.2.2.2.2.2.1
  have l72 := L.1.2.2.2.2.2.2.2.1
  unfold pf_text_159
  refine rsf_gi (fun z1 q1 => rsf_pi (fun s2 w2 => ?_))
  have I2 := I.p w2 (q1 ▸ I.1 72)
  have fin : ∀ {t : Int}, inR t → rsf (pf_text_183 rec s2 t) (fun s b => inR b ∧ TE m σ s) := fun {t} ht => by
    unfold pf_text_183
    refine rsf_pi (fun s3 w3 => rsf_pi (fun s4 w4 => rsf_gi (fun z5 q5 => ?_)))
    have I4 := (I2.p w3 ht).p w4 ⟨by decide, by decide⟩
    have n : ∀ j, j ≠ 12 → j ≠ 13 → j ≠ 72 → s4.1 j = σ.1 j := fun j a b c => by rw [rs_i_n w4 c, rs_i_n w3 b, rs_i_n w2 a]
    have e : s4.2 = σ.2 := by rw [rs_i_2 w4, rs_i_2 w3, rs_i_2 w2]
    have v72 : s4.1 72 = 0 := rs_i_e w4
    have n39 := n 39 (by decide) (by decide) (by decide)
    have n3 := n 3 (by decide) (by decide) (by decide)
    have n63 := n 63 (by decide) (by decide) (by decide)
    have n65 := n 65 (by decide) (by decide) (by decide)
    have n75 := n 75 (by decide) (by decide) (by decide)
    have n15 := n 15 (by decide) (by decide) (by decide)
    have n10 := n 10 (by decide) (by decide) (by decide)
    have n11 := n 11 (by decide) (by decide) (by decide)
    have n29 := n 29 (by decide) (by decide) (by decide)
    have n27 := n 27 (by decide) (by decide) (by decide)
    exact rsf_some ⟨q5 ▸ I4.1 12, ⟨I4, by rw [n39]; exact H.n e n27 (n 20 (by decide) (by decide) (by decide)), by omega, by omega, ⟨by omega, by omega, by omega⟩, by omega, ⟨by omega, by omega⟩, v72, by omega, hM.eq n29 (by rw [e]) (by omega), by omega, by omega⟩, n63, n29, by omega⟩
  refine rsf_gi (fun z3 q3 => rsf_if (fun _ => ?_) (fun _ => ?_))
  · exact rsf_gi (fun z5 q5 => fin (q5 ▸ I2.1 73))
  · exact fin ⟨by decide, by decide⟩
theorem LZ.n {k : Nat} {x : Int} (L : LZ σ) (w : s = rs_i σ k x) (hx : inR x) (hk : k = 14 ∨ k = 15) : LZ s := by
  have n := fun j (h : j ≠ k) => rs_i_n w h
  have I := L.1.1.p w hx
  obtain ⟨⟨hI, l5, l6, l7, l9, l10, l11, l72, lt1, lt2⟩, l12⟩ := L
  have a5 := n 5 (by omega)
  have a6 := n 6 (by omega)
  have a7 := n 7 (by omega)
  have a9 := n 9 (by omega)
  have a10 := n 10 (by omega)
  have a11 := n 11 (by omega)
  have a72 := n 72 (by omega)
  exact ⟨⟨I, by omega, by omega, by omega, by omega, by omega, by omega, by omega, by omega, by omega⟩, by omega⟩
theorem q_text154 {rec : Nat → RS → List Int → RO} (X : TBi m σ) : rsf (pf_text_154 rec σ) (fun s b => inR b ∧ TE m σ s) := by
  unfold pf_text_154
  refine rsf_bo (by omega) (rsf_pi (fun s1 w1 => ?_))
  obtain ⟨L, H, h63, h65, h39, h3, h75, hM, h14⟩ := X
  have n : ∀ j, j ≠ 15 → s1.1 j = σ.1 j := fun j hj => rs_i_n w1 hj
  have e := rs_i_2 w1
  have n39 := n 39 (by decide)
  have n3 := n 3 (by decide)
  have n5 := n 5 (by decide)
  have n9 := n 9 (by decide)
  have n14 := n 14 (by decide)
  have n63 := n 63 (by decide)
  have n65 := n 65 (by decide)
  have n75 := n 75 (by decide)
  have n29 := n 29 (by decide)
  have n27 := n 27 (by decide)
  have X1 : TBi m s1 := ⟨L.n w1 ⟨by decide, by decide⟩ (Or.inr rfl), by rw [n39]; exact H.n e n27 (n 20 (by decide)), by omega, by omega, ⟨by omega, by omega, by omega⟩, by omega, ⟨by omega, by omega⟩, hM.eq n29 (by rw [e]) (by omega), by omega⟩
  refine rsf_mono (q_text159 X1 (rs_i_e w1)) (fun s b u => ⟨u.1, u.2.1, ?_, ?_, u.2.2.2.2⟩)
  · rw [u.2.2.1]; exact n63
  · rw [u.2.2.2.1]; exact n29
theorem rf_cl_y {o : RO} {f : RS → Int → RO} {y : RS × Int} (h : rf_cl o f = some y) : ∃ s r, o = some (s, r) ∧ f s r = some y := by
  cases o with
  | none => cases h
  | some z => exact ⟨z.1, z.2, rfl, h⟩
/-- where the first reading went through, the second does too -/
def GO (d : Nat) (A : RS) : Prop := ∃ n y, pf_readAll_14 (RF d) n A = some y ∧ y.1.1 72 = 0
theorem GO.st (G : GO d A) (h7 : A.1 7 ≠ 0) : ∃ A1 r1, RF d 25 A [] = some (A1, r1) ∧ A1.1 72 = 0 ∧ ∃ A2 r2, RF d 16 A1 [59] = some (A2, r2) ∧ GO d A2 := by
  obtain ⟨n, y, e, hy⟩ := G
  have bad : ∀ {n : Nat} {C : RS}, C.1 72 ≠ 0 → pf_readAll_14 (RF d) n C = some y → False := fun {n C} hC e => by
    cases n with
    | zero => cases e
    | succ n =>
      unfold pf_readAll_14 at e
      change (if ¬ C.1 72 = 0 then some (C, (0 : Int)) else _) = some y at e
      rw [if_pos hC] at e
      cases e
      exact hC hy
  cases n with
  | zero => cases e
  | succ n =>
    have h72 : A.1 72 = 0 := Decidable.byContradiction (fun q => bad q e)
    unfold pf_readAll_14 at e
    change (if ¬ A.1 72 = 0 then _ else (if A.1 7 = 0 then _ else rf_cl (RF d 25 A []) _)) = some y at e
    rw [if_neg (fun q => q h72), if_neg h7] at e
    obtain ⟨A1, r1, e1, e2⟩ := rf_cl_y e
    change (if ¬ A1.1 72 = 0 then _ else rf_cl (RF d 16 A1 [59]) _) = some y at e2
    by_cases c : A1.1 72 = 0
    · rw [if_neg (fun q => q c)] at e2
      obtain ⟨A2, r2, e3, e4⟩ := rf_cl_y e2
      exact ⟨A1, r1, e1, c, A2, r2, e3, n, y, e4, hy⟩
    · rw [if_pos c] at e2
      exact absurd e2 (fun q => bad c q)
end RTX
