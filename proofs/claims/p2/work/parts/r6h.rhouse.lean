section RHO
variable {σ σ' σ'' σ0 σh s : RS} {d : Nat} {S V T U A : Int → Prop} {r w w' lo hi sc ch l R N : Int} {Q : RS → Int → Prop}
/-- the nodes that the first k known names have -/
def NK (σ : RS) (k : Int) : Int := if k = 0 then 8 else σ.2 26 (k - 1).toNat
/-- the first k known names are in order -/
def GK (σ : RS) (k : Int) : Prop := (8 ≤ NK σ k ∧ ∀ k' : Int, k ≤ k' → k' ≤ σ.1 27 → NK σ k ≤ NK σ k') ∧ ∀ j : Int, 0 ≤ j → j < k → (σ.2 25 j.toNat < 0 ∨ WS σ.2 (NK σ k) k (σ.2 25 j.toNat) none0) ∧ WS σ.2 (NK σ k) k (σ.2 23 j.toNat) none0
/-- the house in order, its nodes N -/
def HG (N : Int) (σ : RS) : Prop := HS σ ∧ KA σ ∧ N = NK σ (σ.1 27) ∧ ∀ k : Int, 0 ≤ k → k ≤ σ.1 27 → GK σ k
theorem HG.n8 (H : HG N σ) : 8 ≤ N := by
  rw [H.2.2.1]
  exact (H.2.2.2 (σ.1 27) H.1.1.1 (Int.le_refl _)).1.1
theorem NK.eq (h : s.2 26 = σ.2 26) (k : Int) : NK s k = NK σ k := by unfold NK; rw [h]
/-- the house does not depend on the nodes behind its own -/
theorem HG.fr (H : HG N σ) (F : NFr σ.2 s.2 N) (hh : HS s) (hk : KA s) (e27 : s.1 27 = σ.1 27) (e23 : s.2 23 = σ.2 23) (e25 : s.2 25 = σ.2 25) (e26 : s.2 26 = σ.2 26) : HG N s := by
  obtain ⟨h1, h2, h3, h4⟩ := H
  refine ⟨hh, hk, by rw [NK.eq e26, e27]; exact h3, fun k k0 k1 => ?_⟩
  rw [e27] at k1
  obtain ⟨⟨g1, g2⟩, g3⟩ := h4 k k0 k1
  have g2' := g2 (σ.1 27) k1 (Int.le_refl _)
  refine ⟨⟨by rw [NK.eq e26]; exact g1, fun k' a b => by rw [NK.eq e26, NK.eq e26]; rw [e27] at b; exact g2 k' a b⟩, fun j j0 j1 => ?_⟩
  obtain ⟨y1, y2⟩ := g3 j j0 j1
  have F' : NFr σ.2 s.2 (NK σ k) := fun q q0 q1 => F q q0 (by omega)
  rw [NK.eq e26, e23, e25]
  refine ⟨?_, y2.fr F' (Int.le_refl _) (Int.le_refl _)⟩
  rcases y1 with y1 | y1
  · exact Or.inl y1
  · exact Or.inr (y1.fr F' (Int.le_refl _) (Int.le_refl _))
theorem HG.jf (H : HG N σ) (F : JF lo hi sc ch σ s) (K : KA s) (hN : N ≤ σ.1 39) : HG N s :=
  H.fr (fun q q0 q1 => F.nf q q0 (by omega)) (H.1.jf F (by have := H.n8; omega)) K (F.1 27 rfl) (F.2.1 23 rfl) (F.2.1 25 rfl) (F.2.1 26 rfl)
theorem HG.kv (H : HG N σ) (hN : N ≤ σ.1 39) : KV σ := fun j j0 j1 => by
  obtain ⟨h1, h2, h3, h4⟩ := H
  obtain ⟨_, g3⟩ := h4 (σ.1 27) (by omega) (Int.le_refl _)
  obtain ⟨y1, y2⟩ := g3 j j0 j1
  have id : NFr σ.2 σ.2 (NK σ (σ.1 27)) := fun _ _ _ _ => ⟨rfl, rfl, rfl, rfl, rfl⟩
  refine ⟨?_, WS.fr y2 id (by omega) (Int.le_refl _)⟩
  rcases y1 with y1 | y1
  · exact Or.inl y1
  · exact Or.inr (WS.fr y1 id (by omega) (Int.le_refl _))
/-- a statement begins -/
theorem q_begin (hd : 1 ≤ d) (I : IR σ) (H : HG (σ.1 39) σ) (h63 : 1 ≤ σ.1 63 ∧ σ.1 63 ≤ 20000) (h65 : 0 ≤ σ.1 65 ∧ σ.1 65 ≤ 60000) (h39 : σ.1 39 ≤ σ.1 65 + 60000) (h75 : 0 ≤ σ.1 75 ∧ σ.1 75 ≤ 100 * σ.1 65 + 1000000) (h72 : 0 ≤ σ.1 72 ∧ σ.1 72 ≤ 14) : rsf (RF d 54 σ []) (fun s _ => M0 16001 s ∧ HG (s.1 62) s ∧ s.2 = σ.2 ∧ (∀ j, j ≠ 43 → j ≠ 48 → j ≠ 51 → j ≠ 57 → j ≠ 59 → j ≠ 62 → j ≠ 64 → j ≠ 66 → j ≠ 67 → j ≠ 68 → j ≠ 69 → j ≠ 70 → j ≠ 71 → s.1 j = σ.1 j) ∧ s.1 43 = 0 ∧ s.1 59 = 0 ∧ s.1 51 = 0 ∧ s.1 62 = σ.1 39 ∧ s.1 64 = 0) := by
  rw [rq_begin (by omega)]
  refine rsf_fin ?_
  unfold pf_begin_0
  have z : inR 0 := ⟨by decide, by decide⟩
  refine rsf_pi (fun s1 w1 => rsf_pi (fun s2 w2 => rsf_pi (fun s3 w3 => rsf_pi (fun s4 w4 => rsf_pi (fun s5 w5 => rsf_pi (fun s6 w6 => rsf_pi (fun s7 w7 => rsf_pi (fun s8 w8 => rsf_pi (fun s9 w9 => rsf_pi (fun s10 w10 => rsf_pi (fun s11 w11 => rsf_gi (fun z12 q12 => rsf_pi (fun s13 w13 => rsf_pi (fun s14 w14 => ?_))))))))))))))
  have e39 : z12 = σ.1 39 := by
    rw [← q12, rs_i_n w11 (by decide), rs_i_n w10 (by decide), rs_i_n w9 (by decide), rs_i_n w8 (by decide), rs_i_n w7 (by decide), rs_i_n w6 (by decide), rs_i_n w5 (by decide), rs_i_n w4 (by decide), rs_i_n w3 (by decide), rs_i_n w2 (by decide), rs_i_n w1 (by decide)]
  have I14 : IR s14 := (((((((((((((I.p w1 z).p w2 z).p w3 z).p w4 z).p w5 z).p w6 z).p w7 z).p w8 z).p w9 z).p w10 z).p w11 z).p w13 (by rw [e39]; exact I.1 39)).p w14 ⟨by decide, by decide⟩)
  have e2 : s14.2 = σ.2 := by rw [rs_i_2 w14, rs_i_2 w13, rs_i_2 w11, rs_i_2 w10, rs_i_2 w9, rs_i_2 w8, rs_i_2 w7, rs_i_2 w6, rs_i_2 w5, rs_i_2 w4, rs_i_2 w3, rs_i_2 w2, rs_i_2 w1]
  have n : ∀ j, j ≠ 43 → j ≠ 48 → j ≠ 51 → j ≠ 57 → j ≠ 59 → j ≠ 62 → j ≠ 64 → j ≠ 66 → j ≠ 67 → j ≠ 68 → j ≠ 69 → j ≠ 70 → j ≠ 71 → s14.1 j = σ.1 j := fun j h43 h48 h51 h57 h59 h62 h64 h66 h67 h68 h69 h70 h71 => by
    rw [rs_i_n w14 h48, rs_i_n w13 h62, rs_i_n w11 h57, rs_i_n w10 h59, rs_i_n w9 h43, rs_i_n w8 h51, rs_i_n w7 h71, rs_i_n w6 h70, rs_i_n w5 h69, rs_i_n w4 h68, rs_i_n w3 h67, rs_i_n w2 h66, rs_i_n w1 h64]
  have v48 : s14.1 48 = 1 := rs_i_e w14
  have v62 : s14.1 62 = σ.1 39 := by rw [rs_i_n w14 (by decide), rs_i_e w13, e39]
  have v57 : s14.1 57 = 0 := by rw [rs_i_n w14 (by decide), rs_i_n w13 (by decide), rs_i_e w11]
  have v59 : s14.1 59 = 0 := by rw [rs_i_n w14 (by decide), rs_i_n w13 (by decide), rs_i_n w11 (by decide), rs_i_e w10]
  have v43 : s14.1 43 = 0 := by rw [rs_i_n w14 (by decide), rs_i_n w13 (by decide), rs_i_n w11 (by decide), rs_i_n w10 (by decide), rs_i_e w9]
  have v51 : s14.1 51 = 0 := by rw [rs_i_n w14 (by decide), rs_i_n w13 (by decide), rs_i_n w11 (by decide), rs_i_n w10 (by decide), rs_i_n w9 (by decide), rs_i_e w8]
  have v71 : s14.1 71 = 0 := by rw [rs_i_n w14 (by decide), rs_i_n w13 (by decide), rs_i_n w11 (by decide), rs_i_n w10 (by decide), rs_i_n w9 (by decide), rs_i_n w8 (by decide), rs_i_e w7]
  have v70 : s14.1 70 = 0 := by rw [rs_i_n w14 (by decide), rs_i_n w13 (by decide), rs_i_n w11 (by decide), rs_i_n w10 (by decide), rs_i_n w9 (by decide), rs_i_n w8 (by decide), rs_i_n w7 (by decide), rs_i_e w6]
  have v69 : s14.1 69 = 0 := by rw [rs_i_n w14 (by decide), rs_i_n w13 (by decide), rs_i_n w11 (by decide), rs_i_n w10 (by decide), rs_i_n w9 (by decide), rs_i_n w8 (by decide), rs_i_n w7 (by decide), rs_i_n w6 (by decide), rs_i_e w5]
  have v68 : s14.1 68 = 0 := by rw [rs_i_n w14 (by decide), rs_i_n w13 (by decide), rs_i_n w11 (by decide), rs_i_n w10 (by decide), rs_i_n w9 (by decide), rs_i_n w8 (by decide), rs_i_n w7 (by decide), rs_i_n w6 (by decide), rs_i_n w5 (by decide), rs_i_e w4]
  have v67 : s14.1 67 = 0 := by rw [rs_i_n w14 (by decide), rs_i_n w13 (by decide), rs_i_n w11 (by decide), rs_i_n w10 (by decide), rs_i_n w9 (by decide), rs_i_n w8 (by decide), rs_i_n w7 (by decide), rs_i_n w6 (by decide), rs_i_n w5 (by decide), rs_i_n w4 (by decide), rs_i_e w3]
  have v66 : s14.1 66 = 0 := by rw [rs_i_n w14 (by decide), rs_i_n w13 (by decide), rs_i_n w11 (by decide), rs_i_n w10 (by decide), rs_i_n w9 (by decide), rs_i_n w8 (by decide), rs_i_n w7 (by decide), rs_i_n w6 (by decide), rs_i_n w5 (by decide), rs_i_n w4 (by decide), rs_i_n w3 (by decide), rs_i_e w2]
  have v64 : s14.1 64 = 0 := by rw [rs_i_n w14 (by decide), rs_i_n w13 (by decide), rs_i_n w11 (by decide), rs_i_n w10 (by decide), rs_i_n w9 (by decide), rs_i_n w8 (by decide), rs_i_n w7 (by decide), rs_i_n w6 (by decide), rs_i_n w5 (by decide), rs_i_n w4 (by decide), rs_i_n w3 (by decide), rs_i_n w2 (by decide), rs_i_e w1]
  clear w1 w2 w3 w4 w5 w6 w7 w8 w9 w10 w11 w13 w14
  have m39 : s14.1 39 = σ.1 39 := by apply n <;> decide
  have m63 : s14.1 63 = σ.1 63 := by apply n <;> decide
  have m65 : s14.1 65 = σ.1 65 := by apply n <;> decide
  have m75 : s14.1 75 = σ.1 75 := by apply n <;> decide
  have m72 : s14.1 72 = σ.1 72 := by apply n <;> decide
  have m27 : s14.1 27 = σ.1 27 := by apply n <;> decide
  have m20 : s14.1 20 = σ.1 20 := by apply n <;> decide
  have hh : HS s14 := by unfold HS; rw [e2, m27, m20]; exact H.1
  have ka : KA s14 := H.2.1.eq (by rw [e2]) (by rw [e2])
  have H14 : HG (σ.1 39) s14 := H.fr (fun _ _ _ _ => by rw [e2]; exact ⟨rfl, rfl, rfl, rfl, rfl⟩) hh ka m27 (by rw [e2]) (by rw [e2]) (by rw [e2])
  have n8 := H.n8
  have B : BG 16001 s14 := ⟨by omega, by omega, by omega, by omega, by omega, by omega, by omega, by omega, by omega, by omega, by omega, by omega⟩
  exact rsf_some ⟨⟨by decide, by decide⟩, ⟨I14, B, hh, H14.kv (by omega), ka⟩, by rw [v62]; exact H14, e2, n, v43, v59, v51, v62, v64⟩
theorem q_drop (hd : 1 ≤ d) (I : IR σ) : rsf (RF d 55 σ []) (fun s _ => IR s ∧ s.2 = σ.2 ∧ s.1 39 = σ.1 62 ∧ ∀ j, j ≠ 39 → s.1 j = σ.1 j) := by
  rw [rq_drop (by omega)]
  refine rsf_fin ?_
  unfold pf_drop_0
  refine rsf_gi (fun z1 q1 => rsf_pi (fun s2 w2 => ?_))
  exact rsf_some ⟨⟨by decide, by decide⟩, I.p w2 (q1 ▸ I.1 62), rs_i_2 w2, by rw [rs_i_e w2, q1], fun j hj => rs_i_n w2 hj⟩
/-- a statement was read -/
theorem M0.sf {p : Int} (M : M0 r σ) (F : SF σ s) (I : IR s) (h72 : 0 ≤ s.1 72 ∧ s.1 72 ≤ 14) (hp : s.1 39 ≤ σ.1 39 + p) (hr : 0 ≤ r - p) : M0 (r - p) s := by
  obtain ⟨b1, b2, b3, b4, b5, b6, b7, b8, b9, b10, b11⟩ := M.2.1
  have n : ∀ j, lxs j = false → j ≠ 39 → j < 76 → s.1 j = σ.1 j := fun j a b c => F.1 j a b (Or.inl c)
  have l39 := F.2.2.1
  have A : AG σ.2 s.2 0 (σ.1 39) := AG.ofS F (Int.le_refl _) (Int.le_refl _)
  have ek := fun k (h : ndm k = false) => F.2.1 k h
  have e27 := n 27 rfl (by decide) (by decide)
  have hh : HS s := by
    unfold HS
    rw [e27, n 20 rfl (by decide) (by decide), ek 22 rfl, ek 17 rfl, ek 18 rfl, ek 19 rfl, ek 24 rfl]
    obtain ⟨h1, h2, h3, h4, h5, h6, h7, h8⟩ := M.2.2.1
    refine ⟨h1, h2, h3, h4, h5, h6, h7, fun k k0 k1 => ?_⟩
    obtain ⟨y1, y2, _⟩ := A k k0 (by omega)
    rw [y1, y2]; exact h8 k k0 k1
  have kv : KV s := fun k k0 k1 => by
    rw [e27] at k1
    rw [ek 25 rfl, ek 23 rfl]
    obtain ⟨h1, h2⟩ := M.2.2.2.1 k k0 k1
    refine ⟨?_, WS.fr h2 A.nf l39 (by rw [e27]; exact Int.le_refl _)⟩
    rcases h1 with q | q
    · exact Or.inl q
    · exact Or.inr (WS.fr q A.nf l39 (by rw [e27]; exact Int.le_refl _))
  refine ⟨I, ?_, hh, kv, M.2.2.2.2.eq (ek 36 rfl) (ek 37 rfl)⟩
  unfold BG
  rw [n 63 rfl (by decide) (by decide), n 64 rfl (by decide) (by decide), n 65 rfl (by decide) (by decide), n 51 rfl (by decide) (by decide), n 57 rfl (by decide) (by decide), n 48 rfl (by decide) (by decide), n 75 rfl (by decide) (by decide), n 66 rfl (by decide) (by decide), n 67 rfl (by decide) (by decide), n 68 rfl (by decide) (by decide), n 69 rfl (by decide) (by decide), n 70 rfl (by decide) (by decide), n 71 rfl (by decide) (by decide), n 62 rfl (by decide) (by decide)]
  refine ⟨b1, b2, b3, b4, b5, ⟨by omega, ?_⟩, ⟨by omega, by omega⟩, b8, b9, h72, hr, by omega⟩
  omega
theorem HG.sf (H : HG N σ) (F : SF σ s) (hN : N ≤ σ.1 39) (M : M0 r s) : HG N s := by
  have A : AG σ.2 s.2 0 (σ.1 39) := AG.ofS F (Int.le_refl _) (Int.le_refl _)
  exact H.fr (fun q q0 q1 q2 => A q q0 (by omega)) M.2.2.1 M.2.2.2.2 (F.1 27 rfl (by decide) (by omega)) (F.2.1 23 rfl) (F.2.1 25 rfl) (F.2.1 26 rfl)
end RHO
