section RKN
variable {σ σ' σ'' σ0 σh s : RS} {d : Nat} {S V T U A : Int → Prop} {r w w' lo hi sc ch l R N : Int} {Q : RS → Int → Prop}
/-- a name more is known -/
theorem HG.more {K : Int} (H : HG N σ) (hN : N ≤ σ.1 39) (eK : σ.1 27 = K) (hK : K < 100) (e27 : s.1 27 = K + 1) (e20 : s.1 20 = σ.1 20) (ek : ∀ k, k < 21 ∨ 26 < k → s.2 k = σ.2 k) (eq : ∀ k q, 22 ≤ k → k ≤ 26 → q ≠ K.toNat → s.2 k q = σ.2 k q) (v22 : 0 ≤ s.2 22 K.toNat ∧ s.2 22 K.toNat ≤ 12) (v23 : WSs σ (s.2 23 K.toNat) none0) (v24 : -1 ≤ s.2 24 K.toNat ∧ s.2 24 K.toNat ≤ 7) (v25 : s.2 25 K.toNat < 0 ∨ WSs σ (s.2 25 K.toNat) none0) (v26 : s.2 26 K.toNat = σ.1 39) : HG (σ.1 39) s := by
  obtain ⟨⟨g1, g2, g3, g4, g5, g6, g7, g8⟩, h2, h3, h4⟩ := H
  rw [eK] at h3 h4
  have g1' : 0 ≤ K := by omega
  have nk : ∀ k : Int, 0 ≤ k → k ≤ K → NK s k = NK σ k := fun k k0 k1 => by
    unfold NK
    by_cases c : k = 0
    · rw [if_pos c, if_pos c]
    · rw [if_neg c, if_neg c, eq 26 _ (by omega) (by omega) (by omega)]
  have nK : NK s (K + 1) = σ.1 39 := by
    unfold NK
    rw [if_neg (by omega)]
    have : (K + 1 - 1).toNat = K.toNat := by omega
    rw [this]; exact v26
  have two : ∀ k, (∀ q, q ≠ K.toNat → s.2 k q = σ.2 k q) → ∀ {P : Int → Prop}, P (s.2 k K.toNat) → (∀ q, P (σ.2 k q)) → ∀ q, P (s.2 k q) := fun k e {P} p1 p2 q => by
    by_cases c : q = K.toNat
    · rw [c]; exact p1
    · rw [e q c]; exact p2 q
  have hs : HS s := by
    refine ⟨by omega, by omega, two 22 (fun q hq => eq 22 q (by omega) (by omega) hq) (P := fun x => 0 ≤ x ∧ x ≤ 12) v22 g3, by rw [ek 17 (by omega)]; exact g4, by rw [ek 18 (by omega), e20]; exact g5, by rw [ek 19 (by omega), e20]; exact g6, two 24 (fun q hq => eq 24 q (by omega) (by omega) hq) (P := fun x => -1 ≤ x ∧ x ≤ 7) v24 g7, by rw [ek 30 (by omega), ek 31 (by omega), e20]; exact g8⟩
  have nf : ∀ M, NFr σ.2 s.2 M := fun M q _ _ _ => by
    rw [ek 30 (by omega), ek 31 (by omega), ek 32 (by omega), ek 33 (by omega), ek 38 (by omega)]
    exact ⟨rfl, rfl, rfl, rfl, rfl⟩
  refine ⟨hs, h2.eq (ek 36 (by omega)) (ek 37 (by omega)), by rw [e27, nK], fun k k0 k1 => ?_⟩
  rw [e27] at k1
  have top : GK σ K := h4 K (by omega) (Int.le_refl _)
  by_cases c : k ≤ K
  · obtain ⟨⟨y1, y2⟩, y3⟩ := h4 k k0 c
    rw [eK] at y2
    have yK := y2 K c (Int.le_refl _)
    refine ⟨⟨by rw [nk k k0 c]; exact y1, fun k' a b => ?_⟩, fun j j0 j1 => ?_⟩
    · rw [nk k k0 c]
      by_cases ck : k' ≤ K
      · rw [nk k' (by omega) ck]; exact y2 k' a ck
      · have : k' = K + 1 := by omega
        rw [this, nK]; omega
    obtain ⟨z1, z2⟩ := y3 j j0 j1
    rw [nk k k0 c, eq 25 _ (by omega) (by omega) (by omega), eq 23 _ (by omega) (by omega) (by omega)]
    refine ⟨?_, z2.fr (nf _) (Int.le_refl _) (Int.le_refl _)⟩
    rcases z1 with z1 | z1
    · exact Or.inl z1
    · exact Or.inr (z1.fr (nf _) (Int.le_refl _) (Int.le_refl _))
  · have ck : k = K + 1 := by omega
    subst ck
    have n8 := top.1.1
    refine ⟨⟨by rw [nK]; omega, fun k' a b => ?_⟩, fun j j0 j1 => ?_⟩
    · have : k' = K + 1 := by omega
      rw [this]; exact Int.le_refl _
    rw [nK]
    by_cases cj : j = K
    · subst cj
      refine ⟨?_, WS.fr v23 (nf _) (Int.le_refl _) (by omega)⟩
      rcases v25 with z | z
      · exact Or.inl z
      · exact Or.inr (WS.fr z (nf _) (Int.le_refl _) (by omega))
    · obtain ⟨z1, z2⟩ := top.2 j j0 (by omega)
      rw [eq 25 _ (by omega) (by omega) (by omega), eq 23 _ (by omega) (by omega) (by omega)]
      refine ⟨?_, z2.fr (nf _) (by omega) (by omega)⟩
      rcases z1 with z1 | z1
      · exact Or.inl z1
      · exact Or.inr (z1.fr (nf _) (by omega) (by omega))
/-- the end of a telling of a name -/
def KE (σ s : RS) : Prop := IR s ∧ (∀ j, j ≠ 27 → j ≠ 62 → s.1 j = σ.1 j) ∧ (∀ k, k < 21 ∨ 26 < k → s.2 k = σ.2 k) ∧ s.1 27 = σ.1 27 + 1 ∧ s.1 62 = σ.1 39 ∧ HG (s.1 62) s
theorem q_told198 {rec : Nat → RS → List Int → RO} : ∀ (n : Nat) {σ : RS} {x3 : Int}, IR σ → HG N σ → N ≤ σ.1 39 → σ.1 27 < 100 → NMx σ 80 → WSs σ (σ.1 60) none0 → (-1 ≤ σ.1 61 ∧ σ.1 61 ≤ 7) → (σ.1 78 < 0 ∨ WSs σ (σ.1 78) none0) → (0 ≤ x3 ∧ x3 ≤ 12) → σ.2 32 (σ.1 80).toNat - x3 + 1 ≤ (n : Int) → 1 ≤ n → rsf (pf_told_198 rec n σ x3) (fun s b => inR b ∧ KE σ s) := by
  intro n
  induction n with
  | zero => intro σ x3 _ _ _ _ _ _ _ _ _ _ h; omega
  | succ n ih =>
    intro σ x3 I H hN h27 hn W60 h61 W78 h3 hf _
    have hn' := hn
    obtain ⟨h80, m0, m1, m2, m3⟩ := hn'
    have g1 := H.1.1
    unfold pf_told_198
    refine rsf_gi (fun z1 q1 => ?_)
    subst q1
    refine rsf_rd ⟨by omega, by show _ < ((140000 : Nat) : Int); omega⟩ (fun z2 q2 => rsf_if (fun c => ?_) (fun c => ?_))
    · refine rsf_gi (fun z4 q4 => rsf_gi (fun z5 q5 => ?_))
      subst q5
      refine rsf_rd ⟨by omega, by show _ < ((140000 : Nat) : Int); omega⟩ (fun z6 q6 => ?_)
      refine rsf_wr ⟨by omega, by show _ < ((100 : Nat) : Int); omega⟩ (fun s7 w7 => ?_)
      have e7 := rs_a_1 w7
      refine rsf_gi (fun z8 q8 => rsf_gi (fun z9 q9 => ?_))
      rw [e7] at q8 q9
      rw [q4] at q8
      subst q8
      refine rsf_wr ⟨by omega, by show _ < ((100 : Nat) : Int); omega⟩ (fun s10 w10 => ?_)
      have e10 := rs_a_1 w10
      refine rsf_gi (fun z11 q11 => rsf_gi (fun z12 q12 => ?_))
      rw [e10, e7] at q11 q12
      rw [q4] at q11
      subst q11
      refine rsf_wr ⟨by omega, by show _ < ((100 : Nat) : Int); omega⟩ (fun s13 w13 => ?_)
      have e13 := rs_a_1 w13
      refine rsf_gi (fun z14 q14 => rsf_gi (fun z15 q15 => ?_))
      rw [e13, e10, e7] at q14 q15
      rw [q4] at q14
      subst q14
      refine rsf_wr ⟨by omega, by show _ < ((100 : Nat) : Int); omega⟩ (fun s16 w16 => ?_)
      have e16 := rs_a_1 w16
      refine rsf_gi (fun z17 q17 => rsf_gi (fun z18 q18 => ?_))
      rw [e16, e13, e10, e7] at q17 q18
      rw [q4] at q17
      subst q17
      refine rsf_wr ⟨by omega, by show _ < ((100 : Nat) : Int); omega⟩ (fun s19 w19 => ?_)
      have e19 := rs_a_1 w19
      refine rsf_gi (fun z20 q20 => ?_)
      rw [e19, e16, e13, e10, e7, q4] at q20
      subst q20
      refine rsf_ck ⟨by omega, by omega⟩ (fun z21 q21 => rsf_pi (fun s22 w22 => rsf_gi (fun z23 q23 => rsf_pi (fun s24 w24 => ?_))))
      have e22 := rs_i_2 w22
      have e24 := rs_i_2 w24
      have q23' : z23 = σ.1 39 := by rw [← q23, rs_i_n w22 (by decide), e19, e16, e13, e10, e7]
      have hI : IR s24 := ((((((I.a w7 ⟨by omega, by omega⟩).a w10 (q9 ▸ I.1 60)).a w13 (q12 ▸ I.1 61)).a w16 (q15 ▸ I.1 78)).a w19 (q18 ▸ I.1 39)).p w22 ⟨by omega, by omega⟩).p w24 (by rw [q23']; exact I.1 39)
      have nn : ∀ j, j ≠ 27 → j ≠ 62 → s24.1 j = σ.1 j := fun j a b => by rw [rs_i_n w24 b, rs_i_n w22 a, e19, e16, e13, e10, e7]
      have v27 : s24.1 27 = z4 + 1 := by rw [rs_i_n w24 (by decide), rs_i_e w22]; exact q21
      have v62 : s24.1 62 = σ.1 39 := by rw [rs_i_e w24, q23']
      have a2 : s24.2 = s19.2 := by rw [e24, e22]
      have ek : ∀ k, k < 21 ∨ 26 < k → s24.2 k = σ.2 k := fun k hk => by rw [a2, rs_a_k w19 (by omega), rs_a_k w16 (by omega), rs_a_k w13 (by omega), rs_a_k w10 (by omega), rs_a_k w7 (by omega)]
      have eq : ∀ k q, 22 ≤ k → k ≤ 26 → q ≠ z4.toNat → s24.2 k q = σ.2 k q := fun k q _ _ hq => by
        have st : ∀ {u t : RS} {m : Nat} {x : Int}, t = rs_a u m z4 x → t.2 k q = u.2 k q := fun {u t m x} w => by
          by_cases c : k = m
          · subst c; exact rs_a_i w hq
          · rw [rs_a_k w c]
        rw [a2, st w19, st w16, st w13, st w10, st w7]
      have v22 : s24.2 22 z4.toNat = z6 := by rw [a2, rs_a_k w19 (by decide), rs_a_k w16 (by decide), rs_a_k w13 (by decide), rs_a_k w10 (by decide)]; exact rs_a_e w7
      have v23 : s24.2 23 z4.toNat = σ.1 60 := by rw [a2, rs_a_k w19 (by decide), rs_a_k w16 (by decide), rs_a_k w13 (by decide), rs_a_e w10, q9]
      have v24 : s24.2 24 z4.toNat = σ.1 61 := by rw [a2, rs_a_k w19 (by decide), rs_a_k w16 (by decide), rs_a_e w13, q12]
      have v25 : s24.2 25 z4.toNat = σ.1 78 := by rw [a2, rs_a_k w19 (by decide), rs_a_e w16, q15]
      have v26 : s24.2 26 z4.toNat = σ.1 39 := by rw [a2, rs_a_e w19, q18]
      refine rsf_some ⟨⟨by decide, by decide⟩, hI, nn, ek, by omega, v62, ?_⟩
      rw [v62]
      exact H.more hN q4 (by omega) v27 (nn 20 (by decide) (by decide)) ek eq (by omega) (by rw [v23]; exact W60) (by omega) (by rw [v25]; exact W78) v26
    · refine rsf_gi (fun z18 q18 => rsf_ck ⟨by omega, by omega⟩ (fun z19 q19 => rsf_ck ⟨by omega, by omega⟩ (fun z20 q20 => rsf_gi (fun z21 q21 => ?_))))
      subst q21
      refine rsf_rd ⟨by omega, by show _ < ((140000 : Nat) : Int); omega⟩ (fun z22 q22 => ?_)
      refine rsf_ck ⟨by omega, by omega⟩ (fun z23 q23 => ?_)
      refine rsf_rd ⟨by omega, by show _ < ((4000 : Nat) : Int); omega⟩ (fun z24 q24 => ?_)
      refine rsf_wr ⟨by omega, by show _ < ((1200 : Nat) : Int); omega⟩ (fun s25 w25 => ?_)
      have e25 := rs_a_1 w25
      have ek := fun k (h : k ≠ 21) => rs_a_k w25 h
      have I25 := I.a w25 (q24 ▸ I.2 _ _)
      have nf : ∀ M, NFr σ.2 s25.2 M := fun M q _ _ _ => by
        rw [ek 30 (by omega), ek 31 (by omega), ek 32 (by omega), ek 33 (by omega), ek 38 (by omega)]
        exact ⟨rfl, rfl, rfl, rfl, rfl⟩
      have hs25 : HS s25 := by
        unfold HS
        rw [e25, ek 22 (by decide), ek 17 (by decide), ek 18 (by decide), ek 19 (by decide), ek 24 (by decide), ek 30 (by decide), ek 31 (by decide)]
        exact H.1
      have H25 : HG N s25 := H.fr (nf _) hs25 (H.2.1.eq (ek 36 (by decide)) (ek 37 (by decide))) (by rw [e25]) (ek 23 (by decide)) (ek 25 (by decide)) (ek 26 (by decide))
      have hn25 : NMx s25 80 := by
        unfold NMx NMr
        rw [e25, ek 30 (by decide), ek 31 (by decide), ek 32 (by decide)]
        exact hn
      refine rsf_ck ⟨by omega, by omega⟩ (fun z26 q26 => ?_)
      have lift : ∀ {t : Int}, WSs σ t none0 → WSs s25 t none0 := fun {t} q => WS.fr q (nf _) (by rw [e25]; exact Int.le_refl _) (by rw [e25]; exact Int.le_refl _)
      refine rsf_mono (ih I25 H25 (by rw [e25]; exact hN) (by rw [e25]; exact h27) hn25 (by rw [e25]; exact lift W60) (by rw [e25]; exact h61) ?_ (by omega) (by rw [e25, ek 32 (by decide)]; omega) (by omega)) (fun s b f => ⟨f.1, ?_⟩)
      · rw [e25]
        rcases W78 with q | q
        · exact Or.inl q
        · exact Or.inr (lift q)
      · obtain ⟨y1, y2, y3, y4, y5, y6⟩ := f.2
        rw [e25] at y2 y4 y5
        exact ⟨y1, y2, fun k hk => (y3 k hk).trans (ek k (by omega)), y4, y5, y6⟩
end RKN
