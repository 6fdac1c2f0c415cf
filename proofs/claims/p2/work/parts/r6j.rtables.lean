section RTB
variable {σ σ' σ'' σ0 σh s : RS} {d : Nat} {S V T U A : Int → Prop} {r w w' lo hi sc ch l R N : Int} {Q : RS → Int → Prop}
def dn (j : Nat) : Bool := jn j || j == 75 || j == 20 || j == 27 || j == 62
def da (k : Nat) : Bool := ja k || (Nat.ble 16 k && Nat.ble k 19) || (Nat.ble 21 k && Nat.ble k 26)
/-- what doing a statement comes to -/
def DO (σ s : RS) : Prop := IR s ∧ (∀ j, dn j = false → s.1 j = σ.1 j) ∧ (∀ k, da k = false → s.2 k = σ.2 k) ∧ (0 ≤ s.1 72 ∧ s.1 72 ≤ 14) ∧ ((0 ≤ s.1 65 ∧ s.1 65 ≤ 60000) ∧ 0 ≤ s.1 64 ∧ s.1 65 - s.1 64 = σ.1 65 - σ.1 64) ∧ (0 ≤ s.1 75 ∧ s.1 75 ≤ σ.1 75 + 100 * (s.1 64 - σ.1 64) + 60) ∧ HG (s.1 62) s ∧ s.1 62 ≤ σ.1 62 + s.1 64 + 2 * (σ.1 39 - σ.1 62) ∧ σ.1 27 ≤ s.1 27
theorem dn_jn {j : Nat} (h : dn j = false) : jn j = false ∧ j ≠ 75 ∧ j ≠ 20 ∧ j ≠ 27 ∧ j ≠ 62 := by
  unfold dn at h
  simp only [Bool.or_eq_false_iff, beq_eq_false_iff_ne] at h
  exact ⟨h.1.1.1.1, h.1.1.1.2, h.1.1.2, h.1.2, h.2⟩
theorem da_ja {k : Nat} (h : da k = false) : ja k = false := by
  unfold da at h
  simp only [Bool.or_eq_false_iff] at h
  exact h.1.1
theorem DO.of (H : HG (σ.1 62) σ) (hN : σ.1 62 ≤ σ.1 39) (M : M0 r s) (F : KF (σ.1 62) σ s) (h75 : s.1 75 ≤ σ.1 75 + 100 * (s.1 64 - σ.1 64) + 60) : DO σ s := by
  have e62 : s.1 62 = σ.1 62 := F.1 62 rfl (by decide)
  have e27 : s.1 27 = σ.1 27 := F.1 27 rfl (by decide)
  obtain ⟨b1, b2, b3, b4, b5, b6, b7, b8, b9, b10, b11⟩ := M.2.1
  exact ⟨M.1, fun j hj => F.1 j (dn_jn hj).1 (dn_jn hj).2.1, fun k hk => F.2.1 k (da_ja hk), b10, ⟨b3, by omega, F.2.2.2⟩, ⟨b8.1, h75⟩, by rw [e62]; exact H.kf F M, by omega, by omega⟩
theorem HG.zero (h : HS σ) (k : KA σ) (h27 : σ.1 27 = 0) (h62 : N = 8) : HG N σ := by
  have e : NK σ 0 = 8 := if_pos rfl
  refine ⟨h, k, by rw [h27, e]; exact h62, fun q q0 q1 => ?_⟩
  have : q = 0 := by omega
  subst this
  refine ⟨⟨by rw [e]; decide, fun k' a b => ?_⟩, fun j j0 j1 => by omega⟩
  have : k' = 0 := by omega
  rw [this]; exact Int.le_refl _
/-- a state in which nothing is known and only the tables change -/
def TBs (σ s : RS) : Prop := IR s ∧ (∀ j, j ≠ 20 → j ≠ 72 → j ≠ 73 → s.1 j = σ.1 j) ∧ (∀ k, k < 16 ∨ (19 < k ∧ k < 30) ∨ 31 < k → s.2 k = σ.2 k) ∧ (0 ≤ s.1 72 ∧ s.1 72 ≤ 14) ∧ HS s
theorem TBs.do (h : TBs σ s) (H : HG (σ.1 62) σ) (h27 : σ.1 27 = 0) (h64 : σ.1 64 = 0) (h65 : 0 ≤ σ.1 65 ∧ σ.1 65 ≤ 60000) (h75 : 0 ≤ σ.1 75) (hN : σ.1 62 ≤ σ.1 39) : DO σ s := by
  obtain ⟨I, n, ek, b72, hs⟩ := h
  have n62 := n 62 (by decide) (by decide) (by decide)
  have n64 := n 64 (by decide) (by decide) (by decide)
  have n65 := n 65 (by decide) (by decide) (by decide)
  have n75 := n 75 (by decide) (by decide) (by decide)
  have n27 := n 27 (by decide) (by decide) (by decide)
  have e8 : σ.1 62 = 8 := by
    have := H.2.2.1
    rw [h27] at this
    exact this.trans (if_pos rfl)
  refine ⟨I, fun j hj => n j ?_ ?_ ?_, fun k hk => ek k ?_, b72, ⟨by omega, by omega, by omega⟩, ⟨by omega, by omega⟩, HG.zero hs (H.2.1.eq (ek 36 (by omega)) (ek 37 (by omega))) (by omega) (by omega), by omega, by omega⟩
  · rintro rfl; cases hj
  · rintro rfl; cases hj
  · rintro rfl; cases hj
  · by_cases c : k < 16 ∨ (19 < k ∧ k < 30) ∨ 31 < k
    · exact c
    · have : k = 16 ∨ k = 17 ∨ k = 18 ∨ k = 19 ∨ k = 30 ∨ k = 31 := by omega
      rcases this with rfl | rfl | rfl | rfl | rfl | rfl <;> cases hk
theorem TBs.refl (I : IR σ) (hs : HS σ) (h72 : 0 ≤ σ.1 72 ∧ σ.1 72 ≤ 14) : TBs σ σ := ⟨I, fun _ _ _ _ => rfl, fun _ _ => rfl, h72, hs⟩
theorem TBs.trans (h : TBs σ σ') (k : TBs σ' σ'') : TBs σ σ'' := by
  obtain ⟨a1, a2, a3, a4, a5⟩ := h
  obtain ⟨b1, b2, b3, b4, b5⟩ := k
  exact ⟨b1, fun j p q r => (b2 j p q r).trans (a2 j p q r), fun k hk => (b3 k hk).trans (a3 k hk), b4, b5⟩
theorem t_wrong {x y : Int} (hd : 1 ≤ d) (I : IR σ) (hs : HS σ) (h72 : 0 ≤ σ.1 72 ∧ σ.1 72 ≤ 14) (hx : 1 ≤ x ∧ x ≤ 14) (hy : inR y) : rsf (RF d 3 σ [x, y]) (fun s _ => TBs σ s ∧ s.1 72 ≠ 0 ∧ s.2 = σ.2 ∧ s.1 20 = σ.1 20) := by
  refine rsf_mono (q_wrong hd I hx hy) (fun s b f => ?_)
  obtain ⟨_, I1, e2, fr, hb⟩ := f
  refine ⟨⟨I1, fun j _ p q => fr j p q, fun k _ => by rw [e2], by omega, ?_⟩, by omega, e2, fr 20 (by decide) (by decide)⟩
  unfold HS
  rw [e2, fr 27 (by decide) (by decide), fr 20 (by decide) (by decide)]
  exact hs
/-- a name's signs are copied: the new sort -/
theorem q_tables88 {rec : Nat → RS → List Int → RO} : ∀ (n : Nat) {σ : RS} {x2 : Int}, IR σ → HS σ → (0 ≤ σ.1 72 ∧ σ.1 72 ≤ 14) → σ.1 20 < 8 → (8 ≤ σ.1 80 ∧ σ.1 80 < 140000) → NMr σ.2 (σ.1 80) → (0 ≤ x2 ∧ x2 ≤ 12) → σ.2 32 (σ.1 80).toNat - x2 + 1 ≤ (n : Int) → 1 ≤ n → rsf (pf_tables_88 rec n σ x2) (fun s b => inR b ∧ TBs σ s) := by
  intro n
  induction n with
  | zero => intro σ x2 _ _ _ _ _ _ _ _ h; omega
  | succ n ih =>
    intro σ x2 I hs h72 h20 h80 hn h2 hf _
    obtain ⟨m0, m1, m2, m3⟩ := hn
    have g20 := hs.2.1
    unfold pf_tables_88
    refine rsf_gi (fun z1 q1 => ?_)
    subst q1
    refine rsf_rd ⟨by omega, by show _ < ((140000 : Nat) : Int); omega⟩ (fun z2 q2 => rsf_if (fun c => ?_) (fun c => ?_))
    · refine rsf_gi (fun z4 q4 => rsf_gi (fun z5 q5 => ?_))
      subst q5
      refine rsf_rd ⟨by omega, by show _ < ((140000 : Nat) : Int); omega⟩ (fun z6 q6 => ?_)
      refine rsf_wr ⟨by omega, by show _ < ((8 : Nat) : Int); omega⟩ (fun s7 w7 => ?_)
      have e7 := rs_a_1 w7
      refine rsf_gi (fun z8 q8 => ?_)
      rw [e7, q4] at q8
      subst q8
      refine rsf_wr ⟨by omega, by show _ < ((8 : Nat) : Int); omega⟩ (fun s9 w9 => ?_)
      have e9 := rs_a_1 w9
      refine rsf_gi (fun z10 q10 => ?_)
      rw [e9, e7, q4] at q10
      subst q10
      refine rsf_wr ⟨by omega, by show _ < ((140000 : Nat) : Int); omega⟩ (fun s11 w11 => ?_)
      have e11 := rs_a_1 w11
      refine rsf_gi (fun z12 q12 => rsf_gi (fun z13 q13 => ?_))
      rw [e11, e9, e7, q4] at q12 q13
      subst q12 q13
      refine rsf_wr ⟨by omega, by show _ < ((140000 : Nat) : Int); omega⟩ (fun s14 w14 => ?_)
      have e14 := rs_a_1 w14
      refine rsf_gi (fun z15 q15 => ?_)
      rw [e14, e11, e9, e7, q4] at q15
      subst q15
      refine rsf_ck ⟨by omega, by omega⟩ (fun z16 q16 => rsf_pi (fun s17 w17 => ?_))
      have e17 := rs_i_2 w17
      have hz : inR z4 := ⟨by omega, by omega⟩
      have I17 : IR s17 := ((((I.a w7 ⟨by omega, by omega⟩).a w9 ⟨by decide, by decide⟩).a w11 ⟨by decide, by decide⟩).a w14 hz).p w17 ⟨by omega, by omega⟩
      have n17 : ∀ j, j ≠ 20 → s17.1 j = σ.1 j := fun j hj => by rw [rs_i_n w17 hj, e14, e11, e9, e7]
      have v20 : s17.1 20 = z4 + 1 := by rw [rs_i_e w17]; exact q16
      have ek : ∀ k, k ≠ 17 → k ≠ 18 → k ≠ 30 → k ≠ 31 → s17.2 k = σ.2 k := fun k a b c d => by rw [e17, rs_a_k w14 d, rs_a_k w11 c, rs_a_k w9 b, rs_a_k w7 a]
      obtain ⟨g1, g2, g3, g4, g5, g6, g7, g8⟩ := hs
      refine rsf_some ⟨⟨by decide, by decide⟩, I17, fun j a _ _ => n17 j a, fun k hk => ek k (by omega) (by omega) (by omega) (by omega), by rw [n17 72 (by decide)]; exact h72, ?_⟩
      refine ⟨by rw [n17 27 (by decide)]; exact g1, by omega, by rw [ek 22 (by decide) (by decide) (by decide) (by decide)]; exact g3, fun k => ?_, fun k hk8 => ?_, fun k hk64 => ?_, by rw [ek 24 (by decide) (by decide) (by decide) (by decide)]; exact g7, fun k k0 k1 => ?_⟩
      · have e : s17.2 17 k = s7.2 17 k := by rw [e17, rs_a_k w14 (by decide), rs_a_k w11 (by decide), rs_a_k w9 (by decide)]
        rw [e]
        by_cases ck : k = z4.toNat
        · rw [ck, rs_a_e w7]; omega
        · rw [rs_a_i w7 ck]; exact g4 k
      · have e : s17.2 18 k = s9.2 18 k := by rw [e17, rs_a_k w14 (by decide), rs_a_k w11 (by decide)]
        rw [e, v20]
        by_cases ck : k = z4.toNat
        · rw [ck, rs_a_e w9]; omega
        · rw [rs_a_i w9 ck, rs_a_k w7 (by decide)]; have := g5 k hk8; omega
      · rw [ek 19 (by decide) (by decide) (by decide) (by decide), v20]; have := g6 k hk64; omega
      · rw [v20] at k1
        have ea : s17.2 30 k.toNat = s11.2 30 k.toNat := by rw [e17, rs_a_k w14 (by decide)]
        have eb : s17.2 31 k.toNat = s14.2 31 k.toNat := by rw [e17]
        rw [ea, eb]
        by_cases ck : k = z4
        · subst ck
          rw [rs_a_e w11, rs_a_e w14]; exact ⟨rfl, rfl⟩
        · rw [rs_a_i w11 (by omega), rs_a_i w14 (by omega), rs_a_k w9 (by decide), rs_a_k w7 (by decide), rs_a_k w11 (by decide), rs_a_k w9 (by decide), rs_a_k w7 (by decide)]
          exact g8 k k0 (by omega)
    · refine rsf_gi (fun z18 q18 => rsf_ck ⟨by omega, by omega⟩ (fun z19 q19 => rsf_ck ⟨by omega, by omega⟩ (fun z20 q20 => rsf_gi (fun z21 q21 => ?_))))
      subst q21
      refine rsf_rd ⟨by omega, by show _ < ((140000 : Nat) : Int); omega⟩ (fun z22 q22 => ?_)
      refine rsf_ck ⟨by omega, by omega⟩ (fun z23 q23 => ?_)
      refine rsf_rd ⟨by omega, by show _ < ((4000 : Nat) : Int); omega⟩ (fun z24 q24 => ?_)
      refine rsf_wr ⟨by omega, by show _ < ((96 : Nat) : Int); omega⟩ (fun s25 w25 => ?_)
      have e25 := rs_a_1 w25
      have ek := fun k (h : k ≠ 16) => rs_a_k w25 h
      have I25 := I.a w25 (q24 ▸ I.2 _ _)
      have hs25 : HS s25 := by
        unfold HS
        rw [e25, ek 22 (by decide), ek 17 (by decide), ek 18 (by decide), ek 19 (by decide), ek 24 (by decide), ek 30 (by decide), ek 31 (by decide)]
        exact hs
      have hn25 : NMr s25.2 (s25.1 80) := by
        unfold NMr
        rw [e25, ek 30 (by decide), ek 31 (by decide), ek 32 (by decide)]
        exact ⟨m0, m1, m2, m3⟩
      refine rsf_ck ⟨by omega, by omega⟩ (fun z26 q26 => ?_)
      have T25 : TBs σ s25 := ⟨I25, fun _ _ _ _ => by rw [e25], fun k hk => ek k (by omega), by rw [e25]; exact h72, hs25⟩
      refine rsf_mono (ih I25 hs25 (by rw [e25]; exact h72) (by rw [e25]; exact h20) (by rw [e25]; exact h80) hn25 (by omega) (by rw [e25, ek 32 (by decide)]; omega) (by omega)) (fun s b f => ⟨f.1, T25.trans f.2⟩)
end RTB
