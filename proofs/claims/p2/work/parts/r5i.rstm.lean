section RSM
variable {σ σ' σ'' σ0 s : RS} {d : Nat} {Q : RS → Int → Prop}
theorem MV.ok (h : MV σ s) (q : s.1 72 = 0) : σ.1 72 = 0 := by
  by_cases c : σ.1 72 = 0
  · exact c
  · exact absurd q (h.2.2 c)
theorem RD.pre (S : SQ 0 σ σ') (h9 : σ'.1 9 = σ.1 9) (h39 : σ'.1 39 = σ.1 39) (h15 : σ'.1 15 = σ.1 15) (R : RD σ' s) : RD σ s := by
  have tr : ∀ {e : Int}, SQ e σ' s → SQ e σ s := fun {e} T => by
    refine ⟨T.1, S.2.1.trans T.2.1, fun q => ?_, ?_⟩
    · rw [T.2.2.1 (by rw [h15]; exact q), h39]
    · have := T.2.2.2; omega
  refine ⟨tr R.1, fun q => ?_⟩
  obtain ⟨r1, r2, r3⟩ := R.2 q
  refine ⟨tr r1, by omega, fun c => ?_⟩
  rw [← h39]
  exact r3 (by rw [h15]; exact c)
/-- a word's third name -/
theorem q_st159 {e lo : Int} (hd : 7 ≤ d) (S : SQ e σ0 σ) (B : BU σ0) (he : e ≤ 0) (h9 : σ0.1 9 < σ.1 9) (h76 : σ.1 76 = 2) (h0 : 0 ≤ lo) (h15 : σ.1 15 = σ0.1 15) (hl : lo = σ0.1 39) (h : σ.1 72 = 0 → σ0.1 15 ≠ 0 → NM1 σ 80 lo (σ.1 39) ∧ NM1 σ 81 lo (σ.1 39) ∧ lo ≤ σ.1 39) : rsf (pf_readStatement_159 (RF d) σ) (fun s r => inR r ∧ RD σ0 s) := by
  unfold pf_readStatement_159
  refine rsf_gi (fun z1 q1 => rsf_if (fun c1 => ?_) (fun c1 => ?_))
  · exact rsf_some ⟨⟨by decide, by decide⟩, S.le (by omega), fun q => absurd (q1.symm.trans q) c1⟩
  · refine sq_nm (by omega) S B (by omega) ⟨by omega, by omega⟩ (fun s3 S3 K3 M3 g3 => ?_)
    refine rsf_some ⟨⟨by decide, by decide⟩, S3.le (by omega), fun q => ?_⟩
    obtain ⟨S3', l3, G3⟩ := g3 q
    refine ⟨S3'.le (by omega), by omega, fun c => ?_⟩
    obtain ⟨x1, x2, x3⟩ := h (by omega) c
    obtain ⟨g1, g2, g4⟩ := G3 (by rw [h15]; exact c)
    subst hl
    refine Or.inr (Or.inr (Or.inr (Or.inl ⟨?_, ?_, ?_, by omega, by omega, g4⟩)))
    · rw [K3 76 (by omega) (by omega), h76]
    · obtain ⟨a1, a2, a3⟩ := x1.ag M3.2.1 (K3 80 (by omega) (by omega)) h0 (Int.le_refl _)
      exact ⟨a1, by omega, a3⟩
    · obtain ⟨a1, a2, a3⟩ := x2.ag M3.2.1 (K3 81 (by omega) (by omega)) h0 (Int.le_refl _)
      exact ⟨a1, by omega, a3⟩
/-- the second term of 'same' -/
theorem q_st226 {e : Int} (hd : 131 ≤ d) (S : SQ e σ0 σ) (B : BU σ0) (he : e ≤ 1) (he' : σ.1 72 = 0 → SQ (-1) σ0 σ) (h9 : σ0.1 9 < σ.1 9) (h76 : 3 ≤ σ.1 76 ∧ σ.1 76 ≤ 6) (h15 : σ.1 15 = σ0.1 15) (h79 : σ.1 79 = -1) (h : σ.1 72 = 0 → σ0.1 15 ≠ 0 → TM σ 78 (σ0.1 39) (σ.1 39)) : rsf (pf_readStatement_226 (RF d) σ) (fun s r => inR r ∧ RD σ0 s) := by
  unfold pf_readStatement_226
  refine rsf_gi (fun z1 q1 => rsf_if (fun c1 => ?_) (fun c1 => ?_))
  · exact rsf_some ⟨⟨by decide, by decide⟩, S.le (by omega), fun q => absurd (q1.symm.trans q) c1⟩
  · have h72 : σ.1 72 = 0 := by omega
    have S' := he' h72
    refine rsf_gi (fun z3 q3 => rsf_if (fun c3 => ?_) (fun c3 => ?_))
    · refine rsf_some ⟨⟨by decide, by decide⟩, S.le (by omega), fun q => ⟨S'.le (by omega), h9, fun c => ?_⟩⟩
      exact Or.inr (Or.inr (Or.inr (Or.inr ⟨h76, Or.inl ⟨h79, by omega, h h72 c⟩⟩)))
    · refine sq_need (by omega) S' (fun s5 z6 S5 K5 M5 E5 n5 => ?_)
      refine sq_tm (by omega) S5 B (by omega) ⟨by omega, by omega⟩ (fun s9 S9 K9 M9 _ g9 => ?_)
      refine rsf_some ⟨⟨by decide, by decide⟩, S9.le (by omega), fun q => ?_⟩
      obtain ⟨S9', T9⟩ := g9 q
      have M := M5.trans M9
      have m1 := M.1.1
      refine ⟨S9'.le (by omega), by omega, fun c => ?_⟩
      have t := T9 (by rw [K5 15 (by omega) (by omega), h15]; exact c)
      rw [n5] at t
      have a76 : s9.1 76 = σ.1 76 := by rw [K9 76 (by omega) (by omega), K5 76 (by omega) (by omega)]
      refine Or.inr (Or.inr (Or.inr (Or.inr ⟨by omega, Or.inr ⟨Or.inr (by omega), _, (h h72 c).ag M.2.1 ?_ (Int.le_refl _), t⟩⟩)))
      rw [K9 78 (by omega) (by omega), K5 78 (by omega) (by omega)]
theorem q_st25 {t0 : Int} (hd : 132 ≤ d) (L : LZ σ) (B : BU σ) (h0 : -1 ≤ t0 ∧ t0 ≤ 8) (h7 : t0 ≠ -1 → σ.1 7 = 1) : rsf (pf_readStatement_25 (RF d) σ t0) (fun s r => inR r ∧ RD σ s) := by
  unfold pf_readStatement_25
  have hz : inR (-1) := ⟨by decide, by decide⟩
  refine rsf_pi (fun s1 w1 => rsf_pi (fun s2 w2 => rsf_pi (fun s3 w3 => ?_)))
  have S3 := (((SQ.refl L).put w1 ⟨by omega, by omega⟩ ⟨by omega, by omega⟩).put w2 ⟨by omega, by omega⟩ hz).put w3 ⟨by omega, by omega⟩ hz
  have k : ∀ j, j ≠ 76 → j ≠ 78 → j ≠ 79 → s3.1 j = σ.1 j := fun j a b c => by rw [rs_i_n w3 c, rs_i_n w2 b, rs_i_n w1 a]
  have k76 : s3.1 76 = t0 := by rw [rs_i_n w3 (by decide), rs_i_n w2 (by decide), rs_i_e w1]
  have k78 : s3.1 78 = -1 := by rw [rs_i_n w3 (by decide), rs_i_e w2]
  have k79 : s3.1 79 = -1 := rs_i_e w3
  have k9 := k 9 (by decide) (by decide) (by decide)
  have k39 := k 39 (by decide) (by decide) (by decide)
  have k15 := k 15 (by decide) (by decide) (by decide)
  have k7 := k 7 (by decide) (by decide) (by decide)
  have B0 := B.1
  clear w1 w2 w3
  refine rsf_gi (fun z4 q4 => rsf_if (fun c4 => ?_) (fun c4 => ?_))
  · refine rsf_gi (fun z6 q6 => rsf_if (fun c6 => ?_) (fun c6 => ?_))
    · refine sq_next (by omega) S3 (Or.inl (by rw [k7]; exact h7 (by omega))) (fun s8 z9 S8 K8 M8 E8 n8 g8 => ?_)
      have a76 : s8.1 76 = t0 := by rw [K8 76 (by omega) (by omega), k76]
      have a79 : s8.1 79 = -1 := by rw [K8 79 (by omega) (by omega), k79]
      have a15 : s8.1 15 = σ.1 15 := by rw [K8 15 (by omega) (by omega), k15]
      have l8 : σ.1 9 < s8.1 9 := by omega
      have n8' : s8.1 39 = σ.1 39 := n8.trans k39
      refine rsf_gi (fun z10 q10 => rsf_if (fun c10 => ?_) (fun c10 => ?_))
      · refine sq_nm (by omega) S8 B (by omega) ⟨by omega, by omega⟩ (fun s14 S14 K14 M14 g14 => ?_)
        refine rsf_some ⟨⟨by decide, by decide⟩, S14.le (by omega), fun q => ?_⟩
        obtain ⟨S14', l14, G14⟩ := g14 q
        refine ⟨S14'.le (by omega), by omega, fun c => ?_⟩
        obtain ⟨g1, g2, g3⟩ := G14 (by rw [a15]; exact c)
        refine Or.inr (Or.inl ⟨?_, by omega, by omega, g3⟩)
        rw [K14 76 (by omega) (by omega)]; omega
      · refine rsf_if (fun c11 => ?_) (fun c11 => ?_)
        · refine sq_nm (by omega) S8 B (by omega) ⟨by omega, by omega⟩ (fun s18 S18 K18 M18 g18 => ?_)
          refine sq_need (by omega) S18 (fun s19 z20 S19 K19 M19 E19 n19 => ?_)
          refine sq_nm (by omega) S19 B (by omega) ⟨by omega, by omega⟩ (fun s23 S23 K23 M23 g23 => ?_)
          refine rsf_some ⟨⟨by decide, by decide⟩, S23.le (by omega), fun q => ?_⟩
          obtain ⟨S23', l23, G23⟩ := g23 q
          have m18 := M18.1.1
          have m19 := M19.1.1
          refine ⟨S23'.le (by omega), by omega, fun c => ?_⟩
          have b15 : s18.1 15 = σ.1 15 := by rw [K18 15 (by omega) (by omega), a15]
          obtain ⟨g1, g2, g3⟩ := G23 (by rw [K19 15 (by omega) (by omega), b15]; exact c)
          obtain ⟨_, _, G18⟩ := g18 (M19.ok (M23.ok q))
          obtain ⟨f1, f2, f3⟩ := G18 (by rw [a15]; exact c)
          have X : NM1 s18 80 (σ.1 39) (s18.1 39) := ⟨by omega, by omega, f3⟩
          have e80 : s23.1 80 = s18.1 80 := by rw [K23 80 (by omega) (by omega), K19 80 (by omega) (by omega)]
          obtain ⟨x1, x2, x3⟩ := X.ag (M19.trans M23).2.1 e80 B0 (Int.le_refl _)
          have e76 : s23.1 76 = s8.1 76 := by rw [K23 76 (by omega) (by omega), K19 76 (by omega) (by omega), K18 76 (by omega) (by omega)]
          exact Or.inr (Or.inr (Or.inl ⟨by omega, ⟨x1, by omega, x3⟩, by omega, by omega, g3⟩))
        · refine rsf_if (fun c12 => ?_) (fun c12 => ?_)
          · refine sq_nm (by omega) S8 B (by omega) ⟨by omega, by omega⟩ (fun s27 S27 K27 M27 g27 => ?_)
            have m27 := M27.1
            have e76 : s27.1 76 = s8.1 76 := K27 76 (by omega) (by omega)
            have b15 : s27.1 15 = σ.1 15 := by rw [K27 15 (by omega) (by omega), a15]
            refine rsf_gi (fun z28 q28 => rsf_if (fun c28 => ?_) (fun c28 => ?_))
            · exact q_st159 (by omega) S27 B (by omega) (by omega) (by omega) B0 b15 rfl (fun q => absurd (q28.symm.trans q) c28)
            · have q27 : s27.1 72 = 0 := by omega
              obtain ⟨S27', l27, G27⟩ := g27 q27
              refine sq_nm (by omega) S27' B (by omega) ⟨by omega, by omega⟩ (fun s32 S32 K32 M32 g32 => ?_)
              have m32 := M32.1
              have f76 : s32.1 76 = s27.1 76 := K32 76 (by omega) (by omega)
              refine q_st159 (by omega) S32 B (by omega) (by omega) (by omega) B0 (by rw [K32 15 (by omega) (by omega), b15]) rfl (fun q c => ?_)
              obtain ⟨_, _, G32⟩ := g32 q
              obtain ⟨g1, g2, g3⟩ := G32 (by rw [b15]; exact c)
              obtain ⟨f1, f2, f3⟩ := G27 (by rw [a15]; exact c)
              have X : NM1 s27 80 (σ.1 39) (s27.1 39) := ⟨by omega, by omega, f3⟩
              obtain ⟨x1, x2, x3⟩ := X.ag M32.2.1 (K32 80 (by omega) (by omega)) B0 (Int.le_refl _)
              exact ⟨⟨x1, by omega, x3⟩, ⟨by omega, by omega, g3⟩, by omega⟩
          · refine sq_tm (by omega) S8 B (by omega) ⟨by omega, by omega⟩ (fun s35 S35 K35 M35 _ g35 => ?_)
            have m35 := M35.1
            have e76 : s35.1 76 = s8.1 76 := K35 76 (by omega) (by omega)
            have e79 : s35.1 79 = -1 := by rw [K35 79 (by omega) (by omega), a79]
            have b15 : s35.1 15 = σ.1 15 := by rw [K35 15 (by omega) (by omega), a15]
            have T35 : s35.1 72 = 0 → σ.1 15 ≠ 0 → TM s35 78 (σ.1 39) (s35.1 39) := fun q c => by
              have t := (g35 q).2 (by rw [a15]; exact c)
              rw [n8'] at t; exact t
            have fin : rsf (pf_readStatement_226 (RF d) s35) (fun s r => inR r ∧ RD σ s) := q_st226 (by omega) S35 B (by omega) (fun q => (g35 q).1.le (by omega)) (by omega) (by omega) b15 e79 T35
            refine rsf_gi (fun z36 q36 => rsf_if (fun c36 => fin) (fun c36 => ?_))
            refine rsf_gi (fun z38 q38 => rsf_if (fun c38 => fin) (fun c38 => ?_))
            refine rsf_cl (q_isSign (by omega) S35.1.1.1) (fun s40 z41 f41 => ?_)
            obtain ⟨e40, f41⟩ := f41
            subst e40
            refine rsf_if (fun c41 => fin) (fun c41 => ?_)
            have h7' : s40.1 7 = 2 := by rcases f41 with q | q <;> omega
            have q40 : s40.1 72 = 0 := by omega
            refine sq_next (by omega) (g35 q40).1 (Or.inr h7') (fun s43 z44 S43 K43 M43 E43 n43 g43 => ?_)
            refine sq_tm (by omega) S43 B (by omega) ⟨by omega, by omega⟩ (fun s47 S47 K47 M47 _ g47 => ?_)
            have M := M43.trans M47
            have m1 := M.1.1
            refine rsf_some ⟨⟨by decide, by decide⟩, S47.le (by omega), fun q => ?_⟩
            obtain ⟨S47', T47⟩ := g47 q
            refine ⟨S47'.le (by omega), by omega, fun c => ?_⟩
            have t := T47 (by rw [K43 15 (by omega) (by omega), b15]; exact c)
            rw [n43] at t
            have f76 : s47.1 76 = s40.1 76 := by rw [K47 76 (by omega) (by omega), K43 76 (by omega) (by omega)]
            refine Or.inr (Or.inr (Or.inr (Or.inr ⟨by omega, Or.inr ⟨Or.inl (by omega), _, (T35 q40 c).ag M.2.1 ?_ (Int.le_refl _), t⟩⟩)))
            rw [K47 78 (by omega) (by omega), K43 78 (by omega) (by omega)]
    · refine rsf_cl (q_cant (by omega) S3.1.1) (fun s7 z8 f8 => ?_)
      obtain ⟨_, L4, e2, fr, h4, h4'⟩ := f8
      have n := ND.cant L4 e2 fr h4 h4'
      have n39 := n.2.1.2 39 rfl
      have m9 := n.2.2.2.1
      exact rsf_some ⟨⟨by decide, by decide⟩, S3.go ⟨L4, fun _ q => absurd q h4⟩ (PF.ofFL n.2.1 n.2.2.1 n.2.2.2.1 n.2.2.2.2.1) (fun _ => n39) (by omega), fun q => absurd q h4⟩
  · refine rsf_cl (q_readTold (by omega) S3.1 (S3.b B (by omega)) (by omega) k78 k79) (fun s5 z6 f6 => ?_)
    exact rsf_some ⟨⟨by decide, by decide⟩, RD.pre S3 k9 k39 k15 f6⟩
/-- a statement is read, whatever stands there -/
theorem q_readStatement (hd : 133 ≤ d) (L : LZ σ) (B : BU σ) : rsf (RF d 25 σ []) (fun s _ => RD σ s) := by
  rw [rq_readStatement (by omega)]
  refine rsf_fin ?_
  unfold pf_readStatement_0
  have l11 := L.1.2.2.2.2.2.2.1
  refine rsf_gi (fun z1 q1 => rsf_pi (fun s2 w2 => ?_))
  have S2 := (SQ.refl L).put w2 ⟨by omega, by omega⟩ (q1 ▸ L.1.1.1 9)
  have n9 := rs_i_n (j := 9) w2 (by omega)
  have n39 := rs_i_n (j := 39) w2 (by omega)
  have n15 := rs_i_n (j := 15) w2 (by omega)
  have n11 := rs_i_n (j := 11) w2 (by omega)
  clear w2
  have fin : ∀ {t : Int}, (-1 ≤ t ∧ t ≤ 8) → (t ≠ -1 → s2.1 7 = 1) → rsf (pf_readStatement_25 (RF (d - 1)) s2 t) (fun s r => inR r ∧ RD σ s) := fun h1 h2 => rsf_mono (q_st25 (by omega) S2.1 (S2.b B (by omega)) h1 h2) (fun s r f => ⟨f.1, RD.pre S2 n9 n39 n15 f.2⟩)
  refine rsf_gi (fun z3 q3 => rsf_if (fun c3 => ?_) (fun c3 => ?_))
  · exact fin ⟨by omega, by omega⟩ (fun q => absurd rfl q)
  · exact rsf_gi (fun z5 q5 => fin ⟨by omega, by omega⟩ (fun _ => by omega))
end RSM
