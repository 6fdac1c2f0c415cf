section RTF
variable {σ σ' σ'' σ0 : RS} {d : Nat}
theorem q_term29 {h : Nat} {x : Int} (hd : 10 ≤ d) (hx : 0 ≤ x ∧ x ≤ 40) (ih : ∀ {s : RS}, LZ s → BU s → rsf (RF d 20 s [x + 1]) (PT h s)) (ih1 : ∀ {s : RS}, LZ s → BU s → rsf (RF (d - 1) 20 s [x + 1]) (PT h s)) (ih2 : ∀ {s : RS}, LZ s → BU s → rsf (RF (d - 1 - 1) 20 s [x + 1]) (PT h s)) (L : LZ σ) (B : BU σ) : rsf (pf_readTerm_29 (RF d) σ x) (fun σ' r => inR r ∧ PT (h + 2) σ σ' r) := by
  unfold pf_readTerm_29
  have B' := B
  obtain ⟨B1, B2⟩ := B'
  have l6 := L.1.2.2.1
  have l9 := L.1.2.2.2.2.1
  refine rsf_gi (fun z1 h1 => ?_)
  refine rsf_if (fun c => ?_) (fun c => ?_)
  · refine rsf_mono (Q := fun σ' r => inR r ∧ PR (h + 2) σ σ' r) ?_ (fun σ' r p => ⟨p.1, p.2, fun c' => absurd (h1.trans c) c'⟩)
    have use : ∀ {z : Int}, inR z → rsf (pf_readTerm_217 (RF d) σ x z) (fun σ' r => inR r ∧ PR (h + 2) σ σ' r) := by
      intro z hz
      unfold pf_readTerm_217
      obtain ⟨e, rfl⟩ : ∃ e, d = e + 1 := ⟨d - 1, by omega⟩
      refine rsf_cl (q_readUse (by omega) hx hz ih2 ih1 L B) (fun s1 z2 f => ?_)
      have R := f.2.2.1
      exact rsf_some ⟨⟨by omega, by omega⟩, f⟩
    have bin : ∀ {z : Int}, inR z → (σ.1 7 = 1 ∨ σ.1 7 = 2) → rsf (pf_readTerm_61 (RF d) σ x z) (fun σ' r => inR r ∧ PR (h + 2) σ σ' r) := by
      intro z hz h7
      unfold pf_readTerm_61
      refine rsf_cl (q_isSign (by omega) L.1.1) (fun s1 z2 f2 => ?_)
      obtain ⟨e1, _⟩ := f2
      subst e1
      exact rsf_if (fun _ => q_term76 (by omega) hx hz ⟨by decide, by decide⟩ ih L B h7) (fun _ => q_term76 (by omega) hx hz ⟨by decide, by decide⟩ ih L B h7)
    refine rsf_gi (fun z3 h3 => ?_)
    have h2 : inR z3 := h3 ▸ L.1.1.1 _
    refine rsf_cl (q_isSign (by omega) L.1.1) (fun s4 z5 f5 => ?_)
    obtain ⟨e1, f5⟩ := f5
    rw [e1]
    clear e1
    refine rsf_if (fun c1 => bin h2 (by omega)) (fun c1 => ?_)
    refine rsf_cl (q_isSign (by omega) L.1.1) (fun s7 z8 f8 => ?_)
    obtain ⟨e1, f8⟩ := f8
    rw [e1]
    clear e1
    refine rsf_if (fun c2 => ?_) (fun c2 => bin h2 (by omega))
    refine rsf_gi (fun z10 h10 => ?_)
    refine rsf_if (fun c3 => use h2) (fun c3 => ?_)
    refine rsf_gi (fun z12 h12 => ?_)
    refine rsf_if (fun c4 => use h2) (fun c4 => ?_)
    have h7 : σ.1 7 = 1 ∨ σ.1 7 = 2 := by omega
    clear f5 f8 bin use
    refine rsf_cl (q_nodeP (by omega) L ⟨by decide, by decide⟩ ⟨by decide, by decide⟩ ⟨by decide, by decide⟩ ⟨by decide, by decide⟩ h2 ⟨by omega, by omega⟩) (fun s1 z2 f2 => ?_)
    have L1 := f2.1
    have P1 := f2.2.1
    have fr1 := f2.2.2.1
    have R1 := f2.2.2.2.1
    have q1 : s1.1 39 ≤ σ.1 39 + 1 := by rcases f2.2.2.2.2 with ⟨_, e⟩ | ⟨_, _, e, _⟩ <;> omega
    have g1' := fun (_ : Unit) => f2
    clear f2
    have a9 := fr1 9 (by decide)
    have a7 := fr1 7 (by decide)
    have a5 := fr1 5 (by decide)
    have n1 := P1.2.2.1
    refine rsf_cl (q_step (by omega) L1 (by omega)) (fun s3 z4 f4 => ?_)
    obtain ⟨L3, P3, F3, g3⟩ := f4
    have n3 := F3.2 39 rfl
    have c3 := P3.2.2.2.2.1
    have l3 := L3.1.2.2.1
    have l3' := L3.1.2.2.2.2.1
    refine rsf_cl (q_nameNode (by omega) L3.1 ⟨by omega, by omega⟩) (fun s5 z6 f6 => ?_)
    have L5 := f6.1
    have P5 := f6.2.1
    have q5 : s5.1 39 ≤ s3.1 39 + 1 := by rcases f6.2.2.2 with ⟨_, _, e, _⟩ | ⟨_, _, e, _⟩ <;> omega
    have hz6 : inR z6 := by rcases f6.2.2.2 with ⟨_, e, _⟩ | ⟨_, e, _⟩ <;> exact ⟨by omega, by omega⟩
    have g6' := fun (_ : Unit) => f6
    clear f6
    have b1 := P1.b
    have b3 := P3.b
    have b5 := P5.b
    have c5 := P5.2.2.2.2.1
    have m5 := P5.2.2.2.2.2.1
    have n5 := P5.2.2.1
    refine rsf_cl (q_need (by omega) L5.1) (fun s7 z8 f8 => ?_)
    obtain ⟨_, n7, _⟩ := f8
    have L7 : LZ s7 := ⟨n7.1, n7.2.2.2.2.2.2⟩
    have P7 := PF.ofFL n7.2.1 n7.2.2.1 n7.2.2.2.1 n7.2.2.2.2.1
    have e7 := n7.2.1.2 39 rfl
    have b7 := P7.b
    have c7 := P7.2.2.2.2.1
    have m7 := P7.2.2.2.2.2.1
    refine rsf_ck ⟨by omega, by omega⟩ (fun z9 h9 => ?_)
    subst h9
    refine rsf_cl (ih L7 ⟨by omega, by omega⟩) (fun s10 z11 f11 => ?_)
    have L10 := f11.1.1
    have P10 := f11.1.2.1
    have R10 := f11.1.2.2.1
    have U1 := f11.1.2.2.2.2.1
    have b10 := P10.b
    have c10 := P10.2.2.2.2.1
    have n10 := P10.2.2.1
    have m10 := P10.2.2.2.2.2.1
    have key : s10.1 39 ≤ σ.1 39 + 2 * (s10.1 9 - σ.1 9) := by
      by_cases c : s5.1 72 = 0
      · have := (g6' ()).2.2.1 c
        omega
      · have := f11.2 (by rw [P7.2.2.2.2.2.2 c]; exact c)
        omega
    refine rsf_cl (q_needWord (by omega) L10.1) (fun s12 z13 f13 => ?_)
    obtain ⟨_, n12⟩ := f13
    have L12 : LZ s12 := ⟨n12.1, n12.2.2.2.2.2.2⟩
    have P12 := PF.ofFL n12.2.1 n12.2.2.1 n12.2.2.2.1 n12.2.2.2.2.1
    have e12 := n12.2.1.2 39 rfl
    have b12 := P12.b
    have c12 := P12.2.2.2.2.1
    have m12 := P12.2.2.2.2.2.1
    refine rsf_ck ⟨by omega, by omega⟩ (fun z14 h14 => ?_)
    subst h14
    refine rsf_cl (ih L12 ⟨by omega, by omega⟩) (fun s15 z16 f16 => ?_)
    have L15 := f16.1.1
    have P15 := f16.1.2.1
    have R15 := f16.1.2.2.1
    have V1 := f16.1.2.2.2.2.1
    have b15 := P15.b
    have m15 := P15.2.2.2.2.2.1
    have n15 := P15.2.2.1
    refine rsf_cl (q_parts (by omega) L15.1.1 R1 hz6 ⟨by omega, by omega⟩ ⟨by omega, by omega⟩) (fun s17 z18 f18 => ?_)
    obtain ⟨r17, I17, e17, fk17, fq17, g17⟩ := f18
    subst r17
    have Q5 := ((P5.trans P7).trans P10).trans (P12.trans P15)
    have Q1 := P3.trans Q5
    have Q : PF σ s17 := by
      refine (P1.trans Q1).wt e17 fk17 fq17 ?_
      rcases g17 with ⟨_, e⟩ | ⟨c, _⟩
      · exact Or.inl e
      · rcases (g1' ()).2.2.2.2 with ⟨c', _⟩ | ⟨_, e, _⟩
        · omega
        · exact Or.inr ⟨by omega, by omega⟩
    refine rsf_some ⟨⟨by omega, by omega⟩, L15.w I17 e17, Q, R1, ?_, ?_, ?_, ?_⟩
    · intro q
      rw [e17]
      have := f11.1.2.2.2.1 (by omega)
      have := f16.1.2.2.2.1 (by omega)
      rcases (g1' ()).2.2.2.2 with ⟨_, y1⟩ | ⟨y1, _⟩
      · rcases (g6' ()).2.2.2 with ⟨_, _, y2, _⟩ | ⟨y2, _⟩
        · omega
        · exfalso; omega
      · exact absurd q y1
    · rw [e17]
      by_cases c : s12.1 72 = 0
      · have : s10.1 72 = 0 := by
          by_cases c' : s10.1 72 = 0
          · exact c'
          · rw [P12.2.2.2.2.2.2 c'] at c; exact absurd c c'
        have := n12.2.2.2.2.2.1 c
        omega
      · have := f16.2 c
        omega
    · rw [e17]
      intro q
      have c12' : s12.1 72 = 0 := by
        by_cases c' : s12.1 72 = 0
        · exact c'
        · rw [P15.2.2.2.2.2.2 c'] at q; exact absurd q c'
      have := f16.1.2.2.2.2.2.1 q
      have := n12.2.2.2.2.2.1 c12'
      omega
    · rw [e17]
      intro q c
      have c12' : s12.1 72 = 0 := by
        by_cases c' : s12.1 72 = 0
        · exact c'
        · rw [P15.2.2.2.2.2.2 c'] at q; exact absurd q c'
      have c10' : s10.1 72 = 0 := by
        by_cases c' : s10.1 72 = 0
        · exact c'
        · rw [P12.2.2.2.2.2.2 c'] at c12'; exact absurd c12' c'
      have c7' : s7.1 72 = 0 := by
        by_cases c' : s7.1 72 = 0
        · exact c'
        · rw [P10.2.2.2.2.2.2 c'] at c10'; exact absurd c10' c'
      have c5' : s5.1 72 = 0 := by
        by_cases c' : s5.1 72 = 0
        · exact c'
        · rw [P7.2.2.2.2.2.2 c'] at c7'; exact absurd c7' c'
      have g := (g6' ()).2.2.1 c5'
      have c3' : s3.1 72 = 0 := by
        by_cases c' : s3.1 72 = 0
        · exact c'
        · rw [P5.2.2.2.2.2.2 c'] at c5'; exact absurd c5' c'
      rcases (g1' ()).2.2.2.2 with ⟨c', _⟩ | ⟨_, x0, x1, x2', x3, x4, x5, x6⟩
      · exact absurd c' c
      rcases (g6' ()).2.2.2 with ⟨c', _⟩ | ⟨_, y0, y1, y2, y3, y4, y5, y6⟩
      · omega
      rcases g17 with ⟨c', _⟩ | ⟨_, u1, u2, u3⟩
      · omega
      have A1 := AG.of Q1 (lo := σ.1 39) (hi := s1.1 39) (by omega) (by omega) z18 (by omega) (by omega)
      have A5 := AG.of (((P7.trans P10).trans P12).trans P15) (lo := σ.1 39) (hi := s5.1 39) (by omega) (by omega)
      have A17 : AG s15.2 s17.2 (z18 + 1) (s15.1 39) := fun q q1 q2 => by
        have hq : q.toNat ≠ z18.toNat := by omega
        exact ⟨fq17 _ _ hq, fq17 _ _ hq, fq17 _ _ hq, fq17 _ _ hq, fq17 _ _ hq⟩
      have lt := L3.1.2.2.2.2.2.2.2.2.1 g.2.1
      have lt2 := L3.2 g.2.1 c3'
      have l10 := L3.1.2.2.2.2.2.1
      have nm : NMr s5.2 z6 := ⟨y2, by omega, by omega, by omega⟩
      have nm' := (nm.ag A5 (by omega) (by omega)).ag A17 (by omega) (by omega)
      have t1 := ((f11.1.2.2.2.2.2.2 c10' (by omega)).ag (AG.of (P12.trans P15) (by omega) (by omega))).ag (A17.sub (by omega) (by omega))
      have t2 := (f16.1.2.2.2.2.2.2 q (by omega)).ag (A17.sub (by omega) (by omega))
      have hz : z6 = z18 + 1 := by omega
      have hs : s7.1 39 = z18 + 2 := by omega
      rw [hs] at t1
      rw [e12] at t2
      rw [hz] at nm'
      rw [← x0]
      have k30 := congrFun (fk17 30 (by decide) (by decide) (by decide)) z18.toNat
      have k38 := congrFun (fk17 38 (by decide) (by decide) (by decide)) z18.toNat
      have f30 := A1.1
      have f38 := A1.2.2.2.2
      exact TR.bi (by omega) t1 t2 (by omega) (by omega) (by omega) (by omega) nm' u2 u3 (by omega)
  · refine rsf_some ⟨⟨by decide, by decide⟩, ⟨L, PF.refl, ⟨by decide, by decide⟩, fun _ => rfl, by omega, fun q => absurd (h1.symm.trans q) c, fun q => absurd (h1.symm.trans q) c⟩, fun _ => rfl⟩
end RTF
