section RTY
variable {σ σ' σ'' σ0 σh s s' A B : RS} {d d2 : Nat} {r w w' lo hi l h R N m : Int} {Q : RS → Int → Prop}
theorem TE.pre (T : TE m σ' s) (h63 : σ'.1 63 = σ.1 63) (h29 : σ'.1 29 = σ.1 29) : TE m σ s := ⟨T.1, T.2.1.trans h63, T.2.2.1.trans h29, T.2.2.2⟩
/-- the statements of a text, one by one -/
theorem q_text98 (hd : 714 ≤ d) : ∀ (n : Nat) {A B : RS}, TBi m B → (B.1 72 = 0 → SL0 A B ∧ GO d2 A ∧ B.1 15 = 1) → B.1 5 - B.1 9 + 2 ≤ (n : Int) → 1 ≤ n → rsf (pf_text_98 (RF d) n B) (fun s b => inR b ∧ TE m B s) := by
  intro n
  induction n with
  | zero => intro A B _ _ _ h; omega
  | succ n ih =>
    intro A B X G hn _
    unfold pf_text_98
    have X' := X
    obtain ⟨L, H, h63, h65, h39, h3, h75, hM, h14⟩ := X'
    have l9 := L.1.2.2.2.2.1
    have l6 := L.1.2.2.1
    have l5 := L.1.2.1
    have l72 := L.1.2.2.2.2.2.2.2.1
    have n8 := H.n8
    refine rsf_gi (fun z1 q1 => rsf_if (fun _ => q_text154 X) (fun c1 => ?_))
    have b72 : B.1 72 = 0 := by omega
    obtain ⟨S0, g, b15⟩ := G b72
    refine rsf_gi (fun z3 q3 => rsf_if (fun _ => q_text154 X) (fun c3 => ?_))
    have a7 : A.1 7 = B.1 7 := S0.1 7 rfl (by decide)
    obtain ⟨A1, r1, eA1, hA1, A2, r2, eA2, gA2⟩ := g.st (by omega)
    -- the statement begins
    refine rsf_cl (q_begin (by omega) L.1.1 H h63 h65 (by omega) ⟨by omega, by omega⟩ (by omega)) (fun s5 z6 f => ?_)
    obtain ⟨M5, H5, e5, n5, v43, v59, v51, v62, v64⟩ := f
    have k5 : ∀ j, j < 43 ∨ 71 < j → s5.1 j = B.1 j := fun j hj => by apply n5 <;> omega
    have k65 : s5.1 65 = B.1 65 := by apply n5 <;> decide
    have k63 : s5.1 63 = B.1 63 := by apply n5 <;> decide
    have L5 : LZ s5 := by
      obtain ⟨⟨hI, m5, m6, m7, m9, m10, m11, m72, mt1, mt2⟩, m12⟩ := L
      have a5 := k5 5 (by omega)
      have a6 := k5 6 (by omega)
      have a7 := k5 7 (by omega)
      have a9 := k5 9 (by omega)
      have a10 := k5 10 (by omega)
      have a11 := k5 11 (by omega)
      have a72 := k5 72 (by omega)
      exact ⟨⟨M5.1, by omega, by omega, by omega, by omega, by omega, by omega, by omega, by omega, by omega⟩, by omega⟩
    have S5 : SL0 A s5 := by
      refine ⟨fun j hj h76 => ?_, by rw [e5]; exact S0.2.1, ?_, ?_⟩
      · have : j < 43 ∨ 71 < j := by
          unfold lxk at hj
          simp only [Bool.or_eq_true, beq_iff_eq] at hj
          omega
        rw [k5 j this]; exact S0.1 j hj h76
      · rw [k5 8 (by omega)]; exact S0.2.2.1
      · rw [k5 10 (by omega)]; exact S0.2.2.2
    have c5 := k5 5 (by omega)
    have c9 := k5 9 (by omega)
    have c39 := k5 39 (by omega)
    have c75 := k5 75 (by omega)
    have c15 := k5 15 (by omega)
    -- it is read
    refine rsf_cl (rsf_eq (q_readStatement (by omega) L5 ⟨by omega, by omega⟩)) (fun s7 z8 f => ?_)
    obtain ⟨⟨⟨L7, F7, _, _⟩, g7⟩, e7⟩ := f
    obtain ⟨S7, _⟩ := l_readStatement S5 (A1, r1) (s7, z8) eA1 e7
    have b7 : s7.1 72 = 0 := by
      have := S7.1 72 rfl
      change A1.1 72 = s7.1 72 at this
      omega
    obtain ⟨⟨_, _, _, q39⟩, q9, qso⟩ := g7 b7
    have so := qso (by omega)
    have m39 := F7.2.2.1
    have m5 : s7.1 5 = s5.1 5 := F7.2.2.2.2.1
    have t9 := L7.1.2.2.2.2.1
    have t6 := L7.1.2.2.1
    have kk : ∀ j, lxs j = false → j ≠ 39 → j < 76 → s7.1 j = s5.1 j := fun j a b c => F7.1 j a b (Or.inl c)
    have w62 := kk 62 rfl (by decide) (by decide)
    have w43 := kk 43 rfl (by decide) (by decide)
    have w51 := kk 51 rfl (by decide) (by decide)
    have w59 := kk 59 rfl (by decide) (by decide)
    have w64 := kk 64 rfl (by decide) (by decide)
    have w65 := kk 65 rfl (by decide) (by decide)
    have w63 := kk 63 rfl (by decide) (by decide)
    have w75 := kk 75 rfl (by decide) (by decide)
    have w15 := kk 15 rfl (by decide) (by decide)
    have w27 := kk 27 rfl (by decide) (by decide)
    have w29 := kk 29 rfl (by decide) (by decide)
    have w14 := kk 14 rfl (by decide) (by decide)
    have w3 := kk 3 rfl (by decide) (by decide)
    have M7 : M0 (16001 - (s7.1 39 - s5.1 39)) s7 := M5.sf F7 L7.1.1 (by omega) (by omega) (by omega)
    have H7 : HG (s7.1 62) s7 := by rw [w62]; exact H5.sf F7 (by omega) M7
    have X7 : STx s7 := by
      have e39 : s5.1 39 = s7.1 62 := by omega
      rw [e39] at M7 so
      exact ⟨M7, ⟨by omega, by omega⟩, by omega, ⟨by omega, by omega, by omega, by omega⟩, H7, b7, so, by omega⟩
    -- it is done
    refine rsf_cl (q_doStatement hd X7) (fun s9 z10 f => ?_)
    obtain ⟨I9, n9, k9, y72, ⟨y65, y64, yD⟩, y75, H9, y62, y27⟩ := f
    refine rsf_cl (q_drop (by omega) I9) (fun s11 z12 f => ?_)
    obtain ⟨I11, e11, v39, n11⟩ := f
    have N : ∀ j, dn j = false → j ≠ 39 → s11.1 j = s7.1 j := fun j a b => (n11 j b).trans (n9 j a)
    have x5 := N 5 rfl (by decide)
    have x6 := N 6 rfl (by decide)
    have x7 := N 7 rfl (by decide)
    have x8 := N 8 rfl (by decide)
    have x9 := N 9 rfl (by decide)
    have x10 := N 10 rfl (by decide)
    have x11 := N 11 rfl (by decide)
    have x63 := N 63 rfl (by decide)
    have x3 := N 3 rfl (by decide)
    have x14 := N 14 rfl (by decide)
    have x15 := N 15 rfl (by decide)
    have x29 := N 29 rfl (by decide)
    have x76 := N 76 rfl (by decide)
    have z65 := n11 65 (by decide)
    have z72 := n11 72 (by decide)
    have z75 := n11 75 (by decide)
    have z27 := n11 27 (by decide)
    have z20 := n11 20 (by decide)
    have L11 : LZ s11 := by
      obtain ⟨⟨hI, m5, m6, m7, m9, m10, m11, m72, mt1, mt2⟩, m12⟩ := L7
      exact ⟨⟨I11, by omega, by omega, by omega, by omega, by omega, by omega, by omega, by omega, by omega⟩, by omega⟩
    have e4 : s11.2 4 = s7.2 4 := by rw [e11]; exact k9 4 rfl
    have e28 : s11.2 28 = B.2 28 := by rw [e11, k9 28 rfl, F7.2.1 28 rfl, e5]
    have c14 := k5 14 (by omega)
    have c29 := k5 29 (by omega)
    have c27 := k5 27 (by omega)
    have c3' := k5 3 (by omega)
    have M11 : MK s11 := hM.eq (by omega) e28 (by omega)
    have H11 : HG (s11.1 39) s11 := by rw [v39]; exact H9.n e11 z27 z20
    refine rsf_gi (fun z13 q13 => rsf_if (fun c13 => ?_) (fun c13 => ?_))
    · have X11 : TBi m s11 := ⟨L11, H11, by omega, by omega, ⟨by omega, by omega, by omega⟩, by omega, ⟨by omega, by omega⟩, M11, by omega⟩
      have nb : ¬ s11.1 72 = 0 := fun q => c13 (q13.symm.trans q)
      refine rsf_mono (ih (A := A) X11 (fun q => absurd q nb) (by omega) (by omega)) (fun s b u => ⟨u.1, u.2.pre (by omega) (by omega)⟩)
    · have c11 : s11.1 72 = 0 := by omega
      refine rsf_gi (fun z15 q15 => rsf_ck ⟨by omega, by omega⟩ (fun z16 q16 => rsf_pi (fun s17 w17 => ?_)))
      have L17 : LZ s17 := L11.n w17 ⟨by omega, by omega⟩ (Or.inl rfl)
      have n17 : ∀ j, j ≠ 14 → s17.1 j = s11.1 j := fun j hj => rs_i_n w17 hj
      have v14 := rs_i_e w17
      have e17 := rs_i_2 w17
      have S17 : SL A1 s17 := by
        refine ⟨fun j hj => ?_, by rw [e17, e4]; exact S7.2.1, ?_, ?_⟩
        · have p := S7.1 j hj
          change A1.1 j = s7.1 j at p
          have : j = 5 ∨ j = 6 ∨ j = 7 ∨ j = 9 ∨ j = 11 ∨ j = 72 ∨ j = 76 := by
            unfold lxk at hj
            simp only [Bool.or_eq_true, beq_iff_eq] at hj
            omega
          have p17 := n17 j (by omega)
          rcases this with rfl | rfl | rfl | rfl | rfl | rfl | rfl <;> omega
        · have p := S7.2.2.1
          change A1.1 7 = 2 → A1.1 8 = s7.1 8 at p
          have p17 := n17 8 (by decide)
          intro q
          have := p q
          omega
        · have p := S7.2.2.2
          change A1.1 7 = 1 → A1.1 10 = s7.1 10 at p
          have p17 := n17 10 (by decide)
          intro q
          have := p q
          omega
      refine rsf_cl (rsf_eq (q_need (by omega) L17.1)) (fun s18 z19 f => ?_)
      obtain ⟨⟨_, nd, _⟩, e18⟩ := f
      obtain ⟨S18, _⟩ := l_need S17 (A2, r2) (s18, z19) eA2 e18
      have F18 := nd.2.1
      have L18 : LZ s18 := ⟨nd.1, nd.2.2.2.2.2.2⟩
      have u5 := nd.2.2.1
      have u9 := nd.2.2.2.1
      have u39 := F18.2 39 rfl
      have u63 := F18.2 63 rfl
      have u65 := F18.2 65 rfl
      have u75 := F18.2 75 rfl
      have u3 := F18.2 3 rfl
      have u14 := F18.2 14 rfl
      have u15 := F18.2 15 rfl
      have u29 := F18.2 29 rfl
      have u27 := F18.2 27 rfl
      have u20 := F18.2 20 rfl
      have p5 := n17 5 (by decide)
      have p9 := n17 9 (by decide)
      have p39 := n17 39 (by decide)
      have p63 := n17 63 (by decide)
      have p65 := n17 65 (by decide)
      have p75 := n17 75 (by decide)
      have p3 := n17 3 (by decide)
      have p15 := n17 15 (by decide)
      have p29 := n17 29 (by decide)
      have p27 := n17 27 (by decide)
      have p20 := n17 20 (by decide)
      have e2 : s18.2 = s11.2 := by rw [F18.1, e17]
      have H18 : HG (s18.1 39) s18 := by
        have : s18.1 39 = s11.1 39 := by omega
        rw [this]
        exact H11.n e2 (by omega) (by omega)
      have X18 : TBi m s18 := ⟨L18, H18, by omega, by omega, ⟨by omega, by omega, by omega⟩, by omega, ⟨by omega, by omega⟩, M11.eq (by omega) (by rw [e2]) (by omega), by omega⟩
      exact rsf_mono (ih (A := A2) X18 (fun _ => ⟨S18.z, gA2, by omega⟩) (by omega) (by omega)) (fun s b u => ⟨u.1, u.2.pre (by omega) (by omega)⟩)
end RTY
