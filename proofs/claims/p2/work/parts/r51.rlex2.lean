section RL2
variable {Q : RS → Int → Prop} {σ σ1 : RS} {d : Nat}
theorem q_byteAt (hd : 1 ≤ d) (hI : IR σ) (h5 : 0 ≤ σ.1 5 ∧ σ.1 5 ≤ 4000) {x : Int} (hx : 0 ≤ x) : rsf (RF d 7 σ [x]) (fun σ' r => σ' = σ ∧ inR r ∧ ((r = -1 ∧ σ.1 5 ≤ x) ∨ (x < σ.1 5 ∧ r = σ.2 4 x.toNat))) := by
  rw [rq_byteAt hd]
  refine rsf_fin ?_
  unfold pf_byteAt_0
  refine rsf_gi (fun z1 h1 => ?_)
  refine rsf_if (fun c => ?_) (fun c => ?_)
  · exact rsf_some ⟨⟨by decide, by decide⟩, rfl, ⟨by decide, by decide⟩, Or.inl ⟨rfl, by omega⟩⟩
  · refine rsf_rd ⟨hx, by show x < ((4000 : Nat) : Int); omega⟩ (fun z h => ?_)
    exact rsf_some ⟨h ▸ hI.2 _ _, rfl, h ▸ hI.2 _ _, Or.inr ⟨by omega, h.symm⟩⟩
theorem q_isLetter (hd : 1 ≤ d) {x : Int} : rsf (RF d 8 σ [x]) (fun σ' r => σ' = σ ∧ ((r = 0 ∧ ¬ ((97 ≤ x ∧ x ≤ 122) ∨ (65 ≤ x ∧ x ≤ 90))) ∨ (r = 1 ∧ ((97 ≤ x ∧ x ≤ 122) ∨ (65 ≤ x ∧ x ≤ 90))))) := by
  rw [rq_isLetter (by omega)]
  refine rsf_fin ?_
  unfold pf_isLetter_0
  refine rsf_if (fun c1 => ?_) (fun c1 => ?_)
  · unfold pf_isLetter_12
    refine rsf_if (fun c2 => ?_) (fun c2 => ?_)
    · refine rsf_bo (by omega) ?_
      exact rsf_some (⟨⟨by decide, by decide⟩, rfl, by omega⟩)
    · refine rsf_if (fun c3 => ?_) (fun c3 => ?_)
      · refine rsf_bo (by omega) ?_
        exact rsf_some (⟨⟨by decide, by decide⟩, rfl, by omega⟩)
      · refine rsf_bo (by omega) ?_
        exact rsf_some (⟨⟨by decide, by decide⟩, rfl, by omega⟩)
  · refine rsf_if (fun c4 => ?_) (fun c4 => ?_)
    · refine rsf_bo (by omega) ?_
      exact rsf_some (⟨⟨by decide, by decide⟩, rfl, by omega⟩)
    · unfold pf_isLetter_12
      refine rsf_if (fun c5 => ?_) (fun c5 => ?_)
      · refine rsf_bo (by omega) ?_
        exact rsf_some (⟨⟨by decide, by decide⟩, rfl, by omega⟩)
      · refine rsf_if (fun c6 => ?_) (fun c6 => ?_)
        · refine rsf_bo (by omega) ?_
          exact rsf_some (⟨⟨by decide, by decide⟩, rfl, by omega⟩)
        · refine rsf_bo (by omega) ?_
          exact rsf_some (⟨⟨by decide, by decide⟩, rfl, by omega⟩)
theorem q_goesOn (hd : 2 ≤ d) {x : Int} : rsf (RF d 9 σ [x]) (fun σ' r => σ' = σ ∧ ((r = 0 ∧ ¬ ((97 ≤ x ∧ x ≤ 122) ∨ (65 ≤ x ∧ x ≤ 90))) ∨ (r = 1 ∧ 39 ≤ x))) := by
  rw [rq_goesOn (by omega)]
  refine rsf_fin ?_
  unfold pf_goesOn_0
  refine rsf_cl (q_isLetter (by omega)) (fun s1 z2_2 fz2_2 => ?_)
  obtain ⟨rfl, fz2_2⟩ := fz2_2
  refine rsf_if (fun c3 => ?_) (fun c3 => ?_)
  · refine rsf_bo (by omega) ?_
    exact rsf_some (⟨⟨by decide, by decide⟩, rfl, by omega⟩)
  · refine rsf_if (fun c4 => ?_) (fun c4 => ?_)
    · unfold pf_goesOn_19
      refine rsf_if (fun c5 => ?_) (fun c5 => ?_)
      · refine rsf_bo (by omega) ?_
        exact rsf_some (⟨⟨by decide, by decide⟩, rfl, by omega⟩)
      · refine rsf_bo (by omega) ?_
        exact rsf_some (⟨⟨by decide, by decide⟩, rfl, by omega⟩)
    · refine rsf_if (fun c6 => ?_) (fun c6 => ?_)
      · refine rsf_bo (by omega) ?_
        exact rsf_some (⟨⟨by decide, by decide⟩, rfl, by omega⟩)
      · unfold pf_goesOn_19
        refine rsf_if (fun c7 => ?_) (fun c7 => ?_)
        · refine rsf_bo (by omega) ?_
          exact rsf_some (⟨⟨by decide, by decide⟩, rfl, by omega⟩)
        · refine rsf_bo (by omega) ?_
          exact rsf_some (⟨⟨by decide, by decide⟩, rfl, by omega⟩)
theorem rf_sn_le : ∀ i, i < 9 → 2 ≤ rf_sn i ∧ rf_sn i ≤ 5 := by decide
theorem q_isWord29 (hI : IR σ) {x : Int} (hx : 0 ≤ x ∧ x < 9) (hb : 0 ≤ σ.1 9 ∧ σ.1 9 ≤ σ.1 10 ∧ σ.1 10 ≤ 4000) : ∀ (n : Nat) {y j : Int}, (y = 0 ∨ (y = 1 ∧ σ.1 10 - σ.1 9 = rf_sn x.toNat)) → 0 ≤ j → (6 - j < (n : Int) ∧ 0 < n) → rsf (pf_isWord_29 (RF d) n σ x y j) (fun σ' r => inR r ∧ σ' = σ ∧ (r = 0 ∨ r = 1)) := by
  intro n
  induction n with
  | zero => intro y j hy hj hn; omega
  | succ n ih =>
    intro y j hy hj hn
    have hl := rf_sn_le x.toNat (by omega)
    unfold pf_isWord_29
    refine rsf_if (fun c => ?_) (fun c => ?_)
    · refine rsf_bo (by omega) ?_
      exact rsf_some ⟨⟨by omega, by omega⟩, rfl, by omega⟩
    refine rsf_gi (fun z2 h2 => rsf_gi (fun z3 h3 => rsf_ck ⟨by omega, by omega⟩ (fun z4 h4 => ?_)))
    refine rsf_if (fun c2 => ?_) (fun c2 => ?_)
    · refine rsf_bo (by omega) ?_
      exact rsf_some ⟨⟨by omega, by omega⟩, rfl, by omega⟩
    refine rsf_ws hx (fun z6 h6 => rsf_sC ⟨⟨hx.1, by omega⟩, hj, by omega⟩ (fun z7 h7 => rsf_gi (fun z8 h8 => rsf_ck ⟨by omega, by omega⟩ (fun z9 h9 => rsf_rd ⟨by omega, by show _ < ((4000 : Nat) : Int); omega⟩ (fun z10 h10 => ?_)))))
    refine rsf_if (fun c3 => ?_) (fun c3 => ?_)
    · unfold pf_isWord_75
      refine rsf_ck ⟨by omega, by omega⟩ (fun z11 h11 => ?_)
      exact ih (Or.inl rfl) (by omega) (by omega)
    · unfold pf_isWord_75
      refine rsf_ck ⟨by omega, by omega⟩ (fun z11 h11 => ?_)
      exact ih (Or.inr ⟨rfl, by omega⟩) (by omega) (by omega)
theorem q_isWord (hd : 4 ≤ d) (hI : IR σ) {x : Int} (hx : 0 ≤ x ∧ x < 9) (hb : 0 ≤ σ.1 9 ∧ σ.1 9 ≤ σ.1 10 ∧ σ.1 10 ≤ 4000) : rsf (RF d 11 σ [x]) (fun σ' r => σ' = σ ∧ (r = 0 ∨ r = 1)) := by
  rw [rq_isWord hd]
  refine rsf_fin ?_
  have hl := rf_sn_le x.toNat (by omega)
  unfold pf_isWord_0 pf_isWord_26
  refine rsf_ws hx (fun z1 h1 => rsf_sL ⟨hx.1, by omega⟩ (fun z2 h2 => rsf_gi (fun z3 h3 => rsf_gi (fun z4 h4 => rsf_ck ⟨by omega, by omega⟩ (fun z5 h5 => ?_)))))
  refine rsf_if (fun c => ?_) (fun c => ?_)
  · exact q_isWord29 hI hx hb _ (Or.inl rfl) (by decide) (by decide)
  · exact q_isWord29 hI hx hb _ (Or.inr ⟨rfl, by omega⟩) (by decide) (by decide)
/-- a fault is noted, if it is the first -/
theorem q_wrong (hd : 1 ≤ d) (hI : IR σ) {x y : Int} (hx : 1 ≤ x ∧ x ≤ 14) (hy : inR y) : rsf (RF d 3 σ [x, y]) (fun σ' r => r = 0 ∧ IR σ' ∧ σ'.2 = σ.2 ∧ (∀ j, j ≠ 72 → j ≠ 73 → σ'.1 j = σ.1 j) ∧ ((σ.1 72 = 0 ∧ σ'.1 72 = x) ∨ (σ.1 72 ≠ 0 ∧ σ'.1 72 = σ.1 72))) := by
  rw [rq_wrong hd]
  refine rsf_fin ?_
  unfold pf_wrong_0
  refine rsf_gi (fun z1 h1 => ?_)
  refine rsf_if (fun c => ?_) (fun c => ?_)
  · refine rsf_pi (fun s1 w1 => rsf_pi (fun s2 w2 => ?_))
    refine rsf_some ⟨⟨by decide, by decide⟩, rfl, (hI.p w1 ⟨by omega, by omega⟩).p w2 hy, by rw [w2, w1]; rfl, fun j h72 h73 => by rw [rs_i_n w2 h73, rs_i_n w1 h72], Or.inl ⟨by omega, by rw [rs_i_n w2 (by decide)]; exact rs_i_e w1⟩⟩
  · exact rsf_some ⟨⟨by decide, by decide⟩, rfl, hI, rfl, fun _ _ _ => rfl, Or.inr ⟨by omega, rfl⟩⟩
theorem q_readSign (hd : 2 ≤ d) (Iσ : IR σ) (h5 : 0 ≤ σ.1 5 ∧ σ.1 5 ≤ 4000) (h6 : 0 ≤ σ.1 6 ∧ σ.1 6 < σ.1 5) {x : Int} (hx : inR x) : rsf (RF d 12 σ [x]) (fun σ' r => r = 0 ∧ IR σ' ∧ FL σ σ' ∧ (2 ≤ σ'.1 7 ∧ σ'.1 7 ≤ 3) ∧ (σ.1 6 < σ'.1 6 ∧ σ'.1 6 ≤ σ.1 5) ∧ (σ'.1 5 = σ.1 5 ∧ σ'.1 9 = σ.1 9 ∧ σ'.1 10 = σ.1 10 ∧ σ'.1 11 = σ.1 11 ∧ σ'.1 72 = σ.1 72)) := by
  rw [rq_readSign (by omega)]
  refine rsf_fin ?_
  unfold pf_readSign_0
  have Eσ := FL.refl (σ := σ)
  refine rsf_pi (fun s1 ws1 => ?_)
  have Fs1 := FLp ws1 rfl
  have Es1 := Eσ.trans Fs1
  have Is1 := Iσ.p ws1 (by first | assumption | exact ⟨by omega, by omega⟩)
  have p5s1 := rs_i_n (j := 5) ws1 (by decide)
  have p6s1 := rs_i_n (j := 6) ws1 (by decide)
  have p7s1 := rs_i_e ws1
  have p8s1 := rs_i_n (j := 8) ws1 (by decide)
  have p9s1 := rs_i_n (j := 9) ws1 (by decide)
  have p10s1 := rs_i_n (j := 10) ws1 (by decide)
  have p11s1 := rs_i_n (j := 11) ws1 (by decide)
  have p72s1 := rs_i_n (j := 72) ws1 (by decide)
  refine rsf_pi (fun s2 ws2 => ?_)
  have Fs2 := FLp ws2 rfl
  have Es2 := Es1.trans Fs2
  have Is2 := Is1.p ws2 (by first | assumption | exact ⟨by omega, by omega⟩)
  have p5s2 := rs_i_n (j := 5) ws2 (by decide)
  have p6s2 := rs_i_n (j := 6) ws2 (by decide)
  have p7s2 := rs_i_n (j := 7) ws2 (by decide)
  have p8s2 := rs_i_e ws2
  have p9s2 := rs_i_n (j := 9) ws2 (by decide)
  have p10s2 := rs_i_n (j := 10) ws2 (by decide)
  have p11s2 := rs_i_n (j := 11) ws2 (by decide)
  have p72s2 := rs_i_n (j := 72) ws2 (by decide)
  refine rsf_gi (fun z3_3 hz3_3 => ?_)
  refine rsf_ck ⟨by omega, by omega⟩ (fun z4_4 hz4_4 => ?_)
  refine rsf_pi (fun s5 ws5 => ?_)
  have Fs5 := FLp ws5 rfl
  have Es5 := Es2.trans Fs5
  have Is5 := Is2.p ws5 (by first | assumption | exact ⟨by omega, by omega⟩)
  have p5s5 := rs_i_n (j := 5) ws5 (by decide)
  have p6s5 := rs_i_e ws5
  have p7s5 := rs_i_n (j := 7) ws5 (by decide)
  have p8s5 := rs_i_n (j := 8) ws5 (by decide)
  have p9s5 := rs_i_n (j := 9) ws5 (by decide)
  have p10s5 := rs_i_n (j := 10) ws5 (by decide)
  have p11s5 := rs_i_n (j := 11) ws5 (by decide)
  have p72s5 := rs_i_n (j := 72) ws5 (by decide)
  refine rsf_if (fun c6 => ?_) (fun c6 => ?_)
  · unfold pf_readSign_59
    refine rsf_if (fun c7 => ?_) (fun c7 => ?_)
    · unfold pf_readSign_98
      refine rsf_if (fun c8 => ?_) (fun c8 => ?_)
      · exact rsf_some (⟨⟨by decide, by decide⟩, rfl, Is5, Es5, by omega, by omega, by omega⟩)
      · refine rsf_if (fun c9 => ?_) (fun c9 => ?_)
        · exact rsf_some (⟨⟨by decide, by decide⟩, rfl, Is5, Es5, by omega, by omega, by omega⟩)
        · refine rsf_if (fun c10 => ?_) (fun c10 => ?_)
          · exact rsf_some (⟨⟨by decide, by decide⟩, rfl, Is5, Es5, by omega, by omega, by omega⟩)
          · refine rsf_if (fun c11 => ?_) (fun c11 => ?_)
            · exact rsf_some (⟨⟨by decide, by decide⟩, rfl, Is5, Es5, by omega, by omega, by omega⟩)
            · refine rsf_if (fun c12 => ?_) (fun c12 => ?_)
              · exact rsf_some (⟨⟨by decide, by decide⟩, rfl, Is5, Es5, by omega, by omega, by omega⟩)
              · refine rsf_if (fun c13 => ?_) (fun c13 => ?_)
                · exact rsf_some (⟨⟨by decide, by decide⟩, rfl, Is5, Es5, by omega, by omega, by omega⟩)
                · refine rsf_if (fun c14 => ?_) (fun c14 => ?_)
                  · exact rsf_some (⟨⟨by decide, by decide⟩, rfl, Is5, Es5, by omega, by omega, by omega⟩)
                  · refine rsf_if (fun c15 => ?_) (fun c15 => ?_)
                    · exact rsf_some (⟨⟨by decide, by decide⟩, rfl, Is5, Es5, by omega, by omega, by omega⟩)
                    · refine rsf_pi (fun s16 ws16 => ?_)
                      have Fs16 := FLp ws16 rfl
                      have Es16 := Es5.trans Fs16
                      have Is16 := Is5.p ws16 (by first | assumption | exact ⟨by omega, by omega⟩)
                      have p5s16 := rs_i_n (j := 5) ws16 (by decide)
                      have p6s16 := rs_i_n (j := 6) ws16 (by decide)
                      have p7s16 := rs_i_e ws16
                      have p8s16 := rs_i_n (j := 8) ws16 (by decide)
                      have p9s16 := rs_i_n (j := 9) ws16 (by decide)
                      have p10s16 := rs_i_n (j := 10) ws16 (by decide)
                      have p11s16 := rs_i_n (j := 11) ws16 (by decide)
                      have p72s16 := rs_i_n (j := 72) ws16 (by decide)
                      exact rsf_some (⟨⟨by decide, by decide⟩, rfl, Is16, Es16, by omega, by omega, by omega⟩)
    · refine rsf_gi (fun z2_17 hz2_17 => ?_)
      refine rsf_cl (q_byteAt (by omega) Is5 ⟨by omega, by omega⟩ (by omega)) (fun s18 z4_19 fz4_19 => ?_)
      obtain ⟨rfl, rz4_19, fz4_19⟩ := fz4_19
      refine rsf_if (fun c20 => ?_) (fun c20 => ?_)
      · unfold pf_readSign_98
        refine rsf_if (fun c21 => ?_) (fun c21 => ?_)
        · exact rsf_some (⟨⟨by decide, by decide⟩, rfl, Is5, Es5, by omega, by omega, by omega⟩)
        · refine rsf_if (fun c22 => ?_) (fun c22 => ?_)
          · exact rsf_some (⟨⟨by decide, by decide⟩, rfl, Is5, Es5, by omega, by omega, by omega⟩)
          · refine rsf_if (fun c23 => ?_) (fun c23 => ?_)
            · exact rsf_some (⟨⟨by decide, by decide⟩, rfl, Is5, Es5, by omega, by omega, by omega⟩)
            · refine rsf_if (fun c24 => ?_) (fun c24 => ?_)
              · exact rsf_some (⟨⟨by decide, by decide⟩, rfl, Is5, Es5, by omega, by omega, by omega⟩)
              · refine rsf_if (fun c25 => ?_) (fun c25 => ?_)
                · exact rsf_some (⟨⟨by decide, by decide⟩, rfl, Is5, Es5, by omega, by omega, by omega⟩)
                · refine rsf_if (fun c26 => ?_) (fun c26 => ?_)
                  · exact rsf_some (⟨⟨by decide, by decide⟩, rfl, Is5, Es5, by omega, by omega, by omega⟩)
                  · refine rsf_if (fun c27 => ?_) (fun c27 => ?_)
                    · exact rsf_some (⟨⟨by decide, by decide⟩, rfl, Is5, Es5, by omega, by omega, by omega⟩)
                    · refine rsf_if (fun c28 => ?_) (fun c28 => ?_)
                      · exact rsf_some (⟨⟨by decide, by decide⟩, rfl, Is5, Es5, by omega, by omega, by omega⟩)
                      · refine rsf_pi (fun s29 ws29 => ?_)
                        have Fs29 := FLp ws29 rfl
                        have Es29 := Es5.trans Fs29
                        have Is29 := Is5.p ws29 (by first | assumption | exact ⟨by omega, by omega⟩)
                        have p5s29 := rs_i_n (j := 5) ws29 (by decide)
                        have p6s29 := rs_i_n (j := 6) ws29 (by decide)
                        have p7s29 := rs_i_e ws29
                        have p8s29 := rs_i_n (j := 8) ws29 (by decide)
                        have p9s29 := rs_i_n (j := 9) ws29 (by decide)
                        have p10s29 := rs_i_n (j := 10) ws29 (by decide)
                        have p11s29 := rs_i_n (j := 11) ws29 (by decide)
                        have p72s29 := rs_i_n (j := 72) ws29 (by decide)
                        exact rsf_some (⟨⟨by decide, by decide⟩, rfl, Is29, Es29, by omega, by omega, by omega⟩)
      · refine rsf_pi (fun s30 ws30 => ?_)
        have Fs30 := FLp ws30 rfl
        have Es30 := Es5.trans Fs30
        have Is30 := Is5.p ws30 (by first | assumption | exact ⟨by omega, by omega⟩)
        have p5s30 := rs_i_n (j := 5) ws30 (by decide)
        have p6s30 := rs_i_n (j := 6) ws30 (by decide)
        have p7s30 := rs_i_n (j := 7) ws30 (by decide)
        have p8s30 := rs_i_e ws30
        have p9s30 := rs_i_n (j := 9) ws30 (by decide)
        have p10s30 := rs_i_n (j := 10) ws30 (by decide)
        have p11s30 := rs_i_n (j := 11) ws30 (by decide)
        have p72s30 := rs_i_n (j := 72) ws30 (by decide)
        refine rsf_gi (fun z7_31 hz7_31 => ?_)
        refine rsf_ck ⟨by omega, by omega⟩ (fun z8_32 hz8_32 => ?_)
        refine rsf_pi (fun s33 ws33 => ?_)
        have Fs33 := FLp ws33 rfl
        have Es33 := Es30.trans Fs33
        have Is33 := Is30.p ws33 (by first | assumption | exact ⟨by omega, by omega⟩)
        have p5s33 := rs_i_n (j := 5) ws33 (by decide)
        have p6s33 := rs_i_e ws33
        have p7s33 := rs_i_n (j := 7) ws33 (by decide)
        have p8s33 := rs_i_n (j := 8) ws33 (by decide)
        have p9s33 := rs_i_n (j := 9) ws33 (by decide)
        have p10s33 := rs_i_n (j := 10) ws33 (by decide)
        have p11s33 := rs_i_n (j := 11) ws33 (by decide)
        have p72s33 := rs_i_n (j := 72) ws33 (by decide)
        exact rsf_some (⟨⟨by decide, by decide⟩, rfl, Is33, Es33, by omega, by omega, by omega⟩)
  · refine rsf_gi (fun z7_34 hz7_34 => ?_)
    refine rsf_cl (q_byteAt (by omega) Is5 ⟨by omega, by omega⟩ (by omega)) (fun s35 z9_36 fz9_36 => ?_)
    obtain ⟨rfl, rz9_36, fz9_36⟩ := fz9_36
    refine rsf_if (fun c37 => ?_) (fun c37 => ?_)
    · unfold pf_readSign_59
      refine rsf_if (fun c38 => ?_) (fun c38 => ?_)
      · unfold pf_readSign_98
        refine rsf_if (fun c39 => ?_) (fun c39 => ?_)
        · exact rsf_some (⟨⟨by decide, by decide⟩, rfl, Is5, Es5, by omega, by omega, by omega⟩)
        · refine rsf_if (fun c40 => ?_) (fun c40 => ?_)
          · exact rsf_some (⟨⟨by decide, by decide⟩, rfl, Is5, Es5, by omega, by omega, by omega⟩)
          · refine rsf_if (fun c41 => ?_) (fun c41 => ?_)
            · exact rsf_some (⟨⟨by decide, by decide⟩, rfl, Is5, Es5, by omega, by omega, by omega⟩)
            · refine rsf_if (fun c42 => ?_) (fun c42 => ?_)
              · exact rsf_some (⟨⟨by decide, by decide⟩, rfl, Is5, Es5, by omega, by omega, by omega⟩)
              · refine rsf_if (fun c43 => ?_) (fun c43 => ?_)
                · exact rsf_some (⟨⟨by decide, by decide⟩, rfl, Is5, Es5, by omega, by omega, by omega⟩)
                · refine rsf_if (fun c44 => ?_) (fun c44 => ?_)
                  · exact rsf_some (⟨⟨by decide, by decide⟩, rfl, Is5, Es5, by omega, by omega, by omega⟩)
                  · refine rsf_if (fun c45 => ?_) (fun c45 => ?_)
                    · exact rsf_some (⟨⟨by decide, by decide⟩, rfl, Is5, Es5, by omega, by omega, by omega⟩)
                    · refine rsf_if (fun c46 => ?_) (fun c46 => ?_)
                      · exact rsf_some (⟨⟨by decide, by decide⟩, rfl, Is5, Es5, by omega, by omega, by omega⟩)
                      · refine rsf_pi (fun s47 ws47 => ?_)
                        have Fs47 := FLp ws47 rfl
                        have Es47 := Es5.trans Fs47
                        have Is47 := Is5.p ws47 (by first | assumption | exact ⟨by omega, by omega⟩)
                        have p5s47 := rs_i_n (j := 5) ws47 (by decide)
                        have p6s47 := rs_i_n (j := 6) ws47 (by decide)
                        have p7s47 := rs_i_e ws47
                        have p8s47 := rs_i_n (j := 8) ws47 (by decide)
                        have p9s47 := rs_i_n (j := 9) ws47 (by decide)
                        have p10s47 := rs_i_n (j := 10) ws47 (by decide)
                        have p11s47 := rs_i_n (j := 11) ws47 (by decide)
                        have p72s47 := rs_i_n (j := 72) ws47 (by decide)
                        exact rsf_some (⟨⟨by decide, by decide⟩, rfl, Is47, Es47, by omega, by omega, by omega⟩)
      · refine rsf_gi (fun z2_48 hz2_48 => ?_)
        refine rsf_cl (q_byteAt (by omega) Is5 ⟨by omega, by omega⟩ (by omega)) (fun s49 z4_50 fz4_50 => ?_)
        obtain ⟨rfl, rz4_50, fz4_50⟩ := fz4_50
        refine rsf_if (fun c51 => ?_) (fun c51 => ?_)
        · unfold pf_readSign_98
          refine rsf_if (fun c52 => ?_) (fun c52 => ?_)
          · exact rsf_some (⟨⟨by decide, by decide⟩, rfl, Is5, Es5, by omega, by omega, by omega⟩)
          · refine rsf_if (fun c53 => ?_) (fun c53 => ?_)
            · exact rsf_some (⟨⟨by decide, by decide⟩, rfl, Is5, Es5, by omega, by omega, by omega⟩)
            · refine rsf_if (fun c54 => ?_) (fun c54 => ?_)
              · exact rsf_some (⟨⟨by decide, by decide⟩, rfl, Is5, Es5, by omega, by omega, by omega⟩)
              · refine rsf_if (fun c55 => ?_) (fun c55 => ?_)
                · exact rsf_some (⟨⟨by decide, by decide⟩, rfl, Is5, Es5, by omega, by omega, by omega⟩)
                · refine rsf_if (fun c56 => ?_) (fun c56 => ?_)
                  · exact rsf_some (⟨⟨by decide, by decide⟩, rfl, Is5, Es5, by omega, by omega, by omega⟩)
                  · refine rsf_if (fun c57 => ?_) (fun c57 => ?_)
                    · exact rsf_some (⟨⟨by decide, by decide⟩, rfl, Is5, Es5, by omega, by omega, by omega⟩)
                    · refine rsf_if (fun c58 => ?_) (fun c58 => ?_)
                      · exact rsf_some (⟨⟨by decide, by decide⟩, rfl, Is5, Es5, by omega, by omega, by omega⟩)
                      · refine rsf_if (fun c59 => ?_) (fun c59 => ?_)
                        · exact rsf_some (⟨⟨by decide, by decide⟩, rfl, Is5, Es5, by omega, by omega, by omega⟩)
                        · refine rsf_pi (fun s60 ws60 => ?_)
                          have Fs60 := FLp ws60 rfl
                          have Es60 := Es5.trans Fs60
                          have Is60 := Is5.p ws60 (by first | assumption | exact ⟨by omega, by omega⟩)
                          have p5s60 := rs_i_n (j := 5) ws60 (by decide)
                          have p6s60 := rs_i_n (j := 6) ws60 (by decide)
                          have p7s60 := rs_i_e ws60
                          have p8s60 := rs_i_n (j := 8) ws60 (by decide)
                          have p9s60 := rs_i_n (j := 9) ws60 (by decide)
                          have p10s60 := rs_i_n (j := 10) ws60 (by decide)
                          have p11s60 := rs_i_n (j := 11) ws60 (by decide)
                          have p72s60 := rs_i_n (j := 72) ws60 (by decide)
                          exact rsf_some (⟨⟨by decide, by decide⟩, rfl, Is60, Es60, by omega, by omega, by omega⟩)
        · refine rsf_pi (fun s61 ws61 => ?_)
          have Fs61 := FLp ws61 rfl
          have Es61 := Es5.trans Fs61
          have Is61 := Is5.p ws61 (by first | assumption | exact ⟨by omega, by omega⟩)
          have p5s61 := rs_i_n (j := 5) ws61 (by decide)
          have p6s61 := rs_i_n (j := 6) ws61 (by decide)
          have p7s61 := rs_i_n (j := 7) ws61 (by decide)
          have p8s61 := rs_i_e ws61
          have p9s61 := rs_i_n (j := 9) ws61 (by decide)
          have p10s61 := rs_i_n (j := 10) ws61 (by decide)
          have p11s61 := rs_i_n (j := 11) ws61 (by decide)
          have p72s61 := rs_i_n (j := 72) ws61 (by decide)
          refine rsf_gi (fun z7_62 hz7_62 => ?_)
          refine rsf_ck ⟨by omega, by omega⟩ (fun z8_63 hz8_63 => ?_)
          refine rsf_pi (fun s64 ws64 => ?_)
          have Fs64 := FLp ws64 rfl
          have Es64 := Es61.trans Fs64
          have Is64 := Is61.p ws64 (by first | assumption | exact ⟨by omega, by omega⟩)
          have p5s64 := rs_i_n (j := 5) ws64 (by decide)
          have p6s64 := rs_i_e ws64
          have p7s64 := rs_i_n (j := 7) ws64 (by decide)
          have p8s64 := rs_i_n (j := 8) ws64 (by decide)
          have p9s64 := rs_i_n (j := 9) ws64 (by decide)
          have p10s64 := rs_i_n (j := 10) ws64 (by decide)
          have p11s64 := rs_i_n (j := 11) ws64 (by decide)
          have p72s64 := rs_i_n (j := 72) ws64 (by decide)
          exact rsf_some (⟨⟨by decide, by decide⟩, rfl, Is64, Es64, by omega, by omega, by omega⟩)
    · refine rsf_pi (fun s65 ws65 => ?_)
      have Fs65 := FLp ws65 rfl
      have Es65 := Es5.trans Fs65
      have Is65 := Is5.p ws65 (by first | assumption | exact ⟨by omega, by omega⟩)
      have p5s65 := rs_i_n (j := 5) ws65 (by decide)
      have p6s65 := rs_i_n (j := 6) ws65 (by decide)
      have p7s65 := rs_i_n (j := 7) ws65 (by decide)
      have p8s65 := rs_i_e ws65
      have p9s65 := rs_i_n (j := 9) ws65 (by decide)
      have p10s65 := rs_i_n (j := 10) ws65 (by decide)
      have p11s65 := rs_i_n (j := 11) ws65 (by decide)
      have p72s65 := rs_i_n (j := 72) ws65 (by decide)
      refine rsf_gi (fun z12_66 hz12_66 => ?_)
      refine rsf_ck ⟨by omega, by omega⟩ (fun z13_67 hz13_67 => ?_)
      refine rsf_pi (fun s68 ws68 => ?_)
      have Fs68 := FLp ws68 rfl
      have Es68 := Es65.trans Fs68
      have Is68 := Is65.p ws68 (by first | assumption | exact ⟨by omega, by omega⟩)
      have p5s68 := rs_i_n (j := 5) ws68 (by decide)
      have p6s68 := rs_i_e ws68
      have p7s68 := rs_i_n (j := 7) ws68 (by decide)
      have p8s68 := rs_i_n (j := 8) ws68 (by decide)
      have p9s68 := rs_i_n (j := 9) ws68 (by decide)
      have p10s68 := rs_i_n (j := 10) ws68 (by decide)
      have p11s68 := rs_i_n (j := 11) ws68 (by decide)
      have p72s68 := rs_i_n (j := 72) ws68 (by decide)
      exact rsf_some (⟨⟨by decide, by decide⟩, rfl, Is68, Es68, by omega, by omega, by omega⟩)
/-- what one step of the lexer comes to -/
def NX (σ : RS) (a : Int) (σ' : RS) : Prop := LX σ' ∧ FL σ σ' ∧ a ≤ σ'.1 9 ∧ (σ.1 72 ≠ 0 → σ'.1 72 = σ.1 72) ∧ σ'.1 5 = σ.1 5 ∧ (σ'.1 7 = 1 → σ'.1 72 = 0 → σ'.1 10 - σ'.1 9 ≤ 12)
theorem NX.tr {σ0 σ' : RS} {a a0 : Int} (h : NX σ a σ') (f : FL σ0 σ) (h72 : σ.1 72 = σ0.1 72) (h5 : σ.1 5 = σ0.1 5) (ha : a0 ≤ a) : NX σ0 a0 σ' := ⟨h.1, f.trans h.2.1, by have := h.2.2.1; omega, fun q => by rw [h.2.2.2.1 (by rw [h72]; exact q)]; exact h72, h.2.2.2.2.1.trans h5, h.2.2.2.2.2⟩
theorem FL.wr {σ' : RS} (h2 : σ'.2 = σ.2) (h : ∀ j, j ≠ 72 → j ≠ 73 → σ'.1 j = σ.1 j) : FL σ σ' := ⟨h2, fun j hj => h j (fun e => by rw [e] at hj; cases hj) (fun e => by rw [e] at hj; cases hj)⟩
theorem q_next235 (hd : 4 ≤ d) : ∀ (n : Nat) {σ : RS} {x : Int}, LX σ → σ.1 7 = 1 → (0 ≤ x ∧ x ≤ 9) → 10 - x < (n : Int) → rsf (pf_next_235 (RF d) n σ x) (fun σ' r => inR r ∧ NX σ (σ.1 9) σ') := by
  intro n
  induction n with
  | zero => intro σ x L h7 hx hn; omega
  | succ n ih =>
    intro σ x L h7 hx hn
    obtain ⟨hI, l5, l6, l7, l9, l10, l11, l72, lt1, lt2⟩ := L
    have lt1' := lt1 h7
    unfold pf_next_235
    refine rsf_if (fun c => ?_) (fun c => ?_)
    · refine rsf_gi (fun z2 h2 => rsf_gi (fun z3 h3 => rsf_ck ⟨by omega, by omega⟩ (fun z4 h4 => ?_)))
      refine rsf_if (fun c2 => ?_) (fun c2 => ?_)
      · exact rsf_some ⟨⟨by decide, by decide⟩, ⟨hI, l5, l6, l7, l9, l10, l11, l72, lt1, lt2⟩, FL.refl, by omega, fun _ => rfl, rfl, fun _ _ => by omega⟩
      · refine rsf_gi (fun z6 h6 => ?_)
        refine rsf_cl (q_wrong (by omega) hI ⟨by decide, by decide⟩ (h6 ▸ hI.1 _)) (fun s1 r f => ?_)
        obtain ⟨_, I1, e2, fr, hb⟩ := f
        have a5 := fr 5 (by decide) (by decide)
        have a6 := fr 6 (by decide) (by decide)
        have a7 := fr 7 (by decide) (by decide)
        have a9 := fr 9 (by decide) (by decide)
        have a10 := fr 10 (by decide) (by decide)
        have a11 := fr 11 (by decide) (by decide)
        exact rsf_some ⟨⟨by decide, by decide⟩, ⟨I1, by omega, by omega, by omega, by omega, by omega, by omega, by omega, by omega, by omega⟩, FL.wr e2 fr, by omega, by omega, a5, fun _ _ => by omega⟩
    · refine rsf_cl (q_isWord (by omega) hI ⟨hx.1, by omega⟩ ⟨by omega, by omega, by omega⟩) (fun s1 r f => ?_)
      obtain ⟨rfl, f⟩ := f
      refine rsf_if (fun c2 => ?_) (fun c2 => ?_)
      · unfold pf_next_254
        refine rsf_ck ⟨by omega, by omega⟩ (fun z h => ?_)
        exact ih ⟨hI, l5, l6, l7, l9, l10, l11, l72, lt1, lt2⟩ h7 ⟨by omega, by omega⟩ (by omega)
      · refine rsf_pi (fun s2 w2 => ?_)
        unfold pf_next_254
        refine rsf_ck ⟨by omega, by omega⟩ (fun z h => ?_)
        have b11 := rs_i_e w2
        have b5 := rs_i_n (j := 5) w2 (by decide)
        have b6 := rs_i_n (j := 6) w2 (by decide)
        have b7 := rs_i_n (j := 7) w2 (by decide)
        have b9 := rs_i_n (j := 9) w2 (by decide)
        have b10 := rs_i_n (j := 10) w2 (by decide)
        have b72 := rs_i_n (j := 72) w2 (by decide)
        refine rsf_mono (ih (σ := s2) ⟨hI.p w2 ⟨by omega, by omega⟩, by omega, by omega, by omega, by omega, by omega, by omega, by omega, by omega, by omega⟩ (by omega) ⟨by omega, by omega⟩ (by omega)) (fun σ' r q => ⟨q.1, q.2.tr (FLp w2 rfl) b72 b5 (by omega)⟩)
end RL2
