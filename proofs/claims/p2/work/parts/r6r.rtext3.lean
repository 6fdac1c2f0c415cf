section RTZ
variable {σ σ' σ'' σ0 σh s s' A B : RS} {d : Nat} {r w w' lo hi l h R N m : Int} {Q : RS → Int → Prop}
/-- a call is refused -/
theorem q_fail {x : Int} (hd : 1 ≤ d) (I : IR σ) (hx : inR x) : rsf (RF d 2 σ [x]) (fun s b => b = 0 ∧ IR s ∧ s.2 = σ.2 ∧ s.1 1 = x ∧ ∀ j, j ≠ 1 → s.1 j = σ.1 j) := by
  rw [rq_fail (by omega)]
  refine rsf_fin ?_
  unfold pf_fail_0
  exact rsf_pi (fun s1 w1 => rsf_some ⟨⟨by decide, by decide⟩, rfl, I.p w1 hx, rs_i_2 w1, rs_i_e w1, fun j hj => rs_i_n w1 hj⟩)
/-- only the code of the call changes -/
theorem HO.code (H : HO m σ) (I : IR s) (e : s.2 = σ.2) (n : ∀ j, j ≠ 1 → s.1 j = σ.1 j) (hm : m + 1 ≤ 512) : HO (m + 1) s := by
  obtain ⟨h0, h1, h2, h3, h4, h5, h6, h7, h8, h9, h10, h11⟩ := H
  have n39 := n 39 (by decide)
  have n63 := n 63 (by decide)
  have n65 := n 65 (by decide)
  have n3 := n 3 (by decide)
  have n75 := n 75 (by decide)
  have n72 := n 72 (by decide)
  have n15 := n 15 (by decide)
  have n10 := n 10 (by decide)
  have n11 := n 11 (by decide)
  have n27 := n 27 (by decide)
  exact ⟨I, by rw [n39]; exact h1.n e n27 (n 20 (by decide)), by omega, by omega, ⟨by omega, by omega, by omega⟩, by omega, by omega, by omega, by omega, h9.eq (n 29 (by decide)) (by rw [e]) (by omega), by omega, by omega⟩
/-- the first reading of a text -/
theorem q_readAll (hd : 135 ≤ d) (I : IR σ) (h5 : 0 ≤ σ.1 5 ∧ σ.1 5 ≤ 4000) (h10 : 0 ≤ σ.1 10 ∧ σ.1 10 ≤ 4000) (h11 : -1 ≤ σ.1 11 ∧ σ.1 11 ≤ 8) (h72 : σ.1 72 = 0) (h39 : 0 ≤ σ.1 39 ∧ σ.1 39 ≤ 120000) : rsf (RF d 27 σ []) (fun s _ => LZ s ∧ (∀ j, lxs j = false → j ≠ 15 → (j < 76 ∨ 82 < j) → s.1 j = σ.1 j) ∧ (∀ k, ndm k = false → s.2 k = σ.2 k) ∧ AG σ.2 s.2 0 (σ.1 39) ∧ s.1 15 = 0 ∧ s.1 5 = σ.1 5 ∧ (s.1 72 = 0 → ∃ σ3 A r, (σ3.1 5 = σ.1 5 ∧ σ3.1 6 = 0 ∧ σ3.1 72 = 0 ∧ σ3.2 4 = σ.2 4) ∧ RF (d - 1) 10 σ3 [] = some (A, r) ∧ GO (d - 1) A)) := by
  rw [rq_readAll (by omega)]
  refine rsf_fin ?_
  unfold pf_readAll_0
  have z : inR 0 := ⟨by decide, by decide⟩
  refine rsf_bo (by omega) (rsf_pi (fun s1 w1 => rsf_pi (fun s3 w3 => ?_)))
  have I3 := (I.p w1 z).p w3 z
  have n3 : ∀ j, j ≠ 15 → j ≠ 6 → s3.1 j = σ.1 j := fun j a b => by rw [rs_i_n w3 b, rs_i_n w1 a]
  have e3 : s3.2 = σ.2 := by rw [rs_i_2 w3, rs_i_2 w1]
  have v6 : s3.1 6 = 0 := rs_i_e w3
  have v15 : s3.1 15 = 0 := by rw [rs_i_n w3 (by decide), rs_i_e w1]
  have a5 := n3 5 (by decide) (by decide)
  have a10 := n3 10 (by decide) (by decide)
  have a11 := n3 11 (by decide) (by decide)
  have a72 := n3 72 (by decide) (by decide)
  have a39 := n3 39 (by decide) (by decide)
  refine rsf_cl (rsf_eq (start (by omega) I3 (by omega) v6 (by omega) (by omega) (by omega))) (fun s4 z5 f => ?_)
  obtain ⟨⟨L4, F4, e5, p9⟩, e4⟩ := f
  have b39 := F4.2 39 rfl
  have b15 := F4.2 15 rfl
  have l9 := L4.1.2.2.2.2.1
  have l6 := L4.1.2.2.1
  refine rsf_mono (rsf_eq (q_readAll14 (by omega) 200000 L4 ⟨by omega, by omega⟩ (by omega) (by omega))) (fun s b u => ?_)
  obtain ⟨⟨u1, u2, u3, u4⟩, ue⟩ := u
  refine ⟨u1, u2, fun j a b c => ?_, fun k hk => ?_, ?_, ?_, ?_, fun q => ⟨s3, s4, z5, ⟨a5, v6, by omega, by rw [e3]⟩, e4, 200000, (s, b), ue, q⟩⟩
  · by_cases c39 : j = 39
    · subst c39; omega
    · rw [u3.1 j a c39 c, F4.2 j a, n3 j b (by rintro rfl; cases a)]
  · rw [u3.2.1 k hk, F4.1, e3]
  · have A := AG.ofS u3 (Int.le_refl 0) (Int.le_refl _)
    have e : s4.2 = σ.2 := by rw [F4.1, e3]
    rw [e] at A
    have : s4.1 39 = σ.1 39 := by omega
    rw [this] at A
    exact A
  · rw [u3.1 15 rfl (by decide) (by omega)]; omega
  · rw [u3.2.2.2.2.1]; omega
/-- a text, once it is copied -/
theorem q_textgo {x1 x2 : Int} {n : Nat} (hd : 715 ≤ d) (H : HO m σ) (hm : m + 1 ≤ 512) (h1 : 0 ≤ x1 ∧ x1 ≤ σ.1 3) (hx : x1 ≤ x2) : rsf (pf_text_25 (RF d) (n + 1) σ x1 x2) (fun s b => inR b ∧ TE (m + 1) σ s) := by
  obtain ⟨I, HG0, h63, h65, hB, h3, h75, h72, h15, hM, h10, h11⟩ := H
  have n8 := HG0.n8
  unfold pf_text_25
  refine rsf_if (fun _ => ?_) (fun c => absurd hx c)
  have z : inR 0 := ⟨by decide, by decide⟩
  refine rsf_pi (fun s2 w2 => rsf_pi (fun s3 w3 => rsf_pi (fun s4 w4 => rsf_pi (fun s5 w5 => rsf_pi (fun s6 w6 => ?_)))))
  have I6 := ((((I.p w2 ⟨by omega, by omega⟩).p w3 z).p w4 z).p w5 z).p w6 z
  have e6 : s6.2 = σ.2 := by rw [rs_i_2 w6, rs_i_2 w5, rs_i_2 w4, rs_i_2 w3, rs_i_2 w2]
  have n6 : ∀ j, j ≠ 5 → j ≠ 3 → j ≠ 75 → j ≠ 72 → j ≠ 14 → s6.1 j = σ.1 j := fun j a b c d e => by rw [rs_i_n w6 e, rs_i_n w5 d, rs_i_n w4 c, rs_i_n w3 b, rs_i_n w2 a]
  have v5 : s6.1 5 = x1 := by rw [rs_i_n w6 (by decide), rs_i_n w5 (by decide), rs_i_n w4 (by decide), rs_i_n w3 (by decide), rs_i_e w2]
  have v3 : s6.1 3 = 0 := by rw [rs_i_n w6 (by decide), rs_i_n w5 (by decide), rs_i_n w4 (by decide), rs_i_e w3]
  have v75 : s6.1 75 = 0 := by rw [rs_i_n w6 (by decide), rs_i_n w5 (by decide), rs_i_e w4]
  have v72 : s6.1 72 = 0 := by rw [rs_i_n w6 (by decide), rs_i_e w5]
  have v14 : s6.1 14 = 0 := rs_i_e w6
  have a39 : s6.1 39 = σ.1 39 := by apply n6 <;> decide
  have a63 : s6.1 63 = σ.1 63 := by apply n6 <;> decide
  have a65 : s6.1 65 = σ.1 65 := by apply n6 <;> decide
  have a10 : s6.1 10 = σ.1 10 := by apply n6 <;> decide
  have a11 : s6.1 11 = σ.1 11 := by apply n6 <;> decide
  have a29 : s6.1 29 = σ.1 29 := by apply n6 <;> decide
  have a27 : s6.1 27 = σ.1 27 := by apply n6 <;> decide
  have a20 : s6.1 20 = σ.1 20 := by apply n6 <;> decide
  have H6 : HG (σ.1 39) s6 := HG0.n e6 a27 a20
  clear w2 w3 w4 w5 w6
  refine rsf_cl (q_readAll (by omega) I6 (by omega) (by omega) (by omega) v72 ⟨by omega, by omega⟩) (fun s7 z8 f => ?_)
  obtain ⟨L7, n7, k7, A7, b15, e5, g7⟩ := f
  have q39 := n7 39 rfl (by decide) (by omega)
  have q63 := n7 63 rfl (by decide) (by omega)
  have q65 := n7 65 rfl (by decide) (by omega)
  have q75 := n7 75 rfl (by decide) (by omega)
  have q3 := n7 3 rfl (by decide) (by omega)
  have q14 := n7 14 rfl (by decide) (by omega)
  have q29 := n7 29 rfl (by decide) (by omega)
  have q27 := n7 27 rfl (by decide) (by omega)
  have q20 := n7 20 rfl (by decide) (by omega)
  have hs7 : HS s7 := by
    unfold HS
    rw [q27, q20, k7 22 rfl, k7 17 rfl, k7 18 rfl, k7 19 rfl, k7 24 rfl]
    obtain ⟨g1, g2, g3, g4, g5, g6, g7', g8⟩ := H6.1
    refine ⟨g1, g2, g3, g4, g5, g6, g7', fun k k0 k1 => ?_⟩
    obtain ⟨y1, y2, _⟩ := A7 k k0 (by omega)
    rw [y1, y2]; exact g8 k k0 k1
  have H7 : HG (σ.1 39) s7 := H6.fr (fun q q0 q1 _ => A7 q q0 (by omega)) hs7 (H6.2.1.eq (k7 36 rfl) (k7 37 rfl)) q27 (k7 23 rfl) (k7 25 rfl) (k7 26 rfl)
  have M7 : MK s7 := hM.eq (by omega) (by rw [k7 28 rfl, e6]) (by omega)
  have l9 := L7.1.2.2.2.2.1
  have l6 := L7.1.2.2.1
  have l10 := L7.1.2.2.2.2.2.1
  have l11 := L7.1.2.2.2.2.2.2.1
  refine rsf_gi (fun z9 q9 => rsf_if (fun c9 => ?_) (fun c9 => ?_))
  · have X7 : TBi (m + 1) s7 := ⟨L7, by rw [q39, a39]; exact H7, by omega, by omega, ⟨by omega, by omega, by omega⟩, by omega, ⟨by omega, by omega⟩, M7, by omega⟩
    exact rsf_mono (q_text159 X7 b15) (fun s b u => ⟨u.1, u.2.pre (by omega) (by omega)⟩)
  · have c7 : s7.1 72 = 0 := by omega
    obtain ⟨σ3, A, rA, ⟨y5, y6, y72, y4⟩, eA, gA⟩ := g7 c7
    refine rsf_bo (by omega) (rsf_pi (fun s11 w11 => rsf_pi (fun s13 w13 => ?_)))
    have I13 := (L7.1.1.p w11 ⟨by decide, by decide⟩).p w13 z
    have n13 : ∀ j, j ≠ 15 → j ≠ 6 → s13.1 j = s7.1 j := fun j a b => by rw [rs_i_n w13 b, rs_i_n w11 a]
    have e13 : s13.2 = s7.2 := by rw [rs_i_2 w13, rs_i_2 w11]
    have v6 : s13.1 6 = 0 := rs_i_e w13
    have v15 : s13.1 15 = 1 := by rw [rs_i_n w13 (by decide), rs_i_e w11]
    have r5 := n13 5 (by decide) (by decide)
    have r10 := n13 10 (by decide) (by decide)
    have r11 := n13 11 (by decide) (by decide)
    have r72 := n13 72 (by decide) (by decide)
    refine rsf_cl (rsf_eq (start (by omega) I13 (by omega) v6 (by omega) (by omega) (by omega))) (fun s14 z15 f => ?_)
    obtain ⟨⟨L14, F14, e5', p9⟩, e14⟩ := f
    have E : EK (fun j => j = 5 ∨ j = 6 ∨ j = 72) σ3 s13 := ⟨fun j hj => by rcases hj with rfl | rfl | rfl <;> omega, by rw [y4, e13, k7 4 rfl]⟩
    obtain ⟨f1, f2, f3, f4, f5, _⟩ := m_next (Or.inl rfl) (Or.inr (Or.inl rfl)) (Or.inr (Or.inr rfl)) E (A, rA) (s14, z15) eA e14
    have S14 : SL0 A s14 := by
      refine ⟨fun j hj h76 => ?_, f3, f4, f5⟩
      unfold lxk at hj
      simp only [Bool.or_eq_true, beq_iff_eq] at hj
      rcases hj with (((((rfl | rfl) | rfl) | rfl) | rfl) | rfl) | rfl
      · exact f1 5 (Or.inl rfl)
      · exact f1 6 (Or.inr (Or.inl rfl))
      · exact f2.1
      · exact f2.2.1
      · exact f2.2.2
      · exact f1 72 (Or.inr (Or.inr rfl))
      · exact absurd rfl h76
    have t39 := (F14.2 39 rfl).trans (n13 39 (by decide) (by decide))
    have t63 := (F14.2 63 rfl).trans (n13 63 (by decide) (by decide))
    have t65 := (F14.2 65 rfl).trans (n13 65 (by decide) (by decide))
    have t75 := (F14.2 75 rfl).trans (n13 75 (by decide) (by decide))
    have t3 := (F14.2 3 rfl).trans (n13 3 (by decide) (by decide))
    have t14 := (F14.2 14 rfl).trans (n13 14 (by decide) (by decide))
    have t29 := (F14.2 29 rfl).trans (n13 29 (by decide) (by decide))
    have t27 := (F14.2 27 rfl).trans (n13 27 (by decide) (by decide))
    have t20 := (F14.2 20 rfl).trans (n13 20 (by decide) (by decide))
    have t15 := F14.2 15 rfl
    have et : s14.2 = s7.2 := by rw [F14.1, e13]
    have o9 := L14.1.2.2.2.2.1
    have o6 := L14.1.2.2.1
    have H14 : HG (σ.1 39) s14 := H7.n et t27 t20
    have X14 : TBi (m + 1) s14 := ⟨L14, by rw [t39, q39, a39]; exact H14, by omega, by omega, ⟨by omega, by omega, by omega⟩, by omega, ⟨by omega, by omega⟩, M7.eq t29 (by rw [et]) (by omega), by omega⟩
    exact rsf_mono (q_text98 (d2 := d - 1) (by omega) 200000 X14 (fun _ => ⟨S14, gA, by omega⟩) (by omega) (by omega)) (fun s b u => ⟨u.1, u.2.pre (by omega) (by omega)⟩)
/-- the tape is copied -/
theorem q_text25 (hd : 715 ≤ d) (hm : m + 1 ≤ 512) : ∀ (n : Nat) {σ : RS} {x1 x2 : Int}, HO m σ → (0 ≤ x1 ∧ x1 ≤ σ.1 3) → (0 ≤ x2 ∧ x2 ≤ x1) → x1 - x2 + 1 ≤ (n : Int) → rsf (pf_text_25 (RF d) n σ x1 x2) (fun s b => inR b ∧ TE (m + 1) σ s) := by
  intro n
  induction n with
  | zero => intro σ x1 x2 _ _ _ h; omega
  | succ n ih =>
    intro σ x1 x2 H h1 h2 hn
    by_cases c : x1 ≤ x2
    · exact q_textgo hd H hm h1 c
    · have H' := H
      obtain ⟨I, HG0, h63, h65, hB, h3, h75, h72, h15, hM, h10, h11⟩ := H'
      unfold pf_text_25
      refine rsf_if (fun c' => absurd c' c) (fun _ => ?_)
      refine rsf_rd ⟨by omega, by show _ < ((4000 : Nat) : Int); omega⟩ (fun z16 q16 => ?_)
      refine rsf_wr ⟨by omega, by show _ < ((4000 : Nat) : Int); omega⟩ (fun s17 w17 => ?_)
      have e17 := rs_a_1 w17
      have ek := fun k (h : k ≠ 4) => rs_a_k w17 h
      have hs : HS s17 := by
        unfold HS
        rw [e17, ek 22 (by decide), ek 17 (by decide), ek 18 (by decide), ek 19 (by decide), ek 24 (by decide), ek 30 (by decide), ek 31 (by decide)]
        exact HG0.1
      have H17 : HG (σ.1 39) s17 := HG0.fr (fun q _ _ _ => by rw [ek 30 (by decide), ek 31 (by decide), ek 32 (by decide), ek 33 (by decide), ek 38 (by decide)]; exact ⟨rfl, rfl, rfl, rfl, rfl⟩) hs (HG0.2.1.eq (ek 36 (by decide)) (ek 37 (by decide))) (by rw [e17]) (ek 23 (by decide)) (ek 25 (by decide)) (ek 26 (by decide))
      have HO17 : HO m s17 := by
        unfold HO
        rw [e17]
        exact ⟨I.a w17 (q16 ▸ I.2 _ _), H17, h63, h65, hB, h3, h75, h72, h15, hM.eq (by rw [e17]) (ek 28 (by decide)) (by rw [e17]; exact Int.le_refl _), h10, h11⟩
      refine rsf_ck ⟨by omega, by omega⟩ (fun z18 q18 => ?_)
      refine rsf_mono (ih HO17 (by rw [e17]; exact h1) (by omega) (by omega)) (fun s b u => ⟨u.1, u.2.pre (by rw [e17]) (by rw [e17])⟩)
/-- what a call leaves -/
def FP (m : Int) (σ s : RS) : Prop := HO (m + 1) s ∧ s.1 63 = σ.1 63
theorem q_text {x : Int} (hd : 716 ≤ d) (H : HO m σ) (hm : m + 1 ≤ 512) : rsf (RF d 62 σ [x]) (fun s b => FP m σ s ∧ s.1 29 = σ.1 29 ∧ ((0 ≤ x ∧ x ≤ σ.1 3 ∧ s.1 3 = 0) ∨ ((x < 0 ∨ σ.1 3 < x) ∧ s.1 3 = σ.1 3))) := by
  rw [rq_text (by omega)]
  refine rsf_fin ?_
  unfold pf_text_0
  refine rsf_pi (fun s1 w1 => ?_)
  have I1 := H.1.p w1 ⟨by decide, by decide⟩
  have n1 := fun j (h : j ≠ 1) => rs_i_n w1 h
  have e1 := rs_i_2 w1
  have H1 : HO m s1 := by
    obtain ⟨h0, h1, h2, h3, h4, h5, h6, h7, h8, h9, h10, h11⟩ := H
    unfold HO
    rw [n1 39 (by decide), n1 63 (by decide), n1 65 (by decide), n1 3 (by decide), n1 75 (by decide), n1 72 (by decide), n1 15 (by decide), n1 10 (by decide), n1 11 (by decide)]
    exact ⟨I1, h1.n e1 (n1 27 (by decide)) (n1 20 (by decide)), h2, h3, h4, h5, h6, h7, h8, h9.eq (n1 29 (by decide)) (by rw [e1]) (by rw [n1 27 (by decide)]; exact Int.le_refl _), h10, h11⟩
  have n3 := n1 3 (by decide)
  have no : (x < 0 ∨ σ.1 3 < x) → rsf (pf_text_17 (RF (d - 1)) s1) (fun s b => inR b ∧ FP m σ s ∧ s.1 29 = σ.1 29 ∧ ((0 ≤ x ∧ x ≤ σ.1 3 ∧ s.1 3 = 0) ∨ ((x < 0 ∨ σ.1 3 < x) ∧ s.1 3 = σ.1 3))) := fun hx => by
    unfold pf_text_17
    refine rsf_cl (q_fail (by omega) I1 ⟨by decide, by decide⟩) (fun s2 z2 f => ?_)
    obtain ⟨f1, f2, f3, f4, f5⟩ := f
    have nn : ∀ j, j ≠ 1 → s2.1 j = σ.1 j := fun j hj => (f5 j hj).trans (n1 j hj)
    exact rsf_some ⟨⟨by omega, by omega⟩, ⟨H.code f2 (f3.trans e1) nn hm, nn 63 (by decide)⟩, nn 29 (by decide), Or.inr ⟨hx, nn 3 (by decide)⟩⟩
  refine rsf_if (fun c => no (Or.inl c)) (fun c => rsf_gi (fun z3 q3 => rsf_if (fun c3 => ?_) (fun c3 => no (Or.inr (by omega)))))
  refine rsf_mono (q_text25 (by omega) hm 200000 H1 ⟨by omega, by omega⟩ ⟨by omega, by omega⟩ (by have := H.2.2.2.2.2.1; omega)) (fun s b u => ⟨u.1, ⟨u.2.1, ?_⟩, ?_, Or.inl ⟨by omega, by omega, u.2.2.2.2⟩⟩)
  · rw [u.2.2.1]; exact n1 63 (by decide)
  · rw [u.2.2.2.1]; exact n1 29 (by decide)
end RTZ
