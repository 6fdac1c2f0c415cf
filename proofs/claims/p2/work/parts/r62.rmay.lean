section RMY
variable {σ σ' σ'' s : RS} {d : Nat} {S V T U : Int → Prop} {r w w' : Int}
/-- what may (and look, and a counted step) comes to; e: the count -/
def MY (e : Nat) (r : Int) (σ σ' : RS) (b : Int) : Prop := M0 r σ' ∧ (∀ w, MF w σ σ') ∧ σ'.2 = σ.2 ∧ (∀ j, j ≠ 64 → j ≠ 65 → j ≠ e → j ≠ 72 → j ≠ 73 → σ'.1 j = σ.1 j) ∧ ((b = 0 ∧ σ'.1 72 ≠ 0 ∧ σ'.1 64 = σ.1 64 ∧ σ'.1 65 = σ.1 65) ∨ (b = 1 ∧ σ.1 72 = 0 ∧ σ'.1 72 = 0 ∧ σ'.1 64 = σ.1 64 + 1 ∧ σ'.1 65 = σ.1 65 + 1))
theorem M0.wrong (M : M0 r σ) (I : IR σ') (e : σ'.2 = σ.2) (fr : ∀ j, j ≠ 72 → j ≠ 73 → σ'.1 j = σ.1 j) (h : σ.1 72 ≠ 0 → σ'.1 72 = σ.1 72) (h' : 0 ≤ σ'.1 72 ∧ σ'.1 72 ≤ 14) : M0 r σ' ∧ MF w σ σ' ∧ BP 0 0 σ σ' := by
  have F : MF w σ σ' := MF.wrong e fr h
  have f := fun j (a : j ≠ 72) (b : j ≠ 73) => fr j a b
  refine ⟨M.mf F I ?_ (M.2.2.2.2.eq (by rw [e]) (by rw [e])), F, ?_⟩
  · unfold BG
    rw [f 63 (by decide) (by decide), f 64 (by decide) (by decide), f 65 (by decide) (by decide), f 51 (by decide) (by decide), f 57 (by decide) (by decide), f 48 (by decide) (by decide), f 39 (by decide) (by decide), f 75 (by decide) (by decide), f 66 (by decide) (by decide), f 67 (by decide) (by decide), f 68 (by decide) (by decide), f 69 (by decide) (by decide), f 70 (by decide) (by decide), f 71 (by decide) (by decide), f 62 (by decide) (by decide)]
    obtain ⟨b1, b2, b3, b4, b5, b6, b7, b8, b9, b10, b11⟩ := M.2.1
    exact ⟨b1, b2, b3, b4, b5, b6, b7, b8, b9, h', b11⟩
  · unfold BP
    rw [f 64 (by decide) (by decide), f 65 (by decide) (by decide), f 48 (by decide) (by decide), f 39 (by decide) (by decide), f 75 (by decide) (by decide), f 57 (by decide) (by decide)]
    exact BP.refl
theorem q_may53b {rec : Nat → RS → List Int → RO} (h : σ.1 72 ≠ 0) : rsf (pf_may_53 rec σ) (fun s b => b = 0 ∧ s = σ) := by
  unfold pf_may_53
  refine rsf_gi (fun z1 q1 => rsf_if (fun c => absurd (q1.trans c) h) (fun c => ?_))
  exact rsf_bo (by omega) (rsf_some ⟨rfl, rfl⟩)
/-- a step may be done: it is counted; or a fault -/
theorem q_may (hd : 2 ≤ d) (M : M0 r σ) : rsf (RF d 28 σ []) (MY 64 r σ) := by
  rw [rq_may (by omega)]
  refine rsf_fin ?_
  unfold pf_may_0
  have I := M.1
  have B := M.2.1
  have no : ∀ {x y : Int}, (1 ≤ x ∧ x ≤ 14) → inR y → σ.1 72 = 0 → rsf (rf_cl (RF (d - 1) 3 σ [x, y]) (fun σ9 z10 => pf_may_53 (RF (d - 1)) σ9)) (fun s b => inR b ∧ MY 64 r σ s b) := by
    intro x y hx hy h0
    refine rsf_cl (q_wrong (by omega) I hx hy) (fun s5 z6 f6 => ?_)
    obtain ⟨_, I1, e2, fr, hb⟩ := f6
    have hb' : s5.1 72 = x := by omega
    have W5 := fun (w : Int) => M.wrong (w := w) I1 e2 fr (fun q => absurd h0 q) (by omega)
    refine rsf_mono (q_may53b (by omega)) (fun s b f => ?_)
    obtain ⟨f1, f2⟩ := f
    subst f2
    exact ⟨⟨by omega, by omega⟩, (W5 0).1, fun w => (W5 w).2.1, e2, fun j _ _ _ a b => fr j a b, Or.inl ⟨f1, by omega, fr 64 (by decide) (by decide), fr 65 (by decide) (by decide)⟩⟩
  refine rsf_gi (fun z1 q1 => rsf_if (fun c1 => ?_) (fun c1 => ?_))
  · have h0 : σ.1 72 = 0 := q1.trans c1
    refine rsf_gi (fun z3 q3 => rsf_gi (fun z4 q4 => rsf_if (fun c4 => ?_) (fun c4 => ?_)))
    · refine rsf_gi (fun z6 q6 => rsf_if (fun c6 => ?_) (fun c6 => ?_))
      · unfold pf_may_53
        obtain ⟨b1, b2, b3, b4, b5, b6, b7, b8, b9, b10, b11⟩ := B
        refine rsf_gi (fun z7 q7 => rsf_if (fun c7 => ?_) (fun c7 => absurd (q7.symm.trans h0) c7))
        refine rsf_gi (fun z8 q8 => rsf_ck ⟨by omega, by omega⟩ (fun z9 q9 => rsf_pi (fun s1 w1 => ?_)))
        have n1 : ∀ j, j ≠ 64 → s1.1 j = σ.1 j := fun j hj => rs_i_n w1 hj
        have v1 := rs_i_e w1
        refine rsf_gi (fun z10 q10 => ?_)
        have n65 := n1 65 (by decide)
        refine rsf_ck ⟨by omega, by omega⟩ (fun z11 q11 => rsf_pi (fun s2 w2 => rsf_bo (by omega) ?_))
        have I2 : IR s2 := (I.p w1 ⟨by omega, by omega⟩).p w2 ⟨by omega, by omega⟩
        have e2 : s2.2 = σ.2 := by rw [rs_i_2 w2, rs_i_2 w1]
        have n : ∀ j, j ≠ 64 → j ≠ 65 → s2.1 j = σ.1 j := fun j a b => by rw [rs_i_n w2 b, n1 j a]
        have e64 : s2.1 64 = σ.1 64 + 1 := by rw [rs_i_n w2 (by decide), v1]; omega
        have e65 : s2.1 65 = σ.1 65 + 1 := by rw [rs_i_e w2]; omega
        have F : ∀ w, MF w σ s2 := fun w => MF.nu e2 (fun j hj => n j (by rintro rfl; cases hj) (by rintro rfl; cases hj)) ⟨by rw [n 39 (by decide) (by decide)]; exact Int.le_refl _, by rw [n 48 (by decide) (by decide)]; exact Int.le_refl _⟩ (fun _ => n 72 (by decide) (by decide)) (by omega)
        have Bs : BG r s2 := by
          unfold BG
          rw [e64, e65, n 63 (by decide) (by decide), n 51 (by decide) (by decide), n 57 (by decide) (by decide), n 48 (by decide) (by decide), n 39 (by decide) (by decide), n 75 (by decide) (by decide), n 66 (by decide) (by decide), n 67 (by decide) (by decide), n 68 (by decide) (by decide), n 69 (by decide) (by decide), n 70 (by decide) (by decide), n 71 (by decide) (by decide), n 72 (by decide) (by decide), n 62 (by decide) (by decide)]
          exact ⟨b1, by omega, by omega, by omega, by omega, by omega, by omega, by omega, by omega, b10, b11.1, by omega⟩
        refine rsf_some ⟨⟨by decide, by decide⟩, M.mf (F 0) I2 Bs (M.2.2.2.2.eq (by rw [e2]) (by rw [e2])), F, e2, fun j a b _ _ _ => n j a b, Or.inr ⟨rfl, h0, ?_, e64, e65⟩⟩
        rw [n 72 (by decide) (by decide)]; exact h0
      · exact rsf_gi (fun z8 q8 => no ⟨by decide, by decide⟩ (q8 ▸ I.1 77) h0)
    · exact rsf_gi (fun z8 q8 => no ⟨by decide, by decide⟩ (q8 ▸ I.1 77) h0)
  · exact rsf_bo (by omega) (rsf_some ⟨⟨by decide, by decide⟩, M, fun _ => MF.refl, rfl, fun _ _ _ _ _ _ => rfl, Or.inl ⟨rfl, by omega, rfl, rfl⟩⟩)
theorem MY.bp {e : Nat} {b : Int} (he : e = 64 ∨ (66 ≤ e ∧ e ≤ 71)) (h : MY e r σ s b) : BP (-2 * b) (- b) σ s := by
  obtain ⟨_, _, _, n, g⟩ := h
  unfold BP
  rw [n 48 (by decide) (by decide) (by omega) (by decide) (by decide), n 39 (by decide) (by decide) (by omega) (by decide) (by decide), n 75 (by decide) (by decide) (by omega) (by decide) (by decide), n 57 (by decide) (by decide) (by omega) (by decide) (by decide)]
  rcases g with g | g <;> exact ⟨by omega, by omega, by omega, by omega, by omega, by omega⟩
theorem MY.b0 {e : Nat} {b : Int} (he : e = 64 ∨ (66 ≤ e ∧ e ≤ 71)) (h : MY e r σ s b) : BP 0 0 σ s := (h.bp he).le (by rcases h.2.2.2.2 with g | g <;> omega) (by rcases h.2.2.2.2 with g | g <;> omega)
/-- a counted step -/
theorem my_ct {Q : RS → Int → Prop} {k : Nat} {b : Int} {f : RS → RO} (hk : 66 ≤ k ∧ k ≤ 71) (M : M0 r σ) (h : MY 64 r σ σ' b) (hb : b ≠ 0) (H : ∀ s, MY k r σ s 1 → rsf (f s) Q) : rsf (rf_gi σ' k (fun z => rf_ck (z + 1) (fun z' => rf_pi σ' k z' f))) Q := by
  obtain ⟨M1, F1, e1, n1, g1⟩ := h
  have g1' : b = 1 ∧ σ.1 72 = 0 ∧ σ'.1 72 = 0 ∧ σ'.1 64 = σ.1 64 + 1 ∧ σ'.1 65 = σ.1 65 + 1 := by
    rcases g1 with g | g
    · exact absurd g.1 hb
    · exact g
  have ck : ∀ j, 66 ≤ j → j ≤ 71 → 0 ≤ σ.1 j ∧ σ.1 j ≤ σ.1 64 := fun j a b => by
    have c := M.2.1.2.2.2.2.2.2.2.2.1
    have : j = 66 ∨ j = 67 ∨ j = 68 ∨ j = 69 ∨ j = 70 ∨ j = 71 := by omega
    rcases this with rfl | rfl | rfl | rfl | rfl | rfl
    · exact c.1
    · exact c.2.1
    · exact c.2.2.1
    · exact c.2.2.2.1
    · exact c.2.2.2.2.1
    · exact c.2.2.2.2.2
  have c0 := ck k hk.1 hk.2
  have e0 : σ'.1 k = σ.1 k := n1 k (by omega) (by omega) (by omega) (by omega) (by omega)
  have l := M.2.1.1
  have l2 := M.2.1.2.1
  refine rsf_gi (fun z4 q4 => rsf_ck ⟨by omega, by omega⟩ (fun z5 q5 => rsf_pi (fun s w6 => ?_)))
  have hm : mn k = true := by
    have : k = 66 ∨ k = 67 ∨ k = 68 ∨ k = 69 ∨ k = 70 ∨ k = 71 := by omega
    rcases this with rfl | rfl | rfl | rfl | rfl | rfl <;> rfl
  have F : ∀ w, MF w σ' s := fun w => MF.p w6 hm (by omega) (by omega) (by omega)
  have n : ∀ j, j ≠ k → s.1 j = σ'.1 j := fun j a => rs_i_n w6 a
  have v := rs_i_e w6
  have cj : ∀ j, 66 ≤ j → j ≤ 71 → 0 ≤ s.1 j ∧ s.1 j ≤ s.1 64 := fun j a b => by
    have c := ck j a b
    have m := n 64 (by omega)
    by_cases q : j = k
    · subst q; omega
    · have := n j q
      have := n1 j (by omega) (by omega) (by omega) (by omega) (by omega)
      omega
  have e2 : s.2 = σ'.2 := rs_i_2 w6
  have B : BG r s := by
    obtain ⟨b1, b2, b3, b4, b5, b6, b7, b8, b9, b10, b11⟩ := M1.2.1
    unfold BG
    rw [n 63 (by omega), n 64 (by omega), n 65 (by omega), n 51 (by omega), n 57 (by omega), n 48 (by omega), n 39 (by omega), n 75 (by omega), n 72 (by omega), n 62 (by omega)]
    have m := n 64 (by omega)
    rw [← m]
    refine ⟨b1, by rw [m]; exact b2, b3, by rw [m]; exact b4, by rw [m]; exact b5, by rw [m]; exact b6, b7, b8, ⟨cj 66 (by omega) (by omega), cj 67 (by omega) (by omega), cj 68 (by omega) (by omega), cj 69 (by omega) (by omega), cj 70 (by omega) (by omega), cj 71 (by omega) (by omega)⟩, b10, by rw [m]; exact b11⟩
  refine H s ⟨M1.mf (F 0) (M1.1.p w6 ⟨by omega, by omega⟩) B (M1.2.2.2.2.eq (by rw [e2]) (by rw [e2])), fun w => (F1 w).trans (F w), e2.trans e1, fun j a1 a2 a3 a4 a5 => ?_, Or.inr ⟨rfl, g1'.2.1, ?_, ?_, ?_⟩⟩
  · rw [n j a3, n1 j a1 a2 a1 a4 a5]
  · rw [n 72 (by omega)]; exact g1'.2.2.1
  · rw [n 64 (by omega)]; exact g1'.2.2.2.1
  · rw [n 65 (by omega)]; exact g1'.2.2.2.2
theorem MY.wk {e : Nat} {b : Int} (h : MY 64 r σ s b) : MY e r σ s b := ⟨h.1, h.2.1, h.2.2.1, fun j a b _ c d => h.2.2.2.1 j a b a c d, h.2.2.2.2⟩
theorem q_look23 (hd : 2 ≤ d) (M : M0 r σ) : rsf (pf_look_23 (RF d) σ) (MY 71 r σ) := by
  unfold pf_look_23
  refine rsf_cl (q_may hd M) (fun s1 z2 f2 => ?_)
  refine rsf_if (fun c2 => ?_) (fun c2 => ?_)
  · exact my_ct ⟨by omega, by omega⟩ M f2 c2 (fun s h => rsf_bo (by omega) (rsf_some h))
  · refine rsf_bo (by omega) (rsf_some ?_)
    obtain rfl : z2 = 0 := by omega
    exact f2.wk
/-- a look -/
theorem q_look {x : Int} (hd : 3 ≤ d) (M : M0 r σ) : rsf (RF d 29 σ [x]) (fun s b => MY 71 r σ s b ∧ (b = 1 → x < 100)) := by
  rw [rq_look (by omega)]
  refine rsf_fin ?_
  unfold pf_look_0
  have I := M.1
  have hr : ∀ {s : RS} {b : Int}, MY 71 r σ s b → inR b := fun h => by
    rcases h.2.2.2.2 with g | g <;> exact ⟨by omega, by omega⟩
  refine rsf_gi (fun z1 q1 => rsf_if (fun c1 => ?_) (fun c1 => ?_))
  · refine rsf_mono (q_look23 (by omega) M) (fun s b f => ⟨hr f, f, fun hb => ?_⟩)
    rcases f.2.2.2.2 with g | g
    · omega
    · exact absurd (q1.symm.trans g.2.1) c1
  · have h0 : σ.1 72 = 0 := by omega
    refine rsf_if (fun c2 => ?_) (fun c2 => ?_)
    · exact rsf_mono (q_look23 (by omega) M) (fun s b f => ⟨hr f, f, fun _ => c2⟩)
    · refine rsf_gi (fun z4 q4 => rsf_cl (q_wrong (by omega) I ⟨by decide, by decide⟩ (q4 ▸ I.1 77)) (fun s5 z6 f6 => ?_))
      obtain ⟨_, I1, e2, fr, hb⟩ := f6
      have hb' : s5.1 72 = 13 := by omega
      have W5 := fun (w : Int) => M.wrong (w := w) I1 e2 fr (fun q => absurd h0 q) (by omega)
      refine rsf_mono (q_look23 (by omega) (W5 0).1) (fun s b f => ?_)
      obtain ⟨M1, F1, e1, n1, g1⟩ := f
      have g1' : b = 0 ∧ s.1 72 ≠ 0 ∧ s.1 64 = s5.1 64 ∧ s.1 65 = s5.1 65 := by
        rcases g1 with g | g
        · exact g
        · omega
      refine ⟨⟨by omega, by omega⟩, ⟨M1, fun w => (W5 w).2.1.trans (F1 w), e1.trans e2, fun j a b c d e => (n1 j a b c d e).trans (fr j d e), Or.inl ⟨g1'.1, g1'.2.1, ?_, ?_⟩⟩, fun q => by omega⟩
      · rw [g1'.2.2.1]; exact fr 64 (by decide) (by decide)
      · rw [g1'.2.2.2]; exact fr 65 (by decide) (by decide)
/-- a cell more -/
def CE (σ : RS) (x1 x2 x3 x4 : Int) (σ' : RS) : Prop := (∀ j, j ≠ 48 → σ'.1 j = σ.1 j) ∧ σ'.1 48 = σ.1 48 + 1 ∧ (∀ k, k < 44 ∨ 47 < k → σ'.2 k = σ.2 k) ∧ CFr σ.2 σ'.2 (σ.1 48) ∧ (σ'.2 44 (σ.1 48).toNat = x1 ∧ σ'.2 45 (σ.1 48).toNat = x2 ∧ σ'.2 46 (σ.1 48).toNat = x3 ∧ σ'.2 47 (σ.1 48).toNat = x4)
theorem q_cell0 {x1 x2 x3 x4 : Int} (hd : 1 ≤ d) (I : IR σ) (h1 : inR x1) (h2 : inR x2) (h3 : inR x3) (h4 : inR x4) (hc : 0 ≤ σ.1 48 ∧ σ.1 48 < 79999) : rsf (RF d 30 σ [x1, x2, x3, x4]) (fun s b => b = σ.1 48 ∧ IR s ∧ CE σ x1 x2 x3 x4 s) := by
  rw [rq_cell (by omega)]
  refine rsf_fin ?_
  unfold pf_cell_0
  refine rsf_gi (fun z1 q1 => rsf_wr ⟨by omega, by show _ < ((80000 : Nat) : Int); omega⟩ (fun s2 w2 => ?_))
  have e2 := rs_a_1 w2
  refine rsf_gi (fun z3 q3 => ?_)
  obtain rfl : z3 = z1 := by rw [← q3, e2]; exact q1
  refine rsf_wr ⟨by omega, by show _ < ((80000 : Nat) : Int); omega⟩ (fun s4 w4 => ?_)
  have e4 := rs_a_1 w4
  refine rsf_gi (fun z5 q5 => ?_)
  obtain rfl : z5 = z3 := by rw [← q5, e4]; exact q3
  refine rsf_wr ⟨by omega, by show _ < ((80000 : Nat) : Int); omega⟩ (fun s6 w6 => ?_)
  have e6 := rs_a_1 w6
  refine rsf_gi (fun z7 q7 => ?_)
  obtain rfl : z7 = z5 := by rw [← q7, e6]; exact q5
  refine rsf_wr ⟨by omega, by show _ < ((80000 : Nat) : Int); omega⟩ (fun s8 w8 => ?_)
  have e8 := rs_a_1 w8
  refine rsf_gi (fun z9 q9 => ?_)
  obtain rfl : z9 = z7 := by rw [← q9, e8]; exact q7
  refine rsf_ck ⟨by omega, by omega⟩ (fun z10 q10 => rsf_pi (fun s11 w11 => rsf_gi (fun z12 q12 => ?_)))
  have e12 : z12 = z9 + 1 := by rw [← q12, rs_i_e w11]; exact q10
  refine rsf_ck ⟨by omega, by omega⟩ (fun z13 q13 => ?_)
  have hz : s11.2 = s8.2 := rs_i_2 w11
  have h1' : s8.1 = σ.1 := by rw [e8, e6, e4, e2]
  refine rsf_some ⟨⟨by omega, by omega⟩, by omega, ((((I.a w2 h1).a w4 h2).a w6 h3).a w8 h4).p w11 ⟨by omega, by omega⟩, fun j hj => by rw [rs_i_n w11 hj, h1'], by rw [rs_i_e w11]; omega, fun k hk => ?_, fun q q1' q2 => ?_, ?_, ?_, ?_, ?_⟩
  · rw [hz, rs_a_k w8 (by omega), rs_a_k w6 (by omega), rs_a_k w4 (by omega), rs_a_k w2 (by omega)]
  · have st : ∀ {u t : RS} {m k : Nat} {x : Int}, t = rs_a u m z9 x → t.2 k q.toNat = u.2 k q.toNat := fun {u t m k x} w => by
      by_cases c9 : k = m
      · subst c9; exact rs_a_i w (by omega)
      · rw [rs_a_k w c9]
    rw [hz]
    refine ⟨?_, ?_, ?_, ?_⟩ <;> rw [st w8, st w6, st w4, st w2]
  · rw [hz, q1, rs_a_k w8 (by decide), rs_a_k w6 (by decide), rs_a_k w4 (by decide)]; exact rs_a_e w2
  · rw [hz, q1, rs_a_k w8 (by decide), rs_a_k w6 (by decide)]; exact rs_a_e w4
  · rw [hz, q1, rs_a_k w8 (by decide)]; exact rs_a_e w6
  · rw [hz, q1]; exact rs_a_e w8
theorem CE.mf {x1 x2 x3 x4 : Int} (h : CE σ x1 x2 x3 x4 s) : MF w σ s := by
  obtain ⟨h1, h2, h3, h4, _⟩ := h
  have f := fun k hk => h3 k hk
  refine ⟨fun j hj => h1 j (by rintro rfl; cases hj), fun k hk => h3 k ?_, ⟨?_, by omega⟩, fun q _ _ => ?_, h4, fun q _ _ => ?_, fun _ => h1 72 (by decide), by rw [h1 64 (by decide), h1 65 (by decide)]⟩
  · by_cases c : k < 44
    · exact Or.inl c
    · by_cases c' : 47 < k
      · exact Or.inr c'
      · have : k = 44 ∨ k = 45 ∨ k = 46 ∨ k = 47 := by omega
        rcases this with rfl | rfl | rfl | rfl <;> cases hk
  · rw [h1 39 (by decide)]; exact Int.le_refl _
  · refine ⟨?_, ?_, ?_, ?_, ?_⟩ <;> rw [h3 _ (by omega)]
  · refine ⟨?_, ?_⟩ <;> rw [h3 _ (by omega)]
/-- a cell with a term in it: what it binds -/
theorem q_cell {x1 x2 x3 x4 : Int} (hd : 1 ≤ d) (M : M0 r σ) (h1 : WC σ.2 (σ.1 48) (σ.1 39) (σ.1 27) S V x1) (h2 : inR x2) (h3 : inR x3) (h34 : COs σ S V x3 x4) (hc : σ.1 48 + r + 1 ≤ 2 * σ.1 64 + 20001) : rsf (RF d 30 σ [x1, x2, x3, x4]) (fun s b => b = σ.1 48 ∧ M0 r s ∧ (∀ w, MF w σ s) ∧ (∀ j, j ≠ 48 → s.1 j = σ.1 j) ∧ s.1 48 = σ.1 48 + 1 ∧ (∀ k, k < 44 ∨ 47 < k → s.2 k = σ.2 k) ∧ WC s.2 (s.1 48) (s.1 39) (s.1 27) S V b ∧ (∀ y, Dom σ.2 x1 y ∨ y = x2 → Dom s.2 b y)) := by
  have B := M.2.1
  obtain ⟨b1, b2, b3, b4, b5, b6, b7, b8, b9, b10, b11⟩ := B
  have r1 := h1.rg
  have r4 := (CLU.rg h34).2
  refine rsf_mono (q_cell0 hd M.1 ⟨by omega, by omega⟩ h2 h3 ⟨by omega, by omega⟩ ⟨by omega, by omega⟩) (fun s b f => ?_)
  obtain ⟨f1, I, f⟩ := f
  have F : ∀ w, MF w σ s := fun w => f.mf
  obtain ⟨g1, g2, g3, g4, g5, g6, g7, g8⟩ := f
  subst f1
  have n := fun j hj => g1 j hj
  have Bs : BG r s := by
    unfold BG
    rw [g2, n 63 (by decide), n 64 (by decide), n 65 (by decide), n 51 (by decide), n 57 (by decide), n 39 (by decide), n 75 (by decide), n 66 (by decide), n 67 (by decide), n 68 (by decide), n 69 (by decide), n 70 (by decide), n 71 (by decide), n 72 (by decide), n 62 (by decide)]
    exact ⟨b1, b2, b3, b4, b5, ⟨by omega, by omega⟩, b7, b8, b9, b10, b11⟩
  obtain ⟨w1, w2⟩ := WC.new h1 h34 (F 0).2.2.2.1.nf g4 b6.1 g5 g6 g7 g8
  refine ⟨rfl, M.mf (F 0) I Bs (M.2.2.2.2.eq (g3 36 (by omega)) (g3 37 (by omega))), F, g1, g2, g3, ?_, w2⟩
  rw [g2, n 39 (by decide), n 27 (by decide)]; exact w1
end RMY
