section RTV
variable {σ σ' σ'' σ0 σh s s' A B : RS} {d : Nat} {r w w' lo hi l h R N m K : Int} {Q : RS → Int → Prop}
/-- tables change, nothing else -/
def TT (σ s : RS) : Prop := IR s ∧ (∀ j, j ≠ 20 → s.1 j = σ.1 j) ∧ (∀ k, k < 16 ∨ (19 < k ∧ k < 30) ∨ 31 < k → s.2 k = σ.2 k)
theorem TT.trans (h : TT σ σ') (k : TT σ' σ'') : TT σ σ'' := ⟨k.1, fun j hj => (k.2.1 j hj).trans (h.2.1 j hj), fun j hj => (k.2.2 j hj).trans (h.2.2 j hj)⟩
theorem q_newSort2 {rec : Nat → RS → List Int → RO} {b1 : Int} (hb : b1 = 9 ∨ b1 = 10) : ∀ (n : Nat) {σ : RS} {x2 : Int}, IR σ → HS σ → σ.1 20 < 8 → (0 ≤ x2 ∧ x2 ≤ 4) → 5 - x2 ≤ (n : Int) → rsf (pf_newSort_2 rec b1 n σ x2) (fun s b => inR b ∧ TT σ s ∧ HS s ∧ s.1 20 = σ.1 20 + 1 ∧ b = σ.1 20) := by
  have hl : rf_sn b1.toNat = 4 := by rcases hb with rfl | rfl <;> rfl
  intro n
  induction n with
  | zero => intro σ x2 _ _ _ _ h; omega
  | succ n ih =>
    intro σ x2 I hs h20 h2 hn
    have g20 := hs.2.1
    unfold pf_newSort_2
    refine rsf_sL ⟨by omega, by omega⟩ (fun z1 q1 => rsf_if (fun c => ?_) (fun c => ?_))
    · refine rsf_gi (fun z4 q4 => rsf_sL ⟨by omega, by omega⟩ (fun z6 q6 => ?_))
      refine rsf_wr ⟨by omega, by show _ < ((8 : Nat) : Int); omega⟩ (fun s7 w7 => ?_)
      have e7 := rs_a_1 w7
      refine rsf_gi (fun z8 q8 => ?_)
      rw [e7, q4] at q8
      subst q8
      refine rsf_wr ⟨by omega, by show _ < ((8 : Nat) : Int); omega⟩ (fun s9 w9 => ?_)
      have e9 := rs_a_1 w9
      refine rsf_gi (fun z10 q10 => ?_)
      rw [e9, e7, q4] at q10
      subst q10
      refine rsf_wr ⟨by omega, by show _ < ((140000 : Nat) : Int); omega⟩ (fun s11 w11 => ?_)
      have e11 := rs_a_1 w11
      refine rsf_gi (fun z12 q12 => rsf_gi (fun z13 q13 => ?_))
      rw [e11, e9, e7, q4] at q12 q13
      subst q12 q13
      refine rsf_wr ⟨by omega, by show _ < ((140000 : Nat) : Int); omega⟩ (fun s14 w14 => ?_)
      have e14 := rs_a_1 w14
      refine rsf_gi (fun z15 q15 => ?_)
      rw [e14, e11, e9, e7, q4] at q15
      subst q15
      refine rsf_ck ⟨by omega, by omega⟩ (fun z16 q16 => rsf_pi (fun s17 w17 => rsf_gi (fun z18 q18 => ?_)))
      have e18 : z18 = z4 + 1 := by rw [← q18, rs_i_e w17]; exact q16
      refine rsf_ck ⟨by omega, by omega⟩ (fun z19 q19 => ?_)
      have e17 := rs_i_2 w17
      have hz : inR z4 := ⟨by omega, by omega⟩
      have I17 : IR s17 := ((((I.a w7 ⟨by omega, by omega⟩).a w9 ⟨by decide, by decide⟩).a w11 ⟨by decide, by decide⟩).a w14 hz).p w17 ⟨by omega, by omega⟩
      have n17 : ∀ j, j ≠ 20 → s17.1 j = σ.1 j := fun j hj => by rw [rs_i_n w17 hj, e14, e11, e9, e7]
      have v20 : s17.1 20 = z4 + 1 := by rw [rs_i_e w17]; exact q16
      have ek : ∀ k, k ≠ 17 → k ≠ 18 → k ≠ 30 → k ≠ 31 → s17.2 k = σ.2 k := fun k a b c d => by rw [e17, rs_a_k w14 d, rs_a_k w11 c, rs_a_k w9 b, rs_a_k w7 a]
      obtain ⟨g1, g2, g3, g4, g5, g6, g7, g8⟩ := hs
      refine rsf_some ⟨⟨by omega, by omega⟩, ⟨I17, n17, fun k hk => ek k (by omega) (by omega) (by omega) (by omega)⟩, ?_, by omega, by omega⟩
      refine ⟨by rw [n17 27 (by decide)]; exact g1, by omega, by rw [ek 22 (by decide) (by decide) (by decide) (by decide)]; exact g3, fun k => ?_, fun k hk8 => ?_, fun k hk64 => ?_, by rw [ek 24 (by decide) (by decide) (by decide) (by decide)]; exact g7, fun k k0 k1 => ?_⟩
      · have e : s17.2 17 k = s7.2 17 k := by rw [e17, rs_a_k w14 (by decide), rs_a_k w11 (by decide), rs_a_k w9 (by decide)]
        rw [e]
        by_cases ck : k = z4.toNat
        · rw [ck, rs_a_e w7]; omega
        · rw [rs_a_i w7 ck]; exact g4 k
      · have e : s17.2 18 k = s9.2 18 k := by rw [e17, rs_a_k w14 (by decide), rs_a_k w11 (by decide)]
        rw [e, v20]
        by_cases ck : k = z4.toNat
        · rw [ck, rs_a_e w9]; omega
        · rw [rs_a_i w9 ck, rs_a_k w7 (by decide)]; have := g5 k hk8; omega
      · rw [ek 19 (by decide) (by decide) (by decide) (by decide), v20]; have := g6 k hk64; omega
      · rw [v20] at k1
        have ea : s17.2 30 k.toNat = s11.2 30 k.toNat := by rw [e17, rs_a_k w14 (by decide)]
        have eb : s17.2 31 k.toNat = s14.2 31 k.toNat := by rw [e17]
        rw [ea, eb]
        by_cases ck : k = z4
        · subst ck
          rw [rs_a_e w11, rs_a_e w14]; exact ⟨rfl, rfl⟩
        · rw [rs_a_i w11 (by omega), rs_a_i w14 (by omega), rs_a_k w9 (by decide), rs_a_k w7 (by decide), rs_a_k w11 (by decide), rs_a_k w9 (by decide), rs_a_k w7 (by decide)]
          exact g8 k k0 (by omega)
    · refine rsf_gi (fun z18 q18 => rsf_ck ⟨by omega, by omega⟩ (fun z19 q19 => rsf_ck ⟨by omega, by omega⟩ (fun z20 q20 => ?_)))
      refine rsf_sC ⟨⟨by omega, by omega⟩, by omega, by omega⟩ (fun z24 q24 => ?_)
      refine rsf_wr ⟨by omega, by show _ < ((96 : Nat) : Int); omega⟩ (fun s25 w25 => ?_)
      have e25 := rs_a_1 w25
      have ek := fun k (h : k ≠ 16) => rs_a_k w25 h
      have iz : inR z24 := by rw [q24]; exact inR_of _
      have I25 := I.a w25 iz
      have hs25 : HS s25 := by
        unfold HS
        rw [e25, ek 22 (by decide), ek 17 (by decide), ek 18 (by decide), ek 19 (by decide), ek 24 (by decide), ek 30 (by decide), ek 31 (by decide)]
        exact hs
      refine rsf_ck ⟨by omega, by omega⟩ (fun z26 q26 => ?_)
      have T25 : TT σ s25 := ⟨I25, fun _ _ => by rw [e25], fun k hk => ek k (by omega)⟩
      refine rsf_mono (ih I25 hs25 (by rw [e25]; exact h20) (by omega) (by omega)) (fun s b f => ?_)
      obtain ⟨f1, f2, f3, f4, f5⟩ := f
      rw [e25] at f4 f5
      exact ⟨f1, T25.trans f2, f3, f4, f5⟩
theorem q_newSort {b1 : Int} (hd : 4 ≤ d) (hb : b1 = 9 ∨ b1 = 10) (I : IR σ) (hs : HS σ) (h20 : σ.1 20 < 8) : rsf (RF d 4 σ [b1]) (fun s b => TT σ s ∧ HS s ∧ s.1 20 = σ.1 20 + 1 ∧ b = σ.1 20) := by
  rw [rq_newSort hd]
  refine rsf_fin ?_
  unfold pf_newSort_0
  exact q_newSort2 hb 200000 I hs h20 (by omega) (by omega)
theorem HS.put {k : Nat} {i x : Int} (hs : HS σ) (q : s = rs_a σ k i x) (hk : k = 18 ∨ k = 19) (hx : 0 ≤ x ∧ x < σ.1 20) : HS s := by
  have e := rs_a_1 q
  obtain ⟨g1, g2, g3, g4, g5, g6, g7, g8⟩ := hs
  have st : ∀ m, ∀ p, (-1 ≤ σ.2 m p ∧ σ.2 m p < σ.1 20) → -1 ≤ s.2 m p ∧ s.2 m p < σ.1 20 := fun m p g => by
    by_cases c : m = k
    · subst c
      by_cases c2 : p = i.toNat
      · subst c2; rw [rs_a_e q]; omega
      · rw [rs_a_i q c2]; exact g
    · rw [rs_a_k q c]; exact g
  unfold HS
  rw [e, rs_a_k (j := 22) q (by omega), rs_a_k (j := 17) q (by omega), rs_a_k (j := 24) q (by omega), rs_a_k (j := 30) q (by omega), rs_a_k (j := 31) q (by omega)]
  exact ⟨g1, g2, g3, g4, fun p hp => st 18 p (g5 p hp), fun p hp => st 19 p (g6 p hp), g7, g8⟩
/-- a rule or an axiom more -/
def TH (σ s : RS) : Prop := TT σ s ∧ HS s ∧ s.1 20 = σ.1 20
theorem tb_wr {k : Nat} {i x : Int} {f : RS → RO} (I : IR σ) (hs : HS σ) (hk : k = 18 ∨ k = 19) (hi : 0 ≤ i ∧ i < (rf_len k : Int)) (hx : 0 ≤ x ∧ x < σ.1 20) (h : ∀ s, TH σ s → rsf (f s) Q) : rsf (rf_wr σ k i x f) Q := by
  refine rsf_wr hi (fun s q => h s ⟨⟨I.a q ⟨by omega, by have := hs.2.1; omega⟩, fun _ _ => by rw [rs_a_1 q], fun m hm => rs_a_k q (by omega)⟩, hs.put q hk hx, by rw [rs_a_1 q]⟩)
theorem TH.trans (h : TH σ σ') (k : TH σ' σ'') : TH σ σ'' := ⟨h.1.trans k.1, k.2.1, k.2.2.trans h.2.2⟩
/-- a corner's rules -/
theorem q_table139 {rec : Nat → RS → List Int → RO} {x1 x2 x3 : Int} (I : IR σ) (hs : HS σ) (h2 : 0 ≤ x2 ∧ x2 < σ.1 20) (h3 : 0 ≤ x3 ∧ x3 < σ.1 20) : rsf (pf_table_139 rec σ x1 x2 x3) (fun s b => inR b ∧ TH σ s) := by
  unfold pf_table_139
  have g2 := hs.2.1
  refine rsf_nm (fun z1 _ => rsf_if (fun _ => ?_) (fun _ => ?_))
  · exact rsf_some ⟨⟨by decide, by decide⟩, ⟨I, fun _ _ => rfl, fun _ _ => rfl⟩, hs, rfl⟩
  · refine rsf_ck ⟨by omega, by omega⟩ (fun z3 q3 => rsf_ck ⟨by omega, by omega⟩ (fun z4 q4 => ?_))
    exact tb_wr I hs (Or.inr rfl) ⟨by omega, by show _ < ((64 : Nat) : Int); omega⟩ h3 (fun s T => rsf_some ⟨⟨by decide, by decide⟩, T⟩)
theorem q_table121 {rec : Nat → RS → List Int → RO} {x1 x2 x3 : Int} (I : IR σ) (hs : HS σ) (h2 : 0 ≤ x2 ∧ x2 < σ.1 20) (h3 : 0 ≤ x3 ∧ x3 < σ.1 20) : rsf (pf_table_121 rec σ x1 x2 x3) (fun s b => inR b ∧ TH σ s) := by
  unfold pf_table_121
  have g2 := hs.2.1
  refine rsf_nm (fun z1 _ => rsf_if (fun _ => q_table139 I hs h2 h3) (fun _ => ?_))
  refine rsf_ck ⟨by omega, by omega⟩ (fun z3 q3 => rsf_ck ⟨by omega, by omega⟩ (fun z4 q4 => ?_))
  refine tb_wr I hs (Or.inr rfl) ⟨by omega, by show _ < ((64 : Nat) : Int); omega⟩ h3 (fun s T => ?_)
  exact rsf_mono (q_table139 T.1.1 T.2.1 (by rw [T.2.2]; exact h2) (by rw [T.2.2]; exact h3)) (fun s' b u => ⟨u.1, T.trans u.2⟩)
/-- the new table -/
def QT (σ s : RS) : Prop := IR s ∧ HG 8 s ∧ s.1 39 = 8 ∧ s.1 27 = 0 ∧ s.1 29 = 0 ∧ (∀ j, j ≠ 20 → j ≠ 27 → j ≠ 29 → j ≠ 39 → s.1 j = σ.1 j) ∧ (∀ k, k < 16 ∨ (19 < k ∧ k < 30) ∨ 31 < k → s.2 k = σ.2 k)
/-- what the tables need of what was there -/
def TI (σ : RS) : Prop := IR σ ∧ KA σ ∧ (∀ k, 0 ≤ σ.2 22 k ∧ σ.2 22 k ≤ 12) ∧ (∀ k, 0 ≤ σ.2 17 k ∧ σ.2 17 k ≤ 12) ∧ (∀ k, -1 ≤ σ.2 24 k ∧ σ.2 24 k ≤ 7)
theorem q_table28 {x1 : Int} (hd : 4 ≤ d) : ∀ (n : Nat) {σ : RS} {x2 : Int}, TI σ → σ.1 20 = 0 → (∀ k, k < 64 → σ.2 19 k = -1) → (0 ≤ x2 ∧ x2 ≤ 8) → (∀ k, k < x2.toNat → σ.2 18 k = -1) → 9 - x2 ≤ (n : Int) → rsf (pf_table_28 (RF d) n σ x1 x2) (fun s b => inR b ∧ QT σ s) := by
  intro n
  induction n with
  | zero => intro σ x2 _ _ _ _ _ h; omega
  | succ n ih =>
    intro σ x2 T h20 h19 h2 h18 hn
    obtain ⟨I, ka, t22, t17, t24⟩ := T
    unfold pf_table_28
    refine rsf_if (fun c => ?_) (fun c => ?_)
    · have z : inR 0 := ⟨by decide, by decide⟩
      refine rsf_pi (fun s2 w2 => rsf_pi (fun s3 w3 => rsf_pi (fun s4 w4 => ?_)))
      have I4 := ((I.p w2 z).p w3 z).p w4 (x := 8) ⟨by decide, by decide⟩
      have e4 : s4.2 = σ.2 := by rw [rs_i_2 w4, rs_i_2 w3, rs_i_2 w2]
      have n4 : ∀ j, j ≠ 27 → j ≠ 29 → j ≠ 39 → s4.1 j = σ.1 j := fun j a b c => by rw [rs_i_n w4 c, rs_i_n w3 b, rs_i_n w2 a]
      have v39 : s4.1 39 = 8 := rs_i_e w4
      have v29 : s4.1 29 = 0 := by rw [rs_i_n w4 (by decide), rs_i_e w3]
      have v27 : s4.1 27 = 0 := by rw [rs_i_n w4 (by decide), rs_i_n w3 (by decide), rs_i_e w2]
      have v20 : s4.1 20 = 0 := by rw [n4 20 (by decide) (by decide) (by decide)]; exact h20
      have hs4 : HS s4 := by
        unfold HS
        rw [e4, v27, v20]
        exact ⟨by omega, by omega, t22, t17, fun k hk => by rw [h18 k (by omega)]; omega, fun k hk => by rw [h19 k hk]; omega, t24, fun k k0 k1 => by omega⟩
      have fin : ∀ {s : RS}, TT s4 s → HS s → QT σ s := fun {s} X hs => by
        obtain ⟨a1, a2, a3⟩ := X
        have b27 := a2 27 (by decide)
        have b29 := a2 29 (by decide)
        have b39 := a2 39 (by decide)
        exact ⟨a1, HG.zero hs (ka.eq (by rw [a3 36 (by omega), e4]) (by rw [a3 37 (by omega), e4])) (by omega) rfl, by omega, by omega, by omega, fun j p q r t => by rw [a2 j p, n4 j q r t], fun k hk => by rw [a3 k hk, e4]⟩
      refine rsf_if (fun c8 => ?_) (fun c8 => ?_)
      · refine rsf_cl (q_newSort hd (Or.inl rfl) I4 hs4 (by omega)) (fun s6 z7 f => ?_)
        obtain ⟨T6, hs6, e6, b6⟩ := f
        refine rsf_cl (q_newSort hd (Or.inr rfl) T6.1 hs6 (by omega)) (fun s8 z9 f => ?_)
        obtain ⟨T8, hs8, e8, b8⟩ := f
        refine tb_wr T8.1 hs8 (Or.inl rfl) ⟨by omega, by show _ < ((8 : Nat) : Int); omega⟩ ⟨by omega, by omega⟩ (fun s10 T10 => ?_)
        have q10 := T10.2.2
        refine rsf_ck ⟨by omega, by omega⟩ (fun z11 q11 => rsf_ck ⟨by omega, by omega⟩ (fun z12 q12 => ?_))
        refine tb_wr T10.1.1 T10.2.1 (Or.inr rfl) ⟨by omega, by show _ < ((64 : Nat) : Int); omega⟩ ⟨by omega, by omega⟩ (fun s13 T13 => ?_)
        have q13 := T13.2.2
        have TT13 : TT s4 s13 := ((T6.trans T8).trans T10.1).trans T13.1
        refine rsf_nm (fun z14 _ => rsf_if (fun _ => ?_) (fun _ => ?_))
        · exact rsf_mono (q_table121 T13.1.1 T13.2.1 ⟨by omega, by omega⟩ ⟨by omega, by omega⟩) (fun s b u => ⟨u.1, fin (TT13.trans u.2.1) u.2.2.1⟩)
        · refine rsf_ck ⟨by omega, by omega⟩ (fun z16 q16 => rsf_ck ⟨by omega, by omega⟩ (fun z17 q17 => ?_))
          refine tb_wr T13.1.1 T13.2.1 (Or.inr rfl) ⟨by omega, by show _ < ((64 : Nat) : Int); omega⟩ ⟨by omega, by omega⟩ (fun s18 T18 => ?_)
          have q18 := T18.2.2
          exact rsf_mono (q_table121 T18.1.1 T18.2.1 ⟨by omega, by omega⟩ ⟨by omega, by omega⟩) (fun s b u => ⟨u.1, fin ((TT13.trans T18.1).trans u.2.1) u.2.2.1⟩)
      · exact rsf_some ⟨z, fin ⟨I4, fun _ _ => rfl, fun _ _ => rfl⟩ hs4⟩
    · refine rsf_wr ⟨by omega, by show _ < ((8 : Nat) : Int); omega⟩ (fun s19 w19 => ?_)
      have e19 := rs_a_1 w19
      have ek := fun k (h : k ≠ 18) => rs_a_k w19 h
      refine rsf_ck ⟨by omega, by omega⟩ (fun z20 q20 => ?_)
      refine rsf_mono (ih ⟨I.a w19 ⟨by decide, by decide⟩, ka.eq (ek 36 (by decide)) (ek 37 (by decide)), by rw [ek 22 (by decide)]; exact t22, by rw [ek 17 (by decide)]; exact t17, by rw [ek 24 (by decide)]; exact t24⟩ (by rw [e19]; exact h20) (by rw [ek 19 (by decide)]; exact h19) (by omega) (fun k hk => ?_) (by omega)) (fun s b u => ⟨u.1, ?_⟩)
      · by_cases ck : k = x2.toNat
        · rw [ck]; exact rs_a_e w19
        · rw [rs_a_i w19 ck]; exact h18 k (by omega)
      · obtain ⟨y1, y2, y3, y4, y5, y6, y7⟩ := u.2
        exact ⟨y1, y2, y3, y4, y5, fun j a b c d => by rw [y6 j a b c d, e19], fun k hk => by rw [y7 k hk]; exact ek k (by omega)⟩
theorem q_table7 {x1 : Int} (hd : 4 ≤ d) : ∀ (n : Nat) {σ : RS} {x2 : Int}, TI σ → σ.1 20 = 0 → (0 ≤ x2 ∧ x2 ≤ 64) → (∀ k, k < x2.toNat → σ.2 19 k = -1) → 65 - x2 ≤ (n : Int) → rsf (pf_table_7 (RF d) n σ x1 x2) (fun s b => inR b ∧ QT σ s) := by
  intro n
  induction n with
  | zero => intro σ x2 _ _ _ _ h; omega
  | succ n ih =>
    intro σ x2 T h20 h2 h19 hn
    unfold pf_table_7
    refine rsf_if (fun c => ?_) (fun c => ?_)
    · exact q_table28 hd 200000 T h20 (fun k hk => h19 k (by omega)) ⟨by omega, by omega⟩ (fun k hk => by omega) (by omega)
    · obtain ⟨I, ka, t22, t17, t24⟩ := T
      refine rsf_wr ⟨by omega, by show _ < ((64 : Nat) : Int); omega⟩ (fun s19 w19 => ?_)
      have e19 := rs_a_1 w19
      have ek := fun k (h : k ≠ 19) => rs_a_k w19 h
      refine rsf_ck ⟨by omega, by omega⟩ (fun z20 q20 => ?_)
      refine rsf_mono (ih ⟨I.a w19 ⟨by decide, by decide⟩, ka.eq (ek 36 (by decide)) (ek 37 (by decide)), by rw [ek 22 (by decide)]; exact t22, by rw [ek 17 (by decide)]; exact t17, by rw [ek 24 (by decide)]; exact t24⟩ (by rw [e19]; exact h20) (by omega) (fun k hk => ?_) (by omega)) (fun s b u => ⟨u.1, ?_⟩)
      · by_cases ck : k = x2.toNat
        · rw [ck]; exact rs_a_e w19
        · rw [rs_a_i w19 ck]; exact h19 k (by omega)
      · obtain ⟨y1, y2, y3, y4, y5, y6, y7⟩ := u.2
        exact ⟨y1, y2, y3, y4, y5, fun j a b c d => by rw [y6 j a b c d, e19], fun k hk => by rw [y7 k hk]; exact ek k (by omega)⟩
theorem q_table {x : Int} (hd : 5 ≤ d) (T : TI σ) : rsf (RF d 5 σ [x]) (fun s _ => QT σ s) := by
  rw [rq_table (by omega)]
  refine rsf_fin ?_
  unfold pf_table_0
  refine rsf_pi (fun s1 w1 => ?_)
  have e1 := rs_i_2 w1
  obtain ⟨I, ka, t22, t17, t24⟩ := T
  have T1 : TI s1 := ⟨I.p w1 ⟨by decide, by decide⟩, ka.eq (by rw [e1]) (by rw [e1]), by rw [e1]; exact t22, by rw [e1]; exact t17, by rw [e1]; exact t24⟩
  refine rsf_mono (q_table7 (by omega) 200000 T1 (rs_i_e w1) (by omega) (fun k hk => by omega) (by omega)) (fun s b u => ⟨u.1, ?_⟩)
  obtain ⟨y1, y2, y3, y4, y5, y6, y7⟩ := u.2
  exact ⟨y1, y2, y3, y4, y5, fun j a b c d => by rw [y6 j a b c d, rs_i_n w1 a], fun k hk => by rw [y7 k hk, e1]⟩
/-- a corner -/
theorem q_corner {x : Int} (hd : 6 ≤ d) (H : HO m σ) (hm : m + 1 ≤ 512) : rsf (RF d 64 σ [x]) (fun s _ => FP m σ s ∧ s.1 3 = σ.1 3 ∧ ((0 ≤ x ∧ x ≤ 8 ∧ s.1 29 = 0) ∨ ((x < 0 ∨ 8 < x) ∧ s.1 29 = σ.1 29))) := by
  rw [rq_corner (by omega)]
  refine rsf_fin ?_
  unfold pf_corner_0
  refine rsf_pi (fun s1 w1 => ?_)
  have C := CX.p H.1 w1 ⟨by decide, by decide⟩
  have H1 := CX.ho H C
  have no : (x < 0 ∨ 8 < x) → rsf (pf_corner_15 (RF (d - 1)) s1) (fun s b => inR b ∧ FP m σ s ∧ s.1 3 = σ.1 3 ∧ ((0 ≤ x ∧ x ≤ 8 ∧ s.1 29 = 0) ∨ ((x < 0 ∨ 8 < x) ∧ s.1 29 = σ.1 29))) := fun hx => by
    unfold pf_corner_15
    refine rsf_mono (c_fail (n := 0) (by omega) C rfl) (fun s b u => ?_)
    have X := u.2.fx H hm
    exact ⟨u.1, X.1, X.2.2, Or.inr ⟨hx, X.2.1⟩⟩
  refine rsf_if (fun c => no (Or.inl c)) (fun c => rsf_if (fun c2 => ?_) (fun c2 => no (Or.inr (by omega))))
  obtain ⟨h0, h1, h2, h3, h4, h5, h6, h7, h8, h9, h10, h11⟩ := H1
  have hs := h1.1
  have n8 := h1.n8
  refine rsf_gi (fun z4 q4 => ?_)
  refine rsf_cl (q_table (by omega) ⟨h0, h1.2.1, hs.2.2.1, hs.2.2.2.1, hs.2.2.2.2.2.2.1⟩) (fun s5 z6 f => ?_)
  obtain ⟨y1, y2, y3, y4, y5, y6, y7⟩ := f
  have a63 := y6 63 (by decide) (by decide) (by decide) (by decide)
  have a65 := y6 65 (by decide) (by decide) (by decide) (by decide)
  have a3 := y6 3 (by decide) (by decide) (by decide) (by decide)
  have a75 := y6 75 (by decide) (by decide) (by decide) (by decide)
  have a72 := y6 72 (by decide) (by decide) (by decide) (by decide)
  have a15 := y6 15 (by decide) (by decide) (by decide) (by decide)
  have a10 := y6 10 (by decide) (by decide) (by decide) (by decide)
  have a11 := y6 11 (by decide) (by decide) (by decide) (by decide)
  have b63 := C.2.2 63 (by decide)
  have b3 := C.2.2 3 (by decide)
  refine rsf_some ⟨q4 ▸ C.1.1 27, ⟨⟨y1, by rw [y3]; exact y2, by omega, by omega, ⟨by omega, by omega, by omega⟩, by omega, by omega, by omega, by omega, ⟨by omega, fun i j a b c => by omega⟩, by omega, by omega⟩, by omega⟩, by omega, Or.inl ⟨by omega, c2, y5⟩⟩
/-- the first table -/
theorem q_init (hd : 5 ≤ d) : rsf (RF d 5 rf_s0 [7]) (fun s _ => HO 0 s ∧ s.1 63 = 5000 ∧ s.1 29 = 0 ∧ s.1 3 = 0) := by
  have I : IR rf_s0 := by
    refine ⟨fun j => ?_, fun _ _ => (show inR 0 from ⟨by decide, by decide⟩)⟩
    show inR (if j = 13 then -1 else if j = 48 then 1 else if j = 63 then 5000 else 0)
    split
    · exact ⟨by decide, by decide⟩
    · split
      · exact ⟨by decide, by decide⟩
      · split
        · exact ⟨by decide, by decide⟩
        · exact ⟨by decide, by decide⟩
  have z : ∀ k q, rf_s0.2 k q = 0 := fun _ _ => rfl
  have T : TI rf_s0 := ⟨I, fun q => by rw [z, z]; omega, fun k => by rw [z]; omega, fun k => by rw [z]; omega, fun k => by rw [z]; omega⟩
  refine rsf_mono (q_table hd T) (fun s b f => ?_)
  obtain ⟨y1, y2, y3, y4, y5, y6, y7⟩ := f
  have a63 : s.1 63 = 5000 := y6 63 (by decide) (by decide) (by decide) (by decide)
  have a65 : s.1 65 = 0 := y6 65 (by decide) (by decide) (by decide) (by decide)
  have a3 : s.1 3 = 0 := y6 3 (by decide) (by decide) (by decide) (by decide)
  have a75 : s.1 75 = 0 := y6 75 (by decide) (by decide) (by decide) (by decide)
  have a72 : s.1 72 = 0 := y6 72 (by decide) (by decide) (by decide) (by decide)
  have a15 : s.1 15 = 0 := y6 15 (by decide) (by decide) (by decide) (by decide)
  have a10 : s.1 10 = 0 := y6 10 (by decide) (by decide) (by decide) (by decide)
  have a11 : s.1 11 = 0 := y6 11 (by decide) (by decide) (by decide) (by decide)
  exact ⟨⟨y1, by rw [y3]; exact y2, by omega, by omega, ⟨by omega, by omega, by omega⟩, by omega, by omega, a72, a15, ⟨by omega, fun i j a b c => by omega⟩, by omega, by omega⟩, a63, y5, a3⟩
end RTV
