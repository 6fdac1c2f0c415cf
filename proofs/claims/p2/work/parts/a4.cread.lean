section CRD
variable {bd : cBd} {b d : Nat} {σ σ1 σ2 σ3 : CS} {Q : CS → Nat → Int → Prop} {k s o z : Nat}
variable {e ρ : Nat}
/-- the reader between two tokens: e is where the text ends, ρ are left -/
def rQ (b e : Nat) (σ : CS) (ρ : Nat) : Prop := e ≤ 4000 ∧ (c_pv σ (b + 20) e = 260 ∨ c_pv σ (b + 20) e = 261) ∧ 0 ≤ c_pv σ (b + 19) 6 ∧ c_pv σ (b + 19) 6 + (ρ : Int) = (e : Int) + 1 ∧ (e : Int) ≤ c_pv σ (b + 19) 5
def rP (b e : Nat) (σ : CS) (ρ : Nat) : Prop := rQ b e σ ρ ∧ 1 ≤ c_pv σ (b + 19) 6 ∧ c_pv σ (b + 19) 7 = c_pv σ (b + 20) (c_pv σ (b + 19) 6 - 1).toNat
theorem rP.pos (h : rP b e σ ρ) (h1 : c_pv σ (b + 19) 7 ≠ 260) (h2 : c_pv σ (b + 19) 7 ≠ 261) : 1 ≤ ρ := by
  obtain ⟨⟨a1, a2, a3, a4, _⟩, a5, a6⟩ := h
  by_cases c : ρ = 0
  · exfalso
    have e1 : (c_pv σ (b + 19) 6 - 1).toNat = e := by omega
    rw [e1] at a6
    omega
  · omega
theorem rP.fr {σ' : CS} (h : rP b e σ ρ) (h19 : ∀ f, f ≠ 10 → c_pv σ' (b + 19) f = c_pv σ (b + 19) f) (h20 : ∀ f, c_pv σ' (b + 20) f = c_pv σ (b + 20) f) : rP b e σ' ρ := by
  obtain ⟨⟨a1, a2, a3, a4, a7⟩, a5, a6⟩ := h
  exact ⟨⟨a1, by rw [h20]; exact a2, by rw [h19 6 (by decide)]; exact a3, by rw [h19 6 (by decide)]; exact a4, by rw [h19 5 (by decide)]; exact a7⟩, by rw [h19 6 (by decide)]; exact a5, by rw [h19 7 (by decide), h19 6 (by decide), h20]; exact a6⟩
/-- .. a new object changes nothing of it -/
theorem rP.nw {σ' : CS} (h : rP b e σ ρ) (G : GG bd b σ) (hF : ∀ a f, a ≠ c_hp σ → c_pv σ' a f = c_pv σ a f) : rP b e σ' ρ := h.fr (fun f _ => hF _ _ (by have := G.hp; omega)) (fun f => hF _ _ (by have := G.hp; omega))
theorem s_isLetter (hd : 6 ≤ d) (G : GG bd b σ) {x : Int} : sf (RC bd d 118 σ [x]) (PU σ (fun r => r = 0 ∨ r = 1)) := by
  obtain ⟨d, rfl⟩ : ∃ d0, d = d0 + 1 := ⟨d - 1, by omega⟩
  rw [rc_X7_isLetter (by omega)]
  refine fin_U ?_
  unfold pc_X7_isLetter_0
  refine sf_if (fun c1 => ?_) (fun c1 => ?_)
  · unfold pc_X7_isLetter_12
    refine sf_if (fun c2 => ?_) (fun c2 => ?_)
    · refine sf_bo (by omega) ?_
      exact ret_U ⟨by decide, by decide⟩ (by first | trivial | assumption | omega | (dsimp only; omega))
    · refine sf_if (fun c3 => ?_) (fun c3 => ?_)
      · refine sf_bo (by omega) ?_
        exact ret_U ⟨by decide, by decide⟩ (by first | trivial | assumption | omega | (dsimp only; omega))
      · refine sf_bo (by omega) ?_
        exact ret_U ⟨by decide, by decide⟩ (by first | trivial | assumption | omega | (dsimp only; omega))
  · refine sf_if (fun c4 => ?_) (fun c4 => ?_)
    · refine sf_bo (by omega) ?_
      exact ret_U ⟨by decide, by decide⟩ (by first | trivial | assumption | omega | (dsimp only; omega))
    · unfold pc_X7_isLetter_12
      refine sf_if (fun c5 => ?_) (fun c5 => ?_)
      · refine sf_bo (by omega) ?_
        exact ret_U ⟨by decide, by decide⟩ (by first | trivial | assumption | omega | (dsimp only; omega))
      · refine sf_if (fun c6 => ?_) (fun c6 => ?_)
        · refine sf_bo (by omega) ?_
          exact ret_U ⟨by decide, by decide⟩ (by first | trivial | assumption | omega | (dsimp only; omega))
        · refine sf_bo (by omega) ?_
          exact ret_U ⟨by decide, by decide⟩ (by first | trivial | assumption | omega | (dsimp only; omega))
theorem s_isNameSign (hd : 7 ≤ d) (G : GG bd b σ) {x : Int} : sf (RC bd d 119 σ [x]) (PU σ (fun r => r = 0 ∨ r = 1)) := by
  obtain ⟨d, rfl⟩ : ∃ d0, d = d0 + 1 := ⟨d - 1, by omega⟩
  rw [rc_X7_isNameSign (by omega)]
  refine fin_U ?_
  unfold pc_X7_isNameSign_0
  refine cl_U (s_isLetter (by omega) G) (fun z3_2 rz3_2 fz3_2 => ?_)
  refine sf_if (fun c3 => ?_) (fun c3 => ?_)
  · refine sf_bo (by omega) ?_
    exact ret_U ⟨by decide, by decide⟩ (by first | trivial | assumption | omega | (dsimp only; omega))
  · refine sf_if (fun c4 => ?_) (fun c4 => ?_)
    · unfold pc_X7_isNameSign_19
      refine sf_if (fun c5 => ?_) (fun c5 => ?_)
      · refine sf_bo (by omega) ?_
        exact ret_U ⟨by decide, by decide⟩ (by first | trivial | assumption | omega | (dsimp only; omega))
      · refine sf_bo (by omega) ?_
        exact ret_U ⟨by decide, by decide⟩ (by first | trivial | assumption | omega | (dsimp only; omega))
    · refine sf_if (fun c6 => ?_) (fun c6 => ?_)
      · refine sf_bo (by omega) ?_
        exact ret_U ⟨by decide, by decide⟩ (by first | trivial | assumption | omega | (dsimp only; omega))
      · unfold pc_X7_isNameSign_19
        refine sf_if (fun c7 => ?_) (fun c7 => ?_)
        · refine sf_bo (by omega) ?_
          exact ret_U ⟨by decide, by decide⟩ (by first | trivial | assumption | omega | (dsimp only; omega))
        · refine sf_bo (by omega) ?_
          exact ret_U ⟨by decide, by decide⟩ (by first | trivial | assumption | omega | (dsimp only; omega))
theorem s_closeOf4 : ∀ (n : Nat) {j : Int}, GG bd b σ → 0 ≤ j → (4001 - j < (n : Int) ∧ 0 < n) → sf (pc_X7_closeOf_4 (RC bd d) bd n σ ((b + 19 : Nat) : Int) j) (PU σ (fun r => r = -1 ∨ (j ≤ r ∧ r < c_pv σ (b + 19) 5))) := by
  intro n
  induction n with
  | zero =>
    intro j G hj hn
    omega
  | succ n ih =>
    intro j G hj hn
    unfold pc_X7_closeOf_4
    refine wgN (G.tg 19) (fun z1_1 hz1_1 => ?_)
    have fz1_1 := G.nu 19 5
    have rz1_1 : inR z1_1 := hz1_1 ▸ G.ir _ _
    refine sf_if (fun c2 => ?_) (fun c2 => ?_)
    · exact ret_U ⟨by decide, by decide⟩ (by first | trivial | assumption | omega | (dsimp only; omega))
    · refine wgF (G.tg 19) (G.fi 22 (i := 19) (f := 0) (j := 1)) ?_
      refine wrN (G.tg 1) (G.ln 1 (n := 4000)) ⟨by omega, by omega⟩ (fun z4_4 hz4_4 => ?_)
      have rz4_4 : inR z4_4 := hz4_4 ▸ G.ir _ _
      refine sf_if (fun c5 => ?_) (fun c5 => ?_)
      · refine wck ⟨by omega, by omega⟩ (fun z6_6 hz6_6 => ?_)
        exact sf_mono (ih G (by omega) (by omega)) (fun σ' kd r q => ⟨q.1, q.2.1, q.2.2.1, by have := q.2.2.2; omega⟩)
      · exact ret_U (by first | assumption | exact inR_of _ | exact ⟨by omega, by omega⟩) (by first | trivial | assumption | omega | (dsimp only; omega))
theorem s_closeOf (hd : 6 ≤ d) (G : GG bd b σ) {x : Int} (hx : 0 ≤ x ∧ x ≤ 5000) : sf (RC bd d 115 σ [((b + 19 : Nat) : Int), x]) (PU σ (fun r => r = -1 ∨ (x < r ∧ r < c_pv σ (b + 19) 5))) := by
  obtain ⟨d, rfl⟩ : ∃ d0, d = d0 + 1 := ⟨d - 1, by omega⟩
  rw [rc_X7_closeOf (by omega)]
  refine fin_U ?_
  unfold pc_X7_closeOf_0
  refine wck ⟨by omega, by omega⟩ (fun z1_1 hz1_1 => ?_)
  exact sf_mono (s_closeOf4 _ G (by omega) ⟨by omega, by decide⟩) (fun σ' kd r q => ⟨q.1, q.2.1, q.2.2.1, by have := q.2.2.2; omega⟩)
theorem s_behindBlanks2 (hd : 7 ≤ d) : ∀ (n : Nat) {j : Int}, GG bd b σ → 0 ≤ j → j ≤ c_pv σ (b + 19) 5 → (4001 - j < (n : Int) ∧ 0 < n) → sf (pc_X7_behindBlanks_2 (RC bd d) bd n σ ((b + 19 : Nat) : Int) j) (PU σ (fun r => j ≤ r ∧ r ≤ c_pv σ (b + 19) 5)) := by
  intro n
  induction n with
  | zero =>
    intro j G hj hj2 hn
    omega
  | succ n ih =>
    intro j G hj hj2 hn
    unfold pc_X7_behindBlanks_2
    refine wgN (G.tg 19) (fun z1_1 hz1_1 => ?_)
    have fz1_1 := G.nu 19 5
    have rz1_1 : inR z1_1 := hz1_1 ▸ G.ir _ _
    refine sf_if (fun c2 => ?_) (fun c2 => ?_)
    · exact ret_U (by first | assumption | exact inR_of _ | exact ⟨by omega, by omega⟩) (by first | trivial | assumption | omega | (dsimp only; omega))
    · refine wgF (G.tg 19) (G.fi 22 (i := 19) (f := 0) (j := 1)) ?_
      refine wrN (G.tg 1) (G.ln 1 (n := 4000)) ⟨by omega, by omega⟩ (fun z4_4 hz4_4 => ?_)
      have rz4_4 : inR z4_4 := hz4_4 ▸ G.ir _ _
      refine sf_if (fun c5 => ?_) (fun c5 => ?_)
      · refine sf_if (fun c6 => ?_) (fun c6 => ?_)
        · unfold pc_X7_behindBlanks_58
          refine wck ⟨by omega, by omega⟩ (fun z1_7 hz1_7 => ?_)
          exact sf_mono (ih G (by omega) (by omega) (by omega)) (fun σ' kd r q => ⟨q.1, q.2.1, q.2.2.1, by have := q.2.2.2; omega⟩)
        · refine sf_if (fun c8 => ?_) (fun c8 => ?_)
          · unfold pc_X7_behindBlanks_58
            refine wck ⟨by omega, by omega⟩ (fun z1_9 hz1_9 => ?_)
            exact sf_mono (ih G (by omega) (by omega) (by omega)) (fun σ' kd r q => ⟨q.1, q.2.1, q.2.2.1, by have := q.2.2.2; omega⟩)
          · exact ret_U (by first | assumption | exact inR_of _ | exact ⟨by omega, by omega⟩) (by first | trivial | assumption | omega | (dsimp only; omega))
      · refine wtN (G.tg 19) ?_
        refine cl_U (s_closeOf (by omega) G ⟨by omega, by omega⟩) (fun z10_11 rz10_11 fz10_11 => ?_)
        refine sf_if (fun c12 => ?_) (fun c12 => ?_)
        · unfold pc_X7_behindBlanks_58
          refine wck ⟨by omega, by omega⟩ (fun z1_13 hz1_13 => ?_)
          exact sf_mono (ih G (by omega) (by omega) (by omega)) (fun σ' kd r q => ⟨q.1, q.2.1, q.2.2.1, by have := q.2.2.2; omega⟩)
        · exact ret_U (by first | assumption | exact inR_of _ | exact ⟨by omega, by omega⟩) (by first | trivial | assumption | omega | (dsimp only; omega))
theorem s_behindBlanks (hd : 8 ≤ d) (G : GG bd b σ) {x : Int} (hx : 0 ≤ x ∧ x ≤ c_pv σ (b + 19) 5) : sf (RC bd d 113 σ [((b + 19 : Nat) : Int), x]) (PU σ (fun r => x ≤ r ∧ r ≤ c_pv σ (b + 19) 5)) := by
  obtain ⟨d, rfl⟩ : ∃ d0, d = d0 + 1 := ⟨d - 1, by omega⟩
  rw [rc_X7_behindBlanks (by omega)]
  refine fin_U ?_
  unfold pc_X7_behindBlanks_0
  exact s_behindBlanks2 (by omega) _ G (by omega) (by omega) ⟨by omega, by decide⟩
theorem s_isWord2 {x : Int} (hx : 0 ≤ x ∧ x ≤ 48) : ∀ (n : Nat) {j : Int}, GG bd b σ → 0 ≤ j → c_pv σ (b + 19) 9 ≤ 5 → c_pv σ (b + 19) 8 + c_pv σ (b + 19) 9 ≤ 4000 → (6 - j < (n : Int) ∧ 0 < n) → sf (pc_X7_isWord_2 (RC bd d) bd n σ ((b + 19 : Nat) : Int) x j) (PU σ (fun r => r = 0 ∨ r = 1)) := by
  intro n
  induction n with
  | zero =>
    intro j G hj h9 h8 hn
    omega
  | succ n ih =>
    intro j G hj h9 h8 hn
    have hl := cs_len0
    unfold pc_X7_isWord_2
    refine wgN (G.tg 19) (fun z1_1 hz1_1 => ?_)
    have fz1_1 := G.nu 19 9
    have rz1_1 : inR z1_1 := hz1_1 ▸ G.ir _ _
    refine sf_if (fun c2 => ?_) (fun c2 => ?_)
    · refine sf_gs (by have := G.st.2.2.1 0; omega) ?_
      refine wgN (G.tg 19) (fun z4_3 hz4_3 => ?_)
      have fz4_3 := G.nu 19 9
      have rz4_3 : inR z4_3 := hz4_3 ▸ G.ir _ _
      refine wck ⟨by omega, by omega⟩ (fun z5_4 hz5_4 => ?_)
      refine wsc 0 G ⟨by omega, by omega⟩ (fun z6_5 rz6_5 => ?_)
      refine sf_if (fun c6 => ?_) (fun c6 => ?_)
      · refine sf_bo (by omega) ?_
        exact ret_U ⟨by decide, by decide⟩ (by first | trivial | assumption | omega | (dsimp only; omega))
      · refine sf_bo (by omega) ?_
        exact ret_U ⟨by decide, by decide⟩ (by first | trivial | assumption | omega | (dsimp only; omega))
    · refine sf_gs (by have := G.st.2.2.1 0; omega) ?_
      refine wck ⟨by omega, by omega⟩ (fun z9_7 hz9_7 => ?_)
      refine wsc 0 G ⟨by omega, by omega⟩ (fun z10_8 rz10_8 => ?_)
      refine wgF (G.tg 19) (G.fi 22 (i := 19) (f := 0) (j := 1)) ?_
      refine wgN (G.tg 19) (fun z12_10 hz12_10 => ?_)
      have fz12_10 := G.nu 19 8
      have rz12_10 : inR z12_10 := hz12_10 ▸ G.ir _ _
      refine wck ⟨by omega, by omega⟩ (fun z13_11 hz13_11 => ?_)
      refine wrN (G.tg 1) (G.ln 1 (n := 4000)) ⟨by omega, by omega⟩ (fun z14_12 hz14_12 => ?_)
      have rz14_12 : inR z14_12 := hz14_12 ▸ G.ir _ _
      refine sf_if (fun c13 => ?_) (fun c13 => ?_)
      · refine wck ⟨by omega, by omega⟩ (fun z16_14 hz16_14 => ?_)
        exact ih G (by omega) h9 h8 (by omega)
      · refine sf_bo (by omega) ?_
        exact ret_U ⟨by decide, by decide⟩ (by first | trivial | assumption | omega | (dsimp only; omega))
theorem s_isWord (hd : 6 ≤ d) (G : GG bd b σ) {x : Int} (hx : 0 ≤ x ∧ x ≤ 48) (h9 : c_pv σ (b + 19) 9 ≤ 5) (h8 : c_pv σ (b + 19) 8 + c_pv σ (b + 19) 9 ≤ 4000) : sf (RC bd d 120 σ [((b + 19 : Nat) : Int), x]) (PU σ (fun r => r = 0 ∨ r = 1)) := by
  obtain ⟨d, rfl⟩ : ∃ d0, d = d0 + 1 := ⟨d - 1, by omega⟩
  rw [rc_X7_isWord (by omega)]
  refine fin_U ?_
  unfold pc_X7_isWord_0
  exact s_isWord2 hx _ G (by decide) h9 h8 ⟨by decide, by decide⟩
theorem s_wordNumber13 (hd : 7 ≤ d) : ∀ (n : Nat) {j : Int}, GG bd b σ → 0 ≤ j → c_pv σ (b + 19) 9 ≤ 5 → c_pv σ (b + 19) 8 + c_pv σ (b + 19) 9 ≤ 4000 → (10 - j < (n : Int) ∧ 0 < n) → sf (pc_X7_wordNumber_13 (RC bd d) bd n σ ((b + 19 : Nat) : Int) j) (PU σ (fun r => -1 ≤ r ∧ r ≤ 8)) := by
  intro n
  induction n with
  | zero =>
    intro j G hj h9 h8 hn
    omega
  | succ n ih =>
    intro j G hj h9 h8 hn
    unfold pc_X7_wordNumber_13
    refine sf_if (fun c1 => ?_) (fun c1 => ?_)
    · exact ret_U ⟨by decide, by decide⟩ (by first | trivial | assumption | omega | (dsimp only; omega))
    · refine wck ⟨by omega, by omega⟩ (fun z2_2 hz2_2 => ?_)
      refine wtN (G.tg 19) ?_
      refine cl_U (s_isWord (by omega) G ⟨by omega, by omega⟩ (by omega) (by omega)) (fun z5_4 rz5_4 fz5_4 => ?_)
      refine sf_if (fun c5 => ?_) (fun c5 => ?_)
      · refine wck ⟨by omega, by omega⟩ (fun z7_6 hz7_6 => ?_)
        exact ih G (by omega) h9 h8 (by omega)
      · exact ret_U (by first | assumption | exact inR_of _ | exact ⟨by omega, by omega⟩) (by first | trivial | assumption | omega | (dsimp only; omega))
theorem s_wordNumber (hd : 8 ≤ d) (G : GG bd b σ) (h8 : c_pv σ (b + 19) 8 + c_pv σ (b + 19) 9 ≤ 4000) : sf (RC bd d 134 σ [((b + 19 : Nat) : Int)]) (PU σ (fun r => -1 ≤ r ∧ r ≤ 8)) := by
  obtain ⟨d, rfl⟩ : ∃ d0, d = d0 + 1 := ⟨d - 1, by omega⟩
  rw [rc_X7_wordNumber (by omega)]
  refine fin_U ?_
  unfold pc_X7_wordNumber_0
  refine wgN (G.tg 19) (fun z1_1 hz1_1 => ?_)
  have fz1_1 := G.nu 19 9
  have rz1_1 : inR z1_1 := hz1_1 ▸ G.ir _ _
  refine sf_if (fun c2 => ?_) (fun c2 => ?_)
  · exact s_wordNumber13 (by omega) _ G (by decide) (by omega) h8 ⟨by decide, by decide⟩
  · exact ret_U ⟨by decide, by decide⟩ (by first | trivial | assumption | omega | (dsimp only; omega))
theorem s_nameToken7 (hd : 9 ≤ d) : ∀ (n : Nat) {j : Int}, GG bd b σ → RR bd b σ k s o z → c_pv σ (b + 19) 8 < j → j ≤ c_pv σ (b + 19) 5 → (4001 - j < (n : Int) ∧ 0 < n) → sf (pc_X7_nameToken_7 (RC bd d) bd n σ ((b + 19 : Nat) : Int) j) (PZ bd b σ k s o z (fun σ' r => (0 ≤ r ∧ r ≤ 260) ∧ (1 ≤ c_pv σ' (b + 19) 9 ∧ c_pv σ (b + 19) 8 + c_pv σ' (b + 19) 9 ≤ c_pv σ (b + 19) 5) ∧ ∀ a g, (a ≠ b + 19 ∨ g ≠ 9) → c_pv σ' a g = c_pv σ a g)) := by
  intro n
  induction n with
  | zero =>
    intro j G R hj hj2 hn
    omega
  | succ n ih =>
    intro j G R hj hj2 hn
    have n8 := G.nu 19 8
    have n5 := G.nu 19 5
    unfold pc_X7_nameToken_7
    refine wgN (G.tg 19) (fun z1_1 hz1_1 => ?_)
    have fz1_1 := G.nu 19 5
    have rz1_1 : inR z1_1 := hz1_1 ▸ G.ir _ _
    refine sf_if (fun c2 => ?_) (fun c2 => ?_)
    · unfold pc_X7_nameToken_33
      refine wgN (G.tg 19) (fun z1_3 hz1_3 => ?_)
      have fz1_3 := G.nu 19 8
      have rz1_3 : inR z1_3 := hz1_3 ▸ G.ir _ _
      refine wck ⟨by omega, by omega⟩ (fun z2_4 hz2_4 => ?_)
      refine wpN (G.tg 19) (fun s5 ws5 => ?_)
      obtain ⟨Gs5, es5, Rs5, Fs5, Vs5⟩ := P0 G R ws5 (by decide) (by first | assumption | exact inR_of _ | exact ⟨by omega, by omega⟩) (by intro lo hi q; cases q <;> omega)
      have E6 := (Ext.refl (b := b) (σ := σ)).trans es5
      have V3 := Vs5
      have F3 := Fs5
      have q3 := Fs5 (b + 19) 8 (Or.inr (by decide))
      refine wtN (Gs5.tg 19) ?_
      refine cl_U (s_wordNumber (by omega) Gs5 (by omega)) (fun z6_8 rz6_8 fz6_8 => ?_)
      refine sf_if (fun c9 => ?_) (fun c9 => ?_)
      · refine wgN (Gs5.tg 19) (fun z8_10 hz8_10 => ?_)
        have fz8_10 := Gs5.nu 19 9
        have rz8_10 : inR z8_10 := hz8_10 ▸ Gs5.ir _ _
        refine sf_if (fun c11 => ?_) (fun c11 => ?_)
        · exact ret_Z ⟨by decide, by decide⟩ Gs5 E6 (Rs5.le (by omega) (by omega) (by omega) (by omega)) (by first | trivial | assumption | omega | (dsimp only; omega) | exact ⟨by omega, ⟨by omega, by omega⟩, F3⟩)
        · exact ret_Z ⟨by decide, by decide⟩ Gs5 E6 (Rs5.le (by omega) (by omega) (by omega) (by omega)) (by first | trivial | assumption | omega | (dsimp only; omega) | exact ⟨by omega, ⟨by omega, by omega⟩, F3⟩)
      · exact ret_Z (by first | assumption | exact inR_of _ | exact ⟨by omega, by omega⟩) Gs5 E6 (Rs5.le (by omega) (by omega) (by omega) (by omega)) (by first | trivial | assumption | omega | (dsimp only; omega) | exact ⟨by omega, ⟨by omega, by omega⟩, F3⟩)
    · refine wgF (G.tg 19) (G.fi 22 (i := 19) (f := 0) (j := 1)) ?_
      refine wrN (G.tg 1) (G.ln 1 (n := 4000)) ⟨by omega, by omega⟩ (fun z4_13 hz4_13 => ?_)
      have rz4_13 : inR z4_13 := hz4_13 ▸ G.ir _ _
      refine cl_U (s_isNameSign (by omega) G) (fun z7_15 rz7_15 fz7_15 => ?_)
      refine sf_if (fun c16 => ?_) (fun c16 => ?_)
      · unfold pc_X7_nameToken_33
        refine wgN (G.tg 19) (fun z1_17 hz1_17 => ?_)
        have fz1_17 := G.nu 19 8
        have rz1_17 : inR z1_17 := hz1_17 ▸ G.ir _ _
        refine wck ⟨by omega, by omega⟩ (fun z2_18 hz2_18 => ?_)
        refine wpN (G.tg 19) (fun s19 ws19 => ?_)
        obtain ⟨Gs19, es19, Rs19, Fs19, Vs19⟩ := P0 G R ws19 (by decide) (by first | assumption | exact inR_of _ | exact ⟨by omega, by omega⟩) (by intro lo hi q; cases q <;> omega)
        have E20 := (Ext.refl (b := b) (σ := σ)).trans es19
        have V3 := Vs19
        have F3 := Fs19
        have q3 := Fs19 (b + 19) 8 (Or.inr (by decide))
        refine wtN (Gs19.tg 19) ?_
        refine cl_U (s_wordNumber (by omega) Gs19 (by omega)) (fun z6_22 rz6_22 fz6_22 => ?_)
        refine sf_if (fun c23 => ?_) (fun c23 => ?_)
        · refine wgN (Gs19.tg 19) (fun z8_24 hz8_24 => ?_)
          have fz8_24 := Gs19.nu 19 9
          have rz8_24 : inR z8_24 := hz8_24 ▸ Gs19.ir _ _
          refine sf_if (fun c25 => ?_) (fun c25 => ?_)
          · exact ret_Z ⟨by decide, by decide⟩ Gs19 E20 (Rs19.le (by omega) (by omega) (by omega) (by omega)) (by first | trivial | assumption | omega | (dsimp only; omega) | exact ⟨by omega, ⟨by omega, by omega⟩, F3⟩)
          · exact ret_Z ⟨by decide, by decide⟩ Gs19 E20 (Rs19.le (by omega) (by omega) (by omega) (by omega)) (by first | trivial | assumption | omega | (dsimp only; omega) | exact ⟨by omega, ⟨by omega, by omega⟩, F3⟩)
        · exact ret_Z (by first | assumption | exact inR_of _ | exact ⟨by omega, by omega⟩) Gs19 E20 (Rs19.le (by omega) (by omega) (by omega) (by omega)) (by first | trivial | assumption | omega | (dsimp only; omega) | exact ⟨by omega, ⟨by omega, by omega⟩, F3⟩)
      · refine wck ⟨by omega, by omega⟩ (fun z9_26 hz9_26 => ?_)
        exact ih G R (by omega) (by omega) (by omega)
theorem s_nameToken (hd : 10 ≤ d) (G : GG bd b σ) (R : RR bd b σ (k) (s) (o) (z)) (h8 : c_pv σ (b + 19) 8 < c_pv σ (b + 19) 5) : sf (RC bd d 122 σ [((b + 19 : Nat) : Int)]) (PZ bd b σ k s o z (fun σ' r => (0 ≤ r ∧ r ≤ 260) ∧ (1 ≤ c_pv σ' (b + 19) 9 ∧ c_pv σ (b + 19) 8 + c_pv σ' (b + 19) 9 ≤ c_pv σ (b + 19) 5) ∧ ∀ a g, (a ≠ b + 19 ∨ g ≠ 9) → c_pv σ' a g = c_pv σ a g)) := by
  obtain ⟨d, rfl⟩ : ∃ d0, d = d0 + 1 := ⟨d - 1, by omega⟩
  rw [rc_X7_nameToken (by omega)]
  refine fin_Z ?_
  unfold pc_X7_nameToken_0
  refine wgN (G.tg 19) (fun z1_1 hz1_1 => ?_)
  have fz1_1 := G.nu 19 8
  have rz1_1 : inR z1_1 := hz1_1 ▸ G.ir _ _
  refine wck ⟨by omega, by omega⟩ (fun z2_2 hz2_2 => ?_)
  have n5 := G.nu 19 5
  exact s_nameToken7 (by omega) _ G R (by omega) (by omega) ⟨by omega, by decide⟩
theorem s_signToken (hd : 6 ≤ d) (G : GG bd b σ) (R : RR bd b σ (k) (s) (o) (z)) {x : Int} (h8 : c_pv σ (b + 19) 8 < c_pv σ (b + 19) 5) (h9 : c_pv σ (b + 19) 9 = 1) : sf (RC bd d 128 σ [((b + 19 : Nat) : Int), x]) (PZ bd b σ k s o z (fun σ' r => (0 ≤ r ∧ r ≤ 260) ∧ (1 ≤ c_pv σ' (b + 19) 9 ∧ c_pv σ (b + 19) 8 + c_pv σ' (b + 19) 9 ≤ c_pv σ (b + 19) 5) ∧ ∀ a g, (a ≠ b + 19 ∨ g ≠ 9) → c_pv σ' a g = c_pv σ a g)) := by
  obtain ⟨d, rfl⟩ : ∃ d0, d = d0 + 1 := ⟨d - 1, by omega⟩
  rw [rc_X7_signToken (by omega)]
  refine fin_Z ?_
  unfold pc_X7_signToken_0
  refine wgN (G.tg 19) (fun z1_1 hz1_1 => ?_)
  have fz1_1 := G.nu 19 8
  have rz1_1 : inR z1_1 := hz1_1 ▸ G.ir _ _
  refine wck ⟨by omega, by omega⟩ (fun z2_2 hz2_2 => ?_)
  refine wgN (G.tg 19) (fun z3_3 hz3_3 => ?_)
  have fz3_3 := G.nu 19 5
  have rz3_3 : inR z3_3 := hz3_3 ▸ G.ir _ _
  refine sf_if (fun c4 => ?_) (fun c4 => ?_)
  · unfold pc_X7_signToken_28
    refine sf_if (fun c5 => ?_) (fun c5 => ?_)
    · unfold pc_X7_signToken_50
      refine sf_if (fun c6 => ?_) (fun c6 => ?_)
      · unfold pc_X7_signToken_71
        refine sf_if (fun c7 => ?_) (fun c7 => ?_)
        · exact ret_Z (by first | assumption | exact inR_of _ | exact ⟨by omega, by omega⟩) G (Ext.refl (b := b) (σ := σ)) (R.le (by omega) (by omega) (by omega) (by omega)) (by first | trivial | assumption | omega | (dsimp only; omega) | exact ⟨by omega, ⟨by omega, by omega⟩, fun _ _ _ => rfl⟩ | exact ⟨by omega, ⟨by omega, by omega⟩, F3⟩)
        · refine sf_if (fun c8 => ?_) (fun c8 => ?_)
          · exact ret_Z (by first | assumption | exact inR_of _ | exact ⟨by omega, by omega⟩) G (Ext.refl (b := b) (σ := σ)) (R.le (by omega) (by omega) (by omega) (by omega)) (by first | trivial | assumption | omega | (dsimp only; omega) | exact ⟨by omega, ⟨by omega, by omega⟩, fun _ _ _ => rfl⟩ | exact ⟨by omega, ⟨by omega, by omega⟩, F3⟩)
          · refine sf_if (fun c9 => ?_) (fun c9 => ?_)
            · exact ret_Z (by first | assumption | exact inR_of _ | exact ⟨by omega, by omega⟩) G (Ext.refl (b := b) (σ := σ)) (R.le (by omega) (by omega) (by omega) (by omega)) (by first | trivial | assumption | omega | (dsimp only; omega) | exact ⟨by omega, ⟨by omega, by omega⟩, fun _ _ _ => rfl⟩ | exact ⟨by omega, ⟨by omega, by omega⟩, F3⟩)
            · refine sf_if (fun c10 => ?_) (fun c10 => ?_)
              · exact ret_Z (by first | assumption | exact inR_of _ | exact ⟨by omega, by omega⟩) G (Ext.refl (b := b) (σ := σ)) (R.le (by omega) (by omega) (by omega) (by omega)) (by first | trivial | assumption | omega | (dsimp only; omega) | exact ⟨by omega, ⟨by omega, by omega⟩, fun _ _ _ => rfl⟩ | exact ⟨by omega, ⟨by omega, by omega⟩, F3⟩)
              · refine sf_if (fun c11 => ?_) (fun c11 => ?_)
                · exact ret_Z (by first | assumption | exact inR_of _ | exact ⟨by omega, by omega⟩) G (Ext.refl (b := b) (σ := σ)) (R.le (by omega) (by omega) (by omega) (by omega)) (by first | trivial | assumption | omega | (dsimp only; omega) | exact ⟨by omega, ⟨by omega, by omega⟩, fun _ _ _ => rfl⟩ | exact ⟨by omega, ⟨by omega, by omega⟩, F3⟩)
                · refine sf_if (fun c12 => ?_) (fun c12 => ?_)
                  · exact ret_Z (by first | assumption | exact inR_of _ | exact ⟨by omega, by omega⟩) G (Ext.refl (b := b) (σ := σ)) (R.le (by omega) (by omega) (by omega) (by omega)) (by first | trivial | assumption | omega | (dsimp only; omega) | exact ⟨by omega, ⟨by omega, by omega⟩, fun _ _ _ => rfl⟩ | exact ⟨by omega, ⟨by omega, by omega⟩, F3⟩)
                  · refine sf_if (fun c13 => ?_) (fun c13 => ?_)
                    · exact ret_Z (by first | assumption | exact inR_of _ | exact ⟨by omega, by omega⟩) G (Ext.refl (b := b) (σ := σ)) (R.le (by omega) (by omega) (by omega) (by omega)) (by first | trivial | assumption | omega | (dsimp only; omega) | exact ⟨by omega, ⟨by omega, by omega⟩, fun _ _ _ => rfl⟩ | exact ⟨by omega, ⟨by omega, by omega⟩, F3⟩)
                    · refine sf_if (fun c14 => ?_) (fun c14 => ?_)
                      · exact ret_Z (by first | assumption | exact inR_of _ | exact ⟨by omega, by omega⟩) G (Ext.refl (b := b) (σ := σ)) (R.le (by omega) (by omega) (by omega) (by omega)) (by first | trivial | assumption | omega | (dsimp only; omega) | exact ⟨by omega, ⟨by omega, by omega⟩, fun _ _ _ => rfl⟩ | exact ⟨by omega, ⟨by omega, by omega⟩, F3⟩)
                      · refine sf_if (fun c15 => ?_) (fun c15 => ?_)
                        · exact ret_Z (by first | assumption | exact inR_of _ | exact ⟨by omega, by omega⟩) G (Ext.refl (b := b) (σ := σ)) (R.le (by omega) (by omega) (by omega) (by omega)) (by first | trivial | assumption | omega | (dsimp only; omega) | exact ⟨by omega, ⟨by omega, by omega⟩, fun _ _ _ => rfl⟩ | exact ⟨by omega, ⟨by omega, by omega⟩, F3⟩)
                        · exact ret_Z ⟨by decide, by decide⟩ G (Ext.refl (b := b) (σ := σ)) (R.le (by omega) (by omega) (by omega) (by omega)) (by first | trivial | assumption | omega | (dsimp only; omega) | exact ⟨by omega, ⟨by omega, by omega⟩, fun _ _ _ => rfl⟩ | exact ⟨by omega, ⟨by omega, by omega⟩, F3⟩)
      · refine sf_if (fun c16 => ?_) (fun c16 => ?_)
        · unfold pc_X7_signToken_71
          refine sf_if (fun c17 => ?_) (fun c17 => ?_)
          · exact ret_Z (by first | assumption | exact inR_of _ | exact ⟨by omega, by omega⟩) G (Ext.refl (b := b) (σ := σ)) (R.le (by omega) (by omega) (by omega) (by omega)) (by first | trivial | assumption | omega | (dsimp only; omega) | exact ⟨by omega, ⟨by omega, by omega⟩, fun _ _ _ => rfl⟩ | exact ⟨by omega, ⟨by omega, by omega⟩, F3⟩)
          · refine sf_if (fun c18 => ?_) (fun c18 => ?_)
            · exact ret_Z (by first | assumption | exact inR_of _ | exact ⟨by omega, by omega⟩) G (Ext.refl (b := b) (σ := σ)) (R.le (by omega) (by omega) (by omega) (by omega)) (by first | trivial | assumption | omega | (dsimp only; omega) | exact ⟨by omega, ⟨by omega, by omega⟩, fun _ _ _ => rfl⟩ | exact ⟨by omega, ⟨by omega, by omega⟩, F3⟩)
            · refine sf_if (fun c19 => ?_) (fun c19 => ?_)
              · exact ret_Z (by first | assumption | exact inR_of _ | exact ⟨by omega, by omega⟩) G (Ext.refl (b := b) (σ := σ)) (R.le (by omega) (by omega) (by omega) (by omega)) (by first | trivial | assumption | omega | (dsimp only; omega) | exact ⟨by omega, ⟨by omega, by omega⟩, fun _ _ _ => rfl⟩ | exact ⟨by omega, ⟨by omega, by omega⟩, F3⟩)
              · refine sf_if (fun c20 => ?_) (fun c20 => ?_)
                · exact ret_Z (by first | assumption | exact inR_of _ | exact ⟨by omega, by omega⟩) G (Ext.refl (b := b) (σ := σ)) (R.le (by omega) (by omega) (by omega) (by omega)) (by first | trivial | assumption | omega | (dsimp only; omega) | exact ⟨by omega, ⟨by omega, by omega⟩, fun _ _ _ => rfl⟩ | exact ⟨by omega, ⟨by omega, by omega⟩, F3⟩)
                · refine sf_if (fun c21 => ?_) (fun c21 => ?_)
                  · exact ret_Z (by first | assumption | exact inR_of _ | exact ⟨by omega, by omega⟩) G (Ext.refl (b := b) (σ := σ)) (R.le (by omega) (by omega) (by omega) (by omega)) (by first | trivial | assumption | omega | (dsimp only; omega) | exact ⟨by omega, ⟨by omega, by omega⟩, fun _ _ _ => rfl⟩ | exact ⟨by omega, ⟨by omega, by omega⟩, F3⟩)
                  · refine sf_if (fun c22 => ?_) (fun c22 => ?_)
                    · exact ret_Z (by first | assumption | exact inR_of _ | exact ⟨by omega, by omega⟩) G (Ext.refl (b := b) (σ := σ)) (R.le (by omega) (by omega) (by omega) (by omega)) (by first | trivial | assumption | omega | (dsimp only; omega) | exact ⟨by omega, ⟨by omega, by omega⟩, fun _ _ _ => rfl⟩ | exact ⟨by omega, ⟨by omega, by omega⟩, F3⟩)
                    · refine sf_if (fun c23 => ?_) (fun c23 => ?_)
                      · exact ret_Z (by first | assumption | exact inR_of _ | exact ⟨by omega, by omega⟩) G (Ext.refl (b := b) (σ := σ)) (R.le (by omega) (by omega) (by omega) (by omega)) (by first | trivial | assumption | omega | (dsimp only; omega) | exact ⟨by omega, ⟨by omega, by omega⟩, fun _ _ _ => rfl⟩ | exact ⟨by omega, ⟨by omega, by omega⟩, F3⟩)
                      · refine sf_if (fun c24 => ?_) (fun c24 => ?_)
                        · exact ret_Z (by first | assumption | exact inR_of _ | exact ⟨by omega, by omega⟩) G (Ext.refl (b := b) (σ := σ)) (R.le (by omega) (by omega) (by omega) (by omega)) (by first | trivial | assumption | omega | (dsimp only; omega) | exact ⟨by omega, ⟨by omega, by omega⟩, fun _ _ _ => rfl⟩ | exact ⟨by omega, ⟨by omega, by omega⟩, F3⟩)
                        · refine sf_if (fun c25 => ?_) (fun c25 => ?_)
                          · exact ret_Z (by first | assumption | exact inR_of _ | exact ⟨by omega, by omega⟩) G (Ext.refl (b := b) (σ := σ)) (R.le (by omega) (by omega) (by omega) (by omega)) (by first | trivial | assumption | omega | (dsimp only; omega) | exact ⟨by omega, ⟨by omega, by omega⟩, fun _ _ _ => rfl⟩ | exact ⟨by omega, ⟨by omega, by omega⟩, F3⟩)
                          · exact ret_Z ⟨by decide, by decide⟩ G (Ext.refl (b := b) (σ := σ)) (R.le (by omega) (by omega) (by omega) (by omega)) (by first | trivial | assumption | omega | (dsimp only; omega) | exact ⟨by omega, ⟨by omega, by omega⟩, fun _ _ _ => rfl⟩ | exact ⟨by omega, ⟨by omega, by omega⟩, F3⟩)
        · refine wpN (G.tg 19) (fun s26 ws26 => ?_)
          obtain ⟨Gs26, es26, Rs26, Fs26, Vs26⟩ := P0 G R ws26 (by decide) ⟨by decide, by decide⟩ (by intro lo hi q; cases q <;> omega)
          have E27 := (Ext.refl (b := b) (σ := σ)).trans es26
          have F3 := Fs26
          have V3 := Vs26
          exact ret_Z ⟨by decide, by decide⟩ Gs26 E27 (Rs26.le (by omega) (by omega) (by omega) (by omega)) (by first | trivial | assumption | omega | (dsimp only; omega) | exact ⟨by omega, ⟨by omega, by omega⟩, fun _ _ _ => rfl⟩ | exact ⟨by omega, ⟨by omega, by omega⟩, F3⟩)
    · refine sf_if (fun c28 => ?_) (fun c28 => ?_)
      · unfold pc_X7_signToken_50
        refine sf_if (fun c29 => ?_) (fun c29 => ?_)
        · unfold pc_X7_signToken_71
          refine sf_if (fun c30 => ?_) (fun c30 => ?_)
          · exact ret_Z (by first | assumption | exact inR_of _ | exact ⟨by omega, by omega⟩) G (Ext.refl (b := b) (σ := σ)) (R.le (by omega) (by omega) (by omega) (by omega)) (by first | trivial | assumption | omega | (dsimp only; omega) | exact ⟨by omega, ⟨by omega, by omega⟩, fun _ _ _ => rfl⟩ | exact ⟨by omega, ⟨by omega, by omega⟩, F3⟩)
          · refine sf_if (fun c31 => ?_) (fun c31 => ?_)
            · exact ret_Z (by first | assumption | exact inR_of _ | exact ⟨by omega, by omega⟩) G (Ext.refl (b := b) (σ := σ)) (R.le (by omega) (by omega) (by omega) (by omega)) (by first | trivial | assumption | omega | (dsimp only; omega) | exact ⟨by omega, ⟨by omega, by omega⟩, fun _ _ _ => rfl⟩ | exact ⟨by omega, ⟨by omega, by omega⟩, F3⟩)
            · refine sf_if (fun c32 => ?_) (fun c32 => ?_)
              · exact ret_Z (by first | assumption | exact inR_of _ | exact ⟨by omega, by omega⟩) G (Ext.refl (b := b) (σ := σ)) (R.le (by omega) (by omega) (by omega) (by omega)) (by first | trivial | assumption | omega | (dsimp only; omega) | exact ⟨by omega, ⟨by omega, by omega⟩, fun _ _ _ => rfl⟩ | exact ⟨by omega, ⟨by omega, by omega⟩, F3⟩)
              · refine sf_if (fun c33 => ?_) (fun c33 => ?_)
                · exact ret_Z (by first | assumption | exact inR_of _ | exact ⟨by omega, by omega⟩) G (Ext.refl (b := b) (σ := σ)) (R.le (by omega) (by omega) (by omega) (by omega)) (by first | trivial | assumption | omega | (dsimp only; omega) | exact ⟨by omega, ⟨by omega, by omega⟩, fun _ _ _ => rfl⟩ | exact ⟨by omega, ⟨by omega, by omega⟩, F3⟩)
                · refine sf_if (fun c34 => ?_) (fun c34 => ?_)
                  · exact ret_Z (by first | assumption | exact inR_of _ | exact ⟨by omega, by omega⟩) G (Ext.refl (b := b) (σ := σ)) (R.le (by omega) (by omega) (by omega) (by omega)) (by first | trivial | assumption | omega | (dsimp only; omega) | exact ⟨by omega, ⟨by omega, by omega⟩, fun _ _ _ => rfl⟩ | exact ⟨by omega, ⟨by omega, by omega⟩, F3⟩)
                  · refine sf_if (fun c35 => ?_) (fun c35 => ?_)
                    · exact ret_Z (by first | assumption | exact inR_of _ | exact ⟨by omega, by omega⟩) G (Ext.refl (b := b) (σ := σ)) (R.le (by omega) (by omega) (by omega) (by omega)) (by first | trivial | assumption | omega | (dsimp only; omega) | exact ⟨by omega, ⟨by omega, by omega⟩, fun _ _ _ => rfl⟩ | exact ⟨by omega, ⟨by omega, by omega⟩, F3⟩)
                    · refine sf_if (fun c36 => ?_) (fun c36 => ?_)
                      · exact ret_Z (by first | assumption | exact inR_of _ | exact ⟨by omega, by omega⟩) G (Ext.refl (b := b) (σ := σ)) (R.le (by omega) (by omega) (by omega) (by omega)) (by first | trivial | assumption | omega | (dsimp only; omega) | exact ⟨by omega, ⟨by omega, by omega⟩, fun _ _ _ => rfl⟩ | exact ⟨by omega, ⟨by omega, by omega⟩, F3⟩)
                      · refine sf_if (fun c37 => ?_) (fun c37 => ?_)
                        · exact ret_Z (by first | assumption | exact inR_of _ | exact ⟨by omega, by omega⟩) G (Ext.refl (b := b) (σ := σ)) (R.le (by omega) (by omega) (by omega) (by omega)) (by first | trivial | assumption | omega | (dsimp only; omega) | exact ⟨by omega, ⟨by omega, by omega⟩, fun _ _ _ => rfl⟩ | exact ⟨by omega, ⟨by omega, by omega⟩, F3⟩)
                        · refine sf_if (fun c38 => ?_) (fun c38 => ?_)
                          · exact ret_Z (by first | assumption | exact inR_of _ | exact ⟨by omega, by omega⟩) G (Ext.refl (b := b) (σ := σ)) (R.le (by omega) (by omega) (by omega) (by omega)) (by first | trivial | assumption | omega | (dsimp only; omega) | exact ⟨by omega, ⟨by omega, by omega⟩, fun _ _ _ => rfl⟩ | exact ⟨by omega, ⟨by omega, by omega⟩, F3⟩)
                          · exact ret_Z ⟨by decide, by decide⟩ G (Ext.refl (b := b) (σ := σ)) (R.le (by omega) (by omega) (by omega) (by omega)) (by first | trivial | assumption | omega | (dsimp only; omega) | exact ⟨by omega, ⟨by omega, by omega⟩, fun _ _ _ => rfl⟩ | exact ⟨by omega, ⟨by omega, by omega⟩, F3⟩)
        · refine sf_if (fun c39 => ?_) (fun c39 => ?_)
          · unfold pc_X7_signToken_71
            refine sf_if (fun c40 => ?_) (fun c40 => ?_)
            · exact ret_Z (by first | assumption | exact inR_of _ | exact ⟨by omega, by omega⟩) G (Ext.refl (b := b) (σ := σ)) (R.le (by omega) (by omega) (by omega) (by omega)) (by first | trivial | assumption | omega | (dsimp only; omega) | exact ⟨by omega, ⟨by omega, by omega⟩, fun _ _ _ => rfl⟩ | exact ⟨by omega, ⟨by omega, by omega⟩, F3⟩)
            · refine sf_if (fun c41 => ?_) (fun c41 => ?_)
              · exact ret_Z (by first | assumption | exact inR_of _ | exact ⟨by omega, by omega⟩) G (Ext.refl (b := b) (σ := σ)) (R.le (by omega) (by omega) (by omega) (by omega)) (by first | trivial | assumption | omega | (dsimp only; omega) | exact ⟨by omega, ⟨by omega, by omega⟩, fun _ _ _ => rfl⟩ | exact ⟨by omega, ⟨by omega, by omega⟩, F3⟩)
              · refine sf_if (fun c42 => ?_) (fun c42 => ?_)
                · exact ret_Z (by first | assumption | exact inR_of _ | exact ⟨by omega, by omega⟩) G (Ext.refl (b := b) (σ := σ)) (R.le (by omega) (by omega) (by omega) (by omega)) (by first | trivial | assumption | omega | (dsimp only; omega) | exact ⟨by omega, ⟨by omega, by omega⟩, fun _ _ _ => rfl⟩ | exact ⟨by omega, ⟨by omega, by omega⟩, F3⟩)
                · refine sf_if (fun c43 => ?_) (fun c43 => ?_)
                  · exact ret_Z (by first | assumption | exact inR_of _ | exact ⟨by omega, by omega⟩) G (Ext.refl (b := b) (σ := σ)) (R.le (by omega) (by omega) (by omega) (by omega)) (by first | trivial | assumption | omega | (dsimp only; omega) | exact ⟨by omega, ⟨by omega, by omega⟩, fun _ _ _ => rfl⟩ | exact ⟨by omega, ⟨by omega, by omega⟩, F3⟩)
                  · refine sf_if (fun c44 => ?_) (fun c44 => ?_)
                    · exact ret_Z (by first | assumption | exact inR_of _ | exact ⟨by omega, by omega⟩) G (Ext.refl (b := b) (σ := σ)) (R.le (by omega) (by omega) (by omega) (by omega)) (by first | trivial | assumption | omega | (dsimp only; omega) | exact ⟨by omega, ⟨by omega, by omega⟩, fun _ _ _ => rfl⟩ | exact ⟨by omega, ⟨by omega, by omega⟩, F3⟩)
                    · refine sf_if (fun c45 => ?_) (fun c45 => ?_)
                      · exact ret_Z (by first | assumption | exact inR_of _ | exact ⟨by omega, by omega⟩) G (Ext.refl (b := b) (σ := σ)) (R.le (by omega) (by omega) (by omega) (by omega)) (by first | trivial | assumption | omega | (dsimp only; omega) | exact ⟨by omega, ⟨by omega, by omega⟩, fun _ _ _ => rfl⟩ | exact ⟨by omega, ⟨by omega, by omega⟩, F3⟩)
                      · refine sf_if (fun c46 => ?_) (fun c46 => ?_)
                        · exact ret_Z (by first | assumption | exact inR_of _ | exact ⟨by omega, by omega⟩) G (Ext.refl (b := b) (σ := σ)) (R.le (by omega) (by omega) (by omega) (by omega)) (by first | trivial | assumption | omega | (dsimp only; omega) | exact ⟨by omega, ⟨by omega, by omega⟩, fun _ _ _ => rfl⟩ | exact ⟨by omega, ⟨by omega, by omega⟩, F3⟩)
                        · refine sf_if (fun c47 => ?_) (fun c47 => ?_)
                          · exact ret_Z (by first | assumption | exact inR_of _ | exact ⟨by omega, by omega⟩) G (Ext.refl (b := b) (σ := σ)) (R.le (by omega) (by omega) (by omega) (by omega)) (by first | trivial | assumption | omega | (dsimp only; omega) | exact ⟨by omega, ⟨by omega, by omega⟩, fun _ _ _ => rfl⟩ | exact ⟨by omega, ⟨by omega, by omega⟩, F3⟩)
                          · refine sf_if (fun c48 => ?_) (fun c48 => ?_)
                            · exact ret_Z (by first | assumption | exact inR_of _ | exact ⟨by omega, by omega⟩) G (Ext.refl (b := b) (σ := σ)) (R.le (by omega) (by omega) (by omega) (by omega)) (by first | trivial | assumption | omega | (dsimp only; omega) | exact ⟨by omega, ⟨by omega, by omega⟩, fun _ _ _ => rfl⟩ | exact ⟨by omega, ⟨by omega, by omega⟩, F3⟩)
                            · exact ret_Z ⟨by decide, by decide⟩ G (Ext.refl (b := b) (σ := σ)) (R.le (by omega) (by omega) (by omega) (by omega)) (by first | trivial | assumption | omega | (dsimp only; omega) | exact ⟨by omega, ⟨by omega, by omega⟩, fun _ _ _ => rfl⟩ | exact ⟨by omega, ⟨by omega, by omega⟩, F3⟩)
          · refine wpN (G.tg 19) (fun s49 ws49 => ?_)
            obtain ⟨Gs49, es49, Rs49, Fs49, Vs49⟩ := P0 G R ws49 (by decide) ⟨by decide, by decide⟩ (by intro lo hi q; cases q <;> omega)
            have E50 := (Ext.refl (b := b) (σ := σ)).trans es49
            have F3 := Fs49
            have V3 := Vs49
            exact ret_Z ⟨by decide, by decide⟩ Gs49 E50 (Rs49.le (by omega) (by omega) (by omega) (by omega)) (by first | trivial | assumption | omega | (dsimp only; omega) | exact ⟨by omega, ⟨by omega, by omega⟩, fun _ _ _ => rfl⟩ | exact ⟨by omega, ⟨by omega, by omega⟩, F3⟩)
      · refine wpN (G.tg 19) (fun s51 ws51 => ?_)
        obtain ⟨Gs51, es51, Rs51, Fs51, Vs51⟩ := P0 G R ws51 (by decide) ⟨by decide, by decide⟩ (by intro lo hi q; cases q <;> omega)
        have E52 := (Ext.refl (b := b) (σ := σ)).trans es51
        have F3 := Fs51
        have V3 := Vs51
        exact ret_Z ⟨by decide, by decide⟩ Gs51 E52 (Rs51.le (by omega) (by omega) (by omega) (by omega)) (by first | trivial | assumption | omega | (dsimp only; omega) | exact ⟨by omega, ⟨by omega, by omega⟩, fun _ _ _ => rfl⟩ | exact ⟨by omega, ⟨by omega, by omega⟩, F3⟩)
  · refine wgF (G.tg 19) (G.fi 22 (i := 19) (f := 0) (j := 1)) ?_
    refine wgN (G.tg 19) (fun z6_54 hz6_54 => ?_)
    have fz6_54 := G.nu 19 8
    have rz6_54 : inR z6_54 := hz6_54 ▸ G.ir _ _
    refine wck ⟨by omega, by omega⟩ (fun z7_55 hz7_55 => ?_)
    refine wrN (G.tg 1) (G.ln 1 (n := 4000)) ⟨by omega, by omega⟩ (fun z8_56 hz8_56 => ?_)
    have rz8_56 : inR z8_56 := hz8_56 ▸ G.ir _ _
    unfold pc_X7_signToken_28
    refine sf_if (fun c57 => ?_) (fun c57 => ?_)
    · unfold pc_X7_signToken_50
      refine sf_if (fun c58 => ?_) (fun c58 => ?_)
      · unfold pc_X7_signToken_71
        refine sf_if (fun c59 => ?_) (fun c59 => ?_)
        · exact ret_Z (by first | assumption | exact inR_of _ | exact ⟨by omega, by omega⟩) G (Ext.refl (b := b) (σ := σ)) (R.le (by omega) (by omega) (by omega) (by omega)) (by first | trivial | assumption | omega | (dsimp only; omega) | exact ⟨by omega, ⟨by omega, by omega⟩, fun _ _ _ => rfl⟩ | exact ⟨by omega, ⟨by omega, by omega⟩, F3⟩)
        · refine sf_if (fun c60 => ?_) (fun c60 => ?_)
          · exact ret_Z (by first | assumption | exact inR_of _ | exact ⟨by omega, by omega⟩) G (Ext.refl (b := b) (σ := σ)) (R.le (by omega) (by omega) (by omega) (by omega)) (by first | trivial | assumption | omega | (dsimp only; omega) | exact ⟨by omega, ⟨by omega, by omega⟩, fun _ _ _ => rfl⟩ | exact ⟨by omega, ⟨by omega, by omega⟩, F3⟩)
          · refine sf_if (fun c61 => ?_) (fun c61 => ?_)
            · exact ret_Z (by first | assumption | exact inR_of _ | exact ⟨by omega, by omega⟩) G (Ext.refl (b := b) (σ := σ)) (R.le (by omega) (by omega) (by omega) (by omega)) (by first | trivial | assumption | omega | (dsimp only; omega) | exact ⟨by omega, ⟨by omega, by omega⟩, fun _ _ _ => rfl⟩ | exact ⟨by omega, ⟨by omega, by omega⟩, F3⟩)
            · refine sf_if (fun c62 => ?_) (fun c62 => ?_)
              · exact ret_Z (by first | assumption | exact inR_of _ | exact ⟨by omega, by omega⟩) G (Ext.refl (b := b) (σ := σ)) (R.le (by omega) (by omega) (by omega) (by omega)) (by first | trivial | assumption | omega | (dsimp only; omega) | exact ⟨by omega, ⟨by omega, by omega⟩, fun _ _ _ => rfl⟩ | exact ⟨by omega, ⟨by omega, by omega⟩, F3⟩)
              · refine sf_if (fun c63 => ?_) (fun c63 => ?_)
                · exact ret_Z (by first | assumption | exact inR_of _ | exact ⟨by omega, by omega⟩) G (Ext.refl (b := b) (σ := σ)) (R.le (by omega) (by omega) (by omega) (by omega)) (by first | trivial | assumption | omega | (dsimp only; omega) | exact ⟨by omega, ⟨by omega, by omega⟩, fun _ _ _ => rfl⟩ | exact ⟨by omega, ⟨by omega, by omega⟩, F3⟩)
                · refine sf_if (fun c64 => ?_) (fun c64 => ?_)
                  · exact ret_Z (by first | assumption | exact inR_of _ | exact ⟨by omega, by omega⟩) G (Ext.refl (b := b) (σ := σ)) (R.le (by omega) (by omega) (by omega) (by omega)) (by first | trivial | assumption | omega | (dsimp only; omega) | exact ⟨by omega, ⟨by omega, by omega⟩, fun _ _ _ => rfl⟩ | exact ⟨by omega, ⟨by omega, by omega⟩, F3⟩)
                  · refine sf_if (fun c65 => ?_) (fun c65 => ?_)
                    · exact ret_Z (by first | assumption | exact inR_of _ | exact ⟨by omega, by omega⟩) G (Ext.refl (b := b) (σ := σ)) (R.le (by omega) (by omega) (by omega) (by omega)) (by first | trivial | assumption | omega | (dsimp only; omega) | exact ⟨by omega, ⟨by omega, by omega⟩, fun _ _ _ => rfl⟩ | exact ⟨by omega, ⟨by omega, by omega⟩, F3⟩)
                    · refine sf_if (fun c66 => ?_) (fun c66 => ?_)
                      · exact ret_Z (by first | assumption | exact inR_of _ | exact ⟨by omega, by omega⟩) G (Ext.refl (b := b) (σ := σ)) (R.le (by omega) (by omega) (by omega) (by omega)) (by first | trivial | assumption | omega | (dsimp only; omega) | exact ⟨by omega, ⟨by omega, by omega⟩, fun _ _ _ => rfl⟩ | exact ⟨by omega, ⟨by omega, by omega⟩, F3⟩)
                      · refine sf_if (fun c67 => ?_) (fun c67 => ?_)
                        · exact ret_Z (by first | assumption | exact inR_of _ | exact ⟨by omega, by omega⟩) G (Ext.refl (b := b) (σ := σ)) (R.le (by omega) (by omega) (by omega) (by omega)) (by first | trivial | assumption | omega | (dsimp only; omega) | exact ⟨by omega, ⟨by omega, by omega⟩, fun _ _ _ => rfl⟩ | exact ⟨by omega, ⟨by omega, by omega⟩, F3⟩)
                        · exact ret_Z ⟨by decide, by decide⟩ G (Ext.refl (b := b) (σ := σ)) (R.le (by omega) (by omega) (by omega) (by omega)) (by first | trivial | assumption | omega | (dsimp only; omega) | exact ⟨by omega, ⟨by omega, by omega⟩, fun _ _ _ => rfl⟩ | exact ⟨by omega, ⟨by omega, by omega⟩, F3⟩)
      · refine sf_if (fun c68 => ?_) (fun c68 => ?_)
        · unfold pc_X7_signToken_71
          refine sf_if (fun c69 => ?_) (fun c69 => ?_)
          · exact ret_Z (by first | assumption | exact inR_of _ | exact ⟨by omega, by omega⟩) G (Ext.refl (b := b) (σ := σ)) (R.le (by omega) (by omega) (by omega) (by omega)) (by first | trivial | assumption | omega | (dsimp only; omega) | exact ⟨by omega, ⟨by omega, by omega⟩, fun _ _ _ => rfl⟩ | exact ⟨by omega, ⟨by omega, by omega⟩, F3⟩)
          · refine sf_if (fun c70 => ?_) (fun c70 => ?_)
            · exact ret_Z (by first | assumption | exact inR_of _ | exact ⟨by omega, by omega⟩) G (Ext.refl (b := b) (σ := σ)) (R.le (by omega) (by omega) (by omega) (by omega)) (by first | trivial | assumption | omega | (dsimp only; omega) | exact ⟨by omega, ⟨by omega, by omega⟩, fun _ _ _ => rfl⟩ | exact ⟨by omega, ⟨by omega, by omega⟩, F3⟩)
            · refine sf_if (fun c71 => ?_) (fun c71 => ?_)
              · exact ret_Z (by first | assumption | exact inR_of _ | exact ⟨by omega, by omega⟩) G (Ext.refl (b := b) (σ := σ)) (R.le (by omega) (by omega) (by omega) (by omega)) (by first | trivial | assumption | omega | (dsimp only; omega) | exact ⟨by omega, ⟨by omega, by omega⟩, fun _ _ _ => rfl⟩ | exact ⟨by omega, ⟨by omega, by omega⟩, F3⟩)
              · refine sf_if (fun c72 => ?_) (fun c72 => ?_)
                · exact ret_Z (by first | assumption | exact inR_of _ | exact ⟨by omega, by omega⟩) G (Ext.refl (b := b) (σ := σ)) (R.le (by omega) (by omega) (by omega) (by omega)) (by first | trivial | assumption | omega | (dsimp only; omega) | exact ⟨by omega, ⟨by omega, by omega⟩, fun _ _ _ => rfl⟩ | exact ⟨by omega, ⟨by omega, by omega⟩, F3⟩)
                · refine sf_if (fun c73 => ?_) (fun c73 => ?_)
                  · exact ret_Z (by first | assumption | exact inR_of _ | exact ⟨by omega, by omega⟩) G (Ext.refl (b := b) (σ := σ)) (R.le (by omega) (by omega) (by omega) (by omega)) (by first | trivial | assumption | omega | (dsimp only; omega) | exact ⟨by omega, ⟨by omega, by omega⟩, fun _ _ _ => rfl⟩ | exact ⟨by omega, ⟨by omega, by omega⟩, F3⟩)
                  · refine sf_if (fun c74 => ?_) (fun c74 => ?_)
                    · exact ret_Z (by first | assumption | exact inR_of _ | exact ⟨by omega, by omega⟩) G (Ext.refl (b := b) (σ := σ)) (R.le (by omega) (by omega) (by omega) (by omega)) (by first | trivial | assumption | omega | (dsimp only; omega) | exact ⟨by omega, ⟨by omega, by omega⟩, fun _ _ _ => rfl⟩ | exact ⟨by omega, ⟨by omega, by omega⟩, F3⟩)
                    · refine sf_if (fun c75 => ?_) (fun c75 => ?_)
                      · exact ret_Z (by first | assumption | exact inR_of _ | exact ⟨by omega, by omega⟩) G (Ext.refl (b := b) (σ := σ)) (R.le (by omega) (by omega) (by omega) (by omega)) (by first | trivial | assumption | omega | (dsimp only; omega) | exact ⟨by omega, ⟨by omega, by omega⟩, fun _ _ _ => rfl⟩ | exact ⟨by omega, ⟨by omega, by omega⟩, F3⟩)
                      · refine sf_if (fun c76 => ?_) (fun c76 => ?_)
                        · exact ret_Z (by first | assumption | exact inR_of _ | exact ⟨by omega, by omega⟩) G (Ext.refl (b := b) (σ := σ)) (R.le (by omega) (by omega) (by omega) (by omega)) (by first | trivial | assumption | omega | (dsimp only; omega) | exact ⟨by omega, ⟨by omega, by omega⟩, fun _ _ _ => rfl⟩ | exact ⟨by omega, ⟨by omega, by omega⟩, F3⟩)
                        · refine sf_if (fun c77 => ?_) (fun c77 => ?_)
                          · exact ret_Z (by first | assumption | exact inR_of _ | exact ⟨by omega, by omega⟩) G (Ext.refl (b := b) (σ := σ)) (R.le (by omega) (by omega) (by omega) (by omega)) (by first | trivial | assumption | omega | (dsimp only; omega) | exact ⟨by omega, ⟨by omega, by omega⟩, fun _ _ _ => rfl⟩ | exact ⟨by omega, ⟨by omega, by omega⟩, F3⟩)
                          · exact ret_Z ⟨by decide, by decide⟩ G (Ext.refl (b := b) (σ := σ)) (R.le (by omega) (by omega) (by omega) (by omega)) (by first | trivial | assumption | omega | (dsimp only; omega) | exact ⟨by omega, ⟨by omega, by omega⟩, fun _ _ _ => rfl⟩ | exact ⟨by omega, ⟨by omega, by omega⟩, F3⟩)
        · refine wpN (G.tg 19) (fun s78 ws78 => ?_)
          obtain ⟨Gs78, es78, Rs78, Fs78, Vs78⟩ := P0 G R ws78 (by decide) ⟨by decide, by decide⟩ (by intro lo hi q; cases q <;> omega)
          have E79 := (Ext.refl (b := b) (σ := σ)).trans es78
          have F3 := Fs78
          have V3 := Vs78
          exact ret_Z ⟨by decide, by decide⟩ Gs78 E79 (Rs78.le (by omega) (by omega) (by omega) (by omega)) (by first | trivial | assumption | omega | (dsimp only; omega) | exact ⟨by omega, ⟨by omega, by omega⟩, fun _ _ _ => rfl⟩ | exact ⟨by omega, ⟨by omega, by omega⟩, F3⟩)
    · refine sf_if (fun c80 => ?_) (fun c80 => ?_)
      · unfold pc_X7_signToken_50
        refine sf_if (fun c81 => ?_) (fun c81 => ?_)
        · unfold pc_X7_signToken_71
          refine sf_if (fun c82 => ?_) (fun c82 => ?_)
          · exact ret_Z (by first | assumption | exact inR_of _ | exact ⟨by omega, by omega⟩) G (Ext.refl (b := b) (σ := σ)) (R.le (by omega) (by omega) (by omega) (by omega)) (by first | trivial | assumption | omega | (dsimp only; omega) | exact ⟨by omega, ⟨by omega, by omega⟩, fun _ _ _ => rfl⟩ | exact ⟨by omega, ⟨by omega, by omega⟩, F3⟩)
          · refine sf_if (fun c83 => ?_) (fun c83 => ?_)
            · exact ret_Z (by first | assumption | exact inR_of _ | exact ⟨by omega, by omega⟩) G (Ext.refl (b := b) (σ := σ)) (R.le (by omega) (by omega) (by omega) (by omega)) (by first | trivial | assumption | omega | (dsimp only; omega) | exact ⟨by omega, ⟨by omega, by omega⟩, fun _ _ _ => rfl⟩ | exact ⟨by omega, ⟨by omega, by omega⟩, F3⟩)
            · refine sf_if (fun c84 => ?_) (fun c84 => ?_)
              · exact ret_Z (by first | assumption | exact inR_of _ | exact ⟨by omega, by omega⟩) G (Ext.refl (b := b) (σ := σ)) (R.le (by omega) (by omega) (by omega) (by omega)) (by first | trivial | assumption | omega | (dsimp only; omega) | exact ⟨by omega, ⟨by omega, by omega⟩, fun _ _ _ => rfl⟩ | exact ⟨by omega, ⟨by omega, by omega⟩, F3⟩)
              · refine sf_if (fun c85 => ?_) (fun c85 => ?_)
                · exact ret_Z (by first | assumption | exact inR_of _ | exact ⟨by omega, by omega⟩) G (Ext.refl (b := b) (σ := σ)) (R.le (by omega) (by omega) (by omega) (by omega)) (by first | trivial | assumption | omega | (dsimp only; omega) | exact ⟨by omega, ⟨by omega, by omega⟩, fun _ _ _ => rfl⟩ | exact ⟨by omega, ⟨by omega, by omega⟩, F3⟩)
                · refine sf_if (fun c86 => ?_) (fun c86 => ?_)
                  · exact ret_Z (by first | assumption | exact inR_of _ | exact ⟨by omega, by omega⟩) G (Ext.refl (b := b) (σ := σ)) (R.le (by omega) (by omega) (by omega) (by omega)) (by first | trivial | assumption | omega | (dsimp only; omega) | exact ⟨by omega, ⟨by omega, by omega⟩, fun _ _ _ => rfl⟩ | exact ⟨by omega, ⟨by omega, by omega⟩, F3⟩)
                  · refine sf_if (fun c87 => ?_) (fun c87 => ?_)
                    · exact ret_Z (by first | assumption | exact inR_of _ | exact ⟨by omega, by omega⟩) G (Ext.refl (b := b) (σ := σ)) (R.le (by omega) (by omega) (by omega) (by omega)) (by first | trivial | assumption | omega | (dsimp only; omega) | exact ⟨by omega, ⟨by omega, by omega⟩, fun _ _ _ => rfl⟩ | exact ⟨by omega, ⟨by omega, by omega⟩, F3⟩)
                    · refine sf_if (fun c88 => ?_) (fun c88 => ?_)
                      · exact ret_Z (by first | assumption | exact inR_of _ | exact ⟨by omega, by omega⟩) G (Ext.refl (b := b) (σ := σ)) (R.le (by omega) (by omega) (by omega) (by omega)) (by first | trivial | assumption | omega | (dsimp only; omega) | exact ⟨by omega, ⟨by omega, by omega⟩, fun _ _ _ => rfl⟩ | exact ⟨by omega, ⟨by omega, by omega⟩, F3⟩)
                      · refine sf_if (fun c89 => ?_) (fun c89 => ?_)
                        · exact ret_Z (by first | assumption | exact inR_of _ | exact ⟨by omega, by omega⟩) G (Ext.refl (b := b) (σ := σ)) (R.le (by omega) (by omega) (by omega) (by omega)) (by first | trivial | assumption | omega | (dsimp only; omega) | exact ⟨by omega, ⟨by omega, by omega⟩, fun _ _ _ => rfl⟩ | exact ⟨by omega, ⟨by omega, by omega⟩, F3⟩)
                        · refine sf_if (fun c90 => ?_) (fun c90 => ?_)
                          · exact ret_Z (by first | assumption | exact inR_of _ | exact ⟨by omega, by omega⟩) G (Ext.refl (b := b) (σ := σ)) (R.le (by omega) (by omega) (by omega) (by omega)) (by first | trivial | assumption | omega | (dsimp only; omega) | exact ⟨by omega, ⟨by omega, by omega⟩, fun _ _ _ => rfl⟩ | exact ⟨by omega, ⟨by omega, by omega⟩, F3⟩)
                          · exact ret_Z ⟨by decide, by decide⟩ G (Ext.refl (b := b) (σ := σ)) (R.le (by omega) (by omega) (by omega) (by omega)) (by first | trivial | assumption | omega | (dsimp only; omega) | exact ⟨by omega, ⟨by omega, by omega⟩, fun _ _ _ => rfl⟩ | exact ⟨by omega, ⟨by omega, by omega⟩, F3⟩)
        · refine sf_if (fun c91 => ?_) (fun c91 => ?_)
          · unfold pc_X7_signToken_71
            refine sf_if (fun c92 => ?_) (fun c92 => ?_)
            · exact ret_Z (by first | assumption | exact inR_of _ | exact ⟨by omega, by omega⟩) G (Ext.refl (b := b) (σ := σ)) (R.le (by omega) (by omega) (by omega) (by omega)) (by first | trivial | assumption | omega | (dsimp only; omega) | exact ⟨by omega, ⟨by omega, by omega⟩, fun _ _ _ => rfl⟩ | exact ⟨by omega, ⟨by omega, by omega⟩, F3⟩)
            · refine sf_if (fun c93 => ?_) (fun c93 => ?_)
              · exact ret_Z (by first | assumption | exact inR_of _ | exact ⟨by omega, by omega⟩) G (Ext.refl (b := b) (σ := σ)) (R.le (by omega) (by omega) (by omega) (by omega)) (by first | trivial | assumption | omega | (dsimp only; omega) | exact ⟨by omega, ⟨by omega, by omega⟩, fun _ _ _ => rfl⟩ | exact ⟨by omega, ⟨by omega, by omega⟩, F3⟩)
              · refine sf_if (fun c94 => ?_) (fun c94 => ?_)
                · exact ret_Z (by first | assumption | exact inR_of _ | exact ⟨by omega, by omega⟩) G (Ext.refl (b := b) (σ := σ)) (R.le (by omega) (by omega) (by omega) (by omega)) (by first | trivial | assumption | omega | (dsimp only; omega) | exact ⟨by omega, ⟨by omega, by omega⟩, fun _ _ _ => rfl⟩ | exact ⟨by omega, ⟨by omega, by omega⟩, F3⟩)
                · refine sf_if (fun c95 => ?_) (fun c95 => ?_)
                  · exact ret_Z (by first | assumption | exact inR_of _ | exact ⟨by omega, by omega⟩) G (Ext.refl (b := b) (σ := σ)) (R.le (by omega) (by omega) (by omega) (by omega)) (by first | trivial | assumption | omega | (dsimp only; omega) | exact ⟨by omega, ⟨by omega, by omega⟩, fun _ _ _ => rfl⟩ | exact ⟨by omega, ⟨by omega, by omega⟩, F3⟩)
                  · refine sf_if (fun c96 => ?_) (fun c96 => ?_)
                    · exact ret_Z (by first | assumption | exact inR_of _ | exact ⟨by omega, by omega⟩) G (Ext.refl (b := b) (σ := σ)) (R.le (by omega) (by omega) (by omega) (by omega)) (by first | trivial | assumption | omega | (dsimp only; omega) | exact ⟨by omega, ⟨by omega, by omega⟩, fun _ _ _ => rfl⟩ | exact ⟨by omega, ⟨by omega, by omega⟩, F3⟩)
                    · refine sf_if (fun c97 => ?_) (fun c97 => ?_)
                      · exact ret_Z (by first | assumption | exact inR_of _ | exact ⟨by omega, by omega⟩) G (Ext.refl (b := b) (σ := σ)) (R.le (by omega) (by omega) (by omega) (by omega)) (by first | trivial | assumption | omega | (dsimp only; omega) | exact ⟨by omega, ⟨by omega, by omega⟩, fun _ _ _ => rfl⟩ | exact ⟨by omega, ⟨by omega, by omega⟩, F3⟩)
                      · refine sf_if (fun c98 => ?_) (fun c98 => ?_)
                        · exact ret_Z (by first | assumption | exact inR_of _ | exact ⟨by omega, by omega⟩) G (Ext.refl (b := b) (σ := σ)) (R.le (by omega) (by omega) (by omega) (by omega)) (by first | trivial | assumption | omega | (dsimp only; omega) | exact ⟨by omega, ⟨by omega, by omega⟩, fun _ _ _ => rfl⟩ | exact ⟨by omega, ⟨by omega, by omega⟩, F3⟩)
                        · refine sf_if (fun c99 => ?_) (fun c99 => ?_)
                          · exact ret_Z (by first | assumption | exact inR_of _ | exact ⟨by omega, by omega⟩) G (Ext.refl (b := b) (σ := σ)) (R.le (by omega) (by omega) (by omega) (by omega)) (by first | trivial | assumption | omega | (dsimp only; omega) | exact ⟨by omega, ⟨by omega, by omega⟩, fun _ _ _ => rfl⟩ | exact ⟨by omega, ⟨by omega, by omega⟩, F3⟩)
                          · refine sf_if (fun c100 => ?_) (fun c100 => ?_)
                            · exact ret_Z (by first | assumption | exact inR_of _ | exact ⟨by omega, by omega⟩) G (Ext.refl (b := b) (σ := σ)) (R.le (by omega) (by omega) (by omega) (by omega)) (by first | trivial | assumption | omega | (dsimp only; omega) | exact ⟨by omega, ⟨by omega, by omega⟩, fun _ _ _ => rfl⟩ | exact ⟨by omega, ⟨by omega, by omega⟩, F3⟩)
                            · exact ret_Z ⟨by decide, by decide⟩ G (Ext.refl (b := b) (σ := σ)) (R.le (by omega) (by omega) (by omega) (by omega)) (by first | trivial | assumption | omega | (dsimp only; omega) | exact ⟨by omega, ⟨by omega, by omega⟩, fun _ _ _ => rfl⟩ | exact ⟨by omega, ⟨by omega, by omega⟩, F3⟩)
          · refine wpN (G.tg 19) (fun s101 ws101 => ?_)
            obtain ⟨Gs101, es101, Rs101, Fs101, Vs101⟩ := P0 G R ws101 (by decide) ⟨by decide, by decide⟩ (by intro lo hi q; cases q <;> omega)
            have E102 := (Ext.refl (b := b) (σ := σ)).trans es101
            have F3 := Fs101
            have V3 := Vs101
            exact ret_Z ⟨by decide, by decide⟩ Gs101 E102 (Rs101.le (by omega) (by omega) (by omega) (by omega)) (by first | trivial | assumption | omega | (dsimp only; omega) | exact ⟨by omega, ⟨by omega, by omega⟩, fun _ _ _ => rfl⟩ | exact ⟨by omega, ⟨by omega, by omega⟩, F3⟩)
      · refine wpN (G.tg 19) (fun s103 ws103 => ?_)
        obtain ⟨Gs103, es103, Rs103, Fs103, Vs103⟩ := P0 G R ws103 (by decide) ⟨by decide, by decide⟩ (by intro lo hi q; cases q <;> omega)
        have E104 := (Ext.refl (b := b) (σ := σ)).trans es103
        have F3 := Fs103
        have V3 := Vs103
        exact ret_Z ⟨by decide, by decide⟩ Gs103 E104 (Rs103.le (by omega) (by omega) (by omega) (by omega)) (by first | trivial | assumption | omega | (dsimp only; omega) | exact ⟨by omega, ⟨by omega, by omega⟩, fun _ _ _ => rfl⟩ | exact ⟨by omega, ⟨by omega, by omega⟩, F3⟩)
theorem s_scan4 (hd : 11 ≤ d) : ∀ (n : Nat) {σ : CS} {j i : Int}, GG bd b σ → RR bd b σ k s o z → 0 ≤ i → i ≤ j → j ≤ c_pv σ (b + 19) 5 → (4001 - j < (n : Int) ∧ 0 < n) → sf (pc_X7_scan_4 (RC bd d) bd n σ ((b + 19 : Nat) : Int) j i) (PZ bd b σ k s o z (fun σ' _ => ∃ e : Nat, (e : Int) ≤ c_pv σ (b + 19) 5 ∧ (c_pv σ' (b + 20) e = 260 ∨ c_pv σ' (b + 20) e = 261) ∧ c_pv σ' (b + 19) 5 = c_pv σ (b + 19) 5)) := by
  intro n
  induction n with
  | zero =>
    intro σ j i G R hi hij hj hn
    omega
  | succ n ih =>
    intro σ j i G R hi hij hj hn
    have n5 := G.nu 19 5
    unfold pc_X7_scan_4
    refine wgF (G.tg 19) (G.fi 24 (i := 19) (f := 2) (j := 20)) ?_
    refine wlN (G.tg 20) (G.ln 20 (n := 4001)) (by decide) (fun z2_2 hz2_2 => ?_)
    refine sf_if (fun c3 => ?_) (fun c3 => ?_)
    · exfalso; omega
    · refine wtN (G.tg 19) ?_
      refine cl_U (s_behindBlanks (by omega) G ⟨by omega, by omega⟩) (fun z6_5 rz6_5 fz6_5 => ?_)
      refine wpN (G.tg 19) (fun s6 ws6 => ?_)
      obtain ⟨Gs6, es6, Rs6, Fs6, Vs6⟩ := P0 G R ws6 (by decide) (by first | assumption | exact inR_of _ | exact ⟨by omega, by omega⟩) (by intro lo hi q; cases q <;> omega)
      have E7 := (Ext.refl (b := b) (σ := σ)).trans es6
      have V7 := Vs6
      have q75 := Fs6 (b + 19) 5 (Or.inr (by decide))
      refine wpN (Gs6.tg 19) (fun s8 ws8 => ?_)
      obtain ⟨Gs8, es8, Rs8, Fs8, Vs8⟩ := P0 Gs6 Rs6 ws8 (by decide) ⟨by decide, by decide⟩ (by intro lo hi q; cases q <;> omega)
      have E9 := E7.trans es8
      have V8 := Vs8
      have q88 := Fs8 (b + 19) 8 (Or.inr (by decide))
      have q85 := Fs8 (b + 19) 5 (Or.inr (by decide))
      refine wgN (Gs8.tg 19) (fun z9_10 hz9_10 => ?_)
      have fz9_10 := Gs8.nu 19 5
      have rz9_10 : inR z9_10 := hz9_10 ▸ Gs8.ir _ _
      refine sf_if (fun c11 => ?_) (fun c11 => ?_)
      · refine wgF (Gs8.tg 19) (Gs8.fi 22 (i := 19) (f := 0) (j := 1)) ?_
        refine wrN (Gs8.tg 1) (Gs8.ln 1 (n := 4000)) ⟨by omega, by omega⟩ (fun z12_13 hz12_13 => ?_)
        have rz12_13 : inR z12_13 := hz12_13 ▸ Gs8.ir _ _
        refine cl_U (s_isLetter (by omega) Gs8) (fun z15_15 rz15_15 fz15_15 => ?_)
        refine sf_if (fun c16 => ?_) (fun c16 => ?_)
        · refine wgF (Gs8.tg 19) (Gs8.fi 22 (i := 19) (f := 0) (j := 1)) ?_
          refine wrN (Gs8.tg 1) (Gs8.ln 1 (n := 4000)) ⟨by omega, by omega⟩ (fun z18_18 hz18_18 => ?_)
          have rz18_18 : inR z18_18 := hz18_18 ▸ Gs8.ir _ _
          refine wtN (Gs8.tg 19) ?_
          refine cl_Z (s_signToken (k := k) (s := s) (o := o) (z := z) (by omega) Gs8 (Rs8.le (by omega) (by omega) (by omega) (by omega)) (by omega) (by omega)) (fun s19 z21_20 rz21_20 Gs19 es19 Rs19 fz21_20 => ?_)
          obtain ⟨fz21_20, gz21_20, Ft⟩ := fz21_20
          have E21 := E9.trans es19
          have t5 := Ft (b + 19) 5 (Or.inr (by decide))
          unfold pc_X7_scan_77
          refine wpN (Gs19.tg 19) (fun s22 ws22 => ?_)
          obtain ⟨Gs22, es22, Rs22, Fs22, Vs22⟩ := P0 Gs19 Rs19 ws22 (by decide) (by first | assumption | exact inR_of _ | exact ⟨by omega, by omega⟩) (by intro lo hi q; cases q <;> omega)
          have E23 := E21.trans es22
          have u5 := Fs22 (b + 19) 5 (Or.inr (by decide))
          have V77 := Vs22
          have q77 := Fs22 (b + 19) 9 (Or.inr (by decide))
          unfold pc_X7_scan_80
          refine wgF (Gs22.tg 19) (Gs22.fi 24 (i := 19) (f := 2) (j := 20)) ?_
          refine wgN (Gs22.tg 19) (fun z2_25 hz2_25 => ?_)
          have fz2_25 := Gs22.nu 19 7
          have rz2_25 : inR z2_25 := hz2_25 ▸ Gs22.ir _ _
          refine wwN (Gs22.tg 20) (Gs22.ln 20 (n := 4001)) ⟨by omega, by omega⟩ (fun s26 ws26 => ?_)
          obtain ⟨Gs26, es26, Rs26, Fs26, Vs26⟩ := P0 Gs22 Rs22 ws26 (gpr_c (by decide)) (by first | assumption | exact inR_of _ | exact ⟨by omega, by omega⟩) (by intro lo hi q; cases q <;> omega)
          have E27 := E23.trans es26
          have a5 := Fs26 (b + 19) 5 (Or.inl (by omega))
          have a7 := Fs26 (b + 19) 7 (Or.inl (by omega))
          have a9 := Fs26 (b + 19) 9 (Or.inl (by omega))
          have Va := Vs26
          refine wgF (Gs26.tg 19) (Gs26.fi 25 (i := 19) (f := 3) (j := 21)) ?_
          refine wwN (Gs26.tg 21) (Gs26.ln 21 (n := 4001)) ⟨by omega, by omega⟩ (fun s29 ws29 => ?_)
          obtain ⟨Gs29, es29, Rs29, Fs29, Vs29⟩ := P0 Gs26 Rs26 ws29 (gpr_c (by decide)) (by first | assumption | exact inR_of _ | exact ⟨by omega, by omega⟩) (by intro lo hi q; cases q <;> omega)
          have E30 := E27.trans es29
          have b5 := Fs29 (b + 19) 5 (Or.inl (by omega))
          have b7 := Fs29 (b + 19) 7 (Or.inl (by omega))
          have b9 := Fs29 (b + 19) 9 (Or.inl (by omega))
          have Vb := Fs29 (b + 20) i.toNat (Or.inl (by omega))
          refine wgF (Gs29.tg 19) (Gs29.fi 26 (i := 19) (f := 4) (j := 22)) ?_
          refine wgN (Gs29.tg 19) (fun z7_32 hz7_32 => ?_)
          have fz7_32 := Gs29.nu 19 9
          have rz7_32 : inR z7_32 := hz7_32 ▸ Gs29.ir _ _
          refine wwN (Gs29.tg 22) (Gs29.ln 22 (n := 4001)) ⟨by omega, by omega⟩ (fun s33 ws33 => ?_)
          obtain ⟨Gs33, es33, Rs33, Fs33, Vs33⟩ := P0 Gs29 Rs29 ws33 (gpr_c (by decide)) (by first | assumption | exact inR_of _ | exact ⟨by omega, by omega⟩) (by intro lo hi q; cases q <;> omega)
          have E34 := E30.trans es33
          have c5 := Fs33 (b + 19) 5 (Or.inl (by omega))
          have c7 := Fs33 (b + 19) 7 (Or.inl (by omega))
          have c9 := Fs33 (b + 19) 9 (Or.inl (by omega))
          have Vc := Fs33 (b + 20) i.toNat (Or.inl (by omega))
          refine wgN (Gs33.tg 19) (fun z9_35 hz9_35 => ?_)
          have fz9_35 := Gs33.nu 19 7
          have rz9_35 : inR z9_35 := hz9_35 ▸ Gs33.ir _ _
          refine sf_if (fun c36 => ?_) (fun c36 => ?_)
          · exact ret_Z ⟨by decide, by decide⟩ Gs33 E34 (Rs33.le (by omega) (by omega) (by omega) (by omega)) (by first | trivial | assumption | omega | (dsimp only; omega) | exact ⟨i.toNat, by omega, by omega, by omega⟩)
          · refine wgN (Gs33.tg 19) (fun z11_37 hz11_37 => ?_)
            have fz11_37 := Gs33.nu 19 7
            have rz11_37 : inR z11_37 := hz11_37 ▸ Gs33.ir _ _
            refine sf_if (fun c38 => ?_) (fun c38 => ?_)
            · refine wgN (Gs33.tg 19) (fun z13_39 hz13_39 => ?_)
              have fz13_39 := Gs33.nu 19 9
              have rz13_39 : inR z13_39 := hz13_39 ▸ Gs33.ir _ _
              refine wck ⟨by omega, by omega⟩ (fun z14_40 hz14_40 => ?_)
              refine wck ⟨by omega, by omega⟩ (fun z15_41 hz15_41 => ?_)
              exact tr_Z E34 (sf_mono (ih Gs33 Rs33 (by omega) (by omega) (by omega) (by omega)) (fun σ' kd r q => ⟨q.1, q.2.1, q.2.2.1, q.2.2.2.1, q.2.2.2.2.1, by obtain ⟨e, a1, a2, a3⟩ := q.2.2.2.2.2; exact ⟨e, by omega, a2, by omega⟩⟩))
            · exact ret_Z ⟨by decide, by decide⟩ Gs33 E34 (Rs33.le (by omega) (by omega) (by omega) (by omega)) (by first | trivial | assumption | omega | (dsimp only; omega) | exact ⟨i.toNat, by omega, by omega, by omega⟩)
        · refine wtN (Gs8.tg 19) ?_
          refine cl_Z (s_nameToken (k := k) (s := s) (o := o) (z := z) (by omega) Gs8 (Rs8.le (by omega) (by omega) (by omega) (by omega)) (by omega)) (fun s42 z24_43 rz24_43 Gs42 es42 Rs42 fz24_43 => ?_)
          obtain ⟨fz24_43, gz24_43, Ft⟩ := fz24_43
          have E44 := E9.trans es42
          have t5 := Ft (b + 19) 5 (Or.inr (by decide))
          unfold pc_X7_scan_77
          refine wpN (Gs42.tg 19) (fun s45 ws45 => ?_)
          obtain ⟨Gs45, es45, Rs45, Fs45, Vs45⟩ := P0 Gs42 Rs42 ws45 (by decide) (by first | assumption | exact inR_of _ | exact ⟨by omega, by omega⟩) (by intro lo hi q; cases q <;> omega)
          have E46 := E44.trans es45
          have u5 := Fs45 (b + 19) 5 (Or.inr (by decide))
          have V77 := Vs45
          have q77 := Fs45 (b + 19) 9 (Or.inr (by decide))
          unfold pc_X7_scan_80
          refine wgF (Gs45.tg 19) (Gs45.fi 24 (i := 19) (f := 2) (j := 20)) ?_
          refine wgN (Gs45.tg 19) (fun z2_48 hz2_48 => ?_)
          have fz2_48 := Gs45.nu 19 7
          have rz2_48 : inR z2_48 := hz2_48 ▸ Gs45.ir _ _
          refine wwN (Gs45.tg 20) (Gs45.ln 20 (n := 4001)) ⟨by omega, by omega⟩ (fun s49 ws49 => ?_)
          obtain ⟨Gs49, es49, Rs49, Fs49, Vs49⟩ := P0 Gs45 Rs45 ws49 (gpr_c (by decide)) (by first | assumption | exact inR_of _ | exact ⟨by omega, by omega⟩) (by intro lo hi q; cases q <;> omega)
          have E50 := E46.trans es49
          have a5 := Fs49 (b + 19) 5 (Or.inl (by omega))
          have a7 := Fs49 (b + 19) 7 (Or.inl (by omega))
          have a9 := Fs49 (b + 19) 9 (Or.inl (by omega))
          have Va := Vs49
          refine wgF (Gs49.tg 19) (Gs49.fi 25 (i := 19) (f := 3) (j := 21)) ?_
          refine wwN (Gs49.tg 21) (Gs49.ln 21 (n := 4001)) ⟨by omega, by omega⟩ (fun s52 ws52 => ?_)
          obtain ⟨Gs52, es52, Rs52, Fs52, Vs52⟩ := P0 Gs49 Rs49 ws52 (gpr_c (by decide)) (by first | assumption | exact inR_of _ | exact ⟨by omega, by omega⟩) (by intro lo hi q; cases q <;> omega)
          have E53 := E50.trans es52
          have b5 := Fs52 (b + 19) 5 (Or.inl (by omega))
          have b7 := Fs52 (b + 19) 7 (Or.inl (by omega))
          have b9 := Fs52 (b + 19) 9 (Or.inl (by omega))
          have Vb := Fs52 (b + 20) i.toNat (Or.inl (by omega))
          refine wgF (Gs52.tg 19) (Gs52.fi 26 (i := 19) (f := 4) (j := 22)) ?_
          refine wgN (Gs52.tg 19) (fun z7_55 hz7_55 => ?_)
          have fz7_55 := Gs52.nu 19 9
          have rz7_55 : inR z7_55 := hz7_55 ▸ Gs52.ir _ _
          refine wwN (Gs52.tg 22) (Gs52.ln 22 (n := 4001)) ⟨by omega, by omega⟩ (fun s56 ws56 => ?_)
          obtain ⟨Gs56, es56, Rs56, Fs56, Vs56⟩ := P0 Gs52 Rs52 ws56 (gpr_c (by decide)) (by first | assumption | exact inR_of _ | exact ⟨by omega, by omega⟩) (by intro lo hi q; cases q <;> omega)
          have E57 := E53.trans es56
          have c5 := Fs56 (b + 19) 5 (Or.inl (by omega))
          have c7 := Fs56 (b + 19) 7 (Or.inl (by omega))
          have c9 := Fs56 (b + 19) 9 (Or.inl (by omega))
          have Vc := Fs56 (b + 20) i.toNat (Or.inl (by omega))
          refine wgN (Gs56.tg 19) (fun z9_58 hz9_58 => ?_)
          have fz9_58 := Gs56.nu 19 7
          have rz9_58 : inR z9_58 := hz9_58 ▸ Gs56.ir _ _
          refine sf_if (fun c59 => ?_) (fun c59 => ?_)
          · exact ret_Z ⟨by decide, by decide⟩ Gs56 E57 (Rs56.le (by omega) (by omega) (by omega) (by omega)) (by first | trivial | assumption | omega | (dsimp only; omega) | exact ⟨i.toNat, by omega, by omega, by omega⟩)
          · refine wgN (Gs56.tg 19) (fun z11_60 hz11_60 => ?_)
            have fz11_60 := Gs56.nu 19 7
            have rz11_60 : inR z11_60 := hz11_60 ▸ Gs56.ir _ _
            refine sf_if (fun c61 => ?_) (fun c61 => ?_)
            · refine wgN (Gs56.tg 19) (fun z13_62 hz13_62 => ?_)
              have fz13_62 := Gs56.nu 19 9
              have rz13_62 : inR z13_62 := hz13_62 ▸ Gs56.ir _ _
              refine wck ⟨by omega, by omega⟩ (fun z14_63 hz14_63 => ?_)
              refine wck ⟨by omega, by omega⟩ (fun z15_64 hz15_64 => ?_)
              exact tr_Z E57 (sf_mono (ih Gs56 Rs56 (by omega) (by omega) (by omega) (by omega)) (fun σ' kd r q => ⟨q.1, q.2.1, q.2.2.1, q.2.2.2.1, q.2.2.2.2.1, by obtain ⟨e, a1, a2, a3⟩ := q.2.2.2.2.2; exact ⟨e, by omega, a2, by omega⟩⟩))
            · exact ret_Z ⟨by decide, by decide⟩ Gs56 E57 (Rs56.le (by omega) (by omega) (by omega) (by omega)) (by first | trivial | assumption | omega | (dsimp only; omega) | exact ⟨i.toNat, by omega, by omega, by omega⟩)
      · refine wpN (Gs8.tg 19) (fun s65 ws65 => ?_)
        obtain ⟨Gs65, es65, Rs65, Fs65, Vs65⟩ := P0 Gs8 Rs8 ws65 (by decide) ⟨by decide, by decide⟩ (by intro lo hi q; cases q <;> omega)
        have E66 := E9.trans es65
        have t5 := Fs65 (b + 19) 5 (Or.inr (by decide))
        have V77 := Vs65
        have q77 := Fs65 (b + 19) 9 (Or.inr (by decide))
        unfold pc_X7_scan_80
        refine wgF (Gs65.tg 19) (Gs65.fi 24 (i := 19) (f := 2) (j := 20)) ?_
        refine wgN (Gs65.tg 19) (fun z2_68 hz2_68 => ?_)
        have fz2_68 := Gs65.nu 19 7
        have rz2_68 : inR z2_68 := hz2_68 ▸ Gs65.ir _ _
        refine wwN (Gs65.tg 20) (Gs65.ln 20 (n := 4001)) ⟨by omega, by omega⟩ (fun s69 ws69 => ?_)
        obtain ⟨Gs69, es69, Rs69, Fs69, Vs69⟩ := P0 Gs65 Rs65 ws69 (gpr_c (by decide)) (by first | assumption | exact inR_of _ | exact ⟨by omega, by omega⟩) (by intro lo hi q; cases q <;> omega)
        have E70 := E66.trans es69
        have a5 := Fs69 (b + 19) 5 (Or.inl (by omega))
        have a7 := Fs69 (b + 19) 7 (Or.inl (by omega))
        have a9 := Fs69 (b + 19) 9 (Or.inl (by omega))
        have Va := Vs69
        refine wgF (Gs69.tg 19) (Gs69.fi 25 (i := 19) (f := 3) (j := 21)) ?_
        refine wwN (Gs69.tg 21) (Gs69.ln 21 (n := 4001)) ⟨by omega, by omega⟩ (fun s72 ws72 => ?_)
        obtain ⟨Gs72, es72, Rs72, Fs72, Vs72⟩ := P0 Gs69 Rs69 ws72 (gpr_c (by decide)) (by first | assumption | exact inR_of _ | exact ⟨by omega, by omega⟩) (by intro lo hi q; cases q <;> omega)
        have E73 := E70.trans es72
        have b5 := Fs72 (b + 19) 5 (Or.inl (by omega))
        have b7 := Fs72 (b + 19) 7 (Or.inl (by omega))
        have b9 := Fs72 (b + 19) 9 (Or.inl (by omega))
        have Vb := Fs72 (b + 20) i.toNat (Or.inl (by omega))
        refine wgF (Gs72.tg 19) (Gs72.fi 26 (i := 19) (f := 4) (j := 22)) ?_
        refine wgN (Gs72.tg 19) (fun z7_75 hz7_75 => ?_)
        have fz7_75 := Gs72.nu 19 9
        have rz7_75 : inR z7_75 := hz7_75 ▸ Gs72.ir _ _
        refine wwN (Gs72.tg 22) (Gs72.ln 22 (n := 4001)) ⟨by omega, by omega⟩ (fun s76 ws76 => ?_)
        obtain ⟨Gs76, es76, Rs76, Fs76, Vs76⟩ := P0 Gs72 Rs72 ws76 (gpr_c (by decide)) (by first | assumption | exact inR_of _ | exact ⟨by omega, by omega⟩) (by intro lo hi q; cases q <;> omega)
        have E77 := E73.trans es76
        have c5 := Fs76 (b + 19) 5 (Or.inl (by omega))
        have c7 := Fs76 (b + 19) 7 (Or.inl (by omega))
        have c9 := Fs76 (b + 19) 9 (Or.inl (by omega))
        have Vc := Fs76 (b + 20) i.toNat (Or.inl (by omega))
        refine wgN (Gs76.tg 19) (fun z9_78 hz9_78 => ?_)
        have fz9_78 := Gs76.nu 19 7
        have rz9_78 : inR z9_78 := hz9_78 ▸ Gs76.ir _ _
        refine sf_if (fun c79 => ?_) (fun c79 => ?_)
        · exact ret_Z ⟨by decide, by decide⟩ Gs76 E77 (Rs76.le (by omega) (by omega) (by omega) (by omega)) (by first | trivial | assumption | omega | (dsimp only; omega) | exact ⟨i.toNat, by omega, by omega, by omega⟩)
        · refine wgN (Gs76.tg 19) (fun z11_80 hz11_80 => ?_)
          have fz11_80 := Gs76.nu 19 7
          have rz11_80 : inR z11_80 := hz11_80 ▸ Gs76.ir _ _
          refine sf_if (fun c81 => ?_) (fun c81 => ?_)
          · exfalso; omega
          · exact ret_Z ⟨by decide, by decide⟩ Gs76 E77 (Rs76.le (by omega) (by omega) (by omega) (by omega)) (by first | trivial | assumption | omega | (dsimp only; omega) | exact ⟨i.toNat, by omega, by omega, by omega⟩)
theorem s_scan (hd : 12 ≤ d) (G : GG bd b σ) (R : RR bd b σ (k) (s) (o) (z))  : sf (RC bd d 127 σ [((b + 19 : Nat) : Int)]) (PZ bd b σ k s o z (fun σ' _ => ∃ e : Nat, (e : Int) ≤ c_pv σ (b + 19) 5 ∧ (c_pv σ' (b + 20) e = 260 ∨ c_pv σ' (b + 20) e = 261) ∧ c_pv σ' (b + 19) 5 = c_pv σ (b + 19) 5)) := by
  obtain ⟨d, rfl⟩ : ∃ d0, d = d0 + 1 := ⟨d - 1, by omega⟩
  rw [rc_X7_scan (by omega)]
  refine fin_Z ?_
  unfold pc_X7_scan_0
  have n5 := G.nu 19 5
  exact s_scan4 (by omega) _ G R (by decide) (by decide) (by omega) ⟨by decide, by decide⟩
end CRD
