section CB3
variable {bd : cBd} {b d : Nat} {σ σ1 σ2 σ3 : CS} {Q : CS → Nat → Int → Prop} {k s o z : Nat}
theorem s_agree33_1 : ∀ (n : Nat) {x y m j : Int}, GG bd b σ → (0 ≤ x ∧ x + m ≤ 4000) → (0 ≤ y ∧ y + m ≤ 4000) → 0 ≤ j → (m - j < (n : Int) ∧ 0 < n) → sf (pc_X5_agree_33 (RC bd d) bd n σ ((b + 1 : Nat) : Int) x ((b + 1 : Nat) : Int) y m j) (PU σ (fun r => r = 0 ∨ r = 1)) := by
  intro n
  induction n with
  | zero =>
    intro x y m j G hx hy hj hn
    omega
  | succ n ih =>
    intro x y m j G hx hy hj hn
    unfold pc_X5_agree_33
    refine sf_if (fun c1 => ?_) (fun c1 => ?_)
    · refine sf_bo (by omega) ?_
      exact ret_U ⟨by decide, by decide⟩ (by first | trivial | assumption | omega | (dsimp only; omega))
    · refine wck ⟨by omega, by omega⟩ (fun z2_2 hz2_2 => ?_)
      refine wrN (G.tg 1) (G.ln 1 (n := 4000)) ⟨by omega, by omega⟩ (fun z3_3 hz3_3 => ?_)
      have rz3_3 : inR z3_3 := hz3_3 ▸ G.ir _ _
      refine wck ⟨by omega, by omega⟩ (fun z4_4 hz4_4 => ?_)
      refine wrN (G.tg 1) (G.ln 1 (n := 4000)) ⟨by omega, by omega⟩ (fun z5_5 hz5_5 => ?_)
      have rz5_5 : inR z5_5 := hz5_5 ▸ G.ir _ _
      refine sf_if (fun c6 => ?_) (fun c6 => ?_)
      · refine wck ⟨by omega, by omega⟩ (fun z7_7 hz7_7 => ?_)
        exact ih G hx hy (by omega) (by omega)
      · refine sf_bo (by omega) ?_
        exact ret_U ⟨by decide, by decide⟩ (by first | trivial | assumption | omega | (dsimp only; omega))
theorem s_agree1 (hd : 6 ≤ d) (G : GG bd b σ) {x y m : Int} (hx : x ≤ 100000) (hy : y ≤ 100000) (hm : 0 ≤ m ∧ m ≤ 100000) : sf (RC bd d 98 σ [((b + 1 : Nat) : Int), x, ((b + 1 : Nat) : Int), y, m]) (PU σ (fun r => r = 0 ∨ r = 1)) := by
  obtain ⟨d, rfl⟩ : ∃ d0, d = d0 + 1 := ⟨d - 1, by omega⟩
  rw [rc_X5_agree (by omega)]
  refine fin_U ?_
  unfold pc_X5_agree_0
  refine sf_if (fun c1 => ?_) (fun c1 => ?_)
  · refine sf_bo (by omega) ?_
    exact ret_U ⟨by decide, by decide⟩ (by first | trivial | assumption | omega | (dsimp only; omega))
  · refine wck ⟨by omega, by omega⟩ (fun z2_2 hz2_2 => ?_)
    refine wlN (G.tg 1) (G.ln 1 (n := 4000)) (by decide) (fun z3_3 hz3_3 => ?_)
    refine sf_if (fun c4 => ?_) (fun c4 => ?_)
    · refine sf_if (fun c5 => ?_) (fun c5 => ?_)
      · refine sf_bo (by omega) ?_
        exact ret_U ⟨by decide, by decide⟩ (by first | trivial | assumption | omega | (dsimp only; omega))
      · refine wck ⟨by omega, by omega⟩ (fun z6_6 hz6_6 => ?_)
        refine wlN (G.tg 1) (G.ln 1 (n := 4000)) (by decide) (fun z7_7 hz7_7 => ?_)
        refine sf_if (fun c8 => ?_) (fun c8 => ?_)
        · exact s_agree33_1 _ G ⟨by omega, by omega⟩ ⟨by omega, by omega⟩ (by decide) ⟨by omega, by decide⟩
        · refine sf_bo (by omega) ?_
          exact ret_U ⟨by decide, by decide⟩ (by first | trivial | assumption | omega | (dsimp only; omega))
    · refine sf_bo (by omega) ?_
      exact ret_U ⟨by decide, by decide⟩ (by first | trivial | assumption | omega | (dsimp only; omega))
theorem s_agree33_5 : ∀ (n : Nat) {x y m j : Int}, GG bd b σ → (0 ≤ x ∧ x + m ≤ 96) → (0 ≤ y ∧ y + m ≤ 4000) → 0 ≤ j → (m - j < (n : Int) ∧ 0 < n) → sf (pc_X5_agree_33 (RC bd d) bd n σ ((b + 5 : Nat) : Int) x ((b + 1 : Nat) : Int) y m j) (PU σ (fun r => r = 0 ∨ r = 1)) := by
  intro n
  induction n with
  | zero =>
    intro x y m j G hx hy hj hn
    omega
  | succ n ih =>
    intro x y m j G hx hy hj hn
    unfold pc_X5_agree_33
    refine sf_if (fun c1 => ?_) (fun c1 => ?_)
    · refine sf_bo (by omega) ?_
      exact ret_U ⟨by decide, by decide⟩ (by first | trivial | assumption | omega | (dsimp only; omega))
    · refine wck ⟨by omega, by omega⟩ (fun z2_2 hz2_2 => ?_)
      refine wrN (G.tg 5) (G.ln 5 (n := 96)) ⟨by omega, by omega⟩ (fun z3_3 hz3_3 => ?_)
      have rz3_3 : inR z3_3 := hz3_3 ▸ G.ir _ _
      refine wck ⟨by omega, by omega⟩ (fun z4_4 hz4_4 => ?_)
      refine wrN (G.tg 1) (G.ln 1 (n := 4000)) ⟨by omega, by omega⟩ (fun z5_5 hz5_5 => ?_)
      have rz5_5 : inR z5_5 := hz5_5 ▸ G.ir _ _
      refine sf_if (fun c6 => ?_) (fun c6 => ?_)
      · refine wck ⟨by omega, by omega⟩ (fun z7_7 hz7_7 => ?_)
        exact ih G hx hy (by omega) (by omega)
      · refine sf_bo (by omega) ?_
        exact ret_U ⟨by decide, by decide⟩ (by first | trivial | assumption | omega | (dsimp only; omega))
theorem s_agree5 (hd : 6 ≤ d) (G : GG bd b σ) {x y m : Int} (hx : x ≤ 100000) (hy : y ≤ 100000) (hm : 0 ≤ m ∧ m ≤ 100000) : sf (RC bd d 98 σ [((b + 5 : Nat) : Int), x, ((b + 1 : Nat) : Int), y, m]) (PU σ (fun r => r = 0 ∨ r = 1)) := by
  obtain ⟨d, rfl⟩ : ∃ d0, d = d0 + 1 := ⟨d - 1, by omega⟩
  rw [rc_X5_agree (by omega)]
  refine fin_U ?_
  unfold pc_X5_agree_0
  refine sf_if (fun c1 => ?_) (fun c1 => ?_)
  · refine sf_bo (by omega) ?_
    exact ret_U ⟨by decide, by decide⟩ (by first | trivial | assumption | omega | (dsimp only; omega))
  · refine wck ⟨by omega, by omega⟩ (fun z2_2 hz2_2 => ?_)
    refine wlN (G.tg 5) (G.ln 5 (n := 96)) (by decide) (fun z3_3 hz3_3 => ?_)
    refine sf_if (fun c4 => ?_) (fun c4 => ?_)
    · refine sf_if (fun c5 => ?_) (fun c5 => ?_)
      · refine sf_bo (by omega) ?_
        exact ret_U ⟨by decide, by decide⟩ (by first | trivial | assumption | omega | (dsimp only; omega))
      · refine wck ⟨by omega, by omega⟩ (fun z6_6 hz6_6 => ?_)
        refine wlN (G.tg 1) (G.ln 1 (n := 4000)) (by decide) (fun z7_7 hz7_7 => ?_)
        refine sf_if (fun c8 => ?_) (fun c8 => ?_)
        · exact s_agree33_5 _ G ⟨by omega, by omega⟩ ⟨by omega, by omega⟩ (by decide) ⟨by omega, by decide⟩
        · refine sf_bo (by omega) ?_
          exact ret_U ⟨by decide, by decide⟩ (by first | trivial | assumption | omega | (dsimp only; omega))
    · refine sf_bo (by omega) ?_
      exact ret_U ⟨by decide, by decide⟩ (by first | trivial | assumption | omega | (dsimp only; omega))
theorem s_agree33_10 : ∀ (n : Nat) {x y m j : Int}, GG bd b σ → (0 ≤ x ∧ x + m ≤ 1200) → (0 ≤ y ∧ y + m ≤ 4000) → 0 ≤ j → (m - j < (n : Int) ∧ 0 < n) → sf (pc_X5_agree_33 (RC bd d) bd n σ ((b + 10 : Nat) : Int) x ((b + 1 : Nat) : Int) y m j) (PU σ (fun r => r = 0 ∨ r = 1)) := by
  intro n
  induction n with
  | zero =>
    intro x y m j G hx hy hj hn
    omega
  | succ n ih =>
    intro x y m j G hx hy hj hn
    unfold pc_X5_agree_33
    refine sf_if (fun c1 => ?_) (fun c1 => ?_)
    · refine sf_bo (by omega) ?_
      exact ret_U ⟨by decide, by decide⟩ (by first | trivial | assumption | omega | (dsimp only; omega))
    · refine wck ⟨by omega, by omega⟩ (fun z2_2 hz2_2 => ?_)
      refine wrN (G.tg 10) (G.ln 10 (n := 1200)) ⟨by omega, by omega⟩ (fun z3_3 hz3_3 => ?_)
      have rz3_3 : inR z3_3 := hz3_3 ▸ G.ir _ _
      refine wck ⟨by omega, by omega⟩ (fun z4_4 hz4_4 => ?_)
      refine wrN (G.tg 1) (G.ln 1 (n := 4000)) ⟨by omega, by omega⟩ (fun z5_5 hz5_5 => ?_)
      have rz5_5 : inR z5_5 := hz5_5 ▸ G.ir _ _
      refine sf_if (fun c6 => ?_) (fun c6 => ?_)
      · refine wck ⟨by omega, by omega⟩ (fun z7_7 hz7_7 => ?_)
        exact ih G hx hy (by omega) (by omega)
      · refine sf_bo (by omega) ?_
        exact ret_U ⟨by decide, by decide⟩ (by first | trivial | assumption | omega | (dsimp only; omega))
theorem s_agree10 (hd : 6 ≤ d) (G : GG bd b σ) {x y m : Int} (hx : x ≤ 100000) (hy : y ≤ 100000) (hm : 0 ≤ m ∧ m ≤ 100000) : sf (RC bd d 98 σ [((b + 10 : Nat) : Int), x, ((b + 1 : Nat) : Int), y, m]) (PU σ (fun r => r = 0 ∨ r = 1)) := by
  obtain ⟨d, rfl⟩ : ∃ d0, d = d0 + 1 := ⟨d - 1, by omega⟩
  rw [rc_X5_agree (by omega)]
  refine fin_U ?_
  unfold pc_X5_agree_0
  refine sf_if (fun c1 => ?_) (fun c1 => ?_)
  · refine sf_bo (by omega) ?_
    exact ret_U ⟨by decide, by decide⟩ (by first | trivial | assumption | omega | (dsimp only; omega))
  · refine wck ⟨by omega, by omega⟩ (fun z2_2 hz2_2 => ?_)
    refine wlN (G.tg 10) (G.ln 10 (n := 1200)) (by decide) (fun z3_3 hz3_3 => ?_)
    refine sf_if (fun c4 => ?_) (fun c4 => ?_)
    · refine sf_if (fun c5 => ?_) (fun c5 => ?_)
      · refine sf_bo (by omega) ?_
        exact ret_U ⟨by decide, by decide⟩ (by first | trivial | assumption | omega | (dsimp only; omega))
      · refine wck ⟨by omega, by omega⟩ (fun z6_6 hz6_6 => ?_)
        refine wlN (G.tg 1) (G.ln 1 (n := 4000)) (by decide) (fun z7_7 hz7_7 => ?_)
        refine sf_if (fun c8 => ?_) (fun c8 => ?_)
        · exact s_agree33_10 _ G ⟨by omega, by omega⟩ ⟨by omega, by omega⟩ (by decide) ⟨by omega, by decide⟩
        · refine sf_bo (by omega) ?_
          exact ret_U ⟨by decide, by decide⟩ (by first | trivial | assumption | omega | (dsimp only; omega))
    · refine sf_bo (by omega) ?_
      exact ret_U ⟨by decide, by decide⟩ (by first | trivial | assumption | omega | (dsimp only; omega))
theorem s_find3_4 (hd : 7 ≤ d) {y m : Int} (hy : 0 ≤ y ∧ y ≤ 5000) (hm : 0 ≤ m ∧ m ≤ 5000) : ∀ (n : Nat) {j : Int}, GG bd b σ → 0 ≤ j → (101 - j < (n : Int) ∧ 0 < n) → j ≤ 100 → sf (pc_X5_find_3 (RC bd d) bd n σ ((b + 4 : Nat) : Int) ((b + 1 : Nat) : Int) y m j) (PU σ (fun r => -1 ≤ r ∧ r < c_pv σ (b + 4) 2)) := by
  intro n
  induction n with
  | zero =>
    intro j G hj hn hj2
    omega
  | succ n ih =>
    intro j G hj hn hj2
    unfold pc_X5_find_3
    have n4_2_σ := G.nu 4 2
    have n9_2_σ := G.nu 9 2
    refine wgN (G.tg 4) (fun z1_1 hz1_1 => ?_)
    have fz1_1 := G.nu 4 2
    have rz1_1 : inR z1_1 := hz1_1 ▸ G.ir _ _
    refine sf_if (fun c2 => ?_) (fun c2 => ?_)
    · exact ret_U ⟨by decide, by decide⟩ (by first | trivial | assumption | omega | (dsimp only; omega))
    · refine wgF (G.tg 4) (G.fi 15 (i := 4) (f := 1) (j := 6)) ?_
      refine wrN (G.tg 6) (G.ln 6 (n := 8)) ⟨by omega, by omega⟩ (fun z4_4 hz4_4 => ?_)
      have fz4_4 := G.nu 6 (j : Int).toNat (lo := 0) (hi := 12)
      have rz4_4 : inR z4_4 := hz4_4 ▸ G.ir _ _
      refine sf_if (fun c5 => ?_) (fun c5 => ?_)
      · unfold pc_X5_find_44
        refine wck ⟨by omega, by omega⟩ (fun z1_6 hz1_6 => ?_)
        exact ih G (by omega) (by omega) (by omega)
      · refine wgF (G.tg 4) (G.fi 14 (i := 4) (f := 0) (j := 5)) ?_
        refine wck ⟨by omega, by omega⟩ (fun z7_8 hz7_8 => ?_)
        refine cl_U (s_agree5 (by omega) G (by omega) (by omega) ⟨by omega, by omega⟩) (fun z10_10 rz10_10 fz10_10 => ?_)
        refine sf_if (fun c11 => ?_) (fun c11 => ?_)
        · unfold pc_X5_find_44
          refine wck ⟨by omega, by omega⟩ (fun z1_12 hz1_12 => ?_)
          exact ih G (by omega) (by omega) (by omega)
        · exact ret_U (by first | assumption | exact inR_of _ | exact ⟨by omega, by omega⟩) (by first | trivial | assumption | omega | (dsimp only; omega))
theorem s_findn4 (hd : 8 ≤ d) (G : GG bd b σ) {y m : Int} (hy : 0 ≤ y ∧ y ≤ 5000) (hm : 0 ≤ m ∧ m ≤ 5000) : sf (RC bd d 99 σ [((b + 4 : Nat) : Int), ((b + 1 : Nat) : Int), y, m]) (PU σ (fun r => -1 ≤ r ∧ r < c_pv σ (b + 4) 2)) := by
  obtain ⟨d, rfl⟩ : ∃ d0, d = d0 + 1 := ⟨d - 1, by omega⟩
  rw [rc_X5_find (by omega)]
  refine fin_U ?_
  unfold pc_X5_find_0
  have n4_2_σ := G.nu 4 2
  have n9_2_σ := G.nu 9 2
  exact s_find3_4 (by omega) hy hm _ G (by decide) ⟨by decide, by decide⟩ (by decide)
theorem s_find3_9 (hd : 7 ≤ d) {y m : Int} (hy : 0 ≤ y ∧ y ≤ 5000) (hm : 0 ≤ m ∧ m ≤ 5000) : ∀ (n : Nat) {j : Int}, GG bd b σ → 0 ≤ j → (101 - j < (n : Int) ∧ 0 < n) → j ≤ 100 → sf (pc_X5_find_3 (RC bd d) bd n σ ((b + 9 : Nat) : Int) ((b + 1 : Nat) : Int) y m j) (PU σ (fun r => -1 ≤ r ∧ r < c_pv σ (b + 9) 2)) := by
  intro n
  induction n with
  | zero =>
    intro j G hj hn hj2
    omega
  | succ n ih =>
    intro j G hj hn hj2
    unfold pc_X5_find_3
    have n4_2_σ := G.nu 4 2
    have n9_2_σ := G.nu 9 2
    refine wgN (G.tg 9) (fun z1_1 hz1_1 => ?_)
    have fz1_1 := G.nu 9 2
    have rz1_1 : inR z1_1 := hz1_1 ▸ G.ir _ _
    refine sf_if (fun c2 => ?_) (fun c2 => ?_)
    · exact ret_U ⟨by decide, by decide⟩ (by first | trivial | assumption | omega | (dsimp only; omega))
    · refine wgF (G.tg 9) (G.fi 17 (i := 9) (f := 1) (j := 11)) ?_
      refine wrN (G.tg 11) (G.ln 11 (n := 100)) ⟨by omega, by omega⟩ (fun z4_4 hz4_4 => ?_)
      have fz4_4 := G.nu 11 (j : Int).toNat (lo := 0) (hi := 12)
      have rz4_4 : inR z4_4 := hz4_4 ▸ G.ir _ _
      refine sf_if (fun c5 => ?_) (fun c5 => ?_)
      · unfold pc_X5_find_44
        refine wck ⟨by omega, by omega⟩ (fun z1_6 hz1_6 => ?_)
        exact ih G (by omega) (by omega) (by omega)
      · refine wgF (G.tg 9) (G.fi 16 (i := 9) (f := 0) (j := 10)) ?_
        refine wck ⟨by omega, by omega⟩ (fun z7_8 hz7_8 => ?_)
        refine cl_U (s_agree10 (by omega) G (by omega) (by omega) ⟨by omega, by omega⟩) (fun z10_10 rz10_10 fz10_10 => ?_)
        refine sf_if (fun c11 => ?_) (fun c11 => ?_)
        · unfold pc_X5_find_44
          refine wck ⟨by omega, by omega⟩ (fun z1_12 hz1_12 => ?_)
          exact ih G (by omega) (by omega) (by omega)
        · exact ret_U (by first | assumption | exact inR_of _ | exact ⟨by omega, by omega⟩) (by first | trivial | assumption | omega | (dsimp only; omega))
theorem s_findn9 (hd : 8 ≤ d) (G : GG bd b σ) {y m : Int} (hy : 0 ≤ y ∧ y ≤ 5000) (hm : 0 ≤ m ∧ m ≤ 5000) : sf (RC bd d 99 σ [((b + 9 : Nat) : Int), ((b + 1 : Nat) : Int), y, m]) (PU σ (fun r => -1 ≤ r ∧ r < c_pv σ (b + 9) 2)) := by
  obtain ⟨d, rfl⟩ : ∃ d0, d = d0 + 1 := ⟨d - 1, by omega⟩
  rw [rc_X5_find (by omega)]
  refine fin_U ?_
  unfold pc_X5_find_0
  have n4_2_σ := G.nu 4 2
  have n9_2_σ := G.nu 9 2
  exact s_find3_9 (by omega) hy hm _ G (by decide) ⟨by decide, by decide⟩ (by decide)
theorem s_add29_4 {L : Nat} {x y m : Int} (hm : 0 ≤ m ∧ m ≤ 12) (hy : 0 ≤ y ∧ y + m ≤ (L : Int)) (hL : L ≤ 100000) : ∀ (n : Nat) {σ : CS} {j : Int}, GG bd b σ → RR bd b σ k s o z → oBy σ x L → 0 ≤ j → (m - j < (n : Int) ∧ 0 < n) → c_pv σ (b + 4) 2 < 8 → sf (pc_X5_add_29 (RC bd d) bd n σ ((b + 4 : Nat) : Int) x y m j) (PZ bd b σ k s o z (fun _ _ => True)) := by
  intro n
  induction n with
  | zero =>
    intro σ j G R t_x hj hn hs
    omega
  | succ n ih =>
    intro σ j G R t_x hj hn hs
    have hln := t_x.2
    unfold pc_X5_add_29
    have n4_2_σ := G.nu 4 2
    refine sf_if (fun c1 => ?_) (fun c1 => ?_)
    · refine wgF (G.tg 4) (G.fi 15 (i := 4) (f := 1) (j := 6)) ?_
      refine wgN (G.tg 4) (fun z3_3 hz3_3 => ?_)
      have fz3_3 := G.nu 4 2
      have rz3_3 : inR z3_3 := hz3_3 ▸ G.ir _ _
      refine wwN (G.tg 6) (G.ln 6 (n := 8)) ⟨by omega, by omega⟩ (fun s4 ws4 => ?_)
      obtain ⟨Gs4, es4, Rs4, Fs4, Vs4⟩ := P0 G R ws4 (gpr_c (by decide)) (by first | assumption | exact inR_of _ | exact ⟨by omega, by omega⟩) (by intro lo hi q; cases q <;> omega)
      have E5 := (Ext.refl (b := b) (σ := σ)).trans es4
      have n4_2_s4 := Gs4.nu 4 2
      have q4 := Fs4 (b + 4) 2 (Or.inl (by omega))
      refine wgN (Gs4.tg 4) (fun z5_6 hz5_6 => ?_)
      have fz5_6 := Gs4.nu 4 2
      have rz5_6 : inR z5_6 := hz5_6 ▸ Gs4.ir _ _
      refine wck ⟨by omega, by omega⟩ (fun z6_7 hz6_7 => ?_)
      refine wpN (Gs4.tg 4) (fun s8 ws8 => ?_)
      obtain ⟨Gs8, es8, Rs8, Fs8, Vs8⟩ := P0 Gs4 Rs4 ws8 (by decide) (by first | assumption | exact inR_of _ | exact ⟨by omega, by omega⟩) (by intro lo hi q; cases q <;> omega)
      have E9 := E5.trans es8
      have n4_2_s8 := Gs8.nu 4 2
      exact ret_Z ⟨by decide, by decide⟩ Gs8 E9 (Rs8.le (by omega) (by omega) (by omega) (by omega)) (by first | trivial | assumption | omega | (dsimp only; omega))
    · refine wgF (G.tg 4) (G.fi 14 (i := 4) (f := 0) (j := 5)) ?_
      refine wgN (G.tg 4) (fun z9_11 hz9_11 => ?_)
      have fz9_11 := G.nu 4 2
      have rz9_11 : inR z9_11 := hz9_11 ▸ G.ir _ _
      refine wck ⟨by omega, by omega⟩ (fun z10_12 hz10_12 => ?_)
      refine wck ⟨by omega, by omega⟩ (fun z11_13 hz11_13 => ?_)
      refine wck ⟨by omega, by omega⟩ (fun z12_14 hz12_14 => ?_)
      refine wr t_x.tg ⟨by omega, by omega⟩ (fun z13_15 hz13_15 => ?_)
      have rz13_15 : inR z13_15 := hz13_15 ▸ G.ir _ _
      refine wwN (G.tg 5) (G.ln 5 (n := 96)) ⟨by omega, by omega⟩ (fun s16 ws16 => ?_)
      obtain ⟨Gs16, es16, Rs16, Fs16, Vs16⟩ := P0 G R ws16 (gpr_c (by decide)) (by first | assumption | exact inR_of _ | exact ⟨by omega, by omega⟩) (by intro lo hi q; cases q <;> omega)
      have E17 := (Ext.refl (b := b) (σ := σ)).trans es16
      have t_x := t_x.up es16
      have n4_2_s16 := Gs16.nu 4 2
      have q14 := Fs16 (b + 4) 2 (Or.inl (by omega))
      refine wck ⟨by omega, by omega⟩ (fun z15_18 hz15_18 => ?_)
      exact tr_Z E17 (ih Gs16 Rs16 t_x (by omega) (by omega) (by omega))
theorem s_add4 (hd : 7 ≤ d) (G : GG bd b σ) (R : RR bd b σ (k) (s) (o) (z)) {L : Nat} {x y m : Int} (t_x : oBy σ x L) (hL : L ≤ 100000) (hy : y ≤ 100000) (hm : 0 ≤ m ∧ m ≤ 100000) : sf (RC bd d 97 σ [((b + 4 : Nat) : Int), x, y, m]) (PZ bd b σ k s o z (fun _ _ => True)) := by
  obtain ⟨d, rfl⟩ : ∃ d0, d = d0 + 1 := ⟨d - 1, by omega⟩
  rw [rc_X5_add (by omega)]
  refine fin_Z ?_
  unfold pc_X5_add_0
  have n4_2_σ := G.nu 4 2
  have n9_2_σ := G.nu 9 2
  refine wtN (G.tg 4) ?_
  refine cl_U (s_isFull4 (by omega) G) (fun z3_2 rz3_2 fz3_2 => ?_)
  refine sf_if (fun c3 => ?_) (fun c3 => ?_)
  · exact ret_Z ⟨by decide, by decide⟩ G (Ext.refl (b := b) (σ := σ)) (R.le (by omega) (by omega) (by omega) (by omega)) (by first | trivial | assumption | omega | (dsimp only; omega))
  · refine sf_if (fun c4 => ?_) (fun c4 => ?_)
    · exact ret_Z ⟨by decide, by decide⟩ G (Ext.refl (b := b) (σ := σ)) (R.le (by omega) (by omega) (by omega) (by omega)) (by first | trivial | assumption | omega | (dsimp only; omega))
    · refine sf_if (fun c5 => ?_) (fun c5 => ?_)
      · exact ret_Z ⟨by decide, by decide⟩ G (Ext.refl (b := b) (σ := σ)) (R.le (by omega) (by omega) (by omega) (by omega)) (by first | trivial | assumption | omega | (dsimp only; omega))
      · refine wck ⟨by omega, by omega⟩ (fun z7_6 hz7_6 => ?_)
        have hln := t_x.2
        refine wl t_x.tg (by omega) (fun z8_7 hz8_7 => ?_)
        refine sf_if (fun c8 => ?_) (fun c8 => ?_)
        · exact s_add29_4 ⟨by omega, by omega⟩ ⟨by omega, by omega⟩ hL _ G R t_x (by decide) ⟨by omega, by decide⟩ (by omega)
        · exact ret_Z ⟨by decide, by decide⟩ G (Ext.refl (b := b) (σ := σ)) (R.le (by omega) (by omega) (by omega) (by omega)) (by first | trivial | assumption | omega | (dsimp only; omega))
theorem s_add29_9 {L : Nat} {x y m : Int} (hm : 0 ≤ m ∧ m ≤ 12) (hy : 0 ≤ y ∧ y + m ≤ (L : Int)) (hL : L ≤ 100000) : ∀ (n : Nat) {σ : CS} {j : Int}, GG bd b σ → RR bd b σ k s o z → oBy σ x L → 0 ≤ j → (m - j < (n : Int) ∧ 0 < n) → c_pv σ (b + 9) 2 < 100 → oN σ (c_pv σ (b + 12) (c_pv σ (b + 9) 2).toNat) → sf (pc_X5_add_29 (RC bd d) bd n σ ((b + 9 : Nat) : Int) x y m j) (PZ bd b σ k s o z (fun _ _ => True)) := by
  intro n
  induction n with
  | zero =>
    intro σ j G R t_x hj hn hs ho
    omega
  | succ n ih =>
    intro σ j G R t_x hj hn hs ho
    have hln := t_x.2
    unfold pc_X5_add_29
    have n9_2_σ := G.nu 9 2
    refine sf_if (fun c1 => ?_) (fun c1 => ?_)
    · refine wgF (G.tg 9) (G.fi 17 (i := 9) (f := 1) (j := 11)) ?_
      refine wgN (G.tg 9) (fun z3_3 hz3_3 => ?_)
      have fz3_3 := G.nu 9 2
      have rz3_3 : inR z3_3 := hz3_3 ▸ G.ir _ _
      refine wwN (G.tg 11) (G.ln 11 (n := 100)) ⟨by omega, by omega⟩ (fun s4 ws4 => ?_)
      obtain ⟨Gs4, es4, Rs4, Fs4, Vs4⟩ := P0 G R ws4 (gpr_c (by decide)) (by first | assumption | exact inR_of _ | exact ⟨by omega, by omega⟩) (by intro lo hi q; cases q <;> omega)
      have E5 := (Ext.refl (b := b) (σ := σ)).trans es4
      have n9_2_s4 := Gs4.nu 9 2
      have q4 := Fs4 (b + 9) 2 (Or.inl (by omega))
      have ho9 : oN s4 (c_pv s4 (b + 12) (c_pv σ (b + 9) 2).toNat) := by rw [Fs4 (b + 12) _ (Or.inl (by omega))]; exact ho.up es4
      refine wgN (Gs4.tg 9) (fun z5_6 hz5_6 => ?_)
      have fz5_6 := Gs4.nu 9 2
      have rz5_6 : inR z5_6 := hz5_6 ▸ Gs4.ir _ _
      refine wck ⟨by omega, by omega⟩ (fun z6_7 hz6_7 => ?_)
      refine wpN (Gs4.tg 9) (fun s8 ws8 => ?_)
      obtain ⟨Gs8, es8, Rs8, Fs8, Vs8⟩ := P92 Gs4 Rs4 ws8 ⟨by omega, by omega⟩ (hw_more Gs4 (c_pv σ (b + 9) 2) (by omega) (by omega) ho9 q4 (by omega))
      have E9 := E5.trans es8
      have n9_2_s8 := Gs8.nu 9 2
      exact ret_Z ⟨by decide, by decide⟩ Gs8 E9 (Rs8.le (by omega) (by omega) (by omega) (by omega)) (by first | trivial | assumption | omega | (dsimp only; omega))
    · refine wgF (G.tg 9) (G.fi 16 (i := 9) (f := 0) (j := 10)) ?_
      refine wgN (G.tg 9) (fun z9_11 hz9_11 => ?_)
      have fz9_11 := G.nu 9 2
      have rz9_11 : inR z9_11 := hz9_11 ▸ G.ir _ _
      refine wck ⟨by omega, by omega⟩ (fun z10_12 hz10_12 => ?_)
      refine wck ⟨by omega, by omega⟩ (fun z11_13 hz11_13 => ?_)
      refine wck ⟨by omega, by omega⟩ (fun z12_14 hz12_14 => ?_)
      refine wr t_x.tg ⟨by omega, by omega⟩ (fun z13_15 hz13_15 => ?_)
      have rz13_15 : inR z13_15 := hz13_15 ▸ G.ir _ _
      refine wwN (G.tg 10) (G.ln 10 (n := 1200)) ⟨by omega, by omega⟩ (fun s16 ws16 => ?_)
      obtain ⟨Gs16, es16, Rs16, Fs16, Vs16⟩ := P0 G R ws16 (gpr_c (by decide)) (by first | assumption | exact inR_of _ | exact ⟨by omega, by omega⟩) (by intro lo hi q; cases q <;> omega)
      have E17 := (Ext.refl (b := b) (σ := σ)).trans es16
      have t_x := t_x.up es16
      have n9_2_s16 := Gs16.nu 9 2
      have q14 := Fs16 (b + 9) 2 (Or.inl (by omega))
      have ho4 : oN s16 (c_pv s16 (b + 12) (c_pv s16 (b + 9) 2).toNat) := by rw [q14, Fs16 (b + 12) _ (Or.inl (by omega))]; exact ho.up es16
      refine wck ⟨by omega, by omega⟩ (fun z15_18 hz15_18 => ?_)
      exact tr_Z E17 (ih Gs16 Rs16 t_x (by omega) (by omega) (by omega) ho4)
theorem s_add9 (hd : 7 ≤ d) (G : GG bd b σ) (R : RR bd b σ (k) (s) (o) (z)) {L : Nat} {x y m : Int} (t_x : oBy σ x L) (hL : L ≤ 100000) (hy : y ≤ 100000) (hm : 0 ≤ m ∧ m ≤ 100000) (ho : c_pv σ (b + 9) 2 < 100 → oN σ (c_pv σ (b + 12) (c_pv σ (b + 9) 2).toNat)) : sf (RC bd d 97 σ [((b + 9 : Nat) : Int), x, y, m]) (PZ bd b σ k s o z (fun _ _ => True)) := by
  obtain ⟨d, rfl⟩ : ∃ d0, d = d0 + 1 := ⟨d - 1, by omega⟩
  rw [rc_X5_add (by omega)]
  refine fin_Z ?_
  unfold pc_X5_add_0
  have n4_2_σ := G.nu 4 2
  have n9_2_σ := G.nu 9 2
  refine wtN (G.tg 9) ?_
  refine cl_U (s_isFull9 (by omega) G) (fun z3_2 rz3_2 fz3_2 => ?_)
  refine sf_if (fun c3 => ?_) (fun c3 => ?_)
  · exact ret_Z ⟨by decide, by decide⟩ G (Ext.refl (b := b) (σ := σ)) (R.le (by omega) (by omega) (by omega) (by omega)) (by first | trivial | assumption | omega | (dsimp only; omega))
  · refine sf_if (fun c4 => ?_) (fun c4 => ?_)
    · exact ret_Z ⟨by decide, by decide⟩ G (Ext.refl (b := b) (σ := σ)) (R.le (by omega) (by omega) (by omega) (by omega)) (by first | trivial | assumption | omega | (dsimp only; omega))
    · refine sf_if (fun c5 => ?_) (fun c5 => ?_)
      · exact ret_Z ⟨by decide, by decide⟩ G (Ext.refl (b := b) (σ := σ)) (R.le (by omega) (by omega) (by omega) (by omega)) (by first | trivial | assumption | omega | (dsimp only; omega))
      · refine wck ⟨by omega, by omega⟩ (fun z7_6 hz7_6 => ?_)
        have hln := t_x.2
        refine wl t_x.tg (by omega) (fun z8_7 hz8_7 => ?_)
        refine sf_if (fun c8 => ?_) (fun c8 => ?_)
        · exact s_add29_9 ⟨by omega, by omega⟩ ⟨by omega, by omega⟩ hL _ G R t_x (by decide) ⟨by omega, by decide⟩ (by omega) (ho (by omega))
        · exact ret_Z ⟨by decide, by decide⟩ G (Ext.refl (b := b) (σ := σ)) (R.le (by omega) (by omega) (by omega) (by omega)) (by first | trivial | assumption | omega | (dsimp only; omega))
theorem s_setAxiom (hd : 7 ≤ d) (G : GG bd b σ) (R : RR bd b σ (k) (s) (o) (z + 1)) {x y : Int} (hy : -1 ≤ y ∧ y ≤ 100) : sf (RC bd d 22 σ [((b + 3 : Nat) : Int), x, y]) (PZ bd b σ k s o z (fun _ _ => True)) := by
  obtain ⟨d, rfl⟩ : ∃ d0, d = d0 + 1 := ⟨d - 1, by omega⟩
  rw [rc_X0_setAxiom (by omega)]
  refine fin_Z ?_
  unfold pc_X0_setAxiom_0
  have n4_2_σ := G.nu 4 2
  have n9_2_σ := G.nu 9 2
  refine wgF (G.tg 3) (G.fi 6 (i := 3) (f := 0) (j := 4)) ?_
  refine wtN (G.tg 4) ?_
  refine cl_U (s_has4 (by omega) G) (fun z4_3 rz4_3 fz4_3 => ?_)
  refine sf_if (fun c4 => ?_) (fun c4 => ?_)
  · exact ret_Z ⟨by decide, by decide⟩ G (Ext.refl (b := b) (σ := σ)) (R.le (by omega) (by omega) (by omega) (by omega)) (by first | trivial | assumption | omega | (dsimp only; omega))
  · refine wgF (G.tg 3) (G.fi 7 (i := 3) (f := 1) (j := 7)) ?_
    refine wwN (G.tg 7) (G.ln 7 (n := 8)) ⟨by omega, by omega⟩ (fun s6 ws6 => ?_)
    obtain ⟨Gs6, es6, Rs6, Fs6, Vs6⟩ := P0 G R ws6 (gpr_c (by decide)) (by first | assumption | exact inR_of _ | exact ⟨by omega, by omega⟩) (by intro lo hi q; cases q <;> omega)
    have E7 := (Ext.refl (b := b) (σ := σ)).trans es6
    have n4_2_s6 := Gs6.nu 4 2
    have n9_2_s6 := Gs6.nu 9 2
    refine wgN (Gs6.tg 3) (fun z8_8 hz8_8 => ?_)
    have fz8_8 := Gs6.nu 3 3
    have rz8_8 : inR z8_8 := hz8_8 ▸ Gs6.ir _ _
    refine wck ⟨by omega, by omega⟩ (fun z9_9 hz9_9 => ?_)
    refine wpN (Gs6.tg 3) (fun s10 ws10 => ?_)
    obtain ⟨Gs10, es10, Rs10, Fs10⟩ := Pcnt Gs6 Rs6 ws10 (by decide) (by omega)
    have E11 := E7.trans es10
    have n4_2_s10 := Gs10.nu 4 2
    have n9_2_s10 := Gs10.nu 9 2
    exact ret_Z ⟨by decide, by decide⟩ Gs10 E11 (Rs10.le (by omega) (by omega) (by omega) (by omega)) (by first | trivial | assumption | omega | (dsimp only; omega))
theorem s_setRule (hd : 7 ≤ d) (G : GG bd b σ) (R : RR bd b σ (k) (s) (o) (z + 1)) {x y w : Int} (hw : -1 ≤ w ∧ w ≤ 100) : sf (RC bd d 23 σ [((b + 3 : Nat) : Int), x, y, w]) (PZ bd b σ k s o z (fun _ _ => True)) := by
  obtain ⟨d, rfl⟩ : ∃ d0, d = d0 + 1 := ⟨d - 1, by omega⟩
  rw [rc_X0_setRule (by omega)]
  refine fin_Z ?_
  unfold pc_X0_setRule_0
  have n4_2_σ := G.nu 4 2
  have n9_2_σ := G.nu 9 2
  refine wgF (G.tg 3) (G.fi 6 (i := 3) (f := 0) (j := 4)) ?_
  refine wtN (G.tg 4) ?_
  refine cl_U (s_has4 (by omega) G) (fun z4_3 rz4_3 fz4_3 => ?_)
  refine sf_if (fun c4 => ?_) (fun c4 => ?_)
  · exact ret_Z ⟨by decide, by decide⟩ G (Ext.refl (b := b) (σ := σ)) (R.le (by omega) (by omega) (by omega) (by omega)) (by first | trivial | assumption | omega | (dsimp only; omega))
  · refine wgF (G.tg 3) (G.fi 6 (i := 3) (f := 0) (j := 4)) ?_
    refine wtN (G.tg 4) ?_
    refine cl_U (s_has4 (by omega) G) (fun z9_7 rz9_7 fz9_7 => ?_)
    refine sf_if (fun c8 => ?_) (fun c8 => ?_)
    · exact ret_Z ⟨by decide, by decide⟩ G (Ext.refl (b := b) (σ := σ)) (R.le (by omega) (by omega) (by omega) (by omega)) (by first | trivial | assumption | omega | (dsimp only; omega))
    · refine wgF (G.tg 3) (G.fi 8 (i := 3) (f := 2) (j := 8)) ?_
      refine wck ⟨by omega, by omega⟩ (fun z12_10 hz12_10 => ?_)
      refine wck ⟨by omega, by omega⟩ (fun z13_11 hz13_11 => ?_)
      refine wwN (G.tg 8) (G.ln 8 (n := 64)) ⟨by omega, by omega⟩ (fun s12 ws12 => ?_)
      obtain ⟨Gs12, es12, Rs12, Fs12, Vs12⟩ := P0 G R ws12 (gpr_c (by decide)) (by first | assumption | exact inR_of _ | exact ⟨by omega, by omega⟩) (by intro lo hi q; cases q <;> omega)
      have E13 := (Ext.refl (b := b) (σ := σ)).trans es12
      have n4_2_s12 := Gs12.nu 4 2
      have n9_2_s12 := Gs12.nu 9 2
      refine wgN (Gs12.tg 3) (fun z15_14 hz15_14 => ?_)
      have fz15_14 := Gs12.nu 3 4
      have rz15_14 : inR z15_14 := hz15_14 ▸ Gs12.ir _ _
      refine wck ⟨by omega, by omega⟩ (fun z16_15 hz16_15 => ?_)
      refine wpN (Gs12.tg 3) (fun s16 ws16 => ?_)
      obtain ⟨Gs16, es16, Rs16, Fs16⟩ := Pcnt Gs12 Rs12 ws16 (by decide) (by omega)
      have E17 := E13.trans es16
      have n4_2_s16 := Gs16.nu 4 2
      have n9_2_s16 := Gs16.nu 9 2
      exact ret_Z ⟨by decide, by decide⟩ Gs16 E17 (Rs16.le (by omega) (by omega) (by omega) (by omega)) (by first | trivial | assumption | omega | (dsimp only; omega))
theorem s_addName (hd : 8 ≤ d) (G : GG bd b σ) (R : RR bd b σ (k) (s) (o) (z)) {n t x v : Int} (t_n : oN σ n) (t_t : oN σ t) (rt : inR t) (rx : inR x) (t_v : oNN σ v) (rv : inR v) : sf (RC bd d 16 σ [((b + 3 : Nat) : Int), ((b + 1 : Nat) : Int), n, t, x, v]) (PZ bd b σ k s o z (fun _ _ => True)) := by
  obtain ⟨d, rfl⟩ : ∃ d0, d = d0 + 1 := ⟨d - 1, by omega⟩
  rw [rc_X0_addName (by omega)]
  refine fin_Z ?_
  unfold pc_X0_addName_0
  have n4_2_σ := G.nu 4 2
  have n9_2_σ := G.nu 9 2
  refine wgF (G.tg 3) (G.fi 9 (i := 3) (f := 5) (j := 9)) ?_
  refine wtN (G.tg 9) ?_
  refine cl_U (s_isFull9 (by omega) G) (fun z4_3 rz4_3 fz4_3 => ?_)
  refine sf_if (fun c4 => ?_) (fun c4 => ?_)
  · refine wgF (G.tg 3) (G.fi 9 (i := 3) (f := 5) (j := 9)) ?_
    refine wgN (G.tg 9) (fun z7_6 hz7_6 => ?_)
    have fz7_6 := G.nu 9 2
    have rz7_6 : inR z7_6 := hz7_6 ▸ G.ir _ _
    refine wgF (G.tg 3) (G.fi 10 (i := 3) (f := 6) (j := 12)) ?_
    refine sf_tn (Or.inr t_t.tg) ?_
    refine wwN (G.tg 12) (G.ln 12 (n := 100)) ⟨by omega, by omega⟩ (fun s8 ws8 => ?_)
    obtain ⟨Gs8, es8, Rs8, Fs8, Vs8⟩ := P12 G R ws8 t_t rt
    have E9 := (Ext.refl (b := b) (σ := σ)).trans es8
    have t_n := t_n.up es8
    have t_v := t_v.up es8
    have n4_2_s8 := Gs8.nu 4 2
    have n9_2_s8 := Gs8.nu 9 2
    have q9 := Fs8 (b + 9) 2 (Or.inl (by omega))
    have V9 := Vs8
    refine wgF (Gs8.tg 3) (Gs8.fi 11 (i := 3) (f := 7) (j := 13)) ?_
    refine sf_tn t_v ?_
    refine wwN (Gs8.tg 13) (Gs8.ln 13 (n := 100)) ⟨by omega, by omega⟩ (fun s11 ws11 => ?_)
    obtain ⟨Gs11, es11, Rs11, Fs11⟩ := P13 Gs8 Rs8 ws11 t_v rv
    have E12 := E9.trans es11
    have t_n := t_n.up es11
    have n4_2_s11 := Gs11.nu 4 2
    have n9_2_s11 := Gs11.nu 9 2
    have q11 := Fs11 (b + 9) 2 (Or.inl (by omega))
    have V11 := (Fs11 (b + 12) (z7_6).toNat (Or.inl (by omega))).trans V9
    refine wgF (Gs11.tg 3) (Gs11.fi 12 (i := 3) (f := 8) (j := 14)) ?_
    refine wwN (Gs11.tg 14) (Gs11.ln 14 (n := 100)) ⟨by omega, by omega⟩ (fun s14 ws14 => ?_)
    obtain ⟨Gs14, es14, Rs14, Fs14, Vs14⟩ := P0 Gs11 Rs11 ws14 (gpr_c (by decide)) (by first | assumption | exact inR_of _ | exact ⟨by omega, by omega⟩) (by intro lo hi q; cases q <;> omega)
    have E15 := E12.trans es14
    have t_n := t_n.up es14
    have n4_2_s14 := Gs14.nu 4 2
    have n9_2_s14 := Gs14.nu 9 2
    have q13 := Fs14 (b + 9) 2 (Or.inl (by omega))
    have V13 := (Fs14 (b + 12) (z7_6).toNat (Or.inl (by omega))).trans V11
    have ho97 : c_pv s14 (b + 9) 2 < 100 → oN s14 (c_pv s14 (b + 12) (c_pv s14 (b + 9) 2).toNat) := by
      intro _
      have q : (c_pv s14 (b + 9) 2).toNat = (z7_6).toNat := by omega
      rw [q, V13]
      exact ((t_t.up es8).up es11).up es14
    refine wgF (Gs14.tg 3) (Gs14.fi 9 (i := 3) (f := 5) (j := 9)) ?_
    refine wg t_n.tg (fun z15_17 hz15_17 => ?_)
    have rz15_17 : inR z15_17 := hz15_17 ▸ Gs14.ir _ _
    have fz15_17 := Gs14.n4 t_n.tg
    rw [hz15_17] at fz15_17
    refine wg t_n.tg (fun z16_18 hz16_18 => ?_)
    have rz16_18 : inR z16_18 := hz16_18 ▸ Gs14.ir _ _
    have fz16_18 := Gs14.n5 t_n.tg
    rw [hz16_18] at fz16_18
    refine wtN (Gs14.tg 9) ?_
    refine cl_Z (s_add9 (k := k) (s := s) (o := o) (z := z) (by omega) Gs14 (Rs14.le (by omega) (by omega) (by omega) (by omega)) (oBy.tape Gs14) (by decide) (by omega) ⟨by omega, by omega⟩ ho97) (fun s19 z19_20 rz19_20 Gs19 es19 Rs19 fz19_20 => ?_)
    have E21 := E15.trans es19
    have n4_2_s19 := Gs19.nu 4 2
    have n9_2_s19 := Gs19.nu 9 2
    exact ret_Z ⟨by decide, by decide⟩ Gs19 E21 (Rs19.le (by omega) (by omega) (by omega) (by omega)) (by first | trivial | assumption | omega | (dsimp only; omega))
  · exact ret_Z ⟨by decide, by decide⟩ G (Ext.refl (b := b) (σ := σ)) (R.le (by omega) (by omega) (by omega) (by omega)) (by first | trivial | assumption | omega | (dsimp only; omega))
theorem s_clear57 : ∀ (n : Nat) {σ : CS} {j : Int}, GG bd b σ → RR bd b σ k s o z → 0 ≤ j → (64 - j < (n : Int) ∧ 0 < n) → c_pv σ (b + 3) 10 = 0 → sf (pc_X0_clear_57 (RC bd d) bd n σ ((b + 3 : Nat) : Int) j) (PC bd b σ k s o z (fun σ' _ => c_pv σ' (b + 3) 10 = 0)) := by
  intro n
  induction n with
  | zero =>
    intro σ j G R hj hn mc
    omega
  | succ n ih =>
    intro σ j G R hj hn mc
    unfold pc_X0_clear_57
    refine wgF (G.tg 3) (G.fi 8 (i := 3) (f := 2) (j := 8)) ?_
    refine wlN (G.tg 8) (G.ln 8 (n := 64)) (by decide) (fun z2_2 hz2_2 => ?_)
    refine sf_if (fun c3 => ?_) (fun c3 => ?_)
    · exact ret_C ⟨by decide, by decide⟩ G (ExtC.refl (b := b) (σ := σ)) (R.le (by omega) (by omega) (by omega) (by omega)) (by first | trivial | assumption | omega | (dsimp only; omega))
    · refine wgF (G.tg 3) (G.fi 8 (i := 3) (f := 2) (j := 8)) ?_
      refine wwN (G.tg 8) (G.ln 8 (n := 64)) ⟨by omega, by omega⟩ (fun s5 ws5 => ?_)
      obtain ⟨Gs5, es5, Rs5, Fs5, Vs5⟩ := P0 G R ws5 (gpr_c (by decide)) ⟨by decide, by decide⟩ (by intro lo hi q; cases q <;> omega)
      have E6 := (ExtC.refl (b := b) (σ := σ)).trans es5.c
      have mc := es5.mC.trans mc
      refine wck ⟨by omega, by omega⟩ (fun z6_7 hz6_7 => ?_)
      exact tr_C E6 (ih Gs5 Rs5 (by omega) (by omega) mc)
theorem s_clear33 : ∀ (n : Nat) {σ : CS} {j : Int}, GG bd b σ → RR bd b σ k s o z → 0 ≤ j → (8 - j < (n : Int) ∧ 0 < n) → c_pv σ (b + 3) 10 = 0 → sf (pc_X0_clear_33 (RC bd d) bd n σ ((b + 3 : Nat) : Int) j) (PC bd b σ k s o z (fun σ' _ => c_pv σ' (b + 3) 10 = 0)) := by
  intro n
  induction n with
  | zero =>
    intro σ j G R hj hn mc
    omega
  | succ n ih =>
    intro σ j G R hj hn mc
    unfold pc_X0_clear_33
    refine wgF (G.tg 3) (G.fi 7 (i := 3) (f := 1) (j := 7)) ?_
    refine wlN (G.tg 7) (G.ln 7 (n := 8)) (by decide) (fun z2_2 hz2_2 => ?_)
    refine sf_if (fun c3 => ?_) (fun c3 => ?_)
    · exact s_clear57 _ G R (by decide) ⟨by decide, by decide⟩ mc
    · refine wgF (G.tg 3) (G.fi 7 (i := 3) (f := 1) (j := 7)) ?_
      refine wwN (G.tg 7) (G.ln 7 (n := 8)) ⟨by omega, by omega⟩ (fun s5 ws5 => ?_)
      obtain ⟨Gs5, es5, Rs5, Fs5, Vs5⟩ := P0 G R ws5 (gpr_c (by decide)) ⟨by decide, by decide⟩ (by intro lo hi q; cases q <;> omega)
      have E6 := (ExtC.refl (b := b) (σ := σ)).trans es5.c
      have mc := es5.mC.trans mc
      refine wck ⟨by omega, by omega⟩ (fun z6_7 hz6_7 => ?_)
      exact tr_C E6 (ih Gs5 Rs5 (by omega) (by omega) mc)
theorem s_clear (hd : 6 ≤ d) (G : GG bd b σ) (R : RR bd b σ (k) (s) (o) (z))  : sf (RC bd d 18 σ [((b + 3 : Nat) : Int)]) (PC bd b σ k s o z (fun σ' _ => c_pv σ' (b + 3) 10 = 0)) := by
  obtain ⟨d, rfl⟩ : ∃ d0, d = d0 + 1 := ⟨d - 1, by omega⟩
  rw [rc_X0_clear (by omega)]
  refine fin_C ?_
  unfold pc_X0_clear_0
  refine wgF (G.tg 3) (G.fi 6 (i := 3) (f := 0) (j := 4)) ?_
  refine wpN (G.tg 4) (fun s2 ws2 => ?_)
  obtain ⟨Gs2, es2, Rs2, Fs2, Vs2⟩ := P0 G R ws2 (by decide) ⟨by decide, by decide⟩ (by intro lo hi q; cases q <;> omega)
  have E3 := (ExtC.refl (b := b) (σ := σ)).trans es2.c
  refine wgF (Gs2.tg 3) (Gs2.fi 9 (i := 3) (f := 5) (j := 9)) ?_
  refine wpN (Gs2.tg 9) (fun s5 ws5 => ?_)
  obtain ⟨Gs5, es5, Rs5, Fs5, Vs5⟩ := P92 Gs2 Rs2 ws5 ⟨by decide, by decide⟩ (by obtain ⟨w1, w2, w, h1, h2, h3, h4⟩ := Gs2.2.2.2.1; exact ⟨w, h1, by omega, h3, h4⟩)
  have E6 := E3.trans es5.c
  refine wpN (Gs5.tg 3) (fun s7 ws7 => ?_)
  obtain ⟨Gs7, es7, Rs7, Fs7, Vs7⟩ := P310 Gs5 Rs5 ws7 ⟨by decide, by decide⟩
  have E8 := E6.trans es7.c
  have mc := Vs7
  refine wpN (Gs7.tg 3) (fun s9 ws9 => ?_)
  obtain ⟨Gs9, es9, Rs9, Fs9⟩ := Pcnt0 Gs7 Rs7 ws9 (by decide)
  have E10 := E8.trans es9.c
  have mc := es9.mC.trans mc
  refine wpN (Gs9.tg 3) (fun s11 ws11 => ?_)
  obtain ⟨Gs11, es11, Rs11, Fs11⟩ := Pcnt0 Gs9 Rs9 ws11 (by decide)
  have E12 := E10.trans es11.c
  have mc := es11.mC.trans mc
  exact tr_C E12 (s_clear33 _ Gs11 Rs11 (by decide) ⟨by decide, by decide⟩ mc)
theorem s_loadCorner (hd : 8 ≤ d) (G : GG bd b σ) (R : RR bd b σ (k) (s) (o) (z + 10)) {x : Int} : sf (RC bd d 20 σ [((b + 3 : Nat) : Int), x]) (PC bd b σ k s o z (fun σ' _ => c_pv σ' (b + 3) 10 = 0)) := by
  obtain ⟨d, rfl⟩ : ∃ d0, d = d0 + 1 := ⟨d - 1, by omega⟩
  rw [rc_X0_loadCorner (by omega)]
  refine fin_C ?_
  unfold pc_X0_loadCorner_0
  refine wtN (G.tg 3) ?_
  refine cl_C (s_clear (k := k) (s := s) (o := o) (z := z + 10) (by omega) G (R.le (by omega) (by omega) (by omega) (by omega))) (fun s1 z3_2 rz3_2 Gs1 es1 Rs1 fz3_2 => ?_)
  have E3 := (ExtC.refl (b := b) (σ := σ)).trans es1.c
  have mc := fz3_2
  refine sf_if (fun c4 => ?_) (fun c4 => ?_)
  · refine wgF (Gs1.tg 3) (Gs1.fi 6 (i := 3) (f := 0) (j := 4)) ?_
    refine sf_gs (by have := Gs1.st.2.2.1 20; omega) ?_
    refine wtN (Gs1.tg 4) ?_
    refine cl_Z (s_add4 (k := k) (s := s) (o := o) (z := z + 10) (by omega) Gs1 (Rs1.le (by omega) (by omega) (by omega) (by omega)) (oBy.corner Gs1) (by decide) (by omega) ⟨by omega, by omega⟩) (fun s6 z9_7 rz9_7 Gs6 es6 Rs6 fz9_7 => ?_)
    have E8 := E3.trans es6.c
    have mc := es6.mC.trans mc
    refine wgF (Gs6.tg 3) (Gs6.fi 6 (i := 3) (f := 0) (j := 4)) ?_
    refine sf_gs (by have := Gs6.st.2.2.1 20; omega) ?_
    refine wtN (Gs6.tg 4) ?_
    refine cl_Z (s_add4 (k := k) (s := s) (o := o) (z := z + 10) (by omega) Gs6 (Rs6.le (by omega) (by omega) (by omega) (by omega)) (oBy.corner Gs6) (by decide) (by omega) ⟨by omega, by omega⟩) (fun s10 z14_11 rz14_11 Gs10 es10 Rs10 fz14_11 => ?_)
    have E12 := E8.trans es10.c
    have mc := es10.mC.trans mc
    refine wtN (Gs10.tg 3) ?_
    refine cl_Z (s_setAxiom (k := k) (s := s) (o := o) (z := z + 9) (by omega) Gs10 (Rs10.le (by omega) (by omega) (by omega) (by omega)) ⟨by omega, by omega⟩) (fun s13 z17_14 rz17_14 Gs13 es13 Rs13 fz17_14 => ?_)
    have E15 := E12.trans es13.c
    have mc := es13.mC.trans mc
    refine wtN (Gs13.tg 3) ?_
    refine cl_Z (s_setRule (k := k) (s := s) (o := o) (z := z + 8) (by omega) Gs13 (Rs13.le (by omega) (by omega) (by omega) (by omega)) ⟨by omega, by omega⟩) (fun s16 z20_17 rz20_17 Gs16 es16 Rs16 fz20_17 => ?_)
    have E18 := E15.trans es16.c
    have mc := es16.mC.trans mc
    refine wnm (fun z21_19 hz21_19 => ?_)
    refine sf_if (fun c20 => ?_) (fun c20 => ?_)
    · unfold pc_X0_loadCorner_61
      refine wnm (fun z1_21 hz1_21 => ?_)
      refine sf_if (fun c22 => ?_) (fun c22 => ?_)
      · unfold pc_X0_loadCorner_74
        refine wnm (fun z1_23 hz1_23 => ?_)
        refine sf_if (fun c24 => ?_) (fun c24 => ?_)
        · exact ret_C ⟨by decide, by decide⟩ Gs16 E18 (Rs16.le (by omega) (by omega) (by omega) (by omega)) (by first | trivial | assumption | omega | (dsimp only; omega))
        · refine wtN (Gs16.tg 3) ?_
          refine cl_Z (s_setRule (k := k) (s := s) (o := o) (z := z + 7) (by omega) Gs16 (Rs16.le (by omega) (by omega) (by omega) (by omega)) ⟨by omega, by omega⟩) (fun s25 z5_26 rz5_26 Gs25 es25 Rs25 fz5_26 => ?_)
          have E27 := E18.trans es25.c
          have mc := es25.mC.trans mc
          exact ret_C ⟨by decide, by decide⟩ Gs25 E27 (Rs25.le (by omega) (by omega) (by omega) (by omega)) (by first | trivial | assumption | omega | (dsimp only; omega))
      · refine wtN (Gs16.tg 3) ?_
        refine cl_Z (s_setRule (k := k) (s := s) (o := o) (z := z + 7) (by omega) Gs16 (Rs16.le (by omega) (by omega) (by omega) (by omega)) ⟨by omega, by omega⟩) (fun s28 z5_29 rz5_29 Gs28 es28 Rs28 fz5_29 => ?_)
        have E30 := E18.trans es28.c
        have mc := es28.mC.trans mc
        unfold pc_X0_loadCorner_74
        refine wnm (fun z1_31 hz1_31 => ?_)
        refine sf_if (fun c32 => ?_) (fun c32 => ?_)
        · exact ret_C ⟨by decide, by decide⟩ Gs28 E30 (Rs28.le (by omega) (by omega) (by omega) (by omega)) (by first | trivial | assumption | omega | (dsimp only; omega))
        · refine wtN (Gs28.tg 3) ?_
          refine cl_Z (s_setRule (k := k) (s := s) (o := o) (z := z + 6) (by omega) Gs28 (Rs28.le (by omega) (by omega) (by omega) (by omega)) ⟨by omega, by omega⟩) (fun s33 z5_34 rz5_34 Gs33 es33 Rs33 fz5_34 => ?_)
          have E35 := E30.trans es33.c
          have mc := es33.mC.trans mc
          exact ret_C ⟨by decide, by decide⟩ Gs33 E35 (Rs33.le (by omega) (by omega) (by omega) (by omega)) (by first | trivial | assumption | omega | (dsimp only; omega))
    · refine wtN (Gs16.tg 3) ?_
      refine cl_Z (s_setRule (k := k) (s := s) (o := o) (z := z + 7) (by omega) Gs16 (Rs16.le (by omega) (by omega) (by omega) (by omega)) ⟨by omega, by omega⟩) (fun s36 z25_37 rz25_37 Gs36 es36 Rs36 fz25_37 => ?_)
      have E38 := E18.trans es36.c
      have mc := es36.mC.trans mc
      unfold pc_X0_loadCorner_61
      refine wnm (fun z1_39 hz1_39 => ?_)
      refine sf_if (fun c40 => ?_) (fun c40 => ?_)
      · unfold pc_X0_loadCorner_74
        refine wnm (fun z1_41 hz1_41 => ?_)
        refine sf_if (fun c42 => ?_) (fun c42 => ?_)
        · exact ret_C ⟨by decide, by decide⟩ Gs36 E38 (Rs36.le (by omega) (by omega) (by omega) (by omega)) (by first | trivial | assumption | omega | (dsimp only; omega))
        · refine wtN (Gs36.tg 3) ?_
          refine cl_Z (s_setRule (k := k) (s := s) (o := o) (z := z + 6) (by omega) Gs36 (Rs36.le (by omega) (by omega) (by omega) (by omega)) ⟨by omega, by omega⟩) (fun s43 z5_44 rz5_44 Gs43 es43 Rs43 fz5_44 => ?_)
          have E45 := E38.trans es43.c
          have mc := es43.mC.trans mc
          exact ret_C ⟨by decide, by decide⟩ Gs43 E45 (Rs43.le (by omega) (by omega) (by omega) (by omega)) (by first | trivial | assumption | omega | (dsimp only; omega))
      · refine wtN (Gs36.tg 3) ?_
        refine cl_Z (s_setRule (k := k) (s := s) (o := o) (z := z + 6) (by omega) Gs36 (Rs36.le (by omega) (by omega) (by omega) (by omega)) ⟨by omega, by omega⟩) (fun s46 z5_47 rz5_47 Gs46 es46 Rs46 fz5_47 => ?_)
        have E48 := E38.trans es46.c
        have mc := es46.mC.trans mc
        unfold pc_X0_loadCorner_74
        refine wnm (fun z1_49 hz1_49 => ?_)
        refine sf_if (fun c50 => ?_) (fun c50 => ?_)
        · exact ret_C ⟨by decide, by decide⟩ Gs46 E48 (Rs46.le (by omega) (by omega) (by omega) (by omega)) (by first | trivial | assumption | omega | (dsimp only; omega))
        · refine wtN (Gs46.tg 3) ?_
          refine cl_Z (s_setRule (k := k) (s := s) (o := o) (z := z + 5) (by omega) Gs46 (Rs46.le (by omega) (by omega) (by omega) (by omega)) ⟨by omega, by omega⟩) (fun s51 z5_52 rz5_52 Gs51 es51 Rs51 fz5_52 => ?_)
          have E53 := E48.trans es51.c
          have mc := es51.mC.trans mc
          exact ret_C ⟨by decide, by decide⟩ Gs51 E53 (Rs51.le (by omega) (by omega) (by omega) (by omega)) (by first | trivial | assumption | omega | (dsimp only; omega))
  · exact ret_C ⟨by decide, by decide⟩ Gs1 E3 (Rs1.le (by omega) (by omega) (by omega) (by omega)) (by first | trivial | assumption | omega | (dsimp only; omega))
theorem s_begin2 {y : Int} (ry : inR y) : ∀ (n : Nat) {σ : CS} {j : Int}, GG bd b σ → RR bd b σ k s o z → 0 ≤ j → (7 - j < (n : Int) ∧ 0 < n) → sf (pc_X4_begin_2 (RC bd d) bd n σ ((b + 16 : Nat) : Int) y j) (PZ bd b σ k s o z (fun _ _ => True)) := by
  intro n
  induction n with
  | zero =>
    intro σ j G R hj hn
    omega
  | succ n ih =>
    intro σ j G R hj hn
    unfold pc_X4_begin_2
    refine wgF (G.tg 16) (G.fi 20 (i := 16) (f := 2) (j := 17)) ?_
    refine wlN (G.tg 17) (G.ln 17 (n := 7)) (by decide) (fun z2_2 hz2_2 => ?_)
    refine sf_if (fun c3 => ?_) (fun c3 => ?_)
    · refine wpN (G.tg 16) (fun s4 ws4 => ?_)
      obtain ⟨Gs4, es4, Rs4, Fs4, Vs4⟩ := P0 G R ws4 (by decide) (by first | assumption | exact inR_of _ | exact ⟨by omega, by omega⟩) (by intro lo hi q; cases q <;> omega)
      have E5 := (Ext.refl (b := b) (σ := σ)).trans es4
      exact ret_Z ⟨by decide, by decide⟩ Gs4 E5 (Rs4.le (by omega) (by omega) (by omega) (by omega)) (by first | trivial | assumption | omega | (dsimp only; omega))
    · refine wgF (G.tg 16) (G.fi 20 (i := 16) (f := 2) (j := 17)) ?_
      refine wwN (G.tg 17) (G.ln 17 (n := 7)) ⟨by omega, by omega⟩ (fun s7 ws7 => ?_)
      obtain ⟨Gs7, es7, Rs7⟩ := P17 G R ws7
      have E8 := (Ext.refl (b := b) (σ := σ)).trans es7
      refine wck ⟨by omega, by omega⟩ (fun z7_9 hz7_9 => ?_)
      exact tr_Z E8 (ih Gs7 Rs7 (by omega) (by omega))
theorem s_begin (hd : 6 ≤ d) (G : GG bd b σ) (R : RR bd b σ (k) (s) (o) (z)) {y : Int} (ry : inR y) : sf (RC bd d 81 σ [((b + 16 : Nat) : Int), y]) (PZ bd b σ k s o z (fun _ _ => True)) := by
  obtain ⟨d, rfl⟩ : ∃ d0, d = d0 + 1 := ⟨d - 1, by omega⟩
  rw [rc_X4_begin (by omega)]
  refine fin_Z ?_
  unfold pc_X4_begin_0
  exact s_begin2 ry _ G R (by decide) ⟨by decide, by decide⟩
theorem s_putAnswer14_1 (hd : 7 ≤ d) : ∀ (n : Nat) {σ : CS} {j : Int}, GG bd b σ → RR bd b σ k s (o + 1 + (3 - j).toNat) z → 0 ≤ j → (3 - j < (n : Int) ∧ 0 < n) → sf (pc_X4_putAnswer_14 (RC bd d) bd n σ ((b + 16 : Nat) : Int) ((bd.2.2 1 : Nat) : Int) j) (PZ bd b σ k s o z (fun _ _ => True)) := by
  intro n
  induction n with
  | zero =>
    intro σ j G R hj hn
    omega
  | succ n ih =>
    intro σ j G R hj hn
    have hl := cs_len1
    unfold pc_X4_putAnswer_14
    refine wsn 1 G (fun z1_1 hz1_1 => ?_)
    refine sf_if (fun c2 => ?_) (fun c2 => ?_)
    · refine wtN (G.tg 16) ?_
      refine cl_Z (s_put (k := k) (s := s) (o := o + (3 - j).toNat) (z := z) (by omega) G (R.le (by omega) (by omega) (by omega) (by omega))) (fun s3 z5_4 rz5_4 Gs3 es3 Rs3 fz5_4 => ?_)
      have E5 := (Ext.refl (b := b) (σ := σ)).trans es3
      exact ret_Z ⟨by decide, by decide⟩ Gs3 E5 (Rs3.le (by omega) (by omega) (by omega) (by omega)) (by first | trivial | assumption | omega | (dsimp only; omega))
    · refine wsc 1 G ⟨by omega, by omega⟩ (fun z6_6 rz6_6 => ?_)
      refine wtN (G.tg 16) ?_
      refine cl_Z (s_put (k := k) (s := s) (o := o + 1 + (3 - j - 1).toNat) (z := z) (by omega) G (R.le (by omega) (by omega) (by omega) (by omega))) (fun s7 z9_8 rz9_8 Gs7 es7 Rs7 fz9_8 => ?_)
      have E9 := (Ext.refl (b := b) (σ := σ)).trans es7
      refine wck ⟨by omega, by omega⟩ (fun z10_10 hz10_10 => ?_)
      exact tr_Z E9 (ih Gs7 (Rs7.le (by omega) (by omega) (by omega) (by omega)) (by omega) (by omega))
theorem s_putAnswer14_2 (hd : 7 ≤ d) : ∀ (n : Nat) {σ : CS} {j : Int}, GG bd b σ → RR bd b σ k s (o + 1 + (2 - j).toNat) z → 0 ≤ j → (2 - j < (n : Int) ∧ 0 < n) → sf (pc_X4_putAnswer_14 (RC bd d) bd n σ ((b + 16 : Nat) : Int) ((bd.2.2 2 : Nat) : Int) j) (PZ bd b σ k s o z (fun _ _ => True)) := by
  intro n
  induction n with
  | zero =>
    intro σ j G R hj hn
    omega
  | succ n ih =>
    intro σ j G R hj hn
    have hl := cs_len2
    unfold pc_X4_putAnswer_14
    refine wsn 2 G (fun z1_1 hz1_1 => ?_)
    refine sf_if (fun c2 => ?_) (fun c2 => ?_)
    · refine wtN (G.tg 16) ?_
      refine cl_Z (s_put (k := k) (s := s) (o := o + (2 - j).toNat) (z := z) (by omega) G (R.le (by omega) (by omega) (by omega) (by omega))) (fun s3 z5_4 rz5_4 Gs3 es3 Rs3 fz5_4 => ?_)
      have E5 := (Ext.refl (b := b) (σ := σ)).trans es3
      exact ret_Z ⟨by decide, by decide⟩ Gs3 E5 (Rs3.le (by omega) (by omega) (by omega) (by omega)) (by first | trivial | assumption | omega | (dsimp only; omega))
    · refine wsc 2 G ⟨by omega, by omega⟩ (fun z6_6 rz6_6 => ?_)
      refine wtN (G.tg 16) ?_
      refine cl_Z (s_put (k := k) (s := s) (o := o + 1 + (2 - j - 1).toNat) (z := z) (by omega) G (R.le (by omega) (by omega) (by omega) (by omega))) (fun s7 z9_8 rz9_8 Gs7 es7 Rs7 fz9_8 => ?_)
      have E9 := (Ext.refl (b := b) (σ := σ)).trans es7
      refine wck ⟨by omega, by omega⟩ (fun z10_10 hz10_10 => ?_)
      exact tr_Z E9 (ih Gs7 (Rs7.le (by omega) (by omega) (by omega) (by omega)) (by omega) (by omega))
theorem s_putAnswer (hd : 8 ≤ d) (G : GG bd b σ) (R : RR bd b σ (k) (s) (o + 4) (z)) {y : Int} : sf (RC bd d 89 σ [((b + 16 : Nat) : Int), y]) (PZ bd b σ k s o z (fun _ _ => True)) := by
  obtain ⟨d, rfl⟩ : ∃ d0, d = d0 + 1 := ⟨d - 1, by omega⟩
  rw [rc_X4_putAnswer (by omega)]
  refine fin_Z ?_
  unfold pc_X4_putAnswer_0
  refine sf_if (fun c1 => ?_) (fun c1 => ?_)
  · refine sf_gs (by have := G.st.2.2.1 2; omega) ?_
    unfold pc_X4_putAnswer_11
    first | exact s_putAnswer14_1 (by omega) _ G (R.le (by omega) (by omega) (by omega) (by omega)) (by decide) ⟨by decide, by decide⟩ | exact s_putAnswer14_2 (by omega) _ G (R.le (by omega) (by omega) (by omega) (by omega)) (by decide) ⟨by decide, by decide⟩
  · refine sf_gs (by have := G.st.2.2.1 1; omega) ?_
    unfold pc_X4_putAnswer_11
    first | exact s_putAnswer14_1 (by omega) _ G (R.le (by omega) (by omega) (by omega) (by omega)) (by decide) ⟨by decide, by decide⟩ | exact s_putAnswer14_2 (by omega) _ G (R.le (by omega) (by omega) (by omega) (by omega)) (by decide) ⟨by decide, by decide⟩
end CB3
