section CMA
variable {bd : cBd} {b d : Nat} {σ σ1 σ2 σ3 : CS} {Q : CS → Nat → Int → Prop} {k s o z : Nat}
theorem s_lengthOf4 : ∀ (n : Nat) {m : Nat} {a x : Int}, GG bd b σ → pl σ m x → m < n → 0 ≤ a → a + m ≤ 1000000 → sf (pc_X3_lengthOf_4 (RC bd d) bd n σ a x) (PU σ (fun r => r = a + m)) := by
  intro n
  induction n with
  | zero =>
    intro m a x G hp hn h0 h1
    omega
  | succ n ih =>
    intro m a x G hp hn h0 h1
    unfold pc_X3_lengthOf_4
    cases m with
    | zero =>
      rw [if_pos (show x < 0 from hp)]
      exact ret_U ⟨by omega, by omega⟩ (by omega)
    | succ m =>
      obtain ⟨hp1, hp2⟩ := hp
      rw [if_neg (by have := hp1.1; omega)]
      refine wck ⟨by omega, by omega⟩ (fun y hy => ?_)
      refine sf_g hp1.tg ?_
      exact sf_mono (ih G hp2 (by omega) (by omega) (by omega)) (fun σ' kd r q => ⟨q.1, q.2.1, q.2.2.1, by have := q.2.2.2; omega⟩)
theorem s_lengthOf (hd : 6 ≤ d) (G : GG bd b σ) {x : Int} {m : Nat} (hp : pl σ m x) (hm : m ≤ 100000) : sf (RC bd d 79 σ [x]) (PU σ (fun r => r = (m : Int))) := by
  obtain ⟨d, rfl⟩ : ∃ d0, d = d0 + 1 := ⟨d - 1, by omega⟩
  rw [rc_X3_lengthOf (by omega)]
  refine fin_U ?_
  unfold pc_X3_lengthOf_0
  exact sf_mono (s_lengthOf4 _ G hp (by omega) (by omega) (by omega)) (fun σ' kd r q => ⟨q.1, q.2.1, q.2.2.1, by have := q.2.2.2; omega⟩)
theorem s_put (hd : 6 ≤ d) (G : GG bd b σ) (R : RR bd b σ (k) (s) (o + 1) (z)) {x : Int} : sf (RC bd d 88 σ [((b + 16 : Nat) : Int), x]) (PZ bd b σ k s o z (fun _ _ => True)) := by
  obtain ⟨d, rfl⟩ : ∃ d0, d = d0 + 1 := ⟨d - 1, by omega⟩
  rw [rc_X4_put (by omega)]
  refine fin_Z ?_
  unfold pc_X4_put_0
  have n4_2_σ := G.nu 4 2
  have n9_2_σ := G.nu 9 2
  refine wgN (G.tg 16) (fun z1_1 hz1_1 => ?_)
  have fz1_1 := G.nu 16 7
  have rz1_1 : inR z1_1 := hz1_1 ▸ G.ir _ _
  refine wgF (G.tg 16) (G.fi 21 (i := 16) (f := 6) (j := 18)) ?_
  refine wlN (G.tg 18) (G.ln 18 (n := 3000)) (by decide) (fun z3_3 hz3_3 => ?_)
  refine sf_if (fun c4 => ?_) (fun c4 => ?_)
  · unfold pc_X4_put_23
    refine wgN (G.tg 16) (fun z1_5 hz1_5 => ?_)
    have fz1_5 := G.nu 16 7
    have rz1_5 : inR z1_5 := hz1_5 ▸ G.ir _ _
    refine wck ⟨by omega, by omega⟩ (fun z2_6 hz2_6 => ?_)
    refine wpN (G.tg 16) (fun s7 ws7 => ?_)
    obtain ⟨Gs7, es7, Rs7⟩ := Pout G R ws7 (by omega)
    have E8 := (Ext.refl (b := b) (σ := σ)).trans es7
    have n4_2_s7 := Gs7.nu 4 2
    have n9_2_s7 := Gs7.nu 9 2
    exact ret_Z ⟨by decide, by decide⟩ Gs7 E8 (Rs7.le (by omega) (by omega) (by omega) (by omega)) (by first | trivial | assumption | omega | (dsimp only; omega))
  · refine wgF (G.tg 16) (G.fi 21 (i := 16) (f := 6) (j := 18)) ?_
    refine wgN (G.tg 16) (fun z6_10 hz6_10 => ?_)
    have fz6_10 := G.nu 16 7
    have rz6_10 : inR z6_10 := hz6_10 ▸ G.ir _ _
    refine wnm (fun z7_11 hz7_11 => ?_)
    refine wwN (G.tg 18) (G.ln 18 (n := 3000)) ⟨by omega, by omega⟩ (fun s12 ws12 => ?_)
    obtain ⟨Gs12, es12, Rs12, Fs12, Vs12⟩ := P0 G R ws12 (gpr_c (by decide)) (by first | assumption | exact inR_of _ | exact ⟨by omega, by omega⟩) (by intro lo hi q; cases q <;> omega)
    have E13 := (Ext.refl (b := b) (σ := σ)).trans es12
    have n4_2_s12 := Gs12.nu 4 2
    have n9_2_s12 := Gs12.nu 9 2
    unfold pc_X4_put_23
    refine wgN (Gs12.tg 16) (fun z1_14 hz1_14 => ?_)
    have fz1_14 := Gs12.nu 16 7
    have rz1_14 : inR z1_14 := hz1_14 ▸ Gs12.ir _ _
    refine wck ⟨by omega, by omega⟩ (fun z2_15 hz2_15 => ?_)
    refine wpN (Gs12.tg 16) (fun s16 ws16 => ?_)
    obtain ⟨Gs16, es16, Rs16⟩ := Pout Gs12 Rs12 ws16 (by omega)
    have E17 := E13.trans es16
    have n4_2_s16 := Gs16.nu 4 2
    have n9_2_s16 := Gs16.nu 9 2
    exact ret_Z ⟨by decide, by decide⟩ Gs16 E17 (Rs16.le (by omega) (by omega) (by omega) (by omega)) (by first | trivial | assumption | omega | (dsimp only; omega))
theorem s_putSigns22_4 : ∀ (n : Nat) {σ : CS} {o : Nat} {x y e : Int}, 8 ≤ d → GG bd b σ → 0 ≤ y → e ≤ 12 → (13 - y < n ∧ 0 < n) → RR bd b σ k s (o + (e - y).toNat) z → sf (pc_X4_putSigns_22 (RC bd d) bd n σ ((b + 16 : Nat) : Int) ((b + 4 : Nat) : Int) x e y) (PZ bd b σ k s o z (fun _ _ => True)) := by
  intro n
  induction n with
  | zero =>
    intro σ o x y e hd G h0 h1 hn R
    omega
  | succ n ih =>
    intro σ o x y e hd G h0 h1 hn R
    unfold pc_X4_putSigns_22
    have n4_2_σ := G.nu 4 2
    have n9_2_σ := G.nu 9 2
    refine sf_if (fun c1 => ?_) (fun c1 => ?_)
    · exact ret_Z ⟨by decide, by decide⟩ G (Ext.refl (b := b) (σ := σ)) (R.le (by omega) (by omega) (by omega) (by omega)) (by first | trivial | assumption | omega | (dsimp only; omega))
    · refine wtN (G.tg 4) ?_
      refine cl_U (s_signOf4 (by omega) G) (fun z4_3 rz4_3 fz4_3 => ?_)
      refine wtN (G.tg 16) ?_
      refine cl_Z (s_put (k := k) (s := s) (o := o + 0 + (e - y - 1).toNat) (z := z) (by omega) G (R.le (by omega) (by omega) (by omega) (by omega))) (fun s4 z7_5 rz7_5 Gs4 es4 Rs4 fz7_5 => ?_)
      have E6 := (Ext.refl (b := b) (σ := σ)).trans es4
      have n4_2_s4 := Gs4.nu 4 2
      have n9_2_s4 := Gs4.nu 9 2
      refine wck ⟨by omega, by omega⟩ (fun z8_7 hz8_7 => ?_)
      exact tr_Z E6 (ih (by omega) Gs4 (by omega) (by omega) (by omega) (Rs4.le (by omega) (by omega) (by omega) (by omega)))
theorem s_putSigns4 (hd : 9 ≤ d) (G : GG bd b σ) (R : RR bd b σ (k) (s) (o + 12) (z)) {x : Int} : sf (RC bd d 92 σ [((b + 16 : Nat) : Int), ((b + 4 : Nat) : Int), x]) (PZ bd b σ k s o z (fun _ _ => True)) := by
  obtain ⟨d, rfl⟩ : ∃ d0, d = d0 + 1 := ⟨d - 1, by omega⟩
  rw [rc_X4_putSigns (by omega)]
  refine fin_Z ?_
  unfold pc_X4_putSigns_0
  have n4_2_σ := G.nu 4 2
  have n9_2_σ := G.nu 9 2
  refine wtN (G.tg 4) ?_
  refine cl_U (s_has4 (by omega) G) (fun z3_2 rz3_2 fz3_2 => ?_)
  refine sf_if (fun c3 => ?_) (fun c3 => ?_)
  · unfold pc_X4_putSigns_18
    exact s_putSigns22_4 _ (by omega) G (by decide) (by omega) (by omega) (R.le (by omega) (by omega) (by omega) (by omega))
  · refine wgF (G.tg 4) (G.fi 15 (i := 4) (f := 1) (j := 6)) ?_
    refine wrN (G.tg 6) (G.ln 6 (n := 8)) ⟨by omega, by omega⟩ (fun z6_5 hz6_5 => ?_)
    have fz6_5 := G.nu 6 (x : Int).toNat (lo := 0) (hi := 12)
    have rz6_5 : inR z6_5 := hz6_5 ▸ G.ir _ _
    unfold pc_X4_putSigns_18
    exact s_putSigns22_4 _ (by omega) G (by decide) (by omega) (by omega) (R.le (by omega) (by omega) (by omega) (by omega))
theorem s_putSigns22_9 : ∀ (n : Nat) {σ : CS} {o : Nat} {x y e : Int}, 8 ≤ d → GG bd b σ → 0 ≤ y → e ≤ 12 → (13 - y < n ∧ 0 < n) → RR bd b σ k s (o + (e - y).toNat) z → sf (pc_X4_putSigns_22 (RC bd d) bd n σ ((b + 16 : Nat) : Int) ((b + 9 : Nat) : Int) x e y) (PZ bd b σ k s o z (fun _ _ => True)) := by
  intro n
  induction n with
  | zero =>
    intro σ o x y e hd G h0 h1 hn R
    omega
  | succ n ih =>
    intro σ o x y e hd G h0 h1 hn R
    unfold pc_X4_putSigns_22
    have n4_2_σ := G.nu 4 2
    have n9_2_σ := G.nu 9 2
    refine sf_if (fun c1 => ?_) (fun c1 => ?_)
    · exact ret_Z ⟨by decide, by decide⟩ G (Ext.refl (b := b) (σ := σ)) (R.le (by omega) (by omega) (by omega) (by omega)) (by first | trivial | assumption | omega | (dsimp only; omega))
    · refine wtN (G.tg 9) ?_
      refine cl_U (s_signOf9 (by omega) G) (fun z4_3 rz4_3 fz4_3 => ?_)
      refine wtN (G.tg 16) ?_
      refine cl_Z (s_put (k := k) (s := s) (o := o + 0 + (e - y - 1).toNat) (z := z) (by omega) G (R.le (by omega) (by omega) (by omega) (by omega))) (fun s4 z7_5 rz7_5 Gs4 es4 Rs4 fz7_5 => ?_)
      have E6 := (Ext.refl (b := b) (σ := σ)).trans es4
      have n4_2_s4 := Gs4.nu 4 2
      have n9_2_s4 := Gs4.nu 9 2
      refine wck ⟨by omega, by omega⟩ (fun z8_7 hz8_7 => ?_)
      exact tr_Z E6 (ih (by omega) Gs4 (by omega) (by omega) (by omega) (Rs4.le (by omega) (by omega) (by omega) (by omega)))
theorem s_putSigns9 (hd : 9 ≤ d) (G : GG bd b σ) (R : RR bd b σ (k) (s) (o + 12) (z)) {x : Int} : sf (RC bd d 92 σ [((b + 16 : Nat) : Int), ((b + 9 : Nat) : Int), x]) (PZ bd b σ k s o z (fun _ _ => True)) := by
  obtain ⟨d, rfl⟩ : ∃ d0, d = d0 + 1 := ⟨d - 1, by omega⟩
  rw [rc_X4_putSigns (by omega)]
  refine fin_Z ?_
  unfold pc_X4_putSigns_0
  have n4_2_σ := G.nu 4 2
  have n9_2_σ := G.nu 9 2
  refine wtN (G.tg 9) ?_
  refine cl_U (s_has9 (by omega) G) (fun z3_2 rz3_2 fz3_2 => ?_)
  refine sf_if (fun c3 => ?_) (fun c3 => ?_)
  · unfold pc_X4_putSigns_18
    exact s_putSigns22_9 _ (by omega) G (by decide) (by omega) (by omega) (R.le (by omega) (by omega) (by omega) (by omega))
  · refine wgF (G.tg 9) (G.fi 17 (i := 9) (f := 1) (j := 11)) ?_
    refine wrN (G.tg 11) (G.ln 11 (n := 100)) ⟨by omega, by omega⟩ (fun z6_5 hz6_5 => ?_)
    have fz6_5 := G.nu 11 (x : Int).toNat (lo := 0) (hi := 12)
    have rz6_5 : inR z6_5 := hz6_5 ▸ G.ir _ _
    unfold pc_X4_putSigns_18
    exact s_putSigns22_9 _ (by omega) G (by decide) (by omega) (by omega) (R.le (by omega) (by omega) (by omega) (by omega))
theorem pow10_down {u : Int} {m : Nat} (h0 : 0 < u) (h : u < 10 ^ m) : ∃ m0, m = m0 + 1 ∧ u / 10 < 10 ^ m0 := by
  cases m with
  | zero => exfalso; have e : (10 : Int) ^ 0 = 1 := rfl; omega
  | succ m => exact ⟨m, rfl, by have e : (10 : Int) ^ (m + 1) = 10 ^ m * 10 := Int.pow_succ _ _; omega⟩
theorem pow10_le {m : Nat} (hm : m ≤ 9) : (10 : Int) ^ m ≤ 1000000000 := (by decide : ∀ m, m < 10 → (10 : Int) ^ m ≤ 1000000000) m (by omega)
theorem s_putNumber29 : ∀ (n : Nat) {σ : CS} {m : Nat} {x u : Int}, 7 ≤ d → GG bd b σ → (0 ≤ u ∧ u < 10 ^ m) → m < n → m ≤ 9 → inR x → RR bd b σ k s (o + m) z → sf (pc_X4_putNumber_29 (RC bd d) bd n σ ((b + 16 : Nat) : Int) x u) (PZ bd b σ k s o z (fun _ _ => True)) := by
  intro n
  induction n with
  | zero =>
    intro σ m x u hd G hu hn hm hx R
    omega
  | succ n ih =>
    intro σ m x u hd G hu hn hm hx R
    have h9 := pow10_le hm
    unfold pc_X4_putNumber_29
    have n4_2_σ := G.nu 4 2
    have n9_2_σ := G.nu 9 2
    refine sf_if (fun c1 => ?_) (fun c1 => ?_)
    · exact ret_Z ⟨by decide, by decide⟩ G (Ext.refl (b := b) (σ := σ)) (R.le (by omega) (by omega) (by omega) (by omega)) (by first | trivial | assumption | omega | (dsimp only; omega))
    · obtain ⟨m0, rfl, hm0⟩ := pow10_down (by omega) hu.2
      refine sf_if (fun c2 => ?_) (fun c2 => ?_)
      · exfalso; omega
      · refine wnm (fun z2_3 hz2_3 => ?_)
        have rz2_3 : inR z2_3 := hz2_3 ▸ rn_div_R _ _
        refine wnm (fun z4_4 hz4_4 => ?_)
        have fz4_4 := rn_rem_10 rz2_3
        refine wck ⟨by omega, by omega⟩ (fun z5_5 hz5_5 => ?_)
        refine wtN (G.tg 16) ?_
        refine cl_Z (s_put (k := k) (s := s) (o := o + 0 + m0) (z := z) (by omega) G (R.le (by omega) (by omega) (by omega) (by omega))) (fun s6 z8_7 rz8_7 Gs6 es6 Rs6 fz8_7 => ?_)
        have E8 := (Ext.refl (b := b) (σ := σ)).trans es6
        have n4_2_s6 := Gs6.nu 4 2
        have n9_2_s6 := Gs6.nu 9 2
        refine wnm (fun z9_9 hz9_9 => ?_)
        have f9 := rn_div_10 (x := u) ⟨by omega, by omega⟩
        exact tr_Z E8 (ih (by omega) Gs6 (by omega) (by omega) (by omega) hx Rs6)
theorem s_putNumber4 : ∀ (n : Nat) {x u : Int} {i : Nat}, 7 ≤ d → GG bd b σ → RR bd b σ k s (o + 9) z → (1 ≤ i ∧ i ≤ 9 ∧ 10 - i < n) → u = 10 ^ (i - 1) → inR x → sf (pc_X4_putNumber_4 (RC bd d) bd n σ ((b + 16 : Nat) : Int) x u (i : Int)) (PZ bd b σ k s o z (fun _ _ => True)) := by
  intro n
  induction n with
  | zero =>
    intro x u i hd G R hi hu hx
    omega
  | succ n ih =>
    intro x u i hd G R hi hu hx
    have h8 : (10 : Int) ^ (i - 1) ≤ 100000000 := (by decide : ∀ m, m < 9 → (10 : Int) ^ m ≤ 100000000) (i - 1) (by omega)
    have h1 : (0 : Int) < 10 ^ (i - 1) := Int.pow_pos (by decide)
    have hs : (10 : Int) ^ i = 10 ^ (i - 1) * 10 := by
      obtain ⟨j, rfl⟩ : ∃ j, i = j + 1 := ⟨i - 1, by omega⟩
      exact Int.pow_succ _ _
    have h29 : sf (pc_X4_putNumber_29 (RC bd d) bd 2000000 σ ((b + 16 : Nat) : Int) x u) (PZ bd b σ k s o z (fun _ _ => True)) := s_putNumber29 _ (m := i) hd G ⟨by omega, by omega⟩ (by omega) (by omega) hx (R.le (by omega) (by omega) (by omega) (by omega))
    unfold pc_X4_putNumber_4
    have n4_2_σ := G.nu 4 2
    have n9_2_σ := G.nu 9 2
    refine sf_if (fun c1 => ?_) (fun c1 => ?_)
    · exact h29
    · refine sf_if (fun c2 => ?_) (fun c2 => ?_)
      · exfalso; omega
      · refine wnm (fun z2_3 hz2_3 => ?_)
        refine sf_if (fun c4 => ?_) (fun c4 => ?_)
        · exact h29
        · refine wck ⟨by omega, by omega⟩ (fun z5_5 hz5_5 => ?_)
          refine wck ⟨by omega, by omega⟩ (fun z6_6 hz6_6 => ?_)
          obtain ⟨rfl⟩ : z6_6 = ((i + 1 : Nat) : Int) := by omega
          exact ih hd G R (by omega) (by show z5_5 = 10 ^ i; omega) hx
theorem s_putNumber (hd : 8 ≤ d) (G : GG bd b σ) (R : RR bd b σ (k) (s) (o + 9) (z)) {x : Int} (hx : inR x) : sf (RC bd d 91 σ [((b + 16 : Nat) : Int), x]) (PZ bd b σ k s o z (fun _ _ => True)) := by
  obtain ⟨d, rfl⟩ : ∃ d0, d = d0 + 1 := ⟨d - 1, by omega⟩
  rw [rc_X4_putNumber (by omega)]
  refine fin_Z ?_
  unfold pc_X4_putNumber_0
  have n4_2_σ := G.nu 4 2
  have n9_2_σ := G.nu 9 2
  exact s_putNumber4 (i := 1) _ (by omega) G R (by omega) rfl hx
theorem s_putFront (hd : 10 ≤ d) (G : GG bd b σ) (R : RR bd b σ (k) (s) (o + 12) (z)) {x : Int} (t_x : oHd σ x) : sf (RC bd d 90 σ [((b + 16 : Nat) : Int), x]) (PZ bd b σ k s o z (fun _ _ => True)) := by
  obtain ⟨d, rfl⟩ : ∃ d0, d = d0 + 1 := ⟨d - 1, by omega⟩
  rw [rc_X4_putFront (by omega)]
  refine fin_Z ?_
  unfold pc_X4_putFront_0
  have n4_2_σ := G.nu 4 2
  have n9_2_σ := G.nu 9 2
  refine wg t_x.tg (fun z1_1 hz1_1 => ?_)
  have rz1_1 : inR z1_1 := hz1_1 ▸ G.ir _ _
  have t_z1_1 : oN σ z1_1 := hz1_1 ▸ (G.hdf t_x.tg).1
  refine wg t_z1_1.tg (fun z2_2 hz2_2 => ?_)
  have rz2_2 : inR z2_2 := hz2_2 ▸ G.ir _ _
  have fz2_2 := G.kd t_z1_1.tg
  rw [hz2_2] at fz2_2
  refine sf_if (fun c3 => ?_) (fun c3 => ?_)
  · refine wgF (G.tg 16) (G.fi 18 (i := 16) (f := 0) (j := 3)) ?_
    refine wgF (G.tg 3) (G.fi 6 (i := 3) (f := 0) (j := 4)) ?_
    refine wg t_x.tg (fun z6_6 hz6_6 => ?_)
    have rz6_6 : inR z6_6 := hz6_6 ▸ G.ir _ _
    have fz6_6 : oid z6_6 := hz6_6 ▸ (G.hdf t_x.tg).2.1
    refine wtN (G.tg 16) ?_
    refine cl_Z (s_putSigns4 (k := k) (s := s) (o := o) (z := z) (by omega) G (R.le (by omega) (by omega) (by omega) (by omega))) (fun s7 z9_8 rz9_8 Gs7 es7 Rs7 fz9_8 => ?_)
    have E9 := (Ext.refl (b := b) (σ := σ)).trans es7
    have n4_2_s7 := Gs7.nu 4 2
    have n9_2_s7 := Gs7.nu 9 2
    exact ret_Z ⟨by decide, by decide⟩ Gs7 E9 (Rs7.le (by omega) (by omega) (by omega) (by omega)) (by first | trivial | assumption | omega | (dsimp only; omega))
  · refine sf_if (fun c10 => ?_) (fun c10 => ?_)
    · refine wgF (G.tg 16) (G.fi 18 (i := 16) (f := 0) (j := 3)) ?_
      refine wgF (G.tg 3) (G.fi 9 (i := 3) (f := 5) (j := 9)) ?_
      refine wg t_x.tg (fun z13_13 hz13_13 => ?_)
      have rz13_13 : inR z13_13 := hz13_13 ▸ G.ir _ _
      have fz13_13 : oid z13_13 := hz13_13 ▸ (G.hdf t_x.tg).2.1
      refine wtN (G.tg 16) ?_
      refine cl_Z (s_putSigns9 (k := k) (s := s) (o := o) (z := z) (by omega) G (R.le (by omega) (by omega) (by omega) (by omega))) (fun s14 z16_15 rz16_15 Gs14 es14 Rs14 fz16_15 => ?_)
      have E16 := (Ext.refl (b := b) (σ := σ)).trans es14
      have n4_2_s14 := Gs14.nu 4 2
      have n9_2_s14 := Gs14.nu 9 2
      exact ret_Z ⟨by decide, by decide⟩ Gs14 E16 (Rs14.le (by omega) (by omega) (by omega) (by omega)) (by first | trivial | assumption | omega | (dsimp only; omega))
    · refine sf_if (fun c17 => ?_) (fun c17 => ?_)
      · unfold pc_X4_putFront_94
        refine wtN (G.tg 16) ?_
        refine cl_Z (s_put (k := k) (s := s) (o := o + 11) (z := z) (by omega) G (R.le (by omega) (by omega) (by omega) (by omega))) (fun s18 z3_19 rz3_19 Gs18 es18 Rs18 fz3_19 => ?_)
        have E20 := (Ext.refl (b := b) (σ := σ)).trans es18
        have t_x := t_x.up es18
        have n4_2_s18 := Gs18.nu 4 2
        have n9_2_s18 := Gs18.nu 9 2
        refine wg t_x.tg (fun z4_21 hz4_21 => ?_)
        have rz4_21 : inR z4_21 := hz4_21 ▸ Gs18.ir _ _
        have fz4_21 : oid z4_21 := hz4_21 ▸ (Gs18.hdf t_x.tg).2.1
        have o4 := fz4_21.1; have o5 := fz4_21.2
        refine wck ⟨by omega, by omega⟩ (fun z5_22 hz5_22 => ?_)
        refine wtN (Gs18.tg 16) ?_
        refine cl_Z (s_putNumber (k := k) (s := s) (o := o + 2) (z := z) (by omega) Gs18 (Rs18.le (by omega) (by omega) (by omega) (by omega)) (by first | assumption | exact inR_of _ | exact ⟨by omega, by omega⟩)) (fun s23 z8_24 rz8_24 Gs23 es23 Rs23 fz8_24 => ?_)
        have E25 := E20.trans es23
        have n4_2_s23 := Gs23.nu 4 2
        have n9_2_s23 := Gs23.nu 9 2
        exact ret_Z ⟨by decide, by decide⟩ Gs23 E25 (Rs23.le (by omega) (by omega) (by omega) (by omega)) (by first | trivial | assumption | omega | (dsimp only; omega))
      · refine sf_if (fun c26 => ?_) (fun c26 => ?_)
        · refine wtN (G.tg 16) ?_
          refine cl_Z (s_put (k := k) (s := s) (o := o + 11) (z := z) (by omega) G (R.le (by omega) (by omega) (by omega) (by omega))) (fun s27 z21_28 rz21_28 Gs27 es27 Rs27 fz21_28 => ?_)
          have E29 := (Ext.refl (b := b) (σ := σ)).trans es27
          have n4_2_s27 := Gs27.nu 4 2
          have n9_2_s27 := Gs27.nu 9 2
          exact ret_Z ⟨by decide, by decide⟩ Gs27 E29 (Rs27.le (by omega) (by omega) (by omega) (by omega)) (by first | trivial | assumption | omega | (dsimp only; omega))
        · refine sf_if (fun c30 => ?_) (fun c30 => ?_)
          · refine wtN (G.tg 16) ?_
            refine cl_Z (s_put (k := k) (s := s) (o := o + 11) (z := z) (by omega) G (R.le (by omega) (by omega) (by omega) (by omega))) (fun s31 z25_32 rz25_32 Gs31 es31 Rs31 fz25_32 => ?_)
            have E33 := (Ext.refl (b := b) (σ := σ)).trans es31
            have n4_2_s31 := Gs31.nu 4 2
            have n9_2_s31 := Gs31.nu 9 2
            exact ret_Z ⟨by decide, by decide⟩ Gs31 E33 (Rs31.le (by omega) (by omega) (by omega) (by omega)) (by first | trivial | assumption | omega | (dsimp only; omega))
          · unfold pc_X4_putFront_94
            refine wtN (G.tg 16) ?_
            refine cl_Z (s_put (k := k) (s := s) (o := o + 11) (z := z) (by omega) G (R.le (by omega) (by omega) (by omega) (by omega))) (fun s34 z3_35 rz3_35 Gs34 es34 Rs34 fz3_35 => ?_)
            have E36 := (Ext.refl (b := b) (σ := σ)).trans es34
            have t_x := t_x.up es34
            have n4_2_s34 := Gs34.nu 4 2
            have n9_2_s34 := Gs34.nu 9 2
            refine wg t_x.tg (fun z4_37 hz4_37 => ?_)
            have rz4_37 : inR z4_37 := hz4_37 ▸ Gs34.ir _ _
            have fz4_37 : oid z4_37 := hz4_37 ▸ (Gs34.hdf t_x.tg).2.1
            have o4 := fz4_37.1; have o5 := fz4_37.2
            refine wck ⟨by omega, by omega⟩ (fun z5_38 hz5_38 => ?_)
            refine wtN (Gs34.tg 16) ?_
            refine cl_Z (s_putNumber (k := k) (s := s) (o := o + 2) (z := z) (by omega) Gs34 (Rs34.le (by omega) (by omega) (by omega) (by omega)) (by first | assumption | exact inR_of _ | exact ⟨by omega, by omega⟩)) (fun s39 z8_40 rz8_40 Gs39 es39 Rs39 fz8_40 => ?_)
            have E41 := E36.trans es39
            have n4_2_s39 := Gs39.nu 4 2
            have n9_2_s39 := Gs39.nu 9 2
            exact ret_Z ⟨by decide, by decide⟩ Gs39 E41 (Rs39.le (by omega) (by omega) (by omega) (by omega)) (by first | trivial | assumption | omega | (dsimp only; omega))
end CMA
