section CRU
variable {bd : cBd} {b d : Nat} {σ σ1 σ2 σ3 : CS} {Q : CS → Nat → Int → Prop} {k s o z : Nat}
theorem Pout00 {σ1 : CS} (G : GG bd b σ) (R : RR bd b σ k s o z) (e : σ1 = cs_p σ (b + 16) 7 0) : GG bd b σ1 ∧ Ext b σ σ1 ∧ RR bd b σ1 k s 1000000 z := by
  obtain ⟨h1, h2, h3⟩ := Pout0 G R e
  refine ⟨h1, h2, h3.1, h3.2.1, ?_, h3.2.2.2⟩
  have n3 := h1.nu 16 3
  have n7 : c_pv σ1 (b + 16) 7 = 0 := by rw [e]; exact cs_p_eq
  omega
theorem s_runText75 {σ0 : CS} {rec : Nat → CS → List Int → CO} (G : GG bd b σ) (E : Ext b σ0 σ) (R : RR bd b σ k s o z) : sf (pc_X11_runText_75 rec bd σ ((b + 0 : Nat) : Int)) (PZ bd b σ0 k s o z (fun _ _ => True)) := by
  unfold pc_X11_runText_75
  refine wgF (G.tg 0) (G.fi 1 (i := 0) (f := 1) (j := 2)) ?_
  refine wgN (G.tg 2) (fun z2_2 hz2_2 => ?_)
  have fz2_2 := G.nu 2 0
  have rz2_2 : inR z2_2 := hz2_2 ▸ G.ir _ _
  refine wpN (G.tg 0) (fun s3 ws3 => ?_)
  obtain ⟨Gs3, es3, Rs3, Fs3, Vs3⟩ := P0 G R ws3 (by decide) (by first | assumption | exact inR_of _ | exact ⟨by omega, by omega⟩) (by intro lo hi q; cases q <;> omega)
  have E4 := E.trans es3
  refine wgF (Gs3.tg 0) (Gs3.fi 1 (i := 0) (f := 1) (j := 2)) ?_
  refine wgN (Gs3.tg 2) (fun z5_6 hz5_6 => ?_)
  have rz5_6 : inR z5_6 := hz5_6 ▸ Gs3.ir _ _
  refine wpN (Gs3.tg 0) (fun s7 ws7 => ?_)
  obtain ⟨Gs7, es7, Rs7, Fs7, Vs7⟩ := P0 Gs3 Rs3 ws7 (by decide) (by first | assumption | exact inR_of _ | exact ⟨by omega, by omega⟩) (by intro lo hi q; cases q <;> omega)
  have E8 := E4.trans es7
  refine wgN (Gs7.tg 0) (fun z7_9 hz7_9 => ?_)
  have rz7_9 : inR z7_9 := hz7_9 ▸ Gs7.ir _ _
  exact ret_Z (by first | assumption | exact inR_of _ | exact ⟨by omega, by omega⟩) Gs7 E8 (Rs7.le (by omega) (by omega) (by omega) (by omega)) (by first | trivial | assumption | omega | (dsimp only; omega))
theorem s_runText31 (hd : 209 ≤ d) {σ0 : CS} {x2 y : Int} {m : Nat} {g : Nat → Nat} (L : oLs bd b σ0 x2 m y) (Sg : ∀ i, i < m → 1 ≤ g i ∧ SSt b σ0 (c_pv σ0 y.toNat i) (g i - 1)) : ∀ (n : Nat) {σ : CS} {j r : Nat} {x3 : Int}, GG bd b σ → Ext b σ0 σ → RR bd b σ (k + 1 + 3 * r) (s + 6 + 25 * r) (o + 40 * (m - j)) (z + 2 * (m - j)) → r + sg g j = sg g m → j ≤ m → x3 = (j : Int) → m - j < n → sf (pc_X11_runText_31 (RC bd d) bd n σ ((b + 0 : Nat) : Int) x2 x3) (PZ bd b σ0 k s o z (fun _ _ => True)) := by
  intro n
  induction n with
  | zero =>
    intro σ j r x3 G E R hr hj hx hn
    omega
  | succ n ih =>
    intro σ j r x3 G E R hr hj hx hn
    have Lc := L.up E
    have hm7 := L.2.2.2.2.2.2.1
    unfold pc_X11_runText_31
    refine sf_t Lc.1 ?_
    refine cn_U (s_lsize (by omega) Lc) (fun z3 r3 f3 => ?_)
    refine sf_if (fun c => s_runText75 G E (R.le (by omega) (by omega) (by omega) (by omega))) (fun c => ?_)
    refine sf_t Lc.1 ?_
    refine cn_U (s_lget (by omega) G Lc (i := x3) ⟨by omega, by omega⟩) (fun z7 r7 f7 => ?_)
    have hi : x3.toNat = j := by omega
    rw [hi, E.ld L.2.2.2.2.2.1.2 j] at f7
    obtain ⟨hg1, hS⟩ := Sg j (by omega)
    have hsg := sg_mono (g := g) (j := j) (n := m) (by omega)
    have hs1 : sg g (j + 1) = sg g j + g j := rfl
    obtain ⟨r', hr'⟩ : ∃ r', r = r' + g j := ⟨r - g j, by omega⟩
    have tS : SSt b σ z7 (g j - 1) := by rw [f7]; exact hS.up E
    refine sf_t tS.1 ?_
    refine wtN (G.tg 0) ?_
    refine ct_O (s_perform (k := k + 3 * r') (s := s + 25 * r') (o := o + 40 * (m - (j + 1))) (z := z + 1 + 2 * (m - (j + 1))) (by omega) G (R.le (by omega) (by omega) (by omega) (by omega)) (M := g j - 1) ⟨tS, rfl⟩) (fun σ1 u ru G1 e1 R1 f1 => ?_) (fun σ1 G1 e1 R1 => s_runText75 G1 (E.trans e1) (R1.le (by omega) (by omega) (by omega) (by omega)))
    refine wgN (G1.tg 0) (fun z12 q12 => ?_)
    have n9 := G1.nu 0 9
    have hz4 := f1.2.2.2
    have ha := G1.nu 19 10
    have hb := G1.nu 3 3
    have hc := G1.nu 3 4
    refine wck ⟨by omega, by omega⟩ (fun z13 q13 => ?_)
    refine wpN (G1.tg 0) (fun σ2 w2 => ?_)
    obtain ⟨G2, e2, R2, F2⟩ := Pcnt G1 (f1.le (z' := z + 2 * (m - (j + 1)) + 1) (Nat.le_refl _) (Nat.le_refl _) (Nat.le_refl _) (by omega)) w2 (by decide) (by omega)
    refine wck ⟨by omega, by omega⟩ (fun z15 q15 => ?_)
    exact ih (j := j + 1) (r := r') G2 (E.trans (e1.trans e2)) (R2.le (by omega) (by omega) (by omega) (by omega)) (by omega) (by omega) (by omega) (by omega)
theorem s_runText {x : Int} (hd : 211 ≤ d) (G : GG bd b σ) (R : RR bd b σ (k + 2 + 20 * x.toNat) (s + 49 + 150 * x.toNat) 0 (z + 3 * x.toNat)) (hx : 0 ≤ x ∧ x ≤ 4000) : sf (RC bd d 57 σ [((b + 0 : Nat) : Int), x]) (PZ bd b σ k s 0 z (fun _ _ => True)) := by
  obtain ⟨d, rfl⟩ : ∃ d0, d = d0 + 1 := ⟨d - 1, by omega⟩
  rw [rc_X11_runText (by omega)]
  refine fin_Z ?_
  unfold pc_X11_runText_0
  refine wgF (G.tg 0) (G.fi 3 (i := 0) (f := 3) (j := 16)) ?_
  refine wpN (G.tg 16) (fun σ1 w1 => ?_)
  obtain ⟨G1, e1, R1⟩ := Pout00 G R w1
  refine wgF (G1.tg 0) (G1.fi 1 (i := 0) (f := 1) (j := 2)) ?_
  refine wtN (G1.tg 2) ?_
  refine cn_Z (s_sclear (by omega) G1 R1) (fun σ2 u2 r2 G2 e2 R2 f2 => ?_)
  refine wpN (G2.tg 0) (fun σ3 w3 => ?_)
  obtain ⟨G3, e3, R3, F3⟩ := Pcnt0 G2 R2 w3 (by decide)
  refine wgF (G3.tg 0) (G3.fi 4 (i := 0) (f := 4) (j := 19)) ?_
  refine wtN (G3.tg 19) ?_
  have E3 := e1.trans (e2.trans e3)
  refine ct_O (s_readText (k := k) (s := s) (o := 1000000) (z := z) (by omega) G3 R3 hx) (fun σ4 u r4 G4 e4 R4 f4 => ?_) (fun σ4 G4 e4 R4 => s_runText75 G4 (E3.trans e4) (R4.le (by omega) (by omega) (by omega) (by omega)))
  obtain ⟨m, y, g, L, Sg, R5, hm⟩ := f4
  exact tr_Z (E3.trans e4) (s_runText31 (by omega) L Sg _ (j := 0) (r := sg g m) G4 Ext.refl (R5.le (by omega) (by omega) (by omega) (by omega)) rfl (by omega) rfl (by omega))
theorem s_tellTypeOf {x : Int} (hd : 115 ≤ d) (G : GG bd b σ) (R : RR bd b σ (k + 1) (s + 6) 0 z) (t_x : oN σ x) (rx : inR x) : sf (RC bd d 61 σ [((b + 0 : Nat) : Int), x]) (PZ bd b σ k s 0 z (fun _ _ => True)) := by
  obtain ⟨d, rfl⟩ : ∃ d0, d = d0 + 1 := ⟨d - 1, by omega⟩
  rw [rc_X11_tellTypeOf (by omega)]
  refine fin_Z ?_
  unfold pc_X11_tellTypeOf_0
  refine wgF (G.tg 0) (G.fi 3 (i := 0) (f := 3) (j := 16)) ?_
  refine wtN (G.tg 16) ?_
  refine cn_Z (s_begin (k := k + 1) (s := s + 6) (o := 0) (z := z) (by omega) G (R.le (by omega) (by omega) (by omega) (by omega)) ⟨by decide, by decide⟩) (fun s2 z4_3 rz4_3 Gs2 es2 Rs2 fz4_3 => ?_)
  have E4 := (Ext.refl (b := b) (σ := σ)).trans es2
  have t_x := t_x.up es2
  refine wgF (Gs2.tg 0) (Gs2.fi 3 (i := 0) (f := 3) (j := 16)) ?_
  refine wpN (Gs2.tg 16) (fun s6 ws6 => ?_)
  obtain ⟨Gs6, es6, Rs6⟩ := Pout00 Gs2 Rs2 ws6
  have E7 := E4.trans es6
  have t_x := t_x.up es6
  refine wgF (Gs6.tg 0) (Gs6.fi 3 (i := 0) (f := 3) (j := 16)) ?_
  refine wtN (Gs6.tg 16) ?_
  refine ct_O (s_tellWhole (k := k) (s := s) (o := 0) (z := z) (by omega) Gs6 (Rs6.le (by omega) (by omega) (by omega) (by omega)) t_x (by first | assumption | exact ref_R Gs6 Rs6 t_x.tg (by decide))) (fun s9 z10_10 rz10_10 Gs9 es9 Rs9 fz10_10 => ?_) (fun s9 Gs9 es9 Rs9 => ?_)
  · have Qz10_10 := fz10_10
    have E11 := E7.trans es9
    refine wgF (Gs9.tg 0) (Gs9.fi 3 (i := 0) (f := 3) (j := 16)) ?_
    refine wgN (Gs9.tg 16) (fun z12_13 hz12_13 => ?_)
    have fz12_13 := Gs9.nu 16 7
    have rz12_13 : inR z12_13 := hz12_13 ▸ Gs9.ir _ _
    exact ret_Z (by first | assumption | exact inR_of _ | exact ⟨by omega, by omega⟩) Gs9 E11 (Qz10_10.le (by omega) (by omega) (by omega) (by omega)) (by first | trivial | assumption | omega | (dsimp only; omega))
  · have E14 := E7.trans es9
    refine wgF (Gs9.tg 0) (Gs9.fi 1 (i := 0) (f := 1) (j := 2)) ?_
    refine wgN (Gs9.tg 2) (fun z14_16 hz14_16 => ?_)
    have fz14_16 := Gs9.nu 2 0
    have rz14_16 : inR z14_16 := hz14_16 ▸ Gs9.ir _ _
    refine wck ⟨by omega, by omega⟩ (fun z15_17 hz15_17 => ?_)
    exact ret_Z (by first | assumption | exact inR_of _ | exact ⟨by omega, by omega⟩) Gs9 E14 (Rs9.le (by omega) (by omega) (by omega) (by omega)) (by first | trivial | assumption | omega | (dsimp only; omega))
theorem s_compareNames {x y : Int} (hd : 115 ≤ d) (G : GG bd b σ) (R : RR bd b σ (k + 3) (s + 28) 0 z) (hx : 0 ≤ x ∧ x ≤ 100) (hy : 0 ≤ y ∧ y ≤ 100) : sf (RC bd d 38 σ [((b + 0 : Nat) : Int), x, y]) (PZ bd b σ k s 0 z (fun _ _ => True)) := by
  obtain ⟨d, rfl⟩ : ∃ d0, d = d0 + 1 := ⟨d - 1, by omega⟩
  rw [rc_X11_compareNames (by omega)]
  refine fin_Z ?_
  unfold pc_X11_compareNames_0
  refine wgF (G.tg 0) (G.fi 3 (i := 0) (f := 3) (j := 16)) ?_
  refine wtN (G.tg 16) ?_
  refine cn_Z (s_begin (k := k + 3) (s := s + 28) (o := 0) (z := z) (by omega) G (R.le (by omega) (by omega) (by omega) (by omega)) ⟨by decide, by decide⟩) (fun s2 z4_3 rz4_3 Gs2 es2 Rs2 fz4_3 => ?_)
  have E4 := (Ext.refl (b := b) (σ := σ)).trans es2
  refine sf_n (rr_room Gs2 (Rs2.le (k' := (k + 2) + 1) (s' := (s + 17) + 11) (o' := 0) (z' := z) (by omega) (by omega) (by omega) (by omega))) ?_
  refine mk_leaf (k := k + 2) (s := s + 17) (o := 0) (z := z) (by omega) Gs2 (Rs2.le (by omega) (by omega) (by omega) (by omega)) ⟨⟨by decide, by decide⟩, (by first | assumption | exact inR_of _ | exact ⟨by omega, by omega⟩)⟩ ⟨by omega, by omega⟩ (by first | assumption | exact ⟨by omega, by omega⟩) (fun s5 Gs5 es5 Rs5 fs5 => ?_)
  obtain ⟨t_z6_s5, v_z6_s5, F_z6_s5⟩ := fs5
  have E6 := E4.trans es5
  refine sf_n (rr_room Gs5 (Rs5.le (k' := (k + 1) + 1) (s' := (s + 6) + 11) (o' := 0) (z' := z) (by omega) (by omega) (by omega) (by omega))) ?_
  refine mk_leaf (k := k + 1) (s := s + 6) (o := 0) (z := z) (by omega) Gs5 (Rs5.le (by omega) (by omega) (by omega) (by omega)) ⟨⟨by decide, by decide⟩, (by first | assumption | exact inR_of _ | exact ⟨by omega, by omega⟩)⟩ ⟨by omega, by omega⟩ (by first | assumption | exact ⟨by omega, by omega⟩) (fun s7 Gs7 es7 Rs7 fs7 => ?_)
  obtain ⟨t_z11_s7, v_z11_s7, F_z11_s7⟩ := fs7
  have E8 := E6.trans es7
  have t_z6_s5 := t_z6_s5.up es7
  refine wgF (Gs7.tg 0) (Gs7.fi 3 (i := 0) (f := 3) (j := 16)) ?_
  refine wtN (Gs7.tg 16) ?_
  refine ct_O (s_areSame (k := k) (s := s) (o := 0) (z := z) (by omega) Gs7 (Rs7.le (by omega) (by omega) (by omega) (by omega)) t_z6_s5 (by first | assumption | exact ref_R Gs7 Rs7 t_z6_s5.tg (by decide)) t_z11_s7 (by first | assumption | exact ref_R Gs7 Rs7 t_z11_s7.tg (by decide))) (fun s10 z18_11 rz18_11 Gs10 es10 Rs10 fz18_11 => ?_) (fun s10 Gs10 es10 Rs10 => ?_)
  · obtain ⟨fz18_11, Qz18_11⟩ := fz18_11
    have E12 := E8.trans es10
    refine sf_if (fun c13 => ?_) (fun c13 => ?_)
    · exact ret_Z ⟨by decide, by decide⟩ Gs10 E12 (Qz18_11.le (by omega) (by omega) (by omega) (by omega)) (by first | trivial | assumption | omega | (dsimp only; omega))
    · exact ret_Z ⟨by decide, by decide⟩ Gs10 E12 (Qz18_11.le (by omega) (by omega) (by omega) (by omega)) (by first | trivial | assumption | omega | (dsimp only; omega))
  · have E14 := E8.trans es10
    refine wgF (Gs10.tg 0) (Gs10.fi 1 (i := 0) (f := 1) (j := 2)) ?_
    refine wgN (Gs10.tg 2) (fun z21_16 hz21_16 => ?_)
    have fz21_16 := Gs10.nu 2 0
    have rz21_16 : inR z21_16 := hz21_16 ▸ Gs10.ir _ _
    refine wck ⟨by omega, by omega⟩ (fun z22_17 hz22_17 => ?_)
    exact ret_Z (by first | assumption | exact inR_of _ | exact ⟨by omega, by omega⟩) Gs10 E14 (Rs10.le (by omega) (by omega) (by omega) (by omega)) (by first | trivial | assumption | omega | (dsimp only; omega))
end CRU
