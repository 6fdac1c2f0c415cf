section CHO
variable {bd : cBd} {b d : Nat} {σ σ1 σ2 σ3 : CS} {Q : CS → Nat → Int → Prop} {k s o z : Nat}
/-- a statement of a known kind -/
def oSK (b : Nat) (σ : CS) (x : Int) (M : Nat) (κ : Int) : Prop := SSt b σ x M ∧ c_pv σ x.toNat 0 = κ
theorem oSK.tg {x κ : Int} {M : Nat} (h : oSK b σ x M κ) : 0 ≤ x ∧ c_tg σ x.toNat = 10 := h.1.1
theorem oSK.up {σ' : CS} {x κ : Int} {M : Nat} (h : oSK b σ x M κ) (e : Ext b σ σ') : oSK b σ' x M κ := ⟨h.1.up e, by rw [e.sm h.1.1.2]; exact h.2⟩
theorem s_sortNumber (hd : 9 ≤ d) (G : GG bd b σ) {x : Int} (t_x : oN σ x) : sf (RC bd d 60 σ [((b + 0 : Nat) : Int), x]) (PU σ (fun r => -1 ≤ r ∧ r ≤ 100)) := by
  obtain ⟨d, rfl⟩ : ∃ d0, d = d0 + 1 := ⟨d - 1, by omega⟩
  rw [rc_X11_sortNumber (by omega)]
  refine fin_U ?_
  unfold pc_X11_sortNumber_0
  have n4_2_σ := G.nu 4 2
  have n9_2_σ := G.nu 9 2
  refine wgF (G.tg 0) (G.fi 2 (i := 0) (f := 2) (j := 3)) ?_
  refine wgF (G.tg 3) (G.fi 6 (i := 3) (f := 0) (j := 4)) ?_
  refine wgF (G.tg 0) (G.fi 0 (i := 0) (f := 0) (j := 1)) ?_
  refine wg t_x.tg (fun z4_4 hz4_4 => ?_)
  have rz4_4 : inR z4_4 := hz4_4 ▸ G.ir _ _
  have fz4_4 := G.n4 t_x.tg
  rw [hz4_4] at fz4_4
  refine wg t_x.tg (fun z5_5 hz5_5 => ?_)
  have rz5_5 : inR z5_5 := hz5_5 ▸ G.ir _ _
  have fz5_5 := G.n5 t_x.tg
  rw [hz5_5] at fz5_5
  refine wtN (G.tg 4) ?_
  refine cl_U (s_findn4 (by omega) G ⟨by omega, by omega⟩ ⟨by omega, by omega⟩) (fun z8_7 rz8_7 fz8_7 => ?_)
  exact ret_U (by first | assumption | exact inR_of _ | exact ⟨by omega, by omega⟩) (by first | trivial | assumption | omega | (dsimp only; omega))
theorem s_refuseBesideNames (hd : 7 ≤ d) (G : GG bd b σ) (R : RR bd b σ (k + 1) (s + 6) (o) (z)) {x κ : Int} {M : Nat} (t_x : oSK b σ x M κ) : sf (RC bd d 55 σ [((b + 0 : Nat) : Int), x]) (PO bd b σ k s o z (fun σ' r => RR bd b σ' (k + 1) (s + 6) o z)) := by
  obtain ⟨d, rfl⟩ : ∃ d0, d = d0 + 1 := ⟨d - 1, by omega⟩
  rw [rc_X11_refuseBesideNames (by omega)]
  refine fin_O ?_
  unfold pc_X11_refuseBesideNames_0
  refine wgF (G.tg 0) (G.fi 2 (i := 0) (f := 2) (j := 3)) ?_
  refine wgF (G.tg 3) (G.fi 9 (i := 3) (f := 5) (j := 9)) ?_
  refine wgN (G.tg 9) (fun z3_3 hz3_3 => ?_)
  have fz3_3 := G.nu 9 2
  have rz3_3 : inR z3_3 := hz3_3 ▸ G.ir _ _
  refine sf_if (fun c4 => ?_) (fun c4 => ?_)
  · exact ret_O ⟨by decide, by decide⟩ G (Ext.refl (b := b) (σ := σ)) (R.le (by omega) (by omega) (by omega) (by omega)) (by first | trivial | assumption | omega | (dsimp only; omega) | exact (R.le (by omega) (by omega) (by omega) (by omega)))
  · refine wgF (G.tg 0) (G.fi 1 (i := 0) (f := 1) (j := 2)) ?_
    refine wg t_x.tg (fun z6_6 hz6_6 => ?_)
    have rz6_6 : inR z6_6 := hz6_6 ▸ G.ir _ _
    refine wtN (G.tg 2) ?_
    refine cl_Z (s_set (k := k + 1) (s := s + 6) (o := o) (z := z) (by omega) G (R.le (by omega) (by omega) (by omega) (by omega)) ⟨by omega, by omega⟩ (by first | assumption | exact inR_of _ | exact ⟨by omega, by omega⟩)) (fun s7 z9_8 rz9_8 Gs7 es7 Rs7 fz9_8 => ?_)
    have E9 := (Ext.refl (b := b) (σ := σ)).trans es7
    exact thr_O Gs7 E9 (Rs7.le (by omega) (by omega) (by omega) (by omega))
theorem s_hneededSort (hd : 10 ≤ d) (G : GG bd b σ) (R : RR bd b σ (k + 1) (s + 6) (o) (z)) {x : Int} (t_x : oN σ x) : sf (RC bd d 51 σ [((b + 0 : Nat) : Int), x]) (PO bd b σ k s o z (fun σ' r => (0 ≤ r ∧ r ≤ 100) ∧ RR bd b σ' (k + 1) (s + 6) o z)) := by
  obtain ⟨d, rfl⟩ : ∃ d0, d = d0 + 1 := ⟨d - 1, by omega⟩
  rw [rc_X11_neededSort (by omega)]
  refine fin_O ?_
  unfold pc_X11_neededSort_0
  refine wtN (G.tg 0) ?_
  refine cl_U (s_sortNumber (by omega) G t_x) (fun z3_2 rz3_2 fz3_2 => ?_)
  refine sf_if (fun c3 => ?_) (fun c3 => ?_)
  · exact ret_O (by first | assumption | exact inR_of _ | exact ⟨by omega, by omega⟩) G (Ext.refl (b := b) (σ := σ)) (R.le (by omega) (by omega) (by omega) (by omega)) (by first | trivial | assumption | omega | (dsimp only; omega) | exact ⟨by omega, (R.le (by omega) (by omega) (by omega) (by omega))⟩)
  · refine wgF (G.tg 0) (G.fi 1 (i := 0) (f := 1) (j := 2)) ?_
    refine wg t_x.tg (fun z6_5 hz6_5 => ?_)
    have rz6_5 : inR z6_5 := hz6_5 ▸ G.ir _ _
    refine wtN (G.tg 2) ?_
    refine cl_Z (s_set (k := k + 1) (s := s + 6) (o := o) (z := z) (by omega) G (R.le (by omega) (by omega) (by omega) (by omega)) ⟨by omega, by omega⟩ (by first | assumption | exact inR_of _ | exact ⟨by omega, by omega⟩)) (fun s6 z9_7 rz9_7 Gs6 es6 Rs6 fz9_7 => ?_)
    have E8 := (Ext.refl (b := b) (σ := σ)).trans es6
    exact thr_O Gs6 E8 (Rs6.le (by omega) (by omega) (by omega) (by omega))
theorem s_needNewName (hd : 10 ≤ d) (G : GG bd b σ) (R : RR bd b σ (k + 1) (s + 6) (o) (z)) {x : Int} (t_x : oN σ x) : sf (RC bd d 49 σ [((b + 0 : Nat) : Int), x]) (PO bd b σ k s o z (fun σ' r => RR bd b σ' (k + 1) (s + 6) o z)) := by
  obtain ⟨d, rfl⟩ : ∃ d0, d = d0 + 1 := ⟨d - 1, by omega⟩
  rw [rc_X11_needNewName (by omega)]
  refine fin_O ?_
  unfold pc_X11_needNewName_0
  have n4_2_σ := G.nu 4 2
  have n9_2_σ := G.nu 9 2
  refine wgF (G.tg 0) (G.fi 2 (i := 0) (f := 2) (j := 3)) ?_
  refine wgF (G.tg 3) (G.fi 9 (i := 3) (f := 5) (j := 9)) ?_
  refine wgF (G.tg 0) (G.fi 0 (i := 0) (f := 0) (j := 1)) ?_
  refine wg t_x.tg (fun z4_4 hz4_4 => ?_)
  have rz4_4 : inR z4_4 := hz4_4 ▸ G.ir _ _
  have fz4_4 := G.n4 t_x.tg
  rw [hz4_4] at fz4_4
  refine wg t_x.tg (fun z5_5 hz5_5 => ?_)
  have rz5_5 : inR z5_5 := hz5_5 ▸ G.ir _ _
  have fz5_5 := G.n5 t_x.tg
  rw [hz5_5] at fz5_5
  refine wtN (G.tg 9) ?_
  refine cl_U (s_findn9 (by omega) G ⟨by omega, by omega⟩ ⟨by omega, by omega⟩) (fun z8_7 rz8_7 fz8_7 => ?_)
  refine sf_if (fun c8 => ?_) (fun c8 => ?_)
  · unfold pc_X11_needNewName_37
    refine wgF (G.tg 0) (G.fi 1 (i := 0) (f := 1) (j := 2)) ?_
    refine wg t_x.tg (fun z2_10 hz2_10 => ?_)
    have rz2_10 : inR z2_10 := hz2_10 ▸ G.ir _ _
    refine wtN (G.tg 2) ?_
    refine cl_Z (s_set (k := k + 1) (s := s + 6) (o := o) (z := z) (by omega) G (R.le (by omega) (by omega) (by omega) (by omega)) ⟨by omega, by omega⟩ (by first | assumption | exact inR_of _ | exact ⟨by omega, by omega⟩)) (fun s11 z5_12 rz5_12 Gs11 es11 Rs11 fz5_12 => ?_)
    have E13 := (Ext.refl (b := b) (σ := σ)).trans es11
    have n4_2_s11 := Gs11.nu 4 2
    have n9_2_s11 := Gs11.nu 9 2
    exact thr_O Gs11 E13 (Rs11.le (by omega) (by omega) (by omega) (by omega))
  · refine wtN (G.tg 0) ?_
    refine cl_U (s_sortNumber (by omega) G t_x) (fun z12_15 rz12_15 fz12_15 => ?_)
    refine sf_if (fun c16 => ?_) (fun c16 => ?_)
    · refine wgF (G.tg 0) (G.fi 2 (i := 0) (f := 2) (j := 3)) ?_
      refine wgF (G.tg 3) (G.fi 9 (i := 3) (f := 5) (j := 9)) ?_
      refine wtN (G.tg 9) ?_
      refine cl_U (s_isFull9 (by omega) G) (fun z18_20 rz18_20 fz18_20 => ?_)
      refine sf_if (fun c21 => ?_) (fun c21 => ?_)
      · exact ret_O ⟨by decide, by decide⟩ G (Ext.refl (b := b) (σ := σ)) (R.le (by omega) (by omega) (by omega) (by omega)) (by first | trivial | assumption | omega | (dsimp only; omega) | exact (R.le (by omega) (by omega) (by omega) (by omega)))
      · refine wgF (G.tg 0) (G.fi 1 (i := 0) (f := 1) (j := 2)) ?_
        refine wg t_x.tg (fun z21_23 hz21_23 => ?_)
        have rz21_23 : inR z21_23 := hz21_23 ▸ G.ir _ _
        refine wtN (G.tg 2) ?_
        refine cl_Z (s_set (k := k + 1) (s := s + 6) (o := o) (z := z) (by omega) G (R.le (by omega) (by omega) (by omega) (by omega)) ⟨by omega, by omega⟩ (by first | assumption | exact inR_of _ | exact ⟨by omega, by omega⟩)) (fun s24 z24_25 rz24_25 Gs24 es24 Rs24 fz24_25 => ?_)
        have E26 := (Ext.refl (b := b) (σ := σ)).trans es24
        have n4_2_s24 := Gs24.nu 4 2
        have n9_2_s24 := Gs24.nu 9 2
        exact thr_O Gs24 E26 (Rs24.le (by omega) (by omega) (by omega) (by omega))
    · unfold pc_X11_needNewName_37
      refine wgF (G.tg 0) (G.fi 1 (i := 0) (f := 1) (j := 2)) ?_
      refine wg t_x.tg (fun z2_28 hz2_28 => ?_)
      have rz2_28 : inR z2_28 := hz2_28 ▸ G.ir _ _
      refine wtN (G.tg 2) ?_
      refine cl_Z (s_set (k := k + 1) (s := s + 6) (o := o) (z := z) (by omega) G (R.le (by omega) (by omega) (by omega) (by omega)) ⟨by omega, by omega⟩ (by first | assumption | exact inR_of _ | exact ⟨by omega, by omega⟩)) (fun s29 z5_30 rz5_30 Gs29 es29 Rs29 fz5_30 => ?_)
      have E31 := (Ext.refl (b := b) (σ := σ)).trans es29
      have n4_2_s29 := Gs29.nu 4 2
      have n9_2_s29 := Gs29.nu 9 2
      exact thr_O Gs29 E31 (Rs29.le (by omega) (by omega) (by omega) (by omega))
theorem s_needSame (hd : 114 ≤ d) (G : GG bd b σ) (R : RR bd b σ (k + 1) (s + 6) (o) (z)) {x y w : Int} (t_x : oN σ x) (rx : inR x) (t_y : oN σ y) (ry : inR y) (t_w : oN σ w) : sf (RC bd d 50 σ [((b + 0 : Nat) : Int), x, y, w]) (PO bd b σ k s o z (fun σ' r => RR bd b σ' (k + 1) (s + 6) o z)) := by
  obtain ⟨d, rfl⟩ : ∃ d0, d = d0 + 1 := ⟨d - 1, by omega⟩
  rw [rc_X11_needSame (by omega)]
  refine fin_O ?_
  unfold pc_X11_needSame_0
  refine wgF (G.tg 0) (G.fi 3 (i := 0) (f := 3) (j := 16)) ?_
  refine wtN (G.tg 16) ?_
  refine cl_O (s_areSame (k := k) (s := s) (o := o) (z := z) (by omega) G (R.le (by omega) (by omega) (by omega) (by omega)) t_x (by first | assumption | exact ref_R G R t_x.tg (by decide)) t_y (by first | assumption | exact ref_R G R t_y.tg (by decide))) (Ext.refl (b := b) (σ := σ)) (by omega) (by omega) (by omega) (by omega) (fun s2 z4_3 rz4_3 Gs2 es2 Rs2 fz4_3 => ?_)
  obtain ⟨fz4_3, Qz4_3⟩ := fz4_3
  have E4 := (Ext.refl (b := b) (σ := σ)).trans es2
  have t_w := t_w.up es2
  refine sf_if (fun c5 => ?_) (fun c5 => ?_)
  · exact ret_O ⟨by decide, by decide⟩ Gs2 E4 (Qz4_3.le (by omega) (by omega) (by omega) (by omega)) (by first | trivial | assumption | omega | (dsimp only; omega) | exact (Qz4_3.le (by omega) (by omega) (by omega) (by omega)))
  · refine wgF (Gs2.tg 0) (Gs2.fi 1 (i := 0) (f := 1) (j := 2)) ?_
    refine wg t_w.tg (fun z7_7 hz7_7 => ?_)
    have rz7_7 : inR z7_7 := hz7_7 ▸ Gs2.ir _ _
    refine wtN (Gs2.tg 2) ?_
    refine cl_Z (s_set (k := k + 1) (s := s + 6) (o := o) (z := z) (by omega) Gs2 (Qz4_3.le (by omega) (by omega) (by omega) (by omega)) ⟨by omega, by omega⟩ (by first | assumption | exact inR_of _ | exact ⟨by omega, by omega⟩)) (fun s8 z10_9 rz10_9 Gs8 es8 Rs8 fz10_9 => ?_)
    have E10 := E4.trans es8
    exact thr_O Gs8 E10 (Rs8.le (by omega) (by omega) (by omega) (by omega))
theorem s_addSort (hd : 12 ≤ d) (G : GG bd b σ) (R : RR bd b σ (k + 1) (s + 6) (o) (z)) {x : Int} {M : Nat} (t_x : oSK b σ x M 0) : sf (RC bd d 33 σ [((b + 0 : Nat) : Int), x]) (PO bd b σ k s o z (fun σ' r => RR bd b σ' (k + 1) (s + 6) o z)) := by
  obtain ⟨d, rfl⟩ : ∃ d0, d = d0 + 1 := ⟨d - 1, by omega⟩
  rw [rc_X11_addSort (by omega)]
  refine fin_O ?_
  unfold pc_X11_addSort_0
  have n4_2_σ := G.nu 4 2
  have n9_2_σ := G.nu 9 2
  refine wtN (G.tg 0) ?_
  refine cl_O (s_refuseBesideNames (k := k) (s := s) (o := o) (z := z) (by omega) G (R.le (by omega) (by omega) (by omega) (by omega)) t_x) (Ext.refl (b := b) (σ := σ)) (by omega) (by omega) (by omega) (by omega) (fun s1 z3_2 rz3_2 Gs1 es1 Rs1 fz3_2 => ?_)
  have Qz3_2 := fz3_2
  have E3 := (Ext.refl (b := b) (σ := σ)).trans es1
  have t_x := t_x.up es1
  have n4_2_s1 := Gs1.nu 4 2
  have n9_2_s1 := Gs1.nu 9 2
  refine wg t_x.tg (fun z4_4 hz4_4 => ?_)
  have rz4_4 : inR z4_4 := hz4_4 ▸ Gs1.ir _ _
  have t_z4_4 : oN s1 z4_4 := hz4_4 ▸ (by first | exact t_x.1.2.1.2.1 (by have := t_x.2; omega) | exact t_x.1.2.1.2.2.1 (by have := t_x.2; omega))
  refine wtN (Gs1.tg 0) ?_
  refine cl_U (s_sortNumber (by omega) Gs1 t_z4_4) (fun z7_6 rz7_6 fz7_6 => ?_)
  refine sf_if (fun c7 => ?_) (fun c7 => ?_)
  · refine wgF (Gs1.tg 0) (Gs1.fi 2 (i := 0) (f := 2) (j := 3)) ?_
    refine wgF (Gs1.tg 3) (Gs1.fi 6 (i := 3) (f := 0) (j := 4)) ?_
    refine wtN (Gs1.tg 4) ?_
    refine cl_U (s_isFull4 (by omega) Gs1) (fun z13_11 rz13_11 fz13_11 => ?_)
    refine sf_if (fun c12 => ?_) (fun c12 => ?_)
    · refine wgF (Gs1.tg 0) (Gs1.fi 2 (i := 0) (f := 2) (j := 3)) ?_
      refine wgF (Gs1.tg 3) (Gs1.fi 6 (i := 3) (f := 0) (j := 4)) ?_
      refine wgF (Gs1.tg 0) (Gs1.fi 0 (i := 0) (f := 0) (j := 1)) ?_
      refine wg t_x.tg (fun z18_16 hz18_16 => ?_)
      have rz18_16 : inR z18_16 := hz18_16 ▸ Gs1.ir _ _
      have t_z18_16 : oN s1 z18_16 := hz18_16 ▸ (by first | exact t_x.1.2.1.2.1 (by have := t_x.2; omega) | exact t_x.1.2.1.2.2.1 (by have := t_x.2; omega))
      refine wg t_z18_16.tg (fun z19_17 hz19_17 => ?_)
      have rz19_17 : inR z19_17 := hz19_17 ▸ Gs1.ir _ _
      have fz19_17 := Gs1.n4 t_z18_16.tg
      rw [hz19_17] at fz19_17
      refine wg t_x.tg (fun z20_18 hz20_18 => ?_)
      have rz20_18 : inR z20_18 := hz20_18 ▸ Gs1.ir _ _
      have t_z20_18 : oN s1 z20_18 := hz20_18 ▸ (by first | exact t_x.1.2.1.2.1 (by have := t_x.2; omega) | exact t_x.1.2.1.2.2.1 (by have := t_x.2; omega))
      refine wg t_z20_18.tg (fun z21_19 hz21_19 => ?_)
      have rz21_19 : inR z21_19 := hz21_19 ▸ Gs1.ir _ _
      have fz21_19 := Gs1.n5 t_z20_18.tg
      rw [hz21_19] at fz21_19
      refine wtN (Gs1.tg 4) ?_
      refine cl_Z (s_add4 (k := k + 1) (s := s + 6) (o := o) (z := z) (by omega) Gs1 (Qz3_2.le (by omega) (by omega) (by omega) (by omega)) (oBy.tape Gs1) (by decide) (by omega) ⟨by omega, by omega⟩) (fun s20 z24_21 rz24_21 Gs20 es20 Rs20 fz24_21 => ?_)
      have E22 := E3.trans es20
      have n4_2_s20 := Gs20.nu 4 2
      have n9_2_s20 := Gs20.nu 9 2
      exact ret_O ⟨by decide, by decide⟩ Gs20 E22 (Rs20.le (by omega) (by omega) (by omega) (by omega)) (by first | trivial | assumption | omega | (dsimp only; omega) | exact (Rs20.le (by omega) (by omega) (by omega) (by omega)))
    · refine wgF (Gs1.tg 0) (Gs1.fi 1 (i := 0) (f := 1) (j := 2)) ?_
      refine wg t_x.tg (fun z26_24 hz26_24 => ?_)
      have rz26_24 : inR z26_24 := hz26_24 ▸ Gs1.ir _ _
      have t_z26_24 : oN s1 z26_24 := hz26_24 ▸ (by first | exact t_x.1.2.1.2.1 (by have := t_x.2; omega) | exact t_x.1.2.1.2.2.1 (by have := t_x.2; omega))
      refine wg t_z26_24.tg (fun z27_25 hz27_25 => ?_)
      have rz27_25 : inR z27_25 := hz27_25 ▸ Gs1.ir _ _
      refine wtN (Gs1.tg 2) ?_
      refine cl_Z (s_set (k := k + 1) (s := s + 6) (o := o) (z := z) (by omega) Gs1 (Qz3_2.le (by omega) (by omega) (by omega) (by omega)) ⟨by omega, by omega⟩ (by first | assumption | exact inR_of _ | exact ⟨by omega, by omega⟩)) (fun s26 z30_27 rz30_27 Gs26 es26 Rs26 fz30_27 => ?_)
      have E28 := E3.trans es26
      have n4_2_s26 := Gs26.nu 4 2
      have n9_2_s26 := Gs26.nu 9 2
      exact thr_O Gs26 E28 (Rs26.le (by omega) (by omega) (by omega) (by omega))
  · refine wgF (Gs1.tg 0) (Gs1.fi 1 (i := 0) (f := 1) (j := 2)) ?_
    refine wg t_x.tg (fun z32_30 hz32_30 => ?_)
    have rz32_30 : inR z32_30 := hz32_30 ▸ Gs1.ir _ _
    have t_z32_30 : oN s1 z32_30 := hz32_30 ▸ (by first | exact t_x.1.2.1.2.1 (by have := t_x.2; omega) | exact t_x.1.2.1.2.2.1 (by have := t_x.2; omega))
    refine wg t_z32_30.tg (fun z33_31 hz33_31 => ?_)
    have rz33_31 : inR z33_31 := hz33_31 ▸ Gs1.ir _ _
    refine wtN (Gs1.tg 2) ?_
    refine cl_Z (s_set (k := k + 1) (s := s + 6) (o := o) (z := z) (by omega) Gs1 (Qz3_2.le (by omega) (by omega) (by omega) (by omega)) ⟨by omega, by omega⟩ (by first | assumption | exact inR_of _ | exact ⟨by omega, by omega⟩)) (fun s32 z36_33 rz36_33 Gs32 es32 Rs32 fz36_33 => ?_)
    have E34 := E3.trans es32
    have n4_2_s32 := Gs32.nu 4 2
    have n9_2_s32 := Gs32.nu 9 2
    exact thr_O Gs32 E34 (Rs32.le (by omega) (by omega) (by omega) (by omega))
theorem s_addAxiom (hd : 12 ≤ d) (G : GG bd b σ) (R : RR bd b σ (k + 1) (s + 6) (o) (z + 1)) {x : Int} {M : Nat} (t_x : oSK b σ x M 1) : sf (RC bd d 31 σ [((b + 0 : Nat) : Int), x]) (PO bd b σ k s o z (fun σ' r => RR bd b σ' (k + 1) (s + 6) o z)) := by
  obtain ⟨d, rfl⟩ : ∃ d0, d = d0 + 1 := ⟨d - 1, by omega⟩
  rw [rc_X11_addAxiom (by omega)]
  refine fin_O ?_
  unfold pc_X11_addAxiom_0
  have n4_2_σ := G.nu 4 2
  have n9_2_σ := G.nu 9 2
  refine wtN (G.tg 0) ?_
  refine cl_O (s_refuseBesideNames (k := k) (s := s) (o := o) (z := z + 1) (by omega) G (R.le (by omega) (by omega) (by omega) (by omega)) t_x) (Ext.refl (b := b) (σ := σ)) (by omega) (by omega) (by omega) (by omega) (fun s1 z3_2 rz3_2 Gs1 es1 Rs1 fz3_2 => ?_)
  have Qz3_2 := fz3_2
  have E3 := (Ext.refl (b := b) (σ := σ)).trans es1
  have t_x := t_x.up es1
  have n4_2_s1 := Gs1.nu 4 2
  have n9_2_s1 := Gs1.nu 9 2
  refine wg t_x.tg (fun z4_4 hz4_4 => ?_)
  have rz4_4 : inR z4_4 := hz4_4 ▸ Gs1.ir _ _
  have t_z4_4 : oN s1 z4_4 := hz4_4 ▸ (by first | exact t_x.1.2.1.2.1 (by have := t_x.2; omega) | exact t_x.1.2.1.2.2.1 (by have := t_x.2; omega))
  refine wtN (Gs1.tg 0) ?_
  refine cl_O (s_hneededSort (k := k) (s := s) (o := o) (z := z + 1) (by omega) Gs1 (Qz3_2.le (by omega) (by omega) (by omega) (by omega)) t_z4_4) E3 (by omega) (by omega) (by omega) (by omega) (fun s5 z7_6 rz7_6 Gs5 es5 Rs5 fz7_6 => ?_)
  obtain ⟨fz7_6, Qz7_6⟩ := fz7_6
  have E7 := E3.trans es5
  have t_x := t_x.up es5
  have n4_2_s5 := Gs5.nu 4 2
  have n9_2_s5 := Gs5.nu 9 2
  refine wg t_x.tg (fun z8_8 hz8_8 => ?_)
  have rz8_8 : inR z8_8 := hz8_8 ▸ Gs5.ir _ _
  have t_z8_8 : oN s5 z8_8 := hz8_8 ▸ t_x.1.2.1.2.2.2.1 (by have := t_x.2; omega)
  refine wtN (Gs5.tg 0) ?_
  refine cl_O (s_hneededSort (k := k) (s := s) (o := o) (z := z + 1) (by omega) Gs5 (Qz7_6.le (by omega) (by omega) (by omega) (by omega)) t_z8_8) E7 (by omega) (by omega) (by omega) (by omega) (fun s9 z11_10 rz11_10 Gs9 es9 Rs9 fz11_10 => ?_)
  obtain ⟨fz11_10, Qz11_10⟩ := fz11_10
  have E11 := E7.trans es9
  have t_x := t_x.up es9
  have n4_2_s9 := Gs9.nu 4 2
  have n9_2_s9 := Gs9.nu 9 2
  refine wgF (Gs9.tg 0) (Gs9.fi 2 (i := 0) (f := 2) (j := 3)) ?_
  refine wtN (Gs9.tg 3) ?_
  refine cl_U (s_axiomOf (by omega) Gs9) (fun z15_14 rz15_14 fz15_14 => ?_)
  refine sf_if (fun c15 => ?_) (fun c15 => ?_)
  · refine wgF (Gs9.tg 0) (Gs9.fi 2 (i := 0) (f := 2) (j := 3)) ?_
    refine wtN (Gs9.tg 3) ?_
    refine cl_Z (s_setAxiom (k := k + 1) (s := s + 6) (o := o) (z := z) (by omega) Gs9 (Qz11_10.le (by omega) (by omega) (by omega) (by omega)) ⟨by omega, by omega⟩) (fun s17 z20_18 rz20_18 Gs17 es17 Rs17 fz20_18 => ?_)
    have E19 := E11.trans es17
    have n4_2_s17 := Gs17.nu 4 2
    have n9_2_s17 := Gs17.nu 9 2
    exact ret_O ⟨by decide, by decide⟩ Gs17 E19 (Rs17.le (by omega) (by omega) (by omega) (by omega)) (by first | trivial | assumption | omega | (dsimp only; omega) | exact (Rs17.le (by omega) (by omega) (by omega) (by omega)))
  · refine wgF (Gs9.tg 0) (Gs9.fi 1 (i := 0) (f := 1) (j := 2)) ?_
    refine wg t_x.tg (fun z22_21 hz22_21 => ?_)
    have rz22_21 : inR z22_21 := hz22_21 ▸ Gs9.ir _ _
    have t_z22_21 : oN s9 z22_21 := hz22_21 ▸ (by first | exact t_x.1.2.1.2.1 (by have := t_x.2; omega) | exact t_x.1.2.1.2.2.1 (by have := t_x.2; omega))
    refine wg t_z22_21.tg (fun z23_22 hz23_22 => ?_)
    have rz23_22 : inR z23_22 := hz23_22 ▸ Gs9.ir _ _
    refine wtN (Gs9.tg 2) ?_
    refine cl_Z (s_set (k := k + 1) (s := s + 6) (o := o) (z := z + 1) (by omega) Gs9 (Qz11_10.le (by omega) (by omega) (by omega) (by omega)) ⟨by omega, by omega⟩ (by first | assumption | exact inR_of _ | exact ⟨by omega, by omega⟩)) (fun s23 z26_24 rz26_24 Gs23 es23 Rs23 fz26_24 => ?_)
    have E25 := E11.trans es23
    have n4_2_s23 := Gs23.nu 4 2
    have n9_2_s23 := Gs23.nu 9 2
    exact thr_O Gs23 E25 (Rs23.le (by omega) (by omega) (by omega) (by omega))
theorem s_addRule (hd : 12 ≤ d) (G : GG bd b σ) (R : RR bd b σ (k + 1) (s + 6) (o) (z + 1)) {x : Int} {M : Nat} (t_x : oSK b σ x M 2) : sf (RC bd d 32 σ [((b + 0 : Nat) : Int), x]) (PO bd b σ k s o z (fun σ' r => RR bd b σ' (k + 1) (s + 6) o z)) := by
  obtain ⟨d, rfl⟩ : ∃ d0, d = d0 + 1 := ⟨d - 1, by omega⟩
  rw [rc_X11_addRule (by omega)]
  refine fin_O ?_
  unfold pc_X11_addRule_0
  have n4_2_σ := G.nu 4 2
  have n9_2_σ := G.nu 9 2
  refine wtN (G.tg 0) ?_
  refine cl_O (s_refuseBesideNames (k := k) (s := s) (o := o) (z := z + 1) (by omega) G (R.le (by omega) (by omega) (by omega) (by omega)) t_x) (Ext.refl (b := b) (σ := σ)) (by omega) (by omega) (by omega) (by omega) (fun s1 z3_2 rz3_2 Gs1 es1 Rs1 fz3_2 => ?_)
  have Qz3_2 := fz3_2
  have E3 := (Ext.refl (b := b) (σ := σ)).trans es1
  have t_x := t_x.up es1
  have n4_2_s1 := Gs1.nu 4 2
  have n9_2_s1 := Gs1.nu 9 2
  refine wg t_x.tg (fun z4_4 hz4_4 => ?_)
  have rz4_4 : inR z4_4 := hz4_4 ▸ Gs1.ir _ _
  have t_z4_4 : oN s1 z4_4 := hz4_4 ▸ (by first | exact t_x.1.2.1.2.1 (by have := t_x.2; omega) | exact t_x.1.2.1.2.2.1 (by have := t_x.2; omega))
  refine wtN (Gs1.tg 0) ?_
  refine cl_O (s_hneededSort (k := k) (s := s) (o := o) (z := z + 1) (by omega) Gs1 (Qz3_2.le (by omega) (by omega) (by omega) (by omega)) t_z4_4) E3 (by omega) (by omega) (by omega) (by omega) (fun s5 z7_6 rz7_6 Gs5 es5 Rs5 fz7_6 => ?_)
  obtain ⟨fz7_6, Qz7_6⟩ := fz7_6
  have E7 := E3.trans es5
  have t_x := t_x.up es5
  have n4_2_s5 := Gs5.nu 4 2
  have n9_2_s5 := Gs5.nu 9 2
  refine wg t_x.tg (fun z8_8 hz8_8 => ?_)
  have rz8_8 : inR z8_8 := hz8_8 ▸ Gs5.ir _ _
  have t_z8_8 : oN s5 z8_8 := hz8_8 ▸ t_x.1.2.1.2.2.2.1 (by have := t_x.2; omega)
  refine wtN (Gs5.tg 0) ?_
  refine cl_O (s_hneededSort (k := k) (s := s) (o := o) (z := z + 1) (by omega) Gs5 (Qz7_6.le (by omega) (by omega) (by omega) (by omega)) t_z8_8) E7 (by omega) (by omega) (by omega) (by omega) (fun s9 z11_10 rz11_10 Gs9 es9 Rs9 fz11_10 => ?_)
  obtain ⟨fz11_10, Qz11_10⟩ := fz11_10
  have E11 := E7.trans es9
  have t_x := t_x.up es9
  have n4_2_s9 := Gs9.nu 4 2
  have n9_2_s9 := Gs9.nu 9 2
  refine wg t_x.tg (fun z12_12 hz12_12 => ?_)
  have rz12_12 : inR z12_12 := hz12_12 ▸ Gs9.ir _ _
  have t_z12_12 : oN s9 z12_12 := hz12_12 ▸ (by first | exact t_x.1.2.1.2.2.2.2.1 (by have := t_x.2; omega) | exact t_x.1.2.1.2.2.2.2.2.1 (by have := t_x.2; omega))
  refine wtN (Gs9.tg 0) ?_
  refine cl_O (s_hneededSort (k := k) (s := s) (o := o) (z := z + 1) (by omega) Gs9 (Qz11_10.le (by omega) (by omega) (by omega) (by omega)) t_z12_12) E11 (by omega) (by omega) (by omega) (by omega) (fun s13 z15_14 rz15_14 Gs13 es13 Rs13 fz15_14 => ?_)
  obtain ⟨fz15_14, Qz15_14⟩ := fz15_14
  have E15 := E11.trans es13
  have t_x := t_x.up es13
  have n4_2_s13 := Gs13.nu 4 2
  have n9_2_s13 := Gs13.nu 9 2
  refine wgF (Gs13.tg 0) (Gs13.fi 2 (i := 0) (f := 2) (j := 3)) ?_
  refine wtN (Gs13.tg 3) ?_
  refine cl_U (s_ruleOf (by omega) Gs13) (fun z19_18 rz19_18 fz19_18 => ?_)
  refine sf_if (fun c19 => ?_) (fun c19 => ?_)
  · refine wgF (Gs13.tg 0) (Gs13.fi 2 (i := 0) (f := 2) (j := 3)) ?_
    refine wtN (Gs13.tg 3) ?_
    refine cl_Z (s_setRule (k := k + 1) (s := s + 6) (o := o) (z := z) (by omega) Gs13 (Qz15_14.le (by omega) (by omega) (by omega) (by omega)) ⟨by omega, by omega⟩) (fun s21 z24_22 rz24_22 Gs21 es21 Rs21 fz24_22 => ?_)
    have E23 := E15.trans es21
    have n4_2_s21 := Gs21.nu 4 2
    have n9_2_s21 := Gs21.nu 9 2
    exact ret_O ⟨by decide, by decide⟩ Gs21 E23 (Rs21.le (by omega) (by omega) (by omega) (by omega)) (by first | trivial | assumption | omega | (dsimp only; omega) | exact (Rs21.le (by omega) (by omega) (by omega) (by omega)))
  · refine wgF (Gs13.tg 0) (Gs13.fi 1 (i := 0) (f := 1) (j := 2)) ?_
    refine wg t_x.tg (fun z26_25 hz26_25 => ?_)
    have rz26_25 : inR z26_25 := hz26_25 ▸ Gs13.ir _ _
    have t_z26_25 : oN s13 z26_25 := hz26_25 ▸ (by first | exact t_x.1.2.1.2.1 (by have := t_x.2; omega) | exact t_x.1.2.1.2.2.1 (by have := t_x.2; omega))
    refine wg t_z26_25.tg (fun z27_26 hz27_26 => ?_)
    have rz27_26 : inR z27_26 := hz27_26 ▸ Gs13.ir _ _
    refine wtN (Gs13.tg 2) ?_
    refine cl_Z (s_set (k := k + 1) (s := s + 6) (o := o) (z := z + 1) (by omega) Gs13 (Qz15_14.le (by omega) (by omega) (by omega) (by omega)) ⟨by omega, by omega⟩ (by first | assumption | exact inR_of _ | exact ⟨by omega, by omega⟩)) (fun s27 z30_28 rz30_28 Gs27 es27 Rs27 fz30_28 => ?_)
    have E29 := E15.trans es27
    have n4_2_s27 := Gs27.nu 4 2
    have n9_2_s27 := Gs27.nu 9 2
    exact thr_O Gs27 E29 (Rs27.le (by omega) (by omega) (by omega) (by omega))
theorem s_assume {n1 n2 : Nat} (hd : 206 ≤ d) (G : GG bd b σ) (R : RR bd b σ (k + 4 + 3 * n1 + 3 * n2) (s + 31 + 25 * n1 + 25 * n2) (o) (z)) {x : Int} {M : Nat} (t_x : oSK b σ x M 7) (S1 : TS b σ 82 (c_pv σ x.toNat 3) n1) (S2 : c_pv σ x.toNat 4 < 0 ∨ TS b σ 82 (c_pv σ x.toNat 4) n2) : sf (RC bd d 35 σ [((b + 0 : Nat) : Int), x]) (PO bd b σ k s o z (fun σ' r => RR bd b σ' (k + 1) (s + 6) o z)) := by
  obtain ⟨d, rfl⟩ : ∃ d0, d = d0 + 1 := ⟨d - 1, by omega⟩
  rw [rc_X11_assume (by omega)]
  refine fin_O ?_
  unfold pc_X11_assume_0
  have tx0 := t_x.tg.2
  have n4_2_σ := G.nu 4 2
  have n9_2_σ := G.nu 9 2
  refine wg t_x.tg (fun z1_1 hz1_1 => ?_)
  have rz1_1 : inR z1_1 := hz1_1 ▸ G.ir _ _
  have t_z1_1 : oN σ z1_1 := hz1_1 ▸ (by first | exact t_x.1.2.1.2.1 (by have := t_x.2; omega) | exact t_x.1.2.1.2.2.1 (by have := t_x.2; omega))
  refine wtN (G.tg 0) ?_
  refine cl_O (s_needNewName (k := k + 3 + 3 * n1 + 3 * n2) (s := s + 25 + 25 * n1 + 25 * n2) (o := o) (z := z) (by omega) G (R.le (by omega) (by omega) (by omega) (by omega)) t_z1_1) (Ext.refl (b := b) (σ := σ)) (by omega) (by omega) (by omega) (by omega) (fun s2 z4_3 rz4_3 Gs2 es2 Rs2 fz4_3 => ?_)
  have Qz4_3 := fz4_3
  have E4 := (Ext.refl (b := b) (σ := σ)).trans es2
  have t_x := t_x.up es2
  have S1 := S1.up es2
  have n4_2_s2 := Gs2.nu 4 2
  have n9_2_s2 := Gs2.nu 9 2
  refine wgF (Gs2.tg 0) (Gs2.fi 5 (i := 0) (f := 5) (j := 23)) ?_
  refine wg t_x.tg (fun z6_6 hz6_6 => ?_)
  have rz6_6 : inR z6_6 := hz6_6 ▸ Gs2.ir _ _
  have t_z6_6 : oN s2 z6_6 := hz6_6 ▸ t_x.1.2.1.2.2.2.1 (by have := t_x.2; omega)
  have S_z6 : TS b s2 82 z6_6 n1 := by rw [← hz6_6, E4.sm tx0 3]; exact S1
  refine wtN (Gs2.tg 23) ?_
  refine cl_O (s_sortAsType (k := k + 3 + 3 * n2) (s := s + 25 + 25 * n2) (o := o) (z := z) (n := n1) (by omega) Gs2 (Qz4_3.le (by omega) (by omega) (by omega) (by omega)) S_z6 (by first | assumption | exact ref_R Gs2 Qz4_3 t_z6_6.tg (by decide))) E4 (by omega) (by omega) (by omega) (by omega) (fun s7 z9_8 rz9_8 Gs7 es7 Rs7 fz9_8 => ?_)
  have Qz9_8 := fz9_8
  have E9 := E4.trans es7
  have t_x := t_x.up es7
  have S1 := S1.up es7
  have S_z6 := S_z6.up es7
  have n4_2_s7 := Gs7.nu 4 2
  have n9_2_s7 := Gs7.nu 9 2
  refine wgF (Gs7.tg 0) (Gs7.fi 3 (i := 0) (f := 3) (j := 16)) ?_
  refine wg t_x.tg (fun z11_11 hz11_11 => ?_)
  have rz11_11 : inR z11_11 := hz11_11 ▸ Gs7.ir _ _
  have t_z11_11 : oN s7 z11_11 := hz11_11 ▸ t_x.1.2.1.2.2.2.1 (by have := t_x.2; omega)
  refine wtN (Gs7.tg 16) ?_
  refine cl_O (s_normalForm (k := k + 3 + 3 * n2) (s := s + 25 + 25 * n2) (o := o) (z := z) (by omega) Gs7 (Qz9_8.le (by omega) (by omega) (by omega) (by omega)) t_z11_11 (by first | assumption | exact ref_R Gs7 Qz9_8 t_z11_11.tg (by decide)) (oL.nul (by decide)) ⟨by decide, by decide⟩) E9 (by omega) (by omega) (by omega) (by omega) (fun s12 z14_13 rz14_13 Gs12 es12 Rs12 fz14_13 => ?_)
  obtain ⟨t_z14_13, Qz14_13⟩ := fz14_13
  have E14 := E9.trans es12
  have t_x := t_x.up es12
  have S1 := S1.up es12
  have S_z6 := S_z6.up es12
  have n4_2_s12 := Gs12.nu 4 2
  have n9_2_s12 := Gs12.nu 9 2
  refine wg t_x.tg (fun z15_15 hz15_15 => ?_)
  have rz15_15 : inR z15_15 := hz15_15 ▸ Gs12.ir _ _
  have t_z15_15 : oNN s12 z15_15 := hz15_15 ▸ t_x.1.2.1.2.2.2.2.2.2
  refine sf_if (fun c16 => ?_) (fun c16 => ?_)
  · unfold pc_X11_assume_60
    refine wgF (Gs12.tg 0) (Gs12.fi 2 (i := 0) (f := 2) (j := 3)) ?_
    refine wgF (Gs12.tg 0) (Gs12.fi 0 (i := 0) (f := 0) (j := 1)) ?_
    refine wg t_x.tg (fun z3_19 hz3_19 => ?_)
    have rz3_19 : inR z3_19 := hz3_19 ▸ Gs12.ir _ _
    have t_z3_19 : oN s12 z3_19 := hz3_19 ▸ (by first | exact t_x.1.2.1.2.1 (by have := t_x.2; omega) | exact t_x.1.2.1.2.2.1 (by have := t_x.2; omega))
    refine wg t_x.tg (fun z4_20 hz4_20 => ?_)
    have rz4_20 : inR z4_20 := hz4_20 ▸ Gs12.ir _ _
    have t_z4_20 : oNN s12 z4_20 := hz4_20 ▸ t_x.1.2.1.2.2.2.2.2.2
    refine wtN (Gs12.tg 3) ?_
    refine cl_Z (s_addName (k := k + 4 + 3 * n2) (s := s + 31 + 25 * n2) (o := o) (z := z) (by omega) Gs12 (Qz14_13.le (by omega) (by omega) (by omega) (by omega)) t_z3_19 t_z14_13 (by first | assumption | exact ref_R Gs12 Qz14_13 t_z14_13.tg (by decide)) (by first | assumption | exact inR_of _ | exact ⟨by omega, by omega⟩) t_z4_20 (by first | assumption | exact ref_R Gs12 Qz14_13 t_z4_20.tg (by decide))) (fun s21 z7_22 rz7_22 Gs21 es21 Rs21 fz7_22 => ?_)
    have E23 := E14.trans es21
    have S1 := S1.up es21
    have S_z6 := S_z6.up es21
    have n4_2_s21 := Gs21.nu 4 2
    have n9_2_s21 := Gs21.nu 9 2
    exact ret_O ⟨by decide, by decide⟩ Gs21 E23 (Rs21.le (by omega) (by omega) (by omega) (by omega)) (by first | trivial | assumption | omega | (dsimp only; omega) | exact (Rs21.le (by omega) (by omega) (by omega) (by omega)))
  · have t_z15_15 := t_z15_15.pos (by omega)
    refine wgF (Gs12.tg 0) (Gs12.fi 5 (i := 0) (f := 5) (j := 23)) ?_
    refine wg t_x.tg (fun z18_25 hz18_25 => ?_)
    have rz18_25 : inR z18_25 := hz18_25 ▸ Gs12.ir _ _
    have t_z18_25 : oNN s12 z18_25 := hz18_25 ▸ t_x.1.2.1.2.2.2.2.2.2
    have e4_z18 := E14.sm tx0 4
    have S_z18 : TS b s12 82 z18_25 n2 := by rw [← hz18_25, e4_z18]; exact (S2.resolve_left (by omega)).up E14
    have t_z18_25 := S_z18.n
    refine wtN (Gs12.tg 23) ?_
    refine cl_O (s_typeOf (k := k + 3) (s := s + 25) (o := o) (z := z) (n := n2) (by omega) Gs12 (Qz14_13.le (by omega) (by omega) (by omega) (by omega)) S_z18 (by first | assumption | exact ref_R Gs12 Qz14_13 t_z18_25.tg (by decide))) E14 (by omega) (by omega) (by omega) (by omega) (fun s26 z21_27 rz21_27 Gs26 es26 Rs26 fz21_27 => ?_)
    obtain ⟨t_z21_27, Qz21_27⟩ := fz21_27
    have E28 := E14.trans es26
    have t_x := t_x.up es26
    have t_z14_13 := t_z14_13.up es26
    have S1 := S1.up es26
    have S_z6 := S_z6.up es26
    have S_z18 := S_z18.up es26
    have n4_2_s26 := Gs26.nu 4 2
    have n9_2_s26 := Gs26.nu 9 2
    refine wg t_x.tg (fun z22_29 hz22_29 => ?_)
    have rz22_29 : inR z22_29 := hz22_29 ▸ Gs26.ir _ _
    have t_z22_29 : oNN s26 z22_29 := hz22_29 ▸ t_x.1.2.1.2.2.2.2.2.2
    have e4_z22 := E28.sm tx0 4
    have S_z22 : TS b s26 82 z22_29 n2 := by rw [← hz22_29, e4_z22]; exact (S2.resolve_left (by omega)).up E28
    have t_z22_29 := S_z22.n
    refine wtN (Gs26.tg 0) ?_
    refine cl_O (s_needSame (k := k + 3) (s := s + 25) (o := o) (z := z) (by omega) Gs26 (Qz21_27.le (by omega) (by omega) (by omega) (by omega)) t_z14_13 (by first | assumption | exact ref_R Gs26 Qz21_27 t_z14_13.tg (by decide)) t_z21_27 (by first | assumption | exact ref_R Gs26 Qz21_27 t_z21_27.tg (by decide)) t_z22_29) E28 (by omega) (by omega) (by omega) (by omega) (fun s30 z25_31 rz25_31 Gs30 es30 Rs30 fz25_31 => ?_)
    have Qz25_31 := fz25_31
    have E32 := E28.trans es30
    have t_x := t_x.up es30
    have t_z14_13 := t_z14_13.up es30
    have S1 := S1.up es30
    have S_z6 := S_z6.up es30
    have S_z18 := S_z18.up es30
    have S_z22 := S_z22.up es30
    have n4_2_s30 := Gs30.nu 4 2
    have n9_2_s30 := Gs30.nu 9 2
    unfold pc_X11_assume_60
    refine wgF (Gs30.tg 0) (Gs30.fi 2 (i := 0) (f := 2) (j := 3)) ?_
    refine wgF (Gs30.tg 0) (Gs30.fi 0 (i := 0) (f := 0) (j := 1)) ?_
    refine wg t_x.tg (fun z3_35 hz3_35 => ?_)
    have rz3_35 : inR z3_35 := hz3_35 ▸ Gs30.ir _ _
    have t_z3_35 : oN s30 z3_35 := hz3_35 ▸ (by first | exact t_x.1.2.1.2.1 (by have := t_x.2; omega) | exact t_x.1.2.1.2.2.1 (by have := t_x.2; omega))
    refine wg t_x.tg (fun z4_36 hz4_36 => ?_)
    have rz4_36 : inR z4_36 := hz4_36 ▸ Gs30.ir _ _
    have t_z4_36 : oNN s30 z4_36 := hz4_36 ▸ t_x.1.2.1.2.2.2.2.2.2
    refine wtN (Gs30.tg 3) ?_
    refine cl_Z (s_addName (k := k + 4) (s := s + 31) (o := o) (z := z) (by omega) Gs30 (Qz25_31.le (by omega) (by omega) (by omega) (by omega)) t_z3_35 t_z14_13 (by first | assumption | exact ref_R Gs30 Qz25_31 t_z14_13.tg (by decide)) (by first | assumption | exact inR_of _ | exact ⟨by omega, by omega⟩) t_z4_36 (by first | assumption | exact ref_R Gs30 Qz25_31 t_z4_36.tg (by decide))) (fun s37 z7_38 rz7_38 Gs37 es37 Rs37 fz7_38 => ?_)
    have E39 := E32.trans es37
    have S1 := S1.up es37
    have S_z6 := S_z6.up es37
    have S_z18 := S_z18.up es37
    have S_z22 := S_z22.up es37
    have n4_2_s37 := Gs37.nu 4 2
    have n9_2_s37 := Gs37.nu 9 2
    exact ret_O ⟨by decide, by decide⟩ Gs37 E39 (Rs37.le (by omega) (by omega) (by omega) (by omega)) (by first | trivial | assumption | omega | (dsimp only; omega) | exact (Rs37.le (by omega) (by omega) (by omega) (by omega)))
theorem s_define {n1 n2 : Nat} (hd : 206 ≤ d) (G : GG bd b σ) (R : RR bd b σ (k + 4 + 3 * n1 + 3 * n2) (s + 31 + 25 * n1 + 25 * n2) (o) (z)) {x : Int} {M : Nat} (t_x : oSK b σ x M 8) (S1 : TS b σ 82 (c_pv σ x.toNat 3) n1) (S2 : c_pv σ x.toNat 4 < 0 ∨ TS b σ 82 (c_pv σ x.toNat 4) n2) : sf (RC bd d 41 σ [((b + 0 : Nat) : Int), x]) (PO bd b σ k s o z (fun σ' r => RR bd b σ' (k + 1) (s + 6) o z)) := by
  obtain ⟨d, rfl⟩ : ∃ d0, d = d0 + 1 := ⟨d - 1, by omega⟩
  rw [rc_X11_define (by omega)]
  refine fin_O ?_
  unfold pc_X11_define_0
  have tx0 := t_x.tg.2
  have n4_2_σ := G.nu 4 2
  have n9_2_σ := G.nu 9 2
  refine wg t_x.tg (fun z1_1 hz1_1 => ?_)
  have rz1_1 : inR z1_1 := hz1_1 ▸ G.ir _ _
  have t_z1_1 : oN σ z1_1 := hz1_1 ▸ (by first | exact t_x.1.2.1.2.1 (by have := t_x.2; omega) | exact t_x.1.2.1.2.2.1 (by have := t_x.2; omega))
  refine wtN (G.tg 0) ?_
  refine cl_O (s_needNewName (k := k + 3 + 3 * n1 + 3 * n2) (s := s + 25 + 25 * n1 + 25 * n2) (o := o) (z := z) (by omega) G (R.le (by omega) (by omega) (by omega) (by omega)) t_z1_1) (Ext.refl (b := b) (σ := σ)) (by omega) (by omega) (by omega) (by omega) (fun s2 z4_3 rz4_3 Gs2 es2 Rs2 fz4_3 => ?_)
  have Qz4_3 := fz4_3
  have E4 := (Ext.refl (b := b) (σ := σ)).trans es2
  have t_x := t_x.up es2
  have S1 := S1.up es2
  have n4_2_s2 := Gs2.nu 4 2
  have n9_2_s2 := Gs2.nu 9 2
  refine wgF (Gs2.tg 0) (Gs2.fi 5 (i := 0) (f := 5) (j := 23)) ?_
  refine wg t_x.tg (fun z6_6 hz6_6 => ?_)
  have rz6_6 : inR z6_6 := hz6_6 ▸ Gs2.ir _ _
  have t_z6_6 : oN s2 z6_6 := hz6_6 ▸ t_x.1.2.1.2.2.2.1 (by have := t_x.2; omega)
  have S_z6 : TS b s2 82 z6_6 n1 := by rw [← hz6_6, E4.sm tx0 3]; exact S1
  refine wtN (Gs2.tg 23) ?_
  refine cl_O (s_typeOf (k := k + 3 + 3 * n2) (s := s + 25 + 25 * n2) (o := o) (z := z) (n := n1) (by omega) Gs2 (Qz4_3.le (by omega) (by omega) (by omega) (by omega)) S_z6 (by first | assumption | exact ref_R Gs2 Qz4_3 t_z6_6.tg (by decide))) E4 (by omega) (by omega) (by omega) (by omega) (fun s7 z9_8 rz9_8 Gs7 es7 Rs7 fz9_8 => ?_)
  obtain ⟨t_z9_8, Qz9_8⟩ := fz9_8
  have E9 := E4.trans es7
  have t_x := t_x.up es7
  have S1 := S1.up es7
  have S_z6 := S_z6.up es7
  have n4_2_s7 := Gs7.nu 4 2
  have n9_2_s7 := Gs7.nu 9 2
  refine wgF (Gs7.tg 0) (Gs7.fi 2 (i := 0) (f := 2) (j := 3)) ?_
  refine wgF (Gs7.tg 0) (Gs7.fi 0 (i := 0) (f := 0) (j := 1)) ?_
  refine wg t_x.tg (fun z12_12 hz12_12 => ?_)
  have rz12_12 : inR z12_12 := hz12_12 ▸ Gs7.ir _ _
  have t_z12_12 : oN s7 z12_12 := hz12_12 ▸ (by first | exact t_x.1.2.1.2.1 (by have := t_x.2; omega) | exact t_x.1.2.1.2.2.1 (by have := t_x.2; omega))
  refine wgF (Gs7.tg 0) (Gs7.fi 5 (i := 0) (f := 5) (j := 23)) ?_
  refine wgN (Gs7.tg 23) (fun z14_14 hz14_14 => ?_)
  have rz14_14 : inR z14_14 := hz14_14 ▸ Gs7.ir _ _
  refine wg t_x.tg (fun z15_15 hz15_15 => ?_)
  have rz15_15 : inR z15_15 := hz15_15 ▸ Gs7.ir _ _
  have t_z15_15 : oN s7 z15_15 := hz15_15 ▸ t_x.1.2.1.2.2.2.1 (by have := t_x.2; omega)
  refine wtN (Gs7.tg 3) ?_
  refine cl_Z (s_addName (k := k + 4 + 3 * n2) (s := s + 31 + 25 * n2) (o := o) (z := z) (by omega) Gs7 (Qz9_8.le (by omega) (by omega) (by omega) (by omega)) t_z12_12 t_z9_8 (by first | assumption | exact ref_R Gs7 Qz9_8 t_z9_8.tg (by decide)) (by first | assumption | exact inR_of _ | exact ⟨by omega, by omega⟩) t_z15_15.nn (by first | assumption | exact ref_R Gs7 Qz9_8 t_z15_15.tg (by decide))) (fun s16 z18_17 rz18_17 Gs16 es16 Rs16 fz18_17 => ?_)
  have E18 := E9.trans es16
  have S1 := S1.up es16
  have S_z6 := S_z6.up es16
  have n4_2_s16 := Gs16.nu 4 2
  have n9_2_s16 := Gs16.nu 9 2
  exact ret_O ⟨by decide, by decide⟩ Gs16 E18 (Rs16.le (by omega) (by omega) (by omega) (by omega)) (by first | trivial | assumption | omega | (dsimp only; omega) | exact (Rs16.le (by omega) (by omega) (by omega) (by omega)))
theorem s_check {n1 n2 : Nat} (hd : 206 ≤ d) (G : GG bd b σ) (R : RR bd b σ (k + 4 + 3 * n1 + 3 * n2) (s + 31 + 25 * n1 + 25 * n2) (o + 4) (z)) {x : Int} {M : Nat} (t_x : oSK b σ x M 3) (S1 : TS b σ 82 (c_pv σ x.toNat 3) n1) (S2 : c_pv σ x.toNat 4 < 0 ∨ TS b σ 82 (c_pv σ x.toNat 4) n2) : sf (RC bd d 37 σ [((b + 0 : Nat) : Int), x]) (PO bd b σ k s o z (fun σ' r => RR bd b σ' (k + 1) (s + 6) o z)) := by
  obtain ⟨d, rfl⟩ : ∃ d0, d = d0 + 1 := ⟨d - 1, by omega⟩
  rw [rc_X11_check (by omega)]
  refine fin_O ?_
  unfold pc_X11_check_0
  have tx0 := t_x.tg.2
  have n4_2_σ := G.nu 4 2
  have n9_2_σ := G.nu 9 2
  refine wg t_x.tg (fun z1_1 hz1_1 => ?_)
  have rz1_1 : inR z1_1 := hz1_1 ▸ G.ir _ _
  have t_z1_1 : oNN σ z1_1 := hz1_1 ▸ t_x.1.2.1.2.2.2.2.2.2
  refine sf_if (fun c2 => ?_) (fun c2 => ?_)
  · have t_z1_1 := t_z1_1.pos (by omega)
    refine wgF (G.tg 0) (G.fi 5 (i := 0) (f := 5) (j := 23)) ?_
    refine wg t_x.tg (fun z4_4 hz4_4 => ?_)
    have rz4_4 : inR z4_4 := hz4_4 ▸ G.ir _ _
    have t_z4_4 : oNN σ z4_4 := hz4_4 ▸ t_x.1.2.1.2.2.2.2.2.2
    have e4_z4 := (Ext.refl (b := b) (σ := σ)).sm tx0 4
    have S_z4 : TS b σ 82 z4_4 n2 := by rw [← hz4_4, e4_z4]; exact (S2.resolve_left (by omega)).up (Ext.refl (b := b) (σ := σ))
    have t_z4_4 := S_z4.n
    refine wtN (G.tg 23) ?_
    refine cl_O (s_sortAsType (k := k + 3 + 3 * n1) (s := s + 25 + 25 * n1) (o := o + 4) (z := z) (n := n2) (by omega) G (R.le (by omega) (by omega) (by omega) (by omega)) S_z4 (by first | assumption | exact ref_R G R t_z4_4.tg (by decide))) (Ext.refl (b := b) (σ := σ)) (by omega) (by omega) (by omega) (by omega) (fun s5 z7_6 rz7_6 Gs5 es5 Rs5 fz7_6 => ?_)
    have Qz7_6 := fz7_6
    have E7 := (Ext.refl (b := b) (σ := σ)).trans es5
    have t_x := t_x.up es5
    have S1 := S1.up es5
    have S_z4 := S_z4.up es5
    have n4_2_s5 := Gs5.nu 4 2
    have n9_2_s5 := Gs5.nu 9 2
    refine wgF (Gs5.tg 0) (Gs5.fi 3 (i := 0) (f := 3) (j := 16)) ?_
    refine wg t_x.tg (fun z9_9 hz9_9 => ?_)
    have rz9_9 : inR z9_9 := hz9_9 ▸ Gs5.ir _ _
    have t_z9_9 : oNN s5 z9_9 := hz9_9 ▸ t_x.1.2.1.2.2.2.2.2.2
    have e4_z9 := E7.sm tx0 4
    have S_z9 : TS b s5 82 z9_9 n2 := by rw [← hz9_9, e4_z9]; exact (S2.resolve_left (by omega)).up E7
    have t_z9_9 := S_z9.n
    refine wtN (Gs5.tg 16) ?_
    refine cl_O (s_normalForm (k := k + 3 + 3 * n1) (s := s + 25 + 25 * n1) (o := o + 4) (z := z) (by omega) Gs5 (Qz7_6.le (by omega) (by omega) (by omega) (by omega)) t_z9_9 (by first | assumption | exact ref_R Gs5 Qz7_6 t_z9_9.tg (by decide)) (oL.nul (by decide)) ⟨by decide, by decide⟩) E7 (by omega) (by omega) (by omega) (by omega) (fun s10 z12_11 rz12_11 Gs10 es10 Rs10 fz12_11 => ?_)
    obtain ⟨t_z12_11, Qz12_11⟩ := fz12_11
    have E12 := E7.trans es10
    have t_x := t_x.up es10
    have S1 := S1.up es10
    have S_z4 := S_z4.up es10
    have S_z9 := S_z9.up es10
    have n4_2_s10 := Gs10.nu 4 2
    have n9_2_s10 := Gs10.nu 9 2
    refine wgF (Gs10.tg 0) (Gs10.fi 5 (i := 0) (f := 5) (j := 23)) ?_
    refine wg t_x.tg (fun z14_14 hz14_14 => ?_)
    have rz14_14 : inR z14_14 := hz14_14 ▸ Gs10.ir _ _
    have t_z14_14 : oN s10 z14_14 := hz14_14 ▸ t_x.1.2.1.2.2.2.1 (by have := t_x.2; omega)
    have S_z14 : TS b s10 82 z14_14 n1 := by rw [← hz14_14, E12.sm tx0 3]; exact S1
    refine wtN (Gs10.tg 23) ?_
    refine cl_O (s_typeOf (k := k + 3) (s := s + 25) (o := o + 4) (z := z) (n := n1) (by omega) Gs10 (Qz12_11.le (by omega) (by omega) (by omega) (by omega)) S_z14 (by first | assumption | exact ref_R Gs10 Qz12_11 t_z14_14.tg (by decide))) E12 (by omega) (by omega) (by omega) (by omega) (fun s15 z17_16 rz17_16 Gs15 es15 Rs15 fz17_16 => ?_)
    obtain ⟨t_z17_16, Qz17_16⟩ := fz17_16
    have E17 := E12.trans es15
    have t_x := t_x.up es15
    have t_z12_11 := t_z12_11.up es15
    have S1 := S1.up es15
    have S_z4 := S_z4.up es15
    have S_z9 := S_z9.up es15
    have S_z14 := S_z14.up es15
    have n4_2_s15 := Gs15.nu 4 2
    have n9_2_s15 := Gs15.nu 9 2
    refine wg t_x.tg (fun z18_18 hz18_18 => ?_)
    have rz18_18 : inR z18_18 := hz18_18 ▸ Gs15.ir _ _
    have t_z18_18 : oN s15 z18_18 := hz18_18 ▸ t_x.1.2.1.2.2.2.1 (by have := t_x.2; omega)
    refine wtN (Gs15.tg 0) ?_
    refine cl_O (s_needSame (k := k + 3) (s := s + 25) (o := o + 4) (z := z) (by omega) Gs15 (Qz17_16.le (by omega) (by omega) (by omega) (by omega)) t_z12_11 (by first | assumption | exact ref_R Gs15 Qz17_16 t_z12_11.tg (by decide)) t_z17_16 (by first | assumption | exact ref_R Gs15 Qz17_16 t_z17_16.tg (by decide)) t_z18_18) E17 (by omega) (by omega) (by omega) (by omega) (fun s19 z21_20 rz21_20 Gs19 es19 Rs19 fz21_20 => ?_)
    have Qz21_20 := fz21_20
    have E21 := E17.trans es19
    have S1 := S1.up es19
    have S_z4 := S_z4.up es19
    have S_z9 := S_z9.up es19
    have S_z14 := S_z14.up es19
    have n4_2_s19 := Gs19.nu 4 2
    have n9_2_s19 := Gs19.nu 9 2
    refine wgF (Gs19.tg 0) (Gs19.fi 3 (i := 0) (f := 3) (j := 16)) ?_
    refine wtN (Gs19.tg 16) ?_
    refine cl_Z (s_putAnswer (k := k + 4) (s := s + 31) (o := o) (z := z) (by omega) Gs19 (Qz21_20.le (by omega) (by omega) (by omega) (by omega))) (fun s23 z25_24 rz25_24 Gs23 es23 Rs23 fz25_24 => ?_)
    have E25 := E21.trans es23
    have S1 := S1.up es23
    have S_z4 := S_z4.up es23
    have S_z9 := S_z9.up es23
    have S_z14 := S_z14.up es23
    have n4_2_s23 := Gs23.nu 4 2
    have n9_2_s23 := Gs23.nu 9 2
    exact ret_O ⟨by decide, by decide⟩ Gs23 E25 (Rs23.le (by omega) (by omega) (by omega) (by omega)) (by first | trivial | assumption | omega | (dsimp only; omega) | exact (Rs23.le (by omega) (by omega) (by omega) (by omega)))
  · refine wgF (G.tg 0) (G.fi 3 (i := 0) (f := 3) (j := 16)) ?_
    refine wgF (G.tg 0) (G.fi 5 (i := 0) (f := 5) (j := 23)) ?_
    refine wg t_x.tg (fun z28_28 hz28_28 => ?_)
    have rz28_28 : inR z28_28 := hz28_28 ▸ G.ir _ _
    have t_z28_28 : oN σ z28_28 := hz28_28 ▸ t_x.1.2.1.2.2.2.1 (by have := t_x.2; omega)
    have S_z28 : TS b σ 82 z28_28 n1 := by rw [← hz28_28, (Ext.refl (b := b) (σ := σ)).sm tx0 3]; exact S1
    refine wtN (G.tg 23) ?_
    refine cl_O (s_typeOf (k := k + 3 + 3 * n2) (s := s + 25 + 25 * n2) (o := o + 4) (z := z) (n := n1) (by omega) G (R.le (by omega) (by omega) (by omega) (by omega)) S_z28 (by first | assumption | exact ref_R G R t_z28_28.tg (by decide))) (Ext.refl (b := b) (σ := σ)) (by omega) (by omega) (by omega) (by omega) (fun s29 z31_30 rz31_30 Gs29 es29 Rs29 fz31_30 => ?_)
    obtain ⟨t_z31_30, Qz31_30⟩ := fz31_30
    have E31 := (Ext.refl (b := b) (σ := σ)).trans es29
    have S1 := S1.up es29
    have S_z28 := S_z28.up es29
    have n4_2_s29 := Gs29.nu 4 2
    have n9_2_s29 := Gs29.nu 9 2
    refine wtN (Gs29.tg 16) ?_
    refine cl_O (s_tellWhole (k := k + 3 + 3 * n2) (s := s + 25 + 25 * n2) (o := o + 4) (z := z) (by omega) Gs29 (Qz31_30.le (by omega) (by omega) (by omega) (by omega)) t_z31_30 (by first | assumption | exact ref_R Gs29 Qz31_30 t_z31_30.tg (by decide))) E31 (by omega) (by omega) (by omega) (by omega) (fun s32 z34_33 rz34_33 Gs32 es32 Rs32 fz34_33 => ?_)
    have Qz34_33 := fz34_33
    have E34 := E31.trans es32
    have S1 := S1.up es32
    have S_z28 := S_z28.up es32
    have n4_2_s32 := Gs32.nu 4 2
    have n9_2_s32 := Gs32.nu 9 2
    refine wgF (Gs32.tg 0) (Gs32.fi 3 (i := 0) (f := 3) (j := 16)) ?_
    refine wtN (Gs32.tg 16) ?_
    refine cl_Z (s_put (k := k + 4 + 3 * n2) (s := s + 31 + 25 * n2) (o := o + 3) (z := z) (by omega) Gs32 (Qz34_33.le (by omega) (by omega) (by omega) (by omega))) (fun s36 z38_37 rz38_37 Gs36 es36 Rs36 fz38_37 => ?_)
    have E38 := E34.trans es36
    have S1 := S1.up es36
    have S_z28 := S_z28.up es36
    have n4_2_s36 := Gs36.nu 4 2
    have n9_2_s36 := Gs36.nu 9 2
    exact ret_O ⟨by decide, by decide⟩ Gs36 E38 (Rs36.le (by omega) (by omega) (by omega) (by omega)) (by first | trivial | assumption | omega | (dsimp only; omega) | exact (Rs36.le (by omega) (by omega) (by omega) (by omega)))
theorem s_answerSame {n1 n2 : Nat} (hd : 206 ≤ d) (G : GG bd b σ) (R : RR bd b σ (k + 4 + 3 * n1 + 3 * n2) (s + 31 + 25 * n1 + 25 * n2) (o + 4) (z)) {x : Int} {M : Nat} (t_x : oSK b σ x M 5) (S1 : TS b σ 82 (c_pv σ x.toNat 3) n1) (S2 : c_pv σ x.toNat 4 < 0 ∨ TS b σ 82 (c_pv σ x.toNat 4) n2) : sf (RC bd d 34 σ [((b + 0 : Nat) : Int), x]) (PO bd b σ k s o z (fun σ' r => RR bd b σ' (k + 1) (s + 6) o z)) := by
  obtain ⟨d, rfl⟩ : ∃ d0, d = d0 + 1 := ⟨d - 1, by omega⟩
  rw [rc_X11_answerSame (by omega)]
  refine fin_O ?_
  unfold pc_X11_answerSame_0
  have tx0 := t_x.tg.2
  have n4_2_σ := G.nu 4 2
  have n9_2_σ := G.nu 9 2
  refine wgF (G.tg 0) (G.fi 5 (i := 0) (f := 5) (j := 23)) ?_
  refine wg t_x.tg (fun z2_2 hz2_2 => ?_)
  have rz2_2 : inR z2_2 := hz2_2 ▸ G.ir _ _
  have t_z2_2 : oN σ z2_2 := hz2_2 ▸ t_x.1.2.1.2.2.2.1 (by have := t_x.2; omega)
  have S_z2 : TS b σ 82 z2_2 n1 := by rw [← hz2_2, (Ext.refl (b := b) (σ := σ)).sm tx0 3]; exact S1
  refine wtN (G.tg 23) ?_
  refine cl_O (s_typeOf (k := k + 3 + 3 * n2) (s := s + 25 + 25 * n2) (o := o + 4) (z := z) (n := n1) (by omega) G (R.le (by omega) (by omega) (by omega) (by omega)) S_z2 (by first | assumption | exact ref_R G R t_z2_2.tg (by decide))) (Ext.refl (b := b) (σ := σ)) (by omega) (by omega) (by omega) (by omega) (fun s3 z5_4 rz5_4 Gs3 es3 Rs3 fz5_4 => ?_)
  obtain ⟨t_z5_4, Qz5_4⟩ := fz5_4
  have E5 := (Ext.refl (b := b) (σ := σ)).trans es3
  have t_x := t_x.up es3
  have S1 := S1.up es3
  have S_z2 := S_z2.up es3
  have n4_2_s3 := Gs3.nu 4 2
  have n9_2_s3 := Gs3.nu 9 2
  refine wgF (Gs3.tg 0) (Gs3.fi 5 (i := 0) (f := 5) (j := 23)) ?_
  refine wg t_x.tg (fun z7_7 hz7_7 => ?_)
  have rz7_7 : inR z7_7 := hz7_7 ▸ Gs3.ir _ _
  have t_z7_7 : oN s3 z7_7 := hz7_7 ▸ (by first | exact t_x.1.2.1.2.2.2.2.1 (by have := t_x.2; omega) | exact t_x.1.2.1.2.2.2.2.2.1 (by have := t_x.2; omega))
  have p7 := t_z7_7.1
  have e4_z7 := E5.sm tx0 4
  have S_z7 : TS b s3 82 z7_7 n2 := by rw [← hz7_7, e4_z7]; exact (S2.resolve_left (by omega)).up E5
  have t_z7_7 := S_z7.n
  refine wtN (Gs3.tg 23) ?_
  refine cl_O (s_typeOf (k := k + 3) (s := s + 25) (o := o + 4) (z := z) (n := n2) (by omega) Gs3 (Qz5_4.le (by omega) (by omega) (by omega) (by omega)) S_z7 (by first | assumption | exact ref_R Gs3 Qz5_4 t_z7_7.tg (by decide))) E5 (by omega) (by omega) (by omega) (by omega) (fun s8 z10_9 rz10_9 Gs8 es8 Rs8 fz10_9 => ?_)
  obtain ⟨t_z10_9, Qz10_9⟩ := fz10_9
  have E10 := E5.trans es8
  have t_x := t_x.up es8
  have S1 := S1.up es8
  have S_z2 := S_z2.up es8
  have S_z7 := S_z7.up es8
  have n4_2_s8 := Gs8.nu 4 2
  have n9_2_s8 := Gs8.nu 9 2
  refine wgF (Gs8.tg 0) (Gs8.fi 3 (i := 0) (f := 3) (j := 16)) ?_
  refine wgF (Gs8.tg 0) (Gs8.fi 3 (i := 0) (f := 3) (j := 16)) ?_
  refine wg t_x.tg (fun z13_13 hz13_13 => ?_)
  have rz13_13 : inR z13_13 := hz13_13 ▸ Gs8.ir _ _
  have t_z13_13 : oN s8 z13_13 := hz13_13 ▸ t_x.1.2.1.2.2.2.1 (by have := t_x.2; omega)
  refine wg t_x.tg (fun z14_14 hz14_14 => ?_)
  have rz14_14 : inR z14_14 := hz14_14 ▸ Gs8.ir _ _
  have t_z14_14 : oN s8 z14_14 := hz14_14 ▸ (by first | exact t_x.1.2.1.2.2.2.2.1 (by have := t_x.2; omega) | exact t_x.1.2.1.2.2.2.2.2.1 (by have := t_x.2; omega))
  refine wtN (Gs8.tg 16) ?_
  refine cl_O (s_areSame (k := k + 3) (s := s + 25) (o := o + 4) (z := z) (by omega) Gs8 (Qz10_9.le (by omega) (by omega) (by omega) (by omega)) t_z13_13 (by first | assumption | exact ref_R Gs8 Qz10_9 t_z13_13.tg (by decide)) t_z14_14 (by first | assumption | exact ref_R Gs8 Qz10_9 t_z14_14.tg (by decide))) E10 (by omega) (by omega) (by omega) (by omega) (fun s15 z17_16 rz17_16 Gs15 es15 Rs15 fz17_16 => ?_)
  obtain ⟨fz17_16, Qz17_16⟩ := fz17_16
  have E17 := E10.trans es15
  have S1 := S1.up es15
  have S_z2 := S_z2.up es15
  have S_z7 := S_z7.up es15
  have n4_2_s15 := Gs15.nu 4 2
  have n9_2_s15 := Gs15.nu 9 2
  refine wtN (Gs15.tg 16) ?_
  refine cl_Z (s_putAnswer (k := k + 4) (s := s + 31) (o := o) (z := z) (by omega) Gs15 (Qz17_16.le (by omega) (by omega) (by omega) (by omega))) (fun s18 z20_19 rz20_19 Gs18 es18 Rs18 fz20_19 => ?_)
  have E20 := E17.trans es18
  have S1 := S1.up es18
  have S_z2 := S_z2.up es18
  have S_z7 := S_z7.up es18
  have n4_2_s18 := Gs18.nu 4 2
  have n9_2_s18 := Gs18.nu 9 2
  exact ret_O ⟨by decide, by decide⟩ Gs18 E20 (Rs18.le (by omega) (by omega) (by omega) (by omega)) (by first | trivial | assumption | omega | (dsimp only; omega) | exact (Rs18.le (by omega) (by omega) (by omega) (by omega)))
theorem s_perform {M : Nat} (hd : 208 ≤ d) (G : GG bd b σ) (R : RR bd b σ (k + 4 + 3 * M) (s + 31 + 25 * M) (o + 40) (z + 1)) {x κ : Int} (t_x : oSK b σ x M κ) : sf (RC bd d 54 σ [((b + 0 : Nat) : Int), x]) (PO bd b σ k s o z (fun σ' r => RR bd b σ' (k + 1) (s + 6) o z)) := by
  obtain ⟨d, rfl⟩ : ∃ d0, d = d0 + 1 := ⟨d - 1, by omega⟩
  rw [rc_X11_perform (by omega)]
  refine fin_O ?_
  unfold pc_X11_perform_0
  refine wgF (G.tg 0) (G.fi 3 (i := 0) (f := 3) (j := 16)) ?_
  refine wg t_x.tg (fun z2_2 hz2_2 => ?_)
  have rz2_2 : inR z2_2 := hz2_2 ▸ G.ir _ _
  refine wtN (G.tg 16) ?_
  refine cl_Z (s_begin (k := k + 4 + 3 * M) (s := s + 31 + 25 * M) (o := o + 40) (z := z + 1) (by omega) G (R.le (by omega) (by omega) (by omega) (by omega)) (by first | assumption | exact inR_of _ | exact ⟨by omega, by omega⟩)) (fun s3 z5_4 rz5_4 Gs3 es3 Rs3 fz5_4 => ?_)
  have E5 := (Ext.refl (b := b) (σ := σ)).trans es3
  have t_x := t_x.up es3
  refine wg t_x.tg (fun z6_6 hz6_6 => ?_)
  have rz6_6 : inR z6_6 := hz6_6 ▸ Gs3.ir _ _
  have fz6_6 := t_x.2
  have kr := t_x.1.2.1.1
  refine sf_if (fun c7 => ?_) (fun c7 => ?_)
  · have t_x : oSK b s3 x M 0 := ⟨t_x.1, by have := t_x.2; omega⟩
    refine wtN (Gs3.tg 0) ?_
    refine cl_O (s_addSort (k := k + 3 + 3 * M) (s := s + 25 + 25 * M) (o := o + 40) (z := z + 1) (by omega) Gs3 (Rs3.le (by omega) (by omega) (by omega) (by omega)) t_x) E5 (by omega) (by omega) (by omega) (by omega) (fun s8 z10_9 rz10_9 Gs8 es8 Rs8 fz10_9 => ?_)
    have Qz10_9 := fz10_9
    have E10 := E5.trans es8
    exact ret_O ⟨by decide, by decide⟩ Gs8 E10 (Qz10_9.le (by omega) (by omega) (by omega) (by omega)) (by first | trivial | assumption | omega | (dsimp only; omega) | exact (Qz10_9.le (by omega) (by omega) (by omega) (by omega)))
  · refine sf_if (fun c11 => ?_) (fun c11 => ?_)
    · have t_x : oSK b s3 x M 1 := ⟨t_x.1, by have := t_x.2; omega⟩
      refine wtN (Gs3.tg 0) ?_
      refine cl_O (s_addAxiom (k := k + 3 + 3 * M) (s := s + 25 + 25 * M) (o := o + 40) (z := z) (by omega) Gs3 (Rs3.le (by omega) (by omega) (by omega) (by omega)) t_x) E5 (by omega) (by omega) (by omega) (by omega) (fun s12 z14_13 rz14_13 Gs12 es12 Rs12 fz14_13 => ?_)
      have Qz14_13 := fz14_13
      have E14 := E5.trans es12
      exact ret_O ⟨by decide, by decide⟩ Gs12 E14 (Qz14_13.le (by omega) (by omega) (by omega) (by omega)) (by first | trivial | assumption | omega | (dsimp only; omega) | exact (Qz14_13.le (by omega) (by omega) (by omega) (by omega)))
    · refine sf_if (fun c15 => ?_) (fun c15 => ?_)
      · have t_x : oSK b s3 x M 2 := ⟨t_x.1, by have := t_x.2; omega⟩
        refine wtN (Gs3.tg 0) ?_
        refine cl_O (s_addRule (k := k + 3 + 3 * M) (s := s + 25 + 25 * M) (o := o + 40) (z := z) (by omega) Gs3 (Rs3.le (by omega) (by omega) (by omega) (by omega)) t_x) E5 (by omega) (by omega) (by omega) (by omega) (fun s16 z18_17 rz18_17 Gs16 es16 Rs16 fz18_17 => ?_)
        have Qz18_17 := fz18_17
        have E18 := E5.trans es16
        exact ret_O ⟨by decide, by decide⟩ Gs16 E18 (Qz18_17.le (by omega) (by omega) (by omega) (by omega)) (by first | trivial | assumption | omega | (dsimp only; omega) | exact (Qz18_17.le (by omega) (by omega) (by omega) (by omega)))
      · refine sf_if (fun c19 => ?_) (fun c19 => ?_)
        · have t_x : oSK b s3 x M 3 := ⟨t_x.1, by have := t_x.2; omega⟩
          obtain ⟨n1, n2, S1, S2, hM⟩ := t_x.1.2.2 (by have := t_x.2; omega)
          have tx0 := t_x.tg.2
          refine wtN (Gs3.tg 0) ?_
          refine cl_O (s_check (k := k) (s := s) (o := o + 36) (z := z + 1) (n1 := n1) (n2 := n2) (by omega) Gs3 (Rs3.le (by omega) (by omega) (by omega) (by omega)) t_x S1 S2) E5 (by omega) (by omega) (by omega) (by omega) (fun s20 z22_21 rz22_21 Gs20 es20 Rs20 fz22_21 => ?_)
          have Qz22_21 := fz22_21
          have E22 := E5.trans es20
          exact ret_O ⟨by decide, by decide⟩ Gs20 E22 (Qz22_21.le (by omega) (by omega) (by omega) (by omega)) (by first | trivial | assumption | omega | (dsimp only; omega) | exact (Qz22_21.le (by omega) (by omega) (by omega) (by omega)))
        · refine sf_if (fun c23 => ?_) (fun c23 => ?_)
          · have t_x : oSK b s3 x M 4 := ⟨t_x.1, by have := t_x.2; omega⟩
            obtain ⟨n1, n2, S1, S2, hM⟩ := t_x.1.2.2 (by have := t_x.2; omega)
            have tx0 := t_x.tg.2
            refine wgF (Gs3.tg 0) (Gs3.fi 5 (i := 0) (f := 5) (j := 23)) ?_
            refine wg t_x.tg (fun z25_25 hz25_25 => ?_)
            have rz25_25 : inR z25_25 := hz25_25 ▸ Gs3.ir _ _
            have t_z25_25 : oN s3 z25_25 := hz25_25 ▸ t_x.1.2.1.2.2.2.1 (by have := t_x.2; omega)
            have S_z25 : TS b s3 82 z25_25 n1 := by rw [← hz25_25]; exact S1
            refine wtN (Gs3.tg 23) ?_
            refine cl_O (s_typeOf (k := k + 3) (s := s + 25) (o := o + 40) (z := z + 1) (n := n1) (by omega) Gs3 (Rs3.le (by omega) (by omega) (by omega) (by omega)) S_z25 (by first | assumption | exact ref_R Gs3 Rs3 t_z25_25.tg (by decide))) E5 (by omega) (by omega) (by omega) (by omega) (fun s26 z28_27 rz28_27 Gs26 es26 Rs26 fz28_27 => ?_)
            obtain ⟨t_z28_27, Qz28_27⟩ := fz28_27
            have E28 := E5.trans es26
            have t_x := t_x.up es26
            refine wgF (Gs26.tg 0) (Gs26.fi 3 (i := 0) (f := 3) (j := 16)) ?_
            refine wg t_x.tg (fun z30_30 hz30_30 => ?_)
            have rz30_30 : inR z30_30 := hz30_30 ▸ Gs26.ir _ _
            have t_z30_30 : oN s26 z30_30 := hz30_30 ▸ t_x.1.2.1.2.2.2.1 (by have := t_x.2; omega)
            refine wtN (Gs26.tg 16) ?_
            refine cl_O (s_tellWhole (k := k + 3) (s := s + 25) (o := o + 40) (z := z + 1) (by omega) Gs26 (Qz28_27.le (by omega) (by omega) (by omega) (by omega)) t_z30_30 (by first | assumption | exact ref_R Gs26 Qz28_27 t_z30_30.tg (by decide))) E28 (by omega) (by omega) (by omega) (by omega) (fun s31 z33_32 rz33_32 Gs31 es31 Rs31 fz33_32 => ?_)
            have Qz33_32 := fz33_32
            have E33 := E28.trans es31
            refine wgF (Gs31.tg 0) (Gs31.fi 3 (i := 0) (f := 3) (j := 16)) ?_
            refine wtN (Gs31.tg 16) ?_
            refine cl_Z (s_put (k := k + 4) (s := s + 31) (o := o + 39) (z := z + 1) (by omega) Gs31 (Qz33_32.le (by omega) (by omega) (by omega) (by omega))) (fun s35 z37_36 rz37_36 Gs35 es35 Rs35 fz37_36 => ?_)
            have E37 := E33.trans es35
            exact ret_O ⟨by decide, by decide⟩ Gs35 E37 (Rs35.le (by omega) (by omega) (by omega) (by omega)) (by first | trivial | assumption | omega | (dsimp only; omega) | exact (Rs35.le (by omega) (by omega) (by omega) (by omega)))
          · refine sf_if (fun c38 => ?_) (fun c38 => ?_)
            · have t_x : oSK b s3 x M 5 := ⟨t_x.1, by have := t_x.2; omega⟩
              obtain ⟨n1, n2, S1, S2, hM⟩ := t_x.1.2.2 (by have := t_x.2; omega)
              have tx0 := t_x.tg.2
              unfold pc_X11_perform_182
              refine wtN (Gs3.tg 0) ?_
              refine cl_O (s_answerSame (k := k) (s := s) (o := o + 36) (z := z + 1) (n1 := n1) (n2 := n2) (by omega) Gs3 (Rs3.le (by omega) (by omega) (by omega) (by omega)) t_x S1 S2) E5 (by omega) (by omega) (by omega) (by omega) (fun s39 z3_40 rz3_40 Gs39 es39 Rs39 fz3_40 => ?_)
              have Qz3_40 := fz3_40
              have E41 := E5.trans es39
              exact ret_O ⟨by decide, by decide⟩ Gs39 E41 (Qz3_40.le (by omega) (by omega) (by omega) (by omega)) (by first | trivial | assumption | omega | (dsimp only; omega) | exact (Qz3_40.le (by omega) (by omega) (by omega) (by omega)))
            · refine sf_if (fun c42 => ?_) (fun c42 => ?_)
              · have t_x : oSK b s3 x M 6 := ⟨t_x.1, by have := t_x.2; omega⟩
                obtain ⟨n1, n2, S1, S2, hM⟩ := t_x.1.2.2 (by have := t_x.2; omega)
                have tx0 := t_x.tg.2
                refine wgF (Gs3.tg 0) (Gs3.fi 5 (i := 0) (f := 5) (j := 23)) ?_
                refine wg t_x.tg (fun z41_44 hz41_44 => ?_)
                have rz41_44 : inR z41_44 := hz41_44 ▸ Gs3.ir _ _
                have t_z41_44 : oN s3 z41_44 := hz41_44 ▸ t_x.1.2.1.2.2.2.1 (by have := t_x.2; omega)
                have S_z41 : TS b s3 82 z41_44 n1 := by rw [← hz41_44]; exact S1
                refine wtN (Gs3.tg 23) ?_
                refine cl_O (s_typeOf (k := k + 3) (s := s + 25) (o := o + 40) (z := z + 1) (n := n1) (by omega) Gs3 (Rs3.le (by omega) (by omega) (by omega) (by omega)) S_z41 (by first | assumption | exact ref_R Gs3 Rs3 t_z41_44.tg (by decide))) E5 (by omega) (by omega) (by omega) (by omega) (fun s45 z44_46 rz44_46 Gs45 es45 Rs45 fz44_46 => ?_)
                obtain ⟨t_z44_46, Qz44_46⟩ := fz44_46
                have E47 := E5.trans es45
                have t_x := t_x.up es45
                refine wgF (Gs45.tg 0) (Gs45.fi 3 (i := 0) (f := 3) (j := 16)) ?_
                refine wg t_x.tg (fun z46_49 hz46_49 => ?_)
                have rz46_49 : inR z46_49 := hz46_49 ▸ Gs45.ir _ _
                have t_z46_49 : oN s45 z46_49 := hz46_49 ▸ t_x.1.2.1.2.2.2.1 (by have := t_x.2; omega)
                refine wtN (Gs45.tg 16) ?_
                refine cl_O (s_tellHead (k := k + 2) (s := s + 21) (o := o + 10) (z := z + 1) (by omega) Gs45 (Qz44_46.le (by omega) (by omega) (by omega) (by omega)) t_z46_49 (by first | assumption | exact ref_R Gs45 Qz44_46 t_z46_49.tg (by decide))) E47 (by omega) (by omega) (by omega) (by omega) (fun s50 z49_51 rz49_51 Gs50 es50 Rs50 fz49_51 => ?_)
                have Qz49_51 := fz49_51
                have E52 := E47.trans es50
                refine wgF (Gs50.tg 0) (Gs50.fi 3 (i := 0) (f := 3) (j := 16)) ?_
                refine wtN (Gs50.tg 16) ?_
                refine cl_Z (s_put (k := k + 3) (s := s + 27) (o := o + 9) (z := z + 1) (by omega) Gs50 (Qz49_51.le (by omega) (by omega) (by omega) (by omega))) (fun s54 z53_55 rz53_55 Gs54 es54 Rs54 fz53_55 => ?_)
                have E56 := E52.trans es54
                exact ret_O ⟨by decide, by decide⟩ Gs54 E56 (Rs54.le (by omega) (by omega) (by omega) (by omega)) (by first | trivial | assumption | omega | (dsimp only; omega) | exact (Rs54.le (by omega) (by omega) (by omega) (by omega)))
              · refine sf_if (fun c57 => ?_) (fun c57 => ?_)
                · have t_x : oSK b s3 x M 7 := ⟨t_x.1, by have := t_x.2; omega⟩
                  obtain ⟨n1, n2, S1, S2, hM⟩ := t_x.1.2.2 (by have := t_x.2; omega)
                  have tx0 := t_x.tg.2
                  refine wtN (Gs3.tg 0) ?_
                  refine cl_O (s_assume (k := k) (s := s) (o := o + 36) (z := z + 1) (n1 := n1) (n2 := n2) (by omega) Gs3 (Rs3.le (by omega) (by omega) (by omega) (by omega)) t_x S1 S2) E5 (by omega) (by omega) (by omega) (by omega) (fun s58 z57_59 rz57_59 Gs58 es58 Rs58 fz57_59 => ?_)
                  have Qz57_59 := fz57_59
                  have E60 := E5.trans es58
                  exact ret_O ⟨by decide, by decide⟩ Gs58 E60 (Qz57_59.le (by omega) (by omega) (by omega) (by omega)) (by first | trivial | assumption | omega | (dsimp only; omega) | exact (Qz57_59.le (by omega) (by omega) (by omega) (by omega)))
                · refine sf_if (fun c61 => ?_) (fun c61 => ?_)
                  · have t_x : oSK b s3 x M 8 := ⟨t_x.1, by have := t_x.2; omega⟩
                    obtain ⟨n1, n2, S1, S2, hM⟩ := t_x.1.2.2 (by have := t_x.2; omega)
                    have tx0 := t_x.tg.2
                    refine wtN (Gs3.tg 0) ?_
                    refine cl_O (s_define (k := k) (s := s) (o := o + 36) (z := z + 1) (n1 := n1) (n2 := n2) (by omega) Gs3 (Rs3.le (by omega) (by omega) (by omega) (by omega)) t_x S1 S2) E5 (by omega) (by omega) (by omega) (by omega) (fun s62 z61_63 rz61_63 Gs62 es62 Rs62 fz61_63 => ?_)
                    have Qz61_63 := fz61_63
                    have E64 := E5.trans es62
                    exact ret_O ⟨by decide, by decide⟩ Gs62 E64 (Qz61_63.le (by omega) (by omega) (by omega) (by omega)) (by first | trivial | assumption | omega | (dsimp only; omega) | exact (Qz61_63.le (by omega) (by omega) (by omega) (by omega)))
                  · exfalso; omega
end CHO
