section CHO
variable {bd : cBd} {b d : Nat} {σ σ1 σ2 σ3 : CS} {Q : CS → Nat → Int → Prop} {k s o z : Nat}
/-- a statement of a known kind -/
def oSK (b : Nat) (σ : CS) (x : Int) (M : Nat) (κ : Int) : Prop := SSt b σ x M ∧ c_pv σ x.toNat 0 = κ
theorem oSK.tg {x κ : Int} {M : Nat} (h : oSK b σ x M κ) : 0 ≤ x ∧ c_tg σ x.toNat = 10 := h.1.1
theorem oSK.up {σ' : CS} {x κ : Int} {M : Nat} (h : oSK b σ x M κ) (e : Ext b σ σ') : oSK b σ' x M κ := ⟨h.1.up e, by rw [e.sm h.1.1.2]; exact h.2⟩
theorem s_sortNumber (hd : 9 ≤ d) (G : GG bd b σ) {x : Int} (t_x : oN σ x) : sf (RC bd d 60 σ [((b + 0 : Nat) : Int), x]) (PU σ (fun r => -1 ≤ r ∧ r ≤ 100)) := by
  obtain ⟨d, rfl⟩ : ∃ d0, d = d0 + 1 := ⟨d - 1, by omega⟩
  rw [rc_X11_sortNumber (by omega)]
  refine fin_U ?_
  unfold pc_X11_sortNumber_0
  have n4_2_σ := G.nu 4 2
  have n9_2_σ := G.nu 9 2
  refine wgF (G.tg 0) (G.fi 2 (i := 0) (f := 2) (j := 3)) ?_
  refine wgF (G.tg 3) (G.fi 6 (i := 3) (f := 0) (j := 4)) ?_
  refine wgF (G.tg 0) (G.fi 0 (i := 0) (f := 0) (j := 1)) ?_
  refine wg t_x.tg (fun z4_4 hz4_4 => ?_)
  have rz4_4 : inR z4_4 := hz4_4 ▸ G.ir _ _
  have fz4_4 := G.n4 t_x.tg
  rw [hz4_4] at fz4_4
  refine wg t_x.tg (fun z5_5 hz5_5 => ?_)
  have rz5_5 : inR z5_5 := hz5_5 ▸ G.ir _ _
  have fz5_5 := G.n5 t_x.tg
  rw [hz5_5] at fz5_5
  refine wtN (G.tg 4) ?_
  refine cl_U (s_findn4 (by omega) G ⟨by omega, by omega⟩ ⟨by omega, by omega⟩) (fun z8_7 rz8_7 fz8_7 => ?_)
  exact ret_U (by first | assumption | exact inR_of _ | exact ⟨by omega, by omega⟩) (by first | trivial | assumption | omega | (dsimp only; omega))
theorem s_refuseBesideNames (hd : 7 ≤ d) (G : GG bd b σ) (R : RR bd b σ (k + 1) (s + 6) (o) (z)) {x κ : Int} {M : Nat} (t_x : oSK b σ x M κ) : sf (RC bd d 55 σ [((b + 0 : Nat) : Int), x]) (PO bd b σ k s o z (fun σ' r => RR bd b σ' (k + 1) (s + 6) o z)) := by
  obtain ⟨d, rfl⟩ : ∃ d0, d = d0 + 1 := ⟨d - 1, by omega⟩
  rw [rc_X11_refuseBesideNames (by omega)]
  refine fin_O ?_
  unfold pc_X11_refuseBesideNames_0
  refine wgF (G.tg 0) (G.fi 2 (i := 0) (f := 2) (j := 3)) ?_
  refine wgF (G.tg 3) (G.fi 9 (i := 3) (f := 5) (j := 9)) ?_
  refine wgN (G.tg 9) (fun z3_3 hz3_3 => ?_)
  have fz3_3 := G.nu 9 2
  have rz3_3 : inR z3_3 := hz3_3 ▸ G.ir _ _
  refine sf_if (fun c4 => ?_) (fun c4 => ?_)
  · exact ret_O ⟨by decide, by decide⟩ G (Ext.refl (b := b) (σ := σ)) (R.le (by omega) (by omega) (by omega) (by omega)) (by first | trivial | assumption | omega | (dsimp only; omega) | exact (R.le (by omega) (by omega) (by omega) (by omega)))
  · refine wgF (G.tg 0) (G.fi 1 (i := 0) (f := 1) (j := 2)) ?_
    refine wg t_x.tg (fun z6_6 hz6_6 => ?_)
    have rz6_6 : inR z6_6 := hz6_6 ▸ G.ir _ _
    refine wtN (G.tg 2) ?_
    refine cl_Z (s_set (k := k + 1) (s := s + 6) (o := o) (z := z) (by omega) G (R.le (by omega) (by omega) (by omega) (by omega)) ⟨by omega, by omega⟩ (by first | assumption | exact inR_of _ | exact ⟨by omega, by omega⟩)) (fun s7 z9_8 rz9_8 Gs7 es7 Rs7 fz9_8 => ?_)
    have E9 := (Ext.refl (b := b) (σ := σ)).trans es7
    exact thr_O Gs7 E9 (Rs7.le (by omega) (by omega) (by omega) (by omega))
theorem s_hneededSort (hd : 10 ≤ d) (G : GG bd b σ) (R : RR bd b σ (k + 1) (s + 6) (o) (z)) {x : Int} (t_x : oN σ x) : sf (RC bd d 51 σ [((b + 0 : Nat) : Int), x]) (PO bd b σ k s o z (fun σ' r => (0 ≤ r ∧ r ≤ 100) ∧ RR bd b σ' (k + 1) (s + 6) o z)) := by
  obtain ⟨d, rfl⟩ : ∃ d0, d = d0 + 1 := ⟨d - 1, by omega⟩
  rw [rc_X11_neededSort (by omega)]
  refine fin_O ?_
  unfold pc_X11_neededSort_0
  refine wtN (G.tg 0) ?_
  refine cl_U (s_sortNumber (by omega) G t_x) (fun z3_2 rz3_2 fz3_2 => ?_)
  refine sf_if (fun c3 => ?_) (fun c3 => ?_)
  · exact ret_O (by first | assumption | exact inR_of _ | exact ⟨by omega, by omega⟩) G (Ext.refl (b := b) (σ := σ)) (R.le (by omega) (by omega) (by omega) (by omega)) (by first | trivial | assumption | omega | (dsimp only; omega) | exact ⟨by omega, (R.le (by omega) (by omega) (by omega) (by omega))⟩)
  · refine wgF (G.tg 0) (G.fi 1 (i := 0) (f := 1) (j := 2)) ?_
    refine wg t_x.tg (fun z6_5 hz6_5 => ?_)
    have rz6_5 : inR z6_5 := hz6_5 ▸ G.ir _ _
    refine wtN (G.tg 2) ?_
    refine cl_Z (s_set (k := k + 1) (s := s + 6) (o := o) (z := z) (by omega) G (R.le (by omega) (by omega) (by omega) (by omega)) ⟨by omega, by omega⟩ (by first | assumption | exact inR_of _ | exact ⟨by omega, by omega⟩)) (fun s6 z9_7 rz9_7 Gs6 es6 Rs6 fz9_7 => ?_)
    have E8 := (Ext.refl (b := b) (σ := σ)).trans es6
    exact thr_O Gs6 E8 (Rs6.le (by omega) (by omega) (by omega) (by omega))
theorem s_needNewName (hd : 10 ≤ d) (G : GG bd b σ) (R : RR bd b σ (k + 1) (s + 6) (o) (z)) {x : Int} (t_x : oN σ x) : sf (RC bd d 49 σ [((b + 0 : Nat) : Int), x]) (PO bd b σ k s o z (fun σ' r => RR bd b σ' (k + 1) (s + 6) o z)) := by
  obtain ⟨d, rfl⟩ : ∃ d0, d = d0 + 1 := ⟨d - 1, by omega⟩
  rw [rc_X11_needNewName (by omega)]
  refine fin_O ?_
  unfold pc_X11_needNewName_0
  have n4_2_σ := G.nu 4 2
  have n9_2_σ := G.nu 9 2
  refine wgF (G.tg 0) (G.fi 2 (i := 0) (f := 2) (j := 3)) ?_
  refine wgF (G.tg 3) (G.fi 9 (i := 3) (f := 5) (j := 9)) ?_
  refine wgF (G.tg 0) (G.fi 0 (i := 0) (f := 0) (j := 1)) ?_
  refine wg t_x.tg (fun z4_4 hz4_4 => ?_)
  have rz4_4 : inR z4_4 := hz4_4 ▸ G.ir _ _
  have fz4_4 := G.n4 t_x.tg
  rw [hz4_4] at fz4_4
  refine wg t_x.tg (fun z5_5 hz5_5 => ?_)
  have rz5_5 : inR z5_5 := hz5_5 ▸ G.ir _ _
  have fz5_5 := G.n5 t_x.tg
  rw [hz5_5] at fz5_5
  refine wtN (G.tg 9) ?_
  refine cl_U (s_findn9 (by omega) G ⟨by omega, by omega⟩ ⟨by omega, by omega⟩) (fun z8_7 rz8_7 fz8_7 => ?_)
  refine sf_if (fun c8 => ?_) (fun c8 => ?_)
  · unfold pc_X11_needNewName_37
    refine wgF (G.tg 0) (G.fi 1 (i := 0) (f := 1) (j := 2)) ?_
    refine wg t_x.tg (fun z2_10 hz2_10 => ?_)
    have rz2_10 : inR z2_10 := hz2_10 ▸ G.ir _ _
    refine wtN (G.tg 2) ?_
    refine cl_Z (s_set (k := k + 1) (s := s + 6) (o := o) (z := z) (by omega) G (R.le (by omega) (by omega) (by omega) (by omega)) ⟨by omega, by omega⟩ (by first | assumption | exact inR_of _ | exact ⟨by omega, by omega⟩)) (fun s11 z5_12 rz5_12 Gs11 es11 Rs11 fz5_12 => ?_)
    have E13 := (Ext.refl (b := b) (σ := σ)).trans es11
    have n4_2_s11 := Gs11.nu 4 2
    have n9_2_s11 := Gs11.nu 9 2
    exact thr_O Gs11 E13 (Rs11.le (by omega) (by omega) (by omega) (by omega))
  · refine wtN (G.tg 0) ?_
    refine cl_U (s_sortNumber (by omega) G t_x) (fun z12_15 rz12_15 fz12_15 => ?_)
    refine sf_if (fun c16 => ?_) (fun c16 => ?_)
    · refine wgF (G.tg 0) (G.fi 2 (i := 0) (f := 2) (j := 3)) ?_
      refine wgF (G.tg 3) (G.fi 9 (i := 3) (f := 5) (j := 9)) ?_
      refine wtN (G.tg 9) ?_
      refine cl_U (s_isFull9 (by omega) G) (fun z18_20 rz18_20 fz18_20 => ?_)
      refine sf_if (fun c21 => ?_) (fun c21 => ?_)
      · exact ret_O ⟨by decide, by decide⟩ G (Ext.refl (b := b) (σ := σ)) (R.le (by omega) (by omega) (by omega) (by omega)) (by first | trivial | assumption | omega | (dsimp only; omega) | exact (R.le (by omega) (by omega) (by omega) (by omega)))
      · refine wgF (G.tg 0) (G.fi 1 (i := 0) (f := 1) (j := 2)) ?_
        refine wg t_x.tg (fun z21_23 hz21_23 => ?_)
        have rz21_23 : inR z21_23 := hz21_23 ▸ G.ir _ _
        refine wtN (G.tg 2) ?_
        refine cl_Z (s_set (k := k + 1) (s := s + 6) (o := o) (z := z) (by omega) G (R.le (by omega) (by omega) (by omega) (by omega)) ⟨by omega, by omega⟩ (by first | assumption | exact inR_of _ | exact ⟨by omega, by omega⟩)) (fun s24 z24_25 rz24_25 Gs24 es24 Rs24 fz24_25 => ?_)
        have E26 := (Ext.refl (b := b) (σ := σ)).trans es24
        have n4_2_s24 := Gs24.nu 4 2
        have n9_2_s24 := Gs24.nu 9 2
        exact thr_O Gs24 E26 (Rs24.le (by omega) (by omega) (by omega) (by omega))
    · unfold pc_X11_needNewName_37
      refine wgF (G.tg 0) (G.fi 1 (i := 0) (f := 1) (j := 2)) ?_
      refine wg t_x.tg (fun z2_28 hz2_28 => ?_)
      have rz2_28 : inR z2_28 := hz2_28 ▸ G.ir _ _
      refine wtN (G.tg 2) ?_
      refine cl_Z (s_set (k := k + 1) (s := s + 6) (o := o) (z := z) (by omega) G (R.le (by omega) (by omega) (by omega) (by omega)) ⟨by omega, by omega⟩ (by first | assumption | exact inR_of _ | exact ⟨by omega, by omega⟩)) (fun s29 z5_30 rz5_30 Gs29 es29 Rs29 fz5_30 => ?_)
      have E31 := (Ext.refl (b := b) (σ := σ)).trans es29
      have n4_2_s29 := Gs29.nu 4 2
      have n9_2_s29 := Gs29.nu 9 2
      exact thr_O Gs29 E31 (Rs29.le (by omega) (by omega) (by omega) (by omega))
theorem s_needSame (hd : 114 ≤ d) (G : GG bd b σ) (R : RR bd b σ (k + 1) (s + 6) (o) (z)) {x y w : Int} (t_x : oN σ x) (rx : inR x) (t_y : oN σ y) (ry : inR y) (t_w : oN σ w) : sf (RC bd d 50 σ [((b + 0 : Nat) : Int), x, y, w]) (PO bd b σ k s o z (fun σ' r => RR bd b σ' (k + 1) (s + 6) o z)) := by
  obtain ⟨d, rfl⟩ : ∃ d0, d = d0 + 1 := ⟨d - 1, by omega⟩
  rw [rc_X11_needSame (by omega)]
  refine fin_O ?_
  unfold pc_X11_needSame_0
  refine wgF (G.tg 0) (G.fi 3 (i := 0) (f := 3) (j := 16)) ?_
  refine wtN (G.tg 16) ?_
  refine cl_O (s_areSame (k := k) (s := s) (o := o) (z := z) (by omega) G (R.le (by omega) (by omega) (by omega) (by omega)) t_x (by first | assumption | exact ref_R G R t_x.tg (by decide)) t_y (by first | assumption | exact ref_R G R t_y.tg (by decide))) (Ext.refl (b := b) (σ := σ)) (by omega) (by omega) (by omega) (by omega) (fun s2 z4_3 rz4_3 Gs2 es2 Rs2 fz4_3 => ?_)
  obtain ⟨fz4_3, Qz4_3⟩ := fz4_3
  have E4 := (Ext.refl (b := b) (σ := σ)).trans es2
  have t_w := t_w.up es2
  refine sf_if (fun c5 => ?_) (fun c5 => ?_)
  · exact ret_O ⟨by decide, by decide⟩ Gs2 E4 (Qz4_3.le (by omega) (by omega) (by omega) (by omega)) (by first | trivial | assumption | omega | (dsimp only; omega) | exact (Qz4_3.le (by omega) (by omega) (by omega) (by omega)))
  · refine wgF (Gs2.tg 0) (Gs2.fi 1 (i := 0) (f := 1) (j := 2)) ?_
    refine wg t_w.tg (fun z7_7 hz7_7 => ?_)
    have rz7_7 : inR z7_7 := hz7_7 ▸ Gs2.ir _ _
    refine wtN (Gs2.tg 2) ?_
    refine cl_Z (s_set (k := k + 1) (s := s + 6) (o := o) (z := z) (by omega) Gs2 (Qz4_3.le (by omega) (by omega) (by omega) (by omega)) ⟨by omega, by omega⟩ (by first | assumption | exact inR_of _ | exact ⟨by omega, by omega⟩)) (fun s8 z10_9 rz10_9 Gs8 es8 Rs8 fz10_9 => ?_)
    have E10 := E4.trans es8
    exact thr_O Gs8 E10 (Rs8.le (by omega) (by omega) (by omega) (by omega))
theorem s_addSort (hd : 12 ≤ d) (G : GG bd b σ) (R : RR bd b σ (k + 1) (s + 6) (o) (z)) {x : Int} {M : Nat} (t_x : oSK b σ x M 0) : sf (RC bd d 33 σ [((b + 0 : Nat) : Int), x]) (PO bd b σ k s o z (fun σ' r => RR bd b σ' (k + 1) (s + 6) o z)) := by
  obtain ⟨d, rfl⟩ : ∃ d0, d = d0 + 1 := ⟨d - 1, by omega⟩
  rw [rc_X11_addSort (by omega)]
  refine fin_O ?_
  unfold pc_X11_addSort_0
  have n4_2_σ := G.nu 4 2
  have n9_2_σ := G.nu 9 2
  refine wtN (G.tg 0) ?_
  refine cl_O (s_refuseBesideNames (k := k) (s := s) (o := o) (z := z) (by omega) G (R.le (by omega) (by omega) (by omega) (by omega)) t_x) (Ext.refl (b := b) (σ := σ)) (by omega) (by omega) (by omega) (by omega) (fun s1 z3_2 rz3_2 Gs1 es1 Rs1 fz3_2 => ?_)
  have Qz3_2 := fz3_2
  have E3 := (Ext.refl (b := b) (σ := σ)).trans es1
  have t_x := t_x.up es1
  have n4_2_s1 := Gs1.nu 4 2
  have n9_2_s1 := Gs1.nu 9 2
  refine wg t_x.tg (fun z4_4 hz4_4 => ?_)
  have rz4_4 : inR z4_4 := hz4_4 ▸ Gs1.ir _ _
  have t_z4_4 : oN s1 z4_4 := hz4_4 ▸ (by first | exact t_x.1.2.1.2.1 (by have := t_x.2; omega) | exact t_x.1.2.1.2.2.1 (by have := t_x.2; omega))
  refine wtN (Gs1.tg 0) ?_
  refine cl_U (s_sortNumber (by omega) Gs1 t_z4_4) (fun z7_6 rz7_6 fz7_6 => ?_)
  refine sf_if (fun c7 => ?_) (fun c7 => ?_)
  · refine wgF (Gs1.tg 0) (Gs1.fi 2 (i := 0) (f := 2) (j := 3)) ?_
    refine wgF (Gs1.tg 3) (Gs1.fi 6 (i := 3) (f := 0) (j := 4)) ?_
    refine wtN (Gs1.tg 4) ?_
    refine cl_U (s_isFull4 (by omega) Gs1) (fun z13_11 rz13_11 fz13_11 => ?_)
    refine sf_if (fun c12 => ?_) (fun c12 => ?_)
    · refine wgF (Gs1.tg 0) (Gs1.fi 2 (i := 0) (f := 2) (j := 3)) ?_
      refine wgF (Gs1.tg 3) (Gs1.fi 6 (i := 3) (f := 0) (j := 4)) ?_
      refine wgF (Gs1.tg 0) (Gs1.fi 0 (i := 0) (f := 0) (j := 1)) ?_
      refine wg t_x.tg (fun z18_16 hz18_16 => ?_)
      have rz18_16 : inR z18_16 := hz18_16 ▸ Gs1.ir _ _
      have t_z18_16 : oN s1 z18_16 := hz18_16 ▸ (by first | exact t_x.1.2.1.2.1 (by have := t_x.2; omega) | exact t_x.1.2.1.2.2.1 (by have := t_x.2; omega))
      refine wg t_z18_16.tg (fun z19_17 hz19_17 => ?_)
      have rz19_17 : inR z19_17 := hz19_17 ▸ Gs1.ir _ _
      have fz19_17 := Gs1.n4 t_z18_16.tg
      rw [hz19_17] at fz19_17
      refine wg t_x.tg (fun z20_18 hz20_18 => ?_)
      have rz20_18 : inR z20_18 := hz20_18 ▸ Gs1.ir _ _
      have t_z20_18 : oN s1 z20_18 := hz20_18 ▸ (by first | exact t_x.1.2.1.2.1 (by have := t_x.2; omega) | exact t_x.1.2.1.2.2.1 (by have := t_x.2; omega))
      refine wg t_z20_18.tg (fun z21_19 hz21_19 => ?_)
      have rz21_19 : inR z21_19 := hz21_19 ▸ Gs1.ir _ _
      have fz21_19 := Gs1.n5 t_z20_18.tg
      rw [hz21_19] at fz21_19
      refine wtN (Gs1.tg 4) ?_
      refine cl_Z (s_add4 (k := k + 1) (s := s + 6) (o := o) (z := z) (by omega) Gs1 (Qz3_2.le (by omega) (by omega) (by omega) (by omega)) (oBy.tape Gs1) (by decide) (by omega) ⟨by omega, by omega⟩) (fun s20 z24_21 rz24_21 Gs20 es20 Rs20 fz24_21 => ?_)
      have E22 := E3.trans es20
      have n4_2_s20 := Gs20.nu 4 2
      have n9_2_s20 := Gs20.nu 9 2
      exact ret_O ⟨by decide, by decide⟩ Gs20 E22 (Rs20.le (by omega) (by omega) (by omega) (by omega)) (by first | trivial | assumption | omega | (dsimp only; omega) | exact (Rs20.le (by omega) (by omega) (by omega) (by omega)))
    · refine wgF (Gs1.tg 0) (Gs1.fi 1 (i := 0) (f := 1) (j := 2)) ?_
      refine wg t_x.tg (fun z26_24 hz26_24 => ?_)
      have rz26_24 : inR z26_24 := hz26_24 ▸ Gs1.ir _ _
      have t_z26_24 : oN s1 z26_24 := hz26_24 ▸ (by first | exact t_x.1.2.1.2.1 (by have := t_x.2; omega) | exact t_x.1.2.1.2.2.1 (by have := t_x.2; omega))
      refine wg t_z26_24.tg (fun z27_25 hz27_25 => ?_)
      have rz27_25 : inR z27_25 := hz27_25 ▸ Gs1.ir _ _
      refine wtN (Gs1.tg 2) ?_
      refine cl_Z (s_set (k := k + 1) (s := s + 6) (o := o) (z := z) (by omega) Gs1 (Qz3_2.le (by omega) (by omega) (by omega) (by omega)) ⟨by omega, by omega⟩ (by first | assumption | exact inR_of _ | exact ⟨by omega, by omega⟩)) (fun s26 z30_27 rz30_27 Gs26 es26 Rs26 fz30_27 => ?_)
      have E28 := E3.trans es26
      have n4_2_s26 := Gs26.nu 4 2
      have n9_2_s26 := Gs26.nu 9 2
      exact thr_O Gs26 E28 (Rs26.le (by omega) (by omega) (by omega) (by omega))
  · refine wgF (Gs1.tg 0) (Gs1.fi 1 (i := 0) (f := 1) (j := 2)) ?_
    refine wg t_x.tg (fun z32_30 hz32_30 => ?_)
    have rz32_30 : inR z32_30 := hz32_30 ▸ Gs1.ir _ _
    have t_z32_30 : oN s1 z32_30 := hz32_30 ▸ (by first | exact t_x.1.2.1.2.1 (by have := t_x.2; omega) | exact t_x.1.2.1.2.2.1 (by have := t_x.2; omega))
    refine wg t_z32_30.tg (fun z33_31 hz33_31 => ?_)
    have rz33_31 : inR z33_31 := hz33_31 ▸ Gs1.ir _ _
    refine wtN (Gs1.tg 2) ?_
    refine cl_Z (s_set (k := k + 1) (s := s + 6) (o := o) (z := z) (by omega) Gs1 (Qz3_2.le (by omega) (by omega) (by omega) (by omega)) ⟨by omega, by omega⟩ (by first | assumption | exact inR_of _ | exact ⟨by omega, by omega⟩)) (fun s32 z36_33 rz36_33 Gs32 es32 Rs32 fz36_33 => ?_)
    have E34 := E3.trans es32
    have n4_2_s32 := Gs32.nu 4 2
    have n9_2_s32 := Gs32.nu 9 2
    exact thr_O Gs32 E34 (Rs32.le (by omega) (by omega) (by omega) (by omega))
theorem s_addAxiom (hd : 12 ≤ d) (G : GG bd b σ) (R : RR bd b σ (k + 1) (s + 6) (o) (z + 1)) {x : Int} {M : Nat} (t_x : oSK b σ x M 1) : sf (RC bd d 31 σ [((b + 0 : Nat) : Int), x]) (PO bd b σ k s o z (fun σ' r => RR bd b σ' (k + 1) (s + 6) o z)) := by
  obtain ⟨d, rfl⟩ : ∃ d0, d = d0 + 1 := ⟨d - 1, by omega⟩
  rw [rc_X11_addAxiom (by omega)]
  refine fin_O ?_
  unfold pc_X11_addAxiom_0
  have n4_2_σ := G.nu 4 2
  have n9_2_σ := G.nu 9 2
  refine wtN (G.tg 0) ?_
  refine cl_O (s_refuseBesideNames (k := k) (s := s) (o := o) (z := z + 1) (by omega) G (R.le (by omega) (by omega) (by omega) (by omega)) t_x) (Ext.refl (b := b) (σ := σ)) (by omega) (by omega) (by omega) (by omega) (fun s1 z3_2 rz3_2 Gs1 es1 Rs1 fz3_2 => ?_)
  have Qz3_2 := fz3_2
  have E3 := (Ext.refl (b := b) (σ := σ)).trans es1
  have t_x := t_x.up es1
  have n4_2_s1 := Gs1.nu 4 2
  have n9_2_s1 := Gs1.nu 9 2
  refine wg t_x.tg (fun z4_4 hz4_4 => ?_)
  have rz4_4 : inR z4_4 := hz4_4 ▸ Gs1.ir _ _
  have t_z4_4 : oN s1 z4_4 := hz4_4 ▸ (by first | exact t_x.1.2.1.2.1 (by have := t_x.2; omega) | exact t_x.1.2.1.2.2.1 (by have := t_x.2; omega))
  refine wtN (Gs1.tg 0) ?_
  refine cl_O (s_hneededSort (k := k) (s := s) (o := o) (z := z + 1) (by omega) Gs1 (Qz3_2.le (by omega) (by omega) (by omega) (by omega)) t_z4_4) E3 (by omega) (by omega) (by omega) (by omega) (fun s5 z7_6 rz7_6 Gs5 es5 Rs5 fz7_6 => ?_)
  obtain ⟨fz7_6, Qz7_6⟩ := fz7_6
  have E7 := E3.trans es5
  have t_x := t_x.up es5
  have n4_2_s5 := Gs5.nu 4 2
  have n9_2_s5 := Gs5.nu 9 2
  refine wg t_x.tg (fun z8_8 hz8_8 => ?_)
  have rz8_8 : inR z8_8 := hz8_8 ▸ Gs5.ir _ _
  have t_z8_8 : oN s5 z8_8 := hz8_8 ▸ t_x.1.2.1.2.2.2.1 (by have := t_x.2; omega)
  refine wtN (Gs5.tg 0) ?_
  refine cl_O (s_hneededSort (k := k) (s := s) (o := o) (z := z + 1) (by omega) Gs5 (Qz7_6.le (by omega) (by omega) (by omega) (by omega)) t_z8_8) E7 (by omega) (by omega) (by omega) (by omega) (fun s9 z11_10 rz11_10 Gs9 es9 Rs9 fz11_10 => ?_)
  obtain ⟨fz11_10, Qz11_10⟩ := fz11_10
  have E11 := E7.trans es9
  have t_x := t_x.up es9
  have n4_2_s9 := Gs9.nu 4 2
  have n9_2_s9 := Gs9.nu 9 2
  refine wgF (Gs9.tg 0) (Gs9.fi 2 (i := 0) (f := 2) (j := 3)) ?_
  refine wtN (Gs9.tg 3) ?_
  refine cl_U (s_axiomOf (by omega) Gs9) (fun z15_14 rz15_14 fz15_14 => ?_)
  refine sf_if (fun c15 => ?_) (fun c15 => ?_)
  · refine wgF (Gs9.tg 0) (Gs9.fi 2 (i := 0) (f := 2) (j := 3)) ?_
    refine wtN (Gs9.tg 3) ?_
    refine cl_Z (s_setAxiom (k := k + 1) (s := s + 6) (o := o) (z := z) (by omega) Gs9 (Qz11_10.le (by omega) (by omega) (by omega) (by omega)) ⟨by omega, by omega⟩) (fun s17 z20_18 rz20_18 Gs17 es17 Rs17 fz20_18 => ?_)
    have E19 := E11.trans es17
    have n4_2_s17 := Gs17.nu 4 2
    have n9_2_s17 := Gs17.nu 9 2
    exact ret_O ⟨by decide, by decide⟩ Gs17 E19 (Rs17.le (by omega) (by omega) (by omega) (by omega)) (by first | trivial | assumption | omega | (dsimp only; omega) | exact (Rs17.le (by omega) (by omega) (by omega) (by omega)))
  · refine wgF (Gs9.tg 0) (Gs9.fi 1 (i := 0) (f := 1) (j := 2)) ?_
    refine wg t_x.tg (fun z22_21 hz22_21 => ?_)
    have rz22_21 : inR z22_21 := hz22_21 ▸ Gs9.ir _ _
    have t_z22_21 : oN s9 z22_21 := hz22_21 ▸ (by first | exact t_x.1.2.1.2.1 (by have := t_x.2; omega) | exact t_x.1.2.1.2.2.1 (by have := t_x.2; omega))
    refine wg t_z22_21.tg (fun z23_22 hz23_22 => ?_)
    have rz23_22 : inR z23_22 := hz23_22 ▸ Gs9.ir _ _
    refine wtN (Gs9.tg 2) ?_
    refine cl_Z (s_set (k := k + 1) (s := s + 6) (o := o) (z := z + 1) (by omega) Gs9 (Qz11_10.le (by omega) (by omega) (by omega) (by omega)) ⟨by omega, by omega⟩ (by first | assumption | exact inR_of _ | exact ⟨by omega, by omega⟩)) (fun s23 z26_24 rz26_24 Gs23 es23 Rs23 fz26_24 => ?_)
    have E25 := E11.trans es23
    have n4_2_s23 := Gs23.nu 4 2
    have n9_2_s23 := Gs23.nu 9 2
    exact thr_O Gs23 E25 (Rs23.le (by omega) (by omega) (by omega) (by omega))
theorem s_addRule (hd : 12 ≤ d) (G : GG bd b σ) (R : RR bd b σ (k + 1) (s + 6) (o) (z + 1)) {x : Int} {M : Nat} (t_x : oSK b σ x M 2) : sf (RC bd d 32 σ [((b + 0 : Nat) : Int), x]) (PO bd b σ k s o z (fun σ' r => RR bd b σ' (k + 1) (s + 6) o z)) := by
  obtain ⟨d, rfl⟩ : ∃ d0, d = d0 + 1 := ⟨d - 1, by omega⟩
  rw [rc_X11_addRule (by omega)]
  refine fin_O ?_
  unfold pc_X11_addRule_0
  have n4_2_σ := G.nu 4 2
  have n9_2_σ := G.nu 9 2
  refine wtN (G.tg 0) ?_
  refine cl_O (s_refuseBesideNames (k := k) (s := s) (o := o) (z := z + 1) (by omega) G (R.le (by omega) (by omega) (by omega) (by omega)) t_x) (Ext.refl (b := b) (σ := σ)) (by omega) (by omega) (by omega) (by omega) (fun s1 z3_2 rz3_2 Gs1 es1 Rs1 fz3_2 => ?_)
  have Qz3_2 := fz3_2
  have E3 := (Ext.refl (b := b) (σ := σ)).trans es1
  have t_x := t_x.up es1
  have n4_2_s1 := Gs1.nu 4 2
  have n9_2_s1 := Gs1.nu 9 2
  refine wg t_x.tg (fun z4_4 hz4_4 => ?_)
  have rz4_4 : inR z4_4 := hz4_4 ▸ Gs1.ir _ _
  have t_z4_4 : oN s1 z4_4 := hz4_4 ▸ (by first | exact t_x.1.2.1.2.1 (by have := t_x.2; omega) | exact t_x.1.2.1.2.2.1 (by have := t_x.2; omega))
  refine wtN (Gs1.tg 0) ?_
  refine cl_O (s_hneededSort (k := k) (s := s) (o := o) (z := z + 1) (by omega) Gs1 (Qz3_2.le (by omega) (by omega) (by omega) (by omega)) t_z4_4) E3 (by omega) (by omega) (by omega) (by omega) (fun s5 z7_6 rz7_6 Gs5 es5 Rs5 fz7_6 => ?_)
  obtain ⟨fz7_6, Qz7_6⟩ := fz7_6
  have E7 := E3.trans es5
  have t_x := t_x.up es5
  have n4_2_s5 := Gs5.nu 4 2
  have n9_2_s5 := Gs5.nu 9 2
  refine wg t_x.tg (fun z8_8 hz8_8 => ?_)
  have rz8_8 : inR z8_8 := hz8_8 ▸ Gs5.ir _ _
  have t_z8_8 : oN s5 z8_8 := hz8_8 ▸ t_x.1.2.1.2.2.2.1 (by have := t_x.2; omega)
  refine wtN (Gs5.tg 0) ?_
  refine cl_O (s_hneededSort (k := k) (s := s) (o := o) (z := z + 1) (by omega) Gs5 (Qz7_6.le (by omega) (by omega) (by omega) (by omega)) t_z8_8) E7 (by omega) (by omega) (by omega) (by omega) (fun s9 z11_10 rz11_10 Gs9 es9 Rs9 fz11_10 => ?_)
  obtain ⟨fz11_10, Qz11_10⟩ := fz11_10
  have E11 := E7.trans es9
  have t_x := t_x.up es9
  have n4_2_s9 := Gs9.nu 4 2
  have n9_2_s9 := Gs9.nu 9 2
  refine wg t_x.tg (fun z12_12 hz12_12 => ?_)
  have rz12_12 : inR z12_12 := hz12_12 ▸ Gs9.ir _ _
  have t_z12_12 : oN s9 z12_12 := hz12_12 ▸ (by first | exact t_x.1.2.1.2.2.2.2.1 (by have := t_x.2; omega) | exact t_x.1.2.1.2.2.2.2.2.1 (by have := t_x.2; omega))
  refine wtN (Gs9.tg 0) ?_
  refine cl_O (s_hneededSort (k := k) (s := s) (o := o) (z := z + 1) (by omega) Gs9 (Qz11_10.le (by omega) (by omega) (by omega) (by omega)) t_z12_12) E11 (by omega) (by omega) (by omega) (by omega) (fun s13 z15_14 rz15_14 Gs13 es13 Rs13 fz15_14 => ?_)
  obtain ⟨fz15_14, Qz15_14⟩ := fz15_14
  have E15 := E11.trans es13
  have t_x := t_x.up es13
  have n4_2_s13 := Gs13.nu 4 2
  have n9_2_s13 := Gs13.nu 9 2
  refine wgF (Gs13.tg 0) (Gs13.fi 2 (i := 0) (f := 2) (j := 3)) ?_
  refine wtN (Gs13.tg 3) ?_
  refine cl_U (s_ruleOf (by omega) Gs13) (fun z19_18 rz19_18 fz19_18 => ?_)
  refine sf_if (fun c19 => ?_) (fun c19 => ?_)
  · refine wgF (Gs13.tg 0) (Gs13.fi 2 (i := 0) (f := 2) (j := 3)) ?_
    refine wtN (Gs13.tg 3) ?_
    refine cl_Z (s_setRule (k := k + 1) (s := s + 6) (o := o) (z := z) (by omega) Gs13 (Qz15_14.le (by omega) (by omega) (by omega) (by omega)) ⟨by omega, by omega⟩) (fun s21 z24_22 rz24_22 Gs21 es21 Rs21 fz24_22 => ?_)
    have E23 := E15.trans es21
    have n4_2_s21 := Gs21.nu 4 2
    have n9_2_s21 := Gs21.nu 9 2
    exact ret_O ⟨by decide, by decide⟩ Gs21 E23 (Rs21.le (by omega) (by omega) (by omega) (by omega)) (by first | trivial | assumption | omega | (dsimp only; omega) | exact (Rs21.le (by omega) (by omega) (by omega) (by omega)))
  · refine wgF (Gs13.tg 0) (Gs13.fi 1 (i := 0) (f := 1) (j := 2)) ?_
    refine wg t_x.tg (fun z26_25 hz26_25 => ?_)
    have rz26_25 : inR z26_25 := hz26_25 ▸ Gs13.ir _ _
    have t_z26_25 : oN s13 z26_25 := hz26_25 ▸ (by first | exact t_x.1.2.1.2.1 (by have := t_x.2; omega) | exact t_x.1.2.1.2.2.1 (by have := t_x.2; omega))
    refine wg t_z26_25.tg (fun z27_26 hz27_26 => ?_)
    have rz27_26 : inR z27_26 := hz27_26 ▸ Gs13.ir _ _
    refine wtN (Gs13.tg 2) ?_
    refine cl_Z (s_set (k := k + 1) (s := s + 6) (o := o) (z := z + 1) (by omega) Gs13 (Qz15_14.le (by omega) (by omega) (by omega) (by omega)) ⟨by omega, by omega⟩ (by first | assumption | exact inR_of _ | exact ⟨by omega, by omega⟩)) (fun s27 z30_28 rz30_28 Gs27 es27 Rs27 fz30_28 => ?_)
    have E29 := E15.trans es27
    have n4_2_s27 := Gs27.nu 4 2
    have n9_2_s27 := Gs27.nu 9 2
    exact thr_O Gs27 E29 (Rs27.le (by omega) (by omega) (by omega) (by omega))
end CHO
