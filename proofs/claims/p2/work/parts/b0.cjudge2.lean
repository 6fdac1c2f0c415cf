section CJ2
variable {bd : cBd} {b d : Nat} {σ σ1 σ2 σ3 : CS} {Q : CS → Nat → Int → Prop} {k s o z : Nat}
theorem s_judgeName2 (hd : 9 ≤ d) {x1 : Int} (G : GG bd b σ) (R : RR bd b σ (k + 2) (s + 17) o z) (t_x1 : oN σ x1) (h6 : c_pv σ x1.toNat 6 < 0) : ∀ (n : Nat) {x3 : Int}, oS σ x3 → inR x3 → (x3 + 2 ≤ (n : Int) ∧ 1 ≤ n) → sf (pc_X2_judgeName_2 (RC bd d) bd n σ ((b + 23 : Nat) : Int) x1 x3) (PO bd b σ k s o z (fun σ' r => oN σ' r ∧ RR bd b σ' (k + 1) (s + 6) o z)) := by
  intro n
  induction n with
  | zero =>
    intro x3 t_x3 r3 hn
    omega
  | succ n ih =>
    intro x3 t_x3 r3 hn
    unfold pc_X2_judgeName_2
    have n4_2_σ := G.nu 4 2
    have n9_2_σ := G.nu 9 2
    refine sf_if (fun c1 => ?_) (fun c1 => ?_)
    · refine wgF (G.tg 23) (G.fi 28 (i := 23) (f := 1) (j := 3)) ?_
      refine wgF (G.tg 3) (G.fi 9 (i := 3) (f := 5) (j := 9)) ?_
      refine wgF (G.tg 23) (G.fi 27 (i := 23) (f := 0) (j := 1)) ?_
      refine wg t_x1.tg (fun z5_5 hz5_5 => ?_)
      have rz5_5 : inR z5_5 := hz5_5 ▸ G.ir _ _
      have fz5_5 := G.n4 t_x1.tg
      rw [hz5_5] at fz5_5
      refine wg t_x1.tg (fun z6_6 hz6_6 => ?_)
      have rz6_6 : inR z6_6 := hz6_6 ▸ G.ir _ _
      have fz6_6 := G.n5 t_x1.tg
      rw [hz6_6] at fz6_6
      refine wtN (G.tg 9) ?_
      refine cl_U (s_findn9 (by omega) G ⟨by omega, by omega⟩ ⟨by omega, by omega⟩) (fun z9_8 rz9_8 fz9_8 => ?_)
      refine sf_if (fun c9 => ?_) (fun c9 => ?_)
      · refine wgF (G.tg 23) (G.fi 28 (i := 23) (f := 1) (j := 3)) ?_
        refine wgF (G.tg 3) (G.fi 6 (i := 3) (f := 0) (j := 4)) ?_
        refine wgF (G.tg 23) (G.fi 27 (i := 23) (f := 0) (j := 1)) ?_
        refine wg t_x1.tg (fun z14_13 hz14_13 => ?_)
        have rz14_13 : inR z14_13 := hz14_13 ▸ G.ir _ _
        have fz14_13 := G.n4 t_x1.tg
        rw [hz14_13] at fz14_13
        refine wg t_x1.tg (fun z15_14 hz15_14 => ?_)
        have rz15_14 : inR z15_14 := hz15_14 ▸ G.ir _ _
        have fz15_14 := G.n5 t_x1.tg
        rw [hz15_14] at fz15_14
        refine wtN (G.tg 4) ?_
        refine cl_U (s_findn4 (by omega) G ⟨by omega, by omega⟩ ⟨by omega, by omega⟩) (fun z18_16 rz18_16 fz18_16 => ?_)
        refine sf_if (fun c17 => ?_) (fun c17 => ?_)
        · refine wgF (G.tg 23) (G.fi 28 (i := 23) (f := 1) (j := 3)) ?_
          refine wtN (G.tg 3) ?_
          refine cl_U (s_axiomOf (by omega) G) (fun z23_20 rz23_20 fz23_20 => ?_)
          refine sf_if (fun c21 => ?_) (fun c21 => ?_)
          · refine wgF (G.tg 23) (G.fi 28 (i := 23) (f := 1) (j := 3)) ?_
            refine wtN (G.tg 3) ?_
            refine cl_U (s_axiomOf (by omega) G) (fun z28_24 rz28_24 fz28_24 => ?_)
            refine wtN (G.tg 23) ?_
            refine cl_Z (s_resolve (k := k + 2) (s := s + 17) (o := o) (z := z) (by omega) G (R.le (by omega) (by omega) (by omega) (by omega)) t_x1 h6 ⟨by omega, by omega⟩ (by first | assumption | exact ⟨by omega, by omega⟩) (by first | assumption | exact inR_of _ | exact ⟨by omega, by omega⟩) (by first | assumption | exact inR_of _ | exact ⟨by omega, by omega⟩)) (fun s25 z31_26 rz31_26 Gs25 es25 Rs25 fz31_26 => ?_)
            have E27 := (Ext.refl (b := b) (σ := σ)).trans es25
            have n4_2_s25 := Gs25.nu 4 2
            have n9_2_s25 := Gs25.nu 9 2
            refine sf_n (rr_room Gs25 (Rs25.le (k' := (k + 1) + 1) (s' := (s + 6) + 11) (o' := o) (z' := z) (by omega) (by omega) (by omega) (by omega))) ?_
            refine mk_leaf (k := k + 1) (s := s + 6) (o := o) (z := z) (by omega) Gs25 (Rs25.le (by omega) (by omega) (by omega) (by omega)) ⟨⟨by decide, by decide⟩, (by first | assumption | exact inR_of _ | exact ⟨by omega, by omega⟩)⟩ ⟨by omega, by omega⟩ (by first | assumption | exact ⟨by omega, by omega⟩) (fun s28 Gs28 es28 Rs28 fs28 => ?_)
            obtain ⟨t_z33_s28, v_z33_s28, F_z33_s28⟩ := fs28
            have E29 := E27.trans es28
            have n4_2_s28 := Gs28.nu 4 2
            have n9_2_s28 := Gs28.nu 9 2
            exact ret_O (by first | assumption | exact ref_R Gs28 Rs28 t_z33_s28.tg (by decide) | exact ⟨by omega, by omega⟩) Gs28 E29 (Rs28.le (by omega) (by omega) (by omega) (by omega)) (by first | trivial | assumption | omega | (dsimp only; omega) | exact ⟨by assumption, (Rs28.le (by omega) (by omega) (by omega) (by omega))⟩)
          · refine wgF (G.tg 23) (G.fi 30 (i := 23) (f := 3) (j := 2)) ?_
            refine wg t_x1.tg (fun z38_31 hz38_31 => ?_)
            have rz38_31 : inR z38_31 := hz38_31 ▸ G.ir _ _
            refine wtN (G.tg 2) ?_
            refine cl_Z (s_set (k := k + 2) (s := s + 17) (o := o) (z := z) (by omega) G (R.le (by omega) (by omega) (by omega) (by omega)) ⟨by omega, by omega⟩ (by first | assumption | exact inR_of _ | exact ⟨by omega, by omega⟩)) (fun s32 z41_33 rz41_33 Gs32 es32 Rs32 fz41_33 => ?_)
            have E34 := (Ext.refl (b := b) (σ := σ)).trans es32
            have n4_2_s32 := Gs32.nu 4 2
            have n9_2_s32 := Gs32.nu 9 2
            exact thr_O Gs32 E34 (Rs32.le (by omega) (by omega) (by omega) (by omega))
        · refine wgF (G.tg 23) (G.fi 30 (i := 23) (f := 3) (j := 2)) ?_
          refine wg t_x1.tg (fun z43_36 hz43_36 => ?_)
          have rz43_36 : inR z43_36 := hz43_36 ▸ G.ir _ _
          refine wtN (G.tg 2) ?_
          refine cl_Z (s_set (k := k + 2) (s := s + 17) (o := o) (z := z) (by omega) G (R.le (by omega) (by omega) (by omega) (by omega)) ⟨by omega, by omega⟩ (by first | assumption | exact inR_of _ | exact ⟨by omega, by omega⟩)) (fun s37 z46_38 rz46_38 Gs37 es37 Rs37 fz46_38 => ?_)
          have E39 := (Ext.refl (b := b) (σ := σ)).trans es37
          have n4_2_s37 := Gs37.nu 4 2
          have n9_2_s37 := Gs37.nu 9 2
          exact thr_O Gs37 E39 (Rs37.le (by omega) (by omega) (by omega) (by omega))
      · refine wgF (G.tg 23) (G.fi 28 (i := 23) (f := 1) (j := 3)) ?_
        refine wgF (G.tg 3) (G.fi 12 (i := 3) (f := 8) (j := 14)) ?_
        refine wrN (G.tg 14) (G.ln 14 (n := 100)) ⟨by omega, by omega⟩ (fun z49_42 hz49_42 => ?_)
        have rz49_42 : inR z49_42 := hz49_42 ▸ G.ir _ _
        refine wtN (G.tg 23) ?_
        obtain ⟨_, _, hw, hw1, hw2, hw3, hw4⟩ := G.2.2.2.1
        have t12 := hw4 (z9_8).toNat (by omega)
        refine cl_Z (s_resolve (k := k + 2) (s := s + 17) (o := o) (z := z) (by omega) G (R.le (by omega) (by omega) (by omega) (by omega)) t_x1 h6 ⟨by omega, by omega⟩ (by first | assumption | exact ⟨by omega, by omega⟩) (by first | assumption | exact inR_of _ | exact ⟨by omega, by omega⟩) (by first | assumption | exact inR_of _ | exact ⟨by omega, by omega⟩)) (fun s43 z52_44 rz52_44 Gs43 es43 Rs43 fz52_44 => ?_)
        have E45 := (Ext.refl (b := b) (σ := σ)).trans es43
        have n4_2_s43 := Gs43.nu 4 2
        have n9_2_s43 := Gs43.nu 9 2
        have q12 := fz52_44 (b + 12) (z9_8).toNat (G.ne 12 (by decide) (by rw [t_x1.tg.2]; decide)) (by omega)
        refine wgF (Gs43.tg 23) (Gs43.fi 28 (i := 23) (f := 1) (j := 3)) ?_
        refine wgF (Gs43.tg 3) (Gs43.fi 10 (i := 3) (f := 6) (j := 12)) ?_
        refine wrN (Gs43.tg 12) (Gs43.ln 12 (n := 100)) ⟨by omega, by omega⟩ (fun z55_48 hz55_48 => ?_)
        have rz55_48 : inR z55_48 := hz55_48 ▸ Gs43.ir _ _
        have t_z55_48 : oN s43 z55_48 := by rw [← hz55_48, q12]; exact t12.up es43
        exact ret_O (by first | assumption | exact ref_R Gs43 Rs43 t_z55_48.tg (by decide) | exact ⟨by omega, by omega⟩) Gs43 E45 (Rs43.le (by omega) (by omega) (by omega) (by omega)) (by first | trivial | assumption | omega | (dsimp only; omega) | exact ⟨by assumption, (Rs43.le (by omega) (by omega) (by omega) (by omega))⟩)
    · have t_x3 := t_x3.pos (by omega)
      refine wg t_x3.tg (fun z56_49 hz56_49 => ?_)
      have rz56_49 : inR z56_49 := hz56_49 ▸ G.ir _ _
      have t_z56_49 : oN σ z56_49 := hz56_49 ▸ (G.scf t_x3.tg).1
      refine wtN (G.tg 23) ?_
      refine cl_U (s_isNameOf (by omega) G t_z56_49 t_x1) (fun z59_51 rz59_51 fz59_51 => ?_)
      refine sf_if (fun c52 => ?_) (fun c52 => ?_)
      · refine wg t_x3.tg (fun z61_53 hz61_53 => ?_)
        have rz61_53 : inR z61_53 := hz61_53 ▸ G.ir _ _
        have fz61_53 : z61_53 < ((x3).toNat : Int) := hz61_53 ▸ (G.scf t_x3.tg).2.2.2.2
        have t_z61_53 : oS σ z61_53 := hz61_53 ▸ (G.scf t_x3.tg).2.2.2.1
        exact ih t_z61_53 (by assumption) (by have := t_x3.tg.1; omega)
      · refine wg t_x3.tg (fun z62_54 hz62_54 => ?_)
        have rz62_54 : inR z62_54 := hz62_54 ▸ G.ir _ _
        have t_z62_54 : oN σ z62_54 := hz62_54 ▸ (G.scf t_x3.tg).1
        refine wg t_z62_54.tg (fun z63_55 hz63_55 => ?_)
        have rz63_55 : inR z63_55 := hz63_55 ▸ G.ir _ _
        have fz63_55 : oid z63_55 := hz63_55 ▸ G.ni t_z62_54.tg
        refine wg t_x3.tg (fun z64_56 hz64_56 => ?_)
        have rz64_56 : inR z64_56 := hz64_56 ▸ G.ir _ _
        refine wtN (G.tg 23) ?_
        refine cl_Z (s_resolve (k := k + 2) (s := s + 17) (o := o) (z := z) (by omega) G (R.le (by omega) (by omega) (by omega) (by omega)) t_x1 h6 ⟨by omega, by omega⟩ (by first | assumption | exact ⟨by omega, by omega⟩) (by first | assumption | exact inR_of _ | exact ⟨by omega, by omega⟩) (by first | assumption | exact inR_of _ | exact ⟨by omega, by omega⟩)) (fun s57 z67_58 rz67_58 Gs57 es57 Rs57 fz67_58 => ?_)
        have E59 := (Ext.refl (b := b) (σ := σ)).trans es57
        have t_x3 := t_x3.up es57
        have n4_2_s57 := Gs57.nu 4 2
        have n9_2_s57 := Gs57.nu 9 2
        refine wg t_x3.tg (fun z68_60 hz68_60 => ?_)
        have rz68_60 : inR z68_60 := hz68_60 ▸ Gs57.ir _ _
        have t_z68_60 : oN s57 z68_60 := hz68_60 ▸ (Gs57.scf t_x3.tg).2.1
        exact ret_O (by first | assumption | exact ref_R Gs57 Rs57 t_z68_60.tg (by decide) | exact ⟨by omega, by omega⟩) Gs57 E59 (Rs57.le (by omega) (by omega) (by omega) (by omega)) (by first | trivial | assumption | omega | (dsimp only; omega) | exact ⟨by assumption, (Rs57.le (by omega) (by omega) (by omega) (by omega))⟩)
theorem s_judgeName (hd : 10 ≤ d) (G : GG bd b σ) (R : RR bd b σ (k + 2) (s + 17) (o) (z)) {x y : Int} (t_x : oN σ x) (h6 : c_pv σ x.toNat 6 < 0) (t_y : oS σ y) (ry : inR y) : sf (RC bd d 67 σ [((b + 23 : Nat) : Int), x, y]) (PO bd b σ k s o z (fun σ' r => oN σ' r ∧ RR bd b σ' (k + 1) (s + 6) o z)) := by
  obtain ⟨d, rfl⟩ : ∃ d0, d = d0 + 1 := ⟨d - 1, by omega⟩
  rw [rc_X2_judgeName (by omega)]
  refine fin_O ?_
  unfold pc_X2_judgeName_0
  exact s_judgeName2 (by omega) G R t_x h6 _ t_y ry (by have := t_y.lt G; have := hp_M G R; omega)
theorem s_judgeB (hJ : ∀ {σ : CS} {k s o z h n : Nat} {x y : Int}, 120 + h ≤ d → GG bd b σ → RR bd b σ (k + 1 + 3 * n) (s + 6 + 25 * n) o z → TS b σ h x n → inR x → oS σ y → inR y → sf (RC bd d 66 σ [((b + 23 : Nat) : Int), x, y]) (PO bd b σ k s o z (fun σ' r => oN σ' r ∧ RR bd b σ' (k + 1) (s + 6) o z))) {h n1 n2 : Nat} {x y : Int} (hd : 120 + h ≤ d) (G : GG bd b σ) (R : RR bd b σ (k + 4 + 3 * n1 + 3 * n2) (s + 31 + 25 * n1 + 25 * n2) o z) (t_x : oB σ x) (rx : inR x) (S1 : TS b σ h (c_pv σ x.toNat 6) n1) (S2 : TS b σ h (c_pv σ x.toNat 7) n2) (t_y : oS σ y) (ry : inR y) : sf (RC bd (d + 1) 66 σ [((b + 23 : Nat) : Int), x, y]) (PO bd b σ k s o z (fun σ' r => oN σ' r ∧ RR bd b σ' (k + 1) (s + 6) o z)) := by
  rw [rc_X2_judge (by omega)]
  refine fin_O ?_
  have tx0 := t_x.tg.2
  have t60 := (G.n6 t_x.tg t_x.2.1).1
  have k0 := t_x.2
  unfold pc_X2_judge_0
  refine wg t_x.tg (fun z1_1 hz1_1 => ?_)
  have rz1_1 : inR z1_1 := hz1_1 ▸ G.ir _ _
  have t_z1_1 : oN σ z1_1 := hz1_1 ▸ G.n6 t_x.tg t_x.2.1
  refine sf_if (fun c2 => ?_) (fun c2 => ?_)
  · refine wg t_x.tg (fun z3_3 hz3_3 => ?_)
    have rz3_3 : inR z3_3 := hz3_3 ▸ G.ir _ _
    have t_z3_3 : oN σ z3_3 := hz3_3 ▸ G.n6 t_x.tg t_x.2.1
    have S3 : TS b σ h z3_3 n1 := hz3_3 ▸ S1
    refine wtN (G.tg 23) ?_
    refine cl_O (hJ (k := k + 3 + 3 * n2) (s := s + 25 + 25 * n2) (o := o) (z := z) (n := n1) (by omega) G (R.le (by omega) (by omega) (by omega) (by omega)) S3 (by first | assumption | exact ref_R G R t_z3_3.tg (by decide)) t_y (by first | assumption | exact ref_R G R t_y.tg (by decide))) (Ext.refl (b := b) (σ := σ)) (by omega) (by omega) (by omega) (by omega) (fun s4 z6_5 rz6_5 Gs4 es4 Rs4 fz6_5 => ?_)
    obtain ⟨t_z6_5, Qz6_5⟩ := fz6_5
    have E6 := (Ext.refl (b := b) (σ := σ)).trans es4
    have t_x := t_x.up es4
    have t_y := t_y.up es4
    have S2 := S2.up es4
    refine wg t_x.tg (fun z7_7 hz7_7 => ?_)
    have rz7_7 : inR z7_7 := hz7_7 ▸ Gs4.ir _ _
    have fz7_7 := Gs4.kd t_x.tg
    rw [hz7_7] at fz7_7
    have k7 := t_x.2
    refine sf_if (fun c8 => ?_) (fun c8 => ?_)
    · refine wg t_x.tg (fun z9_9 hz9_9 => ?_)
      have rz9_9 : inR z9_9 := hz9_9 ▸ Gs4.ir _ _
      have fz9_9 := Gs4.kd t_x.tg
      rw [hz9_9] at fz9_9
      have k9 := t_x.2
      refine sf_if (fun c10 => ?_) (fun c10 => ?_)
      · refine wg t_x.tg (fun z11_11 hz11_11 => ?_)
        have rz11_11 : inR z11_11 := hz11_11 ▸ Gs4.ir _ _
        have t_z11_11 : oN s4 z11_11 := hz11_11 ▸ Gs4.n6 t_x.tg t_x.2.1
        refine wtN (Gs4.tg 23) ?_
        refine cl_O (s_jneededSort (k := k + 3 + 3 * n2) (s := s + 25 + 25 * n2) (o := o) (z := z) (by omega) Gs4 (Qz6_5.le (by omega) (by omega) (by omega) (by omega)) t_z6_5 t_z11_11) E6 (by omega) (by omega) (by omega) (by omega) (fun s12 z14_13 rz14_13 Gs12 es12 Rs12 fz14_13 => ?_)
        obtain ⟨fz14_13, Qz14_13⟩ := fz14_13
        have E14 := E6.trans es12
        have t_x := t_x.up es12
        have t_y := t_y.up es12
        have S2 := S2.up es12
        refine wgF (Gs12.tg 23) (Gs12.fi 29 (i := 23) (f := 2) (j := 16)) ?_
        refine wg t_x.tg (fun z16_16 hz16_16 => ?_)
        have rz16_16 : inR z16_16 := hz16_16 ▸ Gs12.ir _ _
        have t_z16_16 : oN s12 z16_16 := hz16_16 ▸ Gs12.n6 t_x.tg t_x.2.1
        refine cl_U (s_letsOf (by omega) Gs12 t_y) (fun z19_18 rz19_18 fz19_18 => ?_)
        have t_z19_18 := fz19_18
        refine wtN (Gs12.tg 16) ?_
        refine cl_O (s_normalForm (k := k + 3 + 3 * n2) (s := s + 25 + 25 * n2) (o := o) (z := z) (by omega) Gs12 (Qz14_13.le (by omega) (by omega) (by omega) (by omega)) t_z16_16 (by first | assumption | exact ref_R Gs12 Qz14_13 t_z16_16.tg (by decide)) t_z19_18 (by first | assumption | exact ref_R Gs12 Qz14_13 t_z19_18.tg (by decide))) E14 (by omega) (by omega) (by omega) (by omega) (fun s19 z22_20 rz22_20 Gs19 es19 Rs19 fz22_20 => ?_)
        obtain ⟨t_z22_20, Qz22_20⟩ := fz22_20
        have E21 := E14.trans es19
        have t_x := t_x.up es19
        have t_y := t_y.up es19
        have S2 := S2.up es19
        refine wg t_x.tg (fun z23_22 hz23_22 => ?_)
        have rz23_22 : inR z23_22 := hz23_22 ▸ Gs19.ir _ _
        have t_z23_22 : oN s19 z23_22 := hz23_22 ▸ Gs19.n7 t_x.tg t_x.2.1 t_x.2.2
        have S23 : TS b s19 h z23_22 n2 := by rw [← hz23_22, E21.z.nd tx0 7 (by omega)]; exact S2
        refine sf_n (rr_room Gs19 (Qz22_20.le (k' := (k + 3 + 3 * n2) + 1) (s' := (s + 26 + 25 * n2) + 5) (o' := o) (z' := z) (by omega) (by omega) (by omega) (by omega))) ?_
        refine mk_scope (k := k + 2 + 3 * n2) (s := s + 21 + 25 * n2) (o := o) (z := z) (by omega) Gs19 (Qz22_20.le (by omega) (by omega) (by omega) (by omega)) ⟨(by first | assumption | exact ref_R Gs19 Qz22_20 t_x.tg (by decide)), (by first | assumption | exact ref_R Gs19 Qz22_20 t_z22_20.tg (by decide)), (by first | assumption | exact inR_of _ | exact ⟨by omega, by omega⟩), (by first | assumption | exact ref_R Gs19 Qz22_20 t_y.tg (by decide))⟩ t_x t_z22_20 t_y (fun s23 Gs23 es23 Rs23 fs23 => ?_)
        obtain ⟨t1_z25_s23, t2_z25_s23⟩ := fs23
        have E24 := E21.trans es23
        have t_x := t_x.up es23
        have t_z22_20 := t_z22_20.up es23
        have t_z23_22 := t_z23_22.up es23
        have S2 := S2.up es23
        have t_z25_s23 : oSn s23 ((c_hp s19 : Nat) : Int) := ⟨t1_z25_s23, t2_z25_s23⟩
        have S23 := S23.up es23
        refine wtN (Gs23.tg 23) ?_
        refine cl_O (hJ (k := k + 1) (s := s + 15) (o := o) (z := z) (n := n2) (by omega) Gs23 (Rs23.le (by omega) (by omega) (by omega) (by omega)) S23 (by first | assumption | exact ref_R Gs23 Rs23 t_z23_22.tg (by decide)) t_z25_s23.s (by first | assumption | exact ref_R Gs23 Rs23 t_z25_s23.tg (by decide))) E24 (by omega) (by omega) (by omega) (by omega) (fun s25 z31_26 rz31_26 Gs25 es25 Rs25 fz31_26 => ?_)
        obtain ⟨t_z31_26, Qz31_26⟩ := fz31_26
        have E27 := E24.trans es25
        have t_x := t_x.up es25
        have t_z22_20 := t_z22_20.up es25
        have S2 := S2.up es25
        refine wg t_x.tg (fun z32_28 hz32_28 => ?_)
        have rz32_28 : inR z32_28 := hz32_28 ▸ Gs25.ir _ _
        have fz32_28 := Gs25.kd t_x.tg
        rw [hz32_28] at fz32_28
        refine sf_if (fun c29 => ?_) (fun c29 => ?_)
        · refine wtN (Gs25.tg 23) ?_
          refine cl_O (s_typeOfLambda (k := k) (s := s + 4) (o := o) (z := z) (by omega) Gs25 (Qz31_26.le (by omega) (by omega) (by omega) (by omega)) t_x t_z22_20 (by first | assumption | exact ref_R Gs25 Qz31_26 t_z22_20.tg (by decide)) (by first | assumption | exact inR_of _ | exact ⟨by omega, by omega⟩) t_z31_26 (by first | assumption | exact ref_R Gs25 Qz31_26 t_z31_26.tg (by decide))) E27 (by omega) (by omega) (by omega) (by omega) (fun s30 z36_31 rz36_31 Gs30 es30 Rs30 fz36_31 => ?_)
          obtain ⟨t_z36_31, Qz36_31⟩ := fz36_31
          have E32 := E27.trans es30
          have S2 := S2.up es30
          exact ret_O (by first | assumption | exact ref_R Gs30 Qz36_31 t_z36_31.tg (by decide) | exact ⟨by omega, by omega⟩) Gs30 E32 (Qz36_31.le (by omega) (by omega) (by omega) (by omega)) (by first | trivial | assumption | omega | (dsimp only; omega) | exact ⟨by assumption, (Qz36_31.le (by omega) (by omega) (by omega) (by omega))⟩)
        · refine wg t_x.tg (fun z37_33 hz37_33 => ?_)
          have rz37_33 : inR z37_33 := hz37_33 ▸ Gs25.ir _ _
          have t_z37_33 : oN s25 z37_33 := hz37_33 ▸ Gs25.n7 t_x.tg t_x.2.1 t_x.2.2
          refine wtN (Gs25.tg 23) ?_
          refine cl_O (s_jneededSort (k := k + 1) (s := s + 15) (o := o) (z := z) (by omega) Gs25 (Qz31_26.le (by omega) (by omega) (by omega) (by omega)) t_z31_26 t_z37_33) E27 (by omega) (by omega) (by omega) (by omega) (fun s34 z40_35 rz40_35 Gs34 es34 Rs34 fz40_35 => ?_)
          obtain ⟨fz40_35, Qz40_35⟩ := fz40_35
          have E36 := E27.trans es34
          have t_x := t_x.up es34
          have S2 := S2.up es34
          refine wtN (Gs34.tg 23) ?_
          refine cl_O (s_typeOfProduct (k := k) (s := s + 4) (o := o) (z := z) (by omega) Gs34 (Qz40_35.le (by omega) (by omega) (by omega) (by omega)) t_x.n (by first | assumption | exact inR_of _ | exact ⟨by omega, by omega⟩) (by first | assumption | exact inR_of _ | exact ⟨by omega, by omega⟩)) E36 (by omega) (by omega) (by omega) (by omega) (fun s37 z43_38 rz43_38 Gs37 es37 Rs37 fz43_38 => ?_)
          obtain ⟨t_z43_38, Qz43_38⟩ := fz43_38
          have E39 := E36.trans es37
          have S2 := S2.up es37
          exact ret_O (by first | assumption | exact ref_R Gs37 Qz43_38 t_z43_38.tg (by decide) | exact ⟨by omega, by omega⟩) Gs37 E39 (Qz43_38.le (by omega) (by omega) (by omega) (by omega)) (by first | trivial | assumption | omega | (dsimp only; omega) | exact ⟨by assumption, (Qz43_38.le (by omega) (by omega) (by omega) (by omega))⟩)
      · exfalso; omega
    · refine wg t_x.tg (fun z44_40 hz44_40 => ?_)
      have rz44_40 : inR z44_40 := hz44_40 ▸ Gs4.ir _ _
      have t_z44_40 : oN s4 z44_40 := hz44_40 ▸ Gs4.n7 t_x.tg t_x.2.1 t_x.2.2
      have S23 : TS b s4 h z44_40 n2 := by rw [← hz44_40, E6.z.nd tx0 7 (by omega)]; exact S2
      refine sf_n (rr_room Gs4 (Qz6_5.le (k' := (k + 3 + 3 * n2) + 1) (s' := (s + 26 + 25 * n2) + 5) (o' := o) (z' := z) (by omega) (by omega) (by omega) (by omega))) ?_
      refine wgnN Gs4 (Gs4.tg 23) (by decide) (fun z47_41 hz47_41 => ?_)
      have rz47_41 : inR z47_41 := hz47_41 ▸ Gs4.ir _ _
      refine mk_scope (k := k + 2 + 3 * n2) (s := s + 21 + 25 * n2) (o := o) (z := z) (by omega) Gs4 (Qz6_5.le (by omega) (by omega) (by omega) (by omega)) ⟨(by first | assumption | exact ref_R Gs4 Qz6_5 t_x.tg (by decide)), (by first | assumption | exact ref_R Gs4 Qz6_5 t_z6_5.tg (by decide)), (by first | assumption | exact inR_of _ | exact ⟨by omega, by omega⟩), (by first | assumption | exact ref_R Gs4 Qz6_5 t_y.tg (by decide))⟩ t_x t_z6_5 t_y (fun s42 Gs42 es42 Rs42 fs42 => ?_)
      obtain ⟨t1_z46_s42, t2_z46_s42⟩ := fs42
      have E43 := E6.trans es42
      have t_z44_40 := t_z44_40.up es42
      have S2 := S2.up es42
      have t_z46_s42 : oSn s42 ((c_hp s4 : Nat) : Int) := ⟨t1_z46_s42, t2_z46_s42⟩
      have S23 := S23.up es42
      refine wtN (Gs42.tg 23) ?_
      refine cl_O (hJ (k := k + 1) (s := s + 15) (o := o) (z := z) (n := n2) (by omega) Gs42 (Rs42.le (by omega) (by omega) (by omega) (by omega)) S23 (by first | assumption | exact ref_R Gs42 Rs42 t_z44_40.tg (by decide)) t_z46_s42.s (by first | assumption | exact ref_R Gs42 Rs42 t_z46_s42.tg (by decide))) E43 (by omega) (by omega) (by omega) (by omega) (fun s44 z53_45 rz53_45 Gs44 es44 Rs44 fz53_45 => ?_)
      obtain ⟨t_z53_45, Qz53_45⟩ := fz53_45
      have E46 := E43.trans es44
      have S2 := S2.up es44
      exact ret_O (by first | assumption | exact ref_R Gs44 Qz53_45 t_z53_45.tg (by decide) | exact ⟨by omega, by omega⟩) Gs44 E46 (Qz53_45.le (by omega) (by omega) (by omega) (by omega)) (by first | trivial | assumption | omega | (dsimp only; omega) | exact ⟨by assumption, (Qz53_45.le (by omega) (by omega) (by omega) (by omega))⟩)
  · have := hz1_1
    exfalso; omega
theorem sg_mono {g : Nat → Nat} {j : Nat} : ∀ {n : Nat}, j < n → sg g j + g j ≤ sg g n
  | 0, h => by omega
  | n + 1, h => by
    show sg g j + g j ≤ sg g n + g n
    by_cases c : j = n
    · subst c; omega
    · have := sg_mono (g := g) (j := j) (n := n) (by omega)
      omega
theorem s_judge68 (hJ : ∀ {σ : CS} {k s o z h n : Nat} {x y : Int}, 120 + h ≤ d → GG bd b σ → RR bd b σ (k + 1 + 3 * n) (s + 6 + 25 * n) o z → TS b σ h x n → inR x → oS σ y → inR y → sf (RC bd d 66 σ [((b + 23 : Nat) : Int), x, y]) (PO bd b σ k s o z (fun σ' r => oN σ' r ∧ RR bd b σ' (k + 1) (s + 6) o z))) {σ0 : CS} {h N : Nat} {x y : Int} {g : Nat → Nat} (hd : 120 + h ≤ d) (V : oV b σ0 x N) (Sg : ∀ i, i < N → 1 ≤ g i ∧ TS b σ0 h (c_pv σ0 (c_pv σ0 x.toNat 8).toNat i) (g i - 1)) (rx : inR x) (ry : inR y) : ∀ (n : Nat) {σ : CS} {j r : Nat} {x3 x4 : Int}, GG bd b σ → Ext b σ0 σ → RR bd b σ (k + 1 + 3 * r) (s + 6 + 25 * r) o z → r + sg g j = sg g N → j ≤ N → x4 = (j : Int) → oN σ x3 → inR x3 → oS σ y → N - j < n → sf (pc_X2_judge_68 (RC bd d) bd n σ ((b + 23 : Nat) : Int) x y x3 x4) (PO bd b σ0 k s o z (fun σ' r => oN σ' r ∧ RR bd b σ' (k + 1) (s + 6) o z)) := by
  intro n
  induction n with
  | zero =>
    intro σ j r x3 x4 G E R hr hj hx4 t_x3 rx3 t_y hn
    omega
  | succ n ih =>
    intro σ j r x3 x4 G E R hr hj hx4 t_x3 rx3 t_y hn
    have Vc := V.up E
    have t_x := Vc.1
    have hN := Vc.2.1.2.2.2.1
    rw [Vc.2.2] at hN
    unfold pc_X2_judge_68
    refine wg t_x.tg (fun z1_1 hz1_1 => ?_)
    have rz1_1 : inR z1_1 := hz1_1 ▸ G.ir _ _
    have t_z1_1 : oA b σ z1_1 := hz1_1 ▸ G.n8 t_x.tg t_x.2
    refine wl t_z1_1.tg (by rw [← hz1_1, Vc.2.2]; omega) (fun z2_2 hz2_2 => ?_)
    rw [← hz1_1, Vc.2.2] at hz2_2
    refine sf_if (fun c3 => ?_) (fun c3 => ?_)
    · exact ret_O (by first | assumption | exact ref_R G R t_x3.tg (by decide) | exact ⟨by omega, by omega⟩) G E (R.le (by omega) (by omega) (by omega) (by omega)) (by first | trivial | assumption | omega | (dsimp only; omega) | exact ⟨by assumption, (R.le (by omega) (by omega) (by omega) (by omega))⟩)
    · have hsg := sg_mono (g := g) (j := j) (n := N) (by omega)
      obtain ⟨r', hr'⟩ : ∃ r', r = r' + g j := ⟨r - g j, by omega⟩
      have hg1 := (Sg j (by omega)).1
      have hj4 : x4.toNat = j := by omega
      have hs1 : sg g (j + 1) = sg g j + g j := rfl
      refine wg t_x.tg (fun z4_4 hz4_4 => ?_)
      have rz4_4 : inR z4_4 := hz4_4 ▸ G.ir _ _
      have t_z4_4 : oN σ z4_4 := hz4_4 ▸ G.n6 t_x.tg (by have := t_x.2; omega)
      refine wtN (G.tg 23) ?_
      refine cl_O (s_needProduct (k := k + 0 + 3 * r) (s := s + 0 + 25 * r) (o := o) (z := z) (by omega) G (R.le (by omega) (by omega) (by omega) (by omega)) t_x3 t_z4_4) E (by omega) (by omega) (by omega) (by omega) (fun s5 z7_6 rz7_6 Gs5 es5 Rs5 fz7_6 => ?_)
      obtain ⟨pz7_6, Qz7_6⟩ := fz7_6
      have E7 := E.trans es5
      have t_x := t_x.up es5
      have t_y := t_y.up es5
      have t_x3 := t_x3.up es5
      have Vc := Vc.up es5
      have t_x3 := pz7_6
      refine wg t_x.tg (fun z8_8 hz8_8 => ?_)
      have rz8_8 : inR z8_8 := hz8_8 ▸ Gs5.ir _ _
      have t_z8_8 : oA b s5 z8_8 := hz8_8 ▸ Gs5.n8 t_x.tg t_x.2
      refine wr t_z8_8.tg ⟨by omega, by rw [← hz8_8, Vc.2.2]; omega⟩ (fun z9_9 hz9_9 => ?_)
      have rz9_9 : inR z9_9 := hz9_9 ▸ Gs5.ir _ _
      have S9 : TS b s5 h z9_9 (g j - 1) := by
        rw [← hz9_9, ← hz8_8, E7.z.nd V.1.1.2 8 (by omega), hj4, E7.z.ar V.2.1.1.2 V.2.1.2.1]
        exact (Sg j (by omega)).2.up E7
      have t_z9_9 := S9.n
      refine wtN (Gs5.tg 23) ?_
      refine cl_O (hJ (k := k + 3 + 3 * r') (s := s + 25 + 25 * r') (o := o) (z := z) (n := (g j - 1)) (by omega) Gs5 (Qz7_6.le (by omega) (by omega) (by omega) (by omega)) S9 (by first | assumption | exact ref_R Gs5 Qz7_6 t_z9_9.tg (by decide)) t_y (by first | assumption | exact ref_R Gs5 Qz7_6 t_y.tg (by decide))) E7 (by omega) (by omega) (by omega) (by omega) (fun s10 z12_11 rz12_11 Gs10 es10 Rs10 fz12_11 => ?_)
      obtain ⟨t_z12_11, Qz12_11⟩ := fz12_11
      have E12 := E7.trans es10
      have t_x := t_x.up es10
      have t_y := t_y.up es10
      have t_x3 := t_x3.up es10
      have t_z9_9 := t_z9_9.up es10
      have Vc := Vc.up es10
      refine wgF (Gs10.tg 23) (Gs10.fi 29 (i := 23) (f := 2) (j := 16)) ?_
      refine wg t_x3.tg (fun z14_14 hz14_14 => ?_)
      have rz14_14 : inR z14_14 := hz14_14 ▸ Gs10.ir _ _
      have t_z14_14 : oN s10 z14_14 := hz14_14 ▸ Gs10.n6 t_x3.tg (by have := t_x3.2; omega)
      refine wtN (Gs10.tg 16) ?_
      refine cl_O (s_areSame (k := k + 3 + 3 * r') (s := s + 25 + 25 * r') (o := o) (z := z) (by omega) Gs10 (Qz12_11.le (by omega) (by omega) (by omega) (by omega)) t_z14_14 (by first | assumption | exact ref_R Gs10 Qz12_11 t_z14_14.tg (by decide)) t_z12_11 (by first | assumption | exact ref_R Gs10 Qz12_11 t_z12_11.tg (by decide))) E12 (by omega) (by omega) (by omega) (by omega) (fun s15 z17_16 rz17_16 Gs15 es15 Rs15 fz17_16 => ?_)
      obtain ⟨fz17_16, Qz17_16⟩ := fz17_16
      have E17 := E12.trans es15
      have t_x := t_x.up es15
      have t_y := t_y.up es15
      have t_x3 := t_x3.up es15
      have t_z9_9 := t_z9_9.up es15
      have Vc := Vc.up es15
      refine sf_if (fun c18 => ?_) (fun c18 => ?_)
      · refine wg t_x3.tg (fun z19_19 hz19_19 => ?_)
        have rz19_19 : inR z19_19 := hz19_19 ▸ Gs15.ir _ _
        refine wpN (Gs15.tg 23) (fun s20 ws20 => ?_)
        obtain ⟨Gs20, es20, Rs20, Fs20, Vs20⟩ := P0 Gs15 Qz17_16 ws20 (by decide) (by first | assumption | exact inR_of _ | exact ⟨by omega, by omega⟩) (by intro lo hi q; cases q <;> omega)
        have E21 := E17.trans es20
        have t_x := t_x.up es20
        have t_y := t_y.up es20
        have t_x3 := t_x3.up es20
        have t_z9_9 := t_z9_9.up es20
        have Vc := Vc.up es20
        refine sf_n (rr_room Gs20 (Rs20.le (k' := (k + 3 + 3 * r') + 1) (s' := (s + 26 + 25 * r') + 5) (o' := o) (z' := z) (by omega) (by omega) (by omega) (by omega))) ?_
        refine wgn Gs20 t_x3.tg (by decide) (fun z23_22 hz23_22 => ?_)
        have rz23_22 : inR z23_22 := hz23_22 ▸ Gs20.ir _ _
        have fz23_22 : oid z23_22 := hz23_22 ▸ Gs20.ni t_x3.tg
        have n23 : z23_22 ≠ 0 := hz23_22 ▸ Gs20.n1 t_x3.tg (by have := t_x3.2; omega) (by have := t_x3.2; omega)
        refine cl_U (s_letsOf_n (by omega) Gs20 t_y) (fun z26_23 rz26_23 t_z26_23 => ?_)
        refine mk_link (k := k + 3 + 3 * r') (s := s + 26 + 25 * r') (o := o) (z := z) (by omega) Gs20 (Rs20.le (by omega) (by omega) (by omega) (by omega)) ⟨(by first | assumption | exact inR_of _ | exact ⟨by omega, by omega⟩), (by first | assumption | exact ref_R Gs20 Rs20 t_z9_9.tg (by decide)), (by first | assumption | exact ref_R Gs20 Rs20 t_z26_23.tg (by decide)), ⟨by decide, by decide⟩⟩ (by first | assumption | exact ⟨by omega, by omega⟩) (by omega) t_z9_9.nn t_z26_23 (oL.nul (by decide)) (fun s24 Gs24 es24 Rs24 fs24 => ?_)
        obtain ⟨t_z22_s24, v_z22_s24, F_z22_s24⟩ := fs24
        have E25 := E21.trans es24
        have t_x := t_x.up es24
        have t_y := t_y.up es24
        have t_x3 := t_x3.up es24
        have Vc := Vc.up es24
        refine wgF (Gs24.tg 23) (Gs24.fi 29 (i := 23) (f := 2) (j := 16)) ?_
        refine wg t_x3.tg (fun z31_27 hz31_27 => ?_)
        have rz31_27 : inR z31_27 := hz31_27 ▸ Gs24.ir _ _
        have t_z31_27 : oN s24 z31_27 := hz31_27 ▸ Gs24.n7 t_x3.tg (by have := t_x3.2; omega) (by have := t_x3.2; omega)
        refine wtN (Gs24.tg 16) ?_
        refine cl_O (s_normalForm (k := k + 2 + 3 * r') (s := s + 20 + 25 * r') (o := o) (z := z) (by omega) Gs24 (Rs24.le (by omega) (by omega) (by omega) (by omega)) t_z31_27 (by first | assumption | exact ref_R Gs24 Rs24 t_z31_27.tg (by decide)) t_z22_s24.l (by first | assumption | exact ref_R Gs24 Rs24 t_z22_s24.tg (by decide))) E25 (by omega) (by omega) (by omega) (by omega) (fun s28 z34_29 rz34_29 Gs28 es28 Rs28 fz34_29 => ?_)
        obtain ⟨t_z34_29, Qz34_29⟩ := fz34_29
        have E30 := E25.trans es28
        have t_x := t_x.up es28
        have t_y := t_y.up es28
        have Vc := Vc.up es28
        refine wck ⟨by omega, by omega⟩ (fun z35_31 hz35_31 => ?_)
        exact ih (r := r') (j := j + 1) Gs28 E30 (Qz34_29.le (by omega) (by omega) (by omega) (by omega)) (by omega) (by omega) (by omega) t_z34_29 (by first | assumption | exact ref_R Gs28 Qz34_29 t_z34_29.tg (by decide)) t_y (by omega)
      · refine wgF (Gs15.tg 23) (Gs15.fi 30 (i := 23) (f := 3) (j := 2)) ?_
        refine wg t_z9_9.tg (fun z37_33 hz37_33 => ?_)
        have rz37_33 : inR z37_33 := hz37_33 ▸ Gs15.ir _ _
        refine wtN (Gs15.tg 2) ?_
        refine cl_Z (s_set (k := k + 4 + 3 * r') (s := s + 31 + 25 * r') (o := o) (z := z) (by omega) Gs15 (Qz17_16.le (by omega) (by omega) (by omega) (by omega)) ⟨by omega, by omega⟩ (by first | assumption | exact inR_of _ | exact ⟨by omega, by omega⟩)) (fun s34 z40_35 rz40_35 Gs34 es34 Rs34 fz40_35 => ?_)
        have E36 := E17.trans es34
        have Vc := Vc.up es34
        exact thr_O Gs34 E36 (Rs34.le (by omega) (by omega) (by omega) (by omega))
theorem s_judgeU (hJ : ∀ {σ : CS} {k s o z h n : Nat} {x y : Int}, 120 + h ≤ d → GG bd b σ → RR bd b σ (k + 1 + 3 * n) (s + 6 + 25 * n) o z → TS b σ h x n → inR x → oS σ y → inR y → sf (RC bd d 66 σ [((b + 23 : Nat) : Int), x, y]) (PO bd b σ k s o z (fun σ' r => oN σ' r ∧ RR bd b σ' (k + 1) (s + 6) o z))) {h n1 N : Nat} {g : Nat → Nat} {x y : Int} (hd : 120 + h ≤ d) (G : GG bd b σ) (R : RR bd b σ (k + 1 + 3 * n1 + 3 * sg g N) (s + 6 + 25 * n1 + 25 * sg g N) o z) (V : oV b σ x N) (rx : inR x) (S1 : TS b σ h (c_pv σ x.toNat 6) n1) (Sg : ∀ i, i < N → 1 ≤ g i ∧ TS b σ h (c_pv σ (c_pv σ x.toNat 8).toNat i) (g i - 1)) (t_y : oS σ y) (ry : inR y) : sf (RC bd (d + 1) 66 σ [((b + 23 : Nat) : Int), x, y]) (PO bd b σ k s o z (fun σ' r => oN σ' r ∧ RR bd b σ' (k + 1) (s + 6) o z)) := by
  rw [rc_X2_judge (by omega)]
  refine fin_O ?_
  have t_x := V.1
  have t60 := (G.n6 t_x.tg (by have := t_x.2; omega)).1
  unfold pc_X2_judge_0
  refine wg t_x.tg (fun z1_1 hz1_1 => ?_)
  have rz1_1 : inR z1_1 := hz1_1 ▸ G.ir _ _
  have t_z1_1 : oN σ z1_1 := hz1_1 ▸ G.n6 t_x.tg (by have := t_x.2; omega)
  refine sf_if (fun c2 => ?_) (fun c2 => ?_)
  · refine wg t_x.tg (fun z3_3 hz3_3 => ?_)
    have rz3_3 : inR z3_3 := hz3_3 ▸ G.ir _ _
    have t_z3_3 : oN σ z3_3 := hz3_3 ▸ G.n6 t_x.tg (by have := t_x.2; omega)
    have S3 : TS b σ h z3_3 n1 := hz3_3 ▸ S1
    refine wtN (G.tg 23) ?_
    refine cl_O (hJ (k := k + 0 + 3 * sg g N) (s := s + 0 + 25 * sg g N) (o := o) (z := z) (n := n1) (by omega) G (R.le (by omega) (by omega) (by omega) (by omega)) S3 (by first | assumption | exact ref_R G R t_z3_3.tg (by decide)) t_y (by first | assumption | exact ref_R G R t_y.tg (by decide))) (Ext.refl (b := b) (σ := σ)) (by omega) (by omega) (by omega) (by omega) (fun s4 z6_5 rz6_5 Gs4 es4 Rs4 fz6_5 => ?_)
    obtain ⟨t_z6_5, Qz6_5⟩ := fz6_5
    have E6 := (Ext.refl (b := b) (σ := σ)).trans es4
    have t_x := t_x.up es4
    have t_y := t_y.up es4
    refine wg t_x.tg (fun z7_7 hz7_7 => ?_)
    have rz7_7 : inR z7_7 := hz7_7 ▸ Gs4.ir _ _
    have fz7_7 := Gs4.kd t_x.tg
    rw [hz7_7] at fz7_7
    have k7 := t_x.2
    refine sf_if (fun c8 => ?_) (fun c8 => ?_)
    · refine wg t_x.tg (fun z9_9 hz9_9 => ?_)
      have rz9_9 : inR z9_9 := hz9_9 ▸ Gs4.ir _ _
      have fz9_9 := Gs4.kd t_x.tg
      rw [hz9_9] at fz9_9
      have k9 := t_x.2
      refine sf_if (fun c10 => ?_) (fun c10 => ?_)
      · exfalso; omega
      · exact s_judge68 hJ hd V Sg rx ry _ (j := 0) (r := sg g N) Gs4 E6 (Qz6_5.le (by omega) (by omega) (by omega) (by omega)) rfl (by omega) rfl t_z6_5 (by first | assumption | exact ref_R Gs4 Qz6_5 t_z6_5.tg (by decide)) t_y (by have := V.2.1.2.2.2.1; rw [V.2.2] at this; omega)
    · exfalso; omega
  · have := hz1_1
    exfalso; omega
theorem s_judgeL {x y : Int} (hd : 10 ≤ d) (G : GG bd b σ) (R : RR bd b σ (k + 2) (s + 17) o z) (t_x : oN σ x) (h6 : c_pv σ x.toNat 6 < 0) (t_y : oS σ y) (ry : inR y) : sf (RC bd (d + 1) 66 σ [((b + 23 : Nat) : Int), x, y]) (PO bd b σ k s o z (fun σ' r => oN σ' r ∧ RR bd b σ' (k + 1) (s + 6) o z)) := by
  rw [rc_X2_judge (by omega)]
  refine fin_O ?_
  unfold pc_X2_judge_0
  refine wg t_x.tg (fun z1_1 hz1_1 => ?_)
  have rz1_1 : inR z1_1 := hz1_1 ▸ G.ir _ _
  refine sf_if (fun c2 => ?_) (fun c2 => ?_)
  · exfalso; omega
  · refine wtN (G.tg 23) ?_
    refine cl_O (s_judgeName (k := k) (s := s) (o := o) (z := z) (by omega) G (R.le (by omega) (by omega) (by omega) (by omega)) t_x h6 t_y (by first | assumption | exact ref_R G R t_y.tg (by decide))) (Ext.refl (b := b) (σ := σ)) (by omega) (by omega) (by omega) (by omega) (fun s3 z56_4 rz56_4 Gs3 es3 Rs3 fz56_4 => ?_)
    obtain ⟨t_z56_4, Qz56_4⟩ := fz56_4
    have E5 := (Ext.refl (b := b) (σ := σ)).trans es3
    exact ret_O (by first | assumption | exact ref_R Gs3 Qz56_4 t_z56_4.tg (by decide) | exact ⟨by omega, by omega⟩) Gs3 E5 (Qz56_4.le (by omega) (by omega) (by omega) (by omega)) (by first | trivial | assumption | omega | (dsimp only; omega) | exact ⟨by assumption, (Qz56_4.le (by omega) (by omega) (by omega) (by omega))⟩)
theorem s_judge : ∀ (d : Nat), ∀ {σ : CS} {k s o z h n : Nat} {x y : Int}, 120 + h ≤ d → GG bd b σ → RR bd b σ (k + 1 + 3 * n) (s + 6 + 25 * n) o z → TS b σ h x n → inR x → oS σ y → inR y → sf (RC bd d 66 σ [((b + 23 : Nat) : Int), x, y]) (PO bd b σ k s o z (fun σ' r => oN σ' r ∧ RR bd b σ' (k + 1) (s + 6) o z)) := by
  intro d
  induction d with
  | zero =>
    intro σ k s o z h n x y hd G R T rx ty ry
    omega
  | succ d hJ =>
    intro σ k s o z h n x y hd G R T rx ty ry
    cases h with
    | zero => exact T.elim
    | succ h =>
      obtain ⟨t1, t2, t3⟩ := T
      rcases t3 with q | ⟨q1, n1, n2, q2, q3, q4⟩ | ⟨N, q1, n1, g, q2, q3, q4⟩
      · exact s_judgeL (by omega) G (R.le (by omega) (by omega) (by omega) (by omega)) t1 q ty ry
      · exact s_judgeB hJ (by omega) G (R.le (by omega) (by omega) (by omega) (by omega)) q1 rx q2 q3 ty ry
      · exact s_judgeU hJ (by omega) G (R.le (by omega) (by omega) (by omega) (by omega)) q1 rx q2 q3 ty ry
theorem s_typeOf (hd : 204 ≤ d) (G : GG bd b σ) {n : Nat} (R : RR bd b σ (k + 1 + 3 * n) (s + 6 + 25 * n) o z) {x : Int} (T : TS b σ 82 x n) (rx : inR x) : sf (RC bd d 73 σ [((b + 23 : Nat) : Int), x]) (PO bd b σ k s o z (fun σ' r => oN σ' r ∧ RR bd b σ' (k + 1) (s + 6) o z)) := by
  obtain ⟨d, rfl⟩ : ∃ d0, d = d0 + 1 := ⟨d - 1, by omega⟩
  rw [rc_X2_typeOf (by omega)]
  refine fin_O ?_
  unfold pc_X2_typeOf_0
  refine wtN (G.tg 23) ?_
  refine cl_O (s_judge _ (by omega) G R T rx (oS.nul (by decide)) ⟨by decide, by decide⟩) Ext.refl (by omega) (by omega) (by omega) (by omega) (fun σ' r rr G' e' R' f' => ?_)
  exact ret_O rr G' e' (R'.le (by omega) (by omega) (by omega) (by omega)) f'
theorem s_sortAsType (hd : 204 ≤ d) (G : GG bd b σ) {n : Nat} (R : RR bd b σ (k + 1 + 3 * n) (s + 6 + 25 * n) o z) {x : Int} (T : TS b σ 82 x n) (rx : inR x) : sf (RC bd d 72 σ [((b + 23 : Nat) : Int), x]) (PO bd b σ k s o z (fun σ' r => RR bd b σ' (k + 1) (s + 6) o z)) := by
  obtain ⟨d, rfl⟩ : ∃ d0, d = d0 + 1 := ⟨d - 1, by omega⟩
  rw [rc_X2_sortAsType (by omega)]
  refine fin_O ?_
  unfold pc_X2_sortAsType_0
  refine wtN (G.tg 23) ?_
  refine cl_O (s_judge _ (by omega) G R T rx (oS.nul (by decide)) ⟨by decide, by decide⟩) Ext.refl (by omega) (by omega) (by omega) (by omega) (fun σ' r rr G' e' R' f' => ?_)
  refine wtN (G'.tg 23) ?_
  refine cl_O (s_jneededSort (by omega) G' f'.2 f'.1 (T.n.up e')) e' (by omega) (by omega) (by omega) (by omega) (fun σ2 r2 rr2 G2 e2 R2 f2 => ?_)
  exact ret_O rr2 G2 (e'.trans e2) (R2.le (by omega) (by omega) (by omega) (by omega)) f2.2
end CJ2
