section CTM
variable {bd : cBd} {b d : Nat} {σ σ1 σ2 σ3 : CS} {Q : CS → Nat → Int → Prop} {k s o z : Nat}
variable {e ρ : Nat}
theorem s_atomBegins (hd : 6 ≤ d) (G : GG bd b σ)  : sf (RC bd d 111 σ [((b + 19 : Nat) : Int)]) (PU σ (fun r => (r = 0 ∧ ¬ (c_pv σ (b + 19) 7 = 256 ∨ c_pv σ (b + 19) 7 = 40)) ∨ (r = 1 ∧ (c_pv σ (b + 19) 7 = 256 ∨ c_pv σ (b + 19) 7 = 40)))) := by
  obtain ⟨d, rfl⟩ : ∃ d0, d = d0 + 1 := ⟨d - 1, by omega⟩
  rw [rc_X7_atomBegins (by omega)]
  refine fin_U ?_
  unfold pc_X7_atomBegins_0
  refine wgN (G.tg 19) (fun z1_1 hz1_1 => ?_)
  have fz1_1 := G.nu 19 7
  have rz1_1 : inR z1_1 := hz1_1 ▸ G.ir _ _
  refine sf_if (fun c2 => ?_) (fun c2 => ?_)
  · refine sf_bo (by omega) ?_
    exact ret_U ⟨by decide, by decide⟩ (by first | trivial | assumption | omega | (dsimp only; omega))
  · refine wgN (G.tg 19) (fun z3_3 hz3_3 => ?_)
    have fz3_3 := G.nu 19 7
    have rz3_3 : inR z3_3 := hz3_3 ▸ G.ir _ _
    refine sf_if (fun c4 => ?_) (fun c4 => ?_)
    · refine sf_bo (by omega) ?_
      exact ret_U ⟨by decide, by decide⟩ (by first | trivial | assumption | omega | (dsimp only; omega))
    · refine sf_bo (by omega) ?_
      exact ret_U ⟨by decide, by decide⟩ (by first | trivial | assumption | omega | (dsimp only; omega))
theorem s_atom (hT : ∀ {σ : CS} {k s o z ρ δ : Nat} {x : Int}, x = (δ : Int) → 184 ≤ d + 4 * δ → δ ≤ 40 → GG bd b σ → RR bd b σ (k + 1 + 20 * ρ) (s + 6 + 150 * ρ) o (z + 3 * ρ) → rP b e σ ρ → sf (RC bd d 131 σ [((b + 19 : Nat) : Int), x]) (PO bd b σ k s o z (fun σ' r => ∃ ρ' n, rP b e σ' ρ' ∧ TS b σ' (2 * (41 - δ)) r n ∧ RR bd b σ' (k + 1 + 20 * ρ' + 3 * n) (s + 6 + 150 * ρ' + 25 * n) o (z + 3 * ρ')))) : ∀ {σ : CS} {k s o z ρ δ : Nat} {x : Int}, x = (δ : Int) → 181 ≤ (d + 1) + 4 * δ → δ ≤ 40 → (δ ≤ 39 ∨ c_pv σ (b + 19) 7 = 261) → GG bd b σ → RR bd b σ (k + 1 + 20 * ρ) (s + 6 + 150 * ρ) o (z + 3 * ρ) → rP b e σ ρ → sf (RC bd (d + 1) 110 σ [((b + 19 : Nat) : Int), x]) (PO bd b σ k s o z (fun σ' r => δ ≤ 39 ∧ ∃ ρ' n, rP b e σ' ρ' ∧ TS b σ' (2 * (40 - δ)) r n ∧ RR bd b σ' (k + 11 + 20 * ρ' + 3 * n) (s + 106 + 150 * ρ' + 25 * n) o (z + 3 * ρ'))) := by
  intro σ k s o z ρ δ x hx hd hδ hl G R P
  rw [rc_X7_atom (by omega)]
  refine fin_O ?_
  unfold pc_X7_atom_0
  refine wgN (G.tg 19) (fun z1_1 hz1_1 => ?_)
  have fz1_1 := G.nu 19 7
  have rz1_1 : inR z1_1 := hz1_1 ▸ G.ir _ _
  refine sf_if (fun c2 => ?_) (fun c2 => ?_)
  · refine wgN (G.tg 19) (fun z3_3 hz3_3 => ?_)
    have fz3_3 := G.nu 19 8
    have rz3_3 : inR z3_3 := hz3_3 ▸ G.ir _ _
    refine wtN (G.tg 19) ?_
    refine cl_Z (s_advance (k := k + 1 + 20 * ρ) (s := s + 6 + 150 * ρ) (o := o) (z := z + 0 + 3 * ρ) (by omega) G (R.le (by omega) (by omega) (by omega) (by omega)) P.1 (P.pos (by omega) (by omega))) (fun s4 z6_5 rz6_5 Gs4 es4 Rs4 fz6_5 => ?_)
    obtain ⟨ρz6_5, hρz6_5, Pz6_5⟩ := fz6_5
    subst hρz6_5
    have P := Pz6_5
    have E6 := (Ext.refl (b := b) (σ := σ)).trans es4
    refine wck ⟨by omega, by omega⟩ (fun z7_7 hz7_7 => ?_)
    refine wtN (Gs4.tg 19) ?_
    refine cl_O (hT (k := k + 20) (s := s + 150) (o := o) (z := z + 3) (ρ := ρz6_5) (δ := δ + 1) (by omega) (by omega) (by omega) Gs4 (Rs4.le (by omega) (by omega) (by omega) (by omega)) P) E6 (by omega) (by omega) (by omega) (by omega) (fun s8 z10_9 rz10_9 Gs8 es8 Rs8 fz10_9 => ?_)
    obtain ⟨ρz10_9, nz10_9, Pz10_9, Sz10_9, Qz10_9⟩ := fz10_9
    have P := Pz10_9
    have t_z10_9 := Sz10_9.n
    have E10 := E6.trans es8
    refine wtN (Gs8.tg 19) ?_
    refine cl_O (s_expect (k := k + 20 + 20 * ρz10_9 + 3 * nz10_9) (s := s + 150 + 150 * ρz10_9 + 25 * nz10_9) (o := o) (z := z + 3 + 3 * ρz10_9) (by omega) Gs8 (Qz10_9.le (by omega) (by omega) (by omega) (by omega)) P ⟨by omega, by omega⟩) E10 (by omega) (by omega) (by omega) (by omega) (fun s11 z13_12 rz13_12 Gs11 es11 Rs11 fz13_12 => ?_)
    obtain ⟨ρz13_12, hρz13_12, Pz13_12, Qz13_12⟩ := fz13_12
    subst hρz13_12
    have P := Pz13_12
    have E13 := E10.trans es11
    have t_z10_9 := t_z10_9.up es11
    have Sz10_9 := Sz10_9.up es11
    refine wp t_z10_9.tg (fun s14 ws14 => ?_)
    obtain ⟨Gs14, es14, Rs14, Fs14⟩ := P7 Gs11 Qz13_12 t_z10_9 ws14 (by first | assumption | exact inR_of _ | exact ⟨by omega, by omega⟩) (by omega)
    have P := P.fr (fun f _ => Fs14 _ _ (Or.inl (Gs11.ne 19 (by decide) (by rw [t_z10_9.tg.2]; decide)))) (fun f => Fs14 _ _ (Or.inl (Gs11.ne 20 (by decide) (by rw [t_z10_9.tg.2]; decide))))
    have E15 := E13.trans es14
    have t_z10_9 := t_z10_9.up es14
    have Sz10_9 := Sz10_9.up es14
    exact ret_O (by first | assumption | exact ref_R Gs14 Rs14 t_z10_9.tg (by decide) | exact ⟨by omega, by omega⟩) Gs14 E15 (Rs14.le (by omega) (by omega) (by omega) (by omega)) (by first | trivial | assumption | omega | (dsimp only; omega) | exact ⟨by omega, _, _, P, TS.mono (by assumption) (by omega), (Rs14.le (by omega) (by omega) (by omega) (by omega))⟩)
  · refine wtN (G.tg 19) ?_
    refine cl_O (s_takeName (k := k) (s := s) (o := o) (z := z) (by omega) G (R.le (by omega) (by omega) (by omega) (by omega)) P) (Ext.refl (b := b) (σ := σ)) (by omega) (by omega) (by omega) (by omega) (fun s16 z17_17 rz17_17 Gs16 es16 Rs16 fz17_17 => ?_)
    obtain ⟨ρz17_17, hρz17_17, Pz17_17, q6z17_17, k7z17_17, Qz17_17⟩ := fz17_17
    subst hρz17_17
    have P := Pz17_17
    have t_z17_17 := q6z17_17.1
    have Sz17_17 := TS.leaf (b := b) (h := 1) q6z17_17.1 q6z17_17.2 (by decide)
    have E18 := (Ext.refl (b := b) (σ := σ)).trans es16
    exact ret_O (by first | assumption | exact ref_R Gs16 Qz17_17 t_z17_17.tg (by decide) | exact ⟨by omega, by omega⟩) Gs16 E18 (Qz17_17.le (by omega) (by omega) (by omega) (by omega)) (by first | trivial | assumption | omega | (dsimp only; omega) | exact ⟨by omega, _, _, P, TS.mono (by assumption) (by omega), (Qz17_17.le (by omega) (by omega) (by omega) (by omega))⟩)
theorem s_binderR (hT : ∀ {σ : CS} {k s o z ρ δ : Nat} {x : Int}, x = (δ : Int) → 184 ≤ d + 4 * δ → δ ≤ 40 → GG bd b σ → RR bd b σ (k + 1 + 20 * ρ) (s + 6 + 150 * ρ) o (z + 3 * ρ) → rP b e σ ρ → sf (RC bd d 131 σ [((b + 19 : Nat) : Int), x]) (PO bd b σ k s o z (fun σ' r => ∃ ρ' n, rP b e σ' ρ' ∧ TS b σ' (2 * (41 - δ)) r n ∧ RR bd b σ' (k + 1 + 20 * ρ' + 3 * n) (s + 6 + 150 * ρ' + 25 * n) o (z + 3 * ρ')))) : ∀ {σ : CS} {k s o z ρ δ : Nat} {x : Int}, x = (δ : Int) → 181 ≤ (d + 1) + 4 * δ → δ ≤ 40 → δ ≤ 39 → (c_pv σ (b + 19) 7 = 92 ∨ c_pv σ (b + 19) 7 = 33 ∨ c_pv σ (b + 19) 7 = 7) → GG bd b σ → RR bd b σ (k + 1 + 20 * ρ) (s + 6 + 150 * ρ) o (z + 3 * ρ) → rP b e σ ρ → sf (RC bd (d + 1) 114 σ [((b + 19 : Nat) : Int), x]) (PO bd b σ k s o z (fun σ' r => ∃ ρ' n, rP b e σ' ρ' ∧ TS b σ' (2 * (40 - δ) + 1) r n ∧ RR bd b σ' (k + 1 + 20 * ρ' + 3 * n) (s + 6 + 150 * ρ' + 25 * n) o (z + 3 * ρ'))) := by
  intro σ k s o z ρ δ x hx hd hδ hl ht G R P
  rw [rc_X7_binder (by omega)]
  refine fin_O ?_
  unfold pc_X7_binder_0
  refine wgN (G.tg 19) (fun z1_1 hz1_1 => ?_)
  have fz1_1 := G.nu 19 8
  have rz1_1 : inR z1_1 := hz1_1 ▸ G.ir _ _
  refine wgN (G.tg 19) (fun z2_2 hz2_2 => ?_)
  have fz2_2 := G.nu 19 7
  have rz2_2 : inR z2_2 := hz2_2 ▸ G.ir _ _
  refine sf_if (fun c3 => ?_) (fun c3 => ?_)
  · refine sf_if (fun c4 => ?_) (fun c4 => ?_)
    · unfold pc_X7_binder_32
      refine wtN (G.tg 19) ?_
      refine cl_Z (s_advance (k := k + 1 + 20 * ρ) (s := s + 6 + 150 * ρ) (o := o) (z := z + 0 + 3 * ρ) (by omega) G (R.le (by omega) (by omega) (by omega) (by omega)) P.1 (P.pos (by omega) (by omega))) (fun s5 z3_6 rz3_6 Gs5 es5 Rs5 fz3_6 => ?_)
      obtain ⟨ρz3_6, hρz3_6, Pz3_6⟩ := fz3_6
      subst hρz3_6
      have P := Pz3_6
      have E7 := (Ext.refl (b := b) (σ := σ)).trans es5
      refine wtN (Gs5.tg 19) ?_
      refine cl_O (s_takeName (k := k + 20) (s := s + 150) (o := o) (z := z + 3) (by omega) Gs5 (Rs5.le (by omega) (by omega) (by omega) (by omega)) P) E7 (by omega) (by omega) (by omega) (by omega) (fun s8 z6_9 rz6_9 Gs8 es8 Rs8 fz6_9 => ?_)
      obtain ⟨ρz6_9, hρz6_9, Pz6_9, q6z6_9, k7z6_9, Qz6_9⟩ := fz6_9
      subst hρz6_9
      have P := Pz6_9
      have t_z6_9 := q6z6_9.1
      have Sz6_9 := TS.leaf (b := b) (h := 1) q6z6_9.1 q6z6_9.2 (by decide)
      have E10 := E7.trans es8
      refine sf_if (fun c11 => ?_) (fun c11 => ?_)
      · unfold pc_X7_binder_59
        refine wtN (Gs8.tg 19) ?_
        refine cl_O (s_expect (k := k + 39 + 20 * ρz6_9) (s := s + 289 + 150 * ρz6_9) (o := o) (z := z + 6 + 3 * ρz6_9) (by omega) Gs8 (Qz6_9.le (by omega) (by omega) (by omega) (by omega)) P ⟨by omega, by omega⟩) E10 (by omega) (by omega) (by omega) (by omega) (fun s12 z3_13 rz3_13 Gs12 es12 Rs12 fz3_13 => ?_)
        obtain ⟨ρz3_13, hρz3_13, Pz3_13, Qz3_13⟩ := fz3_13
        subst hρz3_13
        have P := Pz3_13
        have E14 := E10.trans es12
        have t_z6_9 := t_z6_9.up es12
        have Sz6_9 := Sz6_9.up es12
        refine wck ⟨by omega, by omega⟩ (fun z4_15 hz4_15 => ?_)
        refine wtN (Gs12.tg 19) ?_
        refine cl_O (hT (k := k + 59) (s := s + 439) (o := o) (z := z + 9) (ρ := ρz3_13) (δ := δ + 1) (by omega) (by omega) (by omega) Gs12 (Qz3_13.le (by omega) (by omega) (by omega) (by omega)) P) E14 (by omega) (by omega) (by omega) (by omega) (fun s16 z7_17 rz7_17 Gs16 es16 Rs16 fz7_17 => ?_)
        obtain ⟨ρz7_17, nz7_17, Pz7_17, Sz7_17, Qz7_17⟩ := fz7_17
        have P := Pz7_17
        have t_z7_17 := Sz7_17.n
        have E18 := E14.trans es16
        have t_z6_9 := t_z6_9.up es16
        have Sz6_9 := Sz6_9.up es16
        refine sf_if (fun c19 => ?_) (fun c19 => ?_)
        · unfold pc_X7_binder_85
          refine wtN (Gs16.tg 19) ?_
          refine cl_O (s_expect (k := k + 59 + 20 * ρz7_17 + 3 * nz7_17) (s := s + 439 + 150 * ρz7_17 + 25 * nz7_17) (o := o) (z := z + 9 + 3 * ρz7_17) (by omega) Gs16 (Qz7_17.le (by omega) (by omega) (by omega) (by omega)) P ⟨by omega, by omega⟩) E18 (by omega) (by omega) (by omega) (by omega) (fun s20 z3_21 rz3_21 Gs20 es20 Rs20 fz3_21 => ?_)
          obtain ⟨ρz3_21, hρz3_21, Pz3_21, Qz3_21⟩ := fz3_21
          subst hρz3_21
          have P := Pz3_21
          have E22 := E18.trans es20
          have t_z6_9 := t_z6_9.up es20
          have t_z7_17 := t_z7_17.up es20
          have Sz6_9 := Sz6_9.up es20
          have Sz7_17 := Sz7_17.up es20
          refine wtN (Gs20.tg 19) ?_
          refine cl_Z (s_newId (k := k + 80 + 3 * nz7_17 + 20 * ρz3_21) (s := s + 595 + 25 * nz7_17 + 150 * ρz3_21) (o := o) (z := z + 11 + 3 * ρz3_21) (by omega) Gs20 (Qz3_21.le (by omega) (by omega) (by omega) (by omega))) (fun s23 z6_24 rz6_24 Gs23 es23 Rs23 fz6_24 => ?_)
          obtain ⟨fz6_24, Fi_z6_24⟩ := fz6_24
          have P := P.fr (fun f hf => Fi_z6_24 _ _ (Or.inr hf)) (fun f => Fi_z6_24 _ _ (Or.inl (by omega)))
          have E25 := E22.trans es23
          have t_z6_9 := t_z6_9.up es23
          have t_z7_17 := t_z7_17.up es23
          have Sz6_9 := Sz6_9.up es23
          have Sz7_17 := Sz7_17.up es23
          refine wck ⟨by omega, by omega⟩ (fun z7_26 hz7_26 => ?_)
          refine wtN (Gs23.tg 19) ?_
          refine cl_O (hT (k := k + 79 + 3 * nz7_17) (s := s + 589 + 25 * nz7_17) (o := o) (z := z + 11) (ρ := ρz3_21) (δ := δ + 1) (by omega) (by omega) (by omega) Gs23 (Rs23.le (by omega) (by omega) (by omega) (by omega)) P) E25 (by omega) (by omega) (by omega) (by omega) (fun s27 z10_28 rz10_28 Gs27 es27 Rs27 fz10_28 => ?_)
          obtain ⟨ρz10_28, nz10_28, Pz10_28, Sz10_28, Qz10_28⟩ := fz10_28
          have P := Pz10_28
          have t_z10_28 := Sz10_28.n
          have E29 := E25.trans es27
          have t_z6_9 := t_z6_9.up es27
          have t_z7_17 := t_z7_17.up es27
          have Sz6_9 := Sz6_9.up es27
          have Sz7_17 := Sz7_17.up es27
          refine cl_Z (s_binder (k := k + 79 + 3 * nz7_17 + 20 * ρz10_28 + 3 * nz10_28) (s := s + 584 + 25 * nz7_17 + 150 * ρz10_28 + 25 * nz10_28) (o := o) (z := z + 11 + 3 * ρz10_28) (by omega) Gs27 (Qz10_28.le (by omega) (by omega) (by omega) (by omega)) ⟨by omega, by omega⟩ (by first | assumption | exact ⟨by omega, by omega⟩) (by omega) t_z7_17 (by first | assumption | exact ref_R Gs27 Qz10_28 t_z7_17.tg (by decide)) t_z10_28 (by first | assumption | exact ref_R Gs27 Qz10_28 t_z10_28.tg (by decide))) (fun s30 z13_31 rz13_31 Gs30 es30 Rs30 fz13_31 => ?_)
          obtain ⟨t_z13_31, v0_z13_31, v6_z13_31, v7_z13_31, Fn_z13_31⟩ := fz13_31
          have E32 := E29.trans es30
          have t_z6_9 := t_z6_9.up es30
          have Sz6_9 := Sz6_9.up es30
          have Sz7_17 := Sz7_17.up es30
          have Sz10_28 := Sz10_28.up es30
          have P := P.nw Gs27 Fn_z13_31
          have SB := TS.bind t_z13_31 v6_z13_31 v7_z13_31 Sz7_17 Sz10_28
          refine wp t_z13_31.tg (fun s33 ws33 => ?_)
          obtain ⟨Gs33, es33, Rs33, Fs33⟩ := P7 Gs30 Rs30 t_z13_31.n ws33 (by first | assumption | exact inR_of _ | exact ⟨by omega, by omega⟩) (by omega)
          have P := P.fr (fun f _ => Fs33 _ _ (Or.inl (Gs30.ne 19 (by decide) (by rw [t_z13_31.tg.2]; decide)))) (fun f => Fs33 _ _ (Or.inl (Gs30.ne 20 (by decide) (by rw [t_z13_31.tg.2]; decide))))
          have E34 := E32.trans es33
          have t_z6_9 := t_z6_9.up es33
          have t_z13_31 := t_z13_31.up es33
          have Sz6_9 := Sz6_9.up es33
          have Sz7_17 := Sz7_17.up es33
          have Sz10_28 := Sz10_28.up es33
          have SB := SB.up es33
          refine wp t_z13_31.tg (fun s35 ws35 => ?_)
          obtain ⟨Gs35, es35, Rs35, Fs35⟩ := P7 Gs33 Rs33 t_z13_31.n ws35 (by first | assumption | exact inR_of _ | exact ⟨by omega, by omega⟩) (by omega)
          have P := P.fr (fun f _ => Fs35 _ _ (Or.inl (Gs33.ne 19 (by decide) (by rw [t_z13_31.tg.2]; decide)))) (fun f => Fs35 _ _ (Or.inl (Gs33.ne 20 (by decide) (by rw [t_z13_31.tg.2]; decide))))
          have E36 := E34.trans es35
          have t_z6_9 := t_z6_9.up es35
          have t_z13_31 := t_z13_31.up es35
          have Sz6_9 := Sz6_9.up es35
          have Sz7_17 := Sz7_17.up es35
          have Sz10_28 := Sz10_28.up es35
          have SB := SB.up es35
          refine wg t_z6_9.tg (fun z16_37 hz16_37 => ?_)
          have rz16_37 : inR z16_37 := hz16_37 ▸ Gs35.ir _ _
          have fz16_37 := Gs35.n4 t_z6_9.tg
          rw [hz16_37] at fz16_37
          refine wp t_z13_31.tg (fun s38 ws38 => ?_)
          obtain ⟨Gs38, es38, Rs38, Fs38⟩ := P7 Gs35 Rs35 t_z13_31.n ws38 (by first | assumption | exact inR_of _ | exact ⟨by omega, by omega⟩) (by omega)
          have P := P.fr (fun f _ => Fs38 _ _ (Or.inl (Gs35.ne 19 (by decide) (by rw [t_z13_31.tg.2]; decide)))) (fun f => Fs38 _ _ (Or.inl (Gs35.ne 20 (by decide) (by rw [t_z13_31.tg.2]; decide))))
          have E39 := E36.trans es38
          have t_z6_9 := t_z6_9.up es38
          have t_z13_31 := t_z13_31.up es38
          have Sz6_9 := Sz6_9.up es38
          have Sz7_17 := Sz7_17.up es38
          have Sz10_28 := Sz10_28.up es38
          have SB := SB.up es38
          refine wg t_z6_9.tg (fun z18_40 hz18_40 => ?_)
          have rz18_40 : inR z18_40 := hz18_40 ▸ Gs38.ir _ _
          have fz18_40 := Gs38.n5 t_z6_9.tg
          rw [hz18_40] at fz18_40
          refine wp t_z13_31.tg (fun s41 ws41 => ?_)
          obtain ⟨Gs41, es41, Rs41, Fs41⟩ := P7 Gs38 Rs38 t_z13_31.n ws41 (by first | assumption | exact inR_of _ | exact ⟨by omega, by omega⟩) (by omega)
          have P := P.fr (fun f _ => Fs41 _ _ (Or.inl (Gs38.ne 19 (by decide) (by rw [t_z13_31.tg.2]; decide)))) (fun f => Fs41 _ _ (Or.inl (Gs38.ne 20 (by decide) (by rw [t_z13_31.tg.2]; decide))))
          have E42 := E39.trans es41
          have t_z13_31 := t_z13_31.up es41
          have Sz6_9 := Sz6_9.up es41
          have Sz7_17 := Sz7_17.up es41
          have Sz10_28 := Sz10_28.up es41
          have SB := SB.up es41
          exact ret_O (by first | assumption | exact ref_R Gs41 Rs41 t_z13_31.tg (by decide) | exact ⟨by omega, by omega⟩) Gs41 E42 (Rs41.le (by omega) (by omega) (by omega) (by omega)) (by first | trivial | assumption | omega | (dsimp only; omega) | exact ⟨_, _, P, TS.mono SB (by omega), (Rs41.le (by omega) (by omega) (by omega) (by omega))⟩)
        · unfold pc_X7_binder_85
          refine wtN (Gs16.tg 19) ?_
          refine cl_O (s_expect (k := k + 59 + 20 * ρz7_17 + 3 * nz7_17) (s := s + 439 + 150 * ρz7_17 + 25 * nz7_17) (o := o) (z := z + 9 + 3 * ρz7_17) (by omega) Gs16 (Qz7_17.le (by omega) (by omega) (by omega) (by omega)) P ⟨by omega, by omega⟩) E18 (by omega) (by omega) (by omega) (by omega) (fun s43 z3_44 rz3_44 Gs43 es43 Rs43 fz3_44 => ?_)
          obtain ⟨ρz3_44, hρz3_44, Pz3_44, Qz3_44⟩ := fz3_44
          subst hρz3_44
          have P := Pz3_44
          have E45 := E18.trans es43
          have t_z6_9 := t_z6_9.up es43
          have t_z7_17 := t_z7_17.up es43
          have Sz6_9 := Sz6_9.up es43
          have Sz7_17 := Sz7_17.up es43
          refine wtN (Gs43.tg 19) ?_
          refine cl_Z (s_newId (k := k + 80 + 3 * nz7_17 + 20 * ρz3_44) (s := s + 595 + 25 * nz7_17 + 150 * ρz3_44) (o := o) (z := z + 11 + 3 * ρz3_44) (by omega) Gs43 (Qz3_44.le (by omega) (by omega) (by omega) (by omega))) (fun s46 z6_47 rz6_47 Gs46 es46 Rs46 fz6_47 => ?_)
          obtain ⟨fz6_47, Fi_z6_47⟩ := fz6_47
          have P := P.fr (fun f hf => Fi_z6_47 _ _ (Or.inr hf)) (fun f => Fi_z6_47 _ _ (Or.inl (by omega)))
          have E48 := E45.trans es46
          have t_z6_9 := t_z6_9.up es46
          have t_z7_17 := t_z7_17.up es46
          have Sz6_9 := Sz6_9.up es46
          have Sz7_17 := Sz7_17.up es46
          refine wck ⟨by omega, by omega⟩ (fun z7_49 hz7_49 => ?_)
          refine wtN (Gs46.tg 19) ?_
          refine cl_O (hT (k := k + 79 + 3 * nz7_17) (s := s + 589 + 25 * nz7_17) (o := o) (z := z + 11) (ρ := ρz3_44) (δ := δ + 1) (by omega) (by omega) (by omega) Gs46 (Rs46.le (by omega) (by omega) (by omega) (by omega)) P) E48 (by omega) (by omega) (by omega) (by omega) (fun s50 z10_51 rz10_51 Gs50 es50 Rs50 fz10_51 => ?_)
          obtain ⟨ρz10_51, nz10_51, Pz10_51, Sz10_51, Qz10_51⟩ := fz10_51
          have P := Pz10_51
          have t_z10_51 := Sz10_51.n
          have E52 := E48.trans es50
          have t_z6_9 := t_z6_9.up es50
          have t_z7_17 := t_z7_17.up es50
          have Sz6_9 := Sz6_9.up es50
          have Sz7_17 := Sz7_17.up es50
          refine cl_Z (s_binder (k := k + 79 + 3 * nz7_17 + 20 * ρz10_51 + 3 * nz10_51) (s := s + 584 + 25 * nz7_17 + 150 * ρz10_51 + 25 * nz10_51) (o := o) (z := z + 11 + 3 * ρz10_51) (by omega) Gs50 (Qz10_51.le (by omega) (by omega) (by omega) (by omega)) ⟨by omega, by omega⟩ (by first | assumption | exact ⟨by omega, by omega⟩) (by omega) t_z7_17 (by first | assumption | exact ref_R Gs50 Qz10_51 t_z7_17.tg (by decide)) t_z10_51 (by first | assumption | exact ref_R Gs50 Qz10_51 t_z10_51.tg (by decide))) (fun s53 z13_54 rz13_54 Gs53 es53 Rs53 fz13_54 => ?_)
          obtain ⟨t_z13_54, v0_z13_54, v6_z13_54, v7_z13_54, Fn_z13_54⟩ := fz13_54
          have E55 := E52.trans es53
          have t_z6_9 := t_z6_9.up es53
          have Sz6_9 := Sz6_9.up es53
          have Sz7_17 := Sz7_17.up es53
          have Sz10_51 := Sz10_51.up es53
          have P := P.nw Gs50 Fn_z13_54
          have SB := TS.bind t_z13_54 v6_z13_54 v7_z13_54 Sz7_17 Sz10_51
          refine wp t_z13_54.tg (fun s56 ws56 => ?_)
          obtain ⟨Gs56, es56, Rs56, Fs56⟩ := P7 Gs53 Rs53 t_z13_54.n ws56 (by first | assumption | exact inR_of _ | exact ⟨by omega, by omega⟩) (by omega)
          have P := P.fr (fun f _ => Fs56 _ _ (Or.inl (Gs53.ne 19 (by decide) (by rw [t_z13_54.tg.2]; decide)))) (fun f => Fs56 _ _ (Or.inl (Gs53.ne 20 (by decide) (by rw [t_z13_54.tg.2]; decide))))
          have E57 := E55.trans es56
          have t_z6_9 := t_z6_9.up es56
          have t_z13_54 := t_z13_54.up es56
          have Sz6_9 := Sz6_9.up es56
          have Sz7_17 := Sz7_17.up es56
          have Sz10_51 := Sz10_51.up es56
          have SB := SB.up es56
          refine wp t_z13_54.tg (fun s58 ws58 => ?_)
          obtain ⟨Gs58, es58, Rs58, Fs58⟩ := P7 Gs56 Rs56 t_z13_54.n ws58 (by first | assumption | exact inR_of _ | exact ⟨by omega, by omega⟩) (by omega)
          have P := P.fr (fun f _ => Fs58 _ _ (Or.inl (Gs56.ne 19 (by decide) (by rw [t_z13_54.tg.2]; decide)))) (fun f => Fs58 _ _ (Or.inl (Gs56.ne 20 (by decide) (by rw [t_z13_54.tg.2]; decide))))
          have E59 := E57.trans es58
          have t_z6_9 := t_z6_9.up es58
          have t_z13_54 := t_z13_54.up es58
          have Sz6_9 := Sz6_9.up es58
          have Sz7_17 := Sz7_17.up es58
          have Sz10_51 := Sz10_51.up es58
          have SB := SB.up es58
          refine wg t_z6_9.tg (fun z16_60 hz16_60 => ?_)
          have rz16_60 : inR z16_60 := hz16_60 ▸ Gs58.ir _ _
          have fz16_60 := Gs58.n4 t_z6_9.tg
          rw [hz16_60] at fz16_60
          refine wp t_z13_54.tg (fun s61 ws61 => ?_)
          obtain ⟨Gs61, es61, Rs61, Fs61⟩ := P7 Gs58 Rs58 t_z13_54.n ws61 (by first | assumption | exact inR_of _ | exact ⟨by omega, by omega⟩) (by omega)
          have P := P.fr (fun f _ => Fs61 _ _ (Or.inl (Gs58.ne 19 (by decide) (by rw [t_z13_54.tg.2]; decide)))) (fun f => Fs61 _ _ (Or.inl (Gs58.ne 20 (by decide) (by rw [t_z13_54.tg.2]; decide))))
          have E62 := E59.trans es61
          have t_z6_9 := t_z6_9.up es61
          have t_z13_54 := t_z13_54.up es61
          have Sz6_9 := Sz6_9.up es61
          have Sz7_17 := Sz7_17.up es61
          have Sz10_51 := Sz10_51.up es61
          have SB := SB.up es61
          refine wg t_z6_9.tg (fun z18_63 hz18_63 => ?_)
          have rz18_63 : inR z18_63 := hz18_63 ▸ Gs61.ir _ _
          have fz18_63 := Gs61.n5 t_z6_9.tg
          rw [hz18_63] at fz18_63
          refine wp t_z13_54.tg (fun s64 ws64 => ?_)
          obtain ⟨Gs64, es64, Rs64, Fs64⟩ := P7 Gs61 Rs61 t_z13_54.n ws64 (by first | assumption | exact inR_of _ | exact ⟨by omega, by omega⟩) (by omega)
          have P := P.fr (fun f _ => Fs64 _ _ (Or.inl (Gs61.ne 19 (by decide) (by rw [t_z13_54.tg.2]; decide)))) (fun f => Fs64 _ _ (Or.inl (Gs61.ne 20 (by decide) (by rw [t_z13_54.tg.2]; decide))))
          have E65 := E62.trans es64
          have t_z13_54 := t_z13_54.up es64
          have Sz6_9 := Sz6_9.up es64
          have Sz7_17 := Sz7_17.up es64
          have Sz10_51 := Sz10_51.up es64
          have SB := SB.up es64
          exact ret_O (by first | assumption | exact ref_R Gs64 Rs64 t_z13_54.tg (by decide) | exact ⟨by omega, by omega⟩) Gs64 E65 (Rs64.le (by omega) (by omega) (by omega) (by omega)) (by first | trivial | assumption | omega | (dsimp only; omega) | exact ⟨_, _, P, TS.mono SB (by omega), (Rs64.le (by omega) (by omega) (by omega) (by omega))⟩)
      · unfold pc_X7_binder_59
        refine wtN (Gs8.tg 19) ?_
        refine cl_O (s_expect (k := k + 39 + 20 * ρz6_9) (s := s + 289 + 150 * ρz6_9) (o := o) (z := z + 6 + 3 * ρz6_9) (by omega) Gs8 (Qz6_9.le (by omega) (by omega) (by omega) (by omega)) P ⟨by omega, by omega⟩) E10 (by omega) (by omega) (by omega) (by omega) (fun s66 z3_67 rz3_67 Gs66 es66 Rs66 fz3_67 => ?_)
        obtain ⟨ρz3_67, hρz3_67, Pz3_67, Qz3_67⟩ := fz3_67
        subst hρz3_67
        have P := Pz3_67
        have E68 := E10.trans es66
        have t_z6_9 := t_z6_9.up es66
        have Sz6_9 := Sz6_9.up es66
        refine wck ⟨by omega, by omega⟩ (fun z4_69 hz4_69 => ?_)
        refine wtN (Gs66.tg 19) ?_
        refine cl_O (hT (k := k + 59) (s := s + 439) (o := o) (z := z + 9) (ρ := ρz3_67) (δ := δ + 1) (by omega) (by omega) (by omega) Gs66 (Qz3_67.le (by omega) (by omega) (by omega) (by omega)) P) E68 (by omega) (by omega) (by omega) (by omega) (fun s70 z7_71 rz7_71 Gs70 es70 Rs70 fz7_71 => ?_)
        obtain ⟨ρz7_71, nz7_71, Pz7_71, Sz7_71, Qz7_71⟩ := fz7_71
        have P := Pz7_71
        have t_z7_71 := Sz7_71.n
        have E72 := E68.trans es70
        have t_z6_9 := t_z6_9.up es70
        have Sz6_9 := Sz6_9.up es70
        refine sf_if (fun c73 => ?_) (fun c73 => ?_)
        · unfold pc_X7_binder_85
          refine wtN (Gs70.tg 19) ?_
          refine cl_O (s_expect (k := k + 59 + 20 * ρz7_71 + 3 * nz7_71) (s := s + 439 + 150 * ρz7_71 + 25 * nz7_71) (o := o) (z := z + 9 + 3 * ρz7_71) (by omega) Gs70 (Qz7_71.le (by omega) (by omega) (by omega) (by omega)) P ⟨by omega, by omega⟩) E72 (by omega) (by omega) (by omega) (by omega) (fun s74 z3_75 rz3_75 Gs74 es74 Rs74 fz3_75 => ?_)
          obtain ⟨ρz3_75, hρz3_75, Pz3_75, Qz3_75⟩ := fz3_75
          subst hρz3_75
          have P := Pz3_75
          have E76 := E72.trans es74
          have t_z6_9 := t_z6_9.up es74
          have t_z7_71 := t_z7_71.up es74
          have Sz6_9 := Sz6_9.up es74
          have Sz7_71 := Sz7_71.up es74
          refine wtN (Gs74.tg 19) ?_
          refine cl_Z (s_newId (k := k + 80 + 3 * nz7_71 + 20 * ρz3_75) (s := s + 595 + 25 * nz7_71 + 150 * ρz3_75) (o := o) (z := z + 11 + 3 * ρz3_75) (by omega) Gs74 (Qz3_75.le (by omega) (by omega) (by omega) (by omega))) (fun s77 z6_78 rz6_78 Gs77 es77 Rs77 fz6_78 => ?_)
          obtain ⟨fz6_78, Fi_z6_78⟩ := fz6_78
          have P := P.fr (fun f hf => Fi_z6_78 _ _ (Or.inr hf)) (fun f => Fi_z6_78 _ _ (Or.inl (by omega)))
          have E79 := E76.trans es77
          have t_z6_9 := t_z6_9.up es77
          have t_z7_71 := t_z7_71.up es77
          have Sz6_9 := Sz6_9.up es77
          have Sz7_71 := Sz7_71.up es77
          refine wck ⟨by omega, by omega⟩ (fun z7_80 hz7_80 => ?_)
          refine wtN (Gs77.tg 19) ?_
          refine cl_O (hT (k := k + 79 + 3 * nz7_71) (s := s + 589 + 25 * nz7_71) (o := o) (z := z + 11) (ρ := ρz3_75) (δ := δ + 1) (by omega) (by omega) (by omega) Gs77 (Rs77.le (by omega) (by omega) (by omega) (by omega)) P) E79 (by omega) (by omega) (by omega) (by omega) (fun s81 z10_82 rz10_82 Gs81 es81 Rs81 fz10_82 => ?_)
          obtain ⟨ρz10_82, nz10_82, Pz10_82, Sz10_82, Qz10_82⟩ := fz10_82
          have P := Pz10_82
          have t_z10_82 := Sz10_82.n
          have E83 := E79.trans es81
          have t_z6_9 := t_z6_9.up es81
          have t_z7_71 := t_z7_71.up es81
          have Sz6_9 := Sz6_9.up es81
          have Sz7_71 := Sz7_71.up es81
          refine cl_Z (s_binder (k := k + 79 + 3 * nz7_71 + 20 * ρz10_82 + 3 * nz10_82) (s := s + 584 + 25 * nz7_71 + 150 * ρz10_82 + 25 * nz10_82) (o := o) (z := z + 11 + 3 * ρz10_82) (by omega) Gs81 (Qz10_82.le (by omega) (by omega) (by omega) (by omega)) ⟨by omega, by omega⟩ (by first | assumption | exact ⟨by omega, by omega⟩) (by omega) t_z7_71 (by first | assumption | exact ref_R Gs81 Qz10_82 t_z7_71.tg (by decide)) t_z10_82 (by first | assumption | exact ref_R Gs81 Qz10_82 t_z10_82.tg (by decide))) (fun s84 z13_85 rz13_85 Gs84 es84 Rs84 fz13_85 => ?_)
          obtain ⟨t_z13_85, v0_z13_85, v6_z13_85, v7_z13_85, Fn_z13_85⟩ := fz13_85
          have E86 := E83.trans es84
          have t_z6_9 := t_z6_9.up es84
          have Sz6_9 := Sz6_9.up es84
          have Sz7_71 := Sz7_71.up es84
          have Sz10_82 := Sz10_82.up es84
          have P := P.nw Gs81 Fn_z13_85
          have SB := TS.bind t_z13_85 v6_z13_85 v7_z13_85 Sz7_71 Sz10_82
          refine wp t_z13_85.tg (fun s87 ws87 => ?_)
          obtain ⟨Gs87, es87, Rs87, Fs87⟩ := P7 Gs84 Rs84 t_z13_85.n ws87 (by first | assumption | exact inR_of _ | exact ⟨by omega, by omega⟩) (by omega)
          have P := P.fr (fun f _ => Fs87 _ _ (Or.inl (Gs84.ne 19 (by decide) (by rw [t_z13_85.tg.2]; decide)))) (fun f => Fs87 _ _ (Or.inl (Gs84.ne 20 (by decide) (by rw [t_z13_85.tg.2]; decide))))
          have E88 := E86.trans es87
          have t_z6_9 := t_z6_9.up es87
          have t_z13_85 := t_z13_85.up es87
          have Sz6_9 := Sz6_9.up es87
          have Sz7_71 := Sz7_71.up es87
          have Sz10_82 := Sz10_82.up es87
          have SB := SB.up es87
          refine wp t_z13_85.tg (fun s89 ws89 => ?_)
          obtain ⟨Gs89, es89, Rs89, Fs89⟩ := P7 Gs87 Rs87 t_z13_85.n ws89 (by first | assumption | exact inR_of _ | exact ⟨by omega, by omega⟩) (by omega)
          have P := P.fr (fun f _ => Fs89 _ _ (Or.inl (Gs87.ne 19 (by decide) (by rw [t_z13_85.tg.2]; decide)))) (fun f => Fs89 _ _ (Or.inl (Gs87.ne 20 (by decide) (by rw [t_z13_85.tg.2]; decide))))
          have E90 := E88.trans es89
          have t_z6_9 := t_z6_9.up es89
          have t_z13_85 := t_z13_85.up es89
          have Sz6_9 := Sz6_9.up es89
          have Sz7_71 := Sz7_71.up es89
          have Sz10_82 := Sz10_82.up es89
          have SB := SB.up es89
          refine wg t_z6_9.tg (fun z16_91 hz16_91 => ?_)
          have rz16_91 : inR z16_91 := hz16_91 ▸ Gs89.ir _ _
          have fz16_91 := Gs89.n4 t_z6_9.tg
          rw [hz16_91] at fz16_91
          refine wp t_z13_85.tg (fun s92 ws92 => ?_)
          obtain ⟨Gs92, es92, Rs92, Fs92⟩ := P7 Gs89 Rs89 t_z13_85.n ws92 (by first | assumption | exact inR_of _ | exact ⟨by omega, by omega⟩) (by omega)
          have P := P.fr (fun f _ => Fs92 _ _ (Or.inl (Gs89.ne 19 (by decide) (by rw [t_z13_85.tg.2]; decide)))) (fun f => Fs92 _ _ (Or.inl (Gs89.ne 20 (by decide) (by rw [t_z13_85.tg.2]; decide))))
          have E93 := E90.trans es92
          have t_z6_9 := t_z6_9.up es92
          have t_z13_85 := t_z13_85.up es92
          have Sz6_9 := Sz6_9.up es92
          have Sz7_71 := Sz7_71.up es92
          have Sz10_82 := Sz10_82.up es92
          have SB := SB.up es92
          refine wg t_z6_9.tg (fun z18_94 hz18_94 => ?_)
          have rz18_94 : inR z18_94 := hz18_94 ▸ Gs92.ir _ _
          have fz18_94 := Gs92.n5 t_z6_9.tg
          rw [hz18_94] at fz18_94
          refine wp t_z13_85.tg (fun s95 ws95 => ?_)
          obtain ⟨Gs95, es95, Rs95, Fs95⟩ := P7 Gs92 Rs92 t_z13_85.n ws95 (by first | assumption | exact inR_of _ | exact ⟨by omega, by omega⟩) (by omega)
          have P := P.fr (fun f _ => Fs95 _ _ (Or.inl (Gs92.ne 19 (by decide) (by rw [t_z13_85.tg.2]; decide)))) (fun f => Fs95 _ _ (Or.inl (Gs92.ne 20 (by decide) (by rw [t_z13_85.tg.2]; decide))))
          have E96 := E93.trans es95
          have t_z13_85 := t_z13_85.up es95
          have Sz6_9 := Sz6_9.up es95
          have Sz7_71 := Sz7_71.up es95
          have Sz10_82 := Sz10_82.up es95
          have SB := SB.up es95
          exact ret_O (by first | assumption | exact ref_R Gs95 Rs95 t_z13_85.tg (by decide) | exact ⟨by omega, by omega⟩) Gs95 E96 (Rs95.le (by omega) (by omega) (by omega) (by omega)) (by first | trivial | assumption | omega | (dsimp only; omega) | exact ⟨_, _, P, TS.mono SB (by omega), (Rs95.le (by omega) (by omega) (by omega) (by omega))⟩)
        · unfold pc_X7_binder_85
          refine wtN (Gs70.tg 19) ?_
          refine cl_O (s_expect (k := k + 59 + 20 * ρz7_71 + 3 * nz7_71) (s := s + 439 + 150 * ρz7_71 + 25 * nz7_71) (o := o) (z := z + 9 + 3 * ρz7_71) (by omega) Gs70 (Qz7_71.le (by omega) (by omega) (by omega) (by omega)) P ⟨by omega, by omega⟩) E72 (by omega) (by omega) (by omega) (by omega) (fun s97 z3_98 rz3_98 Gs97 es97 Rs97 fz3_98 => ?_)
          obtain ⟨ρz3_98, hρz3_98, Pz3_98, Qz3_98⟩ := fz3_98
          subst hρz3_98
          have P := Pz3_98
          have E99 := E72.trans es97
          have t_z6_9 := t_z6_9.up es97
          have t_z7_71 := t_z7_71.up es97
          have Sz6_9 := Sz6_9.up es97
          have Sz7_71 := Sz7_71.up es97
          refine wtN (Gs97.tg 19) ?_
          refine cl_Z (s_newId (k := k + 80 + 3 * nz7_71 + 20 * ρz3_98) (s := s + 595 + 25 * nz7_71 + 150 * ρz3_98) (o := o) (z := z + 11 + 3 * ρz3_98) (by omega) Gs97 (Qz3_98.le (by omega) (by omega) (by omega) (by omega))) (fun s100 z6_101 rz6_101 Gs100 es100 Rs100 fz6_101 => ?_)
          obtain ⟨fz6_101, Fi_z6_101⟩ := fz6_101
          have P := P.fr (fun f hf => Fi_z6_101 _ _ (Or.inr hf)) (fun f => Fi_z6_101 _ _ (Or.inl (by omega)))
          have E102 := E99.trans es100
          have t_z6_9 := t_z6_9.up es100
          have t_z7_71 := t_z7_71.up es100
          have Sz6_9 := Sz6_9.up es100
          have Sz7_71 := Sz7_71.up es100
          refine wck ⟨by omega, by omega⟩ (fun z7_103 hz7_103 => ?_)
          refine wtN (Gs100.tg 19) ?_
          refine cl_O (hT (k := k + 79 + 3 * nz7_71) (s := s + 589 + 25 * nz7_71) (o := o) (z := z + 11) (ρ := ρz3_98) (δ := δ + 1) (by omega) (by omega) (by omega) Gs100 (Rs100.le (by omega) (by omega) (by omega) (by omega)) P) E102 (by omega) (by omega) (by omega) (by omega) (fun s104 z10_105 rz10_105 Gs104 es104 Rs104 fz10_105 => ?_)
          obtain ⟨ρz10_105, nz10_105, Pz10_105, Sz10_105, Qz10_105⟩ := fz10_105
          have P := Pz10_105
          have t_z10_105 := Sz10_105.n
          have E106 := E102.trans es104
          have t_z6_9 := t_z6_9.up es104
          have t_z7_71 := t_z7_71.up es104
          have Sz6_9 := Sz6_9.up es104
          have Sz7_71 := Sz7_71.up es104
          refine cl_Z (s_binder (k := k + 79 + 3 * nz7_71 + 20 * ρz10_105 + 3 * nz10_105) (s := s + 584 + 25 * nz7_71 + 150 * ρz10_105 + 25 * nz10_105) (o := o) (z := z + 11 + 3 * ρz10_105) (by omega) Gs104 (Qz10_105.le (by omega) (by omega) (by omega) (by omega)) ⟨by omega, by omega⟩ (by first | assumption | exact ⟨by omega, by omega⟩) (by omega) t_z7_71 (by first | assumption | exact ref_R Gs104 Qz10_105 t_z7_71.tg (by decide)) t_z10_105 (by first | assumption | exact ref_R Gs104 Qz10_105 t_z10_105.tg (by decide))) (fun s107 z13_108 rz13_108 Gs107 es107 Rs107 fz13_108 => ?_)
          obtain ⟨t_z13_108, v0_z13_108, v6_z13_108, v7_z13_108, Fn_z13_108⟩ := fz13_108
          have E109 := E106.trans es107
          have t_z6_9 := t_z6_9.up es107
          have Sz6_9 := Sz6_9.up es107
          have Sz7_71 := Sz7_71.up es107
          have Sz10_105 := Sz10_105.up es107
          have P := P.nw Gs104 Fn_z13_108
          have SB := TS.bind t_z13_108 v6_z13_108 v7_z13_108 Sz7_71 Sz10_105
          refine wp t_z13_108.tg (fun s110 ws110 => ?_)
          obtain ⟨Gs110, es110, Rs110, Fs110⟩ := P7 Gs107 Rs107 t_z13_108.n ws110 (by first | assumption | exact inR_of _ | exact ⟨by omega, by omega⟩) (by omega)
          have P := P.fr (fun f _ => Fs110 _ _ (Or.inl (Gs107.ne 19 (by decide) (by rw [t_z13_108.tg.2]; decide)))) (fun f => Fs110 _ _ (Or.inl (Gs107.ne 20 (by decide) (by rw [t_z13_108.tg.2]; decide))))
          have E111 := E109.trans es110
          have t_z6_9 := t_z6_9.up es110
          have t_z13_108 := t_z13_108.up es110
          have Sz6_9 := Sz6_9.up es110
          have Sz7_71 := Sz7_71.up es110
          have Sz10_105 := Sz10_105.up es110
          have SB := SB.up es110
          refine wp t_z13_108.tg (fun s112 ws112 => ?_)
          obtain ⟨Gs112, es112, Rs112, Fs112⟩ := P7 Gs110 Rs110 t_z13_108.n ws112 (by first | assumption | exact inR_of _ | exact ⟨by omega, by omega⟩) (by omega)
          have P := P.fr (fun f _ => Fs112 _ _ (Or.inl (Gs110.ne 19 (by decide) (by rw [t_z13_108.tg.2]; decide)))) (fun f => Fs112 _ _ (Or.inl (Gs110.ne 20 (by decide) (by rw [t_z13_108.tg.2]; decide))))
          have E113 := E111.trans es112
          have t_z6_9 := t_z6_9.up es112
          have t_z13_108 := t_z13_108.up es112
          have Sz6_9 := Sz6_9.up es112
          have Sz7_71 := Sz7_71.up es112
          have Sz10_105 := Sz10_105.up es112
          have SB := SB.up es112
          refine wg t_z6_9.tg (fun z16_114 hz16_114 => ?_)
          have rz16_114 : inR z16_114 := hz16_114 ▸ Gs112.ir _ _
          have fz16_114 := Gs112.n4 t_z6_9.tg
          rw [hz16_114] at fz16_114
          refine wp t_z13_108.tg (fun s115 ws115 => ?_)
          obtain ⟨Gs115, es115, Rs115, Fs115⟩ := P7 Gs112 Rs112 t_z13_108.n ws115 (by first | assumption | exact inR_of _ | exact ⟨by omega, by omega⟩) (by omega)
          have P := P.fr (fun f _ => Fs115 _ _ (Or.inl (Gs112.ne 19 (by decide) (by rw [t_z13_108.tg.2]; decide)))) (fun f => Fs115 _ _ (Or.inl (Gs112.ne 20 (by decide) (by rw [t_z13_108.tg.2]; decide))))
          have E116 := E113.trans es115
          have t_z6_9 := t_z6_9.up es115
          have t_z13_108 := t_z13_108.up es115
          have Sz6_9 := Sz6_9.up es115
          have Sz7_71 := Sz7_71.up es115
          have Sz10_105 := Sz10_105.up es115
          have SB := SB.up es115
          refine wg t_z6_9.tg (fun z18_117 hz18_117 => ?_)
          have rz18_117 : inR z18_117 := hz18_117 ▸ Gs115.ir _ _
          have fz18_117 := Gs115.n5 t_z6_9.tg
          rw [hz18_117] at fz18_117
          refine wp t_z13_108.tg (fun s118 ws118 => ?_)
          obtain ⟨Gs118, es118, Rs118, Fs118⟩ := P7 Gs115 Rs115 t_z13_108.n ws118 (by first | assumption | exact inR_of _ | exact ⟨by omega, by omega⟩) (by omega)
          have P := P.fr (fun f _ => Fs118 _ _ (Or.inl (Gs115.ne 19 (by decide) (by rw [t_z13_108.tg.2]; decide)))) (fun f => Fs118 _ _ (Or.inl (Gs115.ne 20 (by decide) (by rw [t_z13_108.tg.2]; decide))))
          have E119 := E116.trans es118
          have t_z13_108 := t_z13_108.up es118
          have Sz6_9 := Sz6_9.up es118
          have Sz7_71 := Sz7_71.up es118
          have Sz10_105 := Sz10_105.up es118
          have SB := SB.up es118
          exact ret_O (by first | assumption | exact ref_R Gs118 Rs118 t_z13_108.tg (by decide) | exact ⟨by omega, by omega⟩) Gs118 E119 (Rs118.le (by omega) (by omega) (by omega) (by omega)) (by first | trivial | assumption | omega | (dsimp only; omega) | exact ⟨_, _, P, TS.mono SB (by omega), (Rs118.le (by omega) (by omega) (by omega) (by omega))⟩)
    · unfold pc_X7_binder_32
      refine wtN (G.tg 19) ?_
      refine cl_Z (s_advance (k := k + 1 + 20 * ρ) (s := s + 6 + 150 * ρ) (o := o) (z := z + 0 + 3 * ρ) (by omega) G (R.le (by omega) (by omega) (by omega) (by omega)) P.1 (P.pos (by omega) (by omega))) (fun s120 z3_121 rz3_121 Gs120 es120 Rs120 fz3_121 => ?_)
      obtain ⟨ρz3_121, hρz3_121, Pz3_121⟩ := fz3_121
      subst hρz3_121
      have P := Pz3_121
      have E122 := (Ext.refl (b := b) (σ := σ)).trans es120
      refine wtN (Gs120.tg 19) ?_
      refine cl_O (s_takeName (k := k + 20) (s := s + 150) (o := o) (z := z + 3) (by omega) Gs120 (Rs120.le (by omega) (by omega) (by omega) (by omega)) P) E122 (by omega) (by omega) (by omega) (by omega) (fun s123 z6_124 rz6_124 Gs123 es123 Rs123 fz6_124 => ?_)
      obtain ⟨ρz6_124, hρz6_124, Pz6_124, q6z6_124, k7z6_124, Qz6_124⟩ := fz6_124
      subst hρz6_124
      have P := Pz6_124
      have t_z6_124 := q6z6_124.1
      have Sz6_124 := TS.leaf (b := b) (h := 1) q6z6_124.1 q6z6_124.2 (by decide)
      have E125 := E122.trans es123
      refine sf_if (fun c126 => ?_) (fun c126 => ?_)
      · unfold pc_X7_binder_59
        refine wtN (Gs123.tg 19) ?_
        refine cl_O (s_expect (k := k + 39 + 20 * ρz6_124) (s := s + 289 + 150 * ρz6_124) (o := o) (z := z + 6 + 3 * ρz6_124) (by omega) Gs123 (Qz6_124.le (by omega) (by omega) (by omega) (by omega)) P ⟨by omega, by omega⟩) E125 (by omega) (by omega) (by omega) (by omega) (fun s127 z3_128 rz3_128 Gs127 es127 Rs127 fz3_128 => ?_)
        obtain ⟨ρz3_128, hρz3_128, Pz3_128, Qz3_128⟩ := fz3_128
        subst hρz3_128
        have P := Pz3_128
        have E129 := E125.trans es127
        have t_z6_124 := t_z6_124.up es127
        have Sz6_124 := Sz6_124.up es127
        refine wck ⟨by omega, by omega⟩ (fun z4_130 hz4_130 => ?_)
        refine wtN (Gs127.tg 19) ?_
        refine cl_O (hT (k := k + 59) (s := s + 439) (o := o) (z := z + 9) (ρ := ρz3_128) (δ := δ + 1) (by omega) (by omega) (by omega) Gs127 (Qz3_128.le (by omega) (by omega) (by omega) (by omega)) P) E129 (by omega) (by omega) (by omega) (by omega) (fun s131 z7_132 rz7_132 Gs131 es131 Rs131 fz7_132 => ?_)
        obtain ⟨ρz7_132, nz7_132, Pz7_132, Sz7_132, Qz7_132⟩ := fz7_132
        have P := Pz7_132
        have t_z7_132 := Sz7_132.n
        have E133 := E129.trans es131
        have t_z6_124 := t_z6_124.up es131
        have Sz6_124 := Sz6_124.up es131
        refine sf_if (fun c134 => ?_) (fun c134 => ?_)
        · unfold pc_X7_binder_85
          refine wtN (Gs131.tg 19) ?_
          refine cl_O (s_expect (k := k + 59 + 20 * ρz7_132 + 3 * nz7_132) (s := s + 439 + 150 * ρz7_132 + 25 * nz7_132) (o := o) (z := z + 9 + 3 * ρz7_132) (by omega) Gs131 (Qz7_132.le (by omega) (by omega) (by omega) (by omega)) P ⟨by omega, by omega⟩) E133 (by omega) (by omega) (by omega) (by omega) (fun s135 z3_136 rz3_136 Gs135 es135 Rs135 fz3_136 => ?_)
          obtain ⟨ρz3_136, hρz3_136, Pz3_136, Qz3_136⟩ := fz3_136
          subst hρz3_136
          have P := Pz3_136
          have E137 := E133.trans es135
          have t_z6_124 := t_z6_124.up es135
          have t_z7_132 := t_z7_132.up es135
          have Sz6_124 := Sz6_124.up es135
          have Sz7_132 := Sz7_132.up es135
          refine wtN (Gs135.tg 19) ?_
          refine cl_Z (s_newId (k := k + 80 + 3 * nz7_132 + 20 * ρz3_136) (s := s + 595 + 25 * nz7_132 + 150 * ρz3_136) (o := o) (z := z + 11 + 3 * ρz3_136) (by omega) Gs135 (Qz3_136.le (by omega) (by omega) (by omega) (by omega))) (fun s138 z6_139 rz6_139 Gs138 es138 Rs138 fz6_139 => ?_)
          obtain ⟨fz6_139, Fi_z6_139⟩ := fz6_139
          have P := P.fr (fun f hf => Fi_z6_139 _ _ (Or.inr hf)) (fun f => Fi_z6_139 _ _ (Or.inl (by omega)))
          have E140 := E137.trans es138
          have t_z6_124 := t_z6_124.up es138
          have t_z7_132 := t_z7_132.up es138
          have Sz6_124 := Sz6_124.up es138
          have Sz7_132 := Sz7_132.up es138
          refine wck ⟨by omega, by omega⟩ (fun z7_141 hz7_141 => ?_)
          refine wtN (Gs138.tg 19) ?_
          refine cl_O (hT (k := k + 79 + 3 * nz7_132) (s := s + 589 + 25 * nz7_132) (o := o) (z := z + 11) (ρ := ρz3_136) (δ := δ + 1) (by omega) (by omega) (by omega) Gs138 (Rs138.le (by omega) (by omega) (by omega) (by omega)) P) E140 (by omega) (by omega) (by omega) (by omega) (fun s142 z10_143 rz10_143 Gs142 es142 Rs142 fz10_143 => ?_)
          obtain ⟨ρz10_143, nz10_143, Pz10_143, Sz10_143, Qz10_143⟩ := fz10_143
          have P := Pz10_143
          have t_z10_143 := Sz10_143.n
          have E144 := E140.trans es142
          have t_z6_124 := t_z6_124.up es142
          have t_z7_132 := t_z7_132.up es142
          have Sz6_124 := Sz6_124.up es142
          have Sz7_132 := Sz7_132.up es142
          refine cl_Z (s_binder (k := k + 79 + 3 * nz7_132 + 20 * ρz10_143 + 3 * nz10_143) (s := s + 584 + 25 * nz7_132 + 150 * ρz10_143 + 25 * nz10_143) (o := o) (z := z + 11 + 3 * ρz10_143) (by omega) Gs142 (Qz10_143.le (by omega) (by omega) (by omega) (by omega)) ⟨by omega, by omega⟩ (by first | assumption | exact ⟨by omega, by omega⟩) (by omega) t_z7_132 (by first | assumption | exact ref_R Gs142 Qz10_143 t_z7_132.tg (by decide)) t_z10_143 (by first | assumption | exact ref_R Gs142 Qz10_143 t_z10_143.tg (by decide))) (fun s145 z13_146 rz13_146 Gs145 es145 Rs145 fz13_146 => ?_)
          obtain ⟨t_z13_146, v0_z13_146, v6_z13_146, v7_z13_146, Fn_z13_146⟩ := fz13_146
          have E147 := E144.trans es145
          have t_z6_124 := t_z6_124.up es145
          have Sz6_124 := Sz6_124.up es145
          have Sz7_132 := Sz7_132.up es145
          have Sz10_143 := Sz10_143.up es145
          have P := P.nw Gs142 Fn_z13_146
          have SB := TS.bind t_z13_146 v6_z13_146 v7_z13_146 Sz7_132 Sz10_143
          refine wp t_z13_146.tg (fun s148 ws148 => ?_)
          obtain ⟨Gs148, es148, Rs148, Fs148⟩ := P7 Gs145 Rs145 t_z13_146.n ws148 (by first | assumption | exact inR_of _ | exact ⟨by omega, by omega⟩) (by omega)
          have P := P.fr (fun f _ => Fs148 _ _ (Or.inl (Gs145.ne 19 (by decide) (by rw [t_z13_146.tg.2]; decide)))) (fun f => Fs148 _ _ (Or.inl (Gs145.ne 20 (by decide) (by rw [t_z13_146.tg.2]; decide))))
          have E149 := E147.trans es148
          have t_z6_124 := t_z6_124.up es148
          have t_z13_146 := t_z13_146.up es148
          have Sz6_124 := Sz6_124.up es148
          have Sz7_132 := Sz7_132.up es148
          have Sz10_143 := Sz10_143.up es148
          have SB := SB.up es148
          refine wp t_z13_146.tg (fun s150 ws150 => ?_)
          obtain ⟨Gs150, es150, Rs150, Fs150⟩ := P7 Gs148 Rs148 t_z13_146.n ws150 (by first | assumption | exact inR_of _ | exact ⟨by omega, by omega⟩) (by omega)
          have P := P.fr (fun f _ => Fs150 _ _ (Or.inl (Gs148.ne 19 (by decide) (by rw [t_z13_146.tg.2]; decide)))) (fun f => Fs150 _ _ (Or.inl (Gs148.ne 20 (by decide) (by rw [t_z13_146.tg.2]; decide))))
          have E151 := E149.trans es150
          have t_z6_124 := t_z6_124.up es150
          have t_z13_146 := t_z13_146.up es150
          have Sz6_124 := Sz6_124.up es150
          have Sz7_132 := Sz7_132.up es150
          have Sz10_143 := Sz10_143.up es150
          have SB := SB.up es150
          refine wg t_z6_124.tg (fun z16_152 hz16_152 => ?_)
          have rz16_152 : inR z16_152 := hz16_152 ▸ Gs150.ir _ _
          have fz16_152 := Gs150.n4 t_z6_124.tg
          rw [hz16_152] at fz16_152
          refine wp t_z13_146.tg (fun s153 ws153 => ?_)
          obtain ⟨Gs153, es153, Rs153, Fs153⟩ := P7 Gs150 Rs150 t_z13_146.n ws153 (by first | assumption | exact inR_of _ | exact ⟨by omega, by omega⟩) (by omega)
          have P := P.fr (fun f _ => Fs153 _ _ (Or.inl (Gs150.ne 19 (by decide) (by rw [t_z13_146.tg.2]; decide)))) (fun f => Fs153 _ _ (Or.inl (Gs150.ne 20 (by decide) (by rw [t_z13_146.tg.2]; decide))))
          have E154 := E151.trans es153
          have t_z6_124 := t_z6_124.up es153
          have t_z13_146 := t_z13_146.up es153
          have Sz6_124 := Sz6_124.up es153
          have Sz7_132 := Sz7_132.up es153
          have Sz10_143 := Sz10_143.up es153
          have SB := SB.up es153
          refine wg t_z6_124.tg (fun z18_155 hz18_155 => ?_)
          have rz18_155 : inR z18_155 := hz18_155 ▸ Gs153.ir _ _
          have fz18_155 := Gs153.n5 t_z6_124.tg
          rw [hz18_155] at fz18_155
          refine wp t_z13_146.tg (fun s156 ws156 => ?_)
          obtain ⟨Gs156, es156, Rs156, Fs156⟩ := P7 Gs153 Rs153 t_z13_146.n ws156 (by first | assumption | exact inR_of _ | exact ⟨by omega, by omega⟩) (by omega)
          have P := P.fr (fun f _ => Fs156 _ _ (Or.inl (Gs153.ne 19 (by decide) (by rw [t_z13_146.tg.2]; decide)))) (fun f => Fs156 _ _ (Or.inl (Gs153.ne 20 (by decide) (by rw [t_z13_146.tg.2]; decide))))
          have E157 := E154.trans es156
          have t_z13_146 := t_z13_146.up es156
          have Sz6_124 := Sz6_124.up es156
          have Sz7_132 := Sz7_132.up es156
          have Sz10_143 := Sz10_143.up es156
          have SB := SB.up es156
          exact ret_O (by first | assumption | exact ref_R Gs156 Rs156 t_z13_146.tg (by decide) | exact ⟨by omega, by omega⟩) Gs156 E157 (Rs156.le (by omega) (by omega) (by omega) (by omega)) (by first | trivial | assumption | omega | (dsimp only; omega) | exact ⟨_, _, P, TS.mono SB (by omega), (Rs156.le (by omega) (by omega) (by omega) (by omega))⟩)
        · unfold pc_X7_binder_85
          refine wtN (Gs131.tg 19) ?_
          refine cl_O (s_expect (k := k + 59 + 20 * ρz7_132 + 3 * nz7_132) (s := s + 439 + 150 * ρz7_132 + 25 * nz7_132) (o := o) (z := z + 9 + 3 * ρz7_132) (by omega) Gs131 (Qz7_132.le (by omega) (by omega) (by omega) (by omega)) P ⟨by omega, by omega⟩) E133 (by omega) (by omega) (by omega) (by omega) (fun s158 z3_159 rz3_159 Gs158 es158 Rs158 fz3_159 => ?_)
          obtain ⟨ρz3_159, hρz3_159, Pz3_159, Qz3_159⟩ := fz3_159
          subst hρz3_159
          have P := Pz3_159
          have E160 := E133.trans es158
          have t_z6_124 := t_z6_124.up es158
          have t_z7_132 := t_z7_132.up es158
          have Sz6_124 := Sz6_124.up es158
          have Sz7_132 := Sz7_132.up es158
          refine wtN (Gs158.tg 19) ?_
          refine cl_Z (s_newId (k := k + 80 + 3 * nz7_132 + 20 * ρz3_159) (s := s + 595 + 25 * nz7_132 + 150 * ρz3_159) (o := o) (z := z + 11 + 3 * ρz3_159) (by omega) Gs158 (Qz3_159.le (by omega) (by omega) (by omega) (by omega))) (fun s161 z6_162 rz6_162 Gs161 es161 Rs161 fz6_162 => ?_)
          obtain ⟨fz6_162, Fi_z6_162⟩ := fz6_162
          have P := P.fr (fun f hf => Fi_z6_162 _ _ (Or.inr hf)) (fun f => Fi_z6_162 _ _ (Or.inl (by omega)))
          have E163 := E160.trans es161
          have t_z6_124 := t_z6_124.up es161
          have t_z7_132 := t_z7_132.up es161
          have Sz6_124 := Sz6_124.up es161
          have Sz7_132 := Sz7_132.up es161
          refine wck ⟨by omega, by omega⟩ (fun z7_164 hz7_164 => ?_)
          refine wtN (Gs161.tg 19) ?_
          refine cl_O (hT (k := k + 79 + 3 * nz7_132) (s := s + 589 + 25 * nz7_132) (o := o) (z := z + 11) (ρ := ρz3_159) (δ := δ + 1) (by omega) (by omega) (by omega) Gs161 (Rs161.le (by omega) (by omega) (by omega) (by omega)) P) E163 (by omega) (by omega) (by omega) (by omega) (fun s165 z10_166 rz10_166 Gs165 es165 Rs165 fz10_166 => ?_)
          obtain ⟨ρz10_166, nz10_166, Pz10_166, Sz10_166, Qz10_166⟩ := fz10_166
          have P := Pz10_166
          have t_z10_166 := Sz10_166.n
          have E167 := E163.trans es165
          have t_z6_124 := t_z6_124.up es165
          have t_z7_132 := t_z7_132.up es165
          have Sz6_124 := Sz6_124.up es165
          have Sz7_132 := Sz7_132.up es165
          refine cl_Z (s_binder (k := k + 79 + 3 * nz7_132 + 20 * ρz10_166 + 3 * nz10_166) (s := s + 584 + 25 * nz7_132 + 150 * ρz10_166 + 25 * nz10_166) (o := o) (z := z + 11 + 3 * ρz10_166) (by omega) Gs165 (Qz10_166.le (by omega) (by omega) (by omega) (by omega)) ⟨by omega, by omega⟩ (by first | assumption | exact ⟨by omega, by omega⟩) (by omega) t_z7_132 (by first | assumption | exact ref_R Gs165 Qz10_166 t_z7_132.tg (by decide)) t_z10_166 (by first | assumption | exact ref_R Gs165 Qz10_166 t_z10_166.tg (by decide))) (fun s168 z13_169 rz13_169 Gs168 es168 Rs168 fz13_169 => ?_)
          obtain ⟨t_z13_169, v0_z13_169, v6_z13_169, v7_z13_169, Fn_z13_169⟩ := fz13_169
          have E170 := E167.trans es168
          have t_z6_124 := t_z6_124.up es168
          have Sz6_124 := Sz6_124.up es168
          have Sz7_132 := Sz7_132.up es168
          have Sz10_166 := Sz10_166.up es168
          have P := P.nw Gs165 Fn_z13_169
          have SB := TS.bind t_z13_169 v6_z13_169 v7_z13_169 Sz7_132 Sz10_166
          refine wp t_z13_169.tg (fun s171 ws171 => ?_)
          obtain ⟨Gs171, es171, Rs171, Fs171⟩ := P7 Gs168 Rs168 t_z13_169.n ws171 (by first | assumption | exact inR_of _ | exact ⟨by omega, by omega⟩) (by omega)
          have P := P.fr (fun f _ => Fs171 _ _ (Or.inl (Gs168.ne 19 (by decide) (by rw [t_z13_169.tg.2]; decide)))) (fun f => Fs171 _ _ (Or.inl (Gs168.ne 20 (by decide) (by rw [t_z13_169.tg.2]; decide))))
          have E172 := E170.trans es171
          have t_z6_124 := t_z6_124.up es171
          have t_z13_169 := t_z13_169.up es171
          have Sz6_124 := Sz6_124.up es171
          have Sz7_132 := Sz7_132.up es171
          have Sz10_166 := Sz10_166.up es171
          have SB := SB.up es171
          refine wp t_z13_169.tg (fun s173 ws173 => ?_)
          obtain ⟨Gs173, es173, Rs173, Fs173⟩ := P7 Gs171 Rs171 t_z13_169.n ws173 (by first | assumption | exact inR_of _ | exact ⟨by omega, by omega⟩) (by omega)
          have P := P.fr (fun f _ => Fs173 _ _ (Or.inl (Gs171.ne 19 (by decide) (by rw [t_z13_169.tg.2]; decide)))) (fun f => Fs173 _ _ (Or.inl (Gs171.ne 20 (by decide) (by rw [t_z13_169.tg.2]; decide))))
          have E174 := E172.trans es173
          have t_z6_124 := t_z6_124.up es173
          have t_z13_169 := t_z13_169.up es173
          have Sz6_124 := Sz6_124.up es173
          have Sz7_132 := Sz7_132.up es173
          have Sz10_166 := Sz10_166.up es173
          have SB := SB.up es173
          refine wg t_z6_124.tg (fun z16_175 hz16_175 => ?_)
          have rz16_175 : inR z16_175 := hz16_175 ▸ Gs173.ir _ _
          have fz16_175 := Gs173.n4 t_z6_124.tg
          rw [hz16_175] at fz16_175
          refine wp t_z13_169.tg (fun s176 ws176 => ?_)
          obtain ⟨Gs176, es176, Rs176, Fs176⟩ := P7 Gs173 Rs173 t_z13_169.n ws176 (by first | assumption | exact inR_of _ | exact ⟨by omega, by omega⟩) (by omega)
          have P := P.fr (fun f _ => Fs176 _ _ (Or.inl (Gs173.ne 19 (by decide) (by rw [t_z13_169.tg.2]; decide)))) (fun f => Fs176 _ _ (Or.inl (Gs173.ne 20 (by decide) (by rw [t_z13_169.tg.2]; decide))))
          have E177 := E174.trans es176
          have t_z6_124 := t_z6_124.up es176
          have t_z13_169 := t_z13_169.up es176
          have Sz6_124 := Sz6_124.up es176
          have Sz7_132 := Sz7_132.up es176
          have Sz10_166 := Sz10_166.up es176
          have SB := SB.up es176
          refine wg t_z6_124.tg (fun z18_178 hz18_178 => ?_)
          have rz18_178 : inR z18_178 := hz18_178 ▸ Gs176.ir _ _
          have fz18_178 := Gs176.n5 t_z6_124.tg
          rw [hz18_178] at fz18_178
          refine wp t_z13_169.tg (fun s179 ws179 => ?_)
          obtain ⟨Gs179, es179, Rs179, Fs179⟩ := P7 Gs176 Rs176 t_z13_169.n ws179 (by first | assumption | exact inR_of _ | exact ⟨by omega, by omega⟩) (by omega)
          have P := P.fr (fun f _ => Fs179 _ _ (Or.inl (Gs176.ne 19 (by decide) (by rw [t_z13_169.tg.2]; decide)))) (fun f => Fs179 _ _ (Or.inl (Gs176.ne 20 (by decide) (by rw [t_z13_169.tg.2]; decide))))
          have E180 := E177.trans es179
          have t_z13_169 := t_z13_169.up es179
          have Sz6_124 := Sz6_124.up es179
          have Sz7_132 := Sz7_132.up es179
          have Sz10_166 := Sz10_166.up es179
          have SB := SB.up es179
          exact ret_O (by first | assumption | exact ref_R Gs179 Rs179 t_z13_169.tg (by decide) | exact ⟨by omega, by omega⟩) Gs179 E180 (Rs179.le (by omega) (by omega) (by omega) (by omega)) (by first | trivial | assumption | omega | (dsimp only; omega) | exact ⟨_, _, P, TS.mono SB (by omega), (Rs179.le (by omega) (by omega) (by omega) (by omega))⟩)
      · unfold pc_X7_binder_59
        refine wtN (Gs123.tg 19) ?_
        refine cl_O (s_expect (k := k + 39 + 20 * ρz6_124) (s := s + 289 + 150 * ρz6_124) (o := o) (z := z + 6 + 3 * ρz6_124) (by omega) Gs123 (Qz6_124.le (by omega) (by omega) (by omega) (by omega)) P ⟨by omega, by omega⟩) E125 (by omega) (by omega) (by omega) (by omega) (fun s181 z3_182 rz3_182 Gs181 es181 Rs181 fz3_182 => ?_)
        obtain ⟨ρz3_182, hρz3_182, Pz3_182, Qz3_182⟩ := fz3_182
        subst hρz3_182
        have P := Pz3_182
        have E183 := E125.trans es181
        have t_z6_124 := t_z6_124.up es181
        have Sz6_124 := Sz6_124.up es181
        refine wck ⟨by omega, by omega⟩ (fun z4_184 hz4_184 => ?_)
        refine wtN (Gs181.tg 19) ?_
        refine cl_O (hT (k := k + 59) (s := s + 439) (o := o) (z := z + 9) (ρ := ρz3_182) (δ := δ + 1) (by omega) (by omega) (by omega) Gs181 (Qz3_182.le (by omega) (by omega) (by omega) (by omega)) P) E183 (by omega) (by omega) (by omega) (by omega) (fun s185 z7_186 rz7_186 Gs185 es185 Rs185 fz7_186 => ?_)
        obtain ⟨ρz7_186, nz7_186, Pz7_186, Sz7_186, Qz7_186⟩ := fz7_186
        have P := Pz7_186
        have t_z7_186 := Sz7_186.n
        have E187 := E183.trans es185
        have t_z6_124 := t_z6_124.up es185
        have Sz6_124 := Sz6_124.up es185
        refine sf_if (fun c188 => ?_) (fun c188 => ?_)
        · unfold pc_X7_binder_85
          refine wtN (Gs185.tg 19) ?_
          refine cl_O (s_expect (k := k + 59 + 20 * ρz7_186 + 3 * nz7_186) (s := s + 439 + 150 * ρz7_186 + 25 * nz7_186) (o := o) (z := z + 9 + 3 * ρz7_186) (by omega) Gs185 (Qz7_186.le (by omega) (by omega) (by omega) (by omega)) P ⟨by omega, by omega⟩) E187 (by omega) (by omega) (by omega) (by omega) (fun s189 z3_190 rz3_190 Gs189 es189 Rs189 fz3_190 => ?_)
          obtain ⟨ρz3_190, hρz3_190, Pz3_190, Qz3_190⟩ := fz3_190
          subst hρz3_190
          have P := Pz3_190
          have E191 := E187.trans es189
          have t_z6_124 := t_z6_124.up es189
          have t_z7_186 := t_z7_186.up es189
          have Sz6_124 := Sz6_124.up es189
          have Sz7_186 := Sz7_186.up es189
          refine wtN (Gs189.tg 19) ?_
          refine cl_Z (s_newId (k := k + 80 + 3 * nz7_186 + 20 * ρz3_190) (s := s + 595 + 25 * nz7_186 + 150 * ρz3_190) (o := o) (z := z + 11 + 3 * ρz3_190) (by omega) Gs189 (Qz3_190.le (by omega) (by omega) (by omega) (by omega))) (fun s192 z6_193 rz6_193 Gs192 es192 Rs192 fz6_193 => ?_)
          obtain ⟨fz6_193, Fi_z6_193⟩ := fz6_193
          have P := P.fr (fun f hf => Fi_z6_193 _ _ (Or.inr hf)) (fun f => Fi_z6_193 _ _ (Or.inl (by omega)))
          have E194 := E191.trans es192
          have t_z6_124 := t_z6_124.up es192
          have t_z7_186 := t_z7_186.up es192
          have Sz6_124 := Sz6_124.up es192
          have Sz7_186 := Sz7_186.up es192
          refine wck ⟨by omega, by omega⟩ (fun z7_195 hz7_195 => ?_)
          refine wtN (Gs192.tg 19) ?_
          refine cl_O (hT (k := k + 79 + 3 * nz7_186) (s := s + 589 + 25 * nz7_186) (o := o) (z := z + 11) (ρ := ρz3_190) (δ := δ + 1) (by omega) (by omega) (by omega) Gs192 (Rs192.le (by omega) (by omega) (by omega) (by omega)) P) E194 (by omega) (by omega) (by omega) (by omega) (fun s196 z10_197 rz10_197 Gs196 es196 Rs196 fz10_197 => ?_)
          obtain ⟨ρz10_197, nz10_197, Pz10_197, Sz10_197, Qz10_197⟩ := fz10_197
          have P := Pz10_197
          have t_z10_197 := Sz10_197.n
          have E198 := E194.trans es196
          have t_z6_124 := t_z6_124.up es196
          have t_z7_186 := t_z7_186.up es196
          have Sz6_124 := Sz6_124.up es196
          have Sz7_186 := Sz7_186.up es196
          refine cl_Z (s_binder (k := k + 79 + 3 * nz7_186 + 20 * ρz10_197 + 3 * nz10_197) (s := s + 584 + 25 * nz7_186 + 150 * ρz10_197 + 25 * nz10_197) (o := o) (z := z + 11 + 3 * ρz10_197) (by omega) Gs196 (Qz10_197.le (by omega) (by omega) (by omega) (by omega)) ⟨by omega, by omega⟩ (by first | assumption | exact ⟨by omega, by omega⟩) (by omega) t_z7_186 (by first | assumption | exact ref_R Gs196 Qz10_197 t_z7_186.tg (by decide)) t_z10_197 (by first | assumption | exact ref_R Gs196 Qz10_197 t_z10_197.tg (by decide))) (fun s199 z13_200 rz13_200 Gs199 es199 Rs199 fz13_200 => ?_)
          obtain ⟨t_z13_200, v0_z13_200, v6_z13_200, v7_z13_200, Fn_z13_200⟩ := fz13_200
          have E201 := E198.trans es199
          have t_z6_124 := t_z6_124.up es199
          have Sz6_124 := Sz6_124.up es199
          have Sz7_186 := Sz7_186.up es199
          have Sz10_197 := Sz10_197.up es199
          have P := P.nw Gs196 Fn_z13_200
          have SB := TS.bind t_z13_200 v6_z13_200 v7_z13_200 Sz7_186 Sz10_197
          refine wp t_z13_200.tg (fun s202 ws202 => ?_)
          obtain ⟨Gs202, es202, Rs202, Fs202⟩ := P7 Gs199 Rs199 t_z13_200.n ws202 (by first | assumption | exact inR_of _ | exact ⟨by omega, by omega⟩) (by omega)
          have P := P.fr (fun f _ => Fs202 _ _ (Or.inl (Gs199.ne 19 (by decide) (by rw [t_z13_200.tg.2]; decide)))) (fun f => Fs202 _ _ (Or.inl (Gs199.ne 20 (by decide) (by rw [t_z13_200.tg.2]; decide))))
          have E203 := E201.trans es202
          have t_z6_124 := t_z6_124.up es202
          have t_z13_200 := t_z13_200.up es202
          have Sz6_124 := Sz6_124.up es202
          have Sz7_186 := Sz7_186.up es202
          have Sz10_197 := Sz10_197.up es202
          have SB := SB.up es202
          refine wp t_z13_200.tg (fun s204 ws204 => ?_)
          obtain ⟨Gs204, es204, Rs204, Fs204⟩ := P7 Gs202 Rs202 t_z13_200.n ws204 (by first | assumption | exact inR_of _ | exact ⟨by omega, by omega⟩) (by omega)
          have P := P.fr (fun f _ => Fs204 _ _ (Or.inl (Gs202.ne 19 (by decide) (by rw [t_z13_200.tg.2]; decide)))) (fun f => Fs204 _ _ (Or.inl (Gs202.ne 20 (by decide) (by rw [t_z13_200.tg.2]; decide))))
          have E205 := E203.trans es204
          have t_z6_124 := t_z6_124.up es204
          have t_z13_200 := t_z13_200.up es204
          have Sz6_124 := Sz6_124.up es204
          have Sz7_186 := Sz7_186.up es204
          have Sz10_197 := Sz10_197.up es204
          have SB := SB.up es204
          refine wg t_z6_124.tg (fun z16_206 hz16_206 => ?_)
          have rz16_206 : inR z16_206 := hz16_206 ▸ Gs204.ir _ _
          have fz16_206 := Gs204.n4 t_z6_124.tg
          rw [hz16_206] at fz16_206
          refine wp t_z13_200.tg (fun s207 ws207 => ?_)
          obtain ⟨Gs207, es207, Rs207, Fs207⟩ := P7 Gs204 Rs204 t_z13_200.n ws207 (by first | assumption | exact inR_of _ | exact ⟨by omega, by omega⟩) (by omega)
          have P := P.fr (fun f _ => Fs207 _ _ (Or.inl (Gs204.ne 19 (by decide) (by rw [t_z13_200.tg.2]; decide)))) (fun f => Fs207 _ _ (Or.inl (Gs204.ne 20 (by decide) (by rw [t_z13_200.tg.2]; decide))))
          have E208 := E205.trans es207
          have t_z6_124 := t_z6_124.up es207
          have t_z13_200 := t_z13_200.up es207
          have Sz6_124 := Sz6_124.up es207
          have Sz7_186 := Sz7_186.up es207
          have Sz10_197 := Sz10_197.up es207
          have SB := SB.up es207
          refine wg t_z6_124.tg (fun z18_209 hz18_209 => ?_)
          have rz18_209 : inR z18_209 := hz18_209 ▸ Gs207.ir _ _
          have fz18_209 := Gs207.n5 t_z6_124.tg
          rw [hz18_209] at fz18_209
          refine wp t_z13_200.tg (fun s210 ws210 => ?_)
          obtain ⟨Gs210, es210, Rs210, Fs210⟩ := P7 Gs207 Rs207 t_z13_200.n ws210 (by first | assumption | exact inR_of _ | exact ⟨by omega, by omega⟩) (by omega)
          have P := P.fr (fun f _ => Fs210 _ _ (Or.inl (Gs207.ne 19 (by decide) (by rw [t_z13_200.tg.2]; decide)))) (fun f => Fs210 _ _ (Or.inl (Gs207.ne 20 (by decide) (by rw [t_z13_200.tg.2]; decide))))
          have E211 := E208.trans es210
          have t_z13_200 := t_z13_200.up es210
          have Sz6_124 := Sz6_124.up es210
          have Sz7_186 := Sz7_186.up es210
          have Sz10_197 := Sz10_197.up es210
          have SB := SB.up es210
          exact ret_O (by first | assumption | exact ref_R Gs210 Rs210 t_z13_200.tg (by decide) | exact ⟨by omega, by omega⟩) Gs210 E211 (Rs210.le (by omega) (by omega) (by omega) (by omega)) (by first | trivial | assumption | omega | (dsimp only; omega) | exact ⟨_, _, P, TS.mono SB (by omega), (Rs210.le (by omega) (by omega) (by omega) (by omega))⟩)
        · unfold pc_X7_binder_85
          refine wtN (Gs185.tg 19) ?_
          refine cl_O (s_expect (k := k + 59 + 20 * ρz7_186 + 3 * nz7_186) (s := s + 439 + 150 * ρz7_186 + 25 * nz7_186) (o := o) (z := z + 9 + 3 * ρz7_186) (by omega) Gs185 (Qz7_186.le (by omega) (by omega) (by omega) (by omega)) P ⟨by omega, by omega⟩) E187 (by omega) (by omega) (by omega) (by omega) (fun s212 z3_213 rz3_213 Gs212 es212 Rs212 fz3_213 => ?_)
          obtain ⟨ρz3_213, hρz3_213, Pz3_213, Qz3_213⟩ := fz3_213
          subst hρz3_213
          have P := Pz3_213
          have E214 := E187.trans es212
          have t_z6_124 := t_z6_124.up es212
          have t_z7_186 := t_z7_186.up es212
          have Sz6_124 := Sz6_124.up es212
          have Sz7_186 := Sz7_186.up es212
          refine wtN (Gs212.tg 19) ?_
          refine cl_Z (s_newId (k := k + 80 + 3 * nz7_186 + 20 * ρz3_213) (s := s + 595 + 25 * nz7_186 + 150 * ρz3_213) (o := o) (z := z + 11 + 3 * ρz3_213) (by omega) Gs212 (Qz3_213.le (by omega) (by omega) (by omega) (by omega))) (fun s215 z6_216 rz6_216 Gs215 es215 Rs215 fz6_216 => ?_)
          obtain ⟨fz6_216, Fi_z6_216⟩ := fz6_216
          have P := P.fr (fun f hf => Fi_z6_216 _ _ (Or.inr hf)) (fun f => Fi_z6_216 _ _ (Or.inl (by omega)))
          have E217 := E214.trans es215
          have t_z6_124 := t_z6_124.up es215
          have t_z7_186 := t_z7_186.up es215
          have Sz6_124 := Sz6_124.up es215
          have Sz7_186 := Sz7_186.up es215
          refine wck ⟨by omega, by omega⟩ (fun z7_218 hz7_218 => ?_)
          refine wtN (Gs215.tg 19) ?_
          refine cl_O (hT (k := k + 79 + 3 * nz7_186) (s := s + 589 + 25 * nz7_186) (o := o) (z := z + 11) (ρ := ρz3_213) (δ := δ + 1) (by omega) (by omega) (by omega) Gs215 (Rs215.le (by omega) (by omega) (by omega) (by omega)) P) E217 (by omega) (by omega) (by omega) (by omega) (fun s219 z10_220 rz10_220 Gs219 es219 Rs219 fz10_220 => ?_)
          obtain ⟨ρz10_220, nz10_220, Pz10_220, Sz10_220, Qz10_220⟩ := fz10_220
          have P := Pz10_220
          have t_z10_220 := Sz10_220.n
          have E221 := E217.trans es219
          have t_z6_124 := t_z6_124.up es219
          have t_z7_186 := t_z7_186.up es219
          have Sz6_124 := Sz6_124.up es219
          have Sz7_186 := Sz7_186.up es219
          refine cl_Z (s_binder (k := k + 79 + 3 * nz7_186 + 20 * ρz10_220 + 3 * nz10_220) (s := s + 584 + 25 * nz7_186 + 150 * ρz10_220 + 25 * nz10_220) (o := o) (z := z + 11 + 3 * ρz10_220) (by omega) Gs219 (Qz10_220.le (by omega) (by omega) (by omega) (by omega)) ⟨by omega, by omega⟩ (by first | assumption | exact ⟨by omega, by omega⟩) (by omega) t_z7_186 (by first | assumption | exact ref_R Gs219 Qz10_220 t_z7_186.tg (by decide)) t_z10_220 (by first | assumption | exact ref_R Gs219 Qz10_220 t_z10_220.tg (by decide))) (fun s222 z13_223 rz13_223 Gs222 es222 Rs222 fz13_223 => ?_)
          obtain ⟨t_z13_223, v0_z13_223, v6_z13_223, v7_z13_223, Fn_z13_223⟩ := fz13_223
          have E224 := E221.trans es222
          have t_z6_124 := t_z6_124.up es222
          have Sz6_124 := Sz6_124.up es222
          have Sz7_186 := Sz7_186.up es222
          have Sz10_220 := Sz10_220.up es222
          have P := P.nw Gs219 Fn_z13_223
          have SB := TS.bind t_z13_223 v6_z13_223 v7_z13_223 Sz7_186 Sz10_220
          refine wp t_z13_223.tg (fun s225 ws225 => ?_)
          obtain ⟨Gs225, es225, Rs225, Fs225⟩ := P7 Gs222 Rs222 t_z13_223.n ws225 (by first | assumption | exact inR_of _ | exact ⟨by omega, by omega⟩) (by omega)
          have P := P.fr (fun f _ => Fs225 _ _ (Or.inl (Gs222.ne 19 (by decide) (by rw [t_z13_223.tg.2]; decide)))) (fun f => Fs225 _ _ (Or.inl (Gs222.ne 20 (by decide) (by rw [t_z13_223.tg.2]; decide))))
          have E226 := E224.trans es225
          have t_z6_124 := t_z6_124.up es225
          have t_z13_223 := t_z13_223.up es225
          have Sz6_124 := Sz6_124.up es225
          have Sz7_186 := Sz7_186.up es225
          have Sz10_220 := Sz10_220.up es225
          have SB := SB.up es225
          refine wp t_z13_223.tg (fun s227 ws227 => ?_)
          obtain ⟨Gs227, es227, Rs227, Fs227⟩ := P7 Gs225 Rs225 t_z13_223.n ws227 (by first | assumption | exact inR_of _ | exact ⟨by omega, by omega⟩) (by omega)
          have P := P.fr (fun f _ => Fs227 _ _ (Or.inl (Gs225.ne 19 (by decide) (by rw [t_z13_223.tg.2]; decide)))) (fun f => Fs227 _ _ (Or.inl (Gs225.ne 20 (by decide) (by rw [t_z13_223.tg.2]; decide))))
          have E228 := E226.trans es227
          have t_z6_124 := t_z6_124.up es227
          have t_z13_223 := t_z13_223.up es227
          have Sz6_124 := Sz6_124.up es227
          have Sz7_186 := Sz7_186.up es227
          have Sz10_220 := Sz10_220.up es227
          have SB := SB.up es227
          refine wg t_z6_124.tg (fun z16_229 hz16_229 => ?_)
          have rz16_229 : inR z16_229 := hz16_229 ▸ Gs227.ir _ _
          have fz16_229 := Gs227.n4 t_z6_124.tg
          rw [hz16_229] at fz16_229
          refine wp t_z13_223.tg (fun s230 ws230 => ?_)
          obtain ⟨Gs230, es230, Rs230, Fs230⟩ := P7 Gs227 Rs227 t_z13_223.n ws230 (by first | assumption | exact inR_of _ | exact ⟨by omega, by omega⟩) (by omega)
          have P := P.fr (fun f _ => Fs230 _ _ (Or.inl (Gs227.ne 19 (by decide) (by rw [t_z13_223.tg.2]; decide)))) (fun f => Fs230 _ _ (Or.inl (Gs227.ne 20 (by decide) (by rw [t_z13_223.tg.2]; decide))))
          have E231 := E228.trans es230
          have t_z6_124 := t_z6_124.up es230
          have t_z13_223 := t_z13_223.up es230
          have Sz6_124 := Sz6_124.up es230
          have Sz7_186 := Sz7_186.up es230
          have Sz10_220 := Sz10_220.up es230
          have SB := SB.up es230
          refine wg t_z6_124.tg (fun z18_232 hz18_232 => ?_)
          have rz18_232 : inR z18_232 := hz18_232 ▸ Gs230.ir _ _
          have fz18_232 := Gs230.n5 t_z6_124.tg
          rw [hz18_232] at fz18_232
          refine wp t_z13_223.tg (fun s233 ws233 => ?_)
          obtain ⟨Gs233, es233, Rs233, Fs233⟩ := P7 Gs230 Rs230 t_z13_223.n ws233 (by first | assumption | exact inR_of _ | exact ⟨by omega, by omega⟩) (by omega)
          have P := P.fr (fun f _ => Fs233 _ _ (Or.inl (Gs230.ne 19 (by decide) (by rw [t_z13_223.tg.2]; decide)))) (fun f => Fs233 _ _ (Or.inl (Gs230.ne 20 (by decide) (by rw [t_z13_223.tg.2]; decide))))
          have E234 := E231.trans es233
          have t_z13_223 := t_z13_223.up es233
          have Sz6_124 := Sz6_124.up es233
          have Sz7_186 := Sz7_186.up es233
          have Sz10_220 := Sz10_220.up es233
          have SB := SB.up es233
          exact ret_O (by first | assumption | exact ref_R Gs233 Rs233 t_z13_223.tg (by decide) | exact ⟨by omega, by omega⟩) Gs233 E234 (Rs233.le (by omega) (by omega) (by omega) (by omega)) (by first | trivial | assumption | omega | (dsimp only; omega) | exact ⟨_, _, P, TS.mono SB (by omega), (Rs233.le (by omega) (by omega) (by omega) (by omega))⟩)
  · unfold pc_X7_binder_32
    refine wtN (G.tg 19) ?_
    refine cl_Z (s_advance (k := k + 1 + 20 * ρ) (s := s + 6 + 150 * ρ) (o := o) (z := z + 0 + 3 * ρ) (by omega) G (R.le (by omega) (by omega) (by omega) (by omega)) P.1 (P.pos (by omega) (by omega))) (fun s235 z3_236 rz3_236 Gs235 es235 Rs235 fz3_236 => ?_)
    obtain ⟨ρz3_236, hρz3_236, Pz3_236⟩ := fz3_236
    subst hρz3_236
    have P := Pz3_236
    have E237 := (Ext.refl (b := b) (σ := σ)).trans es235
    refine wtN (Gs235.tg 19) ?_
    refine cl_O (s_takeName (k := k + 20) (s := s + 150) (o := o) (z := z + 3) (by omega) Gs235 (Rs235.le (by omega) (by omega) (by omega) (by omega)) P) E237 (by omega) (by omega) (by omega) (by omega) (fun s238 z6_239 rz6_239 Gs238 es238 Rs238 fz6_239 => ?_)
    obtain ⟨ρz6_239, hρz6_239, Pz6_239, q6z6_239, k7z6_239, Qz6_239⟩ := fz6_239
    subst hρz6_239
    have P := Pz6_239
    have t_z6_239 := q6z6_239.1
    have Sz6_239 := TS.leaf (b := b) (h := 1) q6z6_239.1 q6z6_239.2 (by decide)
    have E240 := E237.trans es238
    refine sf_if (fun c241 => ?_) (fun c241 => ?_)
    · unfold pc_X7_binder_59
      refine wtN (Gs238.tg 19) ?_
      refine cl_O (s_expect (k := k + 39 + 20 * ρz6_239) (s := s + 289 + 150 * ρz6_239) (o := o) (z := z + 6 + 3 * ρz6_239) (by omega) Gs238 (Qz6_239.le (by omega) (by omega) (by omega) (by omega)) P ⟨by omega, by omega⟩) E240 (by omega) (by omega) (by omega) (by omega) (fun s242 z3_243 rz3_243 Gs242 es242 Rs242 fz3_243 => ?_)
      obtain ⟨ρz3_243, hρz3_243, Pz3_243, Qz3_243⟩ := fz3_243
      subst hρz3_243
      have P := Pz3_243
      have E244 := E240.trans es242
      have t_z6_239 := t_z6_239.up es242
      have Sz6_239 := Sz6_239.up es242
      refine wck ⟨by omega, by omega⟩ (fun z4_245 hz4_245 => ?_)
      refine wtN (Gs242.tg 19) ?_
      refine cl_O (hT (k := k + 59) (s := s + 439) (o := o) (z := z + 9) (ρ := ρz3_243) (δ := δ + 1) (by omega) (by omega) (by omega) Gs242 (Qz3_243.le (by omega) (by omega) (by omega) (by omega)) P) E244 (by omega) (by omega) (by omega) (by omega) (fun s246 z7_247 rz7_247 Gs246 es246 Rs246 fz7_247 => ?_)
      obtain ⟨ρz7_247, nz7_247, Pz7_247, Sz7_247, Qz7_247⟩ := fz7_247
      have P := Pz7_247
      have t_z7_247 := Sz7_247.n
      have E248 := E244.trans es246
      have t_z6_239 := t_z6_239.up es246
      have Sz6_239 := Sz6_239.up es246
      refine sf_if (fun c249 => ?_) (fun c249 => ?_)
      · unfold pc_X7_binder_85
        refine wtN (Gs246.tg 19) ?_
        refine cl_O (s_expect (k := k + 59 + 20 * ρz7_247 + 3 * nz7_247) (s := s + 439 + 150 * ρz7_247 + 25 * nz7_247) (o := o) (z := z + 9 + 3 * ρz7_247) (by omega) Gs246 (Qz7_247.le (by omega) (by omega) (by omega) (by omega)) P ⟨by omega, by omega⟩) E248 (by omega) (by omega) (by omega) (by omega) (fun s250 z3_251 rz3_251 Gs250 es250 Rs250 fz3_251 => ?_)
        obtain ⟨ρz3_251, hρz3_251, Pz3_251, Qz3_251⟩ := fz3_251
        subst hρz3_251
        have P := Pz3_251
        have E252 := E248.trans es250
        have t_z6_239 := t_z6_239.up es250
        have t_z7_247 := t_z7_247.up es250
        have Sz6_239 := Sz6_239.up es250
        have Sz7_247 := Sz7_247.up es250
        refine wtN (Gs250.tg 19) ?_
        refine cl_Z (s_newId (k := k + 80 + 3 * nz7_247 + 20 * ρz3_251) (s := s + 595 + 25 * nz7_247 + 150 * ρz3_251) (o := o) (z := z + 11 + 3 * ρz3_251) (by omega) Gs250 (Qz3_251.le (by omega) (by omega) (by omega) (by omega))) (fun s253 z6_254 rz6_254 Gs253 es253 Rs253 fz6_254 => ?_)
        obtain ⟨fz6_254, Fi_z6_254⟩ := fz6_254
        have P := P.fr (fun f hf => Fi_z6_254 _ _ (Or.inr hf)) (fun f => Fi_z6_254 _ _ (Or.inl (by omega)))
        have E255 := E252.trans es253
        have t_z6_239 := t_z6_239.up es253
        have t_z7_247 := t_z7_247.up es253
        have Sz6_239 := Sz6_239.up es253
        have Sz7_247 := Sz7_247.up es253
        refine wck ⟨by omega, by omega⟩ (fun z7_256 hz7_256 => ?_)
        refine wtN (Gs253.tg 19) ?_
        refine cl_O (hT (k := k + 79 + 3 * nz7_247) (s := s + 589 + 25 * nz7_247) (o := o) (z := z + 11) (ρ := ρz3_251) (δ := δ + 1) (by omega) (by omega) (by omega) Gs253 (Rs253.le (by omega) (by omega) (by omega) (by omega)) P) E255 (by omega) (by omega) (by omega) (by omega) (fun s257 z10_258 rz10_258 Gs257 es257 Rs257 fz10_258 => ?_)
        obtain ⟨ρz10_258, nz10_258, Pz10_258, Sz10_258, Qz10_258⟩ := fz10_258
        have P := Pz10_258
        have t_z10_258 := Sz10_258.n
        have E259 := E255.trans es257
        have t_z6_239 := t_z6_239.up es257
        have t_z7_247 := t_z7_247.up es257
        have Sz6_239 := Sz6_239.up es257
        have Sz7_247 := Sz7_247.up es257
        refine cl_Z (s_binder (k := k + 79 + 3 * nz7_247 + 20 * ρz10_258 + 3 * nz10_258) (s := s + 584 + 25 * nz7_247 + 150 * ρz10_258 + 25 * nz10_258) (o := o) (z := z + 11 + 3 * ρz10_258) (by omega) Gs257 (Qz10_258.le (by omega) (by omega) (by omega) (by omega)) ⟨by omega, by omega⟩ (by first | assumption | exact ⟨by omega, by omega⟩) (by omega) t_z7_247 (by first | assumption | exact ref_R Gs257 Qz10_258 t_z7_247.tg (by decide)) t_z10_258 (by first | assumption | exact ref_R Gs257 Qz10_258 t_z10_258.tg (by decide))) (fun s260 z13_261 rz13_261 Gs260 es260 Rs260 fz13_261 => ?_)
        obtain ⟨t_z13_261, v0_z13_261, v6_z13_261, v7_z13_261, Fn_z13_261⟩ := fz13_261
        have E262 := E259.trans es260
        have t_z6_239 := t_z6_239.up es260
        have Sz6_239 := Sz6_239.up es260
        have Sz7_247 := Sz7_247.up es260
        have Sz10_258 := Sz10_258.up es260
        have P := P.nw Gs257 Fn_z13_261
        have SB := TS.bind t_z13_261 v6_z13_261 v7_z13_261 Sz7_247 Sz10_258
        refine wp t_z13_261.tg (fun s263 ws263 => ?_)
        obtain ⟨Gs263, es263, Rs263, Fs263⟩ := P7 Gs260 Rs260 t_z13_261.n ws263 (by first | assumption | exact inR_of _ | exact ⟨by omega, by omega⟩) (by omega)
        have P := P.fr (fun f _ => Fs263 _ _ (Or.inl (Gs260.ne 19 (by decide) (by rw [t_z13_261.tg.2]; decide)))) (fun f => Fs263 _ _ (Or.inl (Gs260.ne 20 (by decide) (by rw [t_z13_261.tg.2]; decide))))
        have E264 := E262.trans es263
        have t_z6_239 := t_z6_239.up es263
        have t_z13_261 := t_z13_261.up es263
        have Sz6_239 := Sz6_239.up es263
        have Sz7_247 := Sz7_247.up es263
        have Sz10_258 := Sz10_258.up es263
        have SB := SB.up es263
        refine wp t_z13_261.tg (fun s265 ws265 => ?_)
        obtain ⟨Gs265, es265, Rs265, Fs265⟩ := P7 Gs263 Rs263 t_z13_261.n ws265 (by first | assumption | exact inR_of _ | exact ⟨by omega, by omega⟩) (by omega)
        have P := P.fr (fun f _ => Fs265 _ _ (Or.inl (Gs263.ne 19 (by decide) (by rw [t_z13_261.tg.2]; decide)))) (fun f => Fs265 _ _ (Or.inl (Gs263.ne 20 (by decide) (by rw [t_z13_261.tg.2]; decide))))
        have E266 := E264.trans es265
        have t_z6_239 := t_z6_239.up es265
        have t_z13_261 := t_z13_261.up es265
        have Sz6_239 := Sz6_239.up es265
        have Sz7_247 := Sz7_247.up es265
        have Sz10_258 := Sz10_258.up es265
        have SB := SB.up es265
        refine wg t_z6_239.tg (fun z16_267 hz16_267 => ?_)
        have rz16_267 : inR z16_267 := hz16_267 ▸ Gs265.ir _ _
        have fz16_267 := Gs265.n4 t_z6_239.tg
        rw [hz16_267] at fz16_267
        refine wp t_z13_261.tg (fun s268 ws268 => ?_)
        obtain ⟨Gs268, es268, Rs268, Fs268⟩ := P7 Gs265 Rs265 t_z13_261.n ws268 (by first | assumption | exact inR_of _ | exact ⟨by omega, by omega⟩) (by omega)
        have P := P.fr (fun f _ => Fs268 _ _ (Or.inl (Gs265.ne 19 (by decide) (by rw [t_z13_261.tg.2]; decide)))) (fun f => Fs268 _ _ (Or.inl (Gs265.ne 20 (by decide) (by rw [t_z13_261.tg.2]; decide))))
        have E269 := E266.trans es268
        have t_z6_239 := t_z6_239.up es268
        have t_z13_261 := t_z13_261.up es268
        have Sz6_239 := Sz6_239.up es268
        have Sz7_247 := Sz7_247.up es268
        have Sz10_258 := Sz10_258.up es268
        have SB := SB.up es268
        refine wg t_z6_239.tg (fun z18_270 hz18_270 => ?_)
        have rz18_270 : inR z18_270 := hz18_270 ▸ Gs268.ir _ _
        have fz18_270 := Gs268.n5 t_z6_239.tg
        rw [hz18_270] at fz18_270
        refine wp t_z13_261.tg (fun s271 ws271 => ?_)
        obtain ⟨Gs271, es271, Rs271, Fs271⟩ := P7 Gs268 Rs268 t_z13_261.n ws271 (by first | assumption | exact inR_of _ | exact ⟨by omega, by omega⟩) (by omega)
        have P := P.fr (fun f _ => Fs271 _ _ (Or.inl (Gs268.ne 19 (by decide) (by rw [t_z13_261.tg.2]; decide)))) (fun f => Fs271 _ _ (Or.inl (Gs268.ne 20 (by decide) (by rw [t_z13_261.tg.2]; decide))))
        have E272 := E269.trans es271
        have t_z13_261 := t_z13_261.up es271
        have Sz6_239 := Sz6_239.up es271
        have Sz7_247 := Sz7_247.up es271
        have Sz10_258 := Sz10_258.up es271
        have SB := SB.up es271
        exact ret_O (by first | assumption | exact ref_R Gs271 Rs271 t_z13_261.tg (by decide) | exact ⟨by omega, by omega⟩) Gs271 E272 (Rs271.le (by omega) (by omega) (by omega) (by omega)) (by first | trivial | assumption | omega | (dsimp only; omega) | exact ⟨_, _, P, TS.mono SB (by omega), (Rs271.le (by omega) (by omega) (by omega) (by omega))⟩)
      · unfold pc_X7_binder_85
        refine wtN (Gs246.tg 19) ?_
        refine cl_O (s_expect (k := k + 59 + 20 * ρz7_247 + 3 * nz7_247) (s := s + 439 + 150 * ρz7_247 + 25 * nz7_247) (o := o) (z := z + 9 + 3 * ρz7_247) (by omega) Gs246 (Qz7_247.le (by omega) (by omega) (by omega) (by omega)) P ⟨by omega, by omega⟩) E248 (by omega) (by omega) (by omega) (by omega) (fun s273 z3_274 rz3_274 Gs273 es273 Rs273 fz3_274 => ?_)
        obtain ⟨ρz3_274, hρz3_274, Pz3_274, Qz3_274⟩ := fz3_274
        subst hρz3_274
        have P := Pz3_274
        have E275 := E248.trans es273
        have t_z6_239 := t_z6_239.up es273
        have t_z7_247 := t_z7_247.up es273
        have Sz6_239 := Sz6_239.up es273
        have Sz7_247 := Sz7_247.up es273
        refine wtN (Gs273.tg 19) ?_
        refine cl_Z (s_newId (k := k + 80 + 3 * nz7_247 + 20 * ρz3_274) (s := s + 595 + 25 * nz7_247 + 150 * ρz3_274) (o := o) (z := z + 11 + 3 * ρz3_274) (by omega) Gs273 (Qz3_274.le (by omega) (by omega) (by omega) (by omega))) (fun s276 z6_277 rz6_277 Gs276 es276 Rs276 fz6_277 => ?_)
        obtain ⟨fz6_277, Fi_z6_277⟩ := fz6_277
        have P := P.fr (fun f hf => Fi_z6_277 _ _ (Or.inr hf)) (fun f => Fi_z6_277 _ _ (Or.inl (by omega)))
        have E278 := E275.trans es276
        have t_z6_239 := t_z6_239.up es276
        have t_z7_247 := t_z7_247.up es276
        have Sz6_239 := Sz6_239.up es276
        have Sz7_247 := Sz7_247.up es276
        refine wck ⟨by omega, by omega⟩ (fun z7_279 hz7_279 => ?_)
        refine wtN (Gs276.tg 19) ?_
        refine cl_O (hT (k := k + 79 + 3 * nz7_247) (s := s + 589 + 25 * nz7_247) (o := o) (z := z + 11) (ρ := ρz3_274) (δ := δ + 1) (by omega) (by omega) (by omega) Gs276 (Rs276.le (by omega) (by omega) (by omega) (by omega)) P) E278 (by omega) (by omega) (by omega) (by omega) (fun s280 z10_281 rz10_281 Gs280 es280 Rs280 fz10_281 => ?_)
        obtain ⟨ρz10_281, nz10_281, Pz10_281, Sz10_281, Qz10_281⟩ := fz10_281
        have P := Pz10_281
        have t_z10_281 := Sz10_281.n
        have E282 := E278.trans es280
        have t_z6_239 := t_z6_239.up es280
        have t_z7_247 := t_z7_247.up es280
        have Sz6_239 := Sz6_239.up es280
        have Sz7_247 := Sz7_247.up es280
        refine cl_Z (s_binder (k := k + 79 + 3 * nz7_247 + 20 * ρz10_281 + 3 * nz10_281) (s := s + 584 + 25 * nz7_247 + 150 * ρz10_281 + 25 * nz10_281) (o := o) (z := z + 11 + 3 * ρz10_281) (by omega) Gs280 (Qz10_281.le (by omega) (by omega) (by omega) (by omega)) ⟨by omega, by omega⟩ (by first | assumption | exact ⟨by omega, by omega⟩) (by omega) t_z7_247 (by first | assumption | exact ref_R Gs280 Qz10_281 t_z7_247.tg (by decide)) t_z10_281 (by first | assumption | exact ref_R Gs280 Qz10_281 t_z10_281.tg (by decide))) (fun s283 z13_284 rz13_284 Gs283 es283 Rs283 fz13_284 => ?_)
        obtain ⟨t_z13_284, v0_z13_284, v6_z13_284, v7_z13_284, Fn_z13_284⟩ := fz13_284
        have E285 := E282.trans es283
        have t_z6_239 := t_z6_239.up es283
        have Sz6_239 := Sz6_239.up es283
        have Sz7_247 := Sz7_247.up es283
        have Sz10_281 := Sz10_281.up es283
        have P := P.nw Gs280 Fn_z13_284
        have SB := TS.bind t_z13_284 v6_z13_284 v7_z13_284 Sz7_247 Sz10_281
        refine wp t_z13_284.tg (fun s286 ws286 => ?_)
        obtain ⟨Gs286, es286, Rs286, Fs286⟩ := P7 Gs283 Rs283 t_z13_284.n ws286 (by first | assumption | exact inR_of _ | exact ⟨by omega, by omega⟩) (by omega)
        have P := P.fr (fun f _ => Fs286 _ _ (Or.inl (Gs283.ne 19 (by decide) (by rw [t_z13_284.tg.2]; decide)))) (fun f => Fs286 _ _ (Or.inl (Gs283.ne 20 (by decide) (by rw [t_z13_284.tg.2]; decide))))
        have E287 := E285.trans es286
        have t_z6_239 := t_z6_239.up es286
        have t_z13_284 := t_z13_284.up es286
        have Sz6_239 := Sz6_239.up es286
        have Sz7_247 := Sz7_247.up es286
        have Sz10_281 := Sz10_281.up es286
        have SB := SB.up es286
        refine wp t_z13_284.tg (fun s288 ws288 => ?_)
        obtain ⟨Gs288, es288, Rs288, Fs288⟩ := P7 Gs286 Rs286 t_z13_284.n ws288 (by first | assumption | exact inR_of _ | exact ⟨by omega, by omega⟩) (by omega)
        have P := P.fr (fun f _ => Fs288 _ _ (Or.inl (Gs286.ne 19 (by decide) (by rw [t_z13_284.tg.2]; decide)))) (fun f => Fs288 _ _ (Or.inl (Gs286.ne 20 (by decide) (by rw [t_z13_284.tg.2]; decide))))
        have E289 := E287.trans es288
        have t_z6_239 := t_z6_239.up es288
        have t_z13_284 := t_z13_284.up es288
        have Sz6_239 := Sz6_239.up es288
        have Sz7_247 := Sz7_247.up es288
        have Sz10_281 := Sz10_281.up es288
        have SB := SB.up es288
        refine wg t_z6_239.tg (fun z16_290 hz16_290 => ?_)
        have rz16_290 : inR z16_290 := hz16_290 ▸ Gs288.ir _ _
        have fz16_290 := Gs288.n4 t_z6_239.tg
        rw [hz16_290] at fz16_290
        refine wp t_z13_284.tg (fun s291 ws291 => ?_)
        obtain ⟨Gs291, es291, Rs291, Fs291⟩ := P7 Gs288 Rs288 t_z13_284.n ws291 (by first | assumption | exact inR_of _ | exact ⟨by omega, by omega⟩) (by omega)
        have P := P.fr (fun f _ => Fs291 _ _ (Or.inl (Gs288.ne 19 (by decide) (by rw [t_z13_284.tg.2]; decide)))) (fun f => Fs291 _ _ (Or.inl (Gs288.ne 20 (by decide) (by rw [t_z13_284.tg.2]; decide))))
        have E292 := E289.trans es291
        have t_z6_239 := t_z6_239.up es291
        have t_z13_284 := t_z13_284.up es291
        have Sz6_239 := Sz6_239.up es291
        have Sz7_247 := Sz7_247.up es291
        have Sz10_281 := Sz10_281.up es291
        have SB := SB.up es291
        refine wg t_z6_239.tg (fun z18_293 hz18_293 => ?_)
        have rz18_293 : inR z18_293 := hz18_293 ▸ Gs291.ir _ _
        have fz18_293 := Gs291.n5 t_z6_239.tg
        rw [hz18_293] at fz18_293
        refine wp t_z13_284.tg (fun s294 ws294 => ?_)
        obtain ⟨Gs294, es294, Rs294, Fs294⟩ := P7 Gs291 Rs291 t_z13_284.n ws294 (by first | assumption | exact inR_of _ | exact ⟨by omega, by omega⟩) (by omega)
        have P := P.fr (fun f _ => Fs294 _ _ (Or.inl (Gs291.ne 19 (by decide) (by rw [t_z13_284.tg.2]; decide)))) (fun f => Fs294 _ _ (Or.inl (Gs291.ne 20 (by decide) (by rw [t_z13_284.tg.2]; decide))))
        have E295 := E292.trans es294
        have t_z13_284 := t_z13_284.up es294
        have Sz6_239 := Sz6_239.up es294
        have Sz7_247 := Sz7_247.up es294
        have Sz10_281 := Sz10_281.up es294
        have SB := SB.up es294
        exact ret_O (by first | assumption | exact ref_R Gs294 Rs294 t_z13_284.tg (by decide) | exact ⟨by omega, by omega⟩) Gs294 E295 (Rs294.le (by omega) (by omega) (by omega) (by omega)) (by first | trivial | assumption | omega | (dsimp only; omega) | exact ⟨_, _, P, TS.mono SB (by omega), (Rs294.le (by omega) (by omega) (by omega) (by omega))⟩)
    · unfold pc_X7_binder_59
      refine wtN (Gs238.tg 19) ?_
      refine cl_O (s_expect (k := k + 39 + 20 * ρz6_239) (s := s + 289 + 150 * ρz6_239) (o := o) (z := z + 6 + 3 * ρz6_239) (by omega) Gs238 (Qz6_239.le (by omega) (by omega) (by omega) (by omega)) P ⟨by omega, by omega⟩) E240 (by omega) (by omega) (by omega) (by omega) (fun s296 z3_297 rz3_297 Gs296 es296 Rs296 fz3_297 => ?_)
      obtain ⟨ρz3_297, hρz3_297, Pz3_297, Qz3_297⟩ := fz3_297
      subst hρz3_297
      have P := Pz3_297
      have E298 := E240.trans es296
      have t_z6_239 := t_z6_239.up es296
      have Sz6_239 := Sz6_239.up es296
      refine wck ⟨by omega, by omega⟩ (fun z4_299 hz4_299 => ?_)
      refine wtN (Gs296.tg 19) ?_
      refine cl_O (hT (k := k + 59) (s := s + 439) (o := o) (z := z + 9) (ρ := ρz3_297) (δ := δ + 1) (by omega) (by omega) (by omega) Gs296 (Qz3_297.le (by omega) (by omega) (by omega) (by omega)) P) E298 (by omega) (by omega) (by omega) (by omega) (fun s300 z7_301 rz7_301 Gs300 es300 Rs300 fz7_301 => ?_)
      obtain ⟨ρz7_301, nz7_301, Pz7_301, Sz7_301, Qz7_301⟩ := fz7_301
      have P := Pz7_301
      have t_z7_301 := Sz7_301.n
      have E302 := E298.trans es300
      have t_z6_239 := t_z6_239.up es300
      have Sz6_239 := Sz6_239.up es300
      refine sf_if (fun c303 => ?_) (fun c303 => ?_)
      · unfold pc_X7_binder_85
        refine wtN (Gs300.tg 19) ?_
        refine cl_O (s_expect (k := k + 59 + 20 * ρz7_301 + 3 * nz7_301) (s := s + 439 + 150 * ρz7_301 + 25 * nz7_301) (o := o) (z := z + 9 + 3 * ρz7_301) (by omega) Gs300 (Qz7_301.le (by omega) (by omega) (by omega) (by omega)) P ⟨by omega, by omega⟩) E302 (by omega) (by omega) (by omega) (by omega) (fun s304 z3_305 rz3_305 Gs304 es304 Rs304 fz3_305 => ?_)
        obtain ⟨ρz3_305, hρz3_305, Pz3_305, Qz3_305⟩ := fz3_305
        subst hρz3_305
        have P := Pz3_305
        have E306 := E302.trans es304
        have t_z6_239 := t_z6_239.up es304
        have t_z7_301 := t_z7_301.up es304
        have Sz6_239 := Sz6_239.up es304
        have Sz7_301 := Sz7_301.up es304
        refine wtN (Gs304.tg 19) ?_
        refine cl_Z (s_newId (k := k + 80 + 3 * nz7_301 + 20 * ρz3_305) (s := s + 595 + 25 * nz7_301 + 150 * ρz3_305) (o := o) (z := z + 11 + 3 * ρz3_305) (by omega) Gs304 (Qz3_305.le (by omega) (by omega) (by omega) (by omega))) (fun s307 z6_308 rz6_308 Gs307 es307 Rs307 fz6_308 => ?_)
        obtain ⟨fz6_308, Fi_z6_308⟩ := fz6_308
        have P := P.fr (fun f hf => Fi_z6_308 _ _ (Or.inr hf)) (fun f => Fi_z6_308 _ _ (Or.inl (by omega)))
        have E309 := E306.trans es307
        have t_z6_239 := t_z6_239.up es307
        have t_z7_301 := t_z7_301.up es307
        have Sz6_239 := Sz6_239.up es307
        have Sz7_301 := Sz7_301.up es307
        refine wck ⟨by omega, by omega⟩ (fun z7_310 hz7_310 => ?_)
        refine wtN (Gs307.tg 19) ?_
        refine cl_O (hT (k := k + 79 + 3 * nz7_301) (s := s + 589 + 25 * nz7_301) (o := o) (z := z + 11) (ρ := ρz3_305) (δ := δ + 1) (by omega) (by omega) (by omega) Gs307 (Rs307.le (by omega) (by omega) (by omega) (by omega)) P) E309 (by omega) (by omega) (by omega) (by omega) (fun s311 z10_312 rz10_312 Gs311 es311 Rs311 fz10_312 => ?_)
        obtain ⟨ρz10_312, nz10_312, Pz10_312, Sz10_312, Qz10_312⟩ := fz10_312
        have P := Pz10_312
        have t_z10_312 := Sz10_312.n
        have E313 := E309.trans es311
        have t_z6_239 := t_z6_239.up es311
        have t_z7_301 := t_z7_301.up es311
        have Sz6_239 := Sz6_239.up es311
        have Sz7_301 := Sz7_301.up es311
        refine cl_Z (s_binder (k := k + 79 + 3 * nz7_301 + 20 * ρz10_312 + 3 * nz10_312) (s := s + 584 + 25 * nz7_301 + 150 * ρz10_312 + 25 * nz10_312) (o := o) (z := z + 11 + 3 * ρz10_312) (by omega) Gs311 (Qz10_312.le (by omega) (by omega) (by omega) (by omega)) ⟨by omega, by omega⟩ (by first | assumption | exact ⟨by omega, by omega⟩) (by omega) t_z7_301 (by first | assumption | exact ref_R Gs311 Qz10_312 t_z7_301.tg (by decide)) t_z10_312 (by first | assumption | exact ref_R Gs311 Qz10_312 t_z10_312.tg (by decide))) (fun s314 z13_315 rz13_315 Gs314 es314 Rs314 fz13_315 => ?_)
        obtain ⟨t_z13_315, v0_z13_315, v6_z13_315, v7_z13_315, Fn_z13_315⟩ := fz13_315
        have E316 := E313.trans es314
        have t_z6_239 := t_z6_239.up es314
        have Sz6_239 := Sz6_239.up es314
        have Sz7_301 := Sz7_301.up es314
        have Sz10_312 := Sz10_312.up es314
        have P := P.nw Gs311 Fn_z13_315
        have SB := TS.bind t_z13_315 v6_z13_315 v7_z13_315 Sz7_301 Sz10_312
        refine wp t_z13_315.tg (fun s317 ws317 => ?_)
        obtain ⟨Gs317, es317, Rs317, Fs317⟩ := P7 Gs314 Rs314 t_z13_315.n ws317 (by first | assumption | exact inR_of _ | exact ⟨by omega, by omega⟩) (by omega)
        have P := P.fr (fun f _ => Fs317 _ _ (Or.inl (Gs314.ne 19 (by decide) (by rw [t_z13_315.tg.2]; decide)))) (fun f => Fs317 _ _ (Or.inl (Gs314.ne 20 (by decide) (by rw [t_z13_315.tg.2]; decide))))
        have E318 := E316.trans es317
        have t_z6_239 := t_z6_239.up es317
        have t_z13_315 := t_z13_315.up es317
        have Sz6_239 := Sz6_239.up es317
        have Sz7_301 := Sz7_301.up es317
        have Sz10_312 := Sz10_312.up es317
        have SB := SB.up es317
        refine wp t_z13_315.tg (fun s319 ws319 => ?_)
        obtain ⟨Gs319, es319, Rs319, Fs319⟩ := P7 Gs317 Rs317 t_z13_315.n ws319 (by first | assumption | exact inR_of _ | exact ⟨by omega, by omega⟩) (by omega)
        have P := P.fr (fun f _ => Fs319 _ _ (Or.inl (Gs317.ne 19 (by decide) (by rw [t_z13_315.tg.2]; decide)))) (fun f => Fs319 _ _ (Or.inl (Gs317.ne 20 (by decide) (by rw [t_z13_315.tg.2]; decide))))
        have E320 := E318.trans es319
        have t_z6_239 := t_z6_239.up es319
        have t_z13_315 := t_z13_315.up es319
        have Sz6_239 := Sz6_239.up es319
        have Sz7_301 := Sz7_301.up es319
        have Sz10_312 := Sz10_312.up es319
        have SB := SB.up es319
        refine wg t_z6_239.tg (fun z16_321 hz16_321 => ?_)
        have rz16_321 : inR z16_321 := hz16_321 ▸ Gs319.ir _ _
        have fz16_321 := Gs319.n4 t_z6_239.tg
        rw [hz16_321] at fz16_321
        refine wp t_z13_315.tg (fun s322 ws322 => ?_)
        obtain ⟨Gs322, es322, Rs322, Fs322⟩ := P7 Gs319 Rs319 t_z13_315.n ws322 (by first | assumption | exact inR_of _ | exact ⟨by omega, by omega⟩) (by omega)
        have P := P.fr (fun f _ => Fs322 _ _ (Or.inl (Gs319.ne 19 (by decide) (by rw [t_z13_315.tg.2]; decide)))) (fun f => Fs322 _ _ (Or.inl (Gs319.ne 20 (by decide) (by rw [t_z13_315.tg.2]; decide))))
        have E323 := E320.trans es322
        have t_z6_239 := t_z6_239.up es322
        have t_z13_315 := t_z13_315.up es322
        have Sz6_239 := Sz6_239.up es322
        have Sz7_301 := Sz7_301.up es322
        have Sz10_312 := Sz10_312.up es322
        have SB := SB.up es322
        refine wg t_z6_239.tg (fun z18_324 hz18_324 => ?_)
        have rz18_324 : inR z18_324 := hz18_324 ▸ Gs322.ir _ _
        have fz18_324 := Gs322.n5 t_z6_239.tg
        rw [hz18_324] at fz18_324
        refine wp t_z13_315.tg (fun s325 ws325 => ?_)
        obtain ⟨Gs325, es325, Rs325, Fs325⟩ := P7 Gs322 Rs322 t_z13_315.n ws325 (by first | assumption | exact inR_of _ | exact ⟨by omega, by omega⟩) (by omega)
        have P := P.fr (fun f _ => Fs325 _ _ (Or.inl (Gs322.ne 19 (by decide) (by rw [t_z13_315.tg.2]; decide)))) (fun f => Fs325 _ _ (Or.inl (Gs322.ne 20 (by decide) (by rw [t_z13_315.tg.2]; decide))))
        have E326 := E323.trans es325
        have t_z13_315 := t_z13_315.up es325
        have Sz6_239 := Sz6_239.up es325
        have Sz7_301 := Sz7_301.up es325
        have Sz10_312 := Sz10_312.up es325
        have SB := SB.up es325
        exact ret_O (by first | assumption | exact ref_R Gs325 Rs325 t_z13_315.tg (by decide) | exact ⟨by omega, by omega⟩) Gs325 E326 (Rs325.le (by omega) (by omega) (by omega) (by omega)) (by first | trivial | assumption | omega | (dsimp only; omega) | exact ⟨_, _, P, TS.mono SB (by omega), (Rs325.le (by omega) (by omega) (by omega) (by omega))⟩)
      · unfold pc_X7_binder_85
        refine wtN (Gs300.tg 19) ?_
        refine cl_O (s_expect (k := k + 59 + 20 * ρz7_301 + 3 * nz7_301) (s := s + 439 + 150 * ρz7_301 + 25 * nz7_301) (o := o) (z := z + 9 + 3 * ρz7_301) (by omega) Gs300 (Qz7_301.le (by omega) (by omega) (by omega) (by omega)) P ⟨by omega, by omega⟩) E302 (by omega) (by omega) (by omega) (by omega) (fun s327 z3_328 rz3_328 Gs327 es327 Rs327 fz3_328 => ?_)
        obtain ⟨ρz3_328, hρz3_328, Pz3_328, Qz3_328⟩ := fz3_328
        subst hρz3_328
        have P := Pz3_328
        have E329 := E302.trans es327
        have t_z6_239 := t_z6_239.up es327
        have t_z7_301 := t_z7_301.up es327
        have Sz6_239 := Sz6_239.up es327
        have Sz7_301 := Sz7_301.up es327
        refine wtN (Gs327.tg 19) ?_
        refine cl_Z (s_newId (k := k + 80 + 3 * nz7_301 + 20 * ρz3_328) (s := s + 595 + 25 * nz7_301 + 150 * ρz3_328) (o := o) (z := z + 11 + 3 * ρz3_328) (by omega) Gs327 (Qz3_328.le (by omega) (by omega) (by omega) (by omega))) (fun s330 z6_331 rz6_331 Gs330 es330 Rs330 fz6_331 => ?_)
        obtain ⟨fz6_331, Fi_z6_331⟩ := fz6_331
        have P := P.fr (fun f hf => Fi_z6_331 _ _ (Or.inr hf)) (fun f => Fi_z6_331 _ _ (Or.inl (by omega)))
        have E332 := E329.trans es330
        have t_z6_239 := t_z6_239.up es330
        have t_z7_301 := t_z7_301.up es330
        have Sz6_239 := Sz6_239.up es330
        have Sz7_301 := Sz7_301.up es330
        refine wck ⟨by omega, by omega⟩ (fun z7_333 hz7_333 => ?_)
        refine wtN (Gs330.tg 19) ?_
        refine cl_O (hT (k := k + 79 + 3 * nz7_301) (s := s + 589 + 25 * nz7_301) (o := o) (z := z + 11) (ρ := ρz3_328) (δ := δ + 1) (by omega) (by omega) (by omega) Gs330 (Rs330.le (by omega) (by omega) (by omega) (by omega)) P) E332 (by omega) (by omega) (by omega) (by omega) (fun s334 z10_335 rz10_335 Gs334 es334 Rs334 fz10_335 => ?_)
        obtain ⟨ρz10_335, nz10_335, Pz10_335, Sz10_335, Qz10_335⟩ := fz10_335
        have P := Pz10_335
        have t_z10_335 := Sz10_335.n
        have E336 := E332.trans es334
        have t_z6_239 := t_z6_239.up es334
        have t_z7_301 := t_z7_301.up es334
        have Sz6_239 := Sz6_239.up es334
        have Sz7_301 := Sz7_301.up es334
        refine cl_Z (s_binder (k := k + 79 + 3 * nz7_301 + 20 * ρz10_335 + 3 * nz10_335) (s := s + 584 + 25 * nz7_301 + 150 * ρz10_335 + 25 * nz10_335) (o := o) (z := z + 11 + 3 * ρz10_335) (by omega) Gs334 (Qz10_335.le (by omega) (by omega) (by omega) (by omega)) ⟨by omega, by omega⟩ (by first | assumption | exact ⟨by omega, by omega⟩) (by omega) t_z7_301 (by first | assumption | exact ref_R Gs334 Qz10_335 t_z7_301.tg (by decide)) t_z10_335 (by first | assumption | exact ref_R Gs334 Qz10_335 t_z10_335.tg (by decide))) (fun s337 z13_338 rz13_338 Gs337 es337 Rs337 fz13_338 => ?_)
        obtain ⟨t_z13_338, v0_z13_338, v6_z13_338, v7_z13_338, Fn_z13_338⟩ := fz13_338
        have E339 := E336.trans es337
        have t_z6_239 := t_z6_239.up es337
        have Sz6_239 := Sz6_239.up es337
        have Sz7_301 := Sz7_301.up es337
        have Sz10_335 := Sz10_335.up es337
        have P := P.nw Gs334 Fn_z13_338
        have SB := TS.bind t_z13_338 v6_z13_338 v7_z13_338 Sz7_301 Sz10_335
        refine wp t_z13_338.tg (fun s340 ws340 => ?_)
        obtain ⟨Gs340, es340, Rs340, Fs340⟩ := P7 Gs337 Rs337 t_z13_338.n ws340 (by first | assumption | exact inR_of _ | exact ⟨by omega, by omega⟩) (by omega)
        have P := P.fr (fun f _ => Fs340 _ _ (Or.inl (Gs337.ne 19 (by decide) (by rw [t_z13_338.tg.2]; decide)))) (fun f => Fs340 _ _ (Or.inl (Gs337.ne 20 (by decide) (by rw [t_z13_338.tg.2]; decide))))
        have E341 := E339.trans es340
        have t_z6_239 := t_z6_239.up es340
        have t_z13_338 := t_z13_338.up es340
        have Sz6_239 := Sz6_239.up es340
        have Sz7_301 := Sz7_301.up es340
        have Sz10_335 := Sz10_335.up es340
        have SB := SB.up es340
        refine wp t_z13_338.tg (fun s342 ws342 => ?_)
        obtain ⟨Gs342, es342, Rs342, Fs342⟩ := P7 Gs340 Rs340 t_z13_338.n ws342 (by first | assumption | exact inR_of _ | exact ⟨by omega, by omega⟩) (by omega)
        have P := P.fr (fun f _ => Fs342 _ _ (Or.inl (Gs340.ne 19 (by decide) (by rw [t_z13_338.tg.2]; decide)))) (fun f => Fs342 _ _ (Or.inl (Gs340.ne 20 (by decide) (by rw [t_z13_338.tg.2]; decide))))
        have E343 := E341.trans es342
        have t_z6_239 := t_z6_239.up es342
        have t_z13_338 := t_z13_338.up es342
        have Sz6_239 := Sz6_239.up es342
        have Sz7_301 := Sz7_301.up es342
        have Sz10_335 := Sz10_335.up es342
        have SB := SB.up es342
        refine wg t_z6_239.tg (fun z16_344 hz16_344 => ?_)
        have rz16_344 : inR z16_344 := hz16_344 ▸ Gs342.ir _ _
        have fz16_344 := Gs342.n4 t_z6_239.tg
        rw [hz16_344] at fz16_344
        refine wp t_z13_338.tg (fun s345 ws345 => ?_)
        obtain ⟨Gs345, es345, Rs345, Fs345⟩ := P7 Gs342 Rs342 t_z13_338.n ws345 (by first | assumption | exact inR_of _ | exact ⟨by omega, by omega⟩) (by omega)
        have P := P.fr (fun f _ => Fs345 _ _ (Or.inl (Gs342.ne 19 (by decide) (by rw [t_z13_338.tg.2]; decide)))) (fun f => Fs345 _ _ (Or.inl (Gs342.ne 20 (by decide) (by rw [t_z13_338.tg.2]; decide))))
        have E346 := E343.trans es345
        have t_z6_239 := t_z6_239.up es345
        have t_z13_338 := t_z13_338.up es345
        have Sz6_239 := Sz6_239.up es345
        have Sz7_301 := Sz7_301.up es345
        have Sz10_335 := Sz10_335.up es345
        have SB := SB.up es345
        refine wg t_z6_239.tg (fun z18_347 hz18_347 => ?_)
        have rz18_347 : inR z18_347 := hz18_347 ▸ Gs345.ir _ _
        have fz18_347 := Gs345.n5 t_z6_239.tg
        rw [hz18_347] at fz18_347
        refine wp t_z13_338.tg (fun s348 ws348 => ?_)
        obtain ⟨Gs348, es348, Rs348, Fs348⟩ := P7 Gs345 Rs345 t_z13_338.n ws348 (by first | assumption | exact inR_of _ | exact ⟨by omega, by omega⟩) (by omega)
        have P := P.fr (fun f _ => Fs348 _ _ (Or.inl (Gs345.ne 19 (by decide) (by rw [t_z13_338.tg.2]; decide)))) (fun f => Fs348 _ _ (Or.inl (Gs345.ne 20 (by decide) (by rw [t_z13_338.tg.2]; decide))))
        have E349 := E346.trans es348
        have t_z13_338 := t_z13_338.up es348
        have Sz6_239 := Sz6_239.up es348
        have Sz7_301 := Sz7_301.up es348
        have Sz10_335 := Sz10_335.up es348
        have SB := SB.up es348
        exact ret_O (by first | assumption | exact ref_R Gs348 Rs348 t_z13_338.tg (by decide) | exact ⟨by omega, by omega⟩) Gs348 E349 (Rs348.le (by omega) (by omega) (by omega) (by omega)) (by first | trivial | assumption | omega | (dsimp only; omega) | exact ⟨_, _, P, TS.mono SB (by omega), (Rs348.le (by omega) (by omega) (by omega) (by omega))⟩)
theorem oLs.lel {x y : Int} {m : Nat} (h : oLs bd b σ x m y) {i : Nat} (hi : i < m) : 0 ≤ c_pv σ y.toNat i := (h.2.2.2.2.2.2.2.2 i hi).1
/-- the parts go from the list into their row -/
theorem s_use74 {σe σ1 : CS} {x2 x3 x4 y : Int} {H m n0 : Nat} {g : Nat → Nat} (hd : 10 ≤ d) (E0 : Ext b σe σ1) (L : oLs bd b σ1 x3 m y) (h1 : 1 ≤ m) (h0 : c_tg σ1 x4.toNat = 0) (r2 : inR x2) (r4 : inR x4) (t2 : TS b σ1 H x2 n0) (tg : ∀ i, i < m → 1 ≤ g i ∧ TS b σ1 H (c_pv σ1 y.toNat i) (g i - 1)) : ∀ (n : Nat) {σ : CS} {j : Nat} {x5 : Int}, GG bd b σ → Ext b σ1 σ → RR bd b σ (k + 2 + 20 * ρ + 3 * (n0 + sg g m + 1)) (s + 17 + 150 * ρ + 25 * (n0 + sg g m + 1)) o (z + 3 * ρ) → oAp b σ x4 m j → (∀ i, i < j → c_pv σ x4.toNat i = c_pv σ1 y.toNat i) → rP b e σ ρ → x5 = (j : Int) → j ≤ m → m - j < n → sf (pc_X7_use_74 (RC bd d) bd n σ x2 x3 x4 x5) (PO bd b σe k s o z (fun σ' r => ∃ ρ' n, rP b e σ' ρ' ∧ TS b σ' (H + 1) r n ∧ RR bd b σ' (k + 1 + 20 * ρ' + 3 * n) (s + 6 + 150 * ρ' + 25 * n) o (z + 3 * ρ'))) := by
  intro n
  induction n with
  | zero =>
    intro σ j x5 G E R A hA P hx hj hn
    omega
  | succ n ih =>
    intro σ j x5 G E R A hA P hx hj hn
    have Lc := L.up E
    have hm7 := L.2.2.2.2.2.2.1
    unfold pc_X7_use_74
    refine wl A.1 (by rw [A.2.2.1]; omega) (fun z1 q1 => ?_)
    rw [A.2.2.1] at q1
    refine sf_if (fun c => ?_) (fun c => ?_)
    · have ej : j = m := by omega
      subst ej
      have hAa : oA b σ x4 := A.all
      refine cl_Z (s_use (k := k + 1 + 20 * ρ + 3 * (n0 + sg g j + 1)) (s := s + 6 + 150 * ρ + 25 * (n0 + sg g j + 1)) (o := o) (z := z + 3 * ρ) (by omega) G (R.le (by omega) (by omega) (by omega) (by omega)) (t2.up E).n r2 hAa r4) (fun σ' r rr G' e' R' f' => ?_)
      obtain ⟨tU, v6, v8, Fn⟩ := f'
      have E2 := E.trans e'
      have hV : oV b σ' r j := ⟨tU, by rw [v8]; exact hAa.up e', by rw [v8, e'.ln A.1.2 (by decide)]; exact A.2.2.1⟩
      have hT := TS.use hV v6 v8 (t2.up E2) (g := g) (fun i hi => by
        rw [e'.z.ar A.1.2 A.2.1, hA i hi]
        exact ⟨(tg i hi).1, (tg i hi).2.up E2⟩)
      exact ret_O rr G' (E0.trans E2) (R'.le (by omega) (by omega) (by omega) (by omega)) ⟨ρ, _, P.nw G Fn, hT, R'.le (by omega) (by omega) (by omega) (by omega)⟩
    · refine sf_t Lc.1 ?_
      refine cn_U (s_lget (by omega) G Lc (i := x5) ⟨by omega, by omega⟩) (fun r rr f => ?_)
      have hi : x5.toNat = j := by omega
      rw [hi] at f
      have e23 := E.ld L.2.2.2.2.2.1.2 j
      have tr : oN σ r := by rw [f, e23]; exact ((tg j (by omega)).2.up E).n
      refine sf_t tr.tg ?_
      refine sf_tn (Or.inr tr.tg) ?_
      refine ww A.1 ⟨by omega, by rw [A.2.2.1]; omega⟩ (fun σ2 w2 => ?_)
      rw [hi] at w2
      obtain ⟨G2, R2⟩ := gg_fill G R w2 A.1.2 A.2.1 tr rr
      have E2 := E.fill w2 h0 A.2.1
      refine wck ⟨by omega, by omega⟩ (fun z2 q2 => ?_)
      have A2 : oAp b σ2 x4 m (j + 1) := by rw [w2]; exact A.w tr
      have hb := A.2.1
      refine ih G2 E2 R2 A2 (fun i hi2 => ?_) (P.fr (fun f _ => by rw [w2]; exact cs_p_na (by omega)) (fun f => by rw [w2]; exact cs_p_na (by omega))) (by omega) (by omega) (by omega)
      rw [w2, cs_p_pv, if_pos rfl]
      split
      · next c2 => rw [c2, f, e23]
      · exact hA i (by omega)
theorem s_use60 {σe σ : CS} {x2 x3 y : Int} {H m n0 : Nat} {g : Nat → Nat} (hd : 10 ≤ d) (G : GG bd b σ) (E0 : Ext b σe σ) (L : oLs bd b σ x3 m y) (h1 : 1 ≤ m) (r2 : inR x2) (t2 : TS b σ H x2 n0) (tg : ∀ i, i < m → 1 ≤ g i ∧ TS b σ H (c_pv σ y.toNat i) (g i - 1)) (P : rP b e σ ρ) (R : RR bd b σ (k + 3 + 20 * ρ + 3 * (n0 + sg g m + 1)) (s + 17 + m + 150 * ρ + 25 * (n0 + sg g m + 1)) o (z + 3 * ρ)) : sf (pc_X7_use_60 (RC bd d) bd σ x2 x3) (PO bd b σe k s o z (fun σ' r => ∃ ρ' n, rP b e σ' ρ' ∧ TS b σ' (H + 1) r n ∧ RR bd b σ' (k + 1 + 20 * ρ' + 3 * n) (s + 6 + 150 * ρ' + 25 * n) o (z + 3 * ρ'))) := by
  have hm7 := L.2.2.2.2.2.2.1
  unfold pc_X7_use_60
  refine sf_t L.1 ?_
  refine cn_U (s_lsize (by omega) L) (fun r rr f => ?_)
  have hrN : r.toNat = m := by omega
  have R' : RR bd b σ (k + 2 + 20 * ρ + 3 * (n0 + sg g m + 1) + 1) (s + 17 + 150 * ρ + 25 * (n0 + sg g m + 1) + r.toNat) o (z + 3 * ρ) := R.le (by omega) (by omega) (by omega) (by omega)
  refine wna ⟨by omega, by omega⟩ (rr_room G R') (fun σ1 w1 => ?_)
  obtain ⟨G1, e1, R1, t1, F1, N1⟩ := mk_row G R' w1 (by decide)
  have ha : ((c_hp σ : Nat) : Int).toNat = c_hp σ := Int.toNat_natCast _
  have A0 : oAp b σ1 ((c_hp σ : Nat) : Int) m 0 := ⟨t1.1, by rw [ha]; exact G.hp, by rw [t1.2.1]; exact hrN, ⟨h1, by omega⟩, fun i hi => by omega⟩
  exact s_use74 hd E0 L h1 (by rw [ha]; exact N1) r2 (hp_R G R) t2 tg _ G1 e1 R1 A0 (fun i hi => by omega) (P.nw G F1) rfl (by omega) (by omega)
def lsum (g : Nat → Nat) (m v i : Nat) : Nat := if i = m then v else g i
theorem lsum_sg {g : Nat → Nat} {m v : Nat} : sg (lsum g m v) (m + 1) = sg g m + v := by
  show sg (lsum g m v) m + lsum g m v m = _
  rw [sg_ext (g' := g) (fun i hi => by unfold lsum; rw [if_neg (by omega)])]
  unfold lsum
  rw [if_pos rfl]
theorem s_use26 (hA : ∀ {σ : CS} {k s o z ρ δ : Nat} {x : Int}, x = (δ : Int) → 181 ≤ d + 4 * δ → δ ≤ 40 → (δ ≤ 39 ∨ c_pv σ (b + 19) 7 = 261) → GG bd b σ → RR bd b σ (k + 1 + 20 * ρ) (s + 6 + 150 * ρ) o (z + 3 * ρ) → rP b e σ ρ → sf (RC bd d 110 σ [((b + 19 : Nat) : Int), x]) (PO bd b σ k s o z (fun σ' r => δ ≤ 39 ∧ ∃ ρ' n, rP b e σ' ρ' ∧ TS b σ' (2 * (40 - δ)) r n ∧ RR bd b σ' (k + 11 + 20 * ρ' + 3 * n) (s + 106 + 150 * ρ' + 25 * n) o (z + 3 * ρ')))) {σe : CS} {x x2 x3 : Int} {δ n0 : Nat} (hx : x = (δ : Int)) (hd : 181 ≤ d + 4 * δ) (hδ : δ ≤ 39) (h3 : c_tg σe x3.toNat = 0) (r2 : inR x2) : ∀ (n : Nat) {σ : CS} {m ρ : Nat} {y x4 : Int} {g : Nat → Nat}, GG bd b σ → Ext b σe σ → oLs bd b σ x3 m y → (y = ((bd.2.2 21 : Nat) : Int) ∨ c_tg σe y.toNat = 0) → rP b e σ ρ → TS b σ (2 * (40 - δ)) x2 n0 → (∀ i, i < m → 1 ≤ g i ∧ TS b σ (2 * (40 - δ)) (c_pv σ y.toNat i) (g i - 1)) → RR bd b σ (k + 6 + 20 * ρ + 3 * (n0 + sg g m + 1)) (s + 17 + m + 150 * ρ + 25 * (n0 + sg g m + 1) + lcr m (c_ln σ y.toNat)) o (z + 3 * ρ) → x4 = (m : Int) → m ≤ 4000 → (m = 0 → c_pv σ (b + 19) 7 = 256 ∨ c_pv σ (b + 19) 7 = 40) → 4001 - m < n → sf (pc_X7_use_26 (RC bd d) bd n σ ((b + 19 : Nat) : Int) x x2 x3 x4) (PO bd b σe k s o z (fun σ' r => ∃ ρ' n, rP b e σ' ρ' ∧ TS b σ' (2 * (40 - δ) + 1) r n ∧ RR bd b σ' (k + 1 + 20 * ρ' + 3 * n) (s + 6 + 150 * ρ' + 25 * n) o (z + 3 * ρ'))) := by
  intro n
  induction n with
  | zero =>
    intro σ m ρ y x4 g G E L hy P t2 tg R hx4 hm htok hn
    omega
  | succ n ih =>
    intro σ m ρ y x4 g G E L hy P t2 tg R hx4 hm htok hn
    have n5 := G.nu 19 5
    have hρ0 : m = 0 → 1 ≤ ρ := fun q => P.pos (by have := htok q; omega) (by have := htok q; omega)
    have p0 := P.1.2.2.2.1
    have p1 := P.2.1
    have p5 := P.1.2.2.2.2
    unfold pc_X7_use_26
    refine wgN (G.tg 19) (fun z1 q1 => ?_)
    have hout : 1 ≤ m → sf (pc_X7_use_60 (RC bd d) bd σ x2 x3) (PO bd b σe k s o z (fun σ' r => ∃ ρ' n, rP b e σ' ρ' ∧ TS b σ' (2 * (40 - δ) + 1) r n ∧ RR bd b σ' (k + 1 + 20 * ρ' + 3 * n) (s + 6 + 150 * ρ' + 25 * n) o (z + 3 * ρ'))) := fun q => s_use60 (by omega) G E L q r2 t2 tg P (R.le (by omega) (by omega) (by omega) (by omega))
    refine sf_if (fun c => hout (by omega)) (fun c => ?_)
    refine wtN (G.tg 19) ?_
    refine cl_U (s_atomBegins (by omega) G) (fun z5 r5 f5 => ?_)
    refine sf_if (fun c2 => hout (by omega)) (fun c2 => ?_)
    refine wtN (G.tg 19) ?_
    refine cl_O (hA (k := k + 5 + 3 * (n0 + sg g m + 1)) (s := s + 11 + m + 25 * (n0 + sg g m + 1) + lcr m (c_ln σ y.toNat)) (o := o) (z := z) (ρ := ρ) (δ := δ) hx (by omega) (by omega) (Or.inl hδ) G (R.le (by omega) (by omega) (by omega) (by omega)) P) E (by omega) (by omega) (by omega) (by omega) (fun σ1 a ra G1 e1 R1 f1 => ?_)
    obtain ⟨_, ρ1, n1, P1, S1, Q1⟩ := f1
    have L1 := L.up e1
    refine sf_t L1.1 ?_
    have hln := e1.ln L.2.2.2.2.2.1.2 (by decide)
    have hld : ∀ f, c_pv σ1 y.toNat f = c_pv σ y.toNat f := fun f => e1.ld L.2.2.2.2.2.1.2 f
    refine sf_cn (s_ladd (k := k + 6 + 20 * ρ1 + 3 * (n0 + (sg g m + (n1 + 1)) + 1)) (s := s + 17 + (m + 1) + 150 * ρ1 + 25 * (n0 + (sg g m + (n1 + 1)) + 1)) (o := o) (z := z + 3 * ρ1) (by omega) G1 L1 (by omega) ⟨S1.n.1, Or.inl S1.n.2⟩ ra (Q1.le (by omega) (by rw [hln]; omega) (by omega) (by omega))) (fun σ2 kd r hp => ⟨hp.1, ?_⟩)
    obtain ⟨hk, rr, G2, E2, F2, y', R2, L2, hy', hel, hem⟩ := hp
    refine wck ⟨by omega, by omega⟩ (fun z2 q2 => ?_)
    have E1 := E.trans e1
    have hyf : ∀ a, c_tg σe a ≠ 0 → (a ≠ y.toNat ∨ y = ((bd.2.2 21 : Nat) : Int)) := fun a ha => by
      rcases hy with q | q
      · exact Or.inr q
      · exact Or.inl (fun c3 => ha (by rw [c3]; exact q))
    have E3 : Ext b σe σ2 := E1.own E2 (fun a f _ ha => F2 a f (fun c3 => ha (by rw [c3]; exact h3)) (hyf a ha) (by rw [(E1.2.1 a ha).1]; exact ha))
    have h19 : ∀ i, i < 24 → ∀ f, c_pv σ2 (b + i) f = c_pv σ1 (b + i) f := fun i hi f => F2 _ _ (G1.ne i hi (by rw [L1.1.2]; exact fun q => (gt_ne i hi).2.2.2.2.2.2.1 q.symm)) (Or.inl (G1.ne i hi (by rw [L1.2.2.2.2.2.1.2]; exact fun q => (gt_ne i hi).2.2.2.2.2.2.2 q.symm))) (by rw [(G1.1 i hi).1]; exact (gt_ne i hi).1)
    refine ih (g := lsum g m (n1 + 1)) G2 E3 L2 ?_ (P1.fr (fun f _ => h19 19 (by decide) f) (fun f => h19 20 (by decide) f)) ((t2.up e1).upz E2) (fun i hi => ?_) ?_ (by omega) (by omega) (fun q => by omega) (by omega)
    · rcases hy' with q | q
      · rw [q]; exact hy
      · exact Or.inr (E1.fresh q)
    · unfold lsum
      by_cases c3 : i = m
      · rw [if_pos c3, c3, hem]; exact ⟨by omega, S1.upz E2⟩
      · rw [if_neg c3, hel i (by omega), hld]
        exact ⟨(tg i (by omega)).1, ((tg i (by omega)).2.up e1).upz E2⟩
    · rw [lsum_sg]
      exact R2.le (by omega) (by omega) (by omega) (by omega)
theorem s_useR (hA : ∀ {σ : CS} {k s o z ρ δ : Nat} {x : Int}, x = (δ : Int) → 181 ≤ d + 4 * δ → δ ≤ 40 → (δ ≤ 39 ∨ c_pv σ (b + 19) 7 = 261) → GG bd b σ → RR bd b σ (k + 1 + 20 * ρ) (s + 6 + 150 * ρ) o (z + 3 * ρ) → rP b e σ ρ → sf (RC bd d 110 σ [((b + 19 : Nat) : Int), x]) (PO bd b σ k s o z (fun σ' r => δ ≤ 39 ∧ ∃ ρ' n, rP b e σ' ρ' ∧ TS b σ' (2 * (40 - δ)) r n ∧ RR bd b σ' (k + 11 + 20 * ρ' + 3 * n) (s + 106 + 150 * ρ' + 25 * n) o (z + 3 * ρ')))) : ∀ {σ : CS} {k s o z ρ δ : Nat} {x : Int}, x = (δ : Int) → 182 ≤ (d + 1) + 4 * δ → δ ≤ 40 → (δ ≤ 39 ∨ c_pv σ (b + 19) 7 = 261) → GG bd b σ → RR bd b σ (k + 1 + 20 * ρ) (s + 6 + 150 * ρ) o (z + 3 * ρ) → rP b e σ ρ → sf (RC bd (d + 1) 133 σ [((b + 19 : Nat) : Int), x]) (PO bd b σ k s o z (fun σ' r => δ ≤ 39 ∧ ∃ ρ' n, rP b e σ' ρ' ∧ TS b σ' (2 * (40 - δ) + 1) r n ∧ RR bd b σ' (k + 1 + 20 * ρ' + 3 * n) (s + 6 + 150 * ρ' + 25 * n) o (z + 3 * ρ'))) := by
  intro σ k s o z ρ δ x hx hd hδ hl G R P
  rw [rc_X7_use (by omega)]
  refine fin_O ?_
  unfold pc_X7_use_0
  refine wtN (G.tg 19) ?_
  refine cl_O (hA (k := k) (s := s) (o := o) (z := z) (ρ := ρ) (δ := δ) (by omega) (by omega) (by omega) hl G (R.le (by omega) (by omega) (by omega) (by omega)) P) (Ext.refl (b := b) (σ := σ)) (by omega) (by omega) (by omega) (by omega) (fun s1 z3_2 rz3_2 Gs1 es1 Rs1 fz3_2 => ?_)
  obtain ⟨hd39, ρz3_2, nz3_2, Pz3_2, Sz3_2, Qz3_2⟩ := fz3_2
  have P := Pz3_2
  have t_z3_2 := Sz3_2.n
  have E3 := (Ext.refl (b := b) (σ := σ)).trans es1
  refine wtN (Gs1.tg 19) ?_
  refine cl_U (s_atomBegins (by omega) Gs1) (fun z6_5 rz6_5 fz6_5 => ?_)
  refine sf_if (fun c6 => ?_) (fun c6 => ?_)
  · refine sf_n (rr_room Gs1 (Qz3_2.le (k' := (k + 10 + 20 * ρz3_2 + 3 * nz3_2) + 1) (s' := (s + 103 + 150 * ρz3_2 + 25 * nz3_2) + 3) (o' := o) (z' := (z + 0 + 3 * ρz3_2)) (by omega) (by omega) (by omega) (by omega))) ?_
    refine mk_list (k := k + 10 + 20 * ρz3_2 + 3 * nz3_2) (s := s + 103 + 150 * ρz3_2 + 25 * nz3_2) (o := o) (z := z + 0 + 3 * ρz3_2) (by omega) Gs1 (Qz3_2.le (by omega) (by omega) (by omega) (by omega))   (fun s7 Gs7 es7 Rs7 fs7 => ?_)
    obtain ⟨t_z9_s7, n_z9_s7, Fm⟩ := fs7
    have E8 := E3.trans es7
    have t_z3_2 := t_z3_2.up es7
    have Sz3_2 := Sz3_2.up es7
    have P := P.nw Gs1 Fm
    have q7 := Fm (b + 19) 7 (by have := Gs1.hp; omega)
    have ha : ((c_hp s1 : Nat) : Int).toNat = c_hp s1 := Int.toNat_natCast _
    have e0 : sg (fun _ => 0) 0 = 0 := rfl
    have e1 : lcr 0 (c_ln s7 ((bd.2.2 21 : Nat) : Int).toNat) = 40 := by
      have q := Gs7.st.2.1.2.1
      rw [Int.toNat_natCast, q]
      rfl
    refine sf_mono (s_use26 hA hx (by omega) hd39 (by rw [ha]; exact E3.fresh n_z9_s7) (by assumption) (g := fun _ => 0) (σ := s7) (m := 0) (k := k) (s := s) (o := o) (z := z) _ Gs7 E8 t_z9_s7 (Or.inl rfl) P Sz3_2 (fun i hi => by omega) (Rs7.le (by omega) (by omega) (by omega) (by omega)) rfl (by omega) (fun _ => by omega) (by omega)) (fun σ9 kd r q => ?_)
    rcases q with q | q
    · exact Or.inl ⟨q.1, q.2.1, q.2.2.1, q.2.2.2.1, q.2.2.2.2.1, hd39, q.2.2.2.2.2⟩
    · exact Or.inr q
  · exact ret_O (by first | assumption | exact ref_R Gs1 Qz3_2 t_z3_2.tg (by decide) | exact ⟨by omega, by omega⟩) Gs1 E3 (Qz3_2.le (by omega) (by omega) (by omega) (by omega)) (by first | trivial | assumption | omega | (dsimp only; omega) | exact ⟨hd39, _, _, P, TS.mono (by assumption) (by omega), (Qz3_2.le (by omega) (by omega) (by omega) (by omega))⟩)
theorem s_term : ∀ (d : Nat), ∀ {σ : CS} {k s o z ρ δ : Nat} {x : Int}, x = (δ : Int) → 184 ≤ d + 4 * δ → δ ≤ 40 → GG bd b σ → RR bd b σ (k + 1 + 20 * ρ) (s + 6 + 150 * ρ) o (z + 3 * ρ) → rP b e σ ρ → sf (RC bd d 131 σ [((b + 19 : Nat) : Int), x]) (PO bd b σ k s o z (fun σ' r => ∃ ρ' n, rP b e σ' ρ' ∧ TS b σ' (2 * (41 - δ)) r n ∧ RR bd b σ' (k + 1 + 20 * ρ' + 3 * n) (s + 6 + 150 * ρ' + 25 * n) o (z + 3 * ρ'))) := by
  intro d
  induction d using Nat.strongRecOn with
  | ind d ih =>
    intro σ k s o z ρ δ x hx hd hδ G R P
    obtain ⟨d, rfl⟩ : ∃ d0, d = d0 + 3 := ⟨d - 3, by omega⟩
    have hT := fun {σ} {k} {s} {o} {z} {ρ} {δ} {x} => @ih (d + 2) (by omega) σ k s o z ρ δ x
    have hB := fun {σ} {k} {s} {o} {z} {ρ} {δ} {x} => @s_binderR bd b (d + 1) e (ih (d + 1) (by omega)) σ k s o z ρ δ x
    have hU := fun {σ} {k} {s} {o} {z} {ρ} {δ} {x} => @s_useR bd b (d + 1) e (s_atom (ih d (by omega))) σ k s o z ρ δ x
    rw [rc_X7_term (by omega)]
    refine fin_O ?_
    unfold pc_X7_term_0
    refine sf_if (fun c1 => ?_) (fun c1 => ?_)
    · unfold pc_X7_term_36
      refine wgN (G.tg 19) (fun z1_2 hz1_2 => ?_)
      have fz1_2 := G.nu 19 7
      have rz1_2 : inR z1_2 := hz1_2 ▸ G.ir _ _
      refine sf_if (fun c3 => ?_) (fun c3 => ?_)
      · unfold pc_X7_term_63
        refine wtN (G.tg 19) ?_
        refine cl_O (hB (k := k) (s := s) (o := o) (z := z) (ρ := ρ) (δ := δ) (by omega) (by omega) (by omega) (by omega) (by omega) G (R.le (by omega) (by omega) (by omega) (by omega)) P) (Ext.refl (b := b) (σ := σ)) (by omega) (by omega) (by omega) (by omega) (fun s4 z3_5 rz3_5 Gs4 es4 Rs4 fz3_5 => ?_)
        obtain ⟨ρz3_5, nz3_5, Pz3_5, Sz3_5, Qz3_5⟩ := fz3_5
        have P := Pz3_5
        have t_z3_5 := Sz3_5.n
        have E6 := (Ext.refl (b := b) (σ := σ)).trans es4
        exact ret_O (by first | assumption | exact ref_R Gs4 Qz3_5 t_z3_5.tg (by decide) | exact ⟨by omega, by omega⟩) Gs4 E6 (Qz3_5.le (by omega) (by omega) (by omega) (by omega)) (by first | trivial | assumption | omega | (dsimp only; omega) | exact ⟨_, _, P, TS.mono SB (by omega), (Qz3_5.le (by omega) (by omega) (by omega) (by omega))⟩ | exact ⟨_, _, P, TS.mono (by assumption) (by omega), (Qz3_5.le (by omega) (by omega) (by omega) (by omega))⟩)
      · refine wgN (G.tg 19) (fun z3_7 hz3_7 => ?_)
        have fz3_7 := G.nu 19 7
        have rz3_7 : inR z3_7 := hz3_7 ▸ G.ir _ _
        refine sf_if (fun c8 => ?_) (fun c8 => ?_)
        · unfold pc_X7_term_63
          refine wtN (G.tg 19) ?_
          refine cl_O (hB (k := k) (s := s) (o := o) (z := z) (ρ := ρ) (δ := δ) (by omega) (by omega) (by omega) (by omega) (by omega) G (R.le (by omega) (by omega) (by omega) (by omega)) P) (Ext.refl (b := b) (σ := σ)) (by omega) (by omega) (by omega) (by omega) (fun s9 z3_10 rz3_10 Gs9 es9 Rs9 fz3_10 => ?_)
          obtain ⟨ρz3_10, nz3_10, Pz3_10, Sz3_10, Qz3_10⟩ := fz3_10
          have P := Pz3_10
          have t_z3_10 := Sz3_10.n
          have E11 := (Ext.refl (b := b) (σ := σ)).trans es9
          exact ret_O (by first | assumption | exact ref_R Gs9 Qz3_10 t_z3_10.tg (by decide) | exact ⟨by omega, by omega⟩) Gs9 E11 (Qz3_10.le (by omega) (by omega) (by omega) (by omega)) (by first | trivial | assumption | omega | (dsimp only; omega) | exact ⟨_, _, P, TS.mono SB (by omega), (Qz3_10.le (by omega) (by omega) (by omega) (by omega))⟩ | exact ⟨_, _, P, TS.mono (by assumption) (by omega), (Qz3_10.le (by omega) (by omega) (by omega) (by omega))⟩)
        · refine wgN (G.tg 19) (fun z5_12 hz5_12 => ?_)
          have fz5_12 := G.nu 19 7
          have rz5_12 : inR z5_12 := hz5_12 ▸ G.ir _ _
          refine sf_if (fun c13 => ?_) (fun c13 => ?_)
          · refine wtN (G.tg 19) ?_
            refine cl_O (hU (k := k) (s := s) (o := o) (z := z) (ρ := ρ) (δ := δ) (by omega) (by omega) (by omega) (by omega) G (R.le (by omega) (by omega) (by omega) (by omega)) P) (Ext.refl (b := b) (σ := σ)) (by omega) (by omega) (by omega) (by omega) (fun s14 z9_15 rz9_15 Gs14 es14 Rs14 fz9_15 => ?_)
            obtain ⟨hd39, ρz9_15, nz9_15, Pz9_15, Sz9_15, Qz9_15⟩ := fz9_15
            have P := Pz9_15
            have t_z9_15 := Sz9_15.n
            have E16 := (Ext.refl (b := b) (σ := σ)).trans es14
            refine wgN (Gs14.tg 19) (fun z10_17 hz10_17 => ?_)
            have fz10_17 := Gs14.nu 19 7
            have rz10_17 : inR z10_17 := hz10_17 ▸ Gs14.ir _ _
            refine sf_if (fun c18 => ?_) (fun c18 => ?_)
            · refine wgN (Gs14.tg 19) (fun z12_19 hz12_19 => ?_)
              have fz12_19 := Gs14.nu 19 8
              have rz12_19 : inR z12_19 := hz12_19 ▸ Gs14.ir _ _
              refine wtN (Gs14.tg 19) ?_
              refine cl_Z (s_advance (k := k + 1 + 20 * ρz9_15 + 3 * nz9_15) (s := s + 6 + 150 * ρz9_15 + 25 * nz9_15) (o := o) (z := z + 0 + 3 * ρz9_15) (by omega) Gs14 (Qz9_15.le (by omega) (by omega) (by omega) (by omega)) P.1 (P.pos (by omega) (by omega))) (fun s20 z15_21 rz15_21 Gs20 es20 Rs20 fz15_21 => ?_)
              obtain ⟨ρz15_21, hρz15_21, Pz15_21⟩ := fz15_21
              subst hρz15_21
              have P := Pz15_21
              have E22 := E16.trans es20
              have t_z9_15 := t_z9_15.up es20
              have Sz9_15 := Sz9_15.up es20
              refine wtN (Gs20.tg 19) ?_
              refine cl_Z (s_newId (k := k + 21 + 3 * nz9_15 + 20 * ρz15_21) (s := s + 156 + 25 * nz9_15 + 150 * ρz15_21) (o := o) (z := z + 2 + 3 * ρz15_21) (by omega) Gs20 (Rs20.le (by omega) (by omega) (by omega) (by omega))) (fun s23 z18_24 rz18_24 Gs23 es23 Rs23 fz18_24 => ?_)
              obtain ⟨fz18_24, Fi_z18_24⟩ := fz18_24
              have P := P.fr (fun f hf => Fi_z18_24 _ _ (Or.inr hf)) (fun f => Fi_z18_24 _ _ (Or.inl (by omega)))
              have E25 := E22.trans es23
              have t_z9_15 := t_z9_15.up es23
              have Sz9_15 := Sz9_15.up es23
              refine wck ⟨by omega, by omega⟩ (fun z19_26 hz19_26 => ?_)
              refine wtN (Gs23.tg 19) ?_
              refine cl_O (hT (k := k + 20 + 3 * nz9_15) (s := s + 150 + 25 * nz9_15) (o := o) (z := z + 2) (ρ := ρz15_21) (δ := δ + 1) (by omega) (by omega) (by omega) Gs23 (Rs23.le (by omega) (by omega) (by omega) (by omega)) P) E25 (by omega) (by omega) (by omega) (by omega) (fun s27 z22_28 rz22_28 Gs27 es27 Rs27 fz22_28 => ?_)
              obtain ⟨ρz22_28, nz22_28, Pz22_28, Sz22_28, Qz22_28⟩ := fz22_28
              have P := Pz22_28
              have t_z22_28 := Sz22_28.n
              have E29 := E25.trans es27
              have t_z9_15 := t_z9_15.up es27
              have Sz9_15 := Sz9_15.up es27
              refine cl_Z (s_binder (k := k + 20 + 3 * nz9_15 + 20 * ρz22_28 + 3 * nz22_28) (s := s + 145 + 25 * nz9_15 + 150 * ρz22_28 + 25 * nz22_28) (o := o) (z := z + 2 + 3 * ρz22_28) (by omega) Gs27 (Qz22_28.le (by omega) (by omega) (by omega) (by omega)) ⟨by omega, by omega⟩ (by first | assumption | exact ⟨by omega, by omega⟩) (by omega) t_z9_15 (by first | assumption | exact ref_R Gs27 Qz22_28 t_z9_15.tg (by decide)) t_z22_28 (by first | assumption | exact ref_R Gs27 Qz22_28 t_z22_28.tg (by decide))) (fun s30 z25_31 rz25_31 Gs30 es30 Rs30 fz25_31 => ?_)
              obtain ⟨t_z25_31, v0_z25_31, v6_z25_31, v7_z25_31, Fn_z25_31⟩ := fz25_31
              have E32 := E29.trans es30
              have t_z9_15 := t_z9_15.up es30
              have Sz9_15 := Sz9_15.up es30
              have Sz22_28 := Sz22_28.up es30
              have P := P.nw Gs27 Fn_z25_31
              have SB := TS.bind t_z25_31 v6_z25_31 v7_z25_31 (Sz9_15.mono (h' := 2 * (40 - δ) + 1) (by omega)) (Sz22_28.mono (by omega))
              refine wp t_z25_31.tg (fun s33 ws33 => ?_)
              obtain ⟨Gs33, es33, Rs33, Fs33⟩ := P7 Gs30 Rs30 t_z25_31.n ws33 (by first | assumption | exact inR_of _ | exact ⟨by omega, by omega⟩) (by omega)
              have P := P.fr (fun f _ => Fs33 _ _ (Or.inl (Gs30.ne 19 (by decide) (by rw [t_z25_31.tg.2]; decide)))) (fun f => Fs33 _ _ (Or.inl (Gs30.ne 20 (by decide) (by rw [t_z25_31.tg.2]; decide))))
              have E34 := E32.trans es33
              have t_z9_15 := t_z9_15.up es33
              have t_z25_31 := t_z25_31.up es33
              have Sz9_15 := Sz9_15.up es33
              have Sz22_28 := Sz22_28.up es33
              have SB := SB.up es33
              refine wg t_z9_15.tg (fun z27_35 hz27_35 => ?_)
              have rz27_35 : inR z27_35 := hz27_35 ▸ Gs33.ir _ _
              refine wp t_z25_31.tg (fun s36 ws36 => ?_)
              obtain ⟨Gs36, es36, Rs36, Fs36⟩ := P7 Gs33 Rs33 t_z25_31.n ws36 (by first | assumption | exact inR_of _ | exact ⟨by omega, by omega⟩) (by omega)
              have P := P.fr (fun f _ => Fs36 _ _ (Or.inl (Gs33.ne 19 (by decide) (by rw [t_z25_31.tg.2]; decide)))) (fun f => Fs36 _ _ (Or.inl (Gs33.ne 20 (by decide) (by rw [t_z25_31.tg.2]; decide))))
              have E37 := E34.trans es36
              have t_z25_31 := t_z25_31.up es36
              have Sz9_15 := Sz9_15.up es36
              have Sz22_28 := Sz22_28.up es36
              have SB := SB.up es36
              exact ret_O (by first | assumption | exact ref_R Gs36 Rs36 t_z25_31.tg (by decide) | exact ⟨by omega, by omega⟩) Gs36 E37 (Rs36.le (by omega) (by omega) (by omega) (by omega)) (by first | trivial | assumption | omega | (dsimp only; omega) | exact ⟨_, _, P, TS.mono SB (by omega), (Rs36.le (by omega) (by omega) (by omega) (by omega))⟩ | exact ⟨_, _, P, TS.mono (by assumption) (by omega), (Rs36.le (by omega) (by omega) (by omega) (by omega))⟩)
            · exact ret_O (by first | assumption | exact ref_R Gs14 Qz9_15 t_z9_15.tg (by decide) | exact ⟨by omega, by omega⟩) Gs14 E16 (Qz9_15.le (by omega) (by omega) (by omega) (by omega)) (by first | trivial | assumption | omega | (dsimp only; omega) | exact ⟨_, _, P, TS.mono SB (by omega), (Qz9_15.le (by omega) (by omega) (by omega) (by omega))⟩ | exact ⟨_, _, P, TS.mono (by assumption) (by omega), (Qz9_15.le (by omega) (by omega) (by omega) (by omega))⟩)
          · unfold pc_X7_term_63
            refine wtN (G.tg 19) ?_
            refine cl_O (hB (k := k) (s := s) (o := o) (z := z) (ρ := ρ) (δ := δ) (by omega) (by omega) (by omega) (by omega) (by omega) G (R.le (by omega) (by omega) (by omega) (by omega)) P) (Ext.refl (b := b) (σ := σ)) (by omega) (by omega) (by omega) (by omega) (fun s38 z3_39 rz3_39 Gs38 es38 Rs38 fz3_39 => ?_)
            obtain ⟨ρz3_39, nz3_39, Pz3_39, Sz3_39, Qz3_39⟩ := fz3_39
            have P := Pz3_39
            have t_z3_39 := Sz3_39.n
            have E40 := (Ext.refl (b := b) (σ := σ)).trans es38
            exact ret_O (by first | assumption | exact ref_R Gs38 Qz3_39 t_z3_39.tg (by decide) | exact ⟨by omega, by omega⟩) Gs38 E40 (Qz3_39.le (by omega) (by omega) (by omega) (by omega)) (by first | trivial | assumption | omega | (dsimp only; omega) | exact ⟨_, _, P, TS.mono SB (by omega), (Qz3_39.le (by omega) (by omega) (by omega) (by omega))⟩ | exact ⟨_, _, P, TS.mono (by assumption) (by omega), (Qz3_39.le (by omega) (by omega) (by omega) (by omega))⟩)
    · refine wgN (G.tg 19) (fun z2_41 hz2_41 => ?_)
      have fz2_41 := G.nu 19 7
      have rz2_41 : inR z2_41 := hz2_41 ▸ G.ir _ _
      refine sf_if (fun c42 => ?_) (fun c42 => ?_)
      · unfold pc_X7_term_36
        refine wgN (G.tg 19) (fun z1_43 hz1_43 => ?_)
        have fz1_43 := G.nu 19 7
        have rz1_43 : inR z1_43 := hz1_43 ▸ G.ir _ _
        refine sf_if (fun c44 => ?_) (fun c44 => ?_)
        · unfold pc_X7_term_63
          refine wtN (G.tg 19) ?_
          refine cl_O (hB (k := k) (s := s) (o := o) (z := z) (ρ := ρ) (δ := δ) (by omega) (by omega) (by omega) (by omega) (by omega) G (R.le (by omega) (by omega) (by omega) (by omega)) P) (Ext.refl (b := b) (σ := σ)) (by omega) (by omega) (by omega) (by omega) (fun s45 z3_46 rz3_46 Gs45 es45 Rs45 fz3_46 => ?_)
          obtain ⟨ρz3_46, nz3_46, Pz3_46, Sz3_46, Qz3_46⟩ := fz3_46
          have P := Pz3_46
          have t_z3_46 := Sz3_46.n
          have E47 := (Ext.refl (b := b) (σ := σ)).trans es45
          exact ret_O (by first | assumption | exact ref_R Gs45 Qz3_46 t_z3_46.tg (by decide) | exact ⟨by omega, by omega⟩) Gs45 E47 (Qz3_46.le (by omega) (by omega) (by omega) (by omega)) (by first | trivial | assumption | omega | (dsimp only; omega) | exact ⟨_, _, P, TS.mono SB (by omega), (Qz3_46.le (by omega) (by omega) (by omega) (by omega))⟩ | exact ⟨_, _, P, TS.mono (by assumption) (by omega), (Qz3_46.le (by omega) (by omega) (by omega) (by omega))⟩)
        · refine wgN (G.tg 19) (fun z3_48 hz3_48 => ?_)
          have fz3_48 := G.nu 19 7
          have rz3_48 : inR z3_48 := hz3_48 ▸ G.ir _ _
          refine sf_if (fun c49 => ?_) (fun c49 => ?_)
          · unfold pc_X7_term_63
            refine wtN (G.tg 19) ?_
            refine cl_O (hB (k := k) (s := s) (o := o) (z := z) (ρ := ρ) (δ := δ) (by omega) (by omega) (by omega) (by omega) (by omega) G (R.le (by omega) (by omega) (by omega) (by omega)) P) (Ext.refl (b := b) (σ := σ)) (by omega) (by omega) (by omega) (by omega) (fun s50 z3_51 rz3_51 Gs50 es50 Rs50 fz3_51 => ?_)
            obtain ⟨ρz3_51, nz3_51, Pz3_51, Sz3_51, Qz3_51⟩ := fz3_51
            have P := Pz3_51
            have t_z3_51 := Sz3_51.n
            have E52 := (Ext.refl (b := b) (σ := σ)).trans es50
            exact ret_O (by first | assumption | exact ref_R Gs50 Qz3_51 t_z3_51.tg (by decide) | exact ⟨by omega, by omega⟩) Gs50 E52 (Qz3_51.le (by omega) (by omega) (by omega) (by omega)) (by first | trivial | assumption | omega | (dsimp only; omega) | exact ⟨_, _, P, TS.mono SB (by omega), (Qz3_51.le (by omega) (by omega) (by omega) (by omega))⟩ | exact ⟨_, _, P, TS.mono (by assumption) (by omega), (Qz3_51.le (by omega) (by omega) (by omega) (by omega))⟩)
          · refine wgN (G.tg 19) (fun z5_53 hz5_53 => ?_)
            have fz5_53 := G.nu 19 7
            have rz5_53 : inR z5_53 := hz5_53 ▸ G.ir _ _
            refine sf_if (fun c54 => ?_) (fun c54 => ?_)
            · refine wtN (G.tg 19) ?_
              refine cl_O (hU (k := k) (s := s) (o := o) (z := z) (ρ := ρ) (δ := δ) (by omega) (by omega) (by omega) (by omega) G (R.le (by omega) (by omega) (by omega) (by omega)) P) (Ext.refl (b := b) (σ := σ)) (by omega) (by omega) (by omega) (by omega) (fun s55 z9_56 rz9_56 Gs55 es55 Rs55 fz9_56 => ?_)
              obtain ⟨hd39, ρz9_56, nz9_56, Pz9_56, Sz9_56, Qz9_56⟩ := fz9_56
              have P := Pz9_56
              have t_z9_56 := Sz9_56.n
              have E57 := (Ext.refl (b := b) (σ := σ)).trans es55
              refine wgN (Gs55.tg 19) (fun z10_58 hz10_58 => ?_)
              have fz10_58 := Gs55.nu 19 7
              have rz10_58 : inR z10_58 := hz10_58 ▸ Gs55.ir _ _
              refine sf_if (fun c59 => ?_) (fun c59 => ?_)
              · refine wgN (Gs55.tg 19) (fun z12_60 hz12_60 => ?_)
                have fz12_60 := Gs55.nu 19 8
                have rz12_60 : inR z12_60 := hz12_60 ▸ Gs55.ir _ _
                refine wtN (Gs55.tg 19) ?_
                refine cl_Z (s_advance (k := k + 1 + 20 * ρz9_56 + 3 * nz9_56) (s := s + 6 + 150 * ρz9_56 + 25 * nz9_56) (o := o) (z := z + 0 + 3 * ρz9_56) (by omega) Gs55 (Qz9_56.le (by omega) (by omega) (by omega) (by omega)) P.1 (P.pos (by omega) (by omega))) (fun s61 z15_62 rz15_62 Gs61 es61 Rs61 fz15_62 => ?_)
                obtain ⟨ρz15_62, hρz15_62, Pz15_62⟩ := fz15_62
                subst hρz15_62
                have P := Pz15_62
                have E63 := E57.trans es61
                have t_z9_56 := t_z9_56.up es61
                have Sz9_56 := Sz9_56.up es61
                refine wtN (Gs61.tg 19) ?_
                refine cl_Z (s_newId (k := k + 21 + 3 * nz9_56 + 20 * ρz15_62) (s := s + 156 + 25 * nz9_56 + 150 * ρz15_62) (o := o) (z := z + 2 + 3 * ρz15_62) (by omega) Gs61 (Rs61.le (by omega) (by omega) (by omega) (by omega))) (fun s64 z18_65 rz18_65 Gs64 es64 Rs64 fz18_65 => ?_)
                obtain ⟨fz18_65, Fi_z18_65⟩ := fz18_65
                have P := P.fr (fun f hf => Fi_z18_65 _ _ (Or.inr hf)) (fun f => Fi_z18_65 _ _ (Or.inl (by omega)))
                have E66 := E63.trans es64
                have t_z9_56 := t_z9_56.up es64
                have Sz9_56 := Sz9_56.up es64
                refine wck ⟨by omega, by omega⟩ (fun z19_67 hz19_67 => ?_)
                refine wtN (Gs64.tg 19) ?_
                refine cl_O (hT (k := k + 20 + 3 * nz9_56) (s := s + 150 + 25 * nz9_56) (o := o) (z := z + 2) (ρ := ρz15_62) (δ := δ + 1) (by omega) (by omega) (by omega) Gs64 (Rs64.le (by omega) (by omega) (by omega) (by omega)) P) E66 (by omega) (by omega) (by omega) (by omega) (fun s68 z22_69 rz22_69 Gs68 es68 Rs68 fz22_69 => ?_)
                obtain ⟨ρz22_69, nz22_69, Pz22_69, Sz22_69, Qz22_69⟩ := fz22_69
                have P := Pz22_69
                have t_z22_69 := Sz22_69.n
                have E70 := E66.trans es68
                have t_z9_56 := t_z9_56.up es68
                have Sz9_56 := Sz9_56.up es68
                refine cl_Z (s_binder (k := k + 20 + 3 * nz9_56 + 20 * ρz22_69 + 3 * nz22_69) (s := s + 145 + 25 * nz9_56 + 150 * ρz22_69 + 25 * nz22_69) (o := o) (z := z + 2 + 3 * ρz22_69) (by omega) Gs68 (Qz22_69.le (by omega) (by omega) (by omega) (by omega)) ⟨by omega, by omega⟩ (by first | assumption | exact ⟨by omega, by omega⟩) (by omega) t_z9_56 (by first | assumption | exact ref_R Gs68 Qz22_69 t_z9_56.tg (by decide)) t_z22_69 (by first | assumption | exact ref_R Gs68 Qz22_69 t_z22_69.tg (by decide))) (fun s71 z25_72 rz25_72 Gs71 es71 Rs71 fz25_72 => ?_)
                obtain ⟨t_z25_72, v0_z25_72, v6_z25_72, v7_z25_72, Fn_z25_72⟩ := fz25_72
                have E73 := E70.trans es71
                have t_z9_56 := t_z9_56.up es71
                have Sz9_56 := Sz9_56.up es71
                have Sz22_69 := Sz22_69.up es71
                have P := P.nw Gs68 Fn_z25_72
                have SB := TS.bind t_z25_72 v6_z25_72 v7_z25_72 (Sz9_56.mono (h' := 2 * (40 - δ) + 1) (by omega)) (Sz22_69.mono (by omega))
                refine wp t_z25_72.tg (fun s74 ws74 => ?_)
                obtain ⟨Gs74, es74, Rs74, Fs74⟩ := P7 Gs71 Rs71 t_z25_72.n ws74 (by first | assumption | exact inR_of _ | exact ⟨by omega, by omega⟩) (by omega)
                have P := P.fr (fun f _ => Fs74 _ _ (Or.inl (Gs71.ne 19 (by decide) (by rw [t_z25_72.tg.2]; decide)))) (fun f => Fs74 _ _ (Or.inl (Gs71.ne 20 (by decide) (by rw [t_z25_72.tg.2]; decide))))
                have E75 := E73.trans es74
                have t_z9_56 := t_z9_56.up es74
                have t_z25_72 := t_z25_72.up es74
                have Sz9_56 := Sz9_56.up es74
                have Sz22_69 := Sz22_69.up es74
                have SB := SB.up es74
                refine wg t_z9_56.tg (fun z27_76 hz27_76 => ?_)
                have rz27_76 : inR z27_76 := hz27_76 ▸ Gs74.ir _ _
                refine wp t_z25_72.tg (fun s77 ws77 => ?_)
                obtain ⟨Gs77, es77, Rs77, Fs77⟩ := P7 Gs74 Rs74 t_z25_72.n ws77 (by first | assumption | exact inR_of _ | exact ⟨by omega, by omega⟩) (by omega)
                have P := P.fr (fun f _ => Fs77 _ _ (Or.inl (Gs74.ne 19 (by decide) (by rw [t_z25_72.tg.2]; decide)))) (fun f => Fs77 _ _ (Or.inl (Gs74.ne 20 (by decide) (by rw [t_z25_72.tg.2]; decide))))
                have E78 := E75.trans es77
                have t_z25_72 := t_z25_72.up es77
                have Sz9_56 := Sz9_56.up es77
                have Sz22_69 := Sz22_69.up es77
                have SB := SB.up es77
                exact ret_O (by first | assumption | exact ref_R Gs77 Rs77 t_z25_72.tg (by decide) | exact ⟨by omega, by omega⟩) Gs77 E78 (Rs77.le (by omega) (by omega) (by omega) (by omega)) (by first | trivial | assumption | omega | (dsimp only; omega) | exact ⟨_, _, P, TS.mono SB (by omega), (Rs77.le (by omega) (by omega) (by omega) (by omega))⟩ | exact ⟨_, _, P, TS.mono (by assumption) (by omega), (Rs77.le (by omega) (by omega) (by omega) (by omega))⟩)
              · exact ret_O (by first | assumption | exact ref_R Gs55 Qz9_56 t_z9_56.tg (by decide) | exact ⟨by omega, by omega⟩) Gs55 E57 (Qz9_56.le (by omega) (by omega) (by omega) (by omega)) (by first | trivial | assumption | omega | (dsimp only; omega) | exact ⟨_, _, P, TS.mono SB (by omega), (Qz9_56.le (by omega) (by omega) (by omega) (by omega))⟩ | exact ⟨_, _, P, TS.mono (by assumption) (by omega), (Qz9_56.le (by omega) (by omega) (by omega) (by omega))⟩)
            · unfold pc_X7_term_63
              refine wtN (G.tg 19) ?_
              refine cl_O (hB (k := k) (s := s) (o := o) (z := z) (ρ := ρ) (δ := δ) (by omega) (by omega) (by omega) (by omega) (by omega) G (R.le (by omega) (by omega) (by omega) (by omega)) P) (Ext.refl (b := b) (σ := σ)) (by omega) (by omega) (by omega) (by omega) (fun s79 z3_80 rz3_80 Gs79 es79 Rs79 fz3_80 => ?_)
              obtain ⟨ρz3_80, nz3_80, Pz3_80, Sz3_80, Qz3_80⟩ := fz3_80
              have P := Pz3_80
              have t_z3_80 := Sz3_80.n
              have E81 := (Ext.refl (b := b) (σ := σ)).trans es79
              exact ret_O (by first | assumption | exact ref_R Gs79 Qz3_80 t_z3_80.tg (by decide) | exact ⟨by omega, by omega⟩) Gs79 E81 (Qz3_80.le (by omega) (by omega) (by omega) (by omega)) (by first | trivial | assumption | omega | (dsimp only; omega) | exact ⟨_, _, P, TS.mono SB (by omega), (Qz3_80.le (by omega) (by omega) (by omega) (by omega))⟩ | exact ⟨_, _, P, TS.mono (by assumption) (by omega), (Qz3_80.le (by omega) (by omega) (by omega) (by omega))⟩)
      · refine wgF (G.tg 19) (G.fi 23 (i := 19) (f := 1) (j := 2)) ?_
        refine wgN (G.tg 19) (fun z5_83 hz5_83 => ?_)
        have fz5_83 := G.nu 19 8
        have rz5_83 : inR z5_83 := hz5_83 ▸ G.ir _ _
        refine wtN (G.tg 2) ?_
        refine cl_Z (s_set (k := k + 1 + 20 * ρ) (s := s + 6 + 150 * ρ) (o := o) (z := z + 0 + 3 * ρ) (by omega) G (R.le (by omega) (by omega) (by omega) (by omega)) ⟨by omega, by omega⟩ (by first | assumption | exact inR_of _ | exact ⟨by omega, by omega⟩)) (fun s84 z8_85 rz8_85 Gs84 es84 Rs84 fz8_85 => ?_)
        have E86 := (Ext.refl (b := b) (σ := σ)).trans es84
        exact thr_O Gs84 E86 (Rs84.le (by omega) (by omega) (by omega) (by omega))
end CTM
