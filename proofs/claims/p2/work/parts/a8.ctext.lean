section CTX
variable {bd : cBd} {b d : Nat} {σ σ1 σ2 σ3 : CS} {Q : CS → Nat → Int → Prop} {k s o z : Nat}
variable {e ρ : Nat}
theorem s_readText36 (hd : 187 ≤ d) {σe : CS} {x2 : Int} (h3 : c_tg σe x2.toNat = 0) (r2 : inR x2) : ∀ (n : Nat) {σ : CS} {m ρ : Nat} {y x4 : Int} {g : Nat → Nat}, GG bd b σ → Ext b σe σ → oLs bd b σ x2 m y → (y = ((bd.2.2 21 : Nat) : Int) ∨ c_tg σe y.toNat = 0) → rP b e σ ρ → (∀ i, i < m → 1 ≤ g i ∧ SSt b σ (c_pv σ y.toNat i) (g i - 1)) → RR bd b σ (k + 1 + 20 * ρ + 3 * sg g m) (s + 6 + 150 * ρ + 25 * sg g m + lcr m (c_ln σ y.toNat)) o (z + 3 * ρ + 2 * m) → x4 = (m : Int) → m ≤ 4000 → 4001 - m < n → sf (pc_X7_readText_36 (RC bd d) bd n σ ((b + 19 : Nat) : Int) x2 x4) (PO bd b σe k s o z (fun σ' r => ∃ (m : Nat) (y : Int) (g : Nat → Nat), oLs bd b σ' r m y ∧ (∀ i, i < m → 1 ≤ g i ∧ SSt b σ' (c_pv σ' y.toNat i) (g i - 1)) ∧ RR bd b σ' (k + 1 + 3 * sg g m) (s + 6 + 25 * sg g m) o (z + 2 * m) ∧ m ≤ 4001)) := by
  intro n
  induction n with
  | zero =>
    intro σ m ρ y x4 g G E L hy P tg R hx4 hm hn
    omega
  | succ n ih =>
    intro σ m ρ y x4 g G E L hy P tg R hx4 hm hn
    have n5 := G.nu 19 5
    unfold pc_X7_readText_36
    refine wgN (G.tg 19) (fun z1 q1 => ?_)
    have hout : sf (some (σ, 0, x2)) (PO bd b σe k s o z (fun σ' r => ∃ (m : Nat) (y : Int) (g : Nat → Nat), oLs bd b σ' r m y ∧ (∀ i, i < m → 1 ≤ g i ∧ SSt b σ' (c_pv σ' y.toNat i) (g i - 1)) ∧ RR bd b σ' (k + 1 + 3 * sg g m) (s + 6 + 25 * sg g m) o (z + 2 * m) ∧ m ≤ 4001)) := ret_O r2 G E (R.le (by omega) (by omega) (by omega) (by omega)) ⟨m, y, g, L, tg, R.le (by omega) (by omega) (by omega) (by omega), by omega⟩
    refine sf_if (fun c => hout) (fun c => ?_)
    refine wgN (G.tg 19) (fun z3 q3 => ?_)
    refine sf_if (fun c2 => hout) (fun c2 => ?_)
    refine wtN (G.tg 19) ?_
    refine cl_O (s_statement (k := k + 3 * sg g m) (s := s + 25 * sg g m + lcr m (c_ln σ y.toNat)) (o := o) (z := z + 2 * m) (by omega) G (R.le (by omega) (by omega) (by omega) (by omega)) P) E (by omega) (by omega) (by omega) (by omega) (fun σ1 a ra G1 e1 R1 f1 => ?_)
    obtain ⟨ρ1, M, P1, S1, Q1⟩ := f1
    have L1 := L.up e1
    refine sf_t L1.1 ?_
    have hln := e1.ln L.2.2.2.2.2.1.2 (by decide)
    have hld : ∀ f, c_pv σ1 y.toNat f = c_pv σ y.toNat f := fun f => e1.ld L.2.2.2.2.2.1.2 f
    refine sf_cn (s_ladd (k := k + 2 + 20 * ρ1 + 3 * (sg g m + M)) (s := s + 12 + 150 * ρ1 + 25 * (sg g m + M)) (o := o) (z := z + (2 * m + 1) + 3 * ρ1) (by omega) G1 L1 (by omega) ⟨S1.1.1, Or.inr S1.1.2⟩ ra (Q1.le (by omega) (by rw [hln]; omega) (by omega) (by omega))) (fun σ2 kd r hp => ⟨hp.1, ?_⟩)
    obtain ⟨hk, rr, G2, E2, F2, y', R2, L2, hy', hel, hem⟩ := hp
    have E1 := E.trans e1
    have hyf : ∀ a, c_tg σe a ≠ 0 → (a ≠ y.toNat ∨ y = ((bd.2.2 21 : Nat) : Int)) := fun a ha => by
      rcases hy with q | q
      · exact Or.inr q
      · exact Or.inl (fun c3 => ha (by rw [c3]; exact q))
    have E3 : Ext b σe σ2 := E1.own E2 (fun a f _ ha => F2 a f (fun c3 => ha (by rw [c3]; exact h3)) (hyf a ha) (by rw [(E1.2.1 a ha).1]; exact ha))
    have h19 : ∀ i, i < 24 → ∀ f, c_pv σ2 (b + i) f = c_pv σ1 (b + i) f := fun i hi f => F2 _ _ (G1.ne i hi (by rw [L1.1.2]; exact fun q => (gt_ne i hi).2.2.2.2.2.2.1 q.symm)) (Or.inl (G1.ne i hi (by rw [L1.2.2.2.2.2.1.2]; exact fun q => (gt_ne i hi).2.2.2.2.2.2.2 q.symm))) (by rw [(G1.1 i hi).1]; exact (gt_ne i hi).1)
    have P2 : rP b e σ2 ρ1 := P1.fr (fun f _ => h19 19 (by decide) f) (fun f => h19 20 (by decide) f)
    have hst : ∀ (q : Int) (w : Nat), SSt b σ1 q w → SSt b σ2 q w := fun q w t => t.upf E2 (fun f => F2 _ _ (fun c3 => by have := t.1.2; rw [c3, L1.1.2] at this; omega) (Or.inl (fun c3 => by have := t.1.2; rw [c3, L1.2.2.2.2.2.1.2] at this; omega)) (by rw [t.1.2]; decide))
    refine wtN (G2.tg 19) ?_
    refine cl_O (s_expect (k := k + 1 + 20 * ρ1 + 3 * (sg g m + M)) (s := s + 6 + 150 * ρ1 + 25 * (sg g m + M) + lcr (m + 1) (c_ln σ2 y'.toNat)) (o := o) (z := z + (2 * m + 1) + 3 * ρ1) (by omega) G2 (R2.le (by omega) (by omega) (by omega) (by omega)) P2 ⟨by decide, by decide⟩) E3 (by omega) (by omega) (by omega) (by omega) (fun σ3 u ru G3 e3 R3 f3 => ?_)
    obtain ⟨ρ3, hρ3, P3, Q3⟩ := f3
    refine wck ⟨by omega, by omega⟩ (fun z2 q2 => ?_)
    have hln3 := e3.ln L2.2.2.2.2.2.1.2 (by decide)
    refine ih (g := lsum g m (M + 1)) G3 (E3.trans e3) (L2.up e3) ?_ P3 (fun i hi => ?_) ?_ (by omega) (by omega) (by omega)
    · rcases hy' with q | q
      · rw [q]; exact hy
      · exact Or.inr (E1.fresh q)
    · rw [e3.ld L2.2.2.2.2.2.1.2]
      unfold lsum
      by_cases c3 : i = m
      · rw [if_pos c3, c3, hem]; exact ⟨by omega, (hst _ _ S1).up e3⟩
      · rw [if_neg c3, hel i (by omega), hld]
        exact ⟨(tg i (by omega)).1, (hst _ _ ((tg i (by omega)).2.up e1)).up e3⟩
    · rw [lsum_sg, hln3]
      exact R3.le (by omega) (by omega) (by omega) (by omega)
theorem s_readText {x : Int} (hd : 188 ≤ d) (G : GG bd b σ) (R : RR bd b σ (k + 2 + 20 * x.toNat) (s + 49 + 150 * x.toNat) (o) (z + 3 * x.toNat)) (hx : 0 ≤ x ∧ x ≤ 4000) : sf (RC bd d 124 σ [((b + 19 : Nat) : Int), x]) (PO bd b σ k s o z (fun σ' r => ∃ (m : Nat) (y : Int) (g : Nat → Nat), oLs bd b σ' r m y ∧ (∀ i, i < m → 1 ≤ g i ∧ SSt b σ' (c_pv σ' y.toNat i) (g i - 1)) ∧ RR bd b σ' (k + 1 + 3 * sg g m) (s + 6 + 25 * sg g m) o (z + 2 * m) ∧ m ≤ 4001)) := by
  obtain ⟨d, rfl⟩ : ∃ d0, d = d0 + 1 := ⟨d - 1, by omega⟩
  rw [rc_X7_readText (by omega)]
  refine fin_O ?_
  unfold pc_X7_readText_0
  refine wgF (G.tg 19) (G.fi 22 (i := 19) (f := 0) (j := 1)) ?_
  refine wlN (G.tg 1) (G.ln 1 (n := 4000)) (by decide) (fun z2_2 hz2_2 => ?_)
  refine wmn (fun z3_3 hz3_3 => ?_)
  refine wpN (G.tg 19) (fun s4 ws4 => ?_)
  obtain ⟨Gs4, es4, Rs4, Fs4, Vs4⟩ := P0 G R ws4 (by decide) (by first | assumption | exact inR_of _ | exact ⟨by omega, by omega⟩) (by intro lo hi q; cases q <;> omega)
  have E5 := (Ext.refl (b := b) (σ := σ)).trans es4
  have V4 := Vs4
  refine wtN (Gs4.tg 19) ?_
  refine cl_Z (s_scan (k := k + 2 + 20 * x.toNat) (s := s + 49 + 150 * x.toNat) (o := o) (z := z + 0 + 3 * x.toNat) (by omega) Gs4 (Rs4.le (by omega) (by omega) (by omega) (by omega))) (fun s6 z7_7 rz7_7 Gs6 es6 Rs6 fz7_7 => ?_)
  obtain ⟨es, se1, se2, se3⟩ := fz7_7
  have E8 := E5.trans es6
  have s5 := se3
  have z5 : c_pv s6 (b + 19) 5 = x := by omega
  refine wpN (Gs6.tg 19) (fun s9 ws9 => ?_)
  obtain ⟨Gs9, es9, Rs9, Fs9, Vs9⟩ := P0 Gs6 Rs6 ws9 (by decide) ⟨by decide, by decide⟩ (by intro lo hi q; cases q <;> omega)
  have E10 := E8.trans es9
  have F8 := Fs9
  have V8 := Vs9
  have P0 : rQ b es s9 (es + 1) := ⟨by omega, by rw [F8 _ _ (Or.inl (by omega))]; exact se2, by omega, by omega, by rw [F8 _ _ (Or.inr (by decide))]; omega⟩
  refine sf_n (rr_room Gs9 (Rs9.le (k' := (k + 1 + 20 * x.toNat) + 1) (s' := (s + 46 + 150 * x.toNat) + 3) (o' := o) (z' := (z + 0 + 3 * x.toNat)) (by omega) (by omega) (by omega) (by omega))) ?_
  refine mk_list (k := k + 1 + 20 * x.toNat) (s := s + 46 + 150 * x.toNat) (o := o) (z := z + 0 + 3 * x.toNat) (by omega) Gs9 (Rs9.le (by omega) (by omega) (by omega) (by omega))   (fun s11 Gs11 es11 Rs11 fs11 => ?_)
  obtain ⟨t_z10_s11, n_z10_s11, Fm⟩ := fs11
  have E12 := E10.trans es11
  have P0 : rQ b es s11 (es + 1) := by
    have h6 := Fm (b + 19) 6 (by have := Gs9.hp; omega)
    have h5 := Fm (b + 19) 5 (by have := Gs9.hp; omega)
    obtain ⟨a1, a2, a3, a4, a5⟩ := P0
    exact ⟨a1, by rw [Fm _ _ (by have := Gs9.hp; omega)]; exact a2, by omega, by omega, by omega⟩
  have N10 := E10.fresh n_z10_s11
  have r10 := hp_R Gs9 Rs9
  refine wtN (Gs11.tg 19) ?_
  refine cl_Z (s_advance (k := k + 1 + 20 * x.toNat) (s := s + 46 + 150 * x.toNat) (o := o) (z := z + 0 + 3 * x.toNat) (by omega) Gs11 (Rs11.le (by omega) (by omega) (by omega) (by omega)) P0 (by omega)) (fun s13 z16_14 rz16_14 Gs13 es13 Rs13 fz16_14 => ?_)
  obtain ⟨ρ1, hρ1, P⟩ := fz16_14
  have E15 := E12.trans es13
  have t_z10_s11 := t_z10_s11.up es13
  have e0 : sg (fun _ => 0) 0 = 0 := rfl
  have e1 : lcr 0 (c_ln s13 ((bd.2.2 21 : Nat) : Int).toNat) = 40 := by
    have q := Gs13.st.2.1.2.1
    rw [Int.toNat_natCast, q]
    rfl
  exact s_readText36 (by omega) (by rw [Int.toNat_natCast]; exact N10) r10 (g := fun _ => 0) (m := 0) _ Gs13 E15 t_z10_s11 (Or.inl rfl) P (fun i hi => by omega) (Rs13.le (by omega) (by omega) (by omega) (by omega)) rfl (by omega) (by omega)
end CTX
