section CTR
variable {bd : cBd} {b d : Nat} {σ σ1 σ2 σ3 : CS} {Q : CS → Nat → Int → Prop} {k s o z : Nat}
variable {e ρ : Nat}
def sg (g : Nat → Nat) : Nat → Nat
  | 0 => 0
  | n + 1 => sg g n + g n
theorem sg_le {g : Nat → Nat} {i : Nat} : ∀ {n : Nat}, i < n → g i ≤ sg g n
  | 0, h => by omega
  | n + 1, h => by
    show g i ≤ sg g n + g n
    by_cases c : i = n
    · subst c; omega
    · have := sg_le (g := g) (n := n) (i := i) (by omega)
      omega
theorem sg_ext {g g' : Nat → Nat} : ∀ {n : Nat}, (∀ i, i < n → g i = g' i) → sg g n = sg g' n
  | 0, _ => rfl
  | n + 1, h => by
    show sg g n + g n = sg g' n + g' n
    rw [sg_ext (fun i hi => h i (by omega)), h n (by omega)]
/-- a term as a text has it: its height, its size -/
def TS (b : Nat) (σ : CS) : Nat → Int → Nat → Prop
  | 0, _, _ => False
  | h + 1, x, n => oN σ x ∧ 1 ≤ n ∧ (c_pv σ x.toNat 6 < 0 ∨ (oB σ x ∧ ∃ n1 n2, TS b σ h (c_pv σ x.toNat 6) n1 ∧ TS b σ h (c_pv σ x.toNat 7) n2 ∧ n1 + n2 + 1 ≤ n) ∨ ∃ N, oV b σ x N ∧ ∃ (n1 : Nat) (g : Nat → Nat), TS b σ h (c_pv σ x.toNat 6) n1 ∧ (∀ i, i < N → 1 ≤ g i ∧ TS b σ h (c_pv σ (c_pv σ x.toNat 8).toNat i) (g i - 1)) ∧ n1 + sg g N + 1 ≤ n)
theorem TS.upz {σ' : CS} : ∀ {h : Nat} {x : Int} {n : Nat}, TS b σ h x n → Ext0 b σ σ' → TS b σ' h x n
  | 0, _, _, t, _ => t.elim
  | h + 1, x, n, ⟨t1, t2, t3⟩, e => by
    have e6 := e.nd t1.2 6 (by omega)
    have e7 := e.nd t1.2 7 (by omega)
    have e8 := e.nd t1.2 8 (by omega)
    refine ⟨t1.upz e, t2, ?_⟩
    rw [e6, e7, e8]
    rcases t3 with q | ⟨q1, n1, n2, q2, q3, q4⟩ | ⟨N, q1, n1, g, q2, q3, q4⟩
    · exact Or.inl q
    · exact Or.inr (Or.inl ⟨q1.upz e, n1, n2, TS.upz q2 e, TS.upz q3 e, q4⟩)
    · refine Or.inr (Or.inr ⟨N, q1.upz e, n1, g, TS.upz q2 e, fun i hi => ?_, q4⟩)
      rw [e.ar q1.2.1.1.2 q1.2.1.2.1]
      exact ⟨(q3 i hi).1, TS.upz (q3 i hi).2 e⟩
theorem TS.up {σ' : CS} {h : Nat} {x : Int} {n : Nat} (t : TS b σ h x n) (e : Ext b σ σ') : TS b σ' h x n := t.upz e.z
theorem TS.succ : ∀ {h : Nat} {x : Int} {n : Nat}, TS b σ h x n → TS b σ (h + 1) x n
  | 0, _, _, t => t.elim
  | h + 1, x, n, ⟨t1, t2, t3⟩ => by
    refine ⟨t1, t2, ?_⟩
    rcases t3 with q | ⟨q1, n1, n2, q2, q3, q4⟩ | ⟨N, q1, n1, g, q2, q3, q4⟩
    · exact Or.inl q
    · exact Or.inr (Or.inl ⟨q1, n1, n2, TS.succ q2, TS.succ q3, q4⟩)
    · exact Or.inr (Or.inr ⟨N, q1, n1, g, TS.succ q2, fun i hi => ⟨(q3 i hi).1, TS.succ (q3 i hi).2⟩, q4⟩)
theorem TS.mono {h h' : Nat} {x : Int} {n : Nat} (t : TS b σ h x n) (hh : h ≤ h') : TS b σ h' x n := by
  obtain ⟨j, rfl⟩ : ∃ j, h' = h + j := ⟨h' - h, by omega⟩
  clear hh
  induction j with
  | zero => exact t
  | succ j ih => exact TS.succ ih
theorem TS.n {h : Nat} {x : Int} {n : Nat} (t : TS b σ h x n) : oN σ x := by
  cases h with
  | zero => exact t.elim
  | succ h => exact t.1
theorem TS.one {h : Nat} {x : Int} {n : Nat} (t : TS b σ h x n) : 1 ≤ n := by
  cases h with
  | zero => exact t.elim
  | succ h => exact t.2.1
theorem TS.leaf {h : Nat} {x : Int} (t : oN σ x) (hx : c_pv σ x.toNat 6 < 0) (hh : 1 ≤ h) : TS b σ h x 1 := by
  obtain ⟨j, rfl⟩ : ∃ j, h = j + 1 := ⟨h - 1, by omega⟩
  exact ⟨t, by omega, Or.inl hx⟩
theorem TS.bind {h n1 n2 : Nat} {x y w : Int} (t : oB σ x) (h6 : c_pv σ x.toNat 6 = y) (h7 : c_pv σ x.toNat 7 = w) (t1 : TS b σ h y n1) (t2 : TS b σ h w n2) : TS b σ (h + 1) x (n1 + n2 + 1) := ⟨t.1, by omega, Or.inr (Or.inl ⟨t, n1, n2, by rw [h6]; exact t1, by rw [h7]; exact t2, by omega⟩)⟩
theorem TS.use {h n1 N : Nat} {g : Nat → Nat} {x y w : Int} (t : oV b σ x N) (h6 : c_pv σ x.toNat 6 = y) (h8 : c_pv σ x.toNat 8 = w) (t1 : TS b σ h y n1) (t2 : ∀ i, i < N → 1 ≤ g i ∧ TS b σ h (c_pv σ w.toNat i) (g i - 1)) : TS b σ (h + 1) x (n1 + sg g N + 1) := ⟨t.1.1, by omega, Or.inr (Or.inr ⟨N, t, n1, g, by rw [h6]; exact t1, by rw [h8]; exact t2, by omega⟩)⟩
/-- a Node without parts -/
def oN6 (σ : CS) (x : Int) : Prop := oN σ x ∧ c_pv σ x.toNat 6 < 0
theorem oN6.mk {x : Int} (h : oN σ x) (h6 : c_pv σ x.toNat 6 < 0) : oN6 σ x := ⟨h, h6⟩
theorem oN6.up {σ' : CS} {x : Int} (h : oN6 σ x) (e : Ext b σ σ') : oN6 σ' x := ⟨h.1.up e, by rw [e.z.nd h.1.2 6 (by omega)]; exact h.2⟩

theorem rQ.adv {σ' : CS} (h : rQ b e σ (ρ + 1)) (h20 : ∀ f, c_pv σ' (b + 20) f = c_pv σ (b + 20) f) (h6 : c_pv σ' (b + 19) 6 = c_pv σ (b + 19) 6 + 1) (h7 : c_pv σ' (b + 19) 7 = c_pv σ (b + 20) (c_pv σ (b + 19) 6).toNat) (h5 : c_pv σ' (b + 19) 5 = c_pv σ (b + 19) 5) : rP b e σ' ρ := by
  obtain ⟨a1, a2, a3, a4, a7⟩ := h
  refine ⟨⟨a1, by rw [h20]; exact a2, by omega, by omega, by omega⟩, by omega, ?_⟩
  rw [h7, h20]
  congr 1
  omega
theorem s_advance (hd : 6 ≤ d) (G : GG bd b σ) (R : RR bd b σ (k) (s) (o) (z)) (P : rQ b e σ ρ) (hρ : 1 ≤ ρ) : sf (RC bd d 109 σ [((b + 19 : Nat) : Int)]) (PZ bd b σ k s o z (fun σ' _ => ∃ ρ', ρ = ρ' + 1 ∧ rP b e σ' ρ')) := by
  obtain ⟨d, rfl⟩ : ∃ d0, d = d0 + 1 := ⟨d - 1, by omega⟩
  rw [rc_X7_advance (by omega)]
  refine fin_Z ?_
  unfold pc_X7_advance_0
  obtain ⟨ρ, rfl⟩ : ∃ q, ρ = q + 1 := ⟨ρ - 1, by omega⟩
  have p1 := P.1
  have p3 := P.2.2.1
  have p4 := P.2.2.2.1
  refine wgN (G.tg 19) (fun z1_1 hz1_1 => ?_)
  have fz1_1 := G.nu 19 6
  have rz1_1 : inR z1_1 := hz1_1 ▸ G.ir _ _
  refine wgF (G.tg 19) (G.fi 24 (i := 19) (f := 2) (j := 20)) ?_
  refine wlN (G.tg 20) (G.ln 20 (n := 4001)) (by decide) (fun z3_3 hz3_3 => ?_)
  refine sf_if (fun c4 => ?_) (fun c4 => ?_)
  · refine wgF (G.tg 19) (G.fi 24 (i := 19) (f := 2) (j := 20)) ?_
    refine wgN (G.tg 19) (fun z6_6 hz6_6 => ?_)
    have fz6_6 := G.nu 19 6
    have rz6_6 : inR z6_6 := hz6_6 ▸ G.ir _ _
    have i6 : z6_6 = z1_1 := by omega
    refine wrN (G.tg 20) (G.ln 20 (n := 4001)) ⟨by omega, by omega⟩ (fun z7_7 hz7_7 => ?_)
    have fz7_7 := G.nu 20 (z6_6 : Int).toNat (lo := -1000) (hi := 1000)
    have rz7_7 : inR z7_7 := hz7_7 ▸ G.ir _ _
    refine wpN (G.tg 19) (fun s8 ws8 => ?_)
    obtain ⟨Gs8, es8, Rs8, Fs8, Vs8⟩ := P0 G R ws8 (by decide) (by first | assumption | exact inR_of _ | exact ⟨by omega, by omega⟩) (by intro lo hi q; cases q <;> omega)
    have E9 := (Ext.refl (b := b) (σ := σ)).trans es8
    have F8 := Fs8
    have V8 := Vs8
    refine wgF (Gs8.tg 19) (Gs8.fi 25 (i := 19) (f := 3) (j := 21)) ?_
    refine wgN (Gs8.tg 19) (fun z10_11 hz10_11 => ?_)
    have fz10_11 := Gs8.nu 19 6
    have rz10_11 : inR z10_11 := hz10_11 ▸ Gs8.ir _ _
    have a8 := F8 (b + 19) 6 (Or.inr (by decide))
    refine wrN (Gs8.tg 21) (Gs8.ln 21 (n := 4001)) ⟨by omega, by omega⟩ (fun z11_12 hz11_12 => ?_)
    have fz11_12 := Gs8.nu 21 (z10_11 : Int).toNat (lo := 0) (hi := 4000)
    have rz11_12 : inR z11_12 := hz11_12 ▸ Gs8.ir _ _
    refine wpN (Gs8.tg 19) (fun s13 ws13 => ?_)
    obtain ⟨Gs13, es13, Rs13, Fs13, Vs13⟩ := P0 Gs8 Rs8 ws13 (by decide) (by first | assumption | exact inR_of _ | exact ⟨by omega, by omega⟩) (by intro lo hi q; cases q <;> omega)
    have E14 := E9.trans es13
    have F12 := Fs13
    refine wgF (Gs13.tg 19) (Gs13.fi 26 (i := 19) (f := 4) (j := 22)) ?_
    refine wgN (Gs13.tg 19) (fun z14_16 hz14_16 => ?_)
    have fz14_16 := Gs13.nu 19 6
    have rz14_16 : inR z14_16 := hz14_16 ▸ Gs13.ir _ _
    have a12 := F12 (b + 19) 6 (Or.inr (by decide))
    refine wrN (Gs13.tg 22) (Gs13.ln 22 (n := 4001)) ⟨by omega, by omega⟩ (fun z15_17 hz15_17 => ?_)
    have fz15_17 := Gs13.nu 22 (z14_16 : Int).toNat (lo := 0) (hi := 4000)
    have rz15_17 : inR z15_17 := hz15_17 ▸ Gs13.ir _ _
    refine wpN (Gs13.tg 19) (fun s18 ws18 => ?_)
    obtain ⟨Gs18, es18, Rs18, Fs18, Vs18⟩ := P0 Gs13 Rs13 ws18 (by decide) (by first | assumption | exact inR_of _ | exact ⟨by omega, by omega⟩) (by intro lo hi q; cases q <;> omega)
    have E19 := E14.trans es18
    have F16 := Fs18
    refine wgN (Gs18.tg 19) (fun z17_20 hz17_20 => ?_)
    have fz17_20 := Gs18.nu 19 6
    have rz17_20 : inR z17_20 := hz17_20 ▸ Gs18.ir _ _
    have a16 := F16 (b + 19) 6 (Or.inr (by decide))
    refine wck ⟨by omega, by omega⟩ (fun z18_21 hz18_21 => ?_)
    refine wpN (Gs18.tg 19) (fun s22 ws22 => ?_)
    obtain ⟨Gs22, es22, Rs22, Fs22, Vs22⟩ := P0 Gs18 Rs18 ws22 (by decide) (by first | assumption | exact inR_of _ | exact ⟨by omega, by omega⟩) (by intro lo hi q; cases q <;> omega)
    have E23 := E19.trans es22
    have F19 := Fs22
    have V19 := Vs22
    have f6 : c_pv s22 (b + 19) 6 = c_pv σ (b + 19) 6 + 1 := by omega
    have f7 : c_pv s22 (b + 19) 7 = c_pv σ (b + 20) (c_pv σ (b + 19) 6).toNat := by rw [F19 _ _ (Or.inr (by decide)), F16 _ _ (Or.inr (by decide)), F12 _ _ (Or.inr (by decide)), V8, ← hz7_7, ← hz6_6]
    have f5 : c_pv s22 (b + 19) 5 = c_pv σ (b + 19) 5 := by rw [F19 _ _ (Or.inr (by decide)), F16 _ _ (Or.inr (by decide)), F12 _ _ (Or.inr (by decide)), F8 _ _ (Or.inr (by decide))]
    have f20 : ∀ f, c_pv s22 (b + 20) f = c_pv σ (b + 20) f := fun f => by rw [F19 _ _ (Or.inl (by omega)), F16 _ _ (Or.inl (by omega)), F12 _ _ (Or.inl (by omega)), F8 _ _ (Or.inl (by omega))]
    exact ret_Z ⟨by decide, by decide⟩ Gs22 E23 (Rs22.le (by omega) (by omega) (by omega) (by omega)) (by first | trivial | assumption | omega | (dsimp only; omega) | exact ⟨ρ, rfl, P.adv f20 f6 f7 f5⟩)
  · exfalso; omega
theorem s_refuse (hd : 7 ≤ d) (G : GG bd b σ) (R : RR bd b σ (k + 1) (s + 6) (o) (z))  : sf (RC bd d 125 σ [((b + 19 : Nat) : Int)]) (PO bd b σ k s o z (fun _ _ => False)) := by
  obtain ⟨d, rfl⟩ : ∃ d0, d = d0 + 1 := ⟨d - 1, by omega⟩
  rw [rc_X7_refuse (by omega)]
  refine fin_O ?_
  unfold pc_X7_refuse_0
  refine wgF (G.tg 19) (G.fi 23 (i := 19) (f := 1) (j := 2)) ?_
  refine wgN (G.tg 19) (fun z2_2 hz2_2 => ?_)
  have fz2_2 := G.nu 19 7
  have rz2_2 : inR z2_2 := hz2_2 ▸ G.ir _ _
  refine sf_if (fun c3 => ?_) (fun c3 => ?_)
  · unfold pc_X7_refuse_19
    refine wgN (G.tg 19) (fun z1_4 hz1_4 => ?_)
    have fz1_4 := G.nu 19 8
    have rz1_4 : inR z1_4 := hz1_4 ▸ G.ir _ _
    refine wtN (G.tg 2) ?_
    refine cl_Z (s_set (k := k + 1) (s := s + 6) (o := o) (z := z) (by omega) G (R.le (by omega) (by omega) (by omega) (by omega)) ⟨by omega, by omega⟩ (by first | assumption | exact inR_of _ | exact ⟨by omega, by omega⟩)) (fun s5 z4_6 rz4_6 Gs5 es5 Rs5 fz4_6 => ?_)
    have E7 := (Ext.refl (b := b) (σ := σ)).trans es5
    exact thr_O Gs5 E7 (Rs5.le (by omega) (by omega) (by omega) (by omega))
  · unfold pc_X7_refuse_19
    refine wgN (G.tg 19) (fun z1_8 hz1_8 => ?_)
    have fz1_8 := G.nu 19 8
    have rz1_8 : inR z1_8 := hz1_8 ▸ G.ir _ _
    refine wtN (G.tg 2) ?_
    refine cl_Z (s_set (k := k + 1) (s := s + 6) (o := o) (z := z) (by omega) G (R.le (by omega) (by omega) (by omega) (by omega)) ⟨by omega, by omega⟩ (by first | assumption | exact inR_of _ | exact ⟨by omega, by omega⟩)) (fun s9 z4_10 rz4_10 Gs9 es9 Rs9 fz4_10 => ?_)
    have E11 := (Ext.refl (b := b) (σ := σ)).trans es9
    exact thr_O Gs9 E11 (Rs9.le (by omega) (by omega) (by omega) (by omega))
theorem s_expect (hd : 8 ≤ d) (G : GG bd b σ) (R : RR bd b σ (k + 1) (s + 6) (o) (z)) {x : Int} (P : rP b e σ ρ) (hx : x ≠ 260 ∧ x ≠ 261) : sf (RC bd d 116 σ [((b + 19 : Nat) : Int), x]) (PO bd b σ k s o z (fun σ' _ => ∃ ρ', ρ = ρ' + 1 ∧ rP b e σ' ρ' ∧ RR bd b σ' (k + 1) (s + 6) o z)) := by
  obtain ⟨d, rfl⟩ : ∃ d0, d = d0 + 1 := ⟨d - 1, by omega⟩
  rw [rc_X7_expect (by omega)]
  refine fin_O ?_
  unfold pc_X7_expect_0
  refine wgN (G.tg 19) (fun z1_1 hz1_1 => ?_)
  have fz1_1 := G.nu 19 7
  have rz1_1 : inR z1_1 := hz1_1 ▸ G.ir _ _
  refine sf_if (fun c2 => ?_) (fun c2 => ?_)
  · unfold pc_X7_expect_12
    refine wtN (G.tg 19) ?_
    refine cl_Z (s_advance (k := k + 1) (s := s + 6) (o := o) (z := z) (by omega) G (R.le (by omega) (by omega) (by omega) (by omega)) P.1 (P.pos (by omega) (by omega))) (fun s3 z3_4 rz3_4 Gs3 es3 Rs3 fz3_4 => ?_)
    obtain ⟨ρz3_4, hρz3_4, Pz3_4⟩ := fz3_4
    subst hρz3_4
    have P := Pz3_4
    have E5 := (Ext.refl (b := b) (σ := σ)).trans es3
    exact ret_O ⟨by decide, by decide⟩ Gs3 E5 (Rs3.le (by omega) (by omega) (by omega) (by omega)) (by first | trivial | assumption | omega | (dsimp only; omega) | exact ⟨_, rfl, P, (Rs3.le (by omega) (by omega) (by omega) (by omega))⟩)
  · refine wtN (G.tg 19) ?_
    refine cl_O (s_refuse (k := k) (s := s) (o := o) (z := z) (by omega) G (R.le (by omega) (by omega) (by omega) (by omega))) (Ext.refl (b := b) (σ := σ)) (by omega) (by omega) (by omega) (by omega) (fun s6 z5_7 rz5_7 Gs6 es6 Rs6 fz5_7 => fz5_7.elim)
theorem s_newId (hd : 6 ≤ d) (G : GG bd b σ) (R : RR bd b σ (k) (s) (o) (z + 1))  : sf (RC bd d 123 σ [((b + 19 : Nat) : Int)]) (PZ bd b σ k s o z (fun σ' r => (1 ≤ r ∧ r ≤ 1000000000) ∧ ∀ a g, (a ≠ b + 19 ∨ g ≠ 10) → c_pv σ' a g = c_pv σ a g)) := by
  obtain ⟨d, rfl⟩ : ∃ d0, d = d0 + 1 := ⟨d - 1, by omega⟩
  rw [rc_X7_newId (by omega)]
  refine fin_Z ?_
  unfold pc_X7_newId_0
  refine wgN (G.tg 19) (fun z1_1 hz1_1 => ?_)
  have fz1_1 := G.nu 19 10
  have rz1_1 : inR z1_1 := hz1_1 ▸ G.ir _ _
  refine wck ⟨by omega, by omega⟩ (fun z2_2 hz2_2 => ?_)
  refine wpN (G.tg 19) (fun s3 ws3 => ?_)
  obtain ⟨Gs3, es3, Rs3, Fs3⟩ := Pcnt G R ws3 (by decide) (by omega)
  have E4 := (Ext.refl (b := b) (σ := σ)).trans es3
  have F3 := Fs3
  have V3 : c_pv s3 (b + 19) 10 = z2_2 := by rw [ws3]; exact cs_p_eq
  refine wgN (Gs3.tg 19) (fun z4_5 hz4_5 => ?_)
  have fz4_5 := Gs3.nu 19 10
  have rz4_5 : inR z4_5 := hz4_5 ▸ Gs3.ir _ _
  exact ret_Z (by first | assumption | exact inR_of _ | exact ⟨by omega, by omega⟩) Gs3 E4 (Rs3.le (by omega) (by omega) (by omega) (by omega)) (by first | trivial | assumption | omega | (dsimp only; omega) | exact ⟨⟨by omega, by omega⟩, F3⟩)
theorem s_takeName (hd : 8 ≤ d) (G : GG bd b σ) (R : RR bd b σ (k + 1 + 20 * ρ) (s + 6 + 150 * ρ) (o) (z + 3 * ρ)) (P : rP b e σ ρ) : sf (RC bd d 130 σ [((b + 19 : Nat) : Int)]) (PO bd b σ k s o z (fun σ' r => ∃ ρ', ρ = ρ' + 1 ∧ rP b e σ' ρ' ∧ (oN σ' r ∧ c_pv σ' r.toNat 6 < 0) ∧ c_pv σ (b + 19) 7 = 256 ∧ RR bd b σ' (k + 20 + 20 * ρ') (s + 145 + 150 * ρ') o (z + 3 + 3 * ρ'))) := by
  obtain ⟨d, rfl⟩ : ∃ d0, d = d0 + 1 := ⟨d - 1, by omega⟩
  rw [rc_X7_takeName (by omega)]
  refine fin_O ?_
  unfold pc_X7_takeName_0
  refine wgN (G.tg 19) (fun z1_1 hz1_1 => ?_)
  have fz1_1 := G.nu 19 7
  have rz1_1 : inR z1_1 := hz1_1 ▸ G.ir _ _
  refine sf_if (fun c2 => ?_) (fun c2 => ?_)
  · unfold pc_X7_takeName_14
    obtain ⟨ρ0, hρ0⟩ : ∃ q, ρ = q + 1 := ⟨ρ - 1, by have := P.pos (by omega) (by omega); omega⟩
    refine wgN (G.tg 19) (fun z1_3 hz1_3 => ?_)
    have fz1_3 := G.nu 19 8
    have rz1_3 : inR z1_3 := hz1_3 ▸ G.ir _ _
    refine wgN (G.tg 19) (fun z2_4 hz2_4 => ?_)
    have fz2_4 := G.nu 19 9
    have rz2_4 : inR z2_4 := hz2_4 ▸ G.ir _ _
    refine cl_Z (s_named (k := k + 20 + 20 * ρ0) (s := s + 145 + 150 * ρ0) (o := o) (z := z + 3 + 3 * ρ0) (by omega) G (R.le (by omega) (by omega) (by omega) (by omega)) ⟨by omega, by omega⟩ ⟨by omega, by omega⟩) (fun s5 z5_6 rz5_6 Gs5 es5 Rs5 fz5_6 => ?_)
    obtain ⟨t_z5_6, v6_z5_6, Fn_z5_6⟩ := fz5_6
    have E7 := (Ext.refl (b := b) (σ := σ)).trans es5
    have P := P.nw G Fn_z5_6
    have q7 := Fn_z5_6 (b + 19) 7 (by have := G.hp; omega)
    have q5 := oN6.mk t_z5_6 v6_z5_6
    refine wtN (Gs5.tg 19) ?_
    refine cl_Z (s_advance (k := k + 20 + 20 * ρ0) (s := s + 145 + 150 * ρ0) (o := o) (z := z + 3 + 3 * ρ0) (by omega) Gs5 (Rs5.le (by omega) (by omega) (by omega) (by omega)) P.1 (P.pos (by omega) (by omega))) (fun s8 z8_9 rz8_9 Gs8 es8 Rs8 fz8_9 => ?_)
    obtain ⟨ρz8_9, hρz8_9, Pz8_9⟩ := fz8_9
    subst hρz8_9
    have P := Pz8_9
    have E10 := E7.trans es8
    have t_z5_6 := t_z5_6.up es8
    have q5 := q5.up es8
    exact ret_O (by first | assumption | exact ref_R Gs8 Rs8 t_z5_6.tg (by decide) | exact ⟨by omega, by omega⟩) Gs8 E10 (Rs8.le (by omega) (by omega) (by omega) (by omega)) (by first | trivial | assumption | omega | (dsimp only; omega) | exact ⟨_, rfl, P, ⟨q5.1, q5.2⟩, by omega, (Rs8.le (by omega) (by omega) (by omega) (by omega))⟩)
  · refine wtN (G.tg 19) ?_
    refine cl_O (s_refuse (k := k + 0 + 20 * ρ) (s := s + 0 + 150 * ρ) (o := o) (z := z + 0 + 3 * ρ) (by omega) G (R.le (by omega) (by omega) (by omega) (by omega))) (Ext.refl (b := b) (σ := σ)) (by omega) (by omega) (by omega) (by omega) (fun s11 z5_12 rz5_12 Gs11 es11 Rs11 fz5_12 => fz5_12.elim)
end CTR
