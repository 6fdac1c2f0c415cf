section RCP
variable {σ σ' σ'' σ0 s : RS} {d : Nat} {S V T U : Int → Prop} {r w w' : Int} {Q : RS → Int → Prop}
theorem q_kindOf {x : Int} (hd : 1 ≤ d) (I : IR σ) (h : x < 140000) : rsf (RF d 33 σ [x]) (fun s b => s = σ ∧ ((x < 0 ∧ b = -1) ∨ (0 ≤ x ∧ b = σ.2 30 x.toNat))) := by
  rw [rq_kindOf (by omega)]
  refine rsf_fin ?_
  unfold pf_kindOf_0
  refine rsf_if (fun c => ?_) (fun c => ?_)
  · exact rsf_rd ⟨by omega, by show _ < ((140000 : Nat) : Int); omega⟩ (fun z q => rsf_some ⟨q ▸ I.2 _ _, rfl, Or.inr ⟨c, q.symm⟩⟩)
  · exact rsf_some ⟨⟨by decide, by decide⟩, rfl, Or.inl ⟨by omega, rfl⟩⟩
/-- under a binder, its name is another -/
theorem q_inside {x1 x2 x3 : Int} (hd : 2 ≤ d) (M : M0 r σ) (h0 : 0 ≤ x1 ∧ x1 < σ.1 39) (h1 : WC σ.2 (σ.1 48) (σ.1 39) (σ.1 27) S V x2) (h3 : inR x3) (hV : x3 < 0 ∧ V x3) (hc : σ.1 48 + r + 1 ≤ 2 * σ.1 64 + 20001) : rsf (RF d 34 σ [x1, x2, x3]) (fun s b => b = σ.1 48 ∧ M0 r s ∧ (∀ w, MF w σ s) ∧ (∀ j, j ≠ 48 → s.1 j = σ.1 j) ∧ s.1 48 = σ.1 48 + 1 ∧ (∀ k, k < 44 ∨ 47 < k → s.2 k = σ.2 k) ∧ WC s.2 (s.1 48) (s.1 39) (s.1 27) S V b ∧ (∀ y, Dom σ.2 x2 y ∨ y = σ.2 38 x1.toNat → Dom s.2 b y)) := by
  rw [rq_inside (by omega)]
  refine rsf_fin ?_
  unfold pf_inside_0
  have b7 := M.2.1.2.2.2.2.2.2.1
  have b6 := M.2.1.2.2.2.2.2.1
  have b3 := M.2.1.2.2.1
  have b11 := M.2.1.2.2.2.2.2.2.2.2.2.2
  have b1 := M.2.1.1
  have b2 := M.2.1.2.1
  refine rsf_rd ⟨by omega, by show _ < ((140000 : Nat) : Int); omega⟩ (fun z1 q1 => ?_)
  refine rsf_cl (q_cell (by omega) M h1 (q1 ▸ M.1.2 _ _) h3 (x4 := 0) ⟨WC.zero, Or.inl hV⟩ hc) (fun s b f => ?_)
  refine rsf_some ⟨⟨by have := f.1; omega, by have := f.1; omega⟩, ?_⟩
  rw [q1]; exact f
/-- what comparing comes to -/
def CP (r : Int) (σ s : RS) (b : Int) : Prop := (b = 0 ∨ b = 1) ∧ (M0 r s ∧ MF (σ.1 51) σ s ∧ BP 0 0 σ s) ∧ s.1 51 = σ.1 51 ∧ (s.1 39 = σ.1 39 ∧ ∀ k, k < 44 ∨ 50 < k → s.2 k = σ.2 k)
def CPa (r : Int) (σ0 σ s : RS) (b : Int) : Prop := (b = 0 ∨ b = 1) ∧ (M0 r s ∧ MF (σ0.1 51) σ0 s ∧ BP 0 0 σ0 s) ∧ σ0.1 51 ≤ s.1 51 ∧ (s.1 39 = σ0.1 39 ∧ ∀ k, k < 44 ∨ 50 < k → s.2 k = σ0.2 k)
/-- the waiting parts, one by one -/
theorem q_alike220 {x3 x7 x10 x12 : Int} (h7 : 0 ≤ x7 ∧ x7 ≤ 100) (cmp : ∀ {s : RS} {a b c e : Int}, M0 r s → WT s S V → COs s S V a b → COs s S V c e → rsf (RF d 35 s [a, b, c, e, x7 + 1]) (CP r s)) : ∀ (n : Nat) {σ : RS} {x11 x13 : Int}, M0 r σ → WT σ S V → (x11 = 0 ∨ (x11 = 1 ∧ x10 ≤ x3 ∧ x3 + x10 = x12)) → σ.1 51 = x12 → 1 ≤ x13 → (x11 = 0 → 1 ≤ n) → (x11 ≠ 0 → x10 - x13 + 3 ≤ (n : Int) ∧ 1 ≤ n) → (x10 ≤ x12 ∧ x12 ≤ 20000) → rsf (pf_alike_220 (RF d) n σ x3 x7 x10 x11 x12 x13) (fun s b => inR b ∧ (b = 0 ∨ b = 1) ∧ (M0 r s ∧ MF x12 σ s ∧ BP 0 0 σ s) ∧ s.1 51 = x12 ∧ (s.1 39 = σ.1 39 ∧ ∀ k, k < 44 ∨ 50 < k → s.2 k = σ.2 k)) := by
  intro n
  induction n with
  | zero => intro σ x11 x13 _ _ _ _ _ h1 h2; omega
  | succ n ih =>
    intro σ x11 x13 M hW hx h51 h13 hn1 hn2 hl
    unfold pf_alike_220
    have fin : rsf (rf_bo x11 (some (σ, x11))) (fun s b => inR b ∧ (b = 0 ∨ b = 1) ∧ (M0 r s ∧ MF x12 σ s ∧ BP 0 0 σ s) ∧ s.1 51 = x12 ∧ (s.1 39 = σ.1 39 ∧ ∀ k, k < 44 ∨ 50 < k → s.2 k = σ.2 k)) :=
      rsf_bo (by omega) (rsf_some ⟨⟨by omega, by omega⟩, by omega, ⟨M, MF.refl, BP.refl⟩, h51, rfl, fun _ _ => rfl⟩)
    refine rsf_if (fun _ => fin) (fun c => ?_)
    refine rsf_if (fun _ => fin) (fun c2 => ?_)
    have hx' : x11 = 1 ∧ x10 ≤ x3 ∧ x3 + x10 = x12 := by omega
    have hn := hn2 c
    refine rsf_ck ⟨by omega, by omega⟩ (fun z3 q3 => ?_)
    refine rsf_rd ⟨by omega, by show _ < ((21000 : Nat) : Int); omega⟩ (fun z4 q4 => ?_)
    refine rsf_ck ⟨by omega, by omega⟩ (fun z5 q5 => ?_)
    refine rsf_rd ⟨by omega, by show _ < ((21000 : Nat) : Int); omega⟩ (fun z6 q6 => ?_)
    refine rsf_ck ⟨by omega, by omega⟩ (fun z7 q7 => ?_)
    refine rsf_rd ⟨by omega, by show _ < ((21000 : Nat) : Int); omega⟩ (fun z8 q8 => ?_)
    refine rsf_ck ⟨by omega, by omega⟩ (fun z9 q9 => ?_)
    refine rsf_rd ⟨by omega, by show _ < ((21000 : Nat) : Int); omega⟩ (fun z10 q10 => ?_)
    refine rsf_ck ⟨by omega, by omega⟩ (fun z11 q11 => ?_)
    have C1 := hW z3 (by omega) (by omega)
    have C2 := hW z7 (by omega) (by omega)
    have e5 : z5 = z3 := by omega
    have e9 : z9 = z7 := by omega
    subst e5 e9 q11
    rw [q4, q6] at C1
    rw [q8, q10] at C2
    refine rsf_cl (cmp M hW C1 C2) (fun s12 z13 f => ?_)
    obtain ⟨f1, ⟨M12, F12, P12⟩, f51, f39, fk⟩ := f
    refine rsf_ck ⟨by omega, by omega⟩ (fun z14 q14 => ?_)
    rw [h51] at F12
    refine rsf_mono (ih M12 (hW.mf F12 (by omega) (by omega)) (by omega) (by omega) (by omega) (by omega) (by omega) hl) (fun s b g => ?_)
    obtain ⟨g0, g1, ⟨g2, g3, g4⟩, g5, g6, g7⟩ := g
    exact ⟨g0, g1, ⟨g2, F12.trans g3, P12.t0 g4⟩, g5, g6.trans f39, fun k hk => (g7 k hk).trans (fk k hk)⟩
theorem M0.p57 {x : Int} (M : M0 r σ) (q : s = rs_i σ 57 x) (hx : 0 ≤ x ∧ x ≤ σ.1 64) : M0 r s ∧ (∀ w, MF w σ s) := by
  have F : ∀ w, MF w σ s := fun w => MF.p q rfl (by decide) (by decide) (by decide)
  obtain ⟨b1, b2, b3, b4, b5, b6, b7, b8, b9, b10, b11⟩ := M.2.1
  have n : ∀ j, j ≠ 57 → s.1 j = σ.1 j := fun j hj => rs_i_n q hj
  refine ⟨M.mf (F 0) (M.1.p q ⟨by omega, by omega⟩) ?_ (M.2.2.2.2.eq (by rw [rs_i_2 q]) (by rw [rs_i_2 q])), F⟩
  unfold BG
  rw [rs_i_e q, n 63 (by decide), n 64 (by decide), n 65 (by decide), n 48 (by decide), n 51 (by decide), n 39 (by decide), n 75 (by decide), n 66 (by decide), n 67 (by decide), n 68 (by decide), n 69 (by decide), n 70 (by decide), n 71 (by decide), n 72 (by decide), n 62 (by decide)]
  exact ⟨b1, b2, b3, b4, hx, b6, b7, b8, b9, b10, b11⟩
/-- within a comparison: two cells and a fresh name are paid for -/
def CS0 (r : Int) (σ0 σ : RS) : Prop := M0 r σ ∧ MF (σ0.1 51) σ0 σ ∧ BP (-2) 0 σ0 σ ∧ σ.1 57 + 1 ≤ σ0.1 57 + (σ.1 64 - σ0.1 64) ∧ (σ.1 39 = σ0.1 39 ∧ ∀ k, k < 44 ∨ 50 < k → σ.2 k = σ0.2 k) ∧ (σ0.1 51 ≤ σ.1 51)
/-- what alike comes to -/
def AP (r : Int) (σ0 s : RS) (b : Int) : Prop := (b = 0 ∨ b = 1) ∧ (M0 r s ∧ MF (σ0.1 51) σ0 s ∧ BP 0 0 σ0 s) ∧ (s.1 39 = σ0.1 39 ∧ ∀ k, k < 44 ∨ 50 < k → s.2 k = σ0.2 k)
theorem q_alike34 {x1 x2 x5 x6 x7 : Int} (hd : 2 ≤ d) (h7 : 0 ≤ x7 ∧ x7 ≤ 100) (cmp : ∀ {s : RS} {a b c e : Int}, M0 r s → WT s S inR → COs s S inR a b → COs s S inR c e → rsf (RF d 35 s [a, b, c, e, x7 + 1]) (CP r s)) (B0 : BG r σ0) (H : CS0 r σ0 σ) (hW : WT σ S inR) (h1 : COs σ S inR x1 x2) (h5 : COs σ S inR x5 x6) (p1 : 0 ≤ x1) (p5 : 0 ≤ x5) (k1 : 4 ≤ σ.2 30 x1.toNat ∧ σ.2 30 x1.toNat ≤ 6) (k5 : 4 ≤ σ.2 30 x5.toNat ∧ σ.2 30 x5.toNat ≤ 6) : rsf (pf_alike_34 (RF d) σ x1 x2 x5 x6 x7) (fun s b => inR b ∧ AP r σ0 s b) := by
  unfold pf_alike_34
  obtain ⟨M, F, P, h57, ⟨e39, ek⟩, h51⟩ := H
  obtain ⟨b1, b2, b3, b4, b5, b6, b7, b8, b9, b10, b11⟩ := M.2.1
  have rg1 := CLU.rg h1
  have rg5 := CLU.rg h5
  refine rsf_rd ⟨by omega, by show _ < ((140000 : Nat) : Int); omega⟩ (fun z1 q1 => ?_)
  refine rsf_rd ⟨by omega, by show _ < ((140000 : Nat) : Int); omega⟩ (fun z2 q2 => ?_)
  refine rsf_ck ⟨by omega, by omega⟩ (fun z3 q3 => ?_)
  subst q1 q2 q3
  refine rsf_cl (cmp M hW (h1.bi p1 k1).1 (h5.bi p5 k5).1) (fun s4 z5 f => ?_)
  obtain ⟨f1, ⟨M4, F4, P4⟩, f51, f39, fk⟩ := f
  have F04 : MF (σ0.1 51) σ0 s4 := F.trans (F4.le h51)
  have P04 := P.trans P4
  have k04 : ∀ k, k < 44 ∨ 50 < k → s4.2 k = σ0.2 k := fun k hk => (fk k hk).trans (ek k hk)
  refine rsf_if (fun c => ?_) (fun c => ?_)
  · obtain ⟨u1, u2, u3, u4, u5, u6⟩ := P04
    obtain ⟨y1, y2, y3, y4, y5, y6⟩ := P4
    obtain ⟨a1, a2, a3, a4, a5, a6, a7, a8, a9, a10, a11⟩ := M4.2.1
    obtain ⟨o1, o2, o3, o4, o5, o6, o7, o8, o9, o10, o11⟩ := B0
    refine rsf_gi (fun z7 q7 => rsf_ck ⟨by omega, by omega⟩ (fun z8 q8 => rsf_gi (fun z9 q9 => rsf_ck ⟨by omega, by omega⟩ (fun z10 q10 => rsf_pi (fun s11 w11 => ?_)))))
    obtain ⟨M11, F11⟩ := M4.p57 w11 ⟨by omega, by omega⟩
    have n11 : ∀ j, j ≠ 57 → s11.1 j = s4.1 j := fun j hj => rs_i_n w11 hj
    have e11 := rs_i_2 w11
    have v57 := rs_i_e w11
    have v39 := n11 39 (by decide)
    have v48 := n11 48 (by decide)
    have v64 := n11 64 (by decide)
    have v51 := n11 51 (by decide)
    have v65 := n11 65 (by decide)
    have v75 := n11 75 (by decide)
    have Fx : MF 0 σ s11 := (F4.le (by omega)).trans (F11 0)
    have h1' : COs s11 S inR x1 x2 := h1.mf Fx
    have h5' : COs s11 S inR x5 x6 := h5.mf Fx
    have a30 : s11.2 30 = σ.2 30 := by rw [e11]; exact fk 30 (by omega)
    have hz8 : inR z8 := ⟨by omega, by omega⟩
    refine rsf_cl (q_inside (by omega) M11 ⟨p1, by omega⟩ h1'.1 hz8 ⟨by omega, hz8⟩ (by omega)) (fun s12 z13 f => ?_)
    obtain ⟨f1', M12, F12, n12, f48, k12, W12, D12⟩ := f
    have C12 : COs s12 S inR (s11.2 33 x1.toNat) z13 := (h1'.bi p1 (by rw [a30]; exact k1)).2 (F12 0) (n12 39 (by decide)) W12 D12
    have h5'' : COs s12 S inR x5 x6 := h5'.mf (F12 0)
    have m39 := n12 39 (by decide)
    have m64 := n12 64 (by decide)
    have m51 := n12 51 (by decide)
    have m57 := n12 57 (by decide)
    have m65 := n12 65 (by decide)
    have m75 := n12 75 (by decide)
    refine rsf_cl (q_inside (by omega) M12 ⟨p5, by omega⟩ h5''.1 hz8 ⟨by omega, hz8⟩ (by omega)) (fun s14 z15 f => ?_)
    obtain ⟨f2', M14, F14, n14, g48, k14, W14, D14⟩ := f
    have i39 := n14 39 (by decide)
    have i64 := n14 64 (by decide)
    have i51 := n14 51 (by decide)
    have i57 := n14 57 (by decide)
    have i65 := n14 65 (by decide)
    have i75 := n14 75 (by decide)
    have C14 : COs s14 S inR (s12.2 33 x5.toNat) z15 := (h5''.bi p5 (by rw [k12 30 (by omega), a30]; exact k5)).2 (F14 0) (n14 39 (by decide)) W14 D14
    have C12' : COs s14 S inR (s11.2 33 x1.toNat) z13 := C12.mf (F14 0)
    refine rsf_rd ⟨by omega, by show _ < ((140000 : Nat) : Int); omega⟩ (fun z16 q16 => ?_)
    refine rsf_rd ⟨by omega, by show _ < ((140000 : Nat) : Int); omega⟩ (fun z17 q17 => ?_)
    refine rsf_ck ⟨by omega, by omega⟩ (fun z18 q18 => ?_)
    subst q18
    rw [k14 33 (by omega)] at q17
    rw [k14 33 (by omega), k12 33 (by omega)] at q16
    rw [q17] at C14
    rw [q16] at C12'
    have F14a : ∀ w, MF w s4 s14 := fun w => ((F11 w).trans (F12 w)).trans (F14 w)
    have hW14 : WT s14 S inR := hW.mf (F4.trans (F14a _)) (by omega) (by omega)
    refine rsf_cl (cmp M14 hW14 C12' C14) (fun s19 z20 f => ?_)
    obtain ⟨g1, ⟨M19, F19, P19⟩, g51, g39, gk⟩ := f
    refine rsf_bo g1 (rsf_some ⟨⟨by omega, by omega⟩, g1, ⟨M19, (F04.trans (F14a _)).trans (F19.le (by omega)), ?_⟩, by omega, fun k hk => ?_⟩)
    · obtain ⟨t1, t2, t3, t4, t5, t6⟩ := P19
      exact ⟨by omega, by omega, by omega, by omega, by omega, by omega⟩
    · rw [gk k hk, k14 k (by omega), k12 k (by omega), e11, k04 k hk]
  · exact rsf_bo (by omega) (rsf_some ⟨⟨by decide, by decide⟩, by omega, ⟨M4, F04, P04.le (by omega) (by omega)⟩, by omega, k04⟩)
theorem q_alike209 {x3 x7 x10 t0 : Int} (h7 : 0 ≤ x7 ∧ x7 ≤ 100) (cmp : ∀ {s : RS} {a b c e : Int}, M0 r s → WT s S inR → COs s S inR a b → COs s S inR c e → rsf (RF d 35 s [a, b, c, e, x7 + 1]) (CP r s)) (H : CS0 r σ0 σ) (hW : WT σ S inR) (ht : t0 = 0 ∨ (t0 = 1 ∧ x10 ≤ x3 ∧ x3 + x10 = σ.1 51)) (h10 : x10 ≤ σ.1 51) : rsf (pf_alike_209 (RF d) σ x3 x7 x10 t0) (fun s b => inR b ∧ AP r σ0 s b) := by
  unfold pf_alike_209
  obtain ⟨M, F, P, h57, ⟨e39, ek⟩, h51⟩ := H
  obtain ⟨b1, b2, b3, b4, b5, b6, b7, b8, b9, b10, b11⟩ := M.2.1
  refine rsf_gi (fun z1 q1 => ?_)
  subst q1
  refine rsf_mono (q_alike220 h7 cmp 200000 M hW ht rfl (by omega) (by omega) (by omega) ⟨h10, by omega⟩) (fun s b g => ?_)
  obtain ⟨g0, g1, ⟨g2, g3, g4⟩, g5, g6, g7⟩ := g
  exact ⟨g0, g1, ⟨g2, F.trans (g3.le h51), (P.trans g4).le (by omega) (by omega)⟩, by omega, fun k hk => (g7 k hk).trans (ek k hk)⟩
theorem q_alike188 {x1 x3 x5 x7 x10 : Int} (h7 : 0 ≤ x7 ∧ x7 ≤ 100) (cmp : ∀ {s : RS} {a b c e : Int}, M0 r s → WT s S inR → COs s S inR a b → COs s S inR c e → rsf (RF d 35 s [a, b, c, e, x7 + 1]) (CP r s)) (H : CS0 r σ0 σ) (hW : WT σ S inR) (hx : x10 ≤ x3 ∧ x3 + x10 = σ.1 51) (h10 : x10 ≤ σ.1 51) (p1 : 0 ≤ x1 ∧ x1 < 140000) (p5 : 0 ≤ x5 ∧ x5 < 140000) : rsf (pf_alike_188 (RF d) σ x1 x3 x5 x7 x10) (fun s b => inR b ∧ AP r σ0 s b) := by
  unfold pf_alike_188
  refine rsf_rd ⟨by omega, by show _ < ((140000 : Nat) : Int); omega⟩ (fun z1 q1 => ?_)
  refine rsf_rd ⟨by omega, by show _ < ((140000 : Nat) : Int); omega⟩ (fun z2 q2 => ?_)
  refine rsf_if (fun _ => ?_) (fun _ => ?_)
  · exact q_alike209 h7 cmp H hW (Or.inl rfl) h10
  · exact q_alike209 h7 cmp H hW (Or.inr ⟨rfl, hx⟩) h10
theorem q_alike {x1 x2 x3 x5 x6 x7 : Int} (hd : 3 ≤ d) (h7 : 0 ≤ x7 ∧ x7 ≤ 100) (cmp : ∀ {s : RS} {a b c e : Int}, M0 r s → WT s S inR → COs s S inR a b → COs s S inR c e → rsf (RF (d - 1) 35 s [a, b, c, e, x7 + 1]) (CP r s)) (B0 : BG r σ0) (H : CS0 r σ0 σ) (hW : WT σ S inR) (h1 : COs σ S inR x1 x2) (h5 : COs σ S inR x5 x6) (h3 : σ0.1 51 ≤ x3 ∧ x3 ≤ σ.1 51) : rsf (RF d 36 σ [x1, x2, x3, σ0.1 51, x5, x6, x7]) (AP r σ0) := by
  rw [rq_alike (by omega)]
  refine rsf_fin ?_
  unfold pf_alike_0
  have M := H.1
  obtain ⟨b1, b2, b3, b4, b5, b6, b7, b8, b9, b10, b11⟩ := M.2.1
  have o4 := B0.2.2.2.1
  have rg1 := CLU.rg h1
  have rg5 := CLU.rg h5
  refine rsf_cl (q_kindOf (by omega) M.1 (by omega)) (fun s1 z2 f => ?_)
  obtain ⟨e1, f⟩ := f
  subst e1
  refine rsf_cl (q_kindOf (by omega) M.1 (by omega)) (fun s3 z4 g => ?_)
  obtain ⟨e3, g⟩ := g
  subst e3
  have bind : (z2 = 4 ∨ z2 = 5) → z2 = z4 → rsf (pf_alike_34 (RF (d - 1)) s3 x1 x2 x5 x6 x7) (fun s b => inR b ∧ AP r σ0 s b) := fun hz he => by
    have p1 : 0 ≤ x1 ∧ s3.2 30 x1.toNat = z2 := by rcases f with f | f <;> omega
    have p5 : 0 ≤ x5 ∧ s3.2 30 x5.toNat = z4 := by rcases g with g | g <;> omega
    exact q_alike34 (by omega) h7 cmp B0 H hW h1 h5 p1.1 p5.1 (by omega) (by omega)
  have rest : rsf (pf_alike_131 (RF (d - 1)) s3 x1 x3 (σ0.1 51) x5 x7 z2 z4) (fun s b => inR b ∧ AP r σ0 s b) := by
    unfold pf_alike_131
    refine rsf_ck ⟨by omega, by omega⟩ (fun z1 q1 => ?_)
    have no : rsf (pf_alike_208 (RF (d - 1)) s3 x3 x7 z1) (fun s b => inR b ∧ AP r σ0 s b) := by
      unfold pf_alike_208
      exact q_alike209 h7 cmp H hW (Or.inl rfl) (by omega)
    refine rsf_if (fun _ => no) (fun c => ?_)
    refine rsf_gi (fun z3 q3 => rsf_ck ⟨by omega, by omega⟩ (fun z5 q5 => ?_))
    refine rsf_if (fun _ => no) (fun c2 => ?_)
    refine rsf_if (fun c3 => ?_) (fun c3 => ?_)
    · have p1 : 0 ≤ x1 := by rcases f with f | f <;> omega
      have p5 : 0 ≤ x5 := by rcases g with g | g <;> omega
      have yes : rsf (pf_alike_188 (RF (d - 1)) s3 x1 x3 x5 x7 z1) (fun s b => inR b ∧ AP r σ0 s b) := q_alike188 h7 cmp H hW (by omega) (by omega) ⟨p1, by omega⟩ ⟨p5, by omega⟩
      refine rsf_if (fun _ => yes) (fun _ => rsf_if (fun _ => yes) (fun _ => rsf_if (fun _ => no) (fun _ => yes)))
    · refine rsf_if (fun _ => no) (fun _ => ?_)
      unfold pf_alike_204
      exact q_alike209 h7 cmp H hW (Or.inr ⟨rfl, by omega⟩) (by omega)
  refine rsf_if (fun _ => rest) (fun c => ?_)
  refine rsf_if (fun c2 => bind (Or.inl c2) (by omega)) (fun c2 => ?_)
  exact rsf_if (fun _ => rest) (fun c3 => bind (Or.inr (by omega)) (by omega))
/-- two terms compared -/
theorem q_compare : ∀ (k : Nat) {d : Nat} {σ : RS} {x1 x2 x3 x4 x5 : Int}, x5 = 100 - (k : Int) → k ≤ 100 → 2 * k + 8 ≤ d → M0 r σ → WT σ S inR → COs σ S inR x1 x2 → COs σ S inR x3 x4 → rsf (RF d 35 σ [x1, x2, x3, x4, x5]) (CP r σ) := by
  intro k
  induction k with
  | zero =>
    intro d σ x1 x2 x3 x4 x5 h5 hk hd M hW h1 h3
    rw [rq_compare (by omega)]
    refine rsf_fin ?_
    unfold pf_compare_0
    refine rsf_cl (q_look (by omega) M) (fun s1 z2 f => ?_)
    obtain ⟨f, fx⟩ := f
    refine rsf_if (fun c => ?_) (fun c => ?_)
    · exfalso
      rcases f.2.2.2.2 with g | g
      · omega
      · have := fx g.1; omega
    · have P := f.b0 (Or.inr ⟨by omega, by omega⟩)
      obtain ⟨M1, F1, e1, n1, g1⟩ := f
      exact rsf_bo (by omega) (rsf_some ⟨⟨by decide, by decide⟩, by omega, ⟨M1, F1 _, P⟩, n1 51 (by decide) (by decide) (by decide) (by decide) (by decide), n1 39 (by decide) (by decide) (by decide) (by decide) (by decide), fun _ _ => by rw [e1]⟩)
  | succ k ih =>
    intro d σ x1 x2 x3 x4 x5 h5 hk hd M hW h1 h3
    rw [rq_compare (by omega)]
    refine rsf_fin ?_
    unfold pf_compare_0
    refine rsf_cl (q_look (by omega) M) (fun s1 z2 f => ?_)
    obtain ⟨f, fx⟩ := f
    have P0 := f.b0 (Or.inr ⟨by omega, by omega⟩)
    have P1 := f.bp (Or.inr ⟨by omega, by omega⟩)
    obtain ⟨M1, F1, e1, n1, g1⟩ := f
    have n51 := n1 51 (by decide) (by decide) (by decide) (by decide) (by decide)
    have n39 := n1 39 (by decide) (by decide) (by decide) (by decide) (by decide)
    have n57 := n1 57 (by decide) (by decide) (by decide) (by decide) (by decide)
    refine rsf_if (fun c => ?_) (fun c => ?_)
    · have g1' : z2 = 1 ∧ s1.1 64 = σ.1 64 + 1 := by rcases g1 with g | g <;> omega
      refine rsf_gi (fun z4 q4 => ?_)
      have hW1 : WT s1 S inR := hW.mf (F1 (σ.1 51)) (by omega) (by omega)
      refine rsf_cl (q_head (by omega) (fun _ q => q) M1 hW1 (h1.mf (F1 0))) (fun s5 z6 f5 => ?_)
      obtain ⟨⟨M5, F5, P5⟩, W5, C5, h51, ⟨m39, mk⟩, _⟩ := f5
      refine rsf_gi (fun z7 q7 => rsf_gi (fun z8 q8 => rsf_gi (fun z9 q9 => ?_)))
      have F05 : MF (σ.1 51) σ s5 := (F1 _).trans (F5.le (by omega))
      refine rsf_cl (q_head (by omega) (fun _ q => q) M5 W5 (h3.mf F05)) (fun s10 z11 f10 => ?_)
      obtain ⟨⟨M10, F10, P10⟩, W10, C10, i51, ⟨i39, ik⟩, _⟩ := f10
      refine rsf_gi (fun z12 q12 => rsf_gi (fun z13 q13 => rsf_gi (fun z14 q14 => ?_)))
      have F010 : MF (σ.1 51) σ s10 := F05.trans (F10.le (by omega))
      have K010 : ∀ k, k < 44 ∨ 50 < k → s10.2 k = σ.2 k := fun k hk => by rw [ik k hk, mk k hk, e1]
      have P010 : BP (-2) 0 σ s10 := ((P1.trans P5).trans P10).le (by omega) (by omega)
      have b4 := M.2.1.2.2.2.1
      have fin : ∀ {s : RS} {x : Int}, (x = 0 ∨ x = 1) → (M0 r s ∧ MF (σ.1 51) σ s ∧ BP 0 0 σ s) → (s.1 39 = σ.1 39 ∧ ∀ k, k < 44 ∨ 50 < k → s.2 k = σ.2 k) → rsf (rf_pi s 51 z4 (fun s' => rf_bo x (some (s', x)))) (fun s b => inR b ∧ CP r σ s b) := fun {s x} hx ⟨Ms, Fs, Ps⟩ ⟨hn, hs⟩ => by
        refine rsf_pi (fun s' w' => rsf_bo hx ?_)
        have := Ps.1
        obtain ⟨M', F', P'⟩ := Ms.p51 w' ⟨by omega, by omega⟩
        exact rsf_some ⟨⟨by omega, by omega⟩, hx, ⟨M', Fs.trans (F' _), Ps.t0 P'⟩, by rw [rs_i_e w']; omega, by rw [rs_i_n w' (by decide)]; exact hn, fun k hk => by rw [rs_i_2 w']; exact hs k hk⟩
      refine rsf_if (fun _ => ?_) (fun c14 => ?_)
      · unfold pf_compare_92
        exact fin (Or.inl rfl) ⟨M10, F010, P010.le (by omega) (by omega)⟩ ⟨by omega, K010⟩
      · have H : CS0 r σ s10 := by
          refine ⟨M10, F010, P010, ?_, ⟨by omega, K010⟩, by omega⟩
          have a := P5.2.2.2.2.2
          have b := P10.2.2.2.2.2
          omega
        have e4 : z4 = σ.1 51 := by omega
        rw [e4]
        refine rsf_cl (q_alike (by omega) ⟨by omega, by omega⟩ (fun {s a b c e} A1 A2 A3 A4 => ih (by omega) (by omega) (by omega) A1 A2 A3 A4) M.2.1 H W10 (by rw [← q7, ← q8]; exact C5.mf F10) (by rw [← q12, ← q13]; exact C10) ⟨by omega, by omega⟩) (fun s16 z17 f => ?_)
        obtain ⟨f1, f2, f3⟩ := f
        rw [← e4]
        refine rsf_if (fun _ => ?_) (fun c17 => ?_)
        · unfold pf_compare_92
          exact fin (Or.inl rfl) f2 f3
        · exact fin (Or.inr rfl) f2 f3
    · exact rsf_bo (by omega) (rsf_some ⟨⟨by decide, by decide⟩, by omega, ⟨M1, F1 _, P0⟩, n51, n39, fun _ _ => by rw [e1]⟩)
end RCP
