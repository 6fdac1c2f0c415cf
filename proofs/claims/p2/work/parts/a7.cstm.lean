section CST
variable {bd : cBd} {b d : Nat} {σ σ1 σ2 σ3 : CS} {Q : CS → Nat → Int → Prop} {k s o z : Nat}
variable {e ρ : Nat}
/-- a statement that is not filled yet -/
def oS0 (b : Nat) (σ : CS) (x : Int) : Prop := (0 ≤ x ∧ c_tg σ x.toNat = 10) ∧ b + 24 ≤ x.toNat
theorem oS0.tg {x : Int} (h : oS0 b σ x) : 0 ≤ x ∧ c_tg σ x.toNat = 10 := h.1
theorem oS0.up {σ' : CS} {x : Int} (h : oS0 b σ x) (e : Ext b σ σ') : oS0 b σ' x := ⟨⟨h.1.1, e.tg h.1.2 (by decide)⟩, h.2⟩
theorem mk_stm0 {σ1 : CS} (G : GG bd b σ) (R : RR bd b σ (k + 1) (s + 5) o z) (e : σ1 = cs_n σ 10 5) : GG bd b σ1 ∧ Ext b σ σ1 ∧ RR bd b σ1 k s o z ∧ oS0 b σ1 ((c_hp σ : Nat) : Int) ∧ (∀ a f, a ≠ c_hp σ → c_pv σ1 a f = c_pv σ a f) ∧ c_tg σ ((c_hp σ : Nat) : Int).toNat = 0 := by
  subst e
  rw [cs_n_o]
  have hg := gg_stm G (F := fun g => if cw_isR 10 g = true then -1 else 0) (fun f => by split <;> exact ⟨by decide, by decide⟩) (Or.inl ⟨rfl, by decide⟩)
  have ha : ((c_hp σ : Nat) : Int).toNat = c_hp σ := Int.toNat_natCast _
  refine ⟨hg.1, hg.2, rr_new G R, ⟨new_t, by rw [ha]; exact G.hp⟩, fun a f ha => cs_o_pn ha, ?_⟩
  rw [ha]
  by_cases c : c_tg σ (c_hp σ) = 0
  · exact c
  · have := G.lt c
    omega
theorem gg_at (G : GG bd b σ) {σ' : CS} {a : Nat} (ht : c_tg σ' = c_tg σ) (hl : c_ln σ' = c_ln σ) (hh : c_hp σ' = c_hp σ) (hF : ∀ q f, q ≠ a → c_pv σ' q f = c_pv σ q f) (ha : c_tg σ a = 10) (hb : b + 24 ≤ a) (ho : oSt σ' (c_pv σ' a)) (hr : ∀ f, inR (c_pv σ' a f)) : GG bd b σ' ∧ Ext0 b σ σ' := by
  have hE : Ext0 b σ σ' := by
    refine ⟨by rw [hh]; exact Nat.le_refl _, fun q _ => ⟨by rw [ht], by rw [hl]⟩, fun q f hq => hF q f (fun c => ?_)⟩
    subst c
    unfold fz0 at hq
    omega
  have hne : ∀ i, i < 24 → b + i ≠ a := fun i hi => by omega
  refine ⟨⟨fun i hi => by rw [ht, hl]; exact G.1 i hi, fun q hq => ?_, ⟨fun i' f' lo hi' hi2 hr2 => ?_, fun j => ?_⟩, ?_, fun q => ?_, fun q f => ?_, ?_⟩, hE⟩
  · have hq2 : q.1 < 24 := (by decide : ∀ q ∈ gF, q.1 < 24) q hq
    rw [hF _ _ (hne _ hq2)]; exact G.2.1 q hq
  · rw [hF _ _ (hne _ hi2)]; exact G.2.2.1.1 i' f' lo hi' hi2 hr2
  · rw [hF _ _ (hne 17 (by decide)), hF _ _ (hne 16 (by decide))]; exact G.2.2.1.2 j
  · exact hw_same G.2.2.2.1 (fun j => hF _ _ (hne 12 (by decide))) (fun j => hF _ _ (hne 13 (by decide))) (fun j => hF _ _ (hne 15 (by decide))) (hF _ _ (hne 9 (by decide))) (fun x q => q.upz hE)
  · by_cases c : q = a
    · subst c
      unfold OI
      rw [ht, ha]
      exact ⟨fun c => by omega, fun c => by omega, fun c => by omega, fun c => by omega, fun _ => ho⟩
    · exact (G.oi q).up hE (by rw [ht]) (fun f => hF q f c)
  · by_cases c : q = a
    · subst c; exact hr f
    · rw [hF q f c]; exact G.ir q f
  · obtain ⟨⟨s1, s2, s3, s3c⟩, ⟨s4, s5, s6⟩, s7, s8, s9, s10⟩ := G.st
    exact ⟨⟨by rw [ht]; exact s1, by rw [hl]; exact s2, s3, fun i hi => (hF _ _ (by omega)).trans (s3c i hi)⟩, ⟨by rw [ht]; exact s4, by rw [hl]; exact s5, s6⟩, s7, fun q hq => by rw [hh]; rw [ht] at hq; exact s8 q hq, by rw [hh]; exact s9, s10⟩
/-- a statement: its parts, their size -/
def SSt (b : Nat) (σ : CS) (x : Int) (M : Nat) : Prop := (0 ≤ x ∧ c_tg σ x.toNat = 10) ∧ oK (c_pv σ x.toNat 0) (c_pv σ x.toNat 2) (c_pv σ x.toNat 3) (c_pv σ x.toNat 4) σ ∧ (3 ≤ c_pv σ x.toNat 0 → ∃ n1 n2, TS b σ 82 (c_pv σ x.toNat 3) n1 ∧ (c_pv σ x.toNat 4 < 0 ∨ TS b σ 82 (c_pv σ x.toNat 4) n2) ∧ n1 + n2 ≤ M)
theorem SSt.tg {x : Int} {M : Nat} (h : SSt b σ x M) : 0 ≤ x ∧ c_tg σ x.toNat = 10 := h.1
theorem SSt.upf {σ' : CS} {x : Int} {M : Nat} (h : SSt b σ x M) (e : Ext0 b σ σ') (hf : ∀ f, c_pv σ' x.toNat f = c_pv σ x.toNat f) : SSt b σ' x M := by
  obtain ⟨h1, h2, h3⟩ := h
  refine ⟨⟨h1.1, e.tg h1.2 (by decide)⟩, ?_, ?_⟩
  · rw [hf, hf, hf, hf]; exact h2.upz e
  · rw [hf, hf, hf]
    intro c
    obtain ⟨n1, n2, a1, a2, a3⟩ := h3 c
    exact ⟨n1, n2, a1.upz e, Or.imp_right (fun q => q.upz e) a2, a3⟩
theorem SSt.up {σ' : CS} {x : Int} {M : Nat} (h : SSt b σ x M) (e : Ext b σ σ') : SSt b σ' x M := h.upf e.z (fun f => e.sm h.1.2 f)
theorem ci_stm (hd : 7 ≤ d) (G : GG bd b σ) (R : RR bd b σ k s o z) {x x1 x2 x3 x4 x5 : Int} {M : Nat} (hx : 0 ≤ x ∧ c_tg σ x.toNat = 10) (hb : b + 24 ≤ x.toNat) (hK : oK x1 x3 x4 x5 σ ∧ (3 ≤ x1 → ∃ n1 n2, TS b σ 82 x4 n1 ∧ (x5 < 0 ∨ TS b σ 82 x5 n2) ∧ n1 + n2 ≤ M)) (hr : inR x1 ∧ inR x2 ∧ inR x3 ∧ inR x4 ∧ inR x5) {K : CS → CO} (kk : ∀ σ', GG bd b σ' → Ext0 b σ σ' → RR bd b σ' k s o z → SSt b σ' x M → (∀ q f, q ≠ x.toNat → c_pv σ' q f = c_pv σ q f) → sf (K σ') Q) : sf (cc_ci (RC bd d 137 σ [x, x1, x2, x3, x4, x5]) K) Q := by
  refine sf_ci (P := fun σ' kd r => kd = 0 ∧ σ' = cs_p (cs_p (cs_p (cs_p (cs_p σ x.toNat 0 x1) x.toNat 1 x2) x.toNat 2 x3) x.toNat 3 x4) x.toNat 4 x5) ?_ (fun σ' kd r hp => ⟨hp.1, ?_⟩)
  · obtain ⟨d, rfl⟩ : ∃ d0, d = d0 + 1 := ⟨d - 1, by omega⟩
    rw [rc_X9_init (by omega)]
    refine sf_fin ?_
    unfold pc_X9_init_0
    refine sf_t hx ?_
    refine sf_p hx ?_
    refine sf_p hx ?_
    refine sf_p hx ?_
    refine sf_p hx ?_
    refine sf_p hx ?_
    exact sf_some ⟨⟨by decide, by decide⟩, rfl, rfl⟩
  · obtain ⟨hk, hs⟩ := hp
    have hF : ∀ q f, q ≠ x.toNat → c_pv σ' q f = c_pv σ q f := fun q f hq => by rw [hs, cs_p_na hq, cs_p_na hq, cs_p_na hq, cs_p_na hq, cs_p_na hq]
    have f0 : c_pv σ' x.toNat 0 = x1 := by rw [hs, cs_p_nf (by decide), cs_p_nf (by decide), cs_p_nf (by decide), cs_p_nf (by decide), cs_p_eq]
    have f2 : c_pv σ' x.toNat 2 = x3 := by rw [hs, cs_p_nf (by decide), cs_p_nf (by decide), cs_p_eq]
    have f3 : c_pv σ' x.toNat 3 = x4 := by rw [hs, cs_p_nf (by decide), cs_p_eq]
    have f4 : c_pv σ' x.toNat 4 = x5 := by rw [hs, cs_p_eq]
    have ht : c_tg σ' = c_tg σ := by rw [hs]; rfl
    have hl : c_ln σ' = c_ln σ := by rw [hs]; rfl
    have hh : c_hp σ' = c_hp σ := by rw [hs]; rfl
    have hE : Ext0 b σ σ' := by
      refine ⟨by rw [hh]; exact Nat.le_refl _, fun q _ => ⟨by rw [ht], by rw [hl]⟩, fun q f hq => hF q f (fun c => ?_)⟩
      subst c
      unfold fz0 at hq
      omega
    have hg := gg_at G ht hl hh hF hx.2 hb (Or.inr (by rw [f0, f2, f3, f4]; exact hK.1.upz hE)) (fun f => by
      rw [hs]
      exact cs_p_ir (cs_p_ir (cs_p_ir (cs_p_ir (cs_p_ir G.ir hr.1) hr.2.1) hr.2.2.1) hr.2.2.2.1) hr.2.2.2.2 _ _)
    have hR : RR bd b σ' k s o z := by
      obtain ⟨a1, a2, a3, a4⟩ := R
      have hs2 : c_sl σ' = c_sl σ := by rw [hs]; rfl
      unfold RR
      rw [hh, hs2, hF _ _ (by omega), hF _ _ (by omega), hF _ _ (by omega), hF _ _ (by omega), hF _ _ (by omega), hF _ _ (by omega)]
      exact ⟨a1, a2, a3, a4⟩
    refine kk σ' hg.1 hg.2 hR ⟨⟨hx.1, by rw [ht]; exact hx.2⟩, by rw [f0, f2, f3, f4]; exact hK.1.upz hE, ?_⟩ hF
    rw [f0, f3, f4]
    intro c
    obtain ⟨n1, n2, a1, a2, a3⟩ := hK.2 c
    exact ⟨n1, n2, a1.upz hE, Or.imp_right (fun q => q.upz hE) a2, a3⟩
theorem s_axiomStm (hd : 185 ≤ d) (G : GG bd b σ) (R : RR bd b σ (k + 1 + 20 * ρ) (s + 6 + 150 * ρ) (o) (z + 3 * ρ)) (P : rP b e σ ρ) {x : Int} (rx : inR x) : sf (RC bd d 112 σ [((b + 19 : Nat) : Int), x]) (PO bd b σ k s o z (fun σ' r => ∃ ρ' M, rP b e σ' ρ' ∧ SSt b σ' r M ∧ RR bd b σ' (k + 3 + 20 * ρ' + 3 * M) (s + 18 + 150 * ρ' + 25 * M) o (z + 1 + 3 * ρ'))) := by
  obtain ⟨d, rfl⟩ : ∃ d0, d = d0 + 1 := ⟨d - 1, by omega⟩
  rw [rc_X7_axiom (by omega)]
  refine fin_O ?_
  unfold pc_X7_axiom_0
  refine wtN (G.tg 19) ?_
  refine cl_O (s_takeName (k := k) (s := s) (o := o) (z := z) (by omega) G (R.le (by omega) (by omega) (by omega) (by omega)) P) (Ext.refl (b := b) (σ := σ)) (by omega) (by omega) (by omega) (by omega) (fun s1 z3_2 rz3_2 Gs1 es1 Rs1 fz3_2 => ?_)
  obtain ⟨ρz3_2, hρz3_2, Pz3_2, q6z3_2, k7z3_2, Qz3_2⟩ := fz3_2
  subst hρz3_2
  have P := Pz3_2
  have t_z3_2 := q6z3_2.1
  have Sz3_2 := TS.leaf (b := b) (h := 1) q6z3_2.1 q6z3_2.2 (by decide)
  have E3 := (Ext.refl (b := b) (σ := σ)).trans es1
  refine wtN (Gs1.tg 19) ?_
  refine cl_O (s_expect (k := k + 19 + 20 * ρz3_2) (s := s + 139 + 150 * ρz3_2) (o := o) (z := z + 3 + 3 * ρz3_2) (by omega) Gs1 (Qz3_2.le (by omega) (by omega) (by omega) (by omega)) P ⟨by omega, by omega⟩) E3 (by omega) (by omega) (by omega) (by omega) (fun s4 z6_5 rz6_5 Gs4 es4 Rs4 fz6_5 => ?_)
  obtain ⟨ρz6_5, hρz6_5, Pz6_5, Qz6_5⟩ := fz6_5
  subst hρz6_5
  have P := Pz6_5
  have E6 := E3.trans es4
  have t_z3_2 := t_z3_2.up es4
  have Sz3_2 := Sz3_2.up es4
  obtain ⟨hms7, hrs7⟩ := mk_row_room Gs4 (n := 5) (Qz6_5.le (k' := (k + 39 + 20 * ρz6_5) + 1) (s' := (s + 290 + 150 * ρz6_5) + 5) (o' := o) (z' := (z + 6 + 3 * ρz6_5)) (by omega) (by omega) (by omega) (by omega))
  refine wn hms7 (fun s7 ws7 => ?_)
  obtain ⟨Gs7, es7, Rs7, t_s7, Fs7, Ns7⟩ := mk_stm0 Gs4 hrs7 ws7
  have P := P.nw Gs4 Fs7
  have rst := hp_R Gs4 hrs7
  have N10 := E6.fresh Ns7
  have E8 := E6.trans es7
  have t_z3_2 := t_z3_2.up es7
  have Sz3_2 := Sz3_2.up es7
  refine wtN (Gs7.tg 19) ?_
  refine cl_O (s_takeName (k := k + 38) (s := s + 284) (o := o) (z := z + 6) (by omega) Gs7 (Rs7.le (by omega) (by omega) (by omega) (by omega)) P) E8 (by omega) (by omega) (by omega) (by omega) (fun s9 z11_10 rz11_10 Gs9 es9 Rs9 fz11_10 => ?_)
  obtain ⟨ρz11_10, hρz11_10, Pz11_10, q6z11_10, k7z11_10, Qz11_10⟩ := fz11_10
  subst hρz11_10
  have P := Pz11_10
  have t_z11_10 := q6z11_10.1
  have Sz11_10 := TS.leaf (b := b) (h := 1) q6z11_10.1 q6z11_10.2 (by decide)
  have E11 := E8.trans es9
  have t_z3_2 := t_z3_2.up es9
  have t_s7 := t_s7.up es9
  have Sz3_2 := Sz3_2.up es9
  refine sf_t t_s7.tg ?_
  refine ci_stm (by omega) Gs9 Qz11_10 t_s7.tg t_s7.2 (M := 0) ⟨⟨⟨by decide, by decide⟩, fun _ => t_z3_2, fun q => by omega, fun _ => t_z11_10, fun q => by omega, fun q => by omega, oNN.nul (by decide)⟩, fun q => by omega⟩ ⟨⟨by decide, by decide⟩, (by first | assumption | exact inR_of _ | exact ⟨by omega, by omega⟩), (by first | assumption | exact ref_R Gs9 Qz11_10 t_z3_2.tg (by decide)), (by first | assumption | exact ref_R Gs9 Qz11_10 t_z11_10.tg (by decide)), ⟨by decide, by decide⟩⟩ (fun s12 Gs12 es12 Rs12 Ts12 Fs12 => ?_)
  have Es12 := E11.own es12 (fun q f _ hq => Fs12 q f (fun c9 => hq (by rw [c9]; exact N10)))
  have P := P.fr (fun f _ => Fs12 _ _ (by have := t_s7.2; omega)) (fun f => Fs12 _ _ (by have := t_s7.2; omega))
  have Sz3_2 := Sz3_2.upz es12
  have Sz11_10 := Sz11_10.upz es12
  exact ret_O (by first | assumption | exact ref_R Gs12 Rs12 t_s7.tg (by decide) | exact ⟨by omega, by omega⟩) Gs12 Es12 (Rs12.le (by omega) (by omega) (by omega) (by omega)) (by first | trivial | assumption | omega | (dsimp only; omega) | exact ⟨_, _, P, Ts12, (Rs12.le (by omega) (by omega) (by omega) (by omega))⟩)
theorem s_sameStm (hd : 185 ≤ d) (G : GG bd b σ) (R : RR bd b σ (k + 1 + 20 * ρ) (s + 6 + 150 * ρ) (o) (z + 3 * ρ)) (P : rP b e σ ρ) {x : Int} (rx : inR x) : sf (RC bd d 126 σ [((b + 19 : Nat) : Int), x]) (PO bd b σ k s o z (fun σ' r => ∃ ρ' M, rP b e σ' ρ' ∧ SSt b σ' r M ∧ RR bd b σ' (k + 3 + 20 * ρ' + 3 * M) (s + 18 + 150 * ρ' + 25 * M) o (z + 1 + 3 * ρ'))) := by
  obtain ⟨d, rfl⟩ : ∃ d0, d = d0 + 1 := ⟨d - 1, by omega⟩
  rw [rc_X7_sameStatement (by omega)]
  refine fin_O ?_
  unfold pc_X7_sameStatement_0
  refine wtN (G.tg 19) ?_
  refine cl_O (s_term _ (k := k) (s := s) (o := o) (z := z) (ρ := ρ) (δ := 0) (by omega) (by omega) (by omega) G (R.le (by omega) (by omega) (by omega) (by omega)) P) (Ext.refl (b := b) (σ := σ)) (by omega) (by omega) (by omega) (by omega) (fun s1 z3_2 rz3_2 Gs1 es1 Rs1 fz3_2 => ?_)
  obtain ⟨ρz3_2, nz3_2, Pz3_2, Sz3_2, Qz3_2⟩ := fz3_2
  have P := Pz3_2
  have t_z3_2 := Sz3_2.n
  have E3 := (Ext.refl (b := b) (σ := σ)).trans es1
  refine wtN (Gs1.tg 19) ?_
  refine cl_O (s_expect (k := k + 0 + 20 * ρz3_2 + 3 * nz3_2) (s := s + 0 + 150 * ρz3_2 + 25 * nz3_2) (o := o) (z := z + 0 + 3 * ρz3_2) (by omega) Gs1 (Qz3_2.le (by omega) (by omega) (by omega) (by omega)) P ⟨by omega, by omega⟩) E3 (by omega) (by omega) (by omega) (by omega) (fun s4 z6_5 rz6_5 Gs4 es4 Rs4 fz6_5 => ?_)
  obtain ⟨ρz6_5, hρz6_5, Pz6_5, Qz6_5⟩ := fz6_5
  subst hρz6_5
  have P := Pz6_5
  have E6 := E3.trans es4
  have t_z3_2 := t_z3_2.up es4
  have Sz3_2 := Sz3_2.up es4
  obtain ⟨hms7, hrs7⟩ := mk_row_room Gs4 (n := 5) (Qz6_5.le (k' := (k + 20 + 3 * nz3_2 + 20 * ρz6_5) + 1) (s' := (s + 151 + 25 * nz3_2 + 150 * ρz6_5) + 5) (o' := o) (z' := (z + 3 + 3 * ρz6_5)) (by omega) (by omega) (by omega) (by omega))
  refine wn hms7 (fun s7 ws7 => ?_)
  obtain ⟨Gs7, es7, Rs7, t_s7, Fs7, Ns7⟩ := mk_stm0 Gs4 hrs7 ws7
  have P := P.nw Gs4 Fs7
  have rst := hp_R Gs4 hrs7
  have N10 := E6.fresh Ns7
  have E8 := E6.trans es7
  have t_z3_2 := t_z3_2.up es7
  have Sz3_2 := Sz3_2.up es7
  refine wtN (Gs7.tg 19) ?_
  refine cl_O (s_term _ (k := k + 19 + 3 * nz3_2) (s := s + 145 + 25 * nz3_2) (o := o) (z := z + 3) (ρ := ρz6_5) (δ := 0) (by omega) (by omega) (by omega) Gs7 (Rs7.le (by omega) (by omega) (by omega) (by omega)) P) E8 (by omega) (by omega) (by omega) (by omega) (fun s9 z11_10 rz11_10 Gs9 es9 Rs9 fz11_10 => ?_)
  obtain ⟨ρz11_10, nz11_10, Pz11_10, Sz11_10, Qz11_10⟩ := fz11_10
  have P := Pz11_10
  have t_z11_10 := Sz11_10.n
  have E11 := E8.trans es9
  have t_z3_2 := t_z3_2.up es9
  have t_s7 := t_s7.up es9
  have Sz3_2 := Sz3_2.up es9
  refine sf_t t_s7.tg ?_
  refine ci_stm (by omega) Gs9 Qz11_10 t_s7.tg t_s7.2 (M := nz3_2 + nz11_10) ⟨⟨⟨by omega, by omega⟩, fun q => by omega, fun q => by omega, fun _ => t_z3_2, fun _ => t_z11_10, fun _ => t_z11_10, t_z11_10.nn⟩, fun _ => ⟨_, _, Sz3_2, Or.inr Sz11_10, by omega⟩⟩ ⟨⟨by decide, by decide⟩, (by first | assumption | exact inR_of _ | exact ⟨by omega, by omega⟩), ⟨by decide, by decide⟩, (by first | assumption | exact ref_R Gs9 Qz11_10 t_z3_2.tg (by decide)), (by first | assumption | exact ref_R Gs9 Qz11_10 t_z11_10.tg (by decide))⟩ (fun s12 Gs12 es12 Rs12 Ts12 Fs12 => ?_)
  have Es12 := E11.own es12 (fun q f _ hq => Fs12 q f (fun c9 => hq (by rw [c9]; exact N10)))
  have P := P.fr (fun f _ => Fs12 _ _ (by have := t_s7.2; omega)) (fun f => Fs12 _ _ (by have := t_s7.2; omega))
  have Sz3_2 := Sz3_2.upz es12
  have Sz11_10 := Sz11_10.upz es12
  exact ret_O (by first | assumption | exact ref_R Gs12 Rs12 t_s7.tg (by decide) | exact ⟨by omega, by omega⟩) Gs12 Es12 (Rs12.le (by omega) (by omega) (by omega) (by omega)) (by first | trivial | assumption | omega | (dsimp only; omega) | exact ⟨_, _, P, Ts12, (Rs12.le (by omega) (by omega) (by omega) (by omega))⟩)
theorem s_termStm (hd : 185 ≤ d) (G : GG bd b σ) (R : RR bd b σ (k + 4 + 20 * ρ) (s + 30 + 150 * ρ) (o) (z + 1 + 3 * ρ)) (P : rP b e σ ρ) {x y : Int} (rx : inR x) (hy : y = 3 ∨ y = 4 ∨ y = 6) : sf (RC bd d 132 σ [((b + 19 : Nat) : Int), y, x]) (PO bd b σ k s o z (fun σ' r => ∃ ρ' M, rP b e σ' ρ' ∧ SSt b σ' r M ∧ RR bd b σ' (k + 3 + 20 * ρ' + 3 * M) (s + 18 + 150 * ρ' + 25 * M) o (z + 1 + 3 * ρ'))) := by
  obtain ⟨d, rfl⟩ : ∃ d0, d = d0 + 1 := ⟨d - 1, by omega⟩
  rw [rc_X7_termStatement (by omega)]
  refine fin_O ?_
  unfold pc_X7_termStatement_0
  refine wtN (G.tg 19) ?_
  refine cl_O (s_term _ (k := k + 3) (s := s + 24) (o := o) (z := z + 1) (ρ := ρ) (δ := 0) (by omega) (by omega) (by omega) G (R.le (by omega) (by omega) (by omega) (by omega)) P) (Ext.refl (b := b) (σ := σ)) (by omega) (by omega) (by omega) (by omega) (fun s1 z3_2 rz3_2 Gs1 es1 Rs1 fz3_2 => ?_)
  obtain ⟨ρz3_2, nz3_2, Pz3_2, Sz3_2, Qz3_2⟩ := fz3_2
  have P := Pz3_2
  have t_z3_2 := Sz3_2.n
  have E3 := (Ext.refl (b := b) (σ := σ)).trans es1
  refine sf_if (fun c4 => ?_) (fun c4 => ?_)
  · unfold pc_X7_termStatement_34
    obtain ⟨hms5, hrs5⟩ := mk_row_room Gs1 (n := 5) (Qz3_2.le (k' := (k + 3 + 20 * ρz3_2 + 3 * nz3_2) + 1) (s' := (s + 25 + 150 * ρz3_2 + 25 * nz3_2) + 5) (o' := o) (z' := (z + 1 + 3 * ρz3_2)) (by omega) (by omega) (by omega) (by omega))
    refine wn hms5 (fun s5 ws5 => ?_)
    obtain ⟨Gs5, es5, Rs5, t_s5, Fs5, Ns5⟩ := mk_stm0 Gs1 hrs5 ws5
    have P := P.nw Gs1 Fs5
    have rst := hp_R Gs1 hrs5
    have N10 := E3.fresh Ns5
    have E6 := E3.trans es5
    have t_z3_2 := t_z3_2.up es5
    have Sz3_2 := Sz3_2.up es5
    refine sf_t t_s5.tg ?_
    refine ci_stm (by omega) Gs5 Rs5 t_s5.tg t_s5.2 (M := nz3_2 + 0) ⟨⟨⟨by omega, by omega⟩, fun q => by omega, fun q => by omega, fun _ => t_z3_2, fun q => by omega, fun q => by omega, oNN.nul (by decide)⟩, fun _ => ⟨_, 0, Sz3_2, Or.inl (by decide), by omega⟩⟩ ⟨(by first | assumption | exact inR_of _ | exact ⟨by omega, by omega⟩), (by first | assumption | exact inR_of _ | exact ⟨by omega, by omega⟩), ⟨by decide, by decide⟩, (by first | assumption | exact ref_R Gs5 Rs5 t_z3_2.tg (by decide)), ⟨by decide, by decide⟩⟩ (fun s7 Gs7 es7 Rs7 Ts7 Fs7 => ?_)
    have Es7 := E6.own es7 (fun q f _ hq => Fs7 q f (fun c9 => hq (by rw [c9]; exact N10)))
    have P := P.fr (fun f _ => Fs7 _ _ (by have := t_s5.2; omega)) (fun f => Fs7 _ _ (by have := t_s5.2; omega))
    have Sz3_2 := Sz3_2.upz es7
    exact ret_O (by first | assumption | exact ref_R Gs7 Rs7 t_s5.tg (by decide) | exact ⟨by omega, by omega⟩) Gs7 Es7 (Rs7.le (by omega) (by omega) (by omega) (by omega)) (by first | trivial | assumption | omega | (dsimp only; omega) | exact ⟨_, _, P, Ts7, (Rs7.le (by omega) (by omega) (by omega) (by omega))⟩)
  · refine wgN (Gs1.tg 19) (fun z5_8 hz5_8 => ?_)
    have fz5_8 := Gs1.nu 19 7
    have rz5_8 : inR z5_8 := hz5_8 ▸ Gs1.ir _ _
    refine sf_if (fun c9 => ?_) (fun c9 => ?_)
    · unfold pc_X7_termStatement_34
      obtain ⟨hms10, hrs10⟩ := mk_row_room Gs1 (n := 5) (Qz3_2.le (k' := (k + 3 + 20 * ρz3_2 + 3 * nz3_2) + 1) (s' := (s + 25 + 150 * ρz3_2 + 25 * nz3_2) + 5) (o' := o) (z' := (z + 1 + 3 * ρz3_2)) (by omega) (by omega) (by omega) (by omega))
      refine wn hms10 (fun s10 ws10 => ?_)
      obtain ⟨Gs10, es10, Rs10, t_s10, Fs10, Ns10⟩ := mk_stm0 Gs1 hrs10 ws10
      have P := P.nw Gs1 Fs10
      have rst := hp_R Gs1 hrs10
      have N10 := E3.fresh Ns10
      have E11 := E3.trans es10
      have t_z3_2 := t_z3_2.up es10
      have Sz3_2 := Sz3_2.up es10
      refine sf_t t_s10.tg ?_
      refine ci_stm (by omega) Gs10 Rs10 t_s10.tg t_s10.2 (M := nz3_2 + 0) ⟨⟨⟨by omega, by omega⟩, fun q => by omega, fun q => by omega, fun _ => t_z3_2, fun q => by omega, fun q => by omega, oNN.nul (by decide)⟩, fun _ => ⟨_, 0, Sz3_2, Or.inl (by decide), by omega⟩⟩ ⟨(by first | assumption | exact inR_of _ | exact ⟨by omega, by omega⟩), (by first | assumption | exact inR_of _ | exact ⟨by omega, by omega⟩), ⟨by decide, by decide⟩, (by first | assumption | exact ref_R Gs10 Rs10 t_z3_2.tg (by decide)), ⟨by decide, by decide⟩⟩ (fun s12 Gs12 es12 Rs12 Ts12 Fs12 => ?_)
      have Es12 := E11.own es12 (fun q f _ hq => Fs12 q f (fun c9 => hq (by rw [c9]; exact N10)))
      have P := P.fr (fun f _ => Fs12 _ _ (by have := t_s10.2; omega)) (fun f => Fs12 _ _ (by have := t_s10.2; omega))
      have Sz3_2 := Sz3_2.upz es12
      exact ret_O (by first | assumption | exact ref_R Gs12 Rs12 t_s10.tg (by decide) | exact ⟨by omega, by omega⟩) Gs12 Es12 (Rs12.le (by omega) (by omega) (by omega) (by omega)) (by first | trivial | assumption | omega | (dsimp only; omega) | exact ⟨_, _, P, Ts12, (Rs12.le (by omega) (by omega) (by omega) (by omega))⟩)
    · refine wtN (Gs1.tg 19) ?_
      refine cl_Z (s_advance (k := k + 4 + 20 * ρz3_2 + 3 * nz3_2) (s := s + 30 + 150 * ρz3_2 + 25 * nz3_2) (o := o) (z := z + 1 + 3 * ρz3_2) (by omega) Gs1 (Qz3_2.le (by omega) (by omega) (by omega) (by omega)) P.1 (P.pos (by omega) (by omega))) (fun s13 z9_14 rz9_14 Gs13 es13 Rs13 fz9_14 => ?_)
      obtain ⟨ρz9_14, hρz9_14, Pz9_14⟩ := fz9_14
      subst hρz9_14
      have P := Pz9_14
      have E15 := E3.trans es13
      have t_z3_2 := t_z3_2.up es13
      have Sz3_2 := Sz3_2.up es13
      refine wtN (Gs13.tg 19) ?_
      refine cl_O (s_term _ (k := k + 23 + 3 * nz3_2) (s := s + 174 + 25 * nz3_2) (o := o) (z := z + 4) (ρ := ρz9_14) (δ := 0) (by omega) (by omega) (by omega) Gs13 (Rs13.le (by omega) (by omega) (by omega) (by omega)) P) E15 (by omega) (by omega) (by omega) (by omega) (fun s16 z12_17 rz12_17 Gs16 es16 Rs16 fz12_17 => ?_)
      obtain ⟨ρz12_17, nz12_17, Pz12_17, Sz12_17, Qz12_17⟩ := fz12_17
      have P := Pz12_17
      have t_z12_17 := Sz12_17.n
      have E18 := E15.trans es16
      have t_z3_2 := t_z3_2.up es16
      have Sz3_2 := Sz3_2.up es16
      unfold pc_X7_termStatement_34
      obtain ⟨hms19, hrs19⟩ := mk_row_room Gs16 (n := 5) (Qz12_17.le (k' := (k + 23 + 3 * nz3_2 + 20 * ρz12_17 + 3 * nz12_17) + 1) (s' := (s + 175 + 25 * nz3_2 + 150 * ρz12_17 + 25 * nz12_17) + 5) (o' := o) (z' := (z + 4 + 3 * ρz12_17)) (by omega) (by omega) (by omega) (by omega))
      refine wn hms19 (fun s19 ws19 => ?_)
      obtain ⟨Gs19, es19, Rs19, t_s19, Fs19, Ns19⟩ := mk_stm0 Gs16 hrs19 ws19
      have P := P.nw Gs16 Fs19
      have rst := hp_R Gs16 hrs19
      have N10 := E18.fresh Ns19
      have E20 := E18.trans es19
      have t_z3_2 := t_z3_2.up es19
      have t_z12_17 := t_z12_17.up es19
      have Sz3_2 := Sz3_2.up es19
      have Sz12_17 := Sz12_17.up es19
      refine sf_t t_s19.tg ?_
      refine ci_stm (by omega) Gs19 Rs19 t_s19.tg t_s19.2 (M := nz3_2 + nz12_17) ⟨⟨⟨by omega, by omega⟩, fun q => by omega, fun q => by omega, fun _ => t_z3_2, fun _ => t_z12_17, fun _ => t_z12_17, t_z12_17.nn⟩, fun _ => ⟨_, _, Sz3_2, Or.inr Sz12_17, by omega⟩⟩ ⟨(by first | assumption | exact inR_of _ | exact ⟨by omega, by omega⟩), (by first | assumption | exact inR_of _ | exact ⟨by omega, by omega⟩), ⟨by decide, by decide⟩, (by first | assumption | exact ref_R Gs19 Rs19 t_z3_2.tg (by decide)), (by first | assumption | exact ref_R Gs19 Rs19 t_z12_17.tg (by decide))⟩ (fun s21 Gs21 es21 Rs21 Ts21 Fs21 => ?_)
      have Es21 := E20.own es21 (fun q f _ hq => Fs21 q f (fun c9 => hq (by rw [c9]; exact N10)))
      have P := P.fr (fun f _ => Fs21 _ _ (by have := t_s19.2; omega)) (fun f => Fs21 _ _ (by have := t_s19.2; omega))
      have Sz3_2 := Sz3_2.upz es21
      have Sz12_17 := Sz12_17.upz es21
      exact ret_O (by first | assumption | exact ref_R Gs21 Rs21 t_s19.tg (by decide) | exact ⟨by omega, by omega⟩) Gs21 Es21 (Rs21.le (by omega) (by omega) (by omega) (by omega)) (by first | trivial | assumption | omega | (dsimp only; omega) | exact ⟨_, _, P, Ts21, (Rs21.le (by omega) (by omega) (by omega) (by omega))⟩)
theorem s_nameStm (hd : 185 ≤ d) (G : GG bd b σ) (R : RR bd b σ (k + 1 + 20 * ρ) (s + 6 + 150 * ρ) (o) (z + 3 * ρ)) (P : rP b e σ ρ) {x : Int} (rx : inR x) : sf (RC bd d 121 σ [((b + 19 : Nat) : Int), x]) (PO bd b σ k s o z (fun σ' r => ∃ ρ' M, rP b e σ' ρ' ∧ SSt b σ' r M ∧ RR bd b σ' (k + 3 + 20 * ρ' + 3 * M) (s + 18 + 150 * ρ' + 25 * M) o (z + 1 + 3 * ρ'))) := by
  obtain ⟨d, rfl⟩ : ∃ d0, d = d0 + 1 := ⟨d - 1, by omega⟩
  rw [rc_X7_nameStatement (by omega)]
  refine fin_O ?_
  unfold pc_X7_nameStatement_0
  refine wtN (G.tg 19) ?_
  refine cl_O (s_takeName (k := k) (s := s) (o := o) (z := z) (by omega) G (R.le (by omega) (by omega) (by omega) (by omega)) P) (Ext.refl (b := b) (σ := σ)) (by omega) (by omega) (by omega) (by omega) (fun s1 z3_2 rz3_2 Gs1 es1 Rs1 fz3_2 => ?_)
  obtain ⟨ρz3_2, hρz3_2, Pz3_2, q6z3_2, k7z3_2, Qz3_2⟩ := fz3_2
  subst hρz3_2
  have P := Pz3_2
  have t_z3_2 := q6z3_2.1
  have Sz3_2 := TS.leaf (b := b) (h := 1) q6z3_2.1 q6z3_2.2 (by decide)
  have E3 := (Ext.refl (b := b) (σ := σ)).trans es1
  refine wgN (Gs1.tg 19) (fun z4_4 hz4_4 => ?_)
  have fz4_4 := Gs1.nu 19 7
  have rz4_4 : inR z4_4 := hz4_4 ▸ Gs1.ir _ _
  refine sf_if (fun c5 => ?_) (fun c5 => ?_)
  · refine wtN (Gs1.tg 19) ?_
    refine cl_O (s_expect (k := k + 19 + 20 * ρz3_2) (s := s + 139 + 150 * ρz3_2) (o := o) (z := z + 3 + 3 * ρz3_2) (by omega) Gs1 (Qz3_2.le (by omega) (by omega) (by omega) (by omega)) P ⟨by omega, by omega⟩) E3 (by omega) (by omega) (by omega) (by omega) (fun s6 z8_7 rz8_7 Gs6 es6 Rs6 fz8_7 => ?_)
    obtain ⟨ρz8_7, hρz8_7, Pz8_7, Qz8_7⟩ := fz8_7
    subst hρz8_7
    have P := Pz8_7
    have E8 := E3.trans es6
    have t_z3_2 := t_z3_2.up es6
    have Sz3_2 := Sz3_2.up es6
    refine wtN (Gs6.tg 19) ?_
    refine cl_O (s_term _ (k := k + 39) (s := s + 289) (o := o) (z := z + 6) (ρ := ρz8_7) (δ := 0) (by omega) (by omega) (by omega) Gs6 (Qz8_7.le (by omega) (by omega) (by omega) (by omega)) P) E8 (by omega) (by omega) (by omega) (by omega) (fun s9 z11_10 rz11_10 Gs9 es9 Rs9 fz11_10 => ?_)
    obtain ⟨ρz11_10, nz11_10, Pz11_10, Sz11_10, Qz11_10⟩ := fz11_10
    have P := Pz11_10
    have t_z11_10 := Sz11_10.n
    have E11 := E8.trans es9
    have t_z3_2 := t_z3_2.up es9
    have Sz3_2 := Sz3_2.up es9
    refine wgN (Gs9.tg 19) (fun z12_12 hz12_12 => ?_)
    have fz12_12 := Gs9.nu 19 7
    have rz12_12 : inR z12_12 := hz12_12 ▸ Gs9.ir _ _
    refine sf_if (fun c13 => ?_) (fun c13 => ?_)
    · unfold pc_X7_nameStatement_73
      obtain ⟨hms14, hrs14⟩ := mk_row_room Gs9 (n := 5) (Qz11_10.le (k' := (k + 39 + 20 * ρz11_10 + 3 * nz11_10) + 1) (s' := (s + 290 + 150 * ρz11_10 + 25 * nz11_10) + 5) (o' := o) (z' := (z + 6 + 3 * ρz11_10)) (by omega) (by omega) (by omega) (by omega))
      refine wn hms14 (fun s14 ws14 => ?_)
      obtain ⟨Gs14, es14, Rs14, t_s14, Fs14, Ns14⟩ := mk_stm0 Gs9 hrs14 ws14
      have P := P.nw Gs9 Fs14
      have rst := hp_R Gs9 hrs14
      have N10 := E11.fresh Ns14
      have E15 := E11.trans es14
      have t_z3_2 := t_z3_2.up es14
      have t_z11_10 := t_z11_10.up es14
      have Sz3_2 := Sz3_2.up es14
      have Sz11_10 := Sz11_10.up es14
      refine sf_t t_s14.tg ?_
      refine ci_stm (by omega) Gs14 Rs14 t_s14.tg t_s14.2 (M := nz11_10 + 0) ⟨⟨⟨by omega, by omega⟩, fun _ => t_z3_2, fun _ => t_z3_2, fun _ => t_z11_10, fun q => by omega, fun q => by omega, oNN.nul (by decide)⟩, fun _ => ⟨_, 0, Sz11_10, Or.inl (by decide), by omega⟩⟩ ⟨⟨by decide, by decide⟩, (by first | assumption | exact inR_of _ | exact ⟨by omega, by omega⟩), (by first | assumption | exact ref_R Gs14 Rs14 t_z3_2.tg (by decide)), (by first | assumption | exact ref_R Gs14 Rs14 t_z11_10.tg (by decide)), ⟨by decide, by decide⟩⟩ (fun s16 Gs16 es16 Rs16 Ts16 Fs16 => ?_)
      have Es16 := E15.own es16 (fun q f _ hq => Fs16 q f (fun c9 => hq (by rw [c9]; exact N10)))
      have P := P.fr (fun f _ => Fs16 _ _ (by have := t_s14.2; omega)) (fun f => Fs16 _ _ (by have := t_s14.2; omega))
      have Sz3_2 := Sz3_2.upz es16
      have Sz11_10 := Sz11_10.upz es16
      exact ret_O (by first | assumption | exact ref_R Gs16 Rs16 t_s14.tg (by decide) | exact ⟨by omega, by omega⟩) Gs16 Es16 (Rs16.le (by omega) (by omega) (by omega) (by omega)) (by first | trivial | assumption | omega | (dsimp only; omega) | exact ⟨_, _, P, Ts16, (Rs16.le (by omega) (by omega) (by omega) (by omega))⟩)
    · refine wtN (Gs9.tg 19) ?_
      refine cl_Z (s_advance (k := k + 40 + 20 * ρz11_10 + 3 * nz11_10) (s := s + 295 + 150 * ρz11_10 + 25 * nz11_10) (o := o) (z := z + 6 + 3 * ρz11_10) (by omega) Gs9 (Qz11_10.le (by omega) (by omega) (by omega) (by omega)) P.1 (P.pos (by omega) (by omega))) (fun s17 z16_18 rz16_18 Gs17 es17 Rs17 fz16_18 => ?_)
      obtain ⟨ρz16_18, hρz16_18, Pz16_18⟩ := fz16_18
      subst hρz16_18
      have P := Pz16_18
      have E19 := E11.trans es17
      have t_z3_2 := t_z3_2.up es17
      have t_z11_10 := t_z11_10.up es17
      have Sz3_2 := Sz3_2.up es17
      have Sz11_10 := Sz11_10.up es17
      refine wtN (Gs17.tg 19) ?_
      refine cl_O (s_term _ (k := k + 59 + 3 * nz11_10) (s := s + 439 + 25 * nz11_10) (o := o) (z := z + 9) (ρ := ρz16_18) (δ := 0) (by omega) (by omega) (by omega) Gs17 (Rs17.le (by omega) (by omega) (by omega) (by omega)) P) E19 (by omega) (by omega) (by omega) (by omega) (fun s20 z19_21 rz19_21 Gs20 es20 Rs20 fz19_21 => ?_)
      obtain ⟨ρz19_21, nz19_21, Pz19_21, Sz19_21, Qz19_21⟩ := fz19_21
      have P := Pz19_21
      have t_z19_21 := Sz19_21.n
      have E22 := E19.trans es20
      have t_z3_2 := t_z3_2.up es20
      have t_z11_10 := t_z11_10.up es20
      have Sz3_2 := Sz3_2.up es20
      have Sz11_10 := Sz11_10.up es20
      unfold pc_X7_nameStatement_73
      obtain ⟨hms23, hrs23⟩ := mk_row_room Gs20 (n := 5) (Qz19_21.le (k' := (k + 59 + 3 * nz11_10 + 20 * ρz19_21 + 3 * nz19_21) + 1) (s' := (s + 440 + 25 * nz11_10 + 150 * ρz19_21 + 25 * nz19_21) + 5) (o' := o) (z' := (z + 9 + 3 * ρz19_21)) (by omega) (by omega) (by omega) (by omega))
      refine wn hms23 (fun s23 ws23 => ?_)
      obtain ⟨Gs23, es23, Rs23, t_s23, Fs23, Ns23⟩ := mk_stm0 Gs20 hrs23 ws23
      have P := P.nw Gs20 Fs23
      have rst := hp_R Gs20 hrs23
      have N10 := E22.fresh Ns23
      have E24 := E22.trans es23
      have t_z3_2 := t_z3_2.up es23
      have t_z11_10 := t_z11_10.up es23
      have t_z19_21 := t_z19_21.up es23
      have Sz3_2 := Sz3_2.up es23
      have Sz11_10 := Sz11_10.up es23
      have Sz19_21 := Sz19_21.up es23
      refine sf_t t_s23.tg ?_
      refine ci_stm (by omega) Gs23 Rs23 t_s23.tg t_s23.2 (M := nz11_10 + nz19_21) ⟨⟨⟨by omega, by omega⟩, fun _ => t_z3_2, fun _ => t_z3_2, fun _ => t_z11_10, fun _ => t_z19_21, fun _ => t_z19_21, t_z19_21.nn⟩, fun _ => ⟨_, _, Sz11_10, Or.inr Sz19_21, by omega⟩⟩ ⟨⟨by decide, by decide⟩, (by first | assumption | exact inR_of _ | exact ⟨by omega, by omega⟩), (by first | assumption | exact ref_R Gs23 Rs23 t_z3_2.tg (by decide)), (by first | assumption | exact ref_R Gs23 Rs23 t_z11_10.tg (by decide)), (by first | assumption | exact ref_R Gs23 Rs23 t_z19_21.tg (by decide))⟩ (fun s25 Gs25 es25 Rs25 Ts25 Fs25 => ?_)
      have Es25 := E24.own es25 (fun q f _ hq => Fs25 q f (fun c9 => hq (by rw [c9]; exact N10)))
      have P := P.fr (fun f _ => Fs25 _ _ (by have := t_s23.2; omega)) (fun f => Fs25 _ _ (by have := t_s23.2; omega))
      have Sz3_2 := Sz3_2.upz es25
      have Sz11_10 := Sz11_10.upz es25
      have Sz19_21 := Sz19_21.upz es25
      exact ret_O (by first | assumption | exact ref_R Gs25 Rs25 t_s23.tg (by decide) | exact ⟨by omega, by omega⟩) Gs25 Es25 (Rs25.le (by omega) (by omega) (by omega) (by omega)) (by first | trivial | assumption | omega | (dsimp only; omega) | exact ⟨_, _, P, Ts25, (Rs25.le (by omega) (by omega) (by omega) (by omega))⟩)
  · refine wtN (Gs1.tg 19) ?_
    refine cl_Z (s_advance (k := k + 20 + 20 * ρz3_2) (s := s + 145 + 150 * ρz3_2) (o := o) (z := z + 3 + 3 * ρz3_2) (by omega) Gs1 (Qz3_2.le (by omega) (by omega) (by omega) (by omega)) P.1 (P.pos (by omega) (by omega))) (fun s26 z22_27 rz22_27 Gs26 es26 Rs26 fz22_27 => ?_)
    obtain ⟨ρz22_27, hρz22_27, Pz22_27⟩ := fz22_27
    subst hρz22_27
    have P := Pz22_27
    have E28 := E3.trans es26
    have t_z3_2 := t_z3_2.up es26
    have Sz3_2 := Sz3_2.up es26
    obtain ⟨hms29, hrs29⟩ := mk_row_room Gs26 (n := 5) (Rs26.le (k' := (k + 39 + 20 * ρz22_27) + 1) (s' := (s + 290 + 150 * ρz22_27) + 5) (o' := o) (z' := (z + 6 + 3 * ρz22_27)) (by omega) (by omega) (by omega) (by omega))
    refine wn hms29 (fun s29 ws29 => ?_)
    obtain ⟨Gs29, es29, Rs29, t_s29, Fs29, Ns29⟩ := mk_stm0 Gs26 hrs29 ws29
    have P := P.nw Gs26 Fs29
    have rst := hp_R Gs26 hrs29
    have N10 := E28.fresh Ns29
    have E30 := E28.trans es29
    have t_z3_2 := t_z3_2.up es29
    have Sz3_2 := Sz3_2.up es29
    refine wtN (Gs29.tg 19) ?_
    refine cl_O (s_term _ (k := k + 38) (s := s + 284) (o := o) (z := z + 6) (ρ := ρz22_27) (δ := 0) (by omega) (by omega) (by omega) Gs29 (Rs29.le (by omega) (by omega) (by omega) (by omega)) P) E30 (by omega) (by omega) (by omega) (by omega) (fun s31 z27_32 rz27_32 Gs31 es31 Rs31 fz27_32 => ?_)
    obtain ⟨ρz27_32, nz27_32, Pz27_32, Sz27_32, Qz27_32⟩ := fz27_32
    have P := Pz27_32
    have t_z27_32 := Sz27_32.n
    have E33 := E30.trans es31
    have t_z3_2 := t_z3_2.up es31
    have t_s29 := t_s29.up es31
    have Sz3_2 := Sz3_2.up es31
    refine sf_t t_s29.tg ?_
    refine ci_stm (by omega) Gs31 Qz27_32 t_s29.tg t_s29.2 (M := nz27_32 + 0) ⟨⟨⟨by omega, by omega⟩, fun _ => t_z3_2, fun _ => t_z3_2, fun _ => t_z27_32, fun q => by omega, fun q => by omega, oNN.nul (by decide)⟩, fun _ => ⟨_, 0, Sz27_32, Or.inl (by decide), by omega⟩⟩ ⟨⟨by decide, by decide⟩, (by first | assumption | exact inR_of _ | exact ⟨by omega, by omega⟩), (by first | assumption | exact ref_R Gs31 Qz27_32 t_z3_2.tg (by decide)), (by first | assumption | exact ref_R Gs31 Qz27_32 t_z27_32.tg (by decide)), ⟨by decide, by decide⟩⟩ (fun s34 Gs34 es34 Rs34 Ts34 Fs34 => ?_)
    have Es34 := E33.own es34 (fun q f _ hq => Fs34 q f (fun c9 => hq (by rw [c9]; exact N10)))
    have P := P.fr (fun f _ => Fs34 _ _ (by have := t_s29.2; omega)) (fun f => Fs34 _ _ (by have := t_s29.2; omega))
    have Sz3_2 := Sz3_2.upz es34
    have Sz27_32 := Sz27_32.upz es34
    exact ret_O (by first | assumption | exact ref_R Gs34 Rs34 t_s29.tg (by decide) | exact ⟨by omega, by omega⟩) Gs34 Es34 (Rs34.le (by omega) (by omega) (by omega) (by omega)) (by first | trivial | assumption | omega | (dsimp only; omega) | exact ⟨_, _, P, Ts34, (Rs34.le (by omega) (by omega) (by omega) (by omega))⟩)
theorem s_statement (hd : 186 ≤ d) (G : GG bd b σ) (R : RR bd b σ (k + 1 + 20 * ρ) (s + 6 + 150 * ρ) (o) (z + 3 * ρ)) (P : rP b e σ ρ) : sf (RC bd d 129 σ [((b + 19 : Nat) : Int)]) (PO bd b σ k s o z (fun σ' r => ∃ ρ' M, rP b e σ' ρ' ∧ SSt b σ' r M ∧ RR bd b σ' (k + 3 + 20 * ρ' + 3 * M) (s + 18 + 150 * ρ' + 25 * M) o (z + 1 + 3 * ρ'))) := by
  obtain ⟨d, rfl⟩ : ∃ d0, d = d0 + 1 := ⟨d - 1, by omega⟩
  rw [rc_X7_statement (by omega)]
  refine fin_O ?_
  unfold pc_X7_statement_0
  refine wgN (G.tg 19) (fun z1_1 hz1_1 => ?_)
  have fz1_1 := G.nu 19 8
  have rz1_1 : inR z1_1 := hz1_1 ▸ G.ir _ _
  refine wgN (G.tg 19) (fun z2_2 hz2_2 => ?_)
  have fz2_2 := G.nu 19 7
  have rz2_2 : inR z2_2 := hz2_2 ▸ G.ir _ _
  refine sf_if (fun c3 => ?_) (fun c3 => ?_)
  · refine sf_if (fun c4 => ?_) (fun c4 => ?_)
    · unfold pc_X7_statement_33
      refine wtN (G.tg 19) ?_
      refine cl_O (s_refuse (k := k + 0 + 20 * ρ) (s := s + 0 + 150 * ρ) (o := o) (z := z + 0 + 3 * ρ) (by omega) G (R.le (by omega) (by omega) (by omega) (by omega))) (Ext.refl (b := b) (σ := σ)) (by omega) (by omega) (by omega) (by omega) (fun s5 z3_6 rz3_6 Gs5 es5 Rs5 fz3_6 => fz3_6.elim)
    · refine sf_if (fun c7 => ?_) (fun c7 => ?_)
      · unfold pc_X7_statement_37
        refine wtN (G.tg 19) ?_
        refine cl_Z (s_advance (k := k + 1 + 20 * ρ) (s := s + 6 + 150 * ρ) (o := o) (z := z + 0 + 3 * ρ) (by omega) G (R.le (by omega) (by omega) (by omega) (by omega)) P.1 (P.pos (by omega) (by omega))) (fun s8 z3_9 rz3_9 Gs8 es8 Rs8 fz3_9 => ?_)
        obtain ⟨ρz3_9, hρz3_9, Pz3_9⟩ := fz3_9
        subst hρz3_9
        have P := Pz3_9
        have E10 := (Ext.refl (b := b) (σ := σ)).trans es8
        refine sf_if (fun c11 => ?_) (fun c11 => ?_)
        · obtain ⟨hms12, hrs12⟩ := mk_row_room Gs8 (n := 5) (Rs8.le (k' := (k + 20 + 20 * ρz3_9) + 1) (s' := (s + 151 + 150 * ρz3_9) + 5) (o' := o) (z' := (z + 3 + 3 * ρz3_9)) (by omega) (by omega) (by omega) (by omega))
          refine wn hms12 (fun s12 ws12 => ?_)
          obtain ⟨Gs12, es12, Rs12, t_s12, Fs12, Ns12⟩ := mk_stm0 Gs8 hrs12 ws12
          have P := P.nw Gs8 Fs12
          have rst := hp_R Gs8 hrs12
          have N10 := E10.fresh Ns12
          have E13 := E10.trans es12
          refine wtN (Gs12.tg 19) ?_
          refine cl_O (s_takeName (k := k + 19) (s := s + 145) (o := o) (z := z + 3) (by omega) Gs12 (Rs12.le (by omega) (by omega) (by omega) (by omega)) P) E13 (by omega) (by omega) (by omega) (by omega) (fun s14 z9_15 rz9_15 Gs14 es14 Rs14 fz9_15 => ?_)
          obtain ⟨ρz9_15, hρz9_15, Pz9_15, q6z9_15, k7z9_15, Qz9_15⟩ := fz9_15
          subst hρz9_15
          have P := Pz9_15
          have t_z9_15 := q6z9_15.1
          have Sz9_15 := TS.leaf (b := b) (h := 1) q6z9_15.1 q6z9_15.2 (by decide)
          have E16 := E13.trans es14
          have t_s12 := t_s12.up es14
          refine sf_t t_s12.tg ?_
          refine ci_stm (by omega) Gs14 Qz9_15 t_s12.tg t_s12.2 (M := 0) ⟨⟨⟨by omega, by omega⟩, fun _ => t_z9_15, fun q => by omega, fun q => by omega, fun q => by omega, fun q => by omega, oNN.nul (by decide)⟩, fun q => by omega⟩ ⟨(by first | assumption | exact inR_of _ | exact ⟨by omega, by omega⟩), (by first | assumption | exact inR_of _ | exact ⟨by omega, by omega⟩), (by first | assumption | exact ref_R Gs14 Qz9_15 t_z9_15.tg (by decide)), ⟨by decide, by decide⟩, ⟨by decide, by decide⟩⟩ (fun s17 Gs17 es17 Rs17 Ts17 Fs17 => ?_)
          have Es17 := E16.own es17 (fun q f _ hq => Fs17 q f (fun c9 => hq (by rw [c9]; exact N10)))
          have P := P.fr (fun f _ => Fs17 _ _ (by have := t_s12.2; omega)) (fun f => Fs17 _ _ (by have := t_s12.2; omega))
          have Sz9_15 := Sz9_15.upz es17
          exact ret_O (by first | assumption | exact ref_R Gs17 Rs17 t_s12.tg (by decide) | exact ⟨by omega, by omega⟩) Gs17 Es17 (Rs17.le (by omega) (by omega) (by omega) (by omega)) (by first | trivial | assumption | omega | (dsimp only; omega) | exact ⟨_, _, P, Ts17, (Rs17.le (by omega) (by omega) (by omega) (by omega))⟩ | exact ⟨_, _, P, by assumption, (Rs17.le (by omega) (by omega) (by omega) (by omega))⟩)
        · refine sf_if (fun c18 => ?_) (fun c18 => ?_)
          · refine wtN (Gs8.tg 19) ?_
            refine cl_O (s_axiomStm (k := k + 20) (s := s + 150) (o := o) (z := z + 3) (by omega) Gs8 (Rs8.le (by omega) (by omega) (by omega) (by omega)) P (by first | assumption | exact inR_of _ | exact ⟨by omega, by omega⟩)) E10 (by omega) (by omega) (by omega) (by omega) (fun s19 z16_20 rz16_20 Gs19 es19 Rs19 fz16_20 => ?_)
            obtain ⟨ρz16_20, Mz16_20, Pz16_20, Tz16_20, Qz16_20⟩ := fz16_20
            have P := Pz16_20
            have E21 := E10.trans es19
            exact ret_O (by first | assumption | exact inR_of _ | exact ⟨by omega, by omega⟩) Gs19 E21 (Qz16_20.le (by omega) (by omega) (by omega) (by omega)) (by first | trivial | assumption | omega | (dsimp only; omega) | exact ⟨_, _, P, (by assumption), (Qz16_20.le (by omega) (by omega) (by omega) (by omega))⟩ | exact ⟨_, _, P, by assumption, (Qz16_20.le (by omega) (by omega) (by omega) (by omega))⟩)
          · refine sf_if (fun c22 => ?_) (fun c22 => ?_)
            · obtain ⟨hms23, hrs23⟩ := mk_row_room Gs8 (n := 5) (Rs8.le (k' := (k + 20 + 20 * ρz3_9) + 1) (s' := (s + 151 + 150 * ρz3_9) + 5) (o' := o) (z' := (z + 3 + 3 * ρz3_9)) (by omega) (by omega) (by omega) (by omega))
              refine wn hms23 (fun s23 ws23 => ?_)
              obtain ⟨Gs23, es23, Rs23, t_s23, Fs23, Ns23⟩ := mk_stm0 Gs8 hrs23 ws23
              have P := P.nw Gs8 Fs23
              have rst := hp_R Gs8 hrs23
              have N10 := E10.fresh Ns23
              have E24 := E10.trans es23
              refine wtN (Gs23.tg 19) ?_
              refine cl_O (s_takeName (k := k + 19) (s := s + 145) (o := o) (z := z + 3) (by omega) Gs23 (Rs23.le (by omega) (by omega) (by omega) (by omega)) P) E24 (by omega) (by omega) (by omega) (by omega) (fun s25 z22_26 rz22_26 Gs25 es25 Rs25 fz22_26 => ?_)
              obtain ⟨ρz22_26, hρz22_26, Pz22_26, q6z22_26, k7z22_26, Qz22_26⟩ := fz22_26
              subst hρz22_26
              have P := Pz22_26
              have t_z22_26 := q6z22_26.1
              have Sz22_26 := TS.leaf (b := b) (h := 1) q6z22_26.1 q6z22_26.2 (by decide)
              have E27 := E24.trans es25
              have t_s23 := t_s23.up es25
              refine wtN (Gs25.tg 19) ?_
              refine cl_O (s_takeName (k := k + 38) (s := s + 284) (o := o) (z := z + 6) (by omega) Gs25 (Qz22_26.le (by omega) (by omega) (by omega) (by omega)) P) E27 (by omega) (by omega) (by omega) (by omega) (fun s28 z25_29 rz25_29 Gs28 es28 Rs28 fz25_29 => ?_)
              obtain ⟨ρz25_29, hρz25_29, Pz25_29, q6z25_29, k7z25_29, Qz25_29⟩ := fz25_29
              subst hρz25_29
              have P := Pz25_29
              have t_z25_29 := q6z25_29.1
              have Sz25_29 := TS.leaf (b := b) (h := 1) q6z25_29.1 q6z25_29.2 (by decide)
              have E30 := E27.trans es28
              have t_s23 := t_s23.up es28
              have t_z22_26 := t_z22_26.up es28
              have Sz22_26 := Sz22_26.up es28
              refine wtN (Gs28.tg 19) ?_
              refine cl_O (s_takeName (k := k + 57) (s := s + 423) (o := o) (z := z + 9) (by omega) Gs28 (Qz25_29.le (by omega) (by omega) (by omega) (by omega)) P) E30 (by omega) (by omega) (by omega) (by omega) (fun s31 z28_32 rz28_32 Gs31 es31 Rs31 fz28_32 => ?_)
              obtain ⟨ρz28_32, hρz28_32, Pz28_32, q6z28_32, k7z28_32, Qz28_32⟩ := fz28_32
              subst hρz28_32
              have P := Pz28_32
              have t_z28_32 := q6z28_32.1
              have Sz28_32 := TS.leaf (b := b) (h := 1) q6z28_32.1 q6z28_32.2 (by decide)
              have E33 := E30.trans es31
              have t_s23 := t_s23.up es31
              have t_z22_26 := t_z22_26.up es31
              have t_z25_29 := t_z25_29.up es31
              have Sz22_26 := Sz22_26.up es31
              have Sz25_29 := Sz25_29.up es31
              refine sf_t t_s23.tg ?_
              refine ci_stm (by omega) Gs31 Qz28_32 t_s23.tg t_s23.2 (M := 0) ⟨⟨⟨by omega, by omega⟩, fun _ => t_z22_26, fun q => by omega, fun _ => t_z25_29, fun _ => t_z28_32, fun q => by omega, t_z28_32.nn⟩, fun q => by omega⟩ ⟨(by first | assumption | exact inR_of _ | exact ⟨by omega, by omega⟩), (by first | assumption | exact inR_of _ | exact ⟨by omega, by omega⟩), (by first | assumption | exact ref_R Gs31 Qz28_32 t_z22_26.tg (by decide)), (by first | assumption | exact ref_R Gs31 Qz28_32 t_z25_29.tg (by decide)), (by first | assumption | exact ref_R Gs31 Qz28_32 t_z28_32.tg (by decide))⟩ (fun s34 Gs34 es34 Rs34 Ts34 Fs34 => ?_)
              have Es34 := E33.own es34 (fun q f _ hq => Fs34 q f (fun c9 => hq (by rw [c9]; exact N10)))
              have P := P.fr (fun f _ => Fs34 _ _ (by have := t_s23.2; omega)) (fun f => Fs34 _ _ (by have := t_s23.2; omega))
              have Sz22_26 := Sz22_26.upz es34
              have Sz25_29 := Sz25_29.upz es34
              have Sz28_32 := Sz28_32.upz es34
              exact ret_O (by first | assumption | exact ref_R Gs34 Rs34 t_s23.tg (by decide) | exact ⟨by omega, by omega⟩) Gs34 Es34 (Rs34.le (by omega) (by omega) (by omega) (by omega)) (by first | trivial | assumption | omega | (dsimp only; omega) | exact ⟨_, _, P, Ts34, (Rs34.le (by omega) (by omega) (by omega) (by omega))⟩ | exact ⟨_, _, P, by assumption, (Rs34.le (by omega) (by omega) (by omega) (by omega))⟩)
            · refine sf_if (fun c35 => ?_) (fun c35 => ?_)
              · unfold pc_X7_statement_130
                refine wtN (Gs8.tg 19) ?_
                refine cl_O (s_termStm (k := k + 17) (s := s + 126) (o := o) (z := z + 2) (by omega) Gs8 (Rs8.le (by omega) (by omega) (by omega) (by omega)) P (by first | assumption | exact inR_of _ | exact ⟨by omega, by omega⟩) (by omega)) E10 (by omega) (by omega) (by omega) (by omega) (fun s36 z3_37 rz3_37 Gs36 es36 Rs36 fz3_37 => ?_)
                obtain ⟨ρz3_37, Mz3_37, Pz3_37, Tz3_37, Qz3_37⟩ := fz3_37
                have P := Pz3_37
                have E38 := E10.trans es36
                exact ret_O (by first | assumption | exact inR_of _ | exact ⟨by omega, by omega⟩) Gs36 E38 (Qz3_37.le (by omega) (by omega) (by omega) (by omega)) (by first | trivial | assumption | omega | (dsimp only; omega) | exact ⟨_, _, P, (by assumption), (Qz3_37.le (by omega) (by omega) (by omega) (by omega))⟩ | exact ⟨_, _, P, by assumption, (Qz3_37.le (by omega) (by omega) (by omega) (by omega))⟩)
              · refine sf_if (fun c39 => ?_) (fun c39 => ?_)
                · unfold pc_X7_statement_130
                  refine wtN (Gs8.tg 19) ?_
                  refine cl_O (s_termStm (k := k + 17) (s := s + 126) (o := o) (z := z + 2) (by omega) Gs8 (Rs8.le (by omega) (by omega) (by omega) (by omega)) P (by first | assumption | exact inR_of _ | exact ⟨by omega, by omega⟩) (by omega)) E10 (by omega) (by omega) (by omega) (by omega) (fun s40 z3_41 rz3_41 Gs40 es40 Rs40 fz3_41 => ?_)
                  obtain ⟨ρz3_41, Mz3_41, Pz3_41, Tz3_41, Qz3_41⟩ := fz3_41
                  have P := Pz3_41
                  have E42 := E10.trans es40
                  exact ret_O (by first | assumption | exact inR_of _ | exact ⟨by omega, by omega⟩) Gs40 E42 (Qz3_41.le (by omega) (by omega) (by omega) (by omega)) (by first | trivial | assumption | omega | (dsimp only; omega) | exact ⟨_, _, P, (by assumption), (Qz3_41.le (by omega) (by omega) (by omega) (by omega))⟩ | exact ⟨_, _, P, by assumption, (Qz3_41.le (by omega) (by omega) (by omega) (by omega))⟩)
                · refine sf_if (fun c43 => ?_) (fun c43 => ?_)
                  · refine wtN (Gs8.tg 19) ?_
                    refine cl_O (s_sameStm (k := k + 20) (s := s + 150) (o := o) (z := z + 3) (by omega) Gs8 (Rs8.le (by omega) (by omega) (by omega) (by omega)) P (by first | assumption | exact inR_of _ | exact ⟨by omega, by omega⟩)) E10 (by omega) (by omega) (by omega) (by omega) (fun s44 z37_45 rz37_45 Gs44 es44 Rs44 fz37_45 => ?_)
                    obtain ⟨ρz37_45, Mz37_45, Pz37_45, Tz37_45, Qz37_45⟩ := fz37_45
                    have P := Pz37_45
                    have E46 := E10.trans es44
                    exact ret_O (by first | assumption | exact inR_of _ | exact ⟨by omega, by omega⟩) Gs44 E46 (Qz37_45.le (by omega) (by omega) (by omega) (by omega)) (by first | trivial | assumption | omega | (dsimp only; omega) | exact ⟨_, _, P, (by assumption), (Qz37_45.le (by omega) (by omega) (by omega) (by omega))⟩ | exact ⟨_, _, P, by assumption, (Qz37_45.le (by omega) (by omega) (by omega) (by omega))⟩)
                  · unfold pc_X7_statement_130
                    refine wtN (Gs8.tg 19) ?_
                    refine cl_O (s_termStm (k := k + 17) (s := s + 126) (o := o) (z := z + 2) (by omega) Gs8 (Rs8.le (by omega) (by omega) (by omega) (by omega)) P (by first | assumption | exact inR_of _ | exact ⟨by omega, by omega⟩) (by omega)) E10 (by omega) (by omega) (by omega) (by omega) (fun s47 z3_48 rz3_48 Gs47 es47 Rs47 fz3_48 => ?_)
                    obtain ⟨ρz3_48, Mz3_48, Pz3_48, Tz3_48, Qz3_48⟩ := fz3_48
                    have P := Pz3_48
                    have E49 := E10.trans es47
                    exact ret_O (by first | assumption | exact inR_of _ | exact ⟨by omega, by omega⟩) Gs47 E49 (Qz3_48.le (by omega) (by omega) (by omega) (by omega)) (by first | trivial | assumption | omega | (dsimp only; omega) | exact ⟨_, _, P, (by assumption), (Qz3_48.le (by omega) (by omega) (by omega) (by omega))⟩ | exact ⟨_, _, P, by assumption, (Qz3_48.le (by omega) (by omega) (by omega) (by omega))⟩)
      · unfold pc_X7_statement_33
        refine wtN (G.tg 19) ?_
        refine cl_O (s_refuse (k := k + 0 + 20 * ρ) (s := s + 0 + 150 * ρ) (o := o) (z := z + 0 + 3 * ρ) (by omega) G (R.le (by omega) (by omega) (by omega) (by omega))) (Ext.refl (b := b) (σ := σ)) (by omega) (by omega) (by omega) (by omega) (fun s50 z3_51 rz3_51 Gs50 es50 Rs50 fz3_51 => fz3_51.elim)
  · refine wtN (G.tg 19) ?_
    refine cl_O (s_nameStm (k := k) (s := s) (o := o) (z := z) (by omega) G (R.le (by omega) (by omega) (by omega) (by omega)) P (by first | assumption | exact inR_of _ | exact ⟨by omega, by omega⟩)) (Ext.refl (b := b) (σ := σ)) (by omega) (by omega) (by omega) (by omega) (fun s52 z8_53 rz8_53 Gs52 es52 Rs52 fz8_53 => ?_)
    obtain ⟨ρz8_53, Mz8_53, Pz8_53, Tz8_53, Qz8_53⟩ := fz8_53
    have P := Pz8_53
    have E54 := (Ext.refl (b := b) (σ := σ)).trans es52
    exact ret_O (by first | assumption | exact inR_of _ | exact ⟨by omega, by omega⟩) Gs52 E54 (Qz8_53.le (by omega) (by omega) (by omega) (by omega)) (by first | trivial | assumption | omega | (dsimp only; omega) | exact ⟨_, _, P, (by assumption), (Qz8_53.le (by omega) (by omega) (by omega) (by omega))⟩ | exact ⟨_, _, P, by assumption, (Qz8_53.le (by omega) (by omega) (by omega) (by omega))⟩)
end CST
