section CST
variable {bd : cBd} {b d : Nat} {σ σ1 σ2 σ3 : CS} {Q : CS → Nat → Int → Prop} {k s o z : Nat}
variable {e ρ : Nat}
/-- a statement that is not filled yet -/
def oS0 (b : Nat) (σ : CS) (x : Int) : Prop := (0 ≤ x ∧ c_tg σ x.toNat = 10) ∧ b + 24 ≤ x.toNat
theorem oS0.tg {x : Int} (h : oS0 b σ x) : 0 ≤ x ∧ c_tg σ x.toNat = 10 := h.1
theorem oS0.up {σ' : CS} {x : Int} (h : oS0 b σ x) (e : Ext b σ σ') : oS0 b σ' x := ⟨⟨h.1.1, e.tg h.1.2 (by decide)⟩, h.2⟩
theorem mk_stm0 {σ1 : CS} (G : GG bd b σ) (R : RR bd b σ (k + 1) (s + 5) o z) (e : σ1 = cs_n σ 10 5) : GG bd b σ1 ∧ Ext b σ σ1 ∧ RR bd b σ1 k s o z ∧ oS0 b σ1 ((c_hp σ : Nat) : Int) ∧ (∀ a f, a ≠ c_hp σ → c_pv σ1 a f = c_pv σ a f) ∧ c_tg σ ((c_hp σ : Nat) : Int).toNat = 0 := by
  subst e
  rw [cs_n_o]
  have hg := gg_stm G (F := fun g => if cw_isR 10 g = true then -1 else 0) (fun f => by split <;> exact ⟨by decide, by decide⟩) (Or.inl ⟨rfl, by decide⟩)
  have ha : ((c_hp σ : Nat) : Int).toNat = c_hp σ := Int.toNat_natCast _
  refine ⟨hg.1, hg.2, rr_new G R, ⟨new_t, by rw [ha]; exact G.hp⟩, fun a f ha => cs_o_pn ha, ?_⟩
  rw [ha]
  by_cases c : c_tg σ (c_hp σ) = 0
  · exact c
  · have := G.lt c
    omega
theorem gg_at (G : GG bd b σ) {σ' : CS} {a : Nat} (ht : c_tg σ' = c_tg σ) (hl : c_ln σ' = c_ln σ) (hh : c_hp σ' = c_hp σ) (hF : ∀ q f, q ≠ a → c_pv σ' q f = c_pv σ q f) (ha : c_tg σ a = 10) (hb : b + 24 ≤ a) (ho : oSt σ' (c_pv σ' a)) (hr : ∀ f, inR (c_pv σ' a f)) : GG bd b σ' ∧ Ext0 b σ σ' := by
  have hE : Ext0 b σ σ' := by
    refine ⟨by rw [hh]; exact Nat.le_refl _, fun q _ => ⟨by rw [ht], by rw [hl]⟩, fun q f hq => hF q f (fun c => ?_)⟩
    subst c
    unfold fz0 at hq
    omega
  have hne : ∀ i, i < 24 → b + i ≠ a := fun i hi => by omega
  refine ⟨⟨fun i hi => by rw [ht, hl]; exact G.1 i hi, fun q hq => ?_, ⟨fun i' f' lo hi' hi2 hr2 => ?_, fun j => ?_⟩, ?_, fun q => ?_, fun q f => ?_, ?_⟩, hE⟩
  · have hq2 : q.1 < 24 := (by decide : ∀ q ∈ gF, q.1 < 24) q hq
    rw [hF _ _ (hne _ hq2)]; exact G.2.1 q hq
  · rw [hF _ _ (hne _ hi2)]; exact G.2.2.1.1 i' f' lo hi' hi2 hr2
  · rw [hF _ _ (hne 17 (by decide)), hF _ _ (hne 16 (by decide))]; exact G.2.2.1.2 j
  · exact hw_same G.2.2.2.1 (fun j => hF _ _ (hne 12 (by decide))) (fun j => hF _ _ (hne 13 (by decide))) (fun j => hF _ _ (hne 15 (by decide))) (hF _ _ (hne 9 (by decide))) (fun x q => q.upz hE)
  · by_cases c : q = a
    · subst c
      unfold OI
      rw [ht, ha]
      exact ⟨fun c => by omega, fun c => by omega, fun c => by omega, fun c => by omega, fun _ => ho⟩
    · exact (G.oi q).up hE (by rw [ht]) (fun f => hF q f c)
  · by_cases c : q = a
    · subst c; exact hr f
    · rw [hF q f c]; exact G.ir q f
  · obtain ⟨⟨s1, s2, s3⟩, ⟨s4, s5, s6⟩, s7, s8, s9, s10⟩ := G.st
    exact ⟨⟨by rw [ht]; exact s1, by rw [hl]; exact s2, s3⟩, ⟨by rw [ht]; exact s4, by rw [hl]; exact s5, s6⟩, s7, fun q hq => by rw [hh]; rw [ht] at hq; exact s8 q hq, by rw [hh]; exact s9, s10⟩
/-- a statement: its parts, their size -/
def SSt (b : Nat) (σ : CS) (x : Int) (M : Nat) : Prop := (0 ≤ x ∧ c_tg σ x.toNat = 10) ∧ oK (c_pv σ x.toNat 0) (c_pv σ x.toNat 2) (c_pv σ x.toNat 3) (c_pv σ x.toNat 4) σ ∧ (3 ≤ c_pv σ x.toNat 0 → ∃ n1 n2, TS b σ 82 (c_pv σ x.toNat 3) n1 ∧ (c_pv σ x.toNat 4 < 0 ∨ TS b σ 82 (c_pv σ x.toNat 4) n2) ∧ n1 + n2 ≤ M)
theorem SSt.tg {x : Int} {M : Nat} (h : SSt b σ x M) : 0 ≤ x ∧ c_tg σ x.toNat = 10 := h.1
theorem SSt.upf {σ' : CS} {x : Int} {M : Nat} (h : SSt b σ x M) (e : Ext0 b σ σ') (hf : ∀ f, c_pv σ' x.toNat f = c_pv σ x.toNat f) : SSt b σ' x M := by
  obtain ⟨h1, h2, h3⟩ := h
  refine ⟨⟨h1.1, e.tg h1.2 (by decide)⟩, ?_, ?_⟩
  · rw [hf, hf, hf, hf]; exact h2.upz e
  · rw [hf, hf, hf]
    intro c
    obtain ⟨n1, n2, a1, a2, a3⟩ := h3 c
    exact ⟨n1, n2, a1.upz e, Or.imp_right (fun q => q.upz e) a2, a3⟩
theorem SSt.up {σ' : CS} {x : Int} {M : Nat} (h : SSt b σ x M) (e : Ext b σ σ') : SSt b σ' x M := h.upf e.z (fun f => e.sm h.1.2 f)
theorem ci_stm (hd : 7 ≤ d) (G : GG bd b σ) (R : RR bd b σ k s o z) {x x1 x2 x3 x4 x5 : Int} {M : Nat} (hx : 0 ≤ x ∧ c_tg σ x.toNat = 10) (hb : b + 24 ≤ x.toNat) (hK : oK x1 x3 x4 x5 σ ∧ (3 ≤ x1 → ∃ n1 n2, TS b σ 82 x4 n1 ∧ (x5 < 0 ∨ TS b σ 82 x5 n2) ∧ n1 + n2 ≤ M)) (hr : inR x1 ∧ inR x2 ∧ inR x3 ∧ inR x4 ∧ inR x5) {K : CS → CO} (kk : ∀ σ', GG bd b σ' → Ext0 b σ σ' → RR bd b σ' k s o z → SSt b σ' x M → (∀ q f, q ≠ x.toNat → c_pv σ' q f = c_pv σ q f) → sf (K σ') Q) : sf (cc_ci (RC bd d 137 σ [x, x1, x2, x3, x4, x5]) K) Q := by
  refine sf_ci (P := fun σ' kd r => kd = 0 ∧ σ' = cs_p (cs_p (cs_p (cs_p (cs_p σ x.toNat 0 x1) x.toNat 1 x2) x.toNat 2 x3) x.toNat 3 x4) x.toNat 4 x5) ?_ (fun σ' kd r hp => ⟨hp.1, ?_⟩)
  · obtain ⟨d, rfl⟩ : ∃ d0, d = d0 + 1 := ⟨d - 1, by omega⟩
    rw [rc_X9_init (by omega)]
    refine sf_fin ?_
    unfold pc_X9_init_0
    refine sf_t hx ?_
    refine sf_p hx ?_
    refine sf_p hx ?_
    refine sf_p hx ?_
    refine sf_p hx ?_
    refine sf_p hx ?_
    exact sf_some ⟨⟨by decide, by decide⟩, rfl, rfl⟩
  · obtain ⟨hk, hs⟩ := hp
    have hF : ∀ q f, q ≠ x.toNat → c_pv σ' q f = c_pv σ q f := fun q f hq => by rw [hs, cs_p_na hq, cs_p_na hq, cs_p_na hq, cs_p_na hq, cs_p_na hq]
    have f0 : c_pv σ' x.toNat 0 = x1 := by rw [hs, cs_p_nf (by decide), cs_p_nf (by decide), cs_p_nf (by decide), cs_p_nf (by decide), cs_p_eq]
    have f2 : c_pv σ' x.toNat 2 = x3 := by rw [hs, cs_p_nf (by decide), cs_p_nf (by decide), cs_p_eq]
    have f3 : c_pv σ' x.toNat 3 = x4 := by rw [hs, cs_p_nf (by decide), cs_p_eq]
    have f4 : c_pv σ' x.toNat 4 = x5 := by rw [hs, cs_p_eq]
    have ht : c_tg σ' = c_tg σ := by rw [hs]; rfl
    have hl : c_ln σ' = c_ln σ := by rw [hs]; rfl
    have hh : c_hp σ' = c_hp σ := by rw [hs]; rfl
    have hE : Ext0 b σ σ' := by
      refine ⟨by rw [hh]; exact Nat.le_refl _, fun q _ => ⟨by rw [ht], by rw [hl]⟩, fun q f hq => hF q f (fun c => ?_)⟩
      subst c
      unfold fz0 at hq
      omega
    have hg := gg_at G ht hl hh hF hx.2 hb (Or.inr (by rw [f0, f2, f3, f4]; exact hK.1.upz hE)) (fun f => by
      rw [hs]
      exact cs_p_ir (cs_p_ir (cs_p_ir (cs_p_ir (cs_p_ir G.ir hr.1) hr.2.1) hr.2.2.1) hr.2.2.2.1) hr.2.2.2.2 _ _)
    have hR : RR bd b σ' k s o z := by
      obtain ⟨a1, a2, a3, a4⟩ := R
      have hs2 : c_sl σ' = c_sl σ := by rw [hs]; rfl
      unfold RR
      rw [hh, hs2, hF _ _ (by omega), hF _ _ (by omega), hF _ _ (by omega), hF _ _ (by omega), hF _ _ (by omega)]
      exact ⟨a1, a2, a3, a4⟩
    refine kk σ' hg.1 hg.2 hR ⟨⟨hx.1, by rw [ht]; exact hx.2⟩, by rw [f0, f2, f3, f4]; exact hK.1.upz hE, ?_⟩ hF
    rw [f0, f3, f4]
    intro c
    obtain ⟨n1, n2, a1, a2, a3⟩ := hK.2 c
    exact ⟨n1, n2, a1.upz hE, Or.imp_right (fun q => q.upz hE) a2, a3⟩
theorem s_axiomStm (hd : 185 ≤ d) (G : GG bd b σ) (R : RR bd b σ (k + 1 + 20 * ρ) (s + 6 + 150 * ρ) (o) (z + 3 * ρ)) (P : rP b e σ ρ) {x : Int} (rx : inR x) : sf (RC bd d 112 σ [((b + 19 : Nat) : Int), x]) (PO bd b σ k s o z (fun σ' r => ∃ ρ' M, rP b e σ' ρ' ∧ SSt b σ' r M ∧ RR bd b σ' (k + 3 + 20 * ρ' + 3 * M) (s + 18 + 150 * ρ' + 25 * M) o (z + 1 + 3 * ρ'))) := by
  obtain ⟨d, rfl⟩ : ∃ d0, d = d0 + 1 := ⟨d - 1, by omega⟩
  rw [rc_X7_axiom (by omega)]
  refine fin_O ?_
  unfold pc_X7_axiom_0
  refine wtN (G.tg 19) ?_
  refine cl_O (s_takeName (k := k) (s := s) (o := o) (z := z) (by omega) G (R.le (by omega) (by omega) (by omega) (by omega)) P) (Ext.refl (b := b) (σ := σ)) (by omega) (by omega) (by omega) (by omega) (fun s1 z3_2 rz3_2 Gs1 es1 Rs1 fz3_2 => ?_)
  obtain ⟨ρz3_2, hρz3_2, Pz3_2, q6z3_2, k7z3_2, Qz3_2⟩ := fz3_2
  subst hρz3_2
  have P := Pz3_2
  have t_z3_2 := q6z3_2.1
  have Sz3_2 := TS.leaf (b := b) (h := 1) q6z3_2.1 q6z3_2.2 (by decide)
  have E3 := (Ext.refl (b := b) (σ := σ)).trans es1
  refine wtN (Gs1.tg 19) ?_
  refine cl_O (s_expect (k := k + 19 + 20 * ρz3_2) (s := s + 139 + 150 * ρz3_2) (o := o) (z := z + 3 + 3 * ρz3_2) (by omega) Gs1 (Qz3_2.le (by omega) (by omega) (by omega) (by omega)) P ⟨by omega, by omega⟩) E3 (by omega) (by omega) (by omega) (by omega) (fun s4 z6_5 rz6_5 Gs4 es4 Rs4 fz6_5 => ?_)
  obtain ⟨ρz6_5, hρz6_5, Pz6_5, Qz6_5⟩ := fz6_5
  subst hρz6_5
  have P := Pz6_5
  have E6 := E3.trans es4
  have t_z3_2 := t_z3_2.up es4
  have Sz3_2 := Sz3_2.up es4
  obtain ⟨hms7, hrs7⟩ := mk_row_room Gs4 (n := 5) (Qz6_5.le (k' := (k + 39 + 20 * ρz6_5) + 1) (s' := (s + 290 + 150 * ρz6_5) + 5) (o' := o) (z' := (z + 6 + 3 * ρz6_5)) (by omega) (by omega) (by omega) (by omega))
  refine wn hms7 (fun s7 ws7 => ?_)
  obtain ⟨Gs7, es7, Rs7, t_s7, Fs7, Ns7⟩ := mk_stm0 Gs4 hrs7 ws7
  have P := P.nw Gs4 Fs7
  have rst := hp_R Gs4 hrs7
  have N10 := E6.fresh Ns7
  have E8 := E6.trans es7
  have t_z3_2 := t_z3_2.up es7
  have Sz3_2 := Sz3_2.up es7
  refine wtN (Gs7.tg 19) ?_
  refine cl_O (s_takeName (k := k + 38) (s := s + 284) (o := o) (z := z + 6) (by omega) Gs7 (Rs7.le (by omega) (by omega) (by omega) (by omega)) P) E8 (by omega) (by omega) (by omega) (by omega) (fun s9 z11_10 rz11_10 Gs9 es9 Rs9 fz11_10 => ?_)
  obtain ⟨ρz11_10, hρz11_10, Pz11_10, q6z11_10, k7z11_10, Qz11_10⟩ := fz11_10
  subst hρz11_10
  have P := Pz11_10
  have t_z11_10 := q6z11_10.1
  have Sz11_10 := TS.leaf (b := b) (h := 1) q6z11_10.1 q6z11_10.2 (by decide)
  have E11 := E8.trans es9
  have t_z3_2 := t_z3_2.up es9
  have t_s7 := t_s7.up es9
  have Sz3_2 := Sz3_2.up es9
  refine sf_t t_s7.tg ?_
  refine ci_stm (by omega) Gs9 Qz11_10 t_s7.tg t_s7.2 (M := 0) ⟨⟨⟨by decide, by decide⟩, fun _ => t_z3_2, fun q => by omega, fun _ => t_z11_10, fun q => by omega, fun q => by omega, oNN.nul (by decide)⟩, fun q => by omega⟩ ⟨⟨by decide, by decide⟩, (by first | assumption | exact inR_of _ | exact ⟨by omega, by omega⟩), (by first | assumption | exact ref_R Gs9 Qz11_10 t_z3_2.tg (by decide)), (by first | assumption | exact ref_R Gs9 Qz11_10 t_z11_10.tg (by decide)), ⟨by decide, by decide⟩⟩ (fun s12 Gs12 es12 Rs12 Ts12 Fs12 => ?_)
  have Es12 := E11.own es12 (fun q f _ hq => Fs12 q f (fun c9 => hq (by rw [c9]; exact N10)))
  have P := P.fr (fun f _ => Fs12 _ _ (by have := t_s7.2; omega)) (fun f => Fs12 _ _ (by have := t_s7.2; omega))
  have Sz3_2 := Sz3_2.upz es12
  have Sz11_10 := Sz11_10.upz es12
  exact ret_O (by first | assumption | exact ref_R Gs12 Rs12 t_s7.tg (by decide) | exact ⟨by omega, by omega⟩) Gs12 Es12 (Rs12.le (by omega) (by omega) (by omega) (by omega)) (by first | trivial | assumption | omega | (dsimp only; omega) | exact ⟨_, _, P, Ts12, (Rs12.le (by omega) (by omega) (by omega) (by omega))⟩)
end CST
