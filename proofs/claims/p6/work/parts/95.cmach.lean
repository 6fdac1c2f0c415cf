section CMA
variable {bd : cBd} {b d : Nat} {σ σ1 σ2 σ3 : CS} {Q : CS → Nat → Int → Prop} {k s o z : Nat}
theorem gF_row {i f : Nat} (h : gF.all (fun q => !(q.1 == i)) = true) : gF.all (fun q => !(q.1 == i && q.2.1 == f)) = true := by
  refine List.all_eq_true.mpr (fun q hq => ?_)
  have h1 := List.all_eq_true.mp h q hq
  simp at h1
  simp [h1]
theorem cs_n_tn (h : GG bd b σ) {t' n a : Nat} (ha : c_tg σ a ≠ 0) : c_tg (cs_n σ t' n) a = c_tg σ a := if_neg (by have := h.lt ha; omega)
theorem cs_n_pn (h : GG bd b σ) {t' n a f : Nat} (ha : c_tg σ a ≠ 0) : c_pv (cs_n σ t' n) a f = c_pv σ a f := if_neg (by have := h.lt ha; omega)
theorem cs_n_ne (h : GG bd b σ) {t' n a : Nat} (ha : c_tg σ a ≠ 0) : c_ln (cs_n σ t' n) a = c_ln σ a := if_neg (by have := h.lt ha; omega)
theorem sf_gn (h : GG bd b σ) {t t' n f : Nat} {x : Int} {k : Int → CO} (hx : 0 ≤ x ∧ c_tg σ x.toNat = t) (ht : t ≠ 0) (hk : sf (k (c_pv σ x.toNat f)) Q) : sf (cc_g (cs_n σ t' n) t f x k) Q := by
  have h0 : c_tg σ x.toNat ≠ 0 := by rw [hx.2]; exact ht
  refine sf_g ⟨hx.1, (cs_n_tn h h0).trans hx.2⟩ ?_
  rw [cs_n_pn h h0]
  exact hk
theorem sf_rn (h : GG bd b σ) {t t' n : Nat} {x i : Int} {k : Int → CO} (hx : 0 ≤ x ∧ c_tg σ x.toNat = t) (ht : t ≠ 0) (hi : 0 ≤ i ∧ i < (c_ln σ x.toNat : Int)) (hk : sf (k (c_pv σ x.toNat i.toNat)) Q) : sf (cc_r (cs_n σ t' n) t x i k) Q := by
  have h0 : c_tg σ x.toNat ≠ 0 := by rw [hx.2]; exact ht
  refine sf_r ⟨hx.1, (cs_n_tn h h0).trans hx.2⟩ (by rw [cs_n_ne h h0]; exact hi) ?_
  rw [cs_n_pn h h0]
  exact hk
theorem oL.lt (h : GG bd b σ) {x : Int} (hx : oL σ x) : x < (c_hp σ : Int) := by
  rcases hx with q | q
  · omega
  · have := h.lt (a := x.toNat) (by rw [q.2]; decide)
    omega
theorem hp_R (h : GG bd b σ) (hr : RR bd b σ k s o z) : inR ((c_hp σ : Nat) : Int) := by
  have h1 := hr.1
  have h2 := h.nu 16 3
  have h3 := h.st.2.2.2.2.2.1
  exact ⟨by omega, by omega⟩
theorem mk_link (hd : 6 ≤ d) (h : GG bd b σ) (hr : RR bd b σ (k + 1) (s + 5) o z) {x1 x2 x3 x4 : Int} (hx : inR x1 ∧ inR x2 ∧ inR x3 ∧ inR x4) (h1 : oid x1) (h2 : oNN σ x2) (h3 : oL σ x3) (h4 : oL σ x4) (h5 : x1 = 0 → oN σ x2 ∧ oP σ x4) {K : CS → CO}
    (kk : ∀ σ', GG bd b σ' → Ext b σ σ' → RR bd b σ' k s o z → c_tg σ' (c_hp σ) = 4 → c_pv σ' (c_hp σ) 0 = x1 → (∀ a f, a ≠ c_hp σ → c_pv σ' a f = c_pv σ a f) → sf (K σ') Q) : sf (cc_t (cs_n σ 4 5) 4 ((c_hp σ : Nat) : Int) (cc_ci (RC bd d 77 (cs_n σ 4 5) [((c_hp σ : Nat) : Int), x1, x2, x3, x4]) K)) Q := by
  refine sf_tN (by rw [cs_n_o]; exact cs_o_tg) (sf_ci (s_nlink hd hx) (fun σ' kd r hp => ?_))
  obtain ⟨h0, F, rfl, e0, e1, e2, e3, e4, hF⟩ := hp
  have hg := gg_link h hF (by
    unfold oLk
    rw [e0, e1, e2, e3, e4]
    exact ⟨h1, h2, h3, ⟨by decide, by decide⟩, h4, h4.lt h, h5⟩)
  exact ⟨h0, kk _ hg.1 hg.2 (rr_new h hr) cs_o_tg (by rw [cs_o_pv]; exact e0) (fun a f ha => cs_o_pn ha)⟩
theorem mk_put (hd : 6 ≤ d) (h : GG bd b σ) (hr : RR bd b σ (k + 1) (s + 5) o z) {x1 x2 x3 : Int} (hx : inR x1 ∧ inR x3) (hl : 0 ≤ x2 ∧ x2 ≤ 1000) (h1 : oid x1) (h4 : oL σ x3) (h5 : x1 ≠ 0) {K : CS → CO}
    (kk : ∀ σ', GG bd b σ' → Ext b σ σ' → RR bd b σ' k s o z → c_tg σ' (c_hp σ) = 4 → c_pv σ' (c_hp σ) 3 = -1 - x2 → (∀ a f, a ≠ c_hp σ → c_pv σ' a f = c_pv σ a f) → sf (K σ') Q) : sf (cc_t (cs_n σ 4 5) 4 ((c_hp σ : Nat) : Int) (cc_ci (RC bd d 78 (cs_n σ 4 5) [((c_hp σ : Nat) : Int), x1, x2, x3]) K)) Q := by
  refine sf_tN (by rw [cs_n_o]; exact cs_o_tg) (sf_ci (s_nput hd hx hl) (fun σ' kd r hp => ?_))
  obtain ⟨h0, F, rfl, e0, e1, e2, e3, e4, hF⟩ := hp
  have hg := gg_link h hF (by
    unfold oLk
    rw [e0, e1, e2, e3, e4]
    exact ⟨h1, Or.inl (by decide), Or.inl (by decide), ⟨by omega, by omega⟩, h4, h4.lt h, fun q => absurd q h5⟩)
  exact ⟨h0, kk _ hg.1 hg.2 (rr_new h hr) cs_o_tg (by rw [cs_o_pv]; exact e3) (fun a f ha => cs_o_pn ha)⟩
theorem mk_head (hd : 6 ≤ d) (h : GG bd b σ) (hr : RR bd b σ (k + 1) (s + 4) o z) {x1 x2 x3 x4 : Int} (hx : inR x1 ∧ inR x2 ∧ inR x3 ∧ inR x4) (h1 : oN σ x1) (h2 : oid x2) (h3 : oL σ x3) (h4 : oP σ x4) {K : CS → CO}
    (kk : ∀ σ', GG bd b σ' → Ext b σ σ' → RR bd b σ' k s o z → c_tg σ' (c_hp σ) = 2 → (c_pv σ' (c_hp σ) 0 = x1 ∧ c_pv σ' (c_hp σ) 3 = x4) → (∀ a f, a ≠ c_hp σ → c_pv σ' a f = c_pv σ a f) → sf (K σ') Q) : sf (cc_t (cs_n σ 2 4) 2 ((c_hp σ : Nat) : Int) (cc_ci (RC bd d 26 (cs_n σ 2 4) [((c_hp σ : Nat) : Int), x1, x2, x3, x4]) K)) Q := by
  refine sf_tN (by rw [cs_n_o]; exact cs_o_tg) (sf_ci (s_nhead hd hx) (fun σ' kd r hp => ?_))
  obtain ⟨h0, F, rfl, e0, e1, e2, e3, hF⟩ := hp
  have hg := gg_head h hF (by
    unfold oH
    rw [e0, e1, e2, e3]
    exact ⟨h1, h2, h3, h4⟩)
  exact ⟨h0, kk _ hg.1 hg.2 (rr_new h hr) cs_o_tg ⟨by rw [cs_o_pv]; exact e0, by rw [cs_o_pv]; exact e3⟩ (fun a f ha => cs_o_pn ha)⟩
theorem mk_leaf (hd : 6 ≤ d) (h : GG bd b σ) (hr : RR bd b σ (k + 1) (s + 11) o z) {x1 x2 : Int} (hx : inR x1 ∧ inR x2) (h1 : 0 ≤ x1 ∧ x1 ≤ 3) (h2 : oid x2) {K : CS → CO}
    (kk : ∀ σ', GG bd b σ' → Ext b σ σ' → RR bd b σ' k s o z → oN σ' ((c_hp σ : Nat) : Int) → (c_pv σ' (c_hp σ) 0 = x1 ∧ c_pv σ' (c_hp σ) 6 = -1) → (∀ a f, a ≠ c_hp σ → c_pv σ' a f = c_pv σ a f) → sf (K σ') Q) : sf (cc_t (cs_n σ 7 11) 7 ((c_hp σ : Nat) : Int) (cc_ci (RC bd d 105 (cs_n σ 7 11) [((c_hp σ : Nat) : Int), x1, x2]) K)) Q := by
  refine sf_tN (by rw [cs_n_o]; exact cs_o_tg) (sf_ci (s_nnode hd hx) (fun σ' kd r hp => ?_))
  obtain ⟨h0, F, rfl, e0, e1, e4, e5, e6, e7, e8, hF⟩ := hp
  have hg := gg_nd h hF (by
    unfold oNd
    rw [e0, e1, e4, e5, e6, e7, e8]
    exact ⟨⟨by omega, by omega⟩, h2, ⟨by decide, by decide⟩, ⟨by decide, by decide⟩, fun _ => by decide, fun q => by omega, fun q => by omega, fun q => by omega⟩)
  exact ⟨h0, kk _ hg.1 hg.2 (rr_new h hr) ⟨by omega, by rw [Int.toNat_natCast]; exact cs_o_tg⟩ ⟨by rw [cs_o_pv]; exact e0, by rw [cs_o_pv]; exact e6⟩ (fun a f ha => cs_o_pn ha)⟩
/-- the work's end: the fault is noted, the exception leaves -/
theorem s_spend47 (h : GG bd b σ) (hr : RR bd b σ (k + 1) (s + 6) o z) {t : Int} (ht : t = 12 ∨ t = 14) {rec : Nat → CS → List Int → CO} : sf (pc_X4_spend_47 rec bd σ ((b + 16 : Nat) : Int) t ((b + 2 : Nat) : Int)) (fun σ' kd r => inR r ∧ kd = 1 ∧ GG bd b σ' ∧ Ext b σ σ' ∧ RR bd b σ' k s o z) := by
  unfold pc_X4_spend_47
  refine sf_pN (h.tg 2) ?_
  have h1 := gg_put h 2 0 (y := t) ⟨by omega, by omega⟩ (by decide) (by decide) (fun lo hi q => by cases q; exact ⟨by omega, by omega⟩) (Or.inl ⟨by decide, by decide⟩) (by decide)
  refine sf_gN (h1.1.tg 16) ?_
  rw [h1.1.fi 19 (i := 16) (f := 1) (j := 2)]
  refine sf_gN (h1.1.tg 16) ?_
  refine sf_pN (h1.1.tg 2) ?_
  have h2 := gg_put h1.1 2 1 (h1.1.ir (b + 16) 5) (by decide) (by decide) (fun lo hi q => by cases q) (Or.inl ⟨by decide, by decide⟩) (by decide)
  have hr2 := rr_put (rr_put hr 2 0 (y := t) (by decide)) 2 1 (y := c_pv (cs_p σ (b + 2) 0 t) (b + 16) 5) (by decide)
  have h3 := gg_x h2.1 6
  have hm := rr_room h2.1 hr2
  refine sf_x ⟨hm.1, hm.2.1⟩ ⟨⟨by decide, by decide⟩, rfl, h3.1, (h1.2.trans h2.2).trans h3.2, rr_x hr2⟩
theorem s_spend32 (h : GG bd b σ) (hr : RR bd b σ (k + 1) (s + 6) o z) {x : Int} {rec : Nat → CS → List Int → CO} : sf (pc_X4_spend_32 rec bd σ ((b + 16 : Nat) : Int) x) (fun σ' kd r => inR r ∧ kd = 1 ∧ GG bd b σ' ∧ Ext b σ σ' ∧ RR bd b σ' k s o z) := by
  unfold pc_X4_spend_32
  refine sf_gN (h.tg 16) ?_
  rw [h.fi 19 (i := 16) (f := 1) (j := 2)]
  refine sf_if (fun c => ?_) (fun c => ?_)
  · exact s_spend47 h hr (Or.inr rfl)
  · exact s_spend47 h hr (Or.inl rfl)
def okS (bd : cBd) (b : Nat) (σ : CS) (k s o z : Nat) (σ' : CS) (kd : Nat) : Prop := (kd = 0 ∧ GG bd b σ' ∧ Ext b σ σ' ∧ RR bd b σ' (k + 7) (s + 66) (o + 40) z ∧ c_pv σ' (b + 16) 3 = c_pv σ (b + 16) 3 + 1 ∧ ∀ a f, a ≠ b + 16 → a ≠ b + 17 → c_pv σ' a f = c_pv σ a f) ∨ (kd = 1 ∧ GG bd b σ' ∧ Ext b σ σ' ∧ RR bd b σ' k s o z)
theorem s_spend (hd : 6 ≤ d) (h : GG bd b σ) (hr : RR bd b σ (k + 1) (s + 6) o z) {x : Int} (hx : 1 ≤ x ∧ x ≤ 6) : sf (RC bd d 93 σ [((b + 16 : Nat) : Int), x]) (fun σ' kd _ => okS bd b σ k s o z σ' kd) := by
  obtain ⟨d, rfl⟩ : ∃ d0, d = d0 + 1 := ⟨d - 1, by omega⟩
  rw [rc_X4_spend (by omega)]
  refine sf_fin ?_
  unfold pc_X4_spend_0
  refine sf_gN (h.tg 16) ?_
  rw [h.fi 20 (i := 16) (f := 2) (j := 17)]
  refine sf_rN (h.tg 17) (by rw [h.ln 17 (n := 7)]; omega) ?_
  refine sf_gN (h.tg 16) ?_
  have hn0 := h.nu 16 3
  have hn1 := h.nu 16 4
  have key : ∀ t : Int, (t = 0 → c_pv σ (b + 17) (0 : Int).toNat < c_pv σ (b + 16) 4) → sf (pc_X4_spend_18 (RC bd d) bd σ ((b + 16 : Nat) : Int) x t) (fun σ' kd r => inR r ∧ okS bd b σ k s o z σ' kd) := by
    intro t ht
    unfold pc_X4_spend_18
    have fail : ∀ y, sf (pc_X4_spend_32 (RC bd d) bd σ ((b + 16 : Nat) : Int) y) (fun σ' kd r => inR r ∧ okS bd b σ k s o z σ' kd) := fun y => sf_mono (s_spend32 h hr) (fun _ _ _ q => ⟨q.1, Or.inr q.2⟩)
    refine sf_if (fun c => fail _) (fun c => ?_)
    have hlt := ht (by omega)
    refine sf_gN (h.tg 16) ?_
    refine sf_if (fun c2 => ?_) (fun c2 => fail _)
    refine sf_gN (h.tg 16) ?_
    rw [h.fi 20 (i := 16) (f := 2) (j := 17)]
    refine sf_rN (h.tg 17) (by rw [h.ln 17 (n := 7)]; omega) ?_
    have hd0 := h.nu 17 (0 : Int).toNat (lo := 0) (hi := 60000)
    have hdl := h.2.2.1.2 (0 : Int).toNat
    refine sf_ck ⟨by omega, by omega⟩ ?_
    refine sf_wN (h.tg 17) (by rw [h.ln 17 (n := 7)]; omega) ?_
    -- the life's work first, for the proof: the counts never pass it
    have g0 := gg_put h 16 3 (y := c_pv σ (b + 16) 3 + 1) ⟨by omega, by omega⟩ (by decide) (by decide) (fun lo hi q => by cases q; exact ⟨by omega, by omega⟩) (Or.inr (Or.inr ⟨rfl, rfl, by omega⟩)) (by decide)
    have r0 := rr_life (b := b) hr
    have e17 : ∀ j, c_pv (cs_p σ (b + 16) 3 (c_pv σ (b + 16) 3 + 1)) (b + 17) j = c_pv σ (b + 17) j := fun j => cs_p_na (by omega)
    have e16 : c_pv (cs_p σ (b + 16) 3 (c_pv σ (b + 16) 3 + 1)) (b + 16) 3 = c_pv σ (b + 16) 3 + 1 := cs_p_eq
    have g1 := gg_put g0.1 17 (0 : Int).toNat (y := c_pv σ (b + 17) (0 : Int).toNat + 1) ⟨by omega, by omega⟩ (by decide) (by decide) (fun lo hi q => by cases q; exact ⟨by omega, by omega⟩) (Or.inr (Or.inl ⟨rfl, by rw [e16]; omega⟩)) (by decide)
    have r1 := rr_put r0 17 (0 : Int).toNat (y := c_pv σ (b + 17) (0 : Int).toNat + 1) (by decide)
    -- the same, in the order of the words
    have t1 : c_tg (cs_p σ (b + 17) (0 : Int).toNat (c_pv σ (b + 17) (0 : Int).toNat + 1)) (b + 16) = 5 := h.tg 16
    have t2 : c_tg (cs_p σ (b + 17) (0 : Int).toNat (c_pv σ (b + 17) (0 : Int).toNat + 1)) (b + 17) = 21 := h.tg 17
    refine sf_gN t1 ?_
    rw [cs_p_na (q := b + 16) (by omega), h.fi 20 (i := 16) (f := 2) (j := 17)]
    refine sf_rN t2 (by show 0 ≤ x ∧ x < (c_ln σ (b + 17) : Int); rw [h.ln 17 (n := 7)]; omega) ?_
    have hx1 : 0 ≤ c_pv (cs_p σ (b + 17) (0 : Int).toNat (c_pv σ (b + 17) (0 : Int).toNat + 1)) (b + 17) x.toNat ∧ c_pv (cs_p σ (b + 17) (0 : Int).toNat (c_pv σ (b + 17) (0 : Int).toNat + 1)) (b + 17) x.toNat ≤ c_pv σ (b + 16) 3 := by
      rw [cs_p_nf (by omega)]
      exact ⟨(h.nu 17 x.toNat (lo := 0) (hi := 60000)).1, h.2.2.1.2 x.toNat⟩
    refine sf_ck ⟨by omega, by omega⟩ ?_
    refine sf_wN t2 (by show 0 ≤ x ∧ x < (c_ln σ (b + 17) : Int); rw [h.ln 17 (n := 7)]; omega) ?_
    refine sf_gN (h.tg 16) ?_
    rw [cs_p_na (q := b + 16) (by omega), cs_p_na (q := b + 16) (by omega)]
    refine sf_ck ⟨by omega, by omega⟩ ?_
    refine sf_pN (h.tg 16) ?_
    rw [cs_p_nf (σ := σ) (by omega)] at hx1 ⊢
    have hy := h.nu 17 x.toNat (lo := 0) (hi := 60000)
    have g2 := gg_put g1.1 17 x.toNat (y := c_pv σ (b + 17) x.toNat + 1) ⟨by omega, by omega⟩ (by decide) (gF_row (by decide)) (fun lo hi q => by cases q; exact ⟨by omega, by omega⟩) (Or.inr (Or.inl ⟨rfl, by rw [cs_p_na (q := b + 16) (by omega), e16]; omega⟩)) ⟨by decide, by decide, by decide, Or.inl (by decide)⟩
    have r2 := rr_put r1 17 x.toNat (y := c_pv σ (b + 17) x.toNat + 1) ⟨Or.inl (by decide), Or.inl (by decide), Or.inl (by decide)⟩
    have ee : cs_p (cs_p (cs_p σ (b + 16) 3 (c_pv σ (b + 16) 3 + 1)) (b + 17) (0 : Int).toNat (c_pv σ (b + 17) (0 : Int).toNat + 1)) (b + 17) x.toNat (c_pv σ (b + 17) x.toNat + 1) = cs_p (cs_p (cs_p σ (b + 17) (0 : Int).toNat (c_pv σ (b + 17) (0 : Int).toNat + 1)) (b + 17) x.toNat (c_pv σ (b + 17) x.toNat + 1)) (b + 16) 3 (c_pv σ (b + 16) 3 + 1) := by
      refine Prod.ext rfl (Prod.ext ?_ rfl)
      funext a f
      show c_pv (cs_p (cs_p (cs_p σ (b + 16) 3 _) (b + 17) _ _) (b + 17) x.toNat _) a f = c_pv (cs_p (cs_p (cs_p σ (b + 17) _ _) (b + 17) x.toNat _) (b + 16) 3 _) a f
      by_cases h16 : a = b + 16
      · simp [cs_p_pv, h16]
      · simp [cs_p_pv, h16]
    rw [ee] at g2 r2
    refine sf_some ⟨⟨by decide, by decide⟩, Or.inl ⟨rfl, g2.1, ?_, ?_, cs_p_eq, fun a f h16 h17 => ?_⟩⟩
    · have e3 := (g0.2.trans g1.2).trans g2.2
      exact e3
    · exact RR.le r2 (by omega) (by omega) (by omega) (by omega)
    · rw [cs_p_na h16, cs_p_na h17, cs_p_na h17]
  refine sf_if (fun c => ?_) (fun c => ?_)
  · exact key 0 (fun _ => c)
  · exact key 1 (fun q => absurd q (by decide))
end CMA
