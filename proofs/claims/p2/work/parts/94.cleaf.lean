section CLA
variable {bd : cBd} {b d : Nat} {σ σ1 σ2 σ3 : CS} {Q : CS → Nat → Int → Prop} {k s o z : Nat}
theorem cs_n_tn (h : GG bd b σ) {t' n a : Nat} (ha : c_tg σ a ≠ 0) : c_tg (cs_n σ t' n) a = c_tg σ a := if_neg (by have := h.lt ha; omega)
theorem cs_n_pn (h : GG bd b σ) {t' n a f : Nat} (ha : c_tg σ a ≠ 0) : c_pv (cs_n σ t' n) a f = c_pv σ a f := if_neg (by have := h.lt ha; omega)
theorem cs_n_ne (h : GG bd b σ) {t' n a : Nat} (ha : c_tg σ a ≠ 0) : c_ln (cs_n σ t' n) a = c_ln σ a := if_neg (by have := h.lt ha; omega)
theorem wgn (h : GG bd b σ) {t t' n f : Nat} {x : Int} {k : Int → CO} (hx : 0 ≤ x ∧ c_tg σ x.toNat = t) (ht : t ≠ 0) (hk : ∀ z, c_pv σ x.toNat f = z → sf (k z) Q) : sf (cc_g (cs_n σ t' n) t f x k) Q := by
  have h0 : c_tg σ x.toNat ≠ 0 := by rw [hx.2]; exact ht
  refine sf_g ⟨hx.1, (cs_n_tn h h0).trans hx.2⟩ ?_
  rw [cs_n_pn h h0]
  exact hk _ rfl
theorem wgnN (h : GG bd b σ) {t t' n f m : Nat} {k : Int → CO} (hx : c_tg σ m = t) (ht : t ≠ 0) (hk : ∀ z, c_pv σ m f = z → sf (k z) Q) : sf (cc_g (cs_n σ t' n) t f ((m : Nat) : Int) k) Q := wgn h ⟨by omega, by rw [Int.toNat_natCast]; exact hx⟩ ht (by rw [Int.toNat_natCast]; exact hk)
theorem wgnF (h : GG bd b σ) {t t' n f m : Nat} {v : Int} {k : Int → CO} (hx : c_tg σ m = t) (ht : t ≠ 0) (hv : c_pv σ m f = v) (hk : sf (k v) Q) : sf (cc_g (cs_n σ t' n) t f ((m : Nat) : Int) k) Q := wgnN h hx ht (fun z hz => by rw [← hz, hv]; exact hk)
theorem wrn (h : GG bd b σ) {t t' n : Nat} {x i : Int} {k : Int → CO} (hx : 0 ≤ x ∧ c_tg σ x.toNat = t) (ht : t ≠ 0) (hi : 0 ≤ i ∧ i < (c_ln σ x.toNat : Int)) (hk : ∀ z, c_pv σ x.toNat i.toNat = z → sf (k z) Q) : sf (cc_r (cs_n σ t' n) t x i k) Q := by
  have h0 : c_tg σ x.toNat ≠ 0 := by rw [hx.2]; exact ht
  refine sf_r ⟨hx.1, (cs_n_tn h h0).trans hx.2⟩ (by rw [cs_n_ne h h0]; exact hi) ?_
  rw [cs_n_pn h h0]
  exact hk _ rfl
theorem oL.lt (h : GG bd b σ) {x : Int} (hx : oL σ x) : x < (c_hp σ : Int) := by
  rcases hx with q | q
  · omega
  · exact ref_lt h q.tg (by decide)
theorem oS.lt (h : GG bd b σ) {x : Int} (hx : oS σ x) : x < (c_hp σ : Int) := by
  rcases hx with q | q
  · omega
  · exact ref_lt h q.tg (by decide)
theorem new_t {t n : Nat} {F : Nat → Int} : 0 ≤ ((c_hp σ : Nat) : Int) ∧ c_tg (cs_o σ t n F) ((c_hp σ : Nat) : Int).toNat = t := ⟨by omega, by rw [Int.toNat_natCast]; exact cs_o_tg⟩
theorem new_f {t n f : Nat} {F : Nat → Int} : c_pv (cs_o σ t n F) ((c_hp σ : Nat) : Int).toNat f = F f := by rw [Int.toNat_natCast]; exact cs_o_pv
theorem sf_tN0 {n t : Nat} {k : CO} (hx : c_tg σ n = t) (h : sf k Q) : sf (cc_t σ t ((n : Nat) : Int) k) Q := wtN hx h
theorem sf_pN0 {n t f : Nat} {y : Int} {k : CS → CO} (hx : c_tg σ n = t) (h : sf (k (cs_p σ n f y)) Q) : sf (cc_p σ t f ((n : Nat) : Int) y k) Q := wpN hx (fun σ1 e => e ▸ h)
theorem s_nlink (hd : 6 ≤ d) {x1 x2 x3 x4 : Int} (hx : inR x1 ∧ inR x2 ∧ inR x3 ∧ inR x4) : sf (RC bd d 77 (cs_n σ 4 5) [((c_hp σ : Nat) : Int), x1, x2, x3, x4]) (fun σ' kd r => kd = 0 ∧ ∃ F : Nat → Int, σ' = cs_o σ 4 5 F ∧ F 0 = x1 ∧ F 1 = x2 ∧ F 2 = x3 ∧ F 3 = 0 ∧ F 4 = x4 ∧ ∀ f, inR (F f)) := by
  obtain ⟨d, rfl⟩ : ∃ d0, d = d0 + 1 := ⟨d - 1, by omega⟩
  rw [rc_X3_init (by omega)]
  refine sf_fin ?_
  unfold pc_X3_init_0
  rw [cs_n_o]
  refine sf_tN0 cs_o_tg ?_
  refine sf_pN0 cs_o_tg ?_
  rw [cs_o_p]
  refine sf_pN0 cs_o_tg ?_
  rw [cs_o_p]
  refine sf_pN0 cs_o_tg ?_
  rw [cs_o_p]
  refine sf_pN0 cs_o_tg ?_
  rw [cs_o_p]
  refine sf_pN0 cs_o_tg ?_
  rw [cs_o_p]
  refine sf_some ⟨⟨by decide, by decide⟩, rfl, _, rfl, rfl, rfl, rfl, rfl, rfl, fun f => ?_⟩
  obtain ⟨ix1, ix2, ix3, ix4⟩ := hx
  repeat' split
  all_goals first | assumption | exact ⟨by decide, by decide⟩
theorem s_nput (hd : 6 ≤ d) {x1 x2 x3 : Int} (hx : inR x1 ∧ inR x2 ∧ inR x3) (h2 : 0 ≤ x2 ∧ x2 ≤ 1000) : sf (RC bd d 78 (cs_n σ 4 5) [((c_hp σ : Nat) : Int), x1, x2, x3]) (fun σ' kd r => kd = 0 ∧ ∃ F : Nat → Int, σ' = cs_o σ 4 5 F ∧ F 0 = x1 ∧ F 1 = -1 ∧ F 2 = -1 ∧ F 3 = -1 - x2 ∧ F 4 = x3 ∧ ∀ f, inR (F f)) := by
  obtain ⟨d, rfl⟩ : ∃ d0, d = d0 + 1 := ⟨d - 1, by omega⟩
  rw [rc_X3_init_ (by omega)]
  refine sf_fin ?_
  unfold pc_X3_init__0
  rw [cs_n_o]
  refine sf_tN0 cs_o_tg ?_
  refine sf_pN0 cs_o_tg ?_
  rw [cs_o_p]
  refine sf_pN0 cs_o_tg ?_
  rw [cs_o_p]
  refine sf_pN0 cs_o_tg ?_
  rw [cs_o_p]
  refine sf_ck ⟨by omega, by omega⟩ ?_
  refine sf_pN0 cs_o_tg ?_
  rw [cs_o_p]
  refine sf_pN0 cs_o_tg ?_
  rw [cs_o_p]
  refine sf_some ⟨⟨by decide, by decide⟩, rfl, _, rfl, rfl, rfl, rfl, rfl, rfl, fun f => ?_⟩
  obtain ⟨ix1, ix2, ix3⟩ := hx
  have ie : inR (-1 - x2) := ⟨by omega, by omega⟩
  repeat' split
  all_goals first | assumption | exact ⟨by decide, by decide⟩
theorem s_nhead (hd : 6 ≤ d) {x1 x2 x3 x4 : Int} (hx : inR x1 ∧ inR x2 ∧ inR x3 ∧ inR x4) : sf (RC bd d 26 (cs_n σ 2 4) [((c_hp σ : Nat) : Int), x1, x2, x3, x4]) (fun σ' kd r => kd = 0 ∧ ∃ F : Nat → Int, σ' = cs_o σ 2 4 F ∧ F 0 = x1 ∧ F 1 = x2 ∧ F 2 = x3 ∧ F 3 = x4 ∧ ∀ f, inR (F f)) := by
  obtain ⟨d, rfl⟩ : ∃ d0, d = d0 + 1 := ⟨d - 1, by omega⟩
  rw [rc_X1_init (by omega)]
  refine sf_fin ?_
  unfold pc_X1_init_0
  rw [cs_n_o]
  refine sf_tN0 cs_o_tg ?_
  refine sf_pN0 cs_o_tg ?_
  rw [cs_o_p]
  refine sf_pN0 cs_o_tg ?_
  rw [cs_o_p]
  refine sf_pN0 cs_o_tg ?_
  rw [cs_o_p]
  refine sf_pN0 cs_o_tg ?_
  rw [cs_o_p]
  refine sf_some ⟨⟨by decide, by decide⟩, rfl, _, rfl, rfl, rfl, rfl, rfl, fun f => ?_⟩
  obtain ⟨ix1, ix2, ix3, ix4⟩ := hx
  repeat' split
  all_goals first | assumption | exact ⟨by decide, by decide⟩
theorem s_nnode (hd : 6 ≤ d) {x1 x2 : Int} (hx : inR x1 ∧ inR x2) : sf (RC bd d 105 (cs_n σ 7 11) [((c_hp σ : Nat) : Int), x1, x2]) (fun σ' kd r => kd = 0 ∧ ∃ F : Nat → Int, σ' = cs_o σ 7 11 F ∧ F 0 = x1 ∧ F 1 = x2 ∧ F 2 = -1 ∧ F 3 = -1 ∧ F 4 = 0 ∧ F 5 = 0 ∧ F 6 = -1 ∧ F 7 = -1 ∧ F 8 = -1 ∧ F 9 = -1 ∧ F 10 = -1 ∧ ∀ f, inR (F f)) := by
  obtain ⟨d, rfl⟩ : ∃ d0, d = d0 + 1 := ⟨d - 1, by omega⟩
  rw [rc_X6_init (by omega)]
  refine sf_fin ?_
  unfold pc_X6_init_0
  rw [cs_n_o]
  refine sf_tN0 cs_o_tg ?_
  refine sf_pN0 cs_o_tg ?_
  rw [cs_o_p]
  refine sf_pN0 cs_o_tg ?_
  rw [cs_o_p]
  refine sf_pN0 cs_o_tg ?_
  rw [cs_o_p]
  refine sf_pN0 cs_o_tg ?_
  rw [cs_o_p]
  refine sf_pN0 cs_o_tg ?_
  rw [cs_o_p]
  refine sf_pN0 cs_o_tg ?_
  rw [cs_o_p]
  refine sf_pN0 cs_o_tg ?_
  rw [cs_o_p]
  refine sf_pN0 cs_o_tg ?_
  rw [cs_o_p]
  refine sf_pN0 cs_o_tg ?_
  rw [cs_o_p]
  refine sf_pN0 cs_o_tg ?_
  rw [cs_o_p]
  refine sf_pN0 cs_o_tg ?_
  rw [cs_o_p]
  refine sf_some ⟨⟨by decide, by decide⟩, rfl, _, rfl, rfl, rfl, rfl, rfl, rfl, rfl, rfl, rfl, rfl, rfl, rfl, fun f => ?_⟩
  obtain ⟨ix1, ix2⟩ := hx
  repeat' split
  all_goals first | assumption | exact ⟨by decide, by decide⟩
theorem mk_link (hd : 6 ≤ d) (h : GG bd b σ) (hr : RR bd b σ (k + 1) (s + 5) o z) {x1 x2 x3 x4 : Int} (hx : inR x1 ∧ inR x2 ∧ inR x3 ∧ inR x4) (h1 : oid x1) (h5 : x1 ≠ 0) (h2 : oNN σ x2) (h3 : oL σ x3) (h4 : oL σ x4) {K : CS → CO}
    (kk : ∀ σ', GG bd b σ' → Ext b σ σ' → RR bd b σ' k s o z → (oLn σ' ((c_hp σ : Nat) : Int) ∧ (c_pv σ' ((c_hp σ : Nat) : Int).toNat 4 = x4) ∧ (∀ a f, a ≠ c_hp σ → c_pv σ' a f = c_pv σ a f)) → sf (K σ') Q) : sf (cc_t (cs_n σ 4 5) 4 ((c_hp σ : Nat) : Int) (cc_ci (RC bd d 77 (cs_n σ 4 5) [((c_hp σ : Nat) : Int), x1, x2, x3, x4]) K)) Q := by
  refine wtN (by rw [cs_n_o]; exact cs_o_tg) (sf_ci (s_nlink hd hx) (fun σ' kd r hp => ?_))
  obtain ⟨h0, F, rfl, e0, e1, e2, e3, e4, hF⟩ := hp
  have hg := gg_link h hF (by
    unfold oLk
    rw [e0, e1, e2, e3, e4]
    exact ⟨h1, h2, h3, ⟨by decide, by decide⟩, h4, h4.lt h, fun q => absurd q h5⟩)
  exact ⟨h0, kk _ hg.1 hg.2 (rr_new h hr) ⟨new_t, by rw [new_f]; exact e4, fun a f ha => cs_o_pn ha⟩⟩
theorem mk_part (hd : 6 ≤ d) (h : GG bd b σ) (hr : RR bd b σ (k + 1) (s + 5) o z) {x1 x2 x3 x4 : Int} (hx : inR x1 ∧ inR x2 ∧ inR x3 ∧ inR x4) (h1 : x1 = 0) (h2 : oN σ x2) (h3 : oL σ x3) (h4 : oP σ x4) {K : CS → CO}
    (kk : ∀ σ', GG bd b σ' → Ext b σ σ' → RR bd b σ' k s o z → (oPn σ' ((c_hp σ : Nat) : Int) ∧ (c_pv σ' ((c_hp σ : Nat) : Int).toNat 4 = x4) ∧ (∀ a f, a ≠ c_hp σ → c_pv σ' a f = c_pv σ a f)) → sf (K σ') Q) : sf (cc_t (cs_n σ 4 5) 4 ((c_hp σ : Nat) : Int) (cc_ci (RC bd d 77 (cs_n σ 4 5) [((c_hp σ : Nat) : Int), x1, x2, x3, x4]) K)) Q := by
  refine wtN (by rw [cs_n_o]; exact cs_o_tg) (sf_ci (s_nlink hd hx) (fun σ' kd r hp => ?_))
  obtain ⟨h0, F, rfl, e0, e1, e2, e3, e4, hF⟩ := hp
  have hg := gg_link h hF (by
    unfold oLk
    rw [e0, e1, e2, e3, e4]
    exact ⟨⟨by omega, by omega⟩, h2.nn, h3, ⟨by decide, by decide⟩, h4.l, h4.l.lt h, fun q => ⟨h2, h4⟩⟩)
  exact ⟨h0, kk _ hg.1 hg.2 (rr_new h hr) ⟨⟨by omega, new_t.2, by rw [new_f, e0]; exact h1⟩, by rw [new_f]; exact e4, fun a f ha => cs_o_pn ha⟩⟩
theorem mk_put (hd : 6 ≤ d) (h : GG bd b σ) (hr : RR bd b σ (k + 1) (s + 5) o z) {x1 x2 x3 : Int} (hx : inR x1 ∧ inR x2 ∧ inR x3) (h1 : oid x1) (h5 : x1 ≠ 0) (hl : 0 ≤ x2 ∧ x2 ≤ 1000) (h4 : oL σ x3) {K : CS → CO}
    (kk : ∀ σ', GG bd b σ' → Ext b σ σ' → RR bd b σ' k s o z → (oLn σ' ((c_hp σ : Nat) : Int) ∧ (c_pv σ' ((c_hp σ : Nat) : Int).toNat 3 = -1 - x2) ∧ (∀ a f, a ≠ c_hp σ → c_pv σ' a f = c_pv σ a f)) → sf (K σ') Q) : sf (cc_t (cs_n σ 4 5) 4 ((c_hp σ : Nat) : Int) (cc_ci (RC bd d 78 (cs_n σ 4 5) [((c_hp σ : Nat) : Int), x1, x2, x3]) K)) Q := by
  refine wtN (by rw [cs_n_o]; exact cs_o_tg) (sf_ci (s_nput hd hx hl) (fun σ' kd r hp => ?_))
  obtain ⟨h0, F, rfl, e0, e1, e2, e3, e4, hF⟩ := hp
  have hg := gg_link h hF (by
    unfold oLk
    rw [e0, e1, e2, e3, e4]
    exact ⟨h1, Or.inl (by decide), Or.inl (by decide), ⟨by omega, by omega⟩, h4, h4.lt h, fun q => absurd q h5⟩)
  exact ⟨h0, kk _ hg.1 hg.2 (rr_new h hr) ⟨new_t, by rw [new_f]; exact e3, fun a f ha => cs_o_pn ha⟩⟩
theorem mk_head (hd : 6 ≤ d) (h : GG bd b σ) (hr : RR bd b σ (k + 1) (s + 4) o z) {x1 x2 x3 x4 : Int} (hx : inR x1 ∧ inR x2 ∧ inR x3 ∧ inR x4) (h1 : oN σ x1) (h2 : oid x2) (h3 : oL σ x3) (h4 : oP σ x4) {K : CS → CO}
    (kk : ∀ σ', GG bd b σ' → Ext b σ σ' → RR bd b σ' k s o z → (oHd σ' ((c_hp σ : Nat) : Int) ∧ (c_pv σ' ((c_hp σ : Nat) : Int).toNat 0 = x1 ∧ c_pv σ' ((c_hp σ : Nat) : Int).toNat 3 = x4) ∧ (∀ a f, a ≠ c_hp σ → c_pv σ' a f = c_pv σ a f)) → sf (K σ') Q) : sf (cc_t (cs_n σ 2 4) 2 ((c_hp σ : Nat) : Int) (cc_ci (RC bd d 26 (cs_n σ 2 4) [((c_hp σ : Nat) : Int), x1, x2, x3, x4]) K)) Q := by
  refine wtN (by rw [cs_n_o]; exact cs_o_tg) (sf_ci (s_nhead hd hx) (fun σ' kd r hp => ?_))
  obtain ⟨h0, F, rfl, e0, e1, e2, e3, hF⟩ := hp
  have hg := gg_head h hF (by
    unfold oH
    rw [e0, e1, e2, e3]
    exact ⟨h1, h2, h3, h4⟩)
  exact ⟨h0, kk _ hg.1 hg.2 (rr_new h hr) ⟨new_t, ⟨by rw [new_f]; exact e0, by rw [new_f]; exact e3⟩, fun a f ha => cs_o_pn ha⟩⟩
theorem mk_leaf (hd : 6 ≤ d) (h : GG bd b σ) (hr : RR bd b σ (k + 1) (s + 11) o z) {x1 x2 : Int} (hx : inR x1 ∧ inR x2) (h1 : 0 ≤ x1 ∧ x1 ≤ 3) (h2 : oid x2) {K : CS → CO}
    (kk : ∀ σ', GG bd b σ' → Ext b σ σ' → RR bd b σ' k s o z → (oN σ' ((c_hp σ : Nat) : Int) ∧ (c_pv σ' ((c_hp σ : Nat) : Int).toNat 0 = x1 ∧ c_pv σ' ((c_hp σ : Nat) : Int).toNat 6 = -1) ∧ (∀ a f, a ≠ c_hp σ → c_pv σ' a f = c_pv σ a f)) → sf (K σ') Q) : sf (cc_t (cs_n σ 7 11) 7 ((c_hp σ : Nat) : Int) (cc_ci (RC bd d 105 (cs_n σ 7 11) [((c_hp σ : Nat) : Int), x1, x2]) K)) Q := by
  refine wtN (by rw [cs_n_o]; exact cs_o_tg) (sf_ci (s_nnode hd hx) (fun σ' kd r hp => ?_))
  obtain ⟨h0, F, rfl, e0, e1, e2, e3, e4, e5, e6, e7, e8, e9, e10, hF⟩ := hp
  have hg := gg_nd h hF (by
    unfold oNd
    rw [e0, e1, e4, e5, e6, e7, e8]
    exact ⟨⟨by omega, by omega⟩, h2, ⟨by decide, by decide⟩, ⟨by decide, by decide⟩, fun _ => by decide, fun q => by omega, fun q => by omega, fun q => by omega⟩)
  exact ⟨h0, kk _ hg.1 hg.2 (rr_new h hr) ⟨new_t, ⟨by rw [new_f]; exact e0, by rw [new_f]; exact e6⟩, fun a f ha => cs_o_pn ha⟩⟩
theorem s_has4 (hd : 6 ≤ d) (G : GG bd b σ) {x : Int} : sf (RC bd d 100 σ [((b + 4 : Nat) : Int), x]) (PU σ (fun r => (r = 0 ∧ ¬ (0 ≤ x ∧ x < c_pv σ (b + 4) 2)) ∨ (r = 1 ∧ (0 ≤ x ∧ x < c_pv σ (b + 4) 2)))) := by
  obtain ⟨d, rfl⟩ : ∃ d0, d = d0 + 1 := ⟨d - 1, by omega⟩
  rw [rc_X5_has (by omega)]
  refine fin_U ?_
  unfold pc_X5_has_0
  have n4_2_σ := G.nu 4 2
  have n9_2_σ := G.nu 9 2
  refine sf_if (fun c1 => ?_) (fun c1 => ?_)
  · refine sf_bo (by omega) ?_
    exact ret_U ⟨by decide, by decide⟩ (by first | trivial | assumption | omega | (dsimp only; omega))
  · refine wgN (G.tg 4) (fun z2_2 hz2_2 => ?_)
    have fz2_2 := G.nu 4 2
    have rz2_2 : inR z2_2 := hz2_2 ▸ G.ir _ _
    refine sf_if (fun c3 => ?_) (fun c3 => ?_)
    · refine sf_bo (by omega) ?_
      exact ret_U ⟨by decide, by decide⟩ (by first | trivial | assumption | omega | (dsimp only; omega))
    · refine sf_bo (by omega) ?_
      exact ret_U ⟨by decide, by decide⟩ (by first | trivial | assumption | omega | (dsimp only; omega))
theorem s_isFull4 (hd : 6 ≤ d) (G : GG bd b σ)  : sf (RC bd d 102 σ [((b + 4 : Nat) : Int)]) (PU σ (fun r => (r = 0 ∧ ¬ (8 ≤ c_pv σ (b + 4) 2)) ∨ (r = 1 ∧ (8 ≤ c_pv σ (b + 4) 2)))) := by
  obtain ⟨d, rfl⟩ : ∃ d0, d = d0 + 1 := ⟨d - 1, by omega⟩
  rw [rc_X5_isFull (by omega)]
  refine fin_U ?_
  unfold pc_X5_isFull_0
  have n4_2_σ := G.nu 4 2
  have n9_2_σ := G.nu 9 2
  refine wgN (G.tg 4) (fun z1_1 hz1_1 => ?_)
  have fz1_1 := G.nu 4 2
  have rz1_1 : inR z1_1 := hz1_1 ▸ G.ir _ _
  refine wgF (G.tg 4) (G.fi 15 (i := 4) (f := 1) (j := 6)) ?_
  refine wlN (G.tg 6) (G.ln 6 (n := 8)) (by decide) (fun z3_3 hz3_3 => ?_)
  refine sf_if (fun c4 => ?_) (fun c4 => ?_)
  · refine sf_bo (by omega) ?_
    exact ret_U ⟨by decide, by decide⟩ (by first | trivial | assumption | omega | (dsimp only; omega))
  · refine sf_bo (by omega) ?_
    exact ret_U ⟨by decide, by decide⟩ (by first | trivial | assumption | omega | (dsimp only; omega))
theorem s_has9 (hd : 6 ≤ d) (G : GG bd b σ) {x : Int} : sf (RC bd d 100 σ [((b + 9 : Nat) : Int), x]) (PU σ (fun r => (r = 0 ∧ ¬ (0 ≤ x ∧ x < c_pv σ (b + 9) 2)) ∨ (r = 1 ∧ (0 ≤ x ∧ x < c_pv σ (b + 9) 2)))) := by
  obtain ⟨d, rfl⟩ : ∃ d0, d = d0 + 1 := ⟨d - 1, by omega⟩
  rw [rc_X5_has (by omega)]
  refine fin_U ?_
  unfold pc_X5_has_0
  have n4_2_σ := G.nu 4 2
  have n9_2_σ := G.nu 9 2
  refine sf_if (fun c1 => ?_) (fun c1 => ?_)
  · refine sf_bo (by omega) ?_
    exact ret_U ⟨by decide, by decide⟩ (by first | trivial | assumption | omega | (dsimp only; omega))
  · refine wgN (G.tg 9) (fun z2_2 hz2_2 => ?_)
    have fz2_2 := G.nu 9 2
    have rz2_2 : inR z2_2 := hz2_2 ▸ G.ir _ _
    refine sf_if (fun c3 => ?_) (fun c3 => ?_)
    · refine sf_bo (by omega) ?_
      exact ret_U ⟨by decide, by decide⟩ (by first | trivial | assumption | omega | (dsimp only; omega))
    · refine sf_bo (by omega) ?_
      exact ret_U ⟨by decide, by decide⟩ (by first | trivial | assumption | omega | (dsimp only; omega))
theorem s_isFull9 (hd : 6 ≤ d) (G : GG bd b σ)  : sf (RC bd d 102 σ [((b + 9 : Nat) : Int)]) (PU σ (fun r => (r = 0 ∧ ¬ (100 ≤ c_pv σ (b + 9) 2)) ∨ (r = 1 ∧ (100 ≤ c_pv σ (b + 9) 2)))) := by
  obtain ⟨d, rfl⟩ : ∃ d0, d = d0 + 1 := ⟨d - 1, by omega⟩
  rw [rc_X5_isFull (by omega)]
  refine fin_U ?_
  unfold pc_X5_isFull_0
  have n4_2_σ := G.nu 4 2
  have n9_2_σ := G.nu 9 2
  refine wgN (G.tg 9) (fun z1_1 hz1_1 => ?_)
  have fz1_1 := G.nu 9 2
  have rz1_1 : inR z1_1 := hz1_1 ▸ G.ir _ _
  refine wgF (G.tg 9) (G.fi 17 (i := 9) (f := 1) (j := 11)) ?_
  refine wlN (G.tg 11) (G.ln 11 (n := 100)) (by decide) (fun z3_3 hz3_3 => ?_)
  refine sf_if (fun c4 => ?_) (fun c4 => ?_)
  · refine sf_bo (by omega) ?_
    exact ret_U ⟨by decide, by decide⟩ (by first | trivial | assumption | omega | (dsimp only; omega))
  · refine sf_bo (by omega) ?_
    exact ret_U ⟨by decide, by decide⟩ (by first | trivial | assumption | omega | (dsimp only; omega))
theorem s_set (hd : 6 ≤ d) (G : GG bd b σ) (R : RR bd b σ (k) (s) (o) (z)) {n w : Int} (hn : 0 ≤ n ∧ n ≤ 14) (hw : inR w) : sf (RC bd d 30 σ [((b + 2 : Nat) : Int), n, w]) (PZ bd b σ k s o z (fun _ _ => True)) := by
  obtain ⟨d, rfl⟩ : ∃ d0, d = d0 + 1 := ⟨d - 1, by omega⟩
  rw [rc_X10_set (by omega)]
  refine fin_Z ?_
  unfold pc_X10_set_0
  have n4_2_σ := G.nu 4 2
  have n9_2_σ := G.nu 9 2
  refine wpN (G.tg 2) (fun s1 ws1 => ?_)
  obtain ⟨Gs1, es1, Rs1, Fs1, Vs1⟩ := P0 G R ws1 (by decide) (by first | assumption | exact inR_of _ | exact ⟨by omega, by omega⟩) (by intro lo hi q; cases q <;> omega)
  have E2 := (Ext.refl (b := b) (σ := σ)).trans es1
  have n4_2_s1 := Gs1.nu 4 2
  have n9_2_s1 := Gs1.nu 9 2
  refine wpN (Gs1.tg 2) (fun s3 ws3 => ?_)
  obtain ⟨Gs3, es3, Rs3, Fs3, Vs3⟩ := P0 Gs1 Rs1 ws3 (by decide) (by first | assumption | exact inR_of _ | exact ⟨by omega, by omega⟩) (by intro lo hi q; cases q <;> omega)
  have E4 := E2.trans es3
  have n4_2_s3 := Gs3.nu 4 2
  have n9_2_s3 := Gs3.nu 9 2
  exact ret_Z ⟨by decide, by decide⟩ Gs3 E4 (Rs3.le (by omega) (by omega) (by omega) (by omega)) (by first | trivial | assumption | omega | (dsimp only; omega))
theorem s_sclear (hd : 6 ≤ d) (G : GG bd b σ) (R : RR bd b σ (k) (s) (o) (z))  : sf (RC bd d 28 σ [((b + 2 : Nat) : Int)]) (PZ bd b σ k s o z (fun _ _ => True)) := by
  obtain ⟨d, rfl⟩ : ∃ d0, d = d0 + 1 := ⟨d - 1, by omega⟩
  rw [rc_X10_clear (by omega)]
  refine fin_Z ?_
  unfold pc_X10_clear_0
  have n4_2_σ := G.nu 4 2
  have n9_2_σ := G.nu 9 2
  refine wpN (G.tg 2) (fun s1 ws1 => ?_)
  obtain ⟨Gs1, es1, Rs1, Fs1, Vs1⟩ := P0 G R ws1 (by decide) ⟨by decide, by decide⟩ (by intro lo hi q; cases q <;> omega)
  have E2 := (Ext.refl (b := b) (σ := σ)).trans es1
  have n4_2_s1 := Gs1.nu 4 2
  have n9_2_s1 := Gs1.nu 9 2
  refine wpN (Gs1.tg 2) (fun s3 ws3 => ?_)
  obtain ⟨Gs3, es3, Rs3, Fs3, Vs3⟩ := P0 Gs1 Rs1 ws3 (by decide) ⟨by decide, by decide⟩ (by intro lo hi q; cases q <;> omega)
  have E4 := E2.trans es3
  have n4_2_s3 := Gs3.nu 4 2
  have n9_2_s3 := Gs3.nu 9 2
  exact ret_Z ⟨by decide, by decide⟩ Gs3 E4 (Rs3.le (by omega) (by omega) (by omega) (by omega)) (by first | trivial | assumption | omega | (dsimp only; omega))
end CLA
