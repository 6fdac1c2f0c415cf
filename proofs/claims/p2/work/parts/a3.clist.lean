section CLI
variable {bd : cBd} {b d : Nat} {σ σ1 σ2 σ3 : CS} {Q : CS → Nat → Int → Prop} {k s o z : Nat}
/-- a list: m are in it, y holds them -/
def oLs (bd : cBd) (b : Nat) (σ : CS) (x : Int) (m : Nat) (y : Int) : Prop := (0 ≤ x ∧ c_tg σ x.toNat = 13) ∧ b + 24 ≤ x.toNat ∧ c_pv σ x.toNat 0 = (m : Int) ∧ c_pv σ x.toNat 1 = y ∧ c_pv σ x.toNat 2 = (m : Int) ∧ (0 ≤ y ∧ c_tg σ y.toNat = 23) ∧ m ≤ 5000 ∧ ((y = ((bd.2.2 21 : Nat) : Int) ∧ m = 0 ∧ c_ln σ y.toNat = 0) ∨ (b + 24 ≤ y.toNat ∧ 10 ≤ c_ln σ y.toNat ∧ m ≤ c_ln σ y.toNat ∧ 3 * c_ln σ y.toNat ≤ 5 * m + 30)) ∧ ∀ i, i < m → 0 ≤ c_pv σ y.toNat i ∧ (c_tg σ (c_pv σ y.toNat i).toNat = 7 ∨ c_tg σ (c_pv σ y.toNat i).toNat = 10)
def lcr (m c : Nat) : Nat := if c = 0 then 40 else 5 * m + 30 - 3 * c
theorem oLs.tg {x y : Int} {m : Nat} (h : oLs bd b σ x m y) : 0 ≤ x ∧ c_tg σ x.toNat = 13 := h.1
theorem oLs.up {σ' : CS} {x y : Int} {m : Nat} (h : oLs bd b σ x m y) (e : Ext b σ σ') : oLs bd b σ' x m y := by
  obtain ⟨h1, h2, h3, h4, h5, h6, h7, h8, h9⟩ := h
  have el := e.ln h6.2 (by decide)
  refine ⟨⟨h1.1, e.tg h1.2 (by decide)⟩, h2, by rw [e.li h1.2]; exact h3, by rw [e.li h1.2]; exact h4, by rw [e.li h1.2]; exact h5, ⟨h6.1, e.tg h6.2 (by decide)⟩, h7, by rw [el]; exact h8, fun i hi => ?_⟩
  rw [e.ld h6.2]
  have q := h9 i hi
  refine ⟨q.1, ?_⟩
  rcases q.2 with q | q
  · exact Or.inl (e.tg q (by decide))
  · exact Or.inr (e.tg q (by decide))
theorem oLs.ln_le {x y : Int} {m : Nat} (h : oLs bd b σ x m y) : c_ln σ y.toNat ≤ 10000 := by
  have h7 := h.2.2.2.2.2.2.1
  rcases h.2.2.2.2.2.2.2.1 with q | q
  · omega
  · omega
theorem cs_ac_o {y m N : Nat} {σ : CS} (hy : y ≠ c_hp σ) : cs_ac (cs_n σ 23 N) y (c_hp σ) m = cs_o σ 23 N (fun g => if g < m then c_pv σ y g else -1) := by
  unfold cs_ac
  rw [cs_n_o]
  refine Prod.ext rfl (Prod.ext ?_ rfl)
  funext a g
  show (if a = c_hp σ then (if g < m then c_pv (cs_o σ 23 N _) y g else c_pv (cs_o σ 23 N _) (c_hp σ) g) else c_pv (cs_o σ 23 N _) a g) = c_pv (cs_o σ 23 N _) a g
  by_cases c : a = c_hp σ
  · subst c
    rw [if_pos rfl, cs_o_pv, cs_o_pn hy, cs_o_pv]
    rfl
  · rw [if_neg c, cs_o_pn c, cs_o_pn c]
/-- a longer row, with what stood in the other -/
theorem s_lcopy (hd : 8 ≤ d) (G : GG bd b σ) {N m : Nat} (R : RR bd b σ (k + 1) (s + N) o z) {y n : Int} (ty : 0 ≤ y ∧ c_tg σ y.toNat = 23) (hl : c_ln σ y.toNat = m) (hN : m ≤ N ∧ N ≤ 100000) (hn : n = (N : Int)) (hel : ∀ i, i < m → 0 ≤ c_pv σ y.toNat i ∧ (c_tg σ (c_pv σ y.toNat i).toNat = 7 ∨ c_tg σ (c_pv σ y.toNat i).toNat = 10)) : sf (RC bd d 2 σ [y, n]) (PZ bd b σ k s o z (fun σ' r => r = ((c_hp σ : Nat) : Int) ∧ (0 ≤ r ∧ c_tg σ' r.toNat = 23) ∧ c_ln σ' r.toNat = N ∧ (∀ i, i < m → c_pv σ' r.toNat i = c_pv σ y.toNat i) ∧ ∀ a f, a ≠ c_hp σ → c_pv σ' a f = c_pv σ a f)) := by
  obtain ⟨d, rfl⟩ : ∃ d0, d = d0 + 1 := ⟨d - 1, by omega⟩
  rw [rc_J7_copyOf_1904c (by omega)]
  refine fin_Z ?_
  unfold pc_J7_copyOf_1904c_0
  refine sf_t ty ?_
  refine sf_gs (by have := G.st.2.2.1 22; omega) ?_
  have key : sf (RC bd d 3 σ [y, n, ((bd.2.2 22 : Nat) : Int)]) (PZ bd b σ k s o z (fun σ' r => r = ((c_hp σ : Nat) : Int) ∧ (0 ≤ r ∧ c_tg σ' r.toNat = 23) ∧ c_ln σ' r.toNat = N ∧ (∀ i, i < m → c_pv σ' r.toNat i = c_pv σ y.toNat i) ∧ ∀ a f, a ≠ c_hp σ → c_pv σ' a f = c_pv σ a f)) := by
    obtain ⟨d, rfl⟩ : ∃ d0, d = d0 + 1 := ⟨d - 1, by omega⟩
    rw [rc_J7_copyOf_6403c (by omega)]
    refine fin_Z ?_
    unfold pc_J7_copyOf_6403c_0
    refine sf_gs (by have := G.st.2.2.1 22; omega) ?_
    refine sf_ac ⟨⟨by omega, by omega⟩, Or.inl rfl⟩ ?_
    rw [if_neg (by simp)]
    have hnN : n.toNat = N := by omega
    have hyl : y.toNat < c_hp σ := G.lt (by rw [ty.2]; decide)
    have hyn : y.toNat ≠ c_hp σ := by omega
    refine wna ⟨by omega, by omega⟩ (by rw [hnN]; exact rr_room G R) (fun σ1 w1 => ?_)
    have h0 : c_tg σ y.toNat ≠ 0 := by rw [ty.2]; decide
    have tl : c_ln σ1 y.toNat = m := by rw [w1, cs_n_ne G h0]; exact hl
    refine wl ⟨ty.1, by rw [w1, cs_n_tn G h0]; exact ty.2⟩ (by rw [tl]; omega) (fun l hl2 => ?_)
    rw [tl] at hl2
    refine wmn (fun q hq => ?_)
    have hq2 : q = (m : Int) := by omega
    subst hq2
    unfold cc_ay
    have e1 : σ1 = cs_o σ 23 N (fun g => if cw_isR 23 g = true then -1 else 0) := by rw [w1, hnN, cs_n_o]
    rw [if_pos (by
      refine ⟨⟨ty.1, by rw [w1, cs_n_tn G h0]; exact ty.2⟩, ⟨by omega, by rw [e1, Int.toNat_natCast]; exact cs_o_tg⟩, by omega, by rw [tl]; omega, by rw [e1, Int.toNat_natCast, cs_o_ln]; omega, fun i hi => ?_⟩
      have hi2 := hel i (by omega)
      have e2 : c_pv σ1 y.toNat i = c_pv σ y.toNat i := by rw [e1]; exact cs_o_pn hyn
      rw [e2]
      refine Or.inr ⟨hi2.1, ?_⟩
      have hne : (c_pv σ y.toNat i).toNat ≠ c_hp σ := fun e => by
        have := G.lt (a := (c_pv σ y.toNat i).toNat) (by rcases hi2.2 with q | q <;> rw [q] <;> decide)
        omega
      rw [e1, cs_o_tn hne]
      exact hi2.2)]
    have e3 : cs_ac σ1 y.toNat ((c_hp σ : Nat) : Int).toNat ((m : Nat) : Int).toNat = cs_o σ 23 N (fun g => if g < m then c_pv σ y.toNat g else -1) := by
      rw [w1, hnN, Int.toNat_natCast, Int.toNat_natCast]
      exact cs_ac_o hyn
    rw [e3]
    have hg := gg_row G (t := 23) (n := N) (F := fun g => if g < m then c_pv σ y.toNat g else -1) (fun f => by split <;> first | exact G.ir _ _ | exact ⟨by decide, by decide⟩) (by decide)
    refine ret_Z (hp_R G R) hg.1 hg.2 (rr_new G R) ⟨rfl, new_t, by rw [Int.toNat_natCast]; exact cs_o_ln, fun i hi => ?_, fun a f ha => cs_o_pn ha⟩
    rw [new_f, if_pos hi]
  exact cn_Z key (fun σ' r hr G' e' R' t' => ret_Z hr G' e' R' t')
/-- how long the next row is -/
theorem s_newLength (hd : 7 ≤ d) {x0 x1 x2 : Int} (h0 : 1 ≤ x0 ∧ x0 ≤ 100000) (h1 : 1 ≤ x1 ∧ x1 ≤ 100000) (h2 : 0 ≤ x2 ∧ x2 ≤ 100000) : sf (RC bd d 5 σ [x0, x1, x2]) (PU σ (fun r => (r = x0 + x2 ∧ x1 < x2) ∨ (r = x0 + x1 ∧ x2 ≤ x1))) := by
  obtain ⟨d, rfl⟩ : ∃ d0, d = d0 + 1 := ⟨d - 1, by omega⟩
  rw [rc_J8_newLength_cabcc (by omega)]
  refine fin_U ?_
  unfold pc_J8_newLength_cabcc_0
  refine wmx (fun q hq => ?_)
  refine wck ⟨by omega, by omega⟩ (fun r hr => ?_)
  rw [if_neg (by omega), if_neg (by omega)]
  exact ret_U ⟨by omega, by omega⟩ (by omega)
theorem rn_shr_1 {x : Int} (hx : 0 ≤ x ∧ x ≤ 100000) : rn_shr x 1 = x / 2 := by
  unfold rn_shr
  rw [pk_shr (rI x) (rI 1 &&& 31) 1 (by decide), rI_T ⟨by omega, by omega⟩, Int.shiftRight_eq_div_pow]
  rfl
/-- what is put into a list goes to the list alone -/
theorem gg_lput {σ1 : CS} (G : GG bd b σ) (R : RR bd b σ k s o z) {a i : Nat} {y : Int} (e : σ1 = cs_p σ a i y) (ha : c_tg σ a = 13 ∨ c_tg σ a = 23) (hb : b + 24 ≤ a) (ry : inR y) : GG bd b σ1 ∧ Ext0 b σ σ1 ∧ RR bd b σ1 k s o z ∧ ∀ q f, (q ≠ a ∨ f ≠ i) → c_pv σ1 q f = c_pv σ q f := by
  subst e
  have hne : ∀ i, i < 24 → b + i ≠ a := fun i hi => by omega
  have hz : ¬ fz0 b σ a i := by unfold fz0; omega
  have ht : c_tg (cs_p σ a i y) a = c_tg σ a := rfl
  obtain ⟨h1, h2⟩ := gg_far0 G (by omega) hne hz ry (by unfold OI; rw [ht]; exact ⟨fun q => by omega, fun q => by omega, fun q => by omega, fun q => by omega, fun q => by omega⟩)
  refine ⟨h1, h2, rr_far R hne, fun q f hq => ?_⟩
  rcases hq with hq | hq
  · exact cs_p_na hq
  · exact cs_p_nf hq
/-- the row that holds a list's things grows -/
theorem s_lgrow (hd : 10 ≤ d) (G : GG bd b σ) {x y : Int} {m : Nat} (L : (0 ≤ x ∧ c_tg σ x.toNat = 13) ∧ b + 24 ≤ x.toNat ∧ c_pv σ x.toNat 1 = y ∧ c_pv σ x.toNat 2 = (m : Int)) (ty : 0 ≤ y ∧ c_tg σ y.toNat = 23) (hm : m ≤ 5000) (hl : c_ln σ y.toNat = m) (hy : (y = ((bd.2.2 21 : Nat) : Int) ∧ m = 0) ∨ 10 ≤ m) (hel : ∀ i, i < m → 0 ≤ c_pv σ y.toNat i ∧ (c_tg σ (c_pv σ y.toNat i).toNat = 7 ∨ c_tg σ (c_pv σ y.toNat i).toNat = 10)) {N : Nat} (hN : N = if m = 0 then 10 else m + m / 2) (R : RR bd b σ (k + 1) (s + N) o z) : sf (RC bd d 11 σ [x]) (fun σ' kd r => kd = 0 ∧ inR r ∧ GG bd b σ' ∧ Ext0 b σ σ' ∧ RR bd b σ' k s o z ∧ (r = ((c_hp σ : Nat) : Int) ∧ (0 ≤ r ∧ c_tg σ' r.toNat = 23) ∧ c_ln σ' r.toNat = N ∧ (∀ i, i < m → c_pv σ' r.toNat i = c_pv σ y.toNat i) ∧ c_pv σ' x.toNat 1 = r ∧ c_tg σ (c_hp σ) = 0 ∧ ∀ a f, a ≠ c_hp σ → (a ≠ x.toNat ∨ f ≠ 1) → c_pv σ' a f = c_pv σ a f)) := by
  have hfr : c_tg σ (c_hp σ) = 0 := by
    by_cases c : c_tg σ (c_hp σ) = 0
    · exact c
    · have := G.lt c
      omega
  have hxl : x.toNat < c_hp σ := G.lt (by rw [L.1.2]; decide)
  have hxn : x.toNat ≠ c_hp σ := by omega
  obtain ⟨d, rfl⟩ : ∃ d0, d = d0 + 1 := ⟨d - 1, by omega⟩
  rw [rc_Jx4a65c_grow_d5877 (by omega)]
  refine sf_fin ?_
  unfold pc_Jx4a65c_grow_d5877_0
  refine wg L.1 (fun z1 h1 => ?_)
  have e1 : z1 = (m : Int) := by rw [← h1]; exact L.2.2.2
  refine wck ⟨by omega, by omega⟩ (fun z2 h2 => ?_)
  refine sf_t L.1 ?_
  refine sf_cn (P := fun σ' kd r => kd = 0 ∧ inR r ∧ GG bd b σ' ∧ Ext0 b σ σ' ∧ RR bd b σ' k s o z ∧ (r = ((c_hp σ : Nat) : Int) ∧ (0 ≤ r ∧ c_tg σ' r.toNat = 23) ∧ c_ln σ' r.toNat = N ∧ (∀ i, i < m → c_pv σ' r.toNat i = c_pv σ y.toNat i) ∧ c_pv σ' x.toNat 1 = r ∧ c_tg σ (c_hp σ) = 0 ∧ ∀ a f, a ≠ c_hp σ → (a ≠ x.toNat ∨ f ≠ 1) → c_pv σ' a f = c_pv σ a f)) ?_ (fun σ' kd r hp => ⟨hp.1, sf_some ⟨hp.2.1, rfl, hp.2⟩⟩)
  obtain ⟨d, rfl⟩ : ∃ d0, d = d0 + 1 := ⟨d - 1, by omega⟩
  rw [rc_Jx4a65c_grow_92f84 (by omega)]
  refine sf_fin ?_
  unfold pc_Jx4a65c_grow_92f84_0
  refine wg L.1 (fun z3 h3 => ?_)
  have e3 : z3 = y := by rw [← h3]; exact L.2.2.1
  subst e3
  refine wl ty (by rw [hl]; omega) (fun z4 h4 => ?_)
  rw [hl] at h4
  refine sf_if (fun c => ?_) (fun c => ?_)
  · -- it had room for some
    have hm10 : 10 ≤ m := by omega
    have hN2 : N = m + m / 2 := by rw [hN, if_neg (by omega)]
    unfold pc_Jx4a65c_grow_92f84_20
    refine wck ⟨by omega, by omega⟩ (fun z5 h5 => ?_)
    refine wnm (fun z6 h6 => ?_)
    rw [rn_shr_1 ⟨by omega, by omega⟩] at h6
    refine cn_U (s_newLength (by omega) ⟨by omega, by omega⟩ ⟨by omega, by omega⟩ ⟨by omega, by omega⟩) (fun z7 r7 f7 => ?_)
    refine wg L.1 (fun z8 h8 => ?_)
    have e8 : z8 = z3 := by rw [← h8]; exact L.2.2.1
    subst e8
    refine cn_Z (s_lcopy (by omega) G (N := N) R ty hl ⟨by omega, by omega⟩ (by omega) hel) (fun σ' r rr G' e' R' t' => ?_)
    obtain ⟨q1, q2, q3, q4, q5⟩ := t'
    have tx' : 0 ≤ x ∧ c_tg σ' x.toNat = 13 := ⟨L.1.1, e'.tg L.1.2 (by decide)⟩
    refine wp tx' (fun σ2 w2 => ?_)
    obtain ⟨G2, e2, R2, F2⟩ := gg_lput G' R' w2 (Or.inl tx'.2) L.2.1 rr
    have hrx : r.toNat ≠ x.toNat := by rw [q1, Int.toNat_natCast]; omega
    refine sf_some ⟨rr, rfl, rr, G2, e'.z.trans e2, R2, q1, ⟨q2.1, e2.tg q2.2 (by decide)⟩, (e2.ln q2.2 (by decide)).trans q3, fun i hi => ?_, by rw [w2]; exact cs_p_eq, hfr, fun a f ha hf => ?_⟩
    · rw [F2 _ _ (Or.inl hrx)]; exact q4 i hi
    · rw [F2 _ _ hf]; exact q5 a f ha
  · -- it had none
    have hm0 : m = 0 := by omega
    have hN2 : N = 10 := by rw [hN, if_pos hm0]
    have hy0 : z3 = ((bd.2.2 21 : Nat) : Int) := by
      rcases hy with q | q
      · exact q.1
      · omega
    refine wg L.1 (fun z5 h5 => ?_)
    have e5 : z5 = z3 := by rw [← h5]; exact L.2.2.1
    subst e5
    refine sf_gs (by have := G.st.2.2.1 21; omega) ?_
    refine sf_ac ⟨⟨ty.1, by omega⟩, Or.inl hy0⟩ ?_
    rw [if_pos hy0]
    refine wmx (fun z6 h6 => ?_)
    have e6 : z6 = 10 := by omega
    subst e6
    refine wna ⟨by decide, by decide⟩ (by rw [hN2] at R; exact rr_room G R) (fun σ1 w1 => ?_)
    obtain ⟨G1, e1', R1, t1, F1, _⟩ := mk_row G (n := (10 : Int).toNat) (by rw [hN2] at R; exact R) w1 (by decide)
    have tx' : 0 ≤ x ∧ c_tg σ1 x.toNat = 13 := ⟨L.1.1, e1'.tg L.1.2 (by decide)⟩
    have rr := hp_R G R
    refine wp tx' (fun σ2 w2 => ?_)
    obtain ⟨G2, e2, R2, F2⟩ := gg_lput G1 R1 w2 (Or.inl tx'.2) L.2.1 rr
    refine sf_some ⟨rr, rfl, rr, G2, e1'.z.trans e2, R2, rfl, ⟨by omega, e2.tg t1.1.2 (by decide)⟩, ?_, fun i hi => by omega, by rw [w2]; exact cs_p_eq, hfr, fun a f ha hf => ?_⟩
    · rw [e2.ln t1.1.2 (by decide), t1.2.1, hN2]; rfl
    · rw [F2 _ _ hf]; exact F1 a f ha
/-- one more comes into a list -/
def lAdd (bd : cBd) (b : Nat) (σ : CS) (x : Int) (m : Nat) (y e : Int) (k s o z : Nat) (σ' : CS) : Prop := GG bd b σ' ∧ Ext0 b σ σ' ∧ (∀ a f, a ≠ x.toNat → (a ≠ y.toNat ∨ y = ((bd.2.2 21 : Nat) : Int)) → c_tg σ a ≠ 0 → c_pv σ' a f = c_pv σ a f) ∧ ∃ y', RR bd b σ' k (s + lcr (m + 1) (c_ln σ' y'.toNat)) o z ∧ oLs bd b σ' x (m + 1) y' ∧ (y' = y ∨ c_tg σ y'.toNat = 0) ∧ (∀ i, i < m → c_pv σ' y'.toNat i = c_pv σ y.toNat i) ∧ c_pv σ' y'.toNat m = e
theorem s_ladd (hd : 13 ≤ d) (G : GG bd b σ) {x y e : Int} {m : Nat} (L : oLs bd b σ x m y) (hm : m < 5000) (te : 0 ≤ e ∧ (c_tg σ e.toNat = 7 ∨ c_tg σ e.toNat = 10)) (re : inR e) (R : RR bd b σ (k + 1) (s + lcr m (c_ln σ y.toNat) + 6) o z) : sf (RC bd d 7 σ [x, e]) (fun σ' kd r => kd = 0 ∧ inR r ∧ lAdd bd b σ x m y e k s o z σ') := by
  obtain ⟨h1, h2, h3, h4, h5, h6, h7, h8, h9⟩ := L
  have hxl : x.toNat < c_hp σ := G.lt (by rw [h1.2]; decide)
  have hyl : y.toNat < c_hp σ := G.lt (by rw [h6.2]; decide)
  have hxy : x.toNat ≠ y.toNat := fun e => by have := h1.2; rw [e, h6.2] at this; omega
  obtain ⟨d, rfl⟩ : ∃ d0, d = d0 + 1 := ⟨d - 1, by omega⟩
  rw [rc_Jx4a65c_add_9ea2d (by omega)]
  refine sf_fin ?_
  unfold pc_Jx4a65c_add_9ea2d_0
  refine wg h1 (fun z1 q1 => ?_)
  refine wck ⟨by omega, by omega⟩ (fun z2 q2 => ?_)
  refine wp h1 (fun σ1 w1 => ?_)
  obtain ⟨G1, e1, R1, F1⟩ := gg_lput G R w1 (Or.inl h1.2) h2 ⟨by omega, by omega⟩
  have tx1 : 0 ≤ x ∧ c_tg σ1 x.toNat = 13 := ⟨h1.1, e1.tg h1.2 (by decide)⟩
  have ty1 : 0 ≤ y ∧ c_tg σ1 y.toNat = 23 := ⟨h6.1, e1.tg h6.2 (by decide)⟩
  have hl1 : c_ln σ1 y.toNat = c_ln σ y.toNat := e1.ln h6.2 (by decide)
  refine wg tx1 (fun z4 q4 => ?_)
  have e4 : z4 = y := by rw [← q4, F1 _ _ (Or.inr (by decide))]; exact h4
  subst e4
  refine wg tx1 (fun z5 q5 => ?_)
  have e5 : z5 = (m : Int) := by rw [← q5, F1 _ _ (Or.inr (by decide))]; exact h5
  refine sf_t tx1 ?_
  have v0 : c_pv σ1 x.toNat 0 = ((m + 1 : Nat) : Int) := by rw [w1, cs_p_eq]; omega
  refine sf_cn (P := fun σ' kd r => kd = 0 ∧ inR r ∧ lAdd bd b σ x m z4 e k s o z σ') ?_ (fun σ' kd r hp => ⟨hp.1, sf_bo (Or.inr rfl) (sf_some ⟨⟨by decide, by decide⟩, rfl, ⟨by decide, by decide⟩, hp.2.2⟩)⟩)
  obtain ⟨d, rfl⟩ : ∃ d0, d = d0 + 1 := ⟨d - 1, by omega⟩
  rw [rc_Jx4a65c_add_72be8 (by omega)]
  refine sf_fin ?_
  -- the last step: the row y' has room
  have fin : ∀ (σ2 : CS) (y' : Int), GG bd b σ2 → Ext0 b σ σ2 → RR bd b σ2 k (s + lcr (m + 1) (c_ln σ2 y'.toNat)) o z → (0 ≤ y' ∧ c_tg σ2 y'.toNat = 23) → b + 24 ≤ y'.toNat → (10 ≤ c_ln σ2 y'.toNat ∧ m < c_ln σ2 y'.toNat ∧ 3 * c_ln σ2 y'.toNat ≤ 5 * (m + 1) + 30) → inR y' → c_pv σ2 x.toNat 0 = ((m + 1 : Nat) : Int) → c_pv σ2 x.toNat 1 = y' → (∀ i, i < m → c_pv σ2 y'.toNat i = c_pv σ z4.toNat i) → ((y' = z4 ∧ z4 ≠ ((bd.2.2 21 : Nat) : Int)) ∨ c_tg σ y'.toNat = 0) → (∀ a f, a ≠ x.toNat → (a ≠ z4.toNat ∨ z4 = ((bd.2.2 21 : Nat) : Int)) → c_tg σ a ≠ 0 → c_pv σ2 a f = c_pv σ a f) → sf (pc_Jx4a65c_add_72be8_11 (RC bd d) bd σ2 x e y' z5) (fun σ' kd r => inR r ∧ kd = 0 ∧ inR r ∧ lAdd bd b σ x m z4 e k s o z σ') := by
    intro σ2 y' G2 E2 R2 ty2 hb2 hl2 ry2 v0 v1 hel2 hy2 hF2
    have tx2 : 0 ≤ x ∧ c_tg σ2 x.toNat = 13 := ⟨h1.1, E2.tg h1.2 (by decide)⟩
    have hxy2 : x.toNat ≠ y'.toNat := fun e => by have := tx2.2; rw [e, ty2.2] at this; omega
    have te2 : c_tg σ2 e.toNat = 7 ∨ c_tg σ2 e.toNat = 10 := by
      rcases te.2 with q | q
      · exact Or.inl (E2.tg q (by decide))
      · exact Or.inr (E2.tg q (by decide))
    unfold pc_Jx4a65c_add_72be8_11
    refine sf_to (Or.inr ⟨te.1, te2⟩) ?_
    refine ww ty2 ⟨by omega, by omega⟩ (fun σ3 w3 => ?_)
    obtain ⟨G3, e3, R3, F3⟩ := gg_lput G2 R2 w3 (Or.inr ty2.2) hb2 re
    refine wck ⟨by omega, by omega⟩ (fun z6 q6 => ?_)
    have tx3 : 0 ≤ x ∧ c_tg σ3 x.toNat = 13 := ⟨h1.1, e3.tg tx2.2 (by decide)⟩
    refine wp tx3 (fun σ4 w4 => ?_)
    obtain ⟨G4, e4, R4, F4⟩ := gg_lput G3 R3 w4 (Or.inl tx3.2) h2 ⟨by omega, by omega⟩
    have hln4 : c_ln σ4 y'.toNat = c_ln σ2 y'.toNat := by rw [w4, w3]; rfl
    have hz5 : z5.toNat = m := by omega
    have E4 := E2.trans (e3.trans e4)
    have eE : c_pv σ4 y'.toNat m = e := by rw [F4 _ _ (Or.inl (fun q => hxy2 q.symm)), w3, hz5]; exact cs_p_eq
    have eI : ∀ i, i < m → c_pv σ4 y'.toNat i = c_pv σ z4.toNat i := fun i hi => by rw [F4 _ _ (Or.inl (fun q => hxy2 q.symm)), F3 _ _ (Or.inr (by omega))]; exact hel2 i hi
    have tgE : c_tg σ4 e.toNat = 7 ∨ c_tg σ4 e.toNat = 10 := by
      rcases te.2 with q | q
      · exact Or.inl (E4.tg q (by decide))
      · exact Or.inr (E4.tg q (by decide))
    refine sf_some ⟨⟨by decide, by decide⟩, rfl, ⟨by decide, by decide⟩, G4, E4, fun a f ha hy hn => ?_, y', by rw [hln4]; exact R4, ⟨⟨h1.1, E4.tg h1.2 (by decide)⟩, h2, ?_, ?_, ?_, ⟨ty2.1, by rw [w4, w3]; exact ty2.2⟩, by omega, Or.inr (by rw [hln4]; omega), fun i hi => ?_⟩, ?_, eI, eE⟩
    · have hay : a ≠ y'.toNat := fun c => by
        rcases hy2 with q | q
        · rcases hy with q2 | q2
          · exact q2 (by rw [c, q.1])
          · exact q.2 q2
        · exact hn (by rw [c]; exact q)
      rw [F4 _ _ (Or.inl ha), F3 _ _ (Or.inl hay)]
      exact hF2 a f ha hy hn
    · rw [F4 _ _ (Or.inr (by decide)), F3 _ _ (Or.inl hxy2)]; exact v0
    · rw [F4 _ _ (Or.inr (by decide)), F3 _ _ (Or.inl hxy2)]; exact v1
    · rw [w4, cs_p_eq]; omega
    · by_cases c : i = m
      · rw [c, eE]; exact ⟨te.1, tgE⟩
      · rw [eI i (by omega)]
        have q := h9 i (by omega)
        refine ⟨q.1, ?_⟩
        rcases q.2 with q | q
        · exact Or.inl (E4.tg q (by decide))
        · exact Or.inr (E4.tg q (by decide))
    · rcases hy2 with q | q
      · exact Or.inl q.1
      · exact Or.inr q
  unfold pc_Jx4a65c_add_72be8_0
  refine wl ty1 (by rw [hl1]; omega) (fun z6 q6 => ?_)
  rw [hl1] at q6
  have hxF : ∀ a f, a ≠ x.toNat → (a ≠ z4.toNat ∨ z4 = ((bd.2.2 21 : Nat) : Int)) → c_tg σ a ≠ 0 → c_pv σ1 a f = c_pv σ a f := fun a f ha _ _ => F1 a f (Or.inl ha)
  refine sf_if (fun c => ?_) (fun c => ?_)
  · -- there is room
    rcases h8 with q | q
    · omega
    · refine fin σ1 z4 G1 e1 (R1.le (by omega) ?_ (by omega) (by omega)) ty1 q.1 (by rw [hl1]; omega) (by rw [← h4]; exact G.ir _ _) v0 (by rw [F1 _ _ (Or.inr (by decide))]; exact h4) (fun i hi => F1 _ _ (Or.inl (fun q => hxy q.symm))) (Or.inl ⟨rfl, fun c2 => ?_⟩) hxF
      · rw [hl1]; unfold lcr; rw [if_neg (by omega), if_neg (by omega)]; omega
      · have := G.st.2.1.2.2; omega
  · -- it grows
    refine sf_t tx1 ?_
    have hml : c_ln σ z4.toNat = m := by omega
    obtain ⟨N, hN⟩ : ∃ N, N = if m = 0 then 10 else m + m / 2 := ⟨_, rfl⟩
    have hbud : lcr (m + 1) N + N ≤ lcr m (c_ln σ z4.toNat) + 6 := by
      rw [hml]
      unfold lcr
      by_cases cm : m = 0
      · rw [if_pos cm] at hN; subst cm; subst hN; decide
      · rw [if_neg cm] at hN
        rw [if_neg (by omega), if_neg cm]
        omega
    have hyy : (z4 = ((bd.2.2 21 : Nat) : Int) ∧ m = 0) ∨ 10 ≤ m := by
      rcases h8 with q | q
      · exact Or.inl ⟨q.1, q.2.1⟩
      · exact Or.inr (by omega)
    refine sf_cn (s_lgrow (k := k) (s := s + lcr (m + 1) N) (o := o) (z := z) (by omega) G1 (N := N) (m := m) ⟨tx1, h2, by rw [F1 _ _ (Or.inr (by decide))]; exact h4, by rw [F1 _ _ (Or.inr (by decide))]; exact h5⟩ ty1 h7 (by rw [hl1]; exact hml) hyy (fun i hi => by
      rw [F1 _ _ (Or.inl (fun q => hxy q.symm))]
      have q := h9 i hi
      refine ⟨q.1, ?_⟩
      rcases q.2 with q | q
      · exact Or.inl (e1.tg q (by decide))
      · exact Or.inr (e1.tg q (by decide))) hN (R1.le (by omega) (by omega) (by omega) (by omega))) (fun σ2 kd r hp => ⟨hp.1, ?_⟩)
    obtain ⟨hk, rr, G2, E2, R2, p1, p2, p3, p4, p5, p6, p7⟩ := hp
    have hhp : c_hp σ1 = c_hp σ := by rw [w1]; rfl
    have hr : r.toNat = c_hp σ := by rw [p1, Int.toNat_natCast, hhp]
    have hfr : c_tg σ r.toNat = 0 := by rw [hr, ← hhp]; rw [w1] at p6; rw [hhp]; rw [← hhp, w1]; exact p6
    have hN3 : N = 10 ∧ m = 0 ∨ N = m + m / 2 ∧ 10 ≤ m := by
      by_cases cm : m = 0
      · rw [if_pos cm] at hN; exact Or.inl ⟨hN, cm⟩
      · rw [if_neg cm] at hN
        rcases h8 with q | q
        · omega
        · exact Or.inr ⟨hN, by omega⟩
    refine fin σ2 r G2 (e1.trans E2) (by rw [p3]; exact R2) p2 (by rw [hr]; exact G.hp) (by rw [p3]; omega) rr (by rw [p7 _ _ (by rw [hhp]; omega) (Or.inr (by decide))]; exact v0) p5 (fun i hi => by rw [p4 i hi]; exact F1 _ _ (Or.inl (fun q => hxy q.symm))) (Or.inr hfr) (fun a f ha hy hn => ?_)
    rw [p7 a f (by rw [hhp]; intro c; exact hn (by rw [c, ← hr]; exact hfr)) (Or.inl ha)]
    exact hxF a f ha hy hn
theorem s_lsize (hd : 6 ≤ d) {x y : Int} {m : Nat} (L : oLs bd b σ x m y) : sf (RC bd d 13 σ [x]) (PU σ (fun r => r = (m : Int))) := by
  have h7 := L.2.2.2.2.2.2.1
  obtain ⟨d, rfl⟩ : ∃ d0, d = d0 + 1 := ⟨d - 1, by omega⟩
  rw [rc_Jx4a65c_size_8abf5 (by omega)]
  refine fin_U ?_
  unfold pc_Jx4a65c_size_8abf5_0
  refine wg L.1 (fun z1 h1 => ?_)
  have e1 : z1 = (m : Int) := by rw [← h1]; exact L.2.2.2.2.1
  exact ret_U ⟨by omega, by omega⟩ e1
theorem s_lget (hd : 9 ≤ d) (G : GG bd b σ) {x y i : Int} {m : Nat} (L : oLs bd b σ x m y) (hi : 0 ≤ i ∧ i < (m : Int)) : sf (RC bd d 9 σ [x, i]) (PU σ (fun r => r = c_pv σ y.toNat i.toNat)) := by
  have h7 := L.2.2.2.2.2.2.1
  have h8 := L.2.2.2.2.2.2.2.1
  obtain ⟨d, rfl⟩ : ∃ d0, d = d0 + 1 := ⟨d - 1, by omega⟩
  rw [rc_Jx4a65c_get_915e3 (by omega)]
  refine fin_U ?_
  unfold pc_Jx4a65c_get_915e3_0
  refine wg L.1 (fun z1 h1 => ?_)
  have e1 : z1 = (m : Int) := by rw [← h1]; exact L.2.2.2.2.1
  have c1 : sf (RC bd d 0 σ [i, z1]) (PU σ (fun r => r = i)) := by
    obtain ⟨d, rfl⟩ : ∃ d0, d = d0 + 1 := ⟨d - 1, by omega⟩
    rw [rc_J15_checkIndex_7cf53 (by omega)]
    refine fin_U ?_
    unfold pc_J15_checkIndex_7cf53_0
    have c2 : sf (RC bd d 1 σ [i, z1, -1]) (PU σ (fun r => r = i)) := by
      obtain ⟨d, rfl⟩ : ∃ d0, d = d0 + 1 := ⟨d - 1, by omega⟩
      rw [rc_J3_checkIndex_8e157 (by omega)]
      refine fin_U ?_
      unfold pc_J3_checkIndex_8e157_0
      rw [if_neg (by omega), if_pos (by omega)]
      exact ret_U ⟨by omega, by omega⟩ rfl
    exact cn_U c2 (fun r hr f => ret_U hr f)
  refine cn_U c1 (fun r hr f => ?_)
  refine sf_t L.1 ?_
  have c3 : sf (RC bd d 8 σ [x, i]) (PU σ (fun r => r = c_pv σ y.toNat i.toNat)) := by
    obtain ⟨d, rfl⟩ : ∃ d0, d = d0 + 1 := ⟨d - 1, by omega⟩
    rw [rc_Jx4a65c_elementData_915e3 (by omega)]
    refine fin_U ?_
    unfold pc_Jx4a65c_elementData_915e3_0
    refine wg L.1 (fun z2 h2 => ?_)
    have e2 : z2 = y := by rw [← h2]; exact L.2.2.2.1
    subst e2
    refine wr L.2.2.2.2.2.1 ⟨hi.1, by omega⟩ (fun z3 h3 => ?_)
    exact ret_U (h3 ▸ G.ir _ _) h3.symm
  exact cn_U c3 (fun r hr f => ret_U hr f)
theorem mk_list (hd : 9 ≤ d) (h : GG bd b σ) (hr : RR bd b σ (k + 1) (s + 3) o z) {K : CS → CO}
    (kk : ∀ σ', GG bd b σ' → Ext b σ σ' → RR bd b σ' k s o z → (oLs bd b σ' ((c_hp σ : Nat) : Int) 0 ((bd.2.2 21 : Nat) : Int) ∧ c_tg σ (c_hp σ) = 0 ∧ (∀ a f, a ≠ c_hp σ → c_pv σ' a f = c_pv σ a f)) → sf (K σ') Q) : sf (cc_t (cs_n σ 13 3) 13 ((c_hp σ : Nat) : Int) (cc_ci (RC bd d 12 (cs_n σ 13 3) [((c_hp σ : Nat) : Int)]) K)) Q := by
  refine wtN (by rw [cs_n_o]; exact cs_o_tg) (sf_ci (P := fun σ' kd r => kd = 0 ∧ σ' = cs_o σ 13 3 (fun g => if g = 1 then ((bd.2.2 21 : Nat) : Int) else (if g = 0 then 0 else (if cw_isR 13 g = true then -1 else 0)))) ?_ (fun σ' kd r hp => ⟨hp.1, ?_⟩))
  · obtain ⟨d, rfl⟩ : ∃ d0, d = d0 + 1 := ⟨d - 1, by omega⟩
    rw [rc_Jx4a65c_init_da8c8 (by omega)]
    refine sf_fin ?_
    unfold pc_Jx4a65c_init_da8c8_0
    rw [cs_n_o]
    refine wtN cs_o_tg ?_
    refine sf_ci (P := fun σ' kd r => kd = 0 ∧ σ' = cs_o σ 13 3 (fun g => if g = 0 then 0 else (if cw_isR 13 g = true then -1 else 0))) ?_ (fun σ' kd r hp => ⟨hp.1, ?_⟩)
    · obtain ⟨d, rfl⟩ : ∃ d0, d = d0 + 1 := ⟨d - 1, by omega⟩
      rw [rc_Jxc12de_init_da8c8 (by omega)]
      refine sf_fin ?_
      unfold pc_Jxc12de_init_da8c8_0
      refine wtN cs_o_tg ?_
      refine sf_ci (P := fun σ' kd r => kd = 0 ∧ σ' = cs_o σ 13 3 (fun g => if cw_isR 13 g = true then -1 else 0)) ?_ (fun σ' kd r hp => ⟨hp.1, ?_⟩)
      · obtain ⟨d, rfl⟩ : ∃ d0, d = d0 + 1 := ⟨d - 1, by omega⟩
        rw [rc_Jxa1e45_init_da8c8 (by omega)]
        refine sf_fin ?_
        unfold pc_Jxa1e45_init_da8c8_0
        refine wtN cs_o_tg ?_
        exact sf_some ⟨⟨by decide, by decide⟩, rfl, rfl⟩
      · rw [hp.2]
        refine sf_pN0 cs_o_tg ?_
        rw [cs_o_p]
        exact sf_some ⟨⟨by decide, by decide⟩, rfl, rfl⟩
    · rw [hp.2]
      refine sf_gs (by have := h.st.2.2.1 21; omega) ?_
      refine sf_pN0 cs_o_tg ?_
      rw [cs_o_p]
      exact sf_some ⟨⟨by decide, by decide⟩, rfl, rfl⟩
  · rw [hp.2]
    have hs := h.st.2.2.1 21
    have he := h.st.2.1
    have hlt : bd.2.2 21 < c_hp σ := by have := h.hp; omega
    have hg := gg_row h (t := 13) (n := 3) (F := fun g => if g = 1 then ((bd.2.2 21 : Nat) : Int) else (if g = 0 then 0 else (if cw_isR 13 g = true then -1 else 0))) (fun f => by
      repeat' split
      · exact ⟨by omega, by omega⟩
      · exact ⟨by decide, by decide⟩
      · exact ⟨by decide, by decide⟩
      · exact ⟨by decide, by decide⟩) (by decide)
    refine kk _ hg.1 hg.2 (rr_new h hr) ⟨⟨new_t, by rw [Int.toNat_natCast]; exact h.hp, by rw [new_f]; rfl, by rw [new_f]; rfl, by rw [new_f]; rfl, ⟨by omega, by rw [Int.toNat_natCast, cs_o_tn (by omega)]; exact he.1⟩, by decide, Or.inl ⟨rfl, rfl, by rw [Int.toNat_natCast, cs_o_ne (by omega)]; exact he.2.1⟩, fun i hi => by omega⟩, ?_, fun a f ha => cs_o_pn ha⟩
    by_cases c : c_tg σ (c_hp σ) = 0
    · exact c
    · have := h.lt c
      omega
end CLI
