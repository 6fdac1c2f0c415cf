section CNO
variable {bd : cBd} {b d : Nat} {σ σ1 σ2 σ3 : CS} {Q : CS → Nat → Int → Prop} {k s o z : Nat}
/-- a link that puts a new name -/
def oLw (σ : CS) (x : Int) : Prop := oLn σ x ∧ c_pv σ x.toNat 3 < 0
theorem oLw.up {σ' : CS} {x : Int} (h : oLw σ x) (e : Ext b σ σ') : oLw σ' x := ⟨h.1.up e, by rw [e.z.lk h.1.2]; exact h.2⟩
theorem mk_row_room (G : GG bd b σ) {n : Nat} (R : RR bd b σ (k + 1) (s + n) o z) : (c_hp σ + 1 ≤ bd.1 ∧ c_sl σ + n ≤ bd.2.1 ∧ c_hp σ < 2147483648) ∧ RR bd b σ (k + 1) (s + n) o z := ⟨rr_room G R, R⟩
theorem mk_row {σ1 : CS} (G : GG bd b σ) {t n : Nat} (R : RR bd b σ (k + 1) (s + n) o z) (e : σ1 = cs_n σ t n) (ht : t = 13 ∨ (20 ≤ t ∧ t ≤ 23)) : GG bd b σ1 ∧ Ext b σ σ1 ∧ RR bd b σ1 k s o z ∧ ((0 ≤ ((c_hp σ : Nat) : Int) ∧ c_tg σ1 ((c_hp σ : Nat) : Int).toNat = t) ∧ c_ln σ1 ((c_hp σ : Nat) : Int).toNat = n ∧ ∀ i, c_pv σ1 ((c_hp σ : Nat) : Int).toNat i = if cw_isR t i = true then -1 else 0) ∧ (∀ a f, a ≠ c_hp σ → c_pv σ1 a f = c_pv σ a f) ∧ c_tg σ (c_hp σ) = 0 := by
  subst e
  rw [cs_n_o]
  have hg := gg_row G (t := t) (n := n) (F := fun g => if cw_isR t g = true then -1 else 0) (fun f => by split <;> exact ⟨by decide, by decide⟩) ht
  refine ⟨hg.1, hg.2, rr_new G R, ⟨new_t, by rw [Int.toNat_natCast]; exact cs_o_ln, fun i => new_f⟩, fun a f ha => cs_o_pn ha, ?_⟩
  by_cases c : c_tg σ (c_hp σ) = 0
  · exact c
  · have := G.lt c
    omega
theorem Ext.fresh {σ0 : CS} {a : Nat} (E : Ext b σ0 σ) (h : c_tg σ a = 0) : c_tg σ0 a = 0 := by
  by_cases c : c_tg σ0 a = 0
  · exact c
  · exact absurd ((E.2.1 a c).1.symm.trans h) c
/-- a row of Nodes that is being filled: j are there -/
def oAp (b : Nat) (σ : CS) (x : Int) (N j : Nat) : Prop := (0 ≤ x ∧ c_tg σ x.toNat = 22) ∧ b + 24 ≤ x.toNat ∧ c_ln σ x.toNat = N ∧ (1 ≤ N ∧ N ≤ 100000) ∧ ∀ i, i < j → oN σ (c_pv σ x.toNat i)
theorem oAp.tg {x : Int} {N j : Nat} (h : oAp b σ x N j) : 0 ≤ x ∧ c_tg σ x.toNat = 22 := h.1
theorem oAp.upz {σ' : CS} {x : Int} {N j : Nat} (h : oAp b σ x N j) (e : Ext0 b σ σ') : oAp b σ' x N j := by
  obtain ⟨⟨h1, h2⟩, h3, h4, h5, h6⟩ := h
  refine ⟨⟨h1, e.tg h2 (by decide)⟩, h3, (e.ln h2 (by decide)).trans h4, h5, fun i hi => ?_⟩
  rw [e.ar h2 h3]
  exact (h6 i hi).upz e
theorem oAp.up {σ' : CS} {x : Int} {N j : Nat} (h : oAp b σ x N j) (e : Ext b σ σ') : oAp b σ' x N j := h.upz e.z
theorem oAp.all {x : Int} {N : Nat} (h : oAp b σ x N N) : oA b σ x := ⟨h.1, h.2.1, by rw [h.2.2.1]; exact h.2.2.2.1.1, by rw [h.2.2.1]; exact h.2.2.2.1.2, fun i hi => h.2.2.2.2 i (by rw [← h.2.2.1]; exact hi)⟩
theorem pl.zero {m : Nat} {x : Int} (h : pl σ m x) (hx : x < 0) : m = 0 := by
  cases m with
  | zero => rfl
  | succ m => exact absurd h.1.1 (by omega)
theorem gg_fill {σ1 : CS} (G : GG bd b σ) (R : RR bd b σ k s o z) {a i : Nat} {y : Int} (e : σ1 = cs_p σ a i y) (ha : c_tg σ a = 22) (hb : b + 24 ≤ a) (hy : oN σ y) (ry : inR y) : GG bd b σ1 ∧ RR bd b σ1 k s o z := by
  subst e
  have hne : ∀ i, i < 24 → b + i ≠ a := fun i hi => by omega
  refine ⟨⟨G.1, fun q hq => ?_, ⟨fun i' f' lo hi' hi2 hr2 => ?_, fun j => ?_⟩, ?_, fun q => ?_, cs_p_ir G.ir ry, G.st.p (by have := G.st.1.2.2.1; omega)⟩, rr_far R hne⟩
  · have hq2 : q.1 < 24 := (by decide : ∀ q ∈ gF, q.1 < 24) q hq
    rw [cs_p_na (hne _ hq2)]; exact G.2.1 q hq
  · rw [cs_p_na (hne _ hi2)]; exact G.2.2.1.1 i' f' lo hi' hi2 hr2
  · rw [cs_p_na (hne 17 (by decide)), cs_p_na (hne 16 (by decide))]; exact G.2.2.1.2 j
  · exact hw_same G.2.2.2.1 (fun j => cs_p_na (hne 12 (by decide))) (fun j => cs_p_na (hne 13 (by decide))) (fun j => cs_p_na (hne 15 (by decide))) (cs_p_na (hne 9 (by decide))) (fun x q => q)
  · have o := G.oi q
    by_cases e : q = a
    · subst e
      have ht : c_tg (cs_p σ q i y) q = 22 := ha
      exact ⟨fun c => by omega, fun c => by omega, fun c => by omega, fun c => by omega, fun c => by omega⟩
    · have e2 : c_pv (cs_p σ a i y) q = c_pv σ q := funext fun g => cs_p_na e
      unfold OI
      rw [e2]
      show (c_tg σ q = 2 → _) ∧ (c_tg σ q = 4 → _) ∧ (c_tg σ q = 7 → _) ∧ (c_tg σ q = 9 → _) ∧ (c_tg σ q = 10 → _)
      have tP : ∀ x, oP σ x → oP (cs_p σ a i y) x := by
        intro x c
        rcases c with c | ⟨c1, c2, c3⟩
        · exact Or.inl c
        · refine Or.inr ⟨c1, c2, ?_⟩
          rw [cs_p_na (fun e3 => by rw [e3, ha] at c2; omega)]
          exact c3
      have tA : ∀ x, oA b σ x → oA b (cs_p σ a i y) x := by
        intro x c
        obtain ⟨q1, q3, q4, q5, q6⟩ := c
        refine ⟨q1, q3, q4, q5, fun j hj => ?_⟩
        have h6 := q6 j hj
        rw [cs_p_pv]
        split
        · split
          · exact hy
          · exact h6
        · exact h6
      refine ⟨fun q => ?_, fun q => ?_, fun q => ?_, fun q => ?_, fun q => ?_⟩
      · obtain ⟨a1, a2, a3, a4⟩ := o.1 q
        exact ⟨a1, a2, a3, tP _ a4⟩
      · obtain ⟨a1, a2, a3, a4, a5, a6, a7⟩ := o.2.1 q
        exact ⟨a1, a2, a3, a4, a5, a6, fun c => ⟨(a7 c).1, tP _ (a7 c).2⟩⟩
      · obtain ⟨a1, a2, a3, a4, a5, a6, a7, a8⟩ := o.2.2.1 q
        exact ⟨a1, a2, a3, a4, a5, a6, a7, fun c => tA _ (a8 c)⟩
      · exact o.2.2.2.1 q
      · exact o.2.2.2.2 q
/-- what is put into an object that came behind σ0 -/
theorem Ext.fill {σ0 σ1 : CS} {a i : Nat} {y : Int} (E : Ext b σ0 σ) (e : σ1 = cs_p σ a i y) (h0 : c_tg σ0 a = 0) (hb : b + 24 ≤ a) : Ext b σ0 σ1 := by
  subst e
  refine ⟨E.1, E.2.1, fun q f hq => ?_⟩
  have hne : q ≠ a := fun e => by
    subst e
    unfold fz fz0 at hq
    omega
  rw [cs_p_na hne]
  exact E.2.2 q f hq
theorem pl.w {a i : Nat} {y : Int} (ha : c_tg σ a = 22) : ∀ {m : Nat} {x : Int}, pl σ m x → pl (cs_p σ a i y) m x
  | 0, _, h => h
  | m + 1, x, h => by
    have hne : x.toNat ≠ a := fun e => by have := h.1.2.1; rw [e, ha] at this; omega
    refine ⟨⟨h.1.1, h.1.2.1, by rw [cs_p_na hne]; exact h.1.2.2⟩, ?_⟩
    rw [cs_p_na hne]
    exact pl.w ha h.2
theorem oAp.w {x y : Int} {N j : Nat} (h : oAp b σ x N j) (hy : oN σ y) : oAp b (cs_p σ x.toNat j y) x N (j + 1) := by
  obtain ⟨h1, h3, h4, h5, h6⟩ := h
  refine ⟨h1, h3, h4, h5, fun i hi => ?_⟩
  rw [cs_p_pv, if_pos rfl]
  split
  · exact hy
  · exact h6 i (by omega)
theorem s_binder (hd : 7 ≤ d) (G : GG bd b σ) (R : RR bd b σ (k + 1) (s + 11) o z) {x0 x1 x2 x3 : Int} (h0 : 4 ≤ x0 ∧ x0 ≤ 6) (h1 : oid x1) (hn : x1 ≠ 0) (t2 : oN σ x2) (r2 : inR x2) (t3 : oN σ x3) (r3 : inR x3) : sf (RC bd d 104 σ [x0, x1, x2, x3]) (PZ bd b σ k s o z (fun σ' r => oB σ' r ∧ c_pv σ' r.toNat 0 = x0 ∧ c_pv σ' r.toNat 6 = x2 ∧ c_pv σ' r.toNat 7 = x3 ∧ ∀ a f, a ≠ c_hp σ → c_pv σ' a f = c_pv σ a f)) := by
  obtain ⟨d, rfl⟩ : ∃ d0, d = d0 + 1 := ⟨d - 1, by omega⟩
  rw [rc_X6_binder (by omega)]
  refine fin_Z ?_
  unfold pc_X6_binder_0
  refine sf_n (rr_room G R) ?_
  refine wtN (by rw [cs_n_o]; exact cs_o_tg) ?_
  refine sf_ci (s_nnode (by omega) ⟨⟨by omega, by omega⟩, by have := h1.1; have := h1.2; exact ⟨by omega, by omega⟩⟩) (fun σ' kd r hp => ?_)
  obtain ⟨hk, F, rfl, e0, e1, e2, e3, e4, e5, e6, e7, e8, e9, e10, hF⟩ := hp
  refine ⟨hk, ?_⟩
  refine sf_pN0 cs_o_tg ?_
  rw [cs_o_p]
  refine sf_pN0 cs_o_tg ?_
  rw [cs_o_p]
  obtain ⟨F', hF'⟩ : ∃ F' : Nat → Int, F' = fun g => if g = 7 then x3 else (if g = 6 then x2 else F g) := ⟨_, rfl⟩
  rw [← hF']
  have f0 : F' 0 = x0 := by rw [hF']; exact e0
  have f1 : F' 1 = x1 := by rw [hF']; exact e1
  have f4 : F' 4 = 0 := by rw [hF']; exact e4
  have f5 : F' 5 = 0 := by rw [hF']; exact e5
  have f6 : F' 6 = x2 := by rw [hF']; rfl
  have f7 : F' 7 = x3 := by rw [hF']; rfl
  have hg := gg_nd G (F := F') (by
    intro f
    rw [hF']
    dsimp only
    split
    · exact r3
    · split
      · exact r2
      · exact hF f) (by
    unfold oNd
    rw [f0, f1, f4, f5, f6, f7]
    exact ⟨⟨by omega, by omega⟩, h1, ⟨by decide, by decide⟩, ⟨by decide, by decide⟩, fun q => by omega, fun _ => t2, fun _ _ => ⟨t3, hn⟩, fun q => by omega⟩)
  exact ret_Z (hp_R G R) hg.1 hg.2 (rr_new G R) ⟨⟨new_t, by rw [new_f, f0]; omega, by rw [new_f, f0]; omega⟩, by rw [new_f, f0], by rw [new_f, f6], by rw [new_f, f7], fun a f ha => cs_o_pn ha⟩
theorem s_use (hd : 7 ≤ d) (G : GG bd b σ) (R : RR bd b σ (k + 1) (s + 11) o z) {x0 x1 : Int} (t0 : oN σ x0) (r0 : inR x0) (t1 : oA b σ x1) (r1 : inR x1) : sf (RC bd d 108 σ [x0, x1]) (PZ bd b σ k s o z (fun σ' r => oU σ' r ∧ c_pv σ' r.toNat 6 = x0 ∧ c_pv σ' r.toNat 8 = x1 ∧ ∀ a f, a ≠ c_hp σ → c_pv σ' a f = c_pv σ a f)) := by
  obtain ⟨d, rfl⟩ : ∃ d0, d = d0 + 1 := ⟨d - 1, by omega⟩
  rw [rc_X6_use (by omega)]
  refine fin_Z ?_
  unfold pc_X6_use_0
  refine sf_n (rr_room G R) ?_
  refine wtN (by rw [cs_n_o]; exact cs_o_tg) ?_
  refine sf_ci (s_nnode (by omega) ⟨⟨by decide, by decide⟩, ⟨by decide, by decide⟩⟩) (fun σ' kd r hp => ?_)
  obtain ⟨hk, F, rfl, e0, e1, e2, e3, e4, e5, e6, e7, e8, e9, e10, hF⟩ := hp
  refine ⟨hk, ?_⟩
  have hx0 : x0.toNat ≠ c_hp σ := fun e => by have := G.lt (a := x0.toNat) (by rw [t0.2]; decide); omega
  refine sf_pN0 cs_o_tg ?_
  rw [cs_o_p]
  refine sf_pN0 cs_o_tg ?_
  rw [cs_o_p]
  refine sf_g ⟨t0.1, by rw [cs_o_tn hx0]; exact t0.2⟩ ?_
  rw [cs_o_pn hx0]
  refine sf_pN0 cs_o_tg ?_
  rw [cs_o_p]
  refine sf_g ⟨t0.1, by rw [cs_o_tn hx0]; exact t0.2⟩ ?_
  rw [cs_o_pn hx0]
  refine sf_pN0 cs_o_tg ?_
  rw [cs_o_p]
  obtain ⟨F', hF'⟩ : ∃ F' : Nat → Int, F' = fun g => if g = 3 then c_pv σ x0.toNat 3 else (if g = 2 then c_pv σ x0.toNat 2 else (if g = 8 then x1 else (if g = 6 then x0 else F g))) := ⟨_, rfl⟩
  rw [← hF']
  have f0 : F' 0 = 7 := by rw [hF']; exact e0
  have f1 : F' 1 = 0 := by rw [hF']; exact e1
  have f4 : F' 4 = 0 := by rw [hF']; exact e4
  have f5 : F' 5 = 0 := by rw [hF']; exact e5
  have f6 : F' 6 = x0 := by rw [hF']; rfl
  have f8 : F' 8 = x1 := by rw [hF']; rfl
  have hg := gg_nd G (F := F') (by
    intro f
    rw [hF']
    dsimp only
    repeat' split
    · exact G.ir _ _
    · exact G.ir _ _
    · exact r1
    · exact r0
    · exact hF f) (by
    unfold oNd
    rw [f0, f1, f4, f5, f6, f8]
    exact ⟨⟨by decide, by decide⟩, ⟨by decide, by decide⟩, ⟨by decide, by decide⟩, ⟨by decide, by decide⟩, fun q => by omega, fun _ => t0, fun _ q => by omega, fun _ => t1⟩)
  exact ret_Z (hp_R G R) hg.1 hg.2 (rr_new G R) ⟨⟨new_t, by rw [new_f, f0]⟩, by rw [new_f, f6], by rw [new_f, f8], fun a f ha => cs_o_pn ha⟩
theorem s_named (hd : 7 ≤ d) (G : GG bd b σ) (R : RR bd b σ (k + 1) (s + 11) o z) {x0 x1 : Int} (h0 : 0 ≤ x0 ∧ x0 ≤ 5000) (h1 : 0 ≤ x1 ∧ x1 ≤ 5000) : sf (RC bd d 107 σ [x0, x1]) (PZ bd b σ k s o z (fun σ' r => oN σ' r ∧ c_pv σ' r.toNat 6 < 0 ∧ ∀ a f, a ≠ c_hp σ → c_pv σ' a f = c_pv σ a f)) := by
  obtain ⟨d, rfl⟩ : ∃ d0, d = d0 + 1 := ⟨d - 1, by omega⟩
  rw [rc_X6_named (by omega)]
  refine fin_Z ?_
  unfold pc_X6_named_0
  refine sf_n (rr_room G R) ?_
  refine wtN (by rw [cs_n_o]; exact cs_o_tg) ?_
  refine sf_ci (s_nnode (by omega) ⟨⟨by decide, by decide⟩, ⟨by decide, by decide⟩⟩) (fun σ' kd r hp => ?_)
  obtain ⟨hk, F, rfl, e0, e1, e2, e3, e4, e5, e6, e7, e8, e9, e10, hF⟩ := hp
  refine ⟨hk, ?_⟩
  refine sf_pN0 cs_o_tg ?_
  rw [cs_o_p]
  refine sf_pN0 cs_o_tg ?_
  rw [cs_o_p]
  refine sf_pN0 cs_o_tg ?_
  rw [cs_o_p]
  refine sf_pN0 cs_o_tg ?_
  rw [cs_o_p]
  obtain ⟨F', hF'⟩ : ∃ F' : Nat → Int, F' = fun g => if g = 5 then x1 else (if g = 4 then x0 else (if g = 3 then x0 else (if g = 2 then x0 else F g))) := ⟨_, rfl⟩
  rw [← hF']
  have f0 : F' 0 = 0 := by rw [hF']; exact e0
  have f1 : F' 1 = 0 := by rw [hF']; exact e1
  have f4 : F' 4 = x0 := by rw [hF']; rfl
  have f5 : F' 5 = x1 := by rw [hF']; rfl
  have f6 : F' 6 = -1 := by rw [hF']; exact e6
  have hg := gg_nd G (F := F') (by
    intro f
    rw [hF']
    dsimp only
    repeat' split
    · exact ⟨by omega, by omega⟩
    · exact ⟨by omega, by omega⟩
    · exact ⟨by omega, by omega⟩
    · exact ⟨by omega, by omega⟩
    · exact hF f) (by
    unfold oNd
    rw [f0, f1, f4, f5, f6]
    exact ⟨⟨by decide, by decide⟩, ⟨by decide, by decide⟩, h0, h1, fun q => by decide, fun q => by omega, fun q => by omega, fun q => by omega⟩)
  exact ret_Z (hp_R G R) hg.1 hg.2 (rr_new G R) ⟨new_t, by rw [new_f, f6]; decide, fun a f ha => cs_o_pn ha⟩
theorem s_keepSorts (hd : 6 ≤ d) (G : GG bd b σ) (R : RR bd b σ (k) (s) (o) (z)) {x y y2 : Int} (t_x : oN σ x) (ry : inR y) (ry2 : inR y2) : sf (RC bd d 106 σ [x, y, y2]) (PZ bd b σ k s o z (fun σ' _ => ∀ a f, f ≠ 9 → f ≠ 10 → c_pv σ' a f = c_pv σ a f)) := by
  obtain ⟨d, rfl⟩ : ∃ d0, d = d0 + 1 := ⟨d - 1, by omega⟩
  rw [rc_X6_keepSorts (by omega)]
  refine fin_Z ?_
  unfold pc_X6_keepSorts_0
  refine wp t_x.tg (fun s1 ws1 => ?_)
  obtain ⟨Gs1, es1, Rs1, Fs1⟩ := P7 G R t_x ws1 (by first | assumption | exact inR_of _ | exact ⟨by omega, by omega⟩) (by omega)
  have E2 := (Ext.refl (b := b) (σ := σ)).trans es1
  have t_x := t_x.up es1
  refine wp t_x.tg (fun s3 ws3 => ?_)
  obtain ⟨Gs3, es3, Rs3, Fs3⟩ := P7 Gs1 Rs1 t_x ws3 (by first | assumption | exact inR_of _ | exact ⟨by omega, by omega⟩) (by omega)
  have E4 := E2.trans es3
  exact ret_Z ⟨by decide, by decide⟩ Gs3 E4 (Rs3.le (by omega) (by omega) (by omega) (by omega)) (by first | trivial | assumption | omega | (dsimp only; omega) | exact fun a f h9 h10 => (Fs3 a f (Or.inr h10)).trans (Fs1 a f (Or.inr h9)))
theorem s_normalize168 (hc : ∀ {σ : CS} {k s o z : Nat} {x1 x2 l δ : Int}, 112 ≤ (d : Int) + δ → GG bd b σ → RR bd b σ (k + 1) (s + 6) o z → oN σ x1 → inR x1 → oL σ x2 → inR x2 → (0 ≤ l ∧ l ≤ δ) → δ ≤ 100 → sf (RC bd d 87 σ [((b + 16 : Nat) : Int), x1, x2, l, δ]) (PO bd b σ k s o z (fun σ' r => oN σ' r ∧ RR bd b σ' (k + 1) (s + 6) o z))) {σe : CS} {l δ x7 x8 : Int} {N : Nat} (hd : 111 ≤ (d : Int) + δ) (hl : 0 ≤ l ∧ l ≤ δ) (hδ : δ < 100) (h0 : c_tg σe x8.toNat = 0) (rx7 : inR x7) (rx8 : inR x8) : ∀ (n : Nat) {σ : CS} {m j : Nat} {x9 x10 : Int}, GG bd b σ → Ext b σe σ → RR bd b σ (k + 2) (s + 17) o z → oN σ x7 → oAp b σ x8 N j → pl σ m x9 → inR x9 → j + m = N → m < n → x10 = (j : Int) → sf (pc_X4_normalize_168 (RC bd d) bd n σ ((b + 16 : Nat) : Int) l δ x7 x8 x9 x10) (PO bd b σe k s o z (fun σ' r => oN σ' r ∧ RR bd b σ' (k + 1) (s + 6) o z)) := by
  intro n
  induction n with
  | zero =>
    intro σ m j x9 x10 G E R t_x7 t_x8 p_x9 rx9 hj hn hx
    omega
  | succ n ih =>
    intro σ m j x9 x10 G E R t_x7 t_x8 p_x9 rx9 hj hn hx
    have t_x9 := p_x9.p
    have hN := t_x8.2.2.2.1
    unfold pc_X4_normalize_168
    refine wl t_x8.tg (by rw [t_x8.2.2.1]; omega) (fun z1_1 hz1_1 => ?_)
    rw [t_x8.2.2.1] at hz1_1
    refine sf_if (fun c2 => ?_) (fun c2 => ?_)
    · have t_x8 : oA b σ x8 := by
        have e : j = N := by omega
        rw [e] at t_x8
        exact t_x8.all
      unfold pc_X4_normalize_218
      refine cl_Z (s_use (k := k + 1) (s := s + 6) (o := o) (z := z) (by omega) G (R.le (by omega) (by omega) (by omega) (by omega)) t_x7 (by first | assumption | exact ref_R G R t_x7.tg (by decide)) t_x8 (by first | assumption | exact ref_R G R t_x8.tg (by decide))) (fun s3 z3_4 rz3_4 Gs3 es3 Rs3 fz3_4 => ?_)
      obtain ⟨t_z3_4, v6_z3_4, v8_z3_4, Fn_z3_4⟩ := fz3_4
      have E5 := E.trans es3
      have p_x9 := p_x9.up es3
      exact ret_O (by first | assumption | exact ref_R Gs3 Rs3 t_z3_4.tg (by decide) | exact ⟨by omega, by omega⟩) Gs3 E5 (Rs3.le (by omega) (by omega) (by omega) (by omega)) (by first | trivial | assumption | omega | (dsimp only; omega) | exact ⟨oU.n (by assumption), (Rs3.le (by omega) (by omega) (by omega) (by omega))⟩)
    · refine sf_if (fun c6 => ?_) (fun c6 => ?_)
      · have := p_x9.zero (by omega)
        exfalso; omega
      · have t_x9 := t_x9.pos (by omega)
        obtain ⟨m0, rfl⟩ := p_x9.succ (by omega)
        refine wg t_x9.tg (fun z4_7 hz4_7 => ?_)
        have rz4_7 : inR z4_7 := hz4_7 ▸ G.ir _ _
        have t_z4_7 : oN σ z4_7 := hz4_7 ▸ ((G.lkf t_x9.tg).2.2.2.2.2.2 t_x9.2.2).1
        refine wg t_x9.tg (fun z5_8 hz5_8 => ?_)
        have rz5_8 : inR z5_8 := hz5_8 ▸ G.ir _ _
        have t_z5_8 : oL σ z5_8 := hz5_8 ▸ (G.lkf t_x9.tg).2.2.1
        refine wck ⟨by omega, by omega⟩ (fun z6_9 hz6_9 => ?_)
        refine wtN (G.tg 16) ?_
        refine cl_O (hc (k := k + 1) (s := s + 11) (o := o) (z := z) (by omega) G (R.le (by omega) (by omega) (by omega) (by omega)) t_z4_7 (by first | assumption | exact ref_R G R t_z4_7.tg (by decide)) t_z5_8 (by first | assumption | exact ref_R G R t_z5_8.tg (by decide)) ⟨by omega, by omega⟩ (by omega)) E (by omega) (by omega) (by omega) (by omega) (fun s10 z9_11 rz9_11 Gs10 es10 Rs10 fz9_11 => ?_)
        obtain ⟨t_z9_11, Qz9_11⟩ := fz9_11
        have E12 := E.trans es10
        have t_x7 := t_x7.up es10
        have t_x8 := t_x8.up es10
        have t_x9 := t_x9.up es10
        have p_x9 := p_x9.up es10
        refine sf_tn (Or.inr t_z9_11.tg) ?_
        refine ww t_x8.tg ⟨by omega, by rw [t_x8.2.2.1]; omega⟩ (fun s13 ws13 => ?_)
        obtain ⟨Gs13, Rs13⟩ := gg_fill Gs10 Qz9_11 ws13 t_x8.1.2 t_x8.2.1 t_z9_11 (by assumption)
        have Es13 := E12.fill ws13 h0 t_x8.2.1
        have p_x9 : pl s13 (m0 + 1) x9 := by rw [ws13]; exact p_x9.w t_x8.1.2
        have hj2 : x10.toNat = j := by omega
        have t_x8 : oAp b s13 x8 N (j + 1) := by rw [ws13, hj2]; exact t_x8.w t_z9_11
        have t_x7 : oN s13 x7 := by rw [ws13]; exact t_x7
        have t_x9 := p_x9.1
        refine wg t_x9.tg (fun z11_14 hz11_14 => ?_)
        have rz11_14 : inR z11_14 := hz11_14 ▸ Gs13.ir _ _
        have fz11_14 : z11_14 < ((x9).toNat : Int) := hz11_14 ▸ (Gs13.lkf t_x9.tg).2.2.2.2.2.1
        have t_z11_14 : oP s13 z11_14 := hz11_14 ▸ ((Gs13.lkf t_x9.tg).2.2.2.2.2.2 t_x9.2.2).2
        refine wck ⟨by omega, by omega⟩ (fun z12_15 hz12_15 => ?_)
        have p_11 : pl s13 m0 z11_14 := hz11_14 ▸ p_x9.2
        exact ih Gs13 Es13 (Rs13.le (by omega) (by omega) (by omega) (by omega)) t_x7 t_x8 p_11 (by first | assumption | exact ref_R Gs13 Rs13 t_z11_14.tg (by decide)) (by omega) (by omega) (by omega)
theorem s_normalize : ∀ (d : Nat), ∀ {σ : CS} {k s o z : Nat} {x1 x2 l δ : Int}, 112 ≤ (d : Int) + δ → GG bd b σ → RR bd b σ (k + 1) (s + 6) o z → oN σ x1 → inR x1 → oL σ x2 → inR x2 → (0 ≤ l ∧ l ≤ δ) → δ ≤ 100 → sf (RC bd d 87 σ [((b + 16 : Nat) : Int), x1, x2, l, δ]) (PO bd b σ k s o z (fun σ' r => oN σ' r ∧ RR bd b σ' (k + 1) (s + 6) o z)) := by
  intro d
  induction d with
  | zero =>
    intro σ k s o z x1 x2 l δ hd G R t_x1 rx1 t_x2 rx2 hl hδ
    omega
  | succ d hc =>
    intro σ k s o z x1 x2 l δ hd G R t_x1 rx1 t_x2 rx2 hl hδ
    rw [rc_X4_normalize (by omega)]
    refine fin_O ?_
    unfold pc_X4_normalize_0
    refine wtN (G.tg 16) ?_
    refine cl_O (s_look (k := k) (s := s) (o := o) (z := z) (by omega) G (R.le (by omega) (by omega) (by omega) (by omega))) (Ext.refl (b := b) (σ := σ)) (by omega) (by omega) (by omega) (by omega) (fun s1 z3_2 rz3_2 Gs1 es1 Rs1 fz3_2 => ?_)
    obtain ⟨Qz3_2, Dz3_2⟩ := fz3_2
    have E3 := (Ext.refl (b := b) (σ := σ)).trans es1
    have t_x1 := t_x1.up es1
    have t_x2 := t_x2.up es1
    refine wtN (Gs1.tg 16) ?_
    refine cl_O (s_head (k := k + 5) (s := s + 56) (o := o + 40) (z := z) (by omega) Gs1 (Qz3_2.le (by omega) (by omega) (by omega) (by omega)) t_x1 (by first | assumption | exact ref_R Gs1 Qz3_2 t_x1.tg (by decide)) t_x2 (by first | assumption | exact ref_R Gs1 Qz3_2 t_x2.tg (by decide))) E3 (by omega) (by omega) (by omega) (by omega) (fun s4 z6_5 rz6_5 Gs4 es4 Rs4 fz6_5 => ?_)
    obtain ⟨m_z6_5, Hz6_5, q_z6_5, Qz6_5, k5_z6_5⟩ := fz6_5
    have t_z6_5 := Hz6_5.1
    have E6 := E3.trans es4
    refine wg t_z6_5.tg (fun z7_7 hz7_7 => ?_)
    have rz7_7 : inR z7_7 := hz7_7 ▸ Gs4.ir _ _
    have t_z7_7 : oN s4 z7_7 := hz7_7 ▸ (Gs4.hdf t_z6_5.tg).1
    refine sf_t t_z6_5.tg ?_
    refine cl_U (s_isBinder (by omega) Gs4 t_z6_5) (fun z10_9 rz10_9 fz10_9 => ?_)
    refine sf_if (fun c10 => ?_) (fun c10 => ?_)
    · rw [hz7_7] at fz10_9
      have k5 := k5_z6_5
      rw [hz7_7] at k5
      refine sf_n (rr_room Gs4 (Qz6_5.le (k' := (k + 5) + 1) (s' := (s + 51 + m_z6_5) + 11) (o' := (o + 40 + m_z6_5)) (z' := z) (by omega) (by omega) (by omega) (by omega))) ?_
      refine wgn Gs4 t_z7_7.tg (by decide) (fun z14_11 hz14_11 => ?_)
      have rz14_11 : inR z14_11 := hz14_11 ▸ Gs4.ir _ _
      have fz14_11 := Gs4.kd t_z7_7.tg
      rw [hz14_11] at fz14_11
      refine wgn Gs4 t_z6_5.tg (by decide) (fun z15_12 hz15_12 => ?_)
      have rz15_12 : inR z15_12 := hz15_12 ▸ Gs4.ir _ _
      have fz15_12 : oid z15_12 := hz15_12 ▸ (Gs4.hdf t_z6_5.tg).2.1
      refine mk_leaf (k := k + 5) (s := s + 51 + m_z6_5) (o := o + 40 + m_z6_5) (z := z) (by omega) Gs4 (Qz6_5.le (by omega) (by omega) (by omega) (by omega)) ⟨(by first | assumption | exact inR_of _ | exact ⟨by omega, by omega⟩), (by first | assumption | exact inR_of _ | exact ⟨by omega, by omega⟩)⟩ ⟨by omega, by omega⟩ (by first | assumption | exact ⟨by omega, by omega⟩) (fun s13 Gs13 es13 Rs13 fs13 => ?_)
      obtain ⟨t_z13_s13, v_z13_s13, F_z13_s13⟩ := fs13
      have E14 := E6.trans es13
      have t_z6_5 := t_z6_5.up es13
      have Hz6_5 := Hz6_5.up es13
      refine wg t_z6_5.tg (fun z19_15 hz19_15 => ?_)
      have rz19_15 : inR z19_15 := hz19_15 ▸ Gs13.ir _ _
      have t_z19_15 : oP s13 z19_15 := hz19_15 ▸ (Gs13.hdf t_z6_5.tg).2.2.2
      refine sf_if (fun c16 => ?_) (fun c16 => ?_)
      · have t_z19_15 := t_z19_15.pos (by omega)
        refine wg t_z6_5.tg (fun z21_17 hz21_17 => ?_)
        have rz21_17 : inR z21_17 := hz21_17 ▸ Gs13.ir _ _
        have t_z21_17 : oP s13 z21_17 := hz21_17 ▸ (Gs13.hdf t_z6_5.tg).2.2.2
        obtain ⟨m1, hm1⟩ := pl.succ (hz19_15 ▸ Hz6_5.2) (by omega)
        refine cl_U (s_lengthOf (by omega) Gs13 (hz21_17 ▸ Hz6_5.2) (by omega)) (fun z24_19 rz24_19 fz24_19 => ?_)
        obtain ⟨hms20, hrs20⟩ := mk_row_room Gs13 (n := (z24_19).toNat) (Rs13.le (k' := (k + 4) + 1) (s' := (s + 51) + (z24_19).toNat) (o' := (o + 40)) (z' := z) (by omega) (by omega) (by omega) (by omega))
        refine wna ⟨by omega, by omega⟩ hms20 (fun s20 ws20 => ?_)
        obtain ⟨Gs20, es20, Rs20, t_s20, Fs20, Ns20⟩ := mk_row Gs13 hrs20 ws20 (by decide)
        have rrs20 := hp_R Gs13 hrs20
        have E21 := E14.trans es20
        have t_z6_5 := t_z6_5.up es20
        have t_z13_s13 := t_z13_s13.up es20
        have Hz6_5 := Hz6_5.up es20
        have A0 : oAp b s20 ((c_hp s13 : Nat) : Int) (z24_19).toNat 0 := ⟨t_s20.1, by rw [Int.toNat_natCast]; exact Gs13.hp, t_s20.2.1, ⟨by omega, by omega⟩, fun i hi => by omega⟩
        have h0 : c_tg σ (((c_hp s13 : Nat) : Int)).toNat = 0 := by rw [Int.toNat_natCast]; exact E14.fresh Ns20
        refine wg t_z6_5.tg (fun z27_22 hz27_22 => ?_)
        have rz27_22 : inR z27_22 := hz27_22 ▸ Gs20.ir _ _
        have t_z27_22 : oP s20 z27_22 := hz27_22 ▸ (Gs20.hdf t_z6_5.tg).2.2.2
        exact s_normalize168 hc (by omega) hl (by omega) h0 (by first | assumption | exact ref_R Gs20 Rs20 t_z13_s13.tg (by decide)) (by first | assumption | exact ref_R Gs20 Rs20 t_s20.tg (by decide)) _ Gs20 E21 (Rs20.le (by omega) (by omega) (by omega) (by omega)) t_z13_s13 A0 (hz27_22 ▸ Hz6_5.2) (by first | assumption | exact ref_R Gs20 Rs20 t_z27_22.tg (by decide)) (by omega) (by omega) rfl
      · exact ret_O (by first | assumption | exact ref_R Gs13 Rs13 t_z13_s13.tg (by decide) | exact ⟨by omega, by omega⟩) Gs13 E14 (Rs13.le (by omega) (by omega) (by omega) (by omega)) (by first | trivial | assumption | omega | (dsimp only; omega) | exact ⟨by first | assumption | exact oB.n (by assumption), (Rs13.le (by omega) (by omega) (by omega) (by omega))⟩)
    · rw [hz7_7] at fz10_9
      have t_z7_7 : oB s4 z7_7 := ⟨t_z7_7, by omega, by omega⟩
      have q6 : oHB s4 z6_5 := ⟨t_z6_5, by rw [hz7_7]; exact t_z7_7⟩
      refine sf_t t_z6_5.tg ?_
      refine cl_Z (s_envOfSecond (k := k + 5) (s := s + 57 + m_z6_5) (o := o + 40 + m_z6_5) (z := z) (by omega) Gs4 (Qz6_5.le (by omega) (by omega) (by omega) (by omega)) t_z6_5 q6.2 ⟨by omega, by omega⟩) (fun s23 z30_24 rz30_24 Gs23 es23 Rs23 fz30_24 => ?_)
      obtain ⟨t_z30_24, v_z30_24⟩ := fz30_24
      have E25 := E6.trans es23
      have t_z6_5 := t_z6_5.up es23
      have t_z7_7 := t_z7_7.up es23
      have Hz6_5 := Hz6_5.up es23
      have q6 := q6.up es23
      have w30 : oLw s23 z30_24 := ⟨t_z30_24, by rw [v_z30_24]; omega⟩
      refine wg t_z7_7.tg (fun z31_26 hz31_26 => ?_)
      have rz31_26 : inR z31_26 := hz31_26 ▸ Gs23.ir _ _
      have t_z31_26 : oN s23 z31_26 := hz31_26 ▸ Gs23.n6 t_z7_7.tg t_z7_7.2.1
      refine wg t_z6_5.tg (fun z32_27 hz32_27 => ?_)
      have rz32_27 : inR z32_27 := hz32_27 ▸ Gs23.ir _ _
      have t_z32_27 : oL s23 z32_27 := hz32_27 ▸ (Gs23.hdf t_z6_5.tg).2.2.1
      refine wck ⟨by omega, by omega⟩ (fun z33_28 hz33_28 => ?_)
      refine wtN (Gs23.tg 16) ?_
      refine cl_O (hc (k := k + 4) (s := s + 51 + m_z6_5) (o := o + 40 + m_z6_5) (z := z) (by omega) Gs23 (Rs23.le (by omega) (by omega) (by omega) (by omega)) t_z31_26 (by first | assumption | exact ref_R Gs23 Rs23 t_z31_26.tg (by decide)) t_z32_27 (by first | assumption | exact ref_R Gs23 Rs23 t_z32_27.tg (by decide)) ⟨by omega, by omega⟩ (by omega)) E25 (by omega) (by omega) (by omega) (by omega) (fun s29 z36_30 rz36_30 Gs29 es29 Rs29 fz36_30 => ?_)
      obtain ⟨t_z36_30, Qz36_30⟩ := fz36_30
      have E31 := E25.trans es29
      have t_z7_7 := t_z7_7.up es29
      have t_z30_24 := t_z30_24.up es29
      have Hz6_5 := Hz6_5.up es29
      have q6 := q6.up es29
      have w30 := w30.up es29
      refine wg t_z7_7.tg (fun z37_32 hz37_32 => ?_)
      have rz37_32 : inR z37_32 := hz37_32 ▸ Gs29.ir _ _
      have t_z37_32 : oN s29 z37_32 := hz37_32 ▸ Gs29.n7 t_z7_7.tg t_z7_7.2.1 t_z7_7.2.2
      refine wck ⟨by omega, by omega⟩ (fun z38_33 hz38_33 => ?_)
      refine wck ⟨by omega, by omega⟩ (fun z39_34 hz39_34 => ?_)
      refine wtN (Gs29.tg 16) ?_
      refine cl_O (hc (k := k + 4) (s := s + 51 + m_z6_5) (o := o + 40 + m_z6_5) (z := z) (by omega) Gs29 (Qz36_30.le (by omega) (by omega) (by omega) (by omega)) t_z37_32 (by first | assumption | exact ref_R Gs29 Qz36_30 t_z37_32.tg (by decide)) t_z30_24.l (by first | assumption | exact ref_R Gs29 Qz36_30 t_z30_24.tg (by decide)) ⟨by omega, by omega⟩ (by omega)) E31 (by omega) (by omega) (by omega) (by omega) (fun s35 z42_36 rz42_36 Gs35 es35 Rs35 fz42_36 => ?_)
      obtain ⟨t_z42_36, Qz42_36⟩ := fz42_36
      have E37 := E31.trans es35
      have t_z7_7 := t_z7_7.up es35
      have t_z30_24 := t_z30_24.up es35
      have t_z36_30 := t_z36_30.up es35
      have Hz6_5 := Hz6_5.up es35
      have q6 := q6.up es35
      have w30 := w30.up es35
      refine wg t_z7_7.tg (fun z43_38 hz43_38 => ?_)
      have rz43_38 : inR z43_38 := hz43_38 ▸ Gs35.ir _ _
      have fz43_38 := Gs35.kd t_z7_7.tg
      rw [hz43_38] at fz43_38
      have k43 := t_z7_7.2
      refine wg t_z30_24.tg (fun z44_39 hz44_39 => ?_)
      have rz44_39 : inR z44_39 := hz44_39 ▸ Gs35.ir _ _
      have fz44_39 : oid z44_39 := hz44_39 ▸ (Gs35.lkf t_z30_24.tg).2.2.2.1
      have k44 := w30.2
      refine cl_Z (s_binder (k := k + 4) (s := s + 46 + m_z6_5) (o := o + 40 + m_z6_5) (z := z) (by omega) Gs35 (Qz42_36.le (by omega) (by omega) (by omega) (by omega)) ⟨by omega, by omega⟩ (by first | assumption | exact ⟨by omega, by omega⟩) (by omega) t_z36_30 (by first | assumption | exact ref_R Gs35 Qz42_36 t_z36_30.tg (by decide)) t_z42_36 (by first | assumption | exact ref_R Gs35 Qz42_36 t_z42_36.tg (by decide))) (fun s40 z47_41 rz47_41 Gs40 es40 Rs40 fz47_41 => ?_)
      obtain ⟨t_z47_41, v0_z47_41, v6_z47_41, v7_z47_41, Fn_z47_41⟩ := fz47_41
      have E42 := E37.trans es40
      have t_z7_7 := t_z7_7.up es40
      have Hz6_5 := Hz6_5.up es40
      have q6 := q6.up es40
      have w30 := w30.up es40
      refine wg t_z7_7.tg (fun z48_43 hz48_43 => ?_)
      have rz48_43 : inR z48_43 := hz48_43 ▸ Gs40.ir _ _
      refine wg t_z7_7.tg (fun z49_44 hz49_44 => ?_)
      have rz49_44 : inR z49_44 := hz49_44 ▸ Gs40.ir _ _
      refine sf_t t_z47_41.tg ?_
      refine cl_Z (s_keepSorts (k := k + 4) (s := s + 46 + m_z6_5) (o := o + 40 + m_z6_5) (z := z) (by omega) Gs40 (Rs40.le (by omega) (by omega) (by omega) (by omega)) t_z47_41.n (by first | assumption | exact inR_of _ | exact ⟨by omega, by omega⟩) (by first | assumption | exact inR_of _ | exact ⟨by omega, by omega⟩)) (fun s45 z52_46 rz52_46 Gs45 es45 Rs45 fz52_46 => ?_)
      have E47 := E42.trans es45
      have t_z47_41 := t_z47_41.up es45
      have Hz6_5 := Hz6_5.up es45
      have q6 := q6.up es45
      have w30 := w30.up es45
      exact ret_O (by first | assumption | exact ref_R Gs45 Rs45 t_z47_41.tg (by decide) | exact ⟨by omega, by omega⟩) Gs45 E47 (Rs45.le (by omega) (by omega) (by omega) (by omega)) (by first | trivial | assumption | omega | (dsimp only; omega) | exact ⟨by first | assumption | exact oB.n (by assumption), (Rs45.le (by omega) (by omega) (by omega) (by omega))⟩)
theorem s_normalForm (hd : 113 ≤ d) (G : GG bd b σ) (R : RR bd b σ (k + 1) (s + 6) (o) (z)) {x y : Int} (t_x : oN σ x) (rx : inR x) (t_y : oL σ y) (ry : inR y) : sf (RC bd d 86 σ [((b + 16 : Nat) : Int), x, y]) (PO bd b σ k s o z (fun σ' r => oN σ' r ∧ RR bd b σ' (k + 1) (s + 6) o z)) := by
  obtain ⟨d, rfl⟩ : ∃ d0, d = d0 + 1 := ⟨d - 1, by omega⟩
  rw [rc_X4_normalForm (by omega)]
  refine fin_O ?_
  unfold pc_X4_normalForm_0
  refine wtN (G.tg 16) ?_
  refine cl_O (s_normalize _ (k := k) (s := s) (o := o) (z := z) (by omega) G (R.le (by omega) (by omega) (by omega) (by omega)) t_x (by first | assumption | exact ref_R G R t_x.tg (by decide)) t_y (by first | assumption | exact ref_R G R t_y.tg (by decide)) ⟨by omega, by omega⟩ (by omega)) (Ext.refl (b := b) (σ := σ)) (by omega) (by omega) (by omega) (by omega) (fun s1 z3_2 rz3_2 Gs1 es1 Rs1 fz3_2 => ?_)
  obtain ⟨t_z3_2, Qz3_2⟩ := fz3_2
  have E3 := (Ext.refl (b := b) (σ := σ)).trans es1
  exact ret_O (by first | assumption | exact ref_R Gs1 Qz3_2 t_z3_2.tg (by decide) | exact ⟨by omega, by omega⟩) Gs1 E3 (Qz3_2.le (by omega) (by omega) (by omega) (by omega)) (by first | trivial | assumption | omega | (dsimp only; omega) | exact ⟨by assumption, (Qz3_2.le (by omega) (by omega) (by omega) (by omega))⟩)
end CNO
