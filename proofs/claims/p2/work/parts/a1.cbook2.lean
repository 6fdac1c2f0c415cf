section CB2
variable {bd : cBd} {b d : Nat} {σ σ1 σ2 σ3 : CS} {Q : CS → Nat → Int → Prop} {k s o z : Nat}
/-- the strings -/
theorem wsn (i : Nat) (G : GG bd b σ) {K : Int → CO} (h : ∀ y, y = cs_len i → sf (K y) Q) (hi : i < 3 := by decide) : sf (cc_sn bd ((bd.2.2 i : Nat) : Int) K) Q := by
  obtain ⟨d1, d2, d3⟩ := G.st.2.2.2.2.2.2
  unfold cc_sn
  have hc : i = 0 ∨ i = 1 ∨ i = 2 := by omega
  rcases hc with rfl | rfl | rfl
  · rw [if_pos rfl]; exact h _ rfl
  · rw [if_neg (by omega), if_pos rfl]; exact h _ rfl
  · rw [if_neg (by omega), if_neg (by omega), if_pos rfl]; exact h _ rfl
theorem wsc (i : Nat) (G : GG bd b σ) {x : Int} {K : Int → CO} (hx : 0 ≤ x ∧ x < cs_len i) (h : ∀ y, inR y → sf (K y) Q) (hi : i < 3 := by decide) : sf (cc_sc bd ((bd.2.2 i : Nat) : Int) x K) Q := by
  obtain ⟨d1, d2, d3⟩ := G.st.2.2.2.2.2.2
  unfold cc_sc
  have hc : i = 0 ∨ i = 1 ∨ i = 2 := by omega
  rcases hc with rfl | rfl | rfl
  · rw [if_pos ⟨rfl, hx⟩]; exact h _ (inR_of _)
  · rw [if_neg (by omega), if_pos ⟨rfl, hx⟩]; exact h _ (inR_of _)
  · rw [if_neg (by omega), if_neg (by omega), if_pos ⟨rfl, hx⟩]; exact h _ (inR_of _)
theorem cs_len0 : cs_len 0 = 54 := rfl
theorem cs_len1 : cs_len 1 = 3 := rfl
theorem cs_len2 : cs_len 2 = 2 := rfl
/-- a row of bytes -/
def oBy (σ : CS) (x : Int) (L : Nat) : Prop := (0 ≤ x ∧ c_tg σ x.toNat = 20) ∧ c_ln σ x.toNat = L
theorem oBy.tg {x : Int} {L : Nat} (h : oBy σ x L) : 0 ≤ x ∧ c_tg σ x.toNat = 20 := h.1
theorem oBy.up {σ' : CS} {x : Int} {L : Nat} (h : oBy σ x L) (e : Ext b σ σ') : oBy σ' x L := ⟨⟨h.1.1, e.tg h.1.2 (by decide)⟩, (e.ln h.1.2 (by decide)).trans h.2⟩
theorem oBy.tape (G : GG bd b σ) : oBy σ ((b + 1 : Nat) : Int) 4000 := ⟨⟨by omega, by rw [Int.toNat_natCast]; exact G.tg 1⟩, by rw [Int.toNat_natCast]; exact G.ln 1⟩
theorem oBy.corner (G : GG bd b σ) : oBy σ ((bd.2.2 20 : Nat) : Int) 8 := ⟨⟨by omega, by rw [Int.toNat_natCast]; exact G.st.1.1⟩, by rw [Int.toNat_natCast]; exact G.st.1.2.1⟩
/-- all but marks and the tape stay as a word leaves them -/
def ExtC (b : Nat) (σ σ' : CS) : Prop := c_pv σ' (b + 16) 4 = c_pv σ (b + 16) 4 ∧ c_pv σ' (b + 0) 6 = c_pv σ (b + 0) 6
theorem ExtC.refl : ExtC b σ σ := ⟨rfl, rfl⟩
theorem ExtC.trans {σ' σ'' : CS} (h : ExtC b σ σ') (k : ExtC b σ' σ'') : ExtC b σ σ'' := ⟨k.1.trans h.1, k.2.trans h.2⟩
theorem ExtC.c {σ' : CS} (h : ExtC b σ σ') : ExtC b σ σ' := h
theorem Ext.c {σ' : CS} (h : Ext b σ σ') : ExtC b σ σ' := ⟨h.wM, h.tL⟩
def PC (bd : cBd) (b : Nat) (σ : CS) (k s o z : Nat) (T : CS → Int → Prop) (σ' : CS) (kd : Nat) (r : Int) : Prop := kd = 0 ∧ inR r ∧ GG bd b σ' ∧ ExtC b σ σ' ∧ RR bd b σ' k s o z ∧ T σ' r
theorem fin_C {T : CS → Int → Prop} {p : CO} (h : sf p (PC bd b σ k s o z T)) : sf (cc_fin p) (PC bd b σ k s o z T) := sf_fin (sf_mono h (fun σ' kd r q => ⟨q.2.1, q⟩))
theorem ret_C {T : CS → Int → Prop} {σ0 : CS} {r : Int} (hr : inR r) (G : GG bd b σ) (E : ExtC b σ0 σ) (R : RR bd b σ k s o z) (t : T σ r) : sf (some (σ, 0, r)) (PC bd b σ0 k s o z T) := sf_some ⟨rfl, hr, G, E, R, t⟩
theorem tr_C {T : CS → Int → Prop} {σ0 : CS} {p : CO} (e : ExtC b σ0 σ) (h : sf p (PC bd b σ k s o z T)) : sf p (PC bd b σ0 k s o z T) := sf_mono h (fun σ' kd r q => ⟨q.1, q.2.1, q.2.2.1, e.trans q.2.2.2.1, q.2.2.2.2⟩)
theorem cl_C {o1 : CO} {K : CS → Int → CO} {T : CS → Int → Prop} (h : sf o1 (PC bd b σ k s o z T)) (h0 : ∀ σ' r, inR r → GG bd b σ' → ExtC b σ σ' → RR bd b σ' k s o z → T σ' r → sf (K σ' r) Q) : sf (cc_cl o1 K) Q := sf_cl h (fun σ' r hp => h0 σ' r hp.2.1 hp.2.2.1 hp.2.2.2.1 hp.2.2.2.2.1 hp.2.2.2.2.2) (fun σ' kd r hk hp => absurd hp.1 hk)
/-- counters -/
theorem Pcnt {σ1 : CS} (G : GG bd b σ) (R : RR bd b σ k s o (z + 1)) {i f : Nat} {y : Int} (e : σ1 = cs_p σ (b + i) f y) (hi : (i = 19 ∧ f = 10) ∨ (i = 3 ∧ (f = 3 ∨ f = 4)) ∨ (i = 0 ∧ f = 9)) (hy : y = c_pv σ (b + i) f + 1) : GG bd b σ1 ∧ Ext b σ σ1 ∧ RR bd b σ1 k s o z ∧ (∀ a g, (a ≠ b + i ∨ g ≠ f) → c_pv σ1 a g = c_pv σ a g) := by
  subst e; subst hy
  obtain ⟨a1, a2, a3, a4⟩ := R
  have n1 := G.nu 19 10
  have n2 := G.nu 3 3
  have n3 := G.nu 3 4
  have n4 := G.nu 0 9
  have hfr : ∀ a g, (a ≠ b + i ∨ g ≠ f) → c_pv (cs_p σ (b + i) f (c_pv σ (b + i) f + 1)) a g = c_pv σ a g := fun a g hq => by
    rcases hq with hq | hq
    · exact cs_p_na hq
    · exact cs_p_nf hq
  have hRR : ∀ (u v w q : Int), c_pv (cs_p σ (b + i) f (c_pv σ (b + i) f + 1)) (b + 16) 3 = c_pv σ (b + 16) 3 → c_pv (cs_p σ (b + i) f (c_pv σ (b + i) f + 1)) (b + 16) 7 = c_pv σ (b + 16) 7 → c_pv (cs_p σ (b + i) f (c_pv σ (b + i) f + 1)) (b + 19) 10 = u → c_pv (cs_p σ (b + i) f (c_pv σ (b + i) f + 1)) (b + 3) 3 = v → c_pv (cs_p σ (b + i) f (c_pv σ (b + i) f + 1)) (b + 3) 4 = w → c_pv (cs_p σ (b + i) f (c_pv σ (b + i) f + 1)) (b + 0) 9 = q → u + v + w + q + z ≤ 1000000000 → RR bd b (cs_p σ (b + i) f (c_pv σ (b + i) f + 1)) k s o z := by
    intro u v w q e1 e2 e3 e4 e5 e6 h
    unfold RR
    rw [e1, e2, e3, e4, e5, e6]
    exact ⟨a1, a2, a3, h⟩
  rcases hi with ⟨rfl, rfl⟩ | ⟨rfl, rfl | rfl⟩ | ⟨rfl, rfl⟩
  · exact ⟨gg_put G 19 10 ⟨by omega, by omega⟩ (by decide) (by decide) (fun lo hi q => by cases q; exact ⟨by omega, by omega⟩) (Or.inl ⟨by decide, by decide⟩) (hw_put G (by decide)), ext_p (fz_g G (by decide) (by decide) (by decide) (by decide)), hRR _ _ _ _ (hfr _ _ (by omega)) (hfr _ _ (by omega)) cs_p_eq (hfr _ _ (by omega)) (hfr _ _ (by omega)) (hfr _ _ (by omega)) (by omega), hfr⟩
  · exact ⟨gg_put G 3 3 ⟨by omega, by omega⟩ (by decide) (by decide) (fun lo hi q => by cases q; exact ⟨by omega, by omega⟩) (Or.inl ⟨by decide, by decide⟩) (hw_put G (by decide)), ext_p (fz_g G (by decide) (by decide) (by decide) (by decide)), hRR _ _ _ _ (hfr _ _ (by omega)) (hfr _ _ (by omega)) (hfr _ _ (by omega)) cs_p_eq (hfr _ _ (by omega)) (hfr _ _ (by omega)) (by omega), hfr⟩
  · exact ⟨gg_put G 3 4 ⟨by omega, by omega⟩ (by decide) (by decide) (fun lo hi q => by cases q; exact ⟨by omega, by omega⟩) (Or.inl ⟨by decide, by decide⟩) (hw_put G (by decide)), ext_p (fz_g G (by decide) (by decide) (by decide) (by decide)), hRR _ _ _ _ (hfr _ _ (by omega)) (hfr _ _ (by omega)) (hfr _ _ (by omega)) (hfr _ _ (by omega)) cs_p_eq (hfr _ _ (by omega)) (by omega), hfr⟩
  · exact ⟨gg_put G 0 9 ⟨by omega, by omega⟩ (by decide) (by decide) (fun lo hi q => by cases q; exact ⟨by omega, by omega⟩) (Or.inl ⟨by decide, by decide⟩) (hw_put G (by decide)), ext_p (fz_g G (by decide) (by decide) (by decide) (by decide)), hRR _ _ _ _ (hfr _ _ (by omega)) (hfr _ _ (by omega)) (hfr _ _ (by omega)) (hfr _ _ (by omega)) (hfr _ _ (by omega)) cs_p_eq (by omega), hfr⟩
/-- .. begun anew -/
theorem Pcnt0 {σ1 : CS} (G : GG bd b σ) (R : RR bd b σ k s o z) {i f : Nat} (e : σ1 = cs_p σ (b + i) f 0) (hf : (i = 3 ∧ (f = 3 ∨ f = 4)) ∨ (i = 0 ∧ f = 9)) : GG bd b σ1 ∧ Ext b σ σ1 ∧ RR bd b σ1 k s o z ∧ (∀ a g, (a ≠ b + i ∨ g ≠ f) → c_pv σ1 a g = c_pv σ a g) := by
  subst e
  obtain ⟨a1, a2, a3, a4⟩ := R
  have n2 := G.nu 3 3
  have n3 := G.nu 3 4
  have n4 := G.nu 0 9
  have hfr : ∀ a g, (a ≠ b + i ∨ g ≠ f) → c_pv (cs_p σ (b + i) f 0) a g = c_pv σ a g := fun a g hq => by
    rcases hq with hq | hq
    · exact cs_p_na hq
    · exact cs_p_nf hq
  rcases hf with ⟨rfl, rfl | rfl⟩ | ⟨rfl, rfl⟩
  · refine ⟨gg_put G 3 3 ⟨by decide, by decide⟩ (by decide) (by decide) (fun lo hi q => by cases q; exact ⟨by omega, by omega⟩) (Or.inl ⟨by decide, by decide⟩) (hw_put G (by decide)), ext_p (fz_g G (by decide) (by decide) (by decide) (by decide)), ?_, hfr⟩
    unfold RR
    rw [hfr (b + 16) 3 (by omega), hfr (b + 16) 7 (by omega), hfr (b + 19) 10 (by omega), hfr (b + 3) 4 (by omega), hfr (b + 0) 9 (by omega), cs_p_eq]
    exact ⟨a1, a2, a3, by omega⟩
  · refine ⟨gg_put G 3 4 ⟨by decide, by decide⟩ (by decide) (by decide) (fun lo hi q => by cases q; exact ⟨by omega, by omega⟩) (Or.inl ⟨by decide, by decide⟩) (hw_put G (by decide)), ext_p (fz_g G (by decide) (by decide) (by decide) (by decide)), ?_, hfr⟩
    unfold RR
    rw [hfr (b + 16) 3 (by omega), hfr (b + 16) 7 (by omega), hfr (b + 19) 10 (by omega), hfr (b + 3) 3 (by omega), hfr (b + 0) 9 (by omega), cs_p_eq]
    exact ⟨a1, a2, a3, by omega⟩
  · refine ⟨gg_put G 0 9 ⟨by decide, by decide⟩ (by decide) (by decide) (fun lo hi q => by cases q; exact ⟨by omega, by omega⟩) (Or.inl ⟨by decide, by decide⟩) (hw_put G (by decide)), ext_p (fz_g G (by decide) (by decide) (by decide) (by decide)), ?_, hfr⟩
    unfold RR
    rw [hfr (b + 16) 3 (by omega), hfr (b + 16) 7 (by omega), hfr (b + 19) 10 (by omega), hfr (b + 3) 3 (by omega), hfr (b + 3) 4 (by omega), cs_p_eq]
    exact ⟨a1, a2, a3, by omega⟩
/-- the counts of the work -/
theorem P17 {σ1 : CS} (G : GG bd b σ) (R : RR bd b σ k s o z) {f : Nat} (e : σ1 = cs_p σ (b + 17) f 0) : GG bd b σ1 ∧ Ext b σ σ1 ∧ RR bd b σ1 k s o z := by
  subst e
  have n1 := G.nu 16 3
  have hF : gF.all (fun q => !(q.1 == 17 && q.2.1 == f)) = true := by
    refine List.all_eq_true.mpr (fun q hq => ?_)
    have h1 := List.all_eq_true.mp (by decide : gF.all (fun q => !(q.1 == 17)) = true) q hq
    simp at h1
    simp [h1]
  exact ⟨gg_put G 17 f ⟨by decide, by decide⟩ (by decide) hF (fun lo hi q => by cases q; exact ⟨by omega, by omega⟩) (Or.inr (Or.inl ⟨rfl, by omega⟩)) (hw_put G ⟨by decide, by decide, by decide, Or.inl (by decide)⟩), ext_p (fz_g G (by decide) (Or.inl (by decide)) (Or.inl (by decide)) (Or.inl (by decide))), rr_put R 17 f ⟨Or.inl (by decide), Or.inl (by decide), Or.inl (by decide), Or.inl (by decide)⟩⟩
/-- the marks -/
theorem P310 {σ1 : CS} (G : GG bd b σ) (R : RR bd b σ k s o z) {y : Int} (e : σ1 = cs_p σ (b + 3) 10 y) (hy : 0 ≤ y ∧ y ≤ 20) : GG bd b σ1 ∧ ExtC b σ σ1 ∧ RR bd b σ1 k s o z ∧ (∀ a g, (a ≠ b + 3 ∨ g ≠ 10) → c_pv σ1 a g = c_pv σ a g) ∧ c_pv σ1 (b + 3) 10 = y := by
  subst e
  have hfr : ∀ a g, (a ≠ b + 3 ∨ g ≠ 10) → c_pv (cs_p σ (b + 3) 10 y) a g = c_pv σ a g := fun a g hq => by
    rcases hq with hq | hq
    · exact cs_p_na hq
    · exact cs_p_nf hq
  exact ⟨gg_put G 3 10 ⟨by omega, by omega⟩ (by decide) (by decide) (fun lo hi q => by cases q; exact ⟨by omega, by omega⟩) (Or.inl ⟨by decide, by decide⟩) (hw_put G (by decide)), ⟨hfr _ _ (by omega), hfr _ _ (by omega)⟩, rr_put R 3 10 (by decide), hfr, cs_p_eq⟩
/-- how many names there are -/
theorem P92 {σ1 : CS} (G : GG bd b σ) (R : RR bd b σ k s o z) {y : Int} (e : σ1 = cs_p σ (b + 9) 2 y) (hy : 0 ≤ y ∧ y ≤ 100) (hw : ∃ w : Nat, w ≤ 100 ∧ y ≤ (w : Int) ∧ (∀ i, i < 20 → 0 ≤ c_pv σ (b + 15) i ∧ c_pv σ (b + 15) i ≤ (w : Int)) ∧ ∀ i, i < w → oN σ (c_pv σ (b + 12) i)) : GG bd b σ1 ∧ Ext b σ σ1 ∧ RR bd b σ1 k s o z ∧ (∀ a g, (a ≠ b + 9 ∨ g ≠ 2) → c_pv σ1 a g = c_pv σ a g) ∧ c_pv σ1 (b + 9) 2 = y := by
  subst e
  have hfr : ∀ a g, (a ≠ b + 9 ∨ g ≠ 2) → c_pv (cs_p σ (b + 9) 2 y) a g = c_pv σ a g := fun a g hq => by
    rcases hq with hq | hq
    · exact cs_p_na hq
    · exact cs_p_nf hq
  refine ⟨gg_put G 9 2 ⟨by omega, by omega⟩ (by decide) (by decide) (fun lo hi q => by cases q; exact ⟨by omega, by omega⟩) (Or.inl ⟨by decide, by decide⟩) ?_, ext_p (fz_g G (by decide) (by decide) (by decide) (by decide)), rr_put R 9 2 (by decide), hfr, cs_p_eq⟩
  obtain ⟨w1, w2, _⟩ := G.2.2.2.1
  obtain ⟨w, h1, h2, h3, h4⟩ := hw
  refine ⟨fun j hj => by rw [hfr _ _ (by omega)]; exact w1 j hj, fun j hj => by rw [hfr _ _ (by omega)]; exact w2 j hj, w, h1, by rw [cs_p_eq]; exact h2, fun j hj => by rw [hfr _ _ (by omega)]; exact h3 j hj, fun j hj => by rw [hfr _ _ (by omega)]; exact h4 j hj⟩
/-- types and values of names -/
theorem P12 {σ1 : CS} (G : GG bd b σ) (R : RR bd b σ k s o z) {i : Nat} {y : Int} (e : σ1 = cs_p σ (b + 12) i y) (hy : oN σ y) (ry : inR y) : GG bd b σ1 ∧ Ext b σ σ1 ∧ RR bd b σ1 k s o z ∧ (∀ a g, (a ≠ b + 12 ∨ g ≠ i) → c_pv σ1 a g = c_pv σ a g) ∧ c_pv σ1 (b + 12) i = y := by
  subst e
  have hfr : ∀ a g, (a ≠ b + 12 ∨ g ≠ i) → c_pv (cs_p σ (b + 12) i y) a g = c_pv σ a g := fun a g hq => by
    rcases hq with hq | hq
    · exact cs_p_na hq
    · exact cs_p_nf hq
  have hF : gF.all (fun q => !(q.1 == 12 && q.2.1 == i)) = true := by
    refine List.all_eq_true.mpr (fun q hq => ?_)
    have h1 := List.all_eq_true.mp (by decide : gF.all (fun q => !(q.1 == 12)) = true) q hq
    simp at h1
    simp [h1]
  refine ⟨gg_put G 12 i ry (by decide) hF (fun lo hi q => by cases q) (Or.inl ⟨by decide, Or.inl (by decide)⟩) ?_, ext_p (fz_g G (by decide) (Or.inl (by decide)) (Or.inl (by decide)) (Or.inl (by decide))), rr_put R 12 i ⟨Or.inl (by decide), Or.inl (by decide), Or.inl (by decide), Or.inl (by decide)⟩, hfr, cs_p_eq⟩
  obtain ⟨w1, w2, w, h1, h2, h3, h4⟩ := G.2.2.2.1
  have hput : ∀ j, (j = i → False) → c_pv (cs_p σ (b + 12) i y) (b + 12) j = c_pv σ (b + 12) j := fun j hj => hfr _ _ (Or.inr hj)
  refine ⟨fun j hj => ?_, fun j hj => by rw [hfr _ _ (Or.inl (by omega))]; exact w2 j hj, w, h1, by rw [hfr _ _ (Or.inl (by omega))]; exact h2, fun j hj => by rw [hfr _ _ (Or.inl (by omega))]; exact h3 j hj, fun j hj => ?_⟩
  · by_cases c : j = i
    · subst c; rw [cs_p_eq]; exact hy.nn
    · rw [hput j c]; exact w1 j hj
  · by_cases c : j = i
    · subst c; rw [cs_p_eq]; exact hy
    · rw [hput j c]; exact h4 j hj
theorem P13 {σ1 : CS} (G : GG bd b σ) (R : RR bd b σ k s o z) {i : Nat} {y : Int} (e : σ1 = cs_p σ (b + 13) i y) (hy : oNN σ y) (ry : inR y) : GG bd b σ1 ∧ Ext b σ σ1 ∧ RR bd b σ1 k s o z ∧ (∀ a g, (a ≠ b + 13 ∨ g ≠ i) → c_pv σ1 a g = c_pv σ a g) := by
  subst e
  have hfr : ∀ a g, (a ≠ b + 13 ∨ g ≠ i) → c_pv (cs_p σ (b + 13) i y) a g = c_pv σ a g := fun a g hq => by
    rcases hq with hq | hq
    · exact cs_p_na hq
    · exact cs_p_nf hq
  have hF : gF.all (fun q => !(q.1 == 13 && q.2.1 == i)) = true := by
    refine List.all_eq_true.mpr (fun q hq => ?_)
    have h1 := List.all_eq_true.mp (by decide : gF.all (fun q => !(q.1 == 13)) = true) q hq
    simp at h1
    simp [h1]
  refine ⟨gg_put G 13 i ry (by decide) hF (fun lo hi q => by cases q) (Or.inl ⟨by decide, Or.inl (by decide)⟩) ?_, ext_p (fz_g G (by decide) (Or.inl (by decide)) (Or.inl (by decide)) (Or.inl (by decide))), rr_put R 13 i ⟨Or.inl (by decide), Or.inl (by decide), Or.inl (by decide), Or.inl (by decide)⟩, hfr⟩
  obtain ⟨w1, w2, w, h1, h2, h3, h4⟩ := G.2.2.2.1
  refine ⟨fun j hj => by rw [hfr _ _ (Or.inl (by omega))]; exact w1 j hj, fun j hj => ?_, w, h1, by rw [hfr _ _ (Or.inl (by omega))]; exact h2, fun j hj => by rw [hfr _ _ (Or.inl (by omega))]; exact h3 j hj, fun j hj => by rw [hfr _ _ (Or.inl (by omega))]; exact h4 j hj⟩
  by_cases c : j = i
  · subst c; rw [cs_p_eq]; exact hy
  · rw [hfr _ _ (Or.inr c)]; exact w2 j hj
/-- one name more -/
theorem hw_more (G : GG bd b σ) (v : Int) (hv : 0 ≤ v) (hv2 : v < 100) (ho : oN σ (c_pv σ (b + 12) v.toNat)) {y : Int} (hs : c_pv σ (b + 9) 2 = v) (hy : y = v + 1) : ∃ w : Nat, w ≤ 100 ∧ y ≤ (w : Int) ∧ (∀ i, i < 20 → 0 ≤ c_pv σ (b + 15) i ∧ c_pv σ (b + 15) i ≤ (w : Int)) ∧ ∀ i, i < w → oN σ (c_pv σ (b + 12) i) := by
  obtain ⟨w1, w2, w, h1, h2, h3, h4⟩ := G.2.2.2.1
  by_cases c : y ≤ (w : Int)
  · exact ⟨w, h1, c, h3, h4⟩
  · refine ⟨w + 1, by omega, by omega, fun i hi => ⟨(h3 i hi).1, by have := (h3 i hi).2; omega⟩, fun i hi => ?_⟩
    by_cases c2 : i = w
    · have : v.toNat = i := by omega
      rw [← this]; exact ho
    · exact h4 i (by omega)
end CB2
