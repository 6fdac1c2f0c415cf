section CIB
variable {bd : cBd} {b : Nat} {σ σ' σ1 : CS}
theorem GG.tg (h : GG bd b σ) (i : Nat) {t : Nat} (hi : i < 24 := by decide) (ht : gT.getD i 0 = t := by rfl) : c_tg σ (b + i) = t := ((h.1 i hi).1).trans ht
theorem GG.ln (h : GG bd b σ) (i : Nat) {n : Nat} (hi : i < 24 := by decide) (hn : gL.getD i 0 = n := by rfl) : c_ln σ (b + i) = n := ((h.1 i hi).2).trans hn
theorem GG.fi (h : GG bd b σ) (k : Nat) {i f j : Nat} (hk : gF[k]? = some (i, f, j) := by rfl) : c_pv σ (b + i) f = ((b + j : Nat) : Int) := h.2.1 _ (List.mem_of_getElem? hk)
theorem GG.nu (h : GG bd b σ) (i f : Nat) {lo hi : Int} (h24 : i < 24 := by decide) (hr : gr i f = some (lo, hi) := by rfl) : lo ≤ c_pv σ (b + i) f ∧ c_pv σ (b + i) f ≤ hi := h.2.2.1.1 i f lo hi h24 hr
theorem GG.dn (h : GG bd b σ) (i : Nat) : c_pv σ (b + 17) i ≤ c_pv σ (b + 16) 3 := h.2.2.1.2 i
theorem GG.oi (h : GG bd b σ) (a : Nat) : OI b σ a := h.2.2.2.2.1 a
theorem GG.ir (h : GG bd b σ) (a f : Nat) : inR (c_pv σ a f) := h.2.2.2.2.2.1 a f
theorem GG.st (h : GG bd b σ) : g_sta bd b σ := h.2.2.2.2.2.2
theorem GG.lt (h : GG bd b σ) {a : Nat} (ha : c_tg σ a ≠ 0) : a < c_hp σ := h.st.2.2.2.1 a ha
theorem GG.hp (h : GG bd b σ) : b + 24 ≤ c_hp σ := h.st.2.2.2.2.1
theorem GG.bnd (h : GG bd b σ) : bd.1 < 1000000 := h.st.2.2.2.2.2.1
theorem GG.hdf (h : GG bd b σ) {x : Int} (hx : 0 ≤ x ∧ c_tg σ x.toNat = 2) : oH σ (c_pv σ x.toNat) := (h.oi _).1 hx.2
theorem GG.lkf (h : GG bd b σ) {x : Int} (hx : 0 ≤ x ∧ c_tg σ x.toNat = 4) : oLk x.toNat σ (c_pv σ x.toNat) := (h.oi _).2.1 hx.2
theorem GG.ndf (h : GG bd b σ) {x : Int} (hx : 0 ≤ x ∧ c_tg σ x.toNat = 7) : oNd b σ (c_pv σ x.toNat) := (h.oi _).2.2.1 hx.2
theorem GG.scf (h : GG bd b σ) {x : Int} (hx : 0 ≤ x ∧ c_tg σ x.toNat = 9) : oSc x.toNat σ (c_pv σ x.toNat) := (h.oi _).2.2.2.1 hx.2
theorem GG.stf (h : GG bd b σ) {x : Int} (hx : 0 ≤ x ∧ c_tg σ x.toNat = 10) : oSt σ (c_pv σ x.toNat) := (h.oi _).2.2.2.2 hx.2
theorem GG.kd (h : GG bd b σ) {x : Int} (hx : 0 ≤ x ∧ c_tg σ x.toNat = 7) : 0 ≤ c_pv σ x.toNat 0 ∧ c_pv σ x.toNat 0 ≤ 7 := (h.ndf hx).1
theorem GG.ni (h : GG bd b σ) {x : Int} (hx : 0 ≤ x ∧ c_tg σ x.toNat = 7) : oid (c_pv σ x.toNat 1) := (h.ndf hx).2.1
theorem GG.n4 (h : GG bd b σ) {x : Int} (hx : 0 ≤ x ∧ c_tg σ x.toNat = 7) : 0 ≤ c_pv σ x.toNat 4 ∧ c_pv σ x.toNat 4 ≤ 5000 := (h.ndf hx).2.2.1
theorem GG.n5 (h : GG bd b σ) {x : Int} (hx : 0 ≤ x ∧ c_tg σ x.toNat = 7) : 0 ≤ c_pv σ x.toNat 5 ∧ c_pv σ x.toNat 5 ≤ 5000 := (h.ndf hx).2.2.2.1
theorem GG.n6 (h : GG bd b σ) {x : Int} (hx : 0 ≤ x ∧ c_tg σ x.toNat = 7) (hk : 4 ≤ c_pv σ x.toNat 0) : oN σ (c_pv σ x.toNat 6) := (h.ndf hx).2.2.2.2.2.1 hk
theorem GG.n6z (h : GG bd b σ) {x : Int} (hx : 0 ≤ x ∧ c_tg σ x.toNat = 7) (hk : 0 ≤ c_pv σ x.toNat 6) : 4 ≤ c_pv σ x.toNat 0 := by
  have q := (h.ndf hx).2.2.2.2.1
  have : ¬ c_pv σ x.toNat 0 ≤ 3 := fun e => by have := q e; omega
  omega
theorem GG.n6n (h : GG bd b σ) {x : Int} (hx : 0 ≤ x ∧ c_tg σ x.toNat = 7) : oNN σ (c_pv σ x.toNat 6) := by
  by_cases c : c_pv σ x.toNat 6 < 0
  · exact Or.inl c
  · exact Or.inr (h.n6 hx (h.n6z hx (by omega)))
theorem GG.n7 (h : GG bd b σ) {x : Int} (hx : 0 ≤ x ∧ c_tg σ x.toNat = 7) (hk : 4 ≤ c_pv σ x.toNat 0) (hk2 : c_pv σ x.toNat 0 ≤ 6) : oN σ (c_pv σ x.toNat 7) := ((h.ndf hx).2.2.2.2.2.2.1 hk hk2).1
theorem GG.n1 (h : GG bd b σ) {x : Int} (hx : 0 ≤ x ∧ c_tg σ x.toNat = 7) (hk : 4 ≤ c_pv σ x.toNat 0) (hk2 : c_pv σ x.toNat 0 ≤ 6) : c_pv σ x.toNat 1 ≠ 0 := ((h.ndf hx).2.2.2.2.2.2.1 hk hk2).2
theorem GG.n8 (h : GG bd b σ) {x : Int} (hx : 0 ≤ x ∧ c_tg σ x.toNat = 7) (hk : c_pv σ x.toNat 0 = 7) : oA b σ (c_pv σ x.toNat 8) := (h.ndf hx).2.2.2.2.2.2.2 hk
theorem GG.ne (h : GG bd b σ) {a : Nat} (i : Nat) (hi : i < 24) (ha : c_tg σ a ≠ gT.getD i 0) : b + i ≠ a := fun e => ha (by rw [← e]; exact (h.1 i hi).1)
theorem cs_p_ir {a f : Nat} {y : Int} (h : ∀ a f, inR (c_pv σ a f)) (hy : inR y) : ∀ q g, inR (c_pv (cs_p σ a f y) q g) := by
  intro q g
  show inR (if q = a then (if g = f then y else c_pv σ q g) else c_pv σ q g)
  split
  · split
    · exact hy
    · exact h q g
  · exact h q g
theorem gt_ne : ∀ i, i < 24 → gT.getD i 0 ≠ 0 ∧ gT.getD i 0 ≠ 2 ∧ gT.getD i 0 ≠ 4 ∧ gT.getD i 0 ≠ 7 ∧ gT.getD i 0 ≠ 9 ∧ gT.getD i 0 ≠ 10 ∧ gT.getD i 0 ≠ 13 ∧ gT.getD i 0 ≠ 23 := by decide
theorem cs_p_pv {a f : Nat} {y : Int} (q g : Nat) : c_pv (cs_p σ a f y) q g = if q = a then (if g = f then y else c_pv σ q g) else c_pv σ q g := rfl
theorem cs_p_eq {a f : Nat} {y : Int} : c_pv (cs_p σ a f y) a f = y := by rw [cs_p_pv, if_pos rfl, if_pos rfl]
theorem cs_p_na {a f q g : Nat} {y : Int} (h : q ≠ a) : c_pv (cs_p σ a f y) q g = c_pv σ q g := by rw [cs_p_pv, if_neg h]
theorem cs_p_nf {a f q g : Nat} {y : Int} (h : g ≠ f) : c_pv (cs_p σ a f y) q g = c_pv σ q g := by
  rw [cs_p_pv]
  by_cases hq : q = a
  · rw [if_pos hq, if_neg h]
  · rw [if_neg hq]
theorem ext0_p {a f : Nat} {y : Int} (hz : ¬ fz0 b σ a f) : Ext0 b σ (cs_p σ a f y) := by
  refine ⟨Nat.le_refl _, fun _ _ => ⟨rfl, rfl⟩, fun q g hg => ?_⟩
  rw [cs_p_pv]
  split
  · next e =>
    split
    · next e2 => subst e; subst e2; exact absurd hg hz
    · rfl
  · rfl
theorem ext_p {a f : Nat} {y : Int} (hz : ¬ fz b σ a f) : Ext b σ (cs_p σ a f y) := by
  refine ⟨Nat.le_refl _, fun _ _ => ⟨rfl, rfl⟩, fun q g hg => ?_⟩
  rw [cs_p_pv]
  split
  · next e =>
    split
    · next e2 => subst e; subst e2; exact absurd hg hz
    · rfl
  · rfl
theorem g_sta.p {a f : Nat} {y : Int} (h : g_sta bd b σ) (ha : bd.2.2 20 ≠ a) : g_sta bd b (cs_p σ a f y) :=
  ⟨⟨h.1.1, h.1.2.1, h.1.2.2.1, fun i hi => (cs_p_na ha).trans (h.1.2.2.2 i hi)⟩, h.2⟩
/-- a number is put into a single object or row -/
theorem gg_put (h : GG bd b σ) (i f : Nat) {y : Int} (hy : inR y) (hi : i < 24) (hF : gF.all (fun q => !(q.1 == i && q.2.1 == f)) = true) (hr : ∀ lo hi, gr i f = some (lo, hi) → lo ≤ y ∧ y ≤ hi) (hd : (i ≠ 17 ∧ (i ≠ 16 ∨ f ≠ 3)) ∨ (i = 17 ∧ y ≤ c_pv σ (b + 16) 3) ∨ (i = 16 ∧ f = 3 ∧ c_pv σ (b + 16) 3 ≤ y)) (hw : g_hw b (cs_p σ (b + i) f y)) : GG bd b (cs_p σ (b + i) f y) := by
  have htg := (h.1 i hi).1
  obtain ⟨n0, n2, n4, n7, n9, n10, n13, n23⟩ := gt_ne i hi
  refine ⟨h.1, fun q hq => ?_, ⟨fun i' f' lo hi' hi2 hr2 => ?_, fun j => ?_⟩, hw, fun a => ?_, cs_p_ir h.ir hy, h.st.p (by have := h.st.1.2.2.1; omega)⟩
  · have h1 := List.all_eq_true.mp hF q hq
    rw [cs_p_pv]
    split
    · next e =>
      rw [if_neg (fun e2 => by
        have e3 : q.1 = i := by omega
        simp [e3, e2] at h1)]
      exact h.2.1 q hq
    · exact h.2.1 q hq
  · rw [cs_p_pv]
    split
    · next e =>
      have e3 : i' = i := by omega
      split
      · next e2 => subst e3; subst e2; exact hr lo hi' hr2
      · exact h.2.2.1.1 i' f' lo hi' hi2 hr2
    · exact h.2.2.1.1 i' f' lo hi' hi2 hr2
  · have hdn := h.2.2.1.2 j
    rcases hd with ⟨h1, h2⟩ | ⟨h1, h2⟩ | ⟨h1, h2, h3⟩
    · rw [cs_p_na (q := b + 17) (by omega)]
      rcases h2 with h2 | h2
      · rw [cs_p_na (q := b + 16) (by omega)]; exact hdn
      · rw [cs_p_nf (q := b + 16) (g := 3) (fun q => h2 q.symm)]; exact hdn
    · subst h1
      rw [cs_p_na (q := b + 16) (by omega), cs_p_pv, if_pos rfl]
      split
      · exact h2
      · exact hdn
    · subst h1; subst h2
      rw [cs_p_na (q := b + 17) (by omega), cs_p_eq]
      omega
  · by_cases e : a = b + i
    · subst e
      have ht : c_tg (cs_p σ (b + i) f y) (b + i) = gT.getD i 0 := htg
      unfold OI
      rw [ht]
      exact ⟨fun q => absurd q n2, fun q => absurd q n4, fun q => absurd q n7, fun q => absurd q n9, fun q => absurd q n10⟩
    · have o := h.oi a
      have e2 : c_pv (cs_p σ (b + i) f y) a = c_pv σ a := funext fun g => cs_p_na e
      unfold OI
      rw [e2]
      show (c_tg σ a = 2 → _) ∧ (c_tg σ a = 4 → _) ∧ (c_tg σ a = 7 → _) ∧ (c_tg σ a = 9 → _) ∧ (c_tg σ a = 10 → _)
      -- tags stay; what is asked of Links and rows stays too
      have tN : ∀ x, oN σ x → oN (cs_p σ (b + i) f y) x := fun x q => q
      have tNN : ∀ x, oNN σ x → oNN (cs_p σ (b + i) f y) x := fun x q => q
      have tL : ∀ x, oL σ x → oL (cs_p σ (b + i) f y) x := fun x q => q
      have tS : ∀ x, oS σ x → oS (cs_p σ (b + i) f y) x := fun x q => q
      have tP : ∀ x, oP σ x → oP (cs_p σ (b + i) f y) x := by
        intro x q
        rcases q with q | ⟨q1, q2, q3⟩
        · exact Or.inl q
        · refine Or.inr ⟨q1, q2, ?_⟩
          rw [cs_p_na (fun e3 => by rw [e3, htg] at q2; exact n4 q2)]
          exact q3
      have tA : ∀ x, oA b σ x → oA b (cs_p σ (b + i) f y) x := by
        intro x q
        obtain ⟨q1, q3, q4, q5, q6⟩ := q
        refine ⟨q1, q3, q4, q5, fun j hj => ?_⟩
        rw [cs_p_na (fun e3 => by omega)]
        exact q6 j hj
      refine ⟨fun q => ?_, fun q => ?_, fun q => ?_, fun q => ?_, fun q => ?_⟩
      · obtain ⟨a1, a2, a3, a4⟩ := o.1 q
        exact ⟨a1, a2, a3, tP _ a4⟩
      · obtain ⟨a1, a2, a3, a4, a5, a6, a7⟩ := o.2.1 q
        exact ⟨a1, a2, a3, a4, a5, a6, fun c => ⟨(a7 c).1, tP _ (a7 c).2⟩⟩
      · obtain ⟨a1, a2, a3, a4, a5, a6, a7, a8⟩ := o.2.2.1 q
        exact ⟨a1, a2, a3, a4, a5, a6, a7, fun c => tA _ (a8 c)⟩
      · exact o.2.2.2.1 q
      · exact o.2.2.2.2 q
theorem hw_same (h : g_hw b σ) (e12 : ∀ j, c_pv σ1 (b + 12) j = c_pv σ (b + 12) j) (e13 : ∀ j, c_pv σ1 (b + 13) j = c_pv σ (b + 13) j) (e15 : ∀ j, c_pv σ1 (b + 15) j = c_pv σ (b + 15) j) (e9 : c_pv σ1 (b + 9) 2 = c_pv σ (b + 9) 2) (hn : ∀ x, oN σ x → oN σ1 x) : g_hw b σ1 := by
  obtain ⟨w1, w2, hw', w3, w4, w5, w6⟩ := h
  have hnn : ∀ x, oNN σ x → oNN σ1 x := fun x q => Or.imp_right (hn x) q
  exact ⟨fun j hj => by rw [e12]; exact hnn _ (w1 j hj), fun j hj => by rw [e13]; exact hnn _ (w2 j hj), hw', w3, by rw [e9]; exact w4, fun j hj => by rw [e15]; exact w5 j hj, fun j hj => by rw [e12]; exact hn _ (w6 j hj)⟩
theorem hw_put (h : GG bd b σ) {i f : Nat} {y : Int} (hw : i ≠ 12 ∧ i ≠ 13 ∧ i ≠ 15 ∧ (i ≠ 9 ∨ f ≠ 2)) : g_hw b (cs_p σ (b + i) f y) := by
  refine hw_same h.2.2.2.1 (fun j => cs_p_na (by omega)) (fun j => cs_p_na (by omega)) (fun j => cs_p_na (by omega)) ?_ (fun x q => q)
  rcases hw.2.2.2 with q | q
  · exact cs_p_na (by omega)
  · exact cs_p_nf (fun e => q e.symm)
/-- something goes into an object of its own -/
theorem gg_far0 (h : GG bd b σ) {a f : Nat} {y : Int} (h20 : c_tg σ a ≠ 20) (ha : ∀ i, i < 24 → b + i ≠ a) (hz : ¬ fz0 b σ a f) (hy : inR y) (ho : OI b (cs_p σ a f y) a) : GG bd b (cs_p σ a f y) ∧ Ext0 b σ (cs_p σ a f y) := by
  have hE : Ext0 b σ (cs_p σ a f y) := ext0_p hz
  refine ⟨⟨h.1, fun q hq => ?_, ⟨fun i' f' lo hi' hi2 hr2 => ?_, fun j => ?_⟩, ?_, fun q => ?_, cs_p_ir h.ir hy, h.st.p (fun e => h20 (e ▸ h.st.1.1))⟩, hE⟩
  · have hq2 : q.1 < 24 := (by decide : ∀ q ∈ gF, q.1 < 24) q hq
    rw [cs_p_na (ha _ hq2)]; exact h.2.1 q hq
  · rw [cs_p_na (ha _ hi2)]; exact h.2.2.1.1 i' f' lo hi' hi2 hr2
  · rw [cs_p_na (ha 17 (by decide)), cs_p_na (ha 16 (by decide))]; exact h.2.2.1.2 j
  · exact hw_same h.2.2.2.1 (fun j => cs_p_na (ha 12 (by decide))) (fun j => cs_p_na (ha 13 (by decide))) (fun j => cs_p_na (ha 15 (by decide))) (cs_p_na (ha 9 (by decide))) (fun x q => q)
  · by_cases e : q = a
    · subst e; exact ho
    · exact (h.oi q).up hE rfl (fun g => cs_p_na e)
theorem gg_far (h : GG bd b σ) {a f : Nat} {y : Int} (h20 : c_tg σ a ≠ 20) (ha : ∀ i, i < 24 → b + i ≠ a) (hz : ¬ fz b σ a f) (hy : inR y) (ho : OI b (cs_p σ a f y) a) : GG bd b (cs_p σ a f y) ∧ Ext b σ (cs_p σ a f y) := ⟨(gg_far0 h h20 ha (fun q => hz (Or.inl q)) hy ho).1, ext_p hz⟩
/-- a Node's fields that are put later than its making -/
theorem gg_node (h : GG bd b σ) {x : Int} (hx : oN σ x) (f : Nat) {y : Int} (hy : inR y) (hf : f = 2 ∨ f = 3 ∨ f = 9 ∨ f = 10 ∨ (f = 4 ∧ 0 ≤ y ∧ y ≤ 5000) ∨ (f = 5 ∧ 0 ≤ y ∧ y ≤ 5000) ∨ (c_pv σ x.toNat 6 < 0 ∧ ((f = 0 ∧ 0 ≤ y ∧ y ≤ 3) ∨ (f = 1 ∧ oid y)))) : GG bd b (cs_p σ x.toNat f y) ∧ Ext b σ (cs_p σ x.toNat f y) := by
  have hq := h.ndf hx
  have hk3 : c_pv σ x.toNat 6 < 0 → c_pv σ x.toNat 0 ≤ 3 := by
    intro c
    have : ¬ 4 ≤ c_pv σ x.toNat 0 := fun e => by have := (hq.2.2.2.2.2.1 e).1; omega
    omega
  have hz : ¬ fz b σ x.toNat f := by
    have h16 := h.ne 16 (by decide) (a := x.toNat) (by rw [hx.2]; decide)
    have h3 := h.ne 3 (by decide) (a := x.toNat) (by rw [hx.2]; decide)
    have h0 := h.ne 0 (by decide) (a := x.toNat) (by rw [hx.2]; decide)
    unfold fz fz0
    rw [hx.2]
    omega
  refine gg_far h (by rw [hx.2]; decide) (fun i hi => h.ne i hi (by rw [hx.2]; exact fun e => (gt_ne i hi).2.2.2.1 e.symm)) hz hy ?_
  have hE : Ext b σ (cs_p σ x.toNat f y) := ext_p hz
  have ht : c_tg (cs_p σ x.toNat f y) x.toNat = 7 := hx.2
  refine ⟨fun q => by omega, fun q => by omega, fun _ => ?_, fun q => by omega, fun q => by omega⟩
  obtain ⟨k1, k2, k3, k4, k5, k6, k7, k8⟩ := hq.up hE
  have e6 : c_pv (cs_p σ x.toNat f y) x.toNat 6 = c_pv σ x.toNat 6 := cs_p_nf (by omega)
  have e7 : c_pv (cs_p σ x.toNat f y) x.toNat 7 = c_pv σ x.toNat 7 := cs_p_nf (by omega)
  have e8 : c_pv (cs_p σ x.toNat f y) x.toNat 8 = c_pv σ x.toNat 8 := cs_p_nf (by omega)
  by_cases c0 : f = 0
  · subst c0
    have c6 : c_pv σ x.toNat 6 < 0 ∧ 0 ≤ y ∧ y ≤ 3 := by omega
    have e0 : c_pv (cs_p σ x.toNat 0 y) x.toNat 0 = y := cs_p_eq
    have e1 : c_pv (cs_p σ x.toNat 0 y) x.toNat 1 = c_pv σ x.toNat 1 := cs_p_nf (by omega)
    have e4 : c_pv (cs_p σ x.toNat 0 y) x.toNat 4 = c_pv σ x.toNat 4 := cs_p_nf (by omega)
    have e5 : c_pv (cs_p σ x.toNat 0 y) x.toNat 5 = c_pv σ x.toNat 5 := cs_p_nf (by omega)
    unfold oNd
    rw [e0, e1, e4, e5, e6, e7, e8]
    exact ⟨⟨c6.2.1, by omega⟩, k2, k3, k4, fun _ => c6.1, fun q => by omega, fun q => by omega, fun q => by omega⟩
  · have e0 : c_pv (cs_p σ x.toNat f y) x.toNat 0 = c_pv σ x.toNat 0 := cs_p_nf (by omega)
    unfold oNd
    rw [e0, e6, e7, e8]
    by_cases c1 : f = 1
    · subst c1
      have c6 : c_pv σ x.toNat 6 < 0 ∧ oid y := by
        rcases hf with q | q | q | q | q | q | q
        · omega
        · omega
        · omega
        · omega
        · omega
        · omega
        · exact ⟨q.1, by rcases q.2 with q | q; · omega
                         exact q.2⟩
      have e1 : c_pv (cs_p σ x.toNat 1 y) x.toNat 1 = y := cs_p_eq
      have e4 : c_pv (cs_p σ x.toNat 1 y) x.toNat 4 = c_pv σ x.toNat 4 := cs_p_nf (by omega)
      have e5 : c_pv (cs_p σ x.toNat 1 y) x.toNat 5 = c_pv σ x.toNat 5 := cs_p_nf (by omega)
      rw [e1, e4, e5]
      have := hk3 c6.1
      exact ⟨k1, c6.2, k3, k4, k5, fun q => by omega, fun q => by omega, fun q => by omega⟩
    · have e1 : c_pv (cs_p σ x.toNat f y) x.toNat 1 = c_pv σ x.toNat 1 := cs_p_nf (by omega)
      rw [e1]
      refine ⟨k1, k2, ?_, ?_, k5, k6, k7, k8⟩
      · by_cases c : f = 4
        · subst c; rw [cs_p_eq]; omega
        · rw [cs_p_nf (by omega)]; exact k3
      · by_cases c : f = 5
        · subst c; rw [cs_p_eq]; omega
        · rw [cs_p_nf (by omega)]; exact k4
end CIB
