section CIB
variable {bd : cBd} {b : Nat} {σ σ' : CS}
theorem GG.tg (h : GG bd b σ) (i : Nat) {t : Nat} (hi : i < 24 := by decide) (ht : gT.getD i 0 = t := by rfl) : c_tg σ (b + i) = t := ((h.1 i hi).1).trans ht
theorem GG.ln (h : GG bd b σ) (i : Nat) {n : Nat} (hi : i < 24 := by decide) (hn : gL.getD i 0 = n := by rfl) : c_ln σ (b + i) = n := ((h.1 i hi).2).trans hn
theorem GG.fi (h : GG bd b σ) (k : Nat) {i f j : Nat} (hk : gF[k]? = some (i, f, j) := by rfl) : c_pv σ (b + i) f = ((b + j : Nat) : Int) := h.2.1 _ (List.mem_of_getElem? hk)
theorem GG.nu (h : GG bd b σ) (i f : Nat) {lo hi : Int} (h24 : i < 24 := by decide) (hr : gr i f = some (lo, hi) := by rfl) : lo ≤ c_pv σ (b + i) f ∧ c_pv σ (b + i) f ≤ hi := h.2.2.1.1 i f lo hi h24 hr
theorem GG.oi (h : GG bd b σ) (a : Nat) : OI b σ a := h.2.2.2.2.1 a
theorem GG.ir (h : GG bd b σ) (a f : Nat) : inR (c_pv σ a f) := h.2.2.2.2.2.1 a f
theorem GG.st (h : GG bd b σ) : g_sta bd b σ := h.2.2.2.2.2.2
theorem GG.lt (h : GG bd b σ) {a : Nat} (ha : c_tg σ a ≠ 0) : a < c_hp σ := h.st.2.2.2.1 a ha
theorem GG.hp (h : GG bd b σ) : b + 24 ≤ c_hp σ := h.st.2.2.2.2.1
theorem cs_p_ir {a f : Nat} {y : Int} (h : ∀ a f, inR (c_pv σ a f)) (hy : inR y) : ∀ q g, inR (c_pv (cs_p σ a f y) q g) := by
  intro q g
  show inR (if q = a then (if g = f then y else c_pv σ q g) else c_pv σ q g)
  split
  · split
    · exact hy
    · exact h q g
  · exact h q g
theorem gt_ne : ∀ i, i < 24 → gT.getD i 0 ≠ 0 ∧ gT.getD i 0 ≠ 2 ∧ gT.getD i 0 ≠ 4 ∧ gT.getD i 0 ≠ 7 ∧ gT.getD i 0 ≠ 9 ∧ gT.getD i 0 ≠ 10 := by decide
theorem cs_p_pv {a f : Nat} {y : Int} (q g : Nat) : c_pv (cs_p σ a f y) q g = if q = a then (if g = f then y else c_pv σ q g) else c_pv σ q g := rfl
theorem cs_p_eq {a f : Nat} {y : Int} : c_pv (cs_p σ a f y) a f = y := by rw [cs_p_pv, if_pos rfl, if_pos rfl]
theorem cs_p_na {a f q g : Nat} {y : Int} (h : q ≠ a) : c_pv (cs_p σ a f y) q g = c_pv σ q g := by rw [cs_p_pv, if_neg h]
theorem cs_p_nf {a f q g : Nat} {y : Int} (h : g ≠ f) : c_pv (cs_p σ a f y) q g = c_pv σ q g := by
  rw [cs_p_pv]
  by_cases hq : q = a
  · rw [if_pos hq, if_neg h]
  · rw [if_neg hq]
theorem ext_p {a f : Nat} {y : Int} (h7 : c_tg σ a = 7 → f ≠ 6 ∧ f ≠ 7 ∧ f ≠ 8) (h22 : c_tg σ a = 22 → a < b + 24) (h4 : c_tg σ a ≠ 4) : Ext b σ (cs_p σ a f y) := by
  refine ⟨Nat.le_refl _, fun _ _ => ⟨rfl, rfl⟩, fun q hq g hg => ?_, fun q hq hb i => ?_, fun q hq g => ?_⟩
  · by_cases h : q = a
    · subst h
      exact cs_p_nf (by have := h7 hq; omega)
    · exact cs_p_na h
  · exact cs_p_na (fun h => by subst h; have := h22 hq; omega)
  · exact cs_p_na (fun h => by subst h; exact h4 hq)
/-- a number is put into a single object or row -/
theorem gg_put (h : GG bd b σ) (i f : Nat) {y : Int} (hy : inR y) (hi : i < 24) (hF : gF.all (fun q => !(q.1 == i && q.2.1 == f)) = true) (hr : ∀ lo hi, gr i f = some (lo, hi) → lo ≤ y ∧ y ≤ hi) (hd : (i ≠ 17 ∧ (i ≠ 16 ∨ f ≠ 3)) ∨ (i = 17 ∧ y ≤ c_pv σ (b + 16) 3) ∨ (i = 16 ∧ f = 3 ∧ c_pv σ (b + 16) 3 ≤ y)) (hw : i ≠ 12 ∧ i ≠ 13 ∧ i ≠ 15 ∧ (i ≠ 9 ∨ f ≠ 2)) : GG bd b (cs_p σ (b + i) f y) ∧ Ext b σ (cs_p σ (b + i) f y) := by
  have htg := (h.1 i hi).1
  obtain ⟨n0, n2, n4, n7, n9, n10⟩ := gt_ne i hi
  have hE : Ext b σ (cs_p σ (b + i) f y) := ext_p (fun q => absurd (htg.symm.trans q) n7) (fun _ => by omega) (fun q => n4 (htg.symm.trans q))
  refine ⟨⟨h.1, fun q hq => ?_, ⟨fun i' f' lo hi' hi2 hr2 => ?_, fun j => ?_⟩, ?_, fun a => ?_, cs_p_ir h.ir hy, h.st⟩, hE⟩
  · have h1 := List.all_eq_true.mp hF q hq
    rw [cs_p_pv]
    split
    · next e =>
      rw [if_neg (fun e2 => by
        have e3 : q.1 = i := by omega
        simp [e3, e2] at h1)]
      exact h.2.1 q hq
    · exact h.2.1 q hq
  · rw [cs_p_pv]
    split
    · next e =>
      have e3 : i' = i := by omega
      split
      · next e2 => subst e3; subst e2; exact hr lo hi' hr2
      · exact h.2.2.1.1 i' f' lo hi' hi2 hr2
    · exact h.2.2.1.1 i' f' lo hi' hi2 hr2
  · have hdn := h.2.2.1.2 j
    rcases hd with ⟨h1, h2⟩ | ⟨h1, h2⟩ | ⟨h1, h2, h3⟩
    · rw [cs_p_na (q := b + 17) (by omega)]
      rcases h2 with h2 | h2
      · rw [cs_p_na (q := b + 16) (by omega)]; exact hdn
      · rw [cs_p_nf (q := b + 16) (g := 3) (fun q => h2 q.symm)]; exact hdn
    · subst h1
      rw [cs_p_na (q := b + 16) (by omega), cs_p_pv, if_pos rfl]
      split
      · exact h2
      · exact hdn
    · subst h1; subst h2
      rw [cs_p_na (q := b + 17) (by omega), cs_p_eq]
      omega
  · obtain ⟨w1, w2, hw', w3, w4, w5, w6⟩ := h.2.2.2.1
    have e12 : ∀ j, c_pv (cs_p σ (b + i) f y) (b + 12) j = c_pv σ (b + 12) j := fun j => cs_p_na (by omega)
    have e13 : ∀ j, c_pv (cs_p σ (b + i) f y) (b + 13) j = c_pv σ (b + 13) j := fun j => cs_p_na (by omega)
    have e15 : ∀ j, c_pv (cs_p σ (b + i) f y) (b + 15) j = c_pv σ (b + 15) j := fun j => cs_p_na (by omega)
    have e9 : c_pv (cs_p σ (b + i) f y) (b + 9) 2 = c_pv σ (b + 9) 2 := by
      rcases hw.2.2.2 with q | q
      · exact cs_p_na (by omega)
      · exact cs_p_nf (fun e => q e.symm)
    refine ⟨fun j hj => by rw [e12]; exact w1 j hj, fun j hj => by rw [e13]; exact w2 j hj, hw', w3, by rw [e9]; exact w4, fun j hj => by rw [e15]; exact w5 j hj, fun j hj => by rw [e12]; exact w6 j hj⟩
  · refine (h.oi a).up hE rfl (fun hq g => ?_)
    exact cs_p_na (fun e => by rw [e] at hq; rw [htg] at hq; omega)
/-- a number that isn't asked for goes into a Node -/
theorem gg_node (h : GG bd b σ) {x : Int} (hx : oN σ x) (f : Nat) {y : Int} (hy : inR y) (hf : f = 2 ∨ f = 3 ∨ f = 9 ∨ f = 10 ∨ (f = 4 ∧ 0 ≤ y ∧ y ≤ 5000) ∨ (f = 5 ∧ 0 ≤ y ∧ y ≤ 5000)) : GG bd b (cs_p σ x.toNat f y) ∧ Ext b σ (cs_p σ x.toNat f y) := by
  have hb : ∀ i, i < 24 → b + i ≠ x.toNat := fun i hi e => by
    have h1 := (h.1 i hi).1
    rw [e, hx.2] at h1
    exact (gt_ne i hi).2.2.2.1 h1.symm
  have hE : Ext b σ (cs_p σ x.toNat f y) := ext_p (fun _ => by omega) (fun q => by rw [hx.2] at q; omega) (by rw [hx.2]; decide)
  refine ⟨⟨h.1, fun q hq => ?_, ⟨fun i' f' lo hi' hi2 hr2 => ?_, fun j => ?_⟩, ?_, fun a => ?_, cs_p_ir h.ir hy, h.st⟩, hE⟩
  · have hq2 : q.1 < 24 := (by decide : ∀ q ∈ gF, q.1 < 24) q hq
    rw [cs_p_na (hb _ hq2)]; exact h.2.1 q hq
  · rw [cs_p_na (hb _ hi2)]; exact h.2.2.1.1 i' f' lo hi' hi2 hr2
  · rw [cs_p_na (hb 17 (by decide)), cs_p_na (hb 16 (by decide))]; exact h.2.2.1.2 j
  · obtain ⟨w1, w2, hw', w3, w4, w5, w6⟩ := h.2.2.2.1
    refine ⟨fun j hj => by rw [cs_p_na (hb 12 (by decide))]; exact w1 j hj, fun j hj => by rw [cs_p_na (hb 13 (by decide))]; exact w2 j hj, hw', w3, by rw [cs_p_na (hb 9 (by decide))]; exact w4, fun j hj => by rw [cs_p_na (hb 15 (by decide))]; exact w5 j hj, fun j hj => by rw [cs_p_na (hb 12 (by decide))]; exact w6 j hj⟩
  · by_cases e : a = x.toNat
    · subst e
      have h1 := h.oi x.toNat
      have h7 := ((h1.2.2.1 hx.2).up hE)
      have ht : c_tg (cs_p σ x.toNat f y) x.toNat = 7 := hx.2
      refine ⟨fun q => by omega, fun q => by omega, fun _ => ?_, fun q => by omega, fun q => by omega⟩
      obtain ⟨k1, k2, k3, k4, k5, k6, k7, k8⟩ := h7
      have e0 : c_pv (cs_p σ x.toNat f y) x.toNat 0 = c_pv σ x.toNat 0 := cs_p_nf (by omega)
      have e1 : c_pv (cs_p σ x.toNat f y) x.toNat 1 = c_pv σ x.toNat 1 := cs_p_nf (by omega)
      have e6 : c_pv (cs_p σ x.toNat f y) x.toNat 6 = c_pv σ x.toNat 6 := cs_p_nf (by omega)
      have e7 : c_pv (cs_p σ x.toNat f y) x.toNat 7 = c_pv σ x.toNat 7 := cs_p_nf (by omega)
      have e8 : c_pv (cs_p σ x.toNat f y) x.toNat 8 = c_pv σ x.toNat 8 := cs_p_nf (by omega)
      unfold oNd
      rw [e0, e1, e6, e7, e8]
      refine ⟨k1, k2, ?_, ?_, k5, k6, k7, k8⟩
      · rcases hf with q | q | q | q | q | q
        · rw [cs_p_nf (by omega)]; exact k3
        · rw [cs_p_nf (by omega)]; exact k3
        · rw [cs_p_nf (by omega)]; exact k3
        · rw [cs_p_nf (by omega)]; exact k3
        · obtain ⟨rfl, q2⟩ := q; rw [cs_p_eq]; exact q2
        · rw [cs_p_nf (by omega)]; exact k3
      · rcases hf with q | q | q | q | q | q
        · rw [cs_p_nf (by omega)]; exact k4
        · rw [cs_p_nf (by omega)]; exact k4
        · rw [cs_p_nf (by omega)]; exact k4
        · rw [cs_p_nf (by omega)]; exact k4
        · rw [cs_p_nf (by omega)]; exact k4
        · obtain ⟨rfl, q2⟩ := q; rw [cs_p_eq]; exact q2
    · exact (h.oi a).up hE rfl (fun _ g => cs_p_na e)
end CIB
