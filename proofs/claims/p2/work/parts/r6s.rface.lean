section RFC
variable {σ σ' σ'' σ0 σh s s' A B : RS} {d : Nat} {r w w' lo hi l h R N m : Int} {Q : RS → Int → Prop}
/-- a call that leaves all but its code -/
def FX (m : Int) (σ s : RS) : Prop := FP m σ s ∧ s.1 29 = σ.1 29 ∧ s.1 3 = σ.1 3
def CX (σ s : RS) : Prop := IR s ∧ s.2 = σ.2 ∧ ∀ j, j ≠ 1 → s.1 j = σ.1 j
theorem CX.fx (H : HO m σ) (hm : m + 1 ≤ 512) (C : CX σ s) : FX m σ s := ⟨⟨H.code C.1 C.2.1 C.2.2 hm, C.2.2 63 (by decide)⟩, C.2.2 29 (by decide), C.2.2 3 (by decide)⟩
theorem CX.p {x : Int} (I : IR σ) (w : s = rs_i σ 1 x) (hx : inR x) : CX σ s := ⟨I.p w hx, rs_i_2 w, fun j hj => rs_i_n w hj⟩
theorem CX.trans (h : CX σ σ') (k : CX σ' σ'') : CX σ σ'' := ⟨k.1, k.2.1.trans h.2.1, fun j hj => (k.2.2 j hj).trans (h.2.2 j hj)⟩
theorem CX.ho (H : HO m σ) (C : CX σ s) : HO m s := by
  obtain ⟨I1, e1, n1⟩ := C
  obtain ⟨h0, h1, h2, h3, h4, h5, h6, h7, h8, h9, h10, h11⟩ := H
  unfold HO
  rw [n1 39 (by decide), n1 63 (by decide), n1 65 (by decide), n1 3 (by decide), n1 75 (by decide), n1 72 (by decide), n1 15 (by decide), n1 10 (by decide), n1 11 (by decide)]
  exact ⟨I1, h1.n e1 (n1 27 (by decide)) (n1 20 (by decide)), h2, h3, h4, h5, h6, h7, h8, h9.eq (n1 29 (by decide)) (by rw [e1]) (by rw [n1 27 (by decide)]; exact Int.le_refl _), h10, h11⟩
/-- a refusal -/
theorem c_fail {n : Nat} (hd : 1 ≤ d) (C : CX σ s) (_ : n = n) : rsf (rf_cl (RF d 2 s [1]) (fun s1 z2 => some (s1, z2))) (fun s' b => inR b ∧ CX σ s') :=
  rsf_cl (q_fail hd C.1 ⟨by decide, by decide⟩) (fun s1 z f => rsf_some ⟨⟨by have := f.1; omega, by have := f.1; omega⟩, C.trans ⟨f.2.1, f.2.2.1, f.2.2.2.2⟩⟩)
theorem c_rd {k : Nat} {i : Int} (C : CX σ s) (hi : 0 ≤ i ∧ i < (rf_len k : Int)) : rsf (rf_rd s k i (fun z => some (s, z))) (fun s' b => inR b ∧ CX σ s') :=
  rsf_rd hi (fun z q => rsf_some ⟨q ▸ C.1.2 _ _, C⟩)
theorem c_gi {k : Nat} (C : CX σ s) : rsf (rf_gi s k (fun z => some (s, z))) (fun s' b => inR b ∧ CX σ s') := rsf_gi (fun z q => rsf_some ⟨q ▸ C.1.1 _, C⟩)
theorem q_fault {x : Int} (hd : 2 ≤ d) (H : HO m σ) (hm : m + 1 ≤ 512) : rsf (RF d 63 σ [x]) (fun s _ => FX m σ s) := by
  rw [rq_fault (by omega)]
  refine rsf_fin ?_
  unfold pf_fault_0
  refine rsf_pi (fun s1 w1 => ?_)
  have C := CX.p H.1 w1 ⟨by decide, by decide⟩
  refine rsf_mono (Q := fun s b => inR b ∧ CX σ s) ?_ (fun s b u => ⟨u.1, u.2.fx H hm⟩)
  exact rsf_if (fun _ => c_gi C) (fun _ => rsf_if (fun _ => c_gi C) (fun _ => rsf_if (fun _ => c_gi C) (fun _ => c_fail (n := 0) (by omega) C rfl)))
theorem q_outs (hd : 2 ≤ d) (H : HO m σ) (hm : m + 1 ≤ 512) : rsf (RF d 66 σ []) (fun s _ => FX m σ s) := by
  rw [rq_outs (by omega)]
  refine rsf_fin ?_
  unfold pf_outs_0
  refine rsf_pi (fun s1 w1 => ?_)
  have C := CX.p H.1 w1 ⟨by decide, by decide⟩
  exact rsf_mono (c_gi C) (fun s b u => ⟨u.1, u.2.fx H hm⟩)
theorem q_out {x : Int} (hd : 2 ≤ d) (H : HO m σ) (hm : m + 1 ≤ 512) : rsf (RF d 67 σ [x]) (fun s _ => FX m σ s) := by
  rw [rq_out (by omega)]
  refine rsf_fin ?_
  unfold pf_out_0
  refine rsf_pi (fun s1 w1 => ?_)
  have C := CX.p H.1 w1 ⟨by decide, by decide⟩
  refine rsf_mono (Q := fun s b => inR b ∧ CX σ s) ?_ (fun s b u => ⟨u.1, u.2.fx H hm⟩)
  have no : rsf (pf_out_24 (RF (d - 1)) s1) (fun s b => inR b ∧ CX σ s) := by
    unfold pf_out_24
    exact c_fail (n := 0) (by omega) C rfl
  exact rsf_if (fun _ => no) (fun _ => rsf_gi (fun z3 q3 => rsf_if (fun _ => no) (fun _ => rsf_if (fun _ => c_rd C ⟨by omega, by show _ < ((3000 : Nat) : Int); omega⟩) (fun _ => no))))
theorem q_name {x y : Int} (hd : 2 ≤ d) (H : HO m σ) (hm : m + 1 ≤ 512) (hx : inR x) (hy : inR y) : rsf (RF d 69 σ [x, y]) (fun s _ => FX m σ s) := by
  rw [rq_name (by omega)]
  refine rsf_fin ?_
  unfold pf_name_0
  refine rsf_pi (fun s1 w1 => ?_)
  have C := CX.p H.1 w1 ⟨by decide, by decide⟩
  refine rsf_mono (Q := fun s b => inR b ∧ CX σ s) ?_ (fun s b u => ⟨u.1, u.2.fx H hm⟩)
  have h27 := H.2.1.1.1
  have n27 := C.2.2 27 (by decide)
  have h22 := H.2.1.1.2.2.1
  have no : rsf (pf_name_21 (RF (d - 1)) s1) (fun s b => inR b ∧ CX σ s) := by
    unfold pf_name_21
    exact c_fail (n := 0) (by omega) C rfl
  refine rsf_if (fun _ => no) (fun c1 => rsf_gi (fun z3 q3 => rsf_if (fun _ => no) (fun c3 => rsf_if (fun c2 => ?_) (fun _ => no))))
  refine rsf_if (fun c4 => ?_) (fun c4 => ?_)
  · refine rsf_if (fun c5 => ?_) (fun c5 => ?_)
    · refine rsf_if (fun c6 => ?_) (fun c6 => ?_)
      · refine rsf_ck ⟨by omega, by omega⟩ (fun z9 q9 => ?_)
        refine rsf_rd ⟨by omega, by show _ < ((100 : Nat) : Int); omega⟩ (fun z10 q10 => ?_)
        have hl := h22 x.toNat
        rw [C.2.1] at q10
        refine rsf_if (fun _ => rsf_some ⟨⟨by decide, by decide⟩, C⟩) (fun c10 => ?_)
        refine rsf_ck ⟨by omega, by omega⟩ (fun z12 q12 => rsf_ck ⟨by omega, by omega⟩ (fun z13 q13 => rsf_ck ⟨by omega, by omega⟩ (fun z14 q14 => ?_)))
        exact c_rd C ⟨by omega, by show _ < ((1200 : Nat) : Int); omega⟩
      · exact c_rd C ⟨by omega, by show _ < ((100 : Nat) : Int); omega⟩
    · exact c_rd C ⟨by omega, by show _ < ((100 : Nat) : Int); omega⟩
  · refine rsf_rd ⟨by omega, by show _ < ((100 : Nat) : Int); omega⟩ (fun z18 q18 => ?_)
    exact rsf_if (fun _ => rsf_some ⟨⟨by decide, by decide⟩, C⟩) (fun _ => rsf_some ⟨⟨by decide, by decide⟩, C⟩)
theorem q_sort {x y : Int} (hd : 2 ≤ d) (H : HO m σ) (hm : m + 1 ≤ 512) (hx : inR x) (hy : inR y) : rsf (RF d 70 σ [x, y]) (fun s _ => FX m σ s) := by
  rw [rq_sort (by omega)]
  refine rsf_fin ?_
  unfold pf_sort_0
  refine rsf_pi (fun s1 w1 => ?_)
  have C := CX.p H.1 w1 ⟨by decide, by decide⟩
  refine rsf_mono (Q := fun s b => inR b ∧ CX σ s) ?_ (fun s b u => ⟨u.1, u.2.fx H hm⟩)
  have h20 := H.2.1.1.2.1
  have n20 := C.2.2 20 (by decide)
  have h17 := H.2.1.1.2.2.2.1
  have no : rsf (pf_sort_21 (RF (d - 1)) s1) (fun s b => inR b ∧ CX σ s) := by
    unfold pf_sort_21
    exact c_fail (n := 0) (by omega) C rfl
  refine rsf_if (fun _ => no) (fun c1 => rsf_gi (fun z3 q3 => rsf_if (fun _ => no) (fun c3 => rsf_if (fun c2 => ?_) (fun _ => no))))
  refine rsf_if (fun c4 => ?_) (fun c4 => ?_)
  · refine rsf_if (fun c5 => ?_) (fun c5 => ?_)
    · refine rsf_ck ⟨by omega, by omega⟩ (fun z9 q9 => ?_)
      refine rsf_rd ⟨by omega, by show _ < ((8 : Nat) : Int); omega⟩ (fun z10 q10 => ?_)
      have hl := h17 x.toNat
      rw [C.2.1] at q10
      refine rsf_if (fun _ => rsf_some ⟨⟨by decide, by decide⟩, C⟩) (fun c10 => ?_)
      refine rsf_ck ⟨by omega, by omega⟩ (fun z12 q12 => rsf_ck ⟨by omega, by omega⟩ (fun z13 q13 => rsf_ck ⟨by omega, by omega⟩ (fun z14 q14 => ?_)))
      exact c_rd C ⟨by omega, by show _ < ((96 : Nat) : Int); omega⟩
    · exact c_rd C ⟨by omega, by show _ < ((8 : Nat) : Int); omega⟩
  · exact c_rd C ⟨by omega, by show _ < ((8 : Nat) : Int); omega⟩
theorem q_rule {x y : Int} (hd : 2 ≤ d) (H : HO m σ) (hm : m + 1 ≤ 512) : rsf (RF d 71 σ [x, y]) (fun s _ => FX m σ s) := by
  rw [rq_rule (by omega)]
  refine rsf_fin ?_
  unfold pf_rule_0
  refine rsf_pi (fun s1 w1 => ?_)
  have C := CX.p H.1 w1 ⟨by decide, by decide⟩
  refine rsf_mono (Q := fun s b => inR b ∧ CX σ s) ?_ (fun s b u => ⟨u.1, u.2.fx H hm⟩)
  have h20 := H.2.1.1.2.1
  have n20 := C.2.2 20 (by decide)
  have no : rsf (pf_rule_29 (RF (d - 1)) s1) (fun s b => inR b ∧ CX σ s) := by
    unfold pf_rule_29
    exact c_fail (n := 0) (by omega) C rfl
  refine rsf_if (fun _ => no) (fun c1 => rsf_gi (fun z3 q3 => rsf_if (fun _ => no) (fun c3 => rsf_if (fun _ => no) (fun c4 => rsf_gi (fun z6 q6 => rsf_if (fun c6 => ?_) (fun _ => no))))))
  refine rsf_ck ⟨by omega, by omega⟩ (fun z8 q8 => rsf_ck ⟨by omega, by omega⟩ (fun z9 q9 => ?_))
  exact c_rd C ⟨by omega, by show _ < ((64 : Nat) : Int); omega⟩
theorem q_count48 {x1 x2 x3 : Int} (hd : 1 ≤ d) (C : CX σ s) (h2 : 0 ≤ x2 ∧ x2 ≤ 8) : ∀ (n : Nat) {x3 x4 : Int}, (0 ≤ x4 ∧ x4 ≤ 64) → (0 ≤ x3 ∧ x3 ≤ x4) → 65 - x4 ≤ (n : Int) → rsf (pf_count_48 (RF d) n s x1 x2 x3 x4) (fun s b => inR b ∧ CX σ s) := by
  intro n
  induction n with
  | zero => intro x3 x4 _ _ h; omega
  | succ n ih =>
    intro x3 x4 h4 h3 hn
    unfold pf_count_48
    refine rsf_if (fun _ => ?_) (fun c => ?_)
    · exact rsf_if (fun _ => c_gi C) (fun _ => rsf_if (fun _ => c_gi C) (fun _ => rsf_if (fun _ => c_gi C) (fun _ => rsf_if (fun _ => c_gi C) (fun _ => rsf_if (fun _ => c_gi C) (fun _ => rsf_if (fun _ => c_gi C) (fun _ => rsf_if (fun _ => c_gi C) (fun _ => rsf_if (fun _ => c_gi C) (fun _ => rsf_if (fun _ => c_gi C) (fun _ => rsf_if (fun _ => c_gi C) (fun _ => rsf_if (fun _ => rsf_some ⟨⟨by omega, by omega⟩, C⟩) (fun _ => rsf_if (fun _ => rsf_some ⟨⟨by omega, by omega⟩, C⟩) (fun _ => rsf_if (fun _ => c_gi C) (fun _ => rsf_if (fun _ => c_gi C) (fun _ => c_fail (n := 0) (by omega) C rfl))))))))))))))
    · refine rsf_rd ⟨by omega, by show _ < ((64 : Nat) : Int); omega⟩ (fun z30 q30 => rsf_if (fun _ => ?_) (fun _ => ?_))
      · unfold pf_count_71
        exact rsf_ck ⟨by omega, by omega⟩ (fun z1 q1 => rsf_ck ⟨by omega, by omega⟩ (fun z2 q2 => ih (by omega) (by omega) (by omega)))
      · unfold pf_count_71
        exact rsf_ck ⟨by omega, by omega⟩ (fun z1 q1 => rsf_ck ⟨by omega, by omega⟩ (fun z2 q2 => ih (by omega) (by omega) (by omega)))
theorem q_count12 {x1 : Int} (hd : 1 ≤ d) (C : CX σ s) (h20 : 0 ≤ s.1 20 ∧ s.1 20 ≤ 8) : ∀ (n : Nat) {x2 x4 : Int}, (0 ≤ x4 ∧ x4 ≤ 8) → (0 ≤ x2 ∧ x2 ≤ x4) → s.1 20 - x4 + 1 ≤ (n : Int) → 1 ≤ n → rsf (pf_count_12 (RF d) n s x1 x2 0 x4) (fun s b => inR b ∧ CX σ s) := by
  intro n
  induction n with
  | zero => intro x2 x4 _ _ _ h; omega
  | succ n ih =>
    intro x2 x4 h4 h2 hn _
    unfold pf_count_12
    refine rsf_gi (fun z1 q1 => rsf_if (fun c => ?_) (fun c => ?_))
    · exact q_count48 (x3 := 0) hd C (by omega) 200000 (by omega) (by omega) (by omega)
    · refine rsf_rd ⟨by omega, by show _ < ((8 : Nat) : Int); omega⟩ (fun z30 q30 => rsf_if (fun _ => ?_) (fun _ => ?_))
      · unfold pf_count_37
        exact rsf_ck ⟨by omega, by omega⟩ (fun z1 q1 => rsf_ck ⟨by omega, by omega⟩ (fun z2 q2 => ih (by omega) (by omega) (by omega) (by omega)))
      · unfold pf_count_37
        exact rsf_ck ⟨by omega, by omega⟩ (fun z1 q1 => rsf_ck ⟨by omega, by omega⟩ (fun z2 q2 => ih (by omega) (by omega) (by omega) (by omega)))
theorem q_count {x : Int} (hd : 2 ≤ d) (H : HO m σ) (hm : m + 1 ≤ 512) : rsf (RF d 68 σ [x]) (fun s _ => FX m σ s) := by
  rw [rq_count (by omega)]
  refine rsf_fin ?_
  unfold pf_count_0
  refine rsf_pi (fun s1 w1 => ?_)
  have C := CX.p H.1 w1 ⟨by decide, by decide⟩
  have h20 := H.2.1.1.2.1
  have n20 := C.2.2 20 (by decide)
  exact rsf_mono (q_count12 (by omega) C (by omega) 200000 (by omega) (by omega) (by omega) (by omega)) (fun s b u => ⟨u.1, u.2.fx H hm⟩)
/-- the limit -/
theorem q_limit {x : Int} (hd : 2 ≤ d) (H : HO m σ) (hm : m + 1 ≤ 512) : rsf (RF d 65 σ [x]) (fun s b => HO (m + 1) s ∧ s.1 29 = σ.1 29 ∧ s.1 3 = σ.1 3 ∧ (((1 ≤ x ∧ x ≤ 20000) ∧ s.1 63 = x ∧ b = σ.1 63 ∧ s.1 1 = 0) ∨ (¬ (1 ≤ x ∧ x ≤ 20000) ∧ s.1 63 = σ.1 63 ∧ b = 0 ∧ s.1 1 = 1))) := by
  rw [rq_limit (by omega)]
  refine rsf_fin ?_
  unfold pf_limit_0
  refine rsf_pi (fun s1 w1 => ?_)
  have C := CX.p H.1 w1 ⟨by decide, by decide⟩
  have v1 := rs_i_e w1
  have no : ¬ (1 ≤ x ∧ x ≤ 20000) → rsf (pf_limit_17 (RF (d - 1)) s1) (fun s b => inR b ∧ HO (m + 1) s ∧ s.1 29 = σ.1 29 ∧ s.1 3 = σ.1 3 ∧ (((1 ≤ x ∧ x ≤ 20000) ∧ s.1 63 = x ∧ b = σ.1 63 ∧ s.1 1 = 0) ∨ (¬ (1 ≤ x ∧ x ≤ 20000) ∧ s.1 63 = σ.1 63 ∧ b = 0 ∧ s.1 1 = 1))) := fun hx => by
    unfold pf_limit_17
    refine rsf_cl (q_fail (by omega) C.1 ⟨by decide, by decide⟩) (fun s2 z2 f => ?_)
    obtain ⟨f1, f2, f3, f4, f5⟩ := f
    have C2 : CX σ s2 := C.trans ⟨f2, f3, f5⟩
    have X := C2.fx H hm
    exact rsf_some ⟨⟨by omega, by omega⟩, X.1.1, X.2.1, X.2.2, Or.inr ⟨hx, X.1.2, f1, f4⟩⟩
  refine rsf_if (fun c => no (by omega)) (fun c => rsf_if (fun c2 => ?_) (fun c2 => no (by omega)))
  refine rsf_gi (fun z4 q4 => rsf_pi (fun s5 w5 => ?_))
  have H1 := CX.ho H C
  have n5 : ∀ j, j ≠ 63 → s5.1 j = s1.1 j := fun j hj => rs_i_n w5 hj
  have e5 := rs_i_2 w5
  have v63 := rs_i_e w5
  have n63 := C.2.2 63 (by decide)
  have I5 := C.1.p w5 (x := x) ⟨by omega, by omega⟩
  have HO5 : HO (m + 1) s5 := by
    obtain ⟨h0, h1, h2, h3, h4, h5, h6, h7, h8, h9, h10, h11⟩ := H1
    unfold HO
    rw [v63, n5 39 (by decide), n5 65 (by decide), n5 3 (by decide), n5 75 (by decide), n5 72 (by decide), n5 15 (by decide), n5 10 (by decide), n5 11 (by decide)]
    exact ⟨I5, h1.n e5 (n5 27 (by decide)) (n5 20 (by decide)), by omega, h3, ⟨by omega, by omega, by omega⟩, h5, h6, h7, h8, h9.eq (n5 29 (by decide)) (by rw [e5]) (by rw [n5 27 (by decide)]; exact Int.le_refl _), h10, h11⟩
  have hb := C.1.1 63
  refine rsf_some ⟨by rw [← q4]; exact hb, HO5, by rw [n5 29 (by decide)]; exact C.2.2 29 (by decide), by rw [n5 3 (by decide)]; exact C.2.2 3 (by decide), Or.inl ⟨by omega, v63, by omega, ?_⟩⟩
  rw [n5 1 (by decide)]; exact v1
theorem q_thrown (hd : 1 ≤ d) (I : IR σ) : rsf (RF d 1 σ []) (fun s b => s = σ ∧ b = σ.1 1) := by
  rw [rq_thrown (by omega)]
  refine rsf_fin ?_
  unfold pf_thrown_0
  exact rsf_gi (fun z q => rsf_some ⟨q ▸ I.1 1, rfl, q.symm⟩)
/-- a mark -/
theorem q_mark (hd : 2 ≤ d) (H : HO m σ) (hm : m + 1 ≤ 512) : rsf (RF d 74 σ []) (fun s b => FP m σ s ∧ s.1 3 = σ.1 3 ∧ ((σ.1 29 = 20 ∧ s.1 29 = σ.1 29 ∧ s.1 1 = 1 ∧ b = 0) ∨ (σ.1 29 ≠ 20 ∧ s.1 29 = σ.1 29 + 1 ∧ s.1 1 = 0 ∧ b = s.1 29))) := by
  rw [rq_mark (by omega)]
  refine rsf_fin ?_
  unfold pf_mark_0
  refine rsf_pi (fun s1 w1 => ?_)
  have C := CX.p H.1 w1 ⟨by decide, by decide⟩
  have v1 := rs_i_e w1
  have H1 := CX.ho H C
  have n29 := C.2.2 29 (by decide)
  obtain ⟨h0, h1, h2, h3, h4, h5, h6, h7, h8, ⟨h9, h9'⟩, h10, h11⟩ := H1
  have h27 := h1.1.1
  refine rsf_gi (fun z2 q2 => rsf_if (fun c => ?_) (fun c => ?_))
  · refine rsf_gi (fun z4 q4 => rsf_gi (fun z5 q5 => ?_))
    refine rsf_wr ⟨by omega, by show _ < ((20 : Nat) : Int); omega⟩ (fun s6 w6 => ?_)
    have e6 := rs_a_1 w6
    have ek := fun k (h : k ≠ 28) => rs_a_k w6 h
    refine rsf_gi (fun z7 q7 => ?_)
    rw [e6] at q7
    refine rsf_ck ⟨by omega, by omega⟩ (fun z8 q8 => rsf_pi (fun s9 w9 => rsf_gi (fun z10 q10 => ?_)))
    have n9 : ∀ j, j ≠ 29 → s9.1 j = s1.1 j := fun j hj => by rw [rs_i_n w9 hj, e6]
    have v29 := rs_i_e w9
    have ek9 : ∀ k, k ≠ 28 → s9.2 k = s1.2 k := fun k hk => by rw [rs_i_2 w9]; exact ek k hk
    have I9 := (C.1.a w6 ⟨by omega, by omega⟩).p w9 (x := z8) ⟨by omega, by omega⟩
    have hs : HS s9 := by
      unfold HS
      rw [n9 27 (by decide), n9 20 (by decide), ek9 22 (by decide), ek9 17 (by decide), ek9 18 (by decide), ek9 19 (by decide), ek9 24 (by decide), ek9 30 (by decide), ek9 31 (by decide)]
      exact h1.1
    have H9 : HG (s1.1 39) s9 := h1.fr (fun q _ _ _ => by rw [ek9 30 (by decide), ek9 31 (by decide), ek9 32 (by decide), ek9 33 (by decide), ek9 38 (by decide)]; exact ⟨rfl, rfl, rfl, rfl, rfl⟩) hs (h1.2.1.eq (ek9 36 (by decide)) (ek9 37 (by decide))) (n9 27 (by decide)) (ek9 23 (by decide)) (ek9 25 (by decide)) (ek9 26 (by decide))
    have mk : MK s9 := by
      refine ⟨by omega, fun i j a b c => ?_⟩
      have at28 : ∀ p : Int, 0 ≤ p → p < s9.1 29 → s9.2 28 p.toNat = if p = z4 then z5 else s1.2 28 p.toNat := fun p p0 p1 => by
        rw [rs_i_2 w9]
        by_cases cp : p = z4
        · rw [if_pos cp, cp]; exact rs_a_e w6
        · rw [if_neg cp]; exact rs_a_i w6 (by omega)
      rw [at28 i a (by omega), at28 j (by omega) c, n9 27 (by decide)]
      by_cases cj : j = z4
      · rw [if_pos cj]
        by_cases ci : i = z4
        · rw [if_pos ci]; omega
        · rw [if_neg ci]
          obtain ⟨x1, x2, x3⟩ := h9' i i a (Int.le_refl _) (by omega)
          omega
      · rw [if_neg cj, if_neg (by omega)]
        exact h9' i j a b (by omega)
    have HO9 : HO (m + 1) s9 := by
      unfold HO
      rw [n9 39 (by decide), n9 63 (by decide), n9 65 (by decide), n9 3 (by decide), n9 75 (by decide), n9 72 (by decide), n9 15 (by decide), n9 10 (by decide), n9 11 (by decide)]
      exact ⟨I9, H9, h2, h3, ⟨by omega, by omega, by omega⟩, h5, h6, h7, h8, mk, h10, h11⟩
    refine rsf_some ⟨⟨by omega, by omega⟩, ⟨HO9, by rw [n9 63 (by decide)]; exact C.2.2 63 (by decide)⟩, by rw [n9 3 (by decide)]; exact C.2.2 3 (by decide), Or.inr ⟨by omega, by omega, by rw [n9 1 (by decide)]; exact v1, q10.symm⟩⟩
  · refine rsf_cl (q_fail (by omega) C.1 ⟨by decide, by decide⟩) (fun s2 z2 f => ?_)
    obtain ⟨f1, f2, f3, f4, f5⟩ := f
    have C2 : CX σ s2 := C.trans ⟨f2, f3, f5⟩
    have X := C2.fx H hm
    exact rsf_some ⟨⟨by omega, by omega⟩, X.1, X.2.2, Or.inl ⟨by omega, X.2.1, f4, f1⟩⟩
end RFC
