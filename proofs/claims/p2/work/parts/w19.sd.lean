section LWM
variable {a : Array Value} {s : State}
theorem lw_kn (hts : ∀ w ∈ lw_tbl, w.before a s = true) : ∀ t, 1 ≤ t → t ≤ 13 → ∃ (cC : ClassId) (iS : Nat → Nat), u_Kn s (cw_tab t).1 (cw_tab t).2.1 (cw_tab t).2.2 cC iS := by
  have hcw : ∀ w ∈ cw_bw, w.before a s = true := fun w h => hts w (lw_cw_in w h)
  intro t h1 h2
  have : t = 1 ∨ t = 2 ∨ t = 3 ∨ t = 4 ∨ t = 5 ∨ t = 6 ∨ t = 7 ∨ t = 8 ∨ t = 9 ∨ t = 10 ∨ t = 11 ∨ t = 12 ∨ t = 13 := by omega
  rcases this with rfl | rfl | rfl | rfl | rfl | rfl | rfl | rfl | rfl | rfl | rfl | rfl | rfl
  · exact u_known (n := 11) hcw cwt_1.2.1 (hts _ (lw_in 1 59 rfl))
  · exact u_known (n := 4) hcw cwt_2.2.1 (hts _ (lw_in 5 6 rfl))
  · exact u_known (n := 5) hcw cwt_3.2.1 (hts _ (lw_in 1 213 rfl))
  · exact u_known (n := 5) hcw cwt_4.2.1 (hts _ (lw_in 4 162 rfl))
  · exact u_known (n := 8) hcw cwt_5.2.1 (hts _ (lw_in 1 137 rfl))
  · exact u_known (n := 3) hcw cwt_6.2.1 (hts _ (lw_in 1 65 rfl))
  · exact u_known (n := 11) hcw cwt_7.2.1 (hts _ (lw_in 3 59 rfl))
  · exact u_known (n := 11) hcw cwt_8.2.1 (hts _ (lw_in 1 173 rfl))
  · exact u_known (n := 5) hcw cwt_9.2.1 (hts _ (lw_in 4 153 rfl))
  · exact u_known (n := 5) hcw cwt_10.2.1 (hts _ (lw_in 3 131 rfl))
  · exact u_known (n := 2) hcw cwt_11.2.1 (hts _ (lw_in 1 41 rfl))
  · exact u_known (n := 10) hcw cwt_12.2.1 (hts _ (lw_in 1 33 rfl))
  · exact u_known (n := 3) hcw cwt_13.2.1 (hts _ (lw_in 2 231 rfl))
theorem lw_env (hts : ∀ w ∈ lw_tbl, w.before a s = true) (h : (Jvm.Cond.and given_1 narrow_1).before a s = true) : ∃ v : cwE, cw_K v s ∧ lw_s0 v lw_σ s ∧ (cw_ad v 99 = s.heap.size ∧ v.2.2.1 = 601124 ∧ v.2.2.2.1 = 7293034) ∧
    ∀ (q : Nat) (cell : Cell), cw_tm v lw_σ q → s.heap[q]? = some cell → cell.vm.isStatics = false ∧ (∀ k r : Nat, cell.slots[k]? ≠ some (.ref r)) ∧ (cell.slots.size = 8 ∨ cell.slots.size = 0) ∧ ¬ s.isArrayOf cell .int := by
  obtain ⟨qc, ce, c1, c2, c3, c4⟩ := lw_corner h
  obtain ⟨qe, ee, e1, e2, e3, e4, e5⟩ := lw_empty h
  obtain ⟨adK, adV, s1, s2⟩ := lw_S3 h
  obtain ⟨mi, hmi⟩ := lw_mirror h
  obtain ⟨u1, u2, u3, u4⟩ := lw_us h
  have hk : ∀ t, ∃ q : ClassId × (Nat → Nat), 1 ≤ t → t ≤ 13 → u_Kn s (cw_tab t).1 (cw_tab t).2.1 (cw_tab t).2.2 q.1 q.2 := by
    intro t
    by_cases ht : 1 ≤ t ∧ t ≤ 13
    · obtain ⟨cC, iS, h⟩ := lw_kn hts t ht.1 ht.2
      exact ⟨(cC, iS), fun _ _ => h⟩
    · exact ⟨(0, fun _ => 0), fun h1 h2 => absurd ⟨h1, h2⟩ ht⟩
  obtain ⟨f, hf⟩ := Classical.axiomOfChoice hk
  obtain ⟨cB, kB, pB, b1, b2, b3⟩ := Cond.arrayClass_spec (args := a) (first := s) (o := none) (s := s) (idx := []) (hts _ (lw_in 1 57 rfl))
  obtain ⟨cI, kI, pI, i1, i2, i3⟩ := Cond.arrayClass_spec (args := a) (first := s) (o := none) (s := s) (idx := []) (hts _ (lw_in 1 84 rfl))
  obtain ⟨pN, cN, kN, n1, n2, n3, n4, n5⟩ := Cond.arrayOver_spec (args := a) (first := s) (o := none) (s := s) (idx := []) (n := RX6) (hts _ (lw_in 1 86 rfl))
  obtain ⟨pO, cO, kO, o1, o2, o3, o4, o5⟩ := Cond.arrayOver_spec (args := a) (first := s) (o := none) (s := s) (idx := []) (n := cRO) (hts _ (lw_in 3 223 rfl))
  have hcO : ee.cls = cO := Option.some.inj (e5.symm.trans o5)
  have hne : qc ≠ qe := fun q => by
    subst q
    cases Option.some.inj (c2.symm.trans e2)
    have h1 := c4.size
    rw [e4.size] at h1
    omega
  let v : cwE := (fun t => if t ≤ 13 then (f t).1 else if t = 20 then cB else if t = 21 then cI else if t = 22 then cN else if t = 23 then cO else ce.cls, fun t => (f t).2, 601124, 7293034, fun q => s.heap.size ≤ q ∨ q = qc ∨ q = qe, fun i => if i < 3 then adK i else if i < 20 then adV (i - 10) else if i = 20 then qc else if i = 21 then qe else if i = 22 then mi else s.heap.size)
  have hqc : qc < s.heap.size := (Array.getElem?_eq_some_iff.mp c2).1
  have hqe : qe < s.heap.size := (Array.getElem?_eq_some_iff.mp e2).1
  have hst : ∀ k : Cell, (∀ j, k.vm ≠ .statics j) → k.vm.isStatics = false := fun k hk => by
    cases hv : k.vm with
    | statics j => exact absurd hv (hk j)
    | _ => rfl
  have f1 : ce.vm.isStatics = false := hst ce c3.1
  have f2 : ee.vm.isStatics = false := hst ee e3.1
  have f3 : ∀ k r : Nat, ce.slots[k]? ≠ some (.ref r) := fun k r q => by
    by_cases hk : k < 8
    · rw [c4.read hk] at q; cases q
    · rw [Array.getElem?_eq_none (by rw [c4.size]; omega)] at q; cases q
  have f4 : ∀ k r : Nat, ee.slots[k]? ≠ some (.ref r) := fun k r q => by
    rw [Array.getElem?_eq_none (by rw [e4.size]; omega)] at q; cases q
  have hA1 : ∀ (q : Nat) (cell : Cell), s.heap[q]? = some cell → cell.vm.isStatics = true → ¬ cw_A v q := by
    intro q cell g1 g2 g3
    rcases g3 with g | g | g
    · exact absurd (Array.getElem?_eq_some_iff.mp g1).1 (by omega)
    · subst g; cases Option.some.inj (g1.symm.trans c2); rw [f1] at g2; cases g2
    · subst g; cases Option.some.inj (g1.symm.trans e2); rw [f2] at g2; cases g2
  have hA2 : ∀ (q : Nat) (cell : Cell) (k r : Nat), s.heap[q]? = some cell → cell.slots[k]? = some (.ref r) → ¬ cw_A v q := by
    intro q cell k r g1 g2 g3
    rcases g3 with g | g | g
    · exact absurd (Array.getElem?_eq_some_iff.mp g1).1 (by omega)
    · subst g; cases Option.some.inj (g1.symm.trans c2); exact f3 _ _ g2
    · subst g; cases Option.some.inj (g1.symm.trans e2); exact f4 _ _ g2
  have hA3 : ∀ i, i < 3 → ∀ (q : Nat) (cell : Cell), s.heap[q]? = some cell → cw_sl.getD i 0 ≤ cell.slots.size → cell.slots.size.toInt32 = Int32.ofNat (cw_sl.getD i 0) → ¬ cw_A v q := by
    intro i hi q cell g1 g2 g4 g3
    have hl : 1 ≤ cw_sl.getD i 0 ∧ Int32.ofNat (cw_sl.getD i 0) ≠ (8 : Nat).toInt32 := (show ∀ i, i < 3 → 1 ≤ cw_sl.getD i 0 ∧ Int32.ofNat (cw_sl.getD i 0) ≠ (8 : Nat).toInt32 by decide +kernel) i hi
    rcases g3 with g | g | g
    · exact absurd (Array.getElem?_eq_some_iff.mp g1).1 (by omega)
    · subst g; cases Option.some.inj (g1.symm.trans c2); rw [c4.size] at g4; exact hl.2 g4.symm
    · subst g; cases Option.some.inj (g1.symm.trans e2); rw [e4.size] at g2; omega
  have hA0 : ∀ q : Nat, q < s.heap.size → ¬ (fun q => s.heap.size ≤ q) q := fun q hq h => by
    have h : s.heap.size ≤ q := h
    omega
  have hts0 : ∀ w ∈ cw_xw, va_Nw w s := fun w hw => by
    have hc := List.all_eq_true.mp cw_xw_cd w hw
    have h5 := hts w (lw_xw_in w hw)
    cases w <;> first | exact va_any rfl h5 | (cases hc)
  refine ⟨v, ⟨⟨fun t h1 h2 => ?_, ⟨lw_arT b2 b3, lw_arC c3⟩, lw_arT i2 i3, lw_arT n3 n4, b1, i1, ⟨kN, pN, n3, n4, n1, n5⟩, hts0, ?_⟩, ?_, ?_⟩, ⟨⟨⟨by show s.heap.size + 100 = 100 + s.heap.size; omega, Nat.le_refl _⟩, ?_, ?_, (by show (100 : Nat) ≤ 601124; decide), (by show (0 : Nat) ≤ 7293034; decide), fun q hq => Or.inl hq, ?_⟩, fun a ha => lw_σ_tg ha, ⟨rfl, rfl, fun i _ => rfl⟩, rfl, rfl⟩, ⟨rfl, rfl, rfl⟩, ?_⟩
  · have hv : v.1 t = (f t).1 := if_pos h2
    rw [hv]
    exact hf t h1 h2
  · refine ⟨⟨kO, pO, o3, o4, o1, o5⟩, lw_arT o3 o4, va_AO.of (hts _ (lw_in 1 86 rfl)), va_AO.of (hts _ (lw_in 3 223 rfl)), hmi, va_any rfl (hts _ (lw_in 8 126 rfl)), va_any rfl (hts _ (lw_in 8 135 rfl)), va_any rfl (hts _ (lw_in 8 136 rfl)), ?_, ?_, ?_⟩
    · exact va_Fw.of (hts _ (lw_in 3 166 rfl)) (hts _ (lw_in 3 165 rfl)) (hts _ (lw_in 3 171 rfl)) (hts _ (lw_in 3 169 rfl)) (hts _ (lw_in 3 167 rfl))
    · exact va_Fw.of (hts _ (lw_in 4 4 rfl)) (hts _ (lw_in 4 3 rfl)) (hts _ (lw_in 4 8 rfl)) (hts _ (lw_in 4 6 rfl)) (hts _ (lw_in 3 167 rfl))
    · exact va_Fw.of (hts _ (lw_in 3 234 rfl)) (hts _ (lw_in 3 233 rfl)) (hts _ (lw_in 3 238 rfl)) (hts _ (lw_in 3 236 rfl)) (hts _ (lw_in 3 167 rfl))
  · refine ⟨?_, ?_, ⟨?_, ?_, ?_⟩, ?_, ?_⟩
    · exact vx_Zq.wide (vx_Zqof (hts _ (lw_in 2 103 rfl)) (hts _ (lw_in 1 13 rfl)) u1 hA0) hA1
    · exact vx_Zq.wide (vx_Zqof (hts _ (lw_in 2 105 rfl)) (hts _ (lw_in 1 13 rfl)) u2 hA0) hA1
    · exact va_Z.wide (va_Zof (hts _ (lw_in 2 195 rfl)) (hts _ (lw_in 1 9 rfl)) (va_eqt u4) hA0) hA1
    · exact va_Zq.wide (va_Zqof (hts _ (lw_in 2 203 rfl)) (hts _ (lw_in 1 11 rfl)) u3 hA0) hA1
    · refine s1.wide (fun i hi => if_pos hi) (fun i hi => ?_) hA2 hA3
      show (if 10 + i < 3 then adK (10 + i) else if 10 + i < 20 then adV (10 + i - 10) else _) = adV i
      rw [if_neg (by omega), if_pos (by omega)]
      congr 1
      omega
    · exact va_Z.wide (va_Zof (hts _ (lw_in 2 4 rfl)) (hts _ (lw_in 1 3 rfl)) c1 hA0) hA1
    · exact va_Z.wide (va_Zof (hts _ (lw_in 3 3 rfl)) (hts _ (lw_in 1 20 rfl)) e1 hA0) hA1
  · exact ⟨vk_R.of (hts _ (lw_in 5 138 rfl)) (s2 1 (by decide)), vk_R.of (hts _ (lw_in 5 139 rfl)) (s2 2 (by decide)), vk_R.of (hts _ (lw_in 2 185 rfl)) (s2 0 (by decide)), va_any rfl (hts _ (lw_in 1 42 rfl)), va_any rfl (hts _ (lw_in 1 60 rfl))⟩
  · intro a ha
    unfold cw_at
    rcases lw_σ_tg ha with rfl | rfl
    · rw [if_neg (by decide)]
      exact ⟨ce, c2, ce.cls, Or.inr ⟨rfl, rfl⟩, c4⟩
    · rw [if_neg (by decide)]
      refine ⟨ee, e2, ee.cls, Or.inl hcO, e4.1, ?_, e4.2.2.1, e4.2.2.2⟩
      rw [e4.2.1]
      exact lw_arrc (fun i hi => absurd hi (Nat.not_lt_zero i))
  · intro a f
    show inR (if a = 20 then gC.getD f 0 else 0)
    split
    · exact lw_gC f
    · exact inR_0
  · intro a ha
    rcases lw_σ_tg ha with rfl | rfl
    · exact ⟨Or.inr (Or.inl rfl), Or.inr ⟨Or.inl rfl, hqc, hne⟩⟩
    · exact ⟨Or.inr (Or.inr rfl), Or.inr ⟨Or.inr rfl, hqe, hne⟩⟩
  · rintro q cell ⟨a, ha, rfl⟩ hc
    have hk0 : ∀ (t t' : FieldType), t ≠ t' → ∀ k : Cell, s.isArrayOf k t → ¬ s.isArrayOf k t' := by
      rintro t t' hne k ⟨-, k1, g1, p1, g2⟩ ⟨-, k2, g3, p2, g4⟩
      cases Option.some.inj (g1.symm.trans g3)
      rw [g2] at g4
      cases g4
      exact hne rfl
    rcases lw_σ_tg ha with rfl | rfl
    · cases Option.some.inj (hc.symm.trans c2)
      exact ⟨f1, f3, Or.inl c4.size, hk0 .byte .int (by decide) _ c3⟩
    · cases Option.some.inj (hc.symm.trans e2)
      exact ⟨f2, f4, Or.inr e4.size, hk0 (.object cRO) .int (by decide) _ e3⟩
end LWM
