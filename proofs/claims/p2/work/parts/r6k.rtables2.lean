section RTC
variable {σ σ' σ'' σ0 σh s : RS} {d : Nat} {S V T U A : Int → Prop} {r w w' lo hi sc ch l R N : Int} {Q : RS → Int → Prop}
def NMx (σ : RS) (k : Nat) : Prop := (8 ≤ σ.1 k ∧ σ.1 k < 140000) ∧ NMr σ.2 (σ.1 k)
/-- what stands while tables are changed -/
def TX (σ : RS) : Prop := IR σ ∧ HS σ ∧ (0 ≤ σ.1 72 ∧ σ.1 72 ≤ 14) ∧ NMx σ 80 ∧ (σ.1 76 ≠ 0 → NMx σ 81) ∧ (σ.1 76 ≠ 0 → σ.1 76 ≠ 1 → NMx σ 82)
theorem TX.wr (h : TX σ) (T : TBs σ s) (e : s.2 = σ.2) : TX s := by
  obtain ⟨h1, h2, h3, h4, h5, h6⟩ := h
  obtain ⟨I, n, _, b72, hs⟩ := T
  have n80 := n 80 (by decide) (by decide) (by decide)
  have n81 := n 81 (by decide) (by decide) (by decide)
  have n82 := n 82 (by decide) (by decide) (by decide)
  have n76 := n 76 (by decide) (by decide) (by decide)
  unfold TX NMx
  rw [n80, n81, n82, n76, e]
  exact ⟨I, hs, b72, h4, h5, h6⟩
theorem t_put1 {k : Nat} {i x : Int} (X : TX σ) (q : s = rs_a σ k i x) (hk : k = 18 ∨ k = 19) (hx : 0 ≤ x ∧ x < σ.1 20) : TBs σ s := by
  have e := rs_a_1 q
  obtain ⟨I, hs, b72, _⟩ := X
  obtain ⟨g1, g2, g3, g4, g5, g6, g7, g8⟩ := hs
  have st : ∀ m, ∀ p, (-1 ≤ σ.2 m p ∧ σ.2 m p < σ.1 20) → -1 ≤ s.2 m p ∧ s.2 m p < σ.1 20 := fun m p g => by
    by_cases c : m = k
    · subst c
      by_cases c2 : p = i.toNat
      · subst c2; rw [rs_a_e q]; omega
      · rw [rs_a_i q c2]; exact g
    · rw [rs_a_k q c]; exact g
  refine ⟨I.a q ⟨by omega, by omega⟩, fun _ _ _ _ => by rw [e], fun m hm => rs_a_k q (by omega), by rw [e]; exact b72, ?_⟩
  unfold HS
  rw [e, rs_a_k (j := 22) q (by omega), rs_a_k (j := 17) q (by omega), rs_a_k (j := 24) q (by omega), rs_a_k (j := 30) q (by omega), rs_a_k (j := 31) q (by omega)]
  exact ⟨g1, g2, g3, g4, fun p hp => st 18 p (g5 p hp), fun p hp => st 19 p (g6 p hp), g7, g8⟩
theorem q_tables282 {rec : Nat → RS → List Int → RO} {x1 x2 : Int} (X : TX σ) (h : σ.1 72 = 0 → (0 ≤ x1 ∧ x1 < σ.1 20) ∧ 0 ≤ x2 ∧ x2 < σ.1 20) : rsf (pf_tables_282 rec σ x1 x2) (fun s b => inR b ∧ TBs σ s) := by
  unfold pf_tables_282
  have g2 := X.2.1.2.1
  refine rsf_gi (fun z1 q1 => rsf_if (fun c => ?_) (fun c => ?_))
  · exact rsf_some ⟨⟨by decide, by decide⟩, TBs.refl X.1 X.2.1 X.2.2.1⟩
  · obtain ⟨h1, h2⟩ := h (by omega)
    refine rsf_wr ⟨by omega, by show _ < ((8 : Nat) : Int); omega⟩ (fun s3 w3 => ?_)
    exact rsf_some ⟨⟨by decide, by decide⟩, t_put1 X w3 (Or.inl rfl) h2⟩
theorem q_tables359 {rec : Nat → RS → List Int → RO} {x1 x2 x3 : Int} (X : TX σ) (h : σ.1 72 = 0 → (0 ≤ x1 ∧ x1 < σ.1 20) ∧ (0 ≤ x2 ∧ x2 < σ.1 20) ∧ 0 ≤ x3 ∧ x3 < σ.1 20) : rsf (pf_tables_359 rec σ x1 x2 x3) (fun s b => inR b ∧ TBs σ s) := by
  unfold pf_tables_359
  have g2 := X.2.1.2.1
  refine rsf_gi (fun z1 q1 => rsf_if (fun c => ?_) (fun c => ?_))
  · exact rsf_some ⟨⟨by decide, by decide⟩, TBs.refl X.1 X.2.1 X.2.2.1⟩
  · obtain ⟨h1, h2, h3⟩ := h (by omega)
    refine rsf_ck ⟨by omega, by omega⟩ (fun z3 q3 => rsf_ck ⟨by omega, by omega⟩ (fun z4 q4 => ?_))
    refine rsf_wr ⟨by omega, by show _ < ((64 : Nat) : Int); omega⟩ (fun s3 w3 => ?_)
    exact rsf_some ⟨⟨by decide, by decide⟩, t_put1 X w3 (Or.inr rfl) h3⟩
theorem q_tables324 {x1 x2 x3 : Int} (hd : 1 ≤ d) (X : TX σ) (h : σ.1 72 = 0 → (0 ≤ x1 ∧ x1 < σ.1 20) ∧ (0 ≤ x2 ∧ x2 < σ.1 20) ∧ 0 ≤ x3 ∧ x3 < σ.1 20) : rsf (pf_tables_324 (RF d) σ x1 x2 x3) (fun s b => inR b ∧ TBs σ s) := by
  unfold pf_tables_324
  have g2 := X.2.1.2.1
  have h80 := X.2.2.2.1.1
  refine rsf_gi (fun z1 q1 => rsf_if (fun c => q_tables359 X h) (fun c => ?_))
  obtain ⟨h1, h2, h3⟩ := h (by omega)
  refine rsf_ck ⟨by omega, by omega⟩ (fun z3 q3 => rsf_ck ⟨by omega, by omega⟩ (fun z4 q4 => ?_))
  refine rsf_rd ⟨by omega, by show _ < ((64 : Nat) : Int); omega⟩ (fun z5 q5 => rsf_if (fun _ => q_tables359 X h) (fun _ => ?_))
  refine rsf_gi (fun z7 q7 => ?_)
  refine rsf_rd ⟨by omega, by show _ < ((140000 : Nat) : Int); omega⟩ (fun z8 q8 => ?_)
  refine rsf_cl (t_wrong hd X.1 X.2.1 X.2.2.1 ⟨by decide, by decide⟩ (q8 ▸ X.1.2 _ _)) (fun s9 z10 f => ?_)
  obtain ⟨f1, f2, f3, f4⟩ := f
  exact rsf_mono (q_tables359 (X.wr f1 f3) (fun q => absurd q f2)) (fun s b u => ⟨u.1, f1.trans u.2⟩)
theorem q_tables244 {x1 x2 : Int} (hd : 2 ≤ d) (X : TX σ) (h76 : σ.1 76 ≠ 0) (h : σ.1 72 = 0 → (0 ≤ x1 ∧ x1 < σ.1 20) ∧ 0 ≤ x2 ∧ x2 < σ.1 20) : rsf (pf_tables_244 (RF d) σ x1 x2) (fun s b => inR b ∧ TBs σ s) := by
  unfold pf_tables_244
  have g2 := X.2.1.2.1
  have h80 := X.2.2.2.1.1
  refine rsf_gi (fun z1 q1 => rsf_if (fun c => ?_) (fun c => ?_))
  · have n82 := X.2.2.2.2.2 h76 (by omega)
    have h82 := n82.1
    refine rsf_gi (fun z3 q3 => ?_)
    subst q3
    refine rsf_cl (q_sortOf hd X.2.1 ⟨by omega, n82.1.2⟩ n82.2) (fun s4 z5 f => ?_)
    obtain ⟨e4, f⟩ := f
    subst e4
    refine rsf_if (fun c5 => ?_) (fun c5 => ?_)
    · exact q_tables324 (by omega) X (fun q => ⟨(h q).1, (h q).2, c5, f.2⟩)
    · refine rsf_gi (fun z7 q7 => ?_)
      subst q7
      refine rsf_rd ⟨by omega, by show _ < ((140000 : Nat) : Int); omega⟩ (fun z8 q8 => ?_)
      refine rsf_cl (t_wrong (by omega) X.1 X.2.1 X.2.2.1 ⟨by decide, by decide⟩ (q8 ▸ X.1.2 _ _)) (fun s9 z10 f => ?_)
      obtain ⟨f1, f2, f3, f4⟩ := f
      exact rsf_mono (q_tables324 (by omega) (X.wr f1 f3) (fun q => absurd q f2)) (fun s b u => ⟨u.1, f1.trans u.2⟩)
  · refine rsf_gi (fun z11 q11 => rsf_if (fun c11 => q_tables282 X h) (fun c11 => ?_))
    obtain ⟨h1, h2⟩ := h (by omega)
    refine rsf_rd ⟨by omega, by show _ < ((8 : Nat) : Int); omega⟩ (fun z13 q13 => rsf_if (fun _ => q_tables282 X h) (fun _ => ?_))
    refine rsf_gi (fun z15 q15 => ?_)
    refine rsf_rd ⟨by omega, by show _ < ((140000 : Nat) : Int); omega⟩ (fun z16 q16 => ?_)
    refine rsf_cl (t_wrong (by omega) X.1 X.2.1 X.2.2.1 ⟨by decide, by decide⟩ (q16 ▸ X.1.2 _ _)) (fun s9 z10 f => ?_)
    obtain ⟨f1, f2, f3, f4⟩ := f
    exact rsf_mono (q_tables282 (X.wr f1 f3) (fun q => absurd q f2)) (fun s b u => ⟨u.1, f1.trans u.2⟩)
theorem q_tables217 {x1 : Int} (hd : 2 ≤ d) (X : TX σ) (h76 : σ.1 76 ≠ 0) (h : σ.1 72 = 0 → 0 ≤ x1 ∧ x1 < σ.1 20) : rsf (pf_tables_217 (RF d) σ x1) (fun s b => inR b ∧ TBs σ s) := by
  unfold pf_tables_217
  have n81 := X.2.2.2.2.1 h76
  have h81 := n81.1
  refine rsf_gi (fun z1 q1 => ?_)
  subst q1
  refine rsf_cl (q_sortOf hd X.2.1 ⟨by omega, n81.1.2⟩ n81.2) (fun s4 z5 f => ?_)
  obtain ⟨e4, f⟩ := f
  subst e4
  refine rsf_if (fun c5 => ?_) (fun c5 => ?_)
  · exact q_tables244 hd X h76 (fun q => ⟨h q, c5, f.2⟩)
  · refine rsf_gi (fun z7 q7 => ?_)
    subst q7
    refine rsf_rd ⟨by omega, by show _ < ((140000 : Nat) : Int); omega⟩ (fun z8 q8 => ?_)
    refine rsf_cl (t_wrong (by omega) X.1 X.2.1 X.2.2.1 ⟨by decide, by decide⟩ (q8 ▸ X.1.2 _ _)) (fun s9 z10 f => ?_)
    obtain ⟨f1, f2, f3, f4⟩ := f
    have n76 := f1.2.1 76 (by decide) (by decide) (by decide)
    exact rsf_mono (q_tables244 hd (X.wr f1 f3) (by omega) (fun q => absurd q f2)) (fun s b u => ⟨u.1, f1.trans u.2⟩)
theorem q_tables78 {rec : Nat → RS → List Int → RO} (X : TX σ) (h : σ.1 72 = 0 → σ.1 20 < 8) : rsf (pf_tables_78 rec σ) (fun s b => inR b ∧ TBs σ s) := by
  unfold pf_tables_78
  have h80 := X.2.2.2.1
  have m2 := h80.2.2.2.1
  refine rsf_gi (fun z1 q1 => rsf_if (fun c => ?_) (fun c => ?_))
  · exact q_tables88 200000 X.1 X.2.1 X.2.2.1 (h (q1.trans c)) h80.1 h80.2 ⟨by omega, by omega⟩ (by omega) (by omega)
  · exact rsf_some ⟨⟨by decide, by decide⟩, TBs.refl X.1 X.2.1 X.2.2.1⟩
/-- a statement of the tables; where names are known it is a fault -/
theorem q_tables (hd : 3 ≤ d) (X : TX σ) : rsf (RF d 56 σ []) (fun s _ => TBs σ s ∧ (σ.1 27 ≠ 0 → s.2 = σ.2 ∧ s.1 20 = σ.1 20)) := by
  rw [rq_tables (by omega)]
  refine rsf_fin ?_
  unfold pf_tables_0
  have h80 := X.2.2.2.1
  have h80' := h80.1
  have g1 := X.2.1.1
  have g2 := X.2.1.2.1
  have wr : ∀ {x y : Int} {K : RS → RO}, (1 ≤ x ∧ x ≤ 14) → inR y → (∀ {s9 : RS}, TX s9 → s9.1 72 ≠ 0 → s9.1 76 = σ.1 76 → rsf (K s9) (fun s b => inR b ∧ TBs s9 s)) → rsf (rf_cl (RF (d - 1) 3 σ [x, y]) (fun s9 _ => K s9)) (fun s b => inR b ∧ TBs σ s) := fun {x y K} hx hy hK => by
    refine rsf_cl (t_wrong (by omega) X.1 X.2.1 X.2.2.1 hx hy) (fun s9 z10 f => ?_)
    obtain ⟨f1, f2, f3, f4⟩ := f
    exact rsf_mono (hK (X.wr f1 f3) f2 (f1.2.1 76 (by decide) (by decide) (by decide))) (fun s b u => ⟨u.1, f1.trans u.2⟩)
  refine rsf_gi (fun z1 q1 => rsf_if (fun c => ?_) (fun c => ?_))
  · refine rsf_mono (Q := fun s b => inR b ∧ TBs σ s) ?_ (fun s b u => ⟨u.1, u.2, fun q => absurd (by omega) q⟩)
    refine rsf_gi (fun z3 q3 => ?_)
    subst q3
    refine rsf_cl (q_sortOf (by omega) X.2.1 ⟨by omega, h80.1.2⟩ h80.2) (fun s4 z5 f => ?_)
    obtain ⟨e4, f⟩ := f
    subst e4
    refine rsf_gi (fun z6 q6 => rsf_if (fun c6 => ?_) (fun c6 => ?_))
    · refine rsf_if (fun c5 => ?_) (fun c5 => ?_)
      · exact q_tables217 (by omega) X (by omega) (fun _ => ⟨c5, f.2⟩)
      · refine rsf_gi (fun z9 q9 => ?_)
        refine rsf_rd ⟨by omega, by show _ < ((140000 : Nat) : Int); omega⟩ (fun z10 q10 => ?_)
        exact wr ⟨by decide, by decide⟩ (q10 ▸ X.1.2 _ _) (fun Y b e => q_tables217 (by omega) Y (by omega) (fun q => absurd q b))
    · refine rsf_if (fun c5 => ?_) (fun c5 => ?_)
      · refine rsf_gi (fun z14 q14 => rsf_if (fun c14 => ?_) (fun c14 => ?_))
        · exact q_tables78 X (fun _ => by omega)
        · refine rsf_gi (fun z9 q9 => ?_)
          refine rsf_rd ⟨by omega, by show _ < ((140000 : Nat) : Int); omega⟩ (fun z10 q10 => ?_)
          exact wr ⟨by decide, by decide⟩ (q10 ▸ X.1.2 _ _) (fun Y b e => q_tables78 Y (fun q => absurd q b))
      · refine rsf_gi (fun z9 q9 => ?_)
        refine rsf_rd ⟨by omega, by show _ < ((140000 : Nat) : Int); omega⟩ (fun z10 q10 => ?_)
        exact wr ⟨by decide, by decide⟩ (q10 ▸ X.1.2 _ _) (fun Y b e => q_tables78 Y (fun q => absurd q b))
  · refine rsf_gi (fun z24 q24 => ?_)
    refine rsf_cl (t_wrong (by omega) X.1 X.2.1 X.2.2.1 ⟨by decide, by decide⟩ (q24 ▸ X.1.1 77)) (fun s9 z10 f => ?_)
    obtain ⟨f1, f2, f3, f4⟩ := f
    exact rsf_some ⟨⟨by decide, by decide⟩, f1, fun _ => ⟨f3, f4⟩⟩
end RTC
