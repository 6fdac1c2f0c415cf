section RFD2
variable {σ σ' σ'' σ0 σh s s' A B : RS} {d : Nat} {r w w' lo hi l h R N m K : Int} {Q : RS → Int → Prop}
/-- fewer names are known -/
theorem HG.cut (H : HG N σ) (hK : 0 ≤ K ∧ K ≤ σ.1 27) (e : s.2 = σ.2) (e27 : s.1 27 = K) (e20 : s.1 20 = σ.1 20) : HG (NK σ K) s := by
  obtain ⟨⟨g1, g2, g3, g4, g5, g6, g7, g8⟩, h2, h3, h4⟩ := H
  have nk : ∀ k, NK s k = NK σ k := fun k => NK.eq (by rw [e]) k
  refine ⟨?_, h2.eq (by rw [e]) (by rw [e]), by rw [e27, nk], fun k k0 k1 => ?_⟩
  · unfold HS
    rw [e, e27, e20]
    exact ⟨by omega, g2, g3, g4, g5, g6, g7, g8⟩
  · rw [e27] at k1
    obtain ⟨⟨y1, y2⟩, y3⟩ := h4 k k0 (by omega)
    refine ⟨⟨by rw [nk]; exact y1, fun k' a b => by rw [nk, nk]; exact y2 k' a (by omega)⟩, fun j j0 j1 => ?_⟩
    rw [nk, e]
    exact y3 j j0 j1
/-- back to a mark -/
theorem q_back (hd : 2 ≤ d) (H : HO m σ) (hm : m + 1 ≤ 512) : rsf (RF d 75 σ []) (fun s b => FP m σ s ∧ s.1 3 = σ.1 3 ∧ ((σ.1 29 = 0 ∧ s.1 29 = σ.1 29 ∧ s.1 1 = 1) ∨ (σ.1 29 ≠ 0 ∧ s.1 29 = σ.1 29 - 1 ∧ s.1 1 = 0))) := by
  rw [rq_back (by omega)]
  refine rsf_fin ?_
  unfold pf_back_0
  refine rsf_pi (fun s1 w1 => ?_)
  have C := CX.p H.1 w1 ⟨by decide, by decide⟩
  have v1 := rs_i_e w1
  have H1 := CX.ho H C
  have n29 := C.2.2 29 (by decide)
  have n63 := C.2.2 63 (by decide)
  have n3 := C.2.2 3 (by decide)
  obtain ⟨h0, h1, h2, h3, h4, h5, h6, h7, h8, ⟨h9, h9'⟩, h10, h11⟩ := H1
  have h27 := h1.1.1
  refine rsf_gi (fun z2 q2 => rsf_if (fun c => ?_) (fun c => ?_))
  · refine rsf_gi (fun z4 q4 => rsf_ck ⟨by omega, by omega⟩ (fun z5 q5 => rsf_pi (fun s6 w6 => rsf_gi (fun z7 q7 => ?_))))
    have v29 := rs_i_e w6
    have e7 : z7 = z5 := by omega
    subst e7
    refine rsf_rd ⟨by omega, by show _ < ((20 : Nat) : Int); omega⟩ (fun z8 q8 => ?_)
    rw [rs_i_2 w6] at q8
    obtain ⟨k0, _, k1⟩ := h9' z7 z7 (by omega) (Int.le_refl _) (by omega)
    rw [q8] at k0 k1
    refine rsf_pi (fun s9 w9 => rsf_gi (fun z10 q10 => ?_))
    have n9 : ∀ j, j ≠ 27 → j ≠ 29 → s9.1 j = s1.1 j := fun j a b => by rw [rs_i_n w9 a, rs_i_n w6 b]
    have v27 := rs_i_e w9
    have e9 : s9.2 = s1.2 := by rw [rs_i_2 w9, rs_i_2 w6]
    have I9 := (C.1.p w6 (x := z7) ⟨by omega, by omega⟩).p w9 (x := z8) ⟨by omega, by omega⟩
    have t29 : s9.1 29 = z7 := by rw [rs_i_n w9 (by decide)]; exact v29
    have GKz := h1.2.2.2 z8 k0 k1
    have h39 := h1.2.2.1
    have fin : ∀ {y : Int}, y = NK s1 z8 → rsf (rf_pi s9 39 y (fun s15 => rf_gi s15 27 (fun z16 => some (s15, z16)))) (fun s b => inR b ∧ FP m σ s ∧ s.1 3 = σ.1 3 ∧ ((σ.1 29 = 0 ∧ s.1 29 = σ.1 29 ∧ s.1 1 = 1) ∨ (σ.1 29 ≠ 0 ∧ s.1 29 = σ.1 29 - 1 ∧ s.1 1 = 0))) := fun {y} hy => by
      refine rsf_pi (fun s15 w15 => rsf_gi (fun z16 q16 => ?_))
      have le := GKz.1.2 (s1.1 27) k1 (Int.le_refl _)
      have g8 := GKz.1.1
      have n15 : ∀ j, j ≠ 39 → j ≠ 27 → j ≠ 29 → s15.1 j = s1.1 j := fun j a b c => by rw [rs_i_n w15 a, n9 j b c]
      have v39 := rs_i_e w15
      have e15 : s15.2 = s1.2 := by rw [rs_i_2 w15, e9]
      have u27 : s15.1 27 = z8 := by rw [rs_i_n w15 (by decide)]; exact v27
      have u29 : s15.1 29 = z7 := by rw [rs_i_n w15 (by decide)]; exact t29
      have I15 := I9.p w15 (x := y) ⟨by omega, by omega⟩
      have mk : MK s15 := by
        refine ⟨by omega, fun i j a b c' => ?_⟩
        rw [e15, u27]
        obtain ⟨x1, x2, _⟩ := h9' i j a b (by omega)
        obtain ⟨_, x3, _⟩ := h9' j z7 (by omega) (by omega) (by omega)
        rw [q8] at x3
        exact ⟨x1, x2, x3⟩
      have HG15 : HG (s15.1 39) s15 := by
        rw [v39, hy]
        exact h1.cut ⟨k0, k1⟩ e15 u27 (n15 20 (by decide) (by decide) (by decide))
      have a63 := n15 63 (by decide) (by decide) (by decide)
      have a65 := n15 65 (by decide) (by decide) (by decide)
      have a3 := n15 3 (by decide) (by decide) (by decide)
      have a75 := n15 75 (by decide) (by decide) (by decide)
      have a72 := n15 72 (by decide) (by decide) (by decide)
      have a15 := n15 15 (by decide) (by decide) (by decide)
      have a10 := n15 10 (by decide) (by decide) (by decide)
      have a11 := n15 11 (by decide) (by decide) (by decide)
      have a1 := n15 1 (by decide) (by decide) (by decide)
      refine rsf_some ⟨⟨by omega, by omega⟩, ⟨⟨I15, HG15, by omega, by omega, ⟨by omega, by omega, by omega⟩, by omega, by omega, by omega, by omega, mk, by omega, by omega⟩, by omega⟩, by omega, Or.inr ⟨by omega, by omega, by omega⟩⟩
    refine rsf_if (fun c10 => ?_) (fun c10 => ?_)
    · refine rsf_gi (fun z12 q12 => rsf_ck ⟨by omega, by omega⟩ (fun z13 q13 => ?_))
      refine rsf_rd ⟨by omega, by show _ < ((100 : Nat) : Int); omega⟩ (fun z14 q14 => ?_)
      refine fin ?_
      unfold NK
      rw [if_neg (by omega), ← q14, e9]
      have : z13 = z8 - 1 := by omega
      rw [this]
    · refine fin ?_
      unfold NK
      rw [if_pos (by omega)]
  · refine rsf_cl (q_fail (by omega) C.1 ⟨by decide, by decide⟩) (fun s2 z2 f => ?_)
    obtain ⟨f1, f2, f3, f4, f5⟩ := f
    have C2 : CX σ s2 := C.trans ⟨f2, f3, f5⟩
    have X := C2.fx H hm
    exact rsf_some ⟨⟨by omega, by omega⟩, X.1, X.2.2, Or.inl ⟨by omega, X.2.1, f4⟩⟩
/-- after begin, machine work, drop: the house between calls again -/
theorem HO.work {s0 s1 s2 s3 s4 : RS} (H : HO m s0) (hm : m + 1 ≤ 512) (e39 : s1.1 62 = s0.1 39) (H1 : HG (s1.1 62) s1) (F : KF (s1.1 62) s1 s2) (M2 : M0 r s2) (k1 : ∀ j, j < 43 ∨ 71 < j → j ≠ 72 → j ≠ 75 → j ≠ 39 → j ≠ 15 → s1.1 j = s0.1 j) (k63 : s1.1 63 = s0.1 63) (k65 : s1.1 65 = s0.1 65) (k64 : s1.1 64 = 0) (k28 : s1.2 28 = s0.2 28) (I3 : IR s3) (e3 : s3.2 = s2.2) (v39 : s3.1 39 = s2.1 62) (n3 : ∀ j, j ≠ 39 → s3.1 j = s2.1 j) (w4 : s4 = rs_i s3 72 0) (h15 : s2.1 15 = 0) : FX m s0 s4 := by
  obtain ⟨h0, h1, h2, h3, h4, h5, h6, h7, h8, h9, h10, h11⟩ := H
  obtain ⟨b1, b2, b3, b4, b5, b6, b7, b8, b9, b10, b11⟩ := M2.2.1
  have e4 : s4.2 = s2.2 := by rw [rs_i_2 w4, e3]
  have n4 : ∀ j, j ≠ 39 → j ≠ 72 → s4.1 j = s2.1 j := fun j a b => by rw [rs_i_n w4 b, n3 j a]
  have u39 : s4.1 39 = s2.1 62 := by rw [rs_i_n w4 (by decide), v39]
  have u72 : s4.1 72 = 0 := rs_i_e w4
  have f62 : s2.1 62 = s1.1 62 := F.1 62 rfl (by decide)
  have D := F.2.2.2
  have g : ∀ j, jn j = false → (j < 43 ∨ 71 < j) → j ≠ 72 → j ≠ 75 → j ≠ 39 → j ≠ 15 → s4.1 j = s0.1 j := fun j a b c d e f => by
    rw [n4 j e c, F.1 j a d, k1 j b c d e f]
  have a3 := g 3 rfl (by omega) (by decide) (by decide) (by decide) (by decide)
  have a10 := g 10 rfl (by omega) (by decide) (by decide) (by decide) (by decide)
  have a11 := g 11 rfl (by omega) (by decide) (by decide) (by decide) (by decide)
  have a29 := g 29 rfl (by omega) (by decide) (by decide) (by decide) (by decide)
  have a27 := g 27 rfl (by omega) (by decide) (by decide) (by decide) (by decide)
  have a63 : s4.1 63 = s0.1 63 := by rw [n4 63 (by decide) (by decide), F.1 63 rfl (by decide), k63]
  have a65 := n4 65 (by decide) (by decide)
  have a75 := n4 75 (by decide) (by decide)
  have a15 := n4 15 (by decide) (by decide)
  have H4 : HG (s4.1 39) s4 := by
    rw [u39, f62]
    exact (H1.kf F M2).n e4 (n4 27 (by decide) (by decide)) (n4 20 (by decide) (by decide))
  have mk : MK s4 := h9.eq a29 (by rw [e4, F.2.1 28 rfl, k28]) (by omega)
  exact ⟨⟨⟨I3.p w4 ⟨by decide, by decide⟩, H4, by omega, by omega, ⟨by omega, by omega, by omega⟩, by omega, by omega, u72, by omega, mk, by omega, by omega⟩, a63⟩, a29, a3⟩
theorem q_type {x : Int} (hd : 115 ≤ d) (H : HO m σ) (hm : m + 1 ≤ 512) : rsf (RF d 72 σ [x]) (fun s _ => FX m σ s) := by
  rw [rq_type (by omega)]
  refine rsf_fin ?_
  unfold pf_type_0
  refine rsf_pi (fun s1 w1 => ?_)
  have C := CX.p H.1 w1 ⟨by decide, by decide⟩
  have H1 := CX.ho H C
  have n27 := C.2.2 27 (by decide)
  have no : rsf (pf_type_17 (RF (d - 1)) s1) (fun s b => inR b ∧ FX m σ s) := by
    unfold pf_type_17
    exact rsf_mono (c_fail (n := 0) (by omega) C rfl) (fun s b u => ⟨u.1, u.2.fx H hm⟩)
  have lift : ∀ {s : RS}, FX m s1 s → FX m σ s := fun {s} X => ⟨⟨X.1.1, X.1.2.trans (C.2.2 63 (by decide))⟩, X.2.1.trans (C.2.2 29 (by decide)), X.2.2.trans (C.2.2 3 (by decide))⟩
  have H1' := H1
  obtain ⟨h0, h1, h2, h3, h4, h5, h6, h7, h8, h9, h10, h11⟩ := H1'
  have h27 := h1.1.1
  refine rsf_if (fun _ => no) (fun c1 => rsf_gi (fun z3 q3 => rsf_if (fun c3 => ?_) (fun _ => no)))
  refine rsf_cl (q_begin (by omega) h0 h1 h2 h3 (by omega) h6 (by omega)) (fun s5 z6 f => ?_)
  obtain ⟨M5, H5, e5, n5, v43, v59, v51, v62, v64⟩ := f
  refine rsf_pi (fun s7 w7 => rsf_pi (fun s8 w8 => ?_))
  have b3 := M5.2.1.2.2.1
  obtain ⟨M7, F7⟩ := M5.p75 w7 ⟨by omega, by omega⟩
  have i72 : s7.1 72 = 0 := by
    rw [rs_i_n w7 (by decide)]
    have : s5.1 72 = s1.1 72 := by apply n5 <;> decide
    omega
  have v72 := rs_i_e w8
  have W8 := fun (w : Int) => M7.wrong (w := w) (M7.1.p w8 ⟨by decide, by decide⟩) (rs_i_2 w8) (fun j a _ => rs_i_n w8 a) (fun q => absurd i72 q) (by omega)
  have M8 := (W8 0).1
  have F8 : ∀ w, MF w s5 s8 := fun w => (F7 w).trans (W8 w).2.1
  have n8 : ∀ j, j ≠ 75 → j ≠ 72 → s8.1 j = s5.1 j := fun j a b => by rw [rs_i_n w8 b, rs_i_n w7 a]
  have e8 : s8.2 = s1.2 := by rw [rs_i_2 w8, rs_i_2 w7, e5]
  have j27 : s8.1 27 = s1.1 27 := by
    rw [n8 27 (by decide) (by decide)]
    apply n5 <;> decide
  refine rsf_rd ⟨by omega, by show _ < ((100 : Nat) : Int); omega⟩ (fun z9 q9 => ?_)
  have kv := (M8.2.2.2.1 x (by omega) (by omega)).2
  rw [q9] at kv
  have i51 : s8.1 51 = 0 := by rw [n8 51 (by decide) (by decide)]; exact v51
  refine rsf_cl (q_tell 100 (by omega) (by omega) (by omega) ⟨by omega, by omega⟩ M8 (WT.zero i51) (co_ty kv)) (fun s10 z11 f => ?_)
  obtain ⟨T10, _⟩ := f
  have M10 := T10.1.1
  have F10 := T10.1.2
  refine rsf_cl (q_drop (by omega) M10.1) (fun s12 z13 f => ?_)
  obtain ⟨I12, e12, v39, n12⟩ := f
  have b72 := M10.2.1.2.2.2.2.2.2.2.2.2.1
  have z72 := n12 72 (by decide)
  have l39 : s5.1 62 ≤ s5.1 39 := by
    have : s5.1 39 = s1.1 39 := by apply n5 <;> decide
    omega
  have l8 := (F8 0).2.2.1.1
  refine rsf_gi (fun z14 q14 => rsf_pi (fun s15 w15 => ?_))
  have K : KF (s5.1 62) s5 s10 := ((F8 0).kf l39).trans (F10.kf (by omega))
  have X : FX m s1 s15 := HO.work H1 hm v62 H5 K M10 (fun j a _ _ _ _ => by apply n5 <;> omega) (by apply n5 <;> decide) (by apply n5 <;> decide) v64 (by rw [e5]) I12 e12 v39 n12 w15 (by
    rw [K.1 15 rfl (by decide)]
    have : s5.1 15 = s1.1 15 := by apply n5 <;> decide
    omega)
  refine rsf_if (fun _ => ?_) (fun _ => ?_)
  · exact rsf_ck ⟨by omega, by omega⟩ (fun z17 q17 => rsf_some ⟨⟨by omega, by omega⟩, lift X⟩)
  · exact rsf_gi (fun z18 q18 => rsf_some ⟨q18 ▸ X.1.1.1.1 75, lift X⟩)
end RFD2
