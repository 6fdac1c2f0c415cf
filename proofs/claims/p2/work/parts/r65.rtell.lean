section RTE
variable {σ σ' σ'' σ0 s : RS} {d : Nat} {S V T U : Int → Prop} {r w w' : Int} {Q : RS → Int → Prop}
/-- signs put into the answer -/
def PP (r n : Int) (σ s : RS) : Prop := M0 r s ∧ (∀ w, MF w σ s) ∧ (σ.1 75 ≤ s.1 75 ∧ s.1 75 ≤ σ.1 75 + n) ∧ (∀ j, j ≠ 75 → s.1 j = σ.1 j) ∧ (∀ k, k ≠ 74 → s.2 k = σ.2 k)
theorem PP.trans {n m : Int} (h : PP r n σ σ') (k : PP r m σ' σ'') : PP r (n + m) σ σ'' := by
  obtain ⟨a1, a2, a3, a4, a5⟩ := h
  obtain ⟨b1, b2, b3, b4, b5⟩ := k
  exact ⟨b1, fun w => (a2 w).trans (b2 w), by omega, fun j hj => (b4 j hj).trans (a4 j hj), fun k hk => (b5 k hk).trans (a5 k hk)⟩
theorem PP.refl (M : M0 r σ) : PP r 0 σ σ := ⟨M, fun _ => MF.refl, by omega, fun _ _ => rfl, fun _ _ => rfl⟩
theorem M0.p75 {x : Int} (M : M0 r σ) (q : s = rs_i σ 75 x) (hx : 0 ≤ x ∧ x ≤ 100 * σ.1 65 + 1000000) : M0 r s ∧ (∀ w, MF w σ s) := by
  have F : ∀ w, MF w σ s := fun w => MF.p q rfl (by decide) (by decide) (by decide)
  obtain ⟨b1, b2, b3, b4, b5, b6, b7, b8, b9, b10, b11⟩ := M.2.1
  have n : ∀ j, j ≠ 75 → s.1 j = σ.1 j := fun j hj => rs_i_n q hj
  refine ⟨M.mf (F 0) (M.1.p q ⟨by omega, by omega⟩) ?_ (M.2.2.2.2.eq (by rw [rs_i_2 q]) (by rw [rs_i_2 q])), F⟩
  unfold BG
  rw [rs_i_e q, n 63 (by decide), n 64 (by decide), n 65 (by decide), n 48 (by decide), n 51 (by decide), n 39 (by decide), n 57 (by decide), n 66 (by decide), n 67 (by decide), n 68 (by decide), n 69 (by decide), n 70 (by decide), n 71 (by decide), n 72 (by decide), n 62 (by decide)]
  exact ⟨b1, b2, b3, b4, b5, b6, b7, hx, b9, b10, b11⟩
theorem q_put20 {rec : Nat → RS → List Int → RO} (M : M0 r σ) (h : σ.1 75 + 1 ≤ 100 * σ.1 65 + 1000000) : rsf (pf_put_20 rec σ) (fun s b => inR b ∧ PP r 1 σ s) := by
  unfold pf_put_20
  have b3 := M.2.1.2.2.1
  have b8 := M.2.1.2.2.2.2.2.2.2.1
  refine rsf_gi (fun z1 q1 => rsf_ck ⟨by omega, by omega⟩ (fun z2 q2 => rsf_pi (fun s3 w3 => ?_)))
  obtain ⟨M3, F3⟩ := M.p75 w3 ⟨by omega, by omega⟩
  exact rsf_some ⟨⟨by decide, by decide⟩, M3, F3, by rw [rs_i_e w3]; omega, fun j hj => rs_i_n w3 hj, fun k _ => by rw [rs_i_2 w3]⟩
theorem q_put {x : Int} (hd : 1 ≤ d) (M : M0 r σ) (h : σ.1 75 + 1 ≤ 100 * σ.1 65 + 1000000) (hx : inR x) : rsf (RF d 37 σ [x]) (fun s _ => PP r 1 σ s) := by
  rw [rq_put (by omega)]
  refine rsf_fin ?_
  unfold pf_put_0
  have b8 := M.2.1.2.2.2.2.2.2.2.1
  refine rsf_gi (fun z1 q1 => rsf_if (fun c => ?_) (fun c => ?_))
  · exact q_put20 M h
  · refine rsf_gi (fun z3 q3 => rsf_wr ⟨by omega, by show _ < ((3000 : Nat) : Int); omega⟩ (fun s4 w4 => ?_))
    have F : ∀ w, MF w σ s4 := fun w => MF.a w4 (by omega) (Or.inl rfl)
    obtain ⟨M4, _⟩ := M.a w4 (F 0) hx ⟨by decide, by decide⟩
    have e := rs_a_1 w4
    refine rsf_mono (q_put20 M4 (by rw [e]; exact h)) (fun s b f => ⟨f.1, ?_⟩)
    obtain ⟨a1, a2, a3, a4, a5⟩ := f.2
    rw [e] at a3
    exact ⟨a1, fun w => (F w).trans (a2 w), a3, fun j hj => (a4 j hj).trans (by rw [e]), fun k hk => (a5 k hk).trans (rs_a_k w4 hk)⟩
theorem q_number14 {x : Int} (hd : 1 ≤ d) (M : M0 r σ) (h : σ.1 75 + 1 ≤ 100 * σ.1 65 + 1000000) (hx : inR x) : rsf (pf_number_14 (RF d) σ x) (fun s b => inR b ∧ PP r 1 σ s) := by
  unfold pf_number_14
  refine rsf_nm (fun z1 q1 => ?_)
  have := rn_rem_10 hx
  refine rsf_ck ⟨by omega, by omega⟩ (fun z2 q2 => ?_)
  exact rsf_cl (q_put hd M h ⟨by omega, by omega⟩) (fun s z f => rsf_some ⟨⟨by decide, by decide⟩, f⟩)
theorem q_number' : ∀ (k : Nat) {d : Nat} {σ : RS} {x : Int}, k + 2 ≤ d → M0 r σ → inR x → x < 10 ^ (k + 1) → σ.1 75 + k + 1 ≤ 100 * σ.1 65 + 1000000 → rsf (RF d 38 σ [x]) (fun s _ => PP r (k + 1) σ s) := by
  intro k
  induction k with
  | zero =>
    intro d σ x hd M hx hk h
    rw [rq_number (by omega)]
    refine rsf_fin ?_
    unfold pf_number_0
    refine rsf_if (fun c => ?_) (fun c => ?_)
    · exact rsf_mono (q_number14 (by omega) M (by omega) hx) (fun s b f => ⟨f.1, f.2⟩)
    · exfalso; simp at hk; omega
  | succ k ih =>
    intro d σ x hd M hx hk h
    rw [rq_number (by omega)]
    refine rsf_fin ?_
    unfold pf_number_0
    refine rsf_if (fun c => ?_) (fun c => ?_)
    · refine rsf_mono (q_number14 (by omega) M (by omega) hx) (fun s b f => ⟨f.1, ?_⟩)
      obtain ⟨a1, a2, a3, a4, a5⟩ := f.2
      exact ⟨a1, a2, by omega, a4, a5⟩
    · refine rsf_nm (fun z2 q2 => ?_)
      rw [rn_div_10 ⟨by omega, hx.2⟩] at q2
      have hz : z2 < 10 ^ (k + 1) := by
        rw [Int.pow_succ] at hk
        omega
      refine rsf_cl (ih (by omega) M ⟨by omega, by omega⟩ hz (by omega)) (fun s3 z4 f => ?_)
      have f3 := f.2.2.1
      have f65 := f.2.2.2.1 65 (by decide)
      refine rsf_mono (q_number14 (by omega) f.1 (by omega) hx) (fun s b g => ⟨g.1, ?_⟩)
      have t := f.trans g.2
      have e : ((k : Int) + 1 + 1) = (((k + 1 : Nat) : Int) + 1) := by omega
      rw [e] at t
      exact t
theorem q_number {x : Int} (hd : 11 ≤ d) (M : M0 r σ) (hx : inR x) (h : σ.1 75 + 10 ≤ 100 * σ.1 65 + 1000000) : rsf (RF d 38 σ [x]) (fun s _ => PP r 10 σ s) :=
  q_number' 9 hd M hx (by
    have h2 := hx.2
    have h3 : (10 : Int) ^ (9 + 1) = 10000000000 := by decide
    omega) (by omega)
theorem q_putWord3 {b2 x1 x3 : Int} (hd : 1 ≤ d) (hb : (b2 = 21 ∧ 0 ≤ x1 ∧ x1 + x3 ≤ 1200) ∨ (b2 = 16 ∧ 0 ≤ x1 ∧ x1 + x3 ≤ 96)) (h3 : x3 ≤ 12) : ∀ (n : Nat) {σ : RS} {x4 : Int}, M0 r σ → (0 ≤ x4 ∧ x4 ≤ 12) → x3 - x4 + 1 ≤ (n : Int) → 1 ≤ n → σ.1 75 + (12 - x4) ≤ 100 * σ.1 65 + 1000000 → rsf (pf_putWord_3 (RF d) b2 n σ x1 x3 x4) (fun s b => inR b ∧ PP r (12 - x4) σ s) := by
  intro n
  induction n with
  | zero => intro σ x4 _ _ _ h; omega
  | succ n ih =>
    intro σ x4 M h4 hn _ h
    unfold pf_putWord_3
    refine rsf_if (fun c => ?_) (fun c => ?_)
    · obtain ⟨a1, a2, a3, a4, a5⟩ := PP.refl M
      exact rsf_some ⟨⟨by decide, by decide⟩, a1, a2, by omega, a4, a5⟩
    · refine rsf_ck ⟨by omega, by omega⟩ (fun z2 q2 => ?_)
      have hi : 0 ≤ z2 ∧ z2 < (rf_len (Int.toNat b2) : Int) := by
        rcases hb with ⟨rfl, g⟩ | ⟨rfl, g⟩
        · exact ⟨by omega, by show _ < ((1200 : Nat) : Int); omega⟩
        · exact ⟨by omega, by show _ < ((96 : Nat) : Int); omega⟩
      refine rsf_rd hi (fun z3 q3 => ?_)
      refine rsf_cl (q_put hd M (by omega) (q3 ▸ M.1.2 _ _)) (fun s4 z5 f => ?_)
      have f3 := f.2.2.1
      have f65 := f.2.2.2.1 65 (by decide)
      refine rsf_ck ⟨by omega, by omega⟩ (fun z6 q6 => ?_)
      refine rsf_mono (ih f.1 (by omega) (by omega) (by omega) (by omega)) (fun s b g => ⟨g.1, ?_⟩)
      have t := f.trans g.2
      have e : 1 + (12 - z6) = 12 - x4 := by omega
      rw [e] at t
      exact t
theorem q_putWord {b2 x1 x3 : Int} (hd : 2 ≤ d) (hb : (b2 = 21 ∧ 0 ≤ x1 ∧ x1 + x3 ≤ 1200) ∨ (b2 = 16 ∧ 0 ≤ x1 ∧ x1 + x3 ≤ 96)) (h3 : x3 ≤ 12) (M : M0 r σ) (h : σ.1 75 + 12 ≤ 100 * σ.1 65 + 1000000) : rsf (RF d 39 σ [x1, b2, x3]) (fun s _ => PP r 12 σ s) := by
  rw [rq_putWord (by omega)]
  refine rsf_fin ?_
  unfold pf_putWord_0
  exact q_putWord3 (by omega) hb h3 200000 M ⟨by omega, by omega⟩ (by omega) (by omega) (by omega)
/-- within a telling: c cells, e signs are paid for -/
def TSl (c e r : Int) (σ0 σ : RS) : Prop := (M0 r σ ∧ MF (σ0.1 51) σ0 σ) ∧ (σ0.1 64 ≤ σ.1 64 ∧ σ.1 65 = σ0.1 65 + (σ.1 64 - σ0.1 64) ∧ σ.1 48 + c ≤ σ0.1 48 + 2 * (σ.1 64 - σ0.1 64) ∧ σ.1 75 + e ≤ σ0.1 75 + 100 * (σ.1 64 - σ0.1 64) ∧ σ.1 57 ≤ σ0.1 57 + (σ.1 64 - σ0.1 64)) ∧ (σ.1 39 = σ0.1 39 ∧ ∀ k, k < 44 ∨ 50 < k → k ≠ 74 → σ.2 k = σ0.2 k)
theorem TSl.pp {c e n : Int} (h : TSl c e r σ0 σ) (p : PP r n σ s) : TSl c (e - n) r σ0 s := by
  obtain ⟨⟨h1, h2⟩, h3, h4, h5⟩ := h
  obtain ⟨a1, a2, a3, a4, a5⟩ := p
  have e64 := a4 64 (by decide)
  have e65 := a4 65 (by decide)
  have e48 := a4 48 (by decide)
  have e57 := a4 57 (by decide)
  have e39 := a4 39 (by decide)
  exact ⟨⟨a1, h2.trans (a2 _)⟩, by omega, by omega, fun k hk h74 => (a5 k h74).trans (h5 k hk h74)⟩
theorem TSl.rm {c e : Int} (h : TSl c e r σ0 σ) (B : BG r σ0) : σ.1 75 + e ≤ 100 * σ.1 65 + 1000000 := by
  have b8 := B.2.2.2.2.2.2.2.1
  have := h.2.1
  omega
theorem TSl.le {c e c' e' : Int} (h : TSl c e r σ0 σ) (hc : c' ≤ c) (he : e' ≤ e) : TSl c' e' r σ0 σ := by
  obtain ⟨h1, h2, h3⟩ := h
  exact ⟨h1, by omega, h3⟩
/-- what telling comes to -/
def TP (r : Int) (σ s : RS) : Prop := TSl 0 0 r σ s ∧ (s.1 72 = 0 → s.1 51 = σ.1 51 ∧ TSl 0 50 r σ s)
theorem TSl.tp {c e : Int} (h : TSl c e r σ0 σ) (p : TP r σ s) (h51 : σ0.1 51 ≤ σ.1 51) : TSl c e r σ0 s ∧ (s.1 72 = 0 → s.1 51 = σ.1 51 ∧ TSl c (e + 50) r σ0 s) := by
  have gen : ∀ {x : Int}, TSl 0 x r σ s → TSl c (e + x) r σ0 s := fun {x} q => by
    obtain ⟨⟨h1, h2⟩, h3, h4, h5⟩ := h
    obtain ⟨⟨q1, q2⟩, q3, q4, q5⟩ := q
    exact ⟨⟨q1, h2.trans (q2.le h51)⟩, by omega, by omega, fun k hk h74 => (q5 k hk h74).trans (h5 k hk h74)⟩
  refine ⟨?_, fun q => ⟨(p.2 q).1, gen (p.2 q).2⟩⟩
  have t := gen p.1
  rw [Int.add_zero] at t
  exact t
/-- the end of a telling -/
theorem q_tell382 {x6 x11 : Int} (hd : 1 ≤ d) (B : BG r σ0) (H : TSl 0 0 r σ0 σ) (H' : σ.1 72 = 0 → TSl 0 51 r σ0 σ) (h6 : x6 = σ0.1 51) : rsf (pf_tell_382 (RF d) σ x6 x11) (fun s b => inR b ∧ TP r σ0 s) := by
  unfold pf_tell_382
  have b4 := B.2.2.2.1
  refine rsf_gi (fun z1 q1 => rsf_if (fun c => ?_) (fun c => ?_))
  · have H'' := H' (q1.trans c)
    have h3 := H''.2.1
    refine rsf_pi (fun s3 w3 => ?_)
    obtain ⟨M3, F3, P3⟩ := H''.1.1.p51 w3 ⟨by omega, by omega⟩
    have n : ∀ j, j ≠ 51 → s3.1 j = σ.1 j := fun j hj => rs_i_n w3 hj
    have T3 : TSl 0 51 r σ0 s3 := by
      obtain ⟨⟨_, h2⟩, h3, h4, h5⟩ := H''
      refine ⟨⟨M3, h2.trans (F3 _)⟩, ?_, ?_, fun k hk h74 => by rw [rs_i_2 w3]; exact h5 k hk h74⟩
      · rw [n 64 (by decide), n 65 (by decide), n 48 (by decide), n 75 (by decide), n 57 (by decide)]; exact h3
      · rw [n 39 (by decide)]; exact h4
    have e51 := rs_i_e w3
    refine rsf_if (fun c2 => ?_) (fun c2 => ?_)
    · exact rsf_some ⟨⟨by decide, by decide⟩, T3.le (by omega) (by omega), fun _ => ⟨by omega, T3.le (by omega) (by omega)⟩⟩
    · refine rsf_cl (q_put hd M3 (by have := T3.rm B; omega) ⟨by decide, by decide⟩) (fun s5 z6 f => ?_)
      have T5 := T3.pp f
      have m51 := f.2.2.2.1 51 (by decide)
      exact rsf_some ⟨⟨by decide, by decide⟩, T5.le (by omega) (by omega), fun _ => ⟨by omega, T5.le (by omega) (by omega)⟩⟩
  · exact rsf_some ⟨⟨by decide, by decide⟩, H, fun q => absurd (q1.symm.trans q) c⟩
theorem q_tell323 {x3 x4 x6 x11 x12 : Int} (hd : 1 ≤ d) (hx3 : 0 ≤ x3 ∧ x3 ≤ 100) (B : BG r σ0) (h6 : x6 = σ0.1 51) (h12 : x6 ≤ x12 ∧ x12 ≤ 20000) (tell : ∀ {s : RS} {a b : Int}, M0 r s → WT s none0 inR → COs s none0 inR a b → rsf (RF d 40 s [a, b, x3 + 1, x4, 2]) (fun s' _ => TP r s s')) : ∀ (n : Nat) {σ : RS} {x13 : Int}, TSl 0 0 r σ0 σ → (σ.1 72 = 0 → TSl 0 55 r σ0 σ ∧ σ.1 51 = x12 ∧ WT σ none0 inR) → 1 ≤ x13 → x12 - x13 + 3 ≤ (n : Int) → 1 ≤ n → rsf (pf_tell_323 (RF d) n σ x3 x4 x6 x11 x12 x13) (fun s b => inR b ∧ TP r σ0 s) := by
  intro n
  have b4 := B.2.2.2.1
  induction n with
  | zero => intro σ x13 _ _ _ _ h; omega
  | succ n ih =>
    intro σ x13 H H' h13 hn _
    unfold pf_tell_323
    have fin : rsf (pf_tell_382 (RF d) σ x6 x11) (fun s b => inR b ∧ TP r σ0 s) := q_tell382 hd B H (fun q => (H' q).1.le (by omega) (by omega)) h6
    refine rsf_gi (fun z1 q1 => rsf_if (fun c => fin) (fun c => ?_))
    obtain ⟨H1, h51, hW⟩ := H' (by omega)
    refine rsf_ck ⟨by omega, by omega⟩ (fun z3 q3 => rsf_if (fun c3 => fin) (fun c3 => ?_))
    refine rsf_cl (q_put hd H.1.1 (by have := H1.rm B; omega) ⟨by decide, by decide⟩) (fun s5 z6 f => ?_)
    have T5 := H1.pp f
    obtain ⟨M5, F5, f3, f4, f5⟩ := f
    have e51 := f4 51 (by decide)
    have hW5 : WT s5 none0 inR := hW.mf (F5 x12) (by omega) (by omega)
    refine rsf_ck ⟨by omega, by omega⟩ (fun z7 q7 => ?_)
    refine rsf_rd ⟨by omega, by show _ < ((21000 : Nat) : Int); omega⟩ (fun z8 q8 => ?_)
    refine rsf_ck ⟨by omega, by omega⟩ (fun z9 q9 => ?_)
    refine rsf_rd ⟨by omega, by show _ < ((21000 : Nat) : Int); omega⟩ (fun z10 q10 => ?_)
    refine rsf_ck ⟨by omega, by omega⟩ (fun z11 q11 => ?_)
    have C := hW5 z7 (by omega) (by omega)
    have e9 : z9 = z7 := by omega
    subst e9 q11
    rw [q8, q10] at C
    refine rsf_cl (tell M5 hW5 C) (fun s12 z13 g => ?_)
    have T12 := T5.tp g (by omega)
    refine rsf_ck ⟨by omega, by omega⟩ (fun z14 q14 => ?_)
    refine ih (T12.1.le (by omega) (by omega)) (fun q => ?_) (by omega) (by omega) (by omega)
    obtain ⟨t1, t2⟩ := T12.2 q
    exact ⟨t2.le (by omega) (by omega), by omega, hW5.mf g.1.1.2 (by omega) (by omega)⟩
theorem q_tell314 {x3 x4 x6 x11 : Int} (hd : 1 ≤ d) (hx3 : 0 ≤ x3 ∧ x3 ≤ 100) (B : BG r σ0) (h6 : x6 = σ0.1 51) (h51 : σ0.1 51 ≤ σ.1 51) (tell : ∀ {s : RS} {a b bd hw : Int}, (0 ≤ bd ∧ bd ≤ x3 + 1) → M0 r s → WT s none0 inR → COs s none0 inR a b → rsf (RF d 40 s [a, b, x3 + 1, bd, hw]) (fun s' _ => TP r s s')) (h4 : 0 ≤ x4 ∧ x4 ≤ x3) (H : TSl 0 55 r σ0 σ) (hW : WT σ none0 inR) : rsf (pf_tell_314 (RF d) σ x3 x4 x6 x11) (fun s b => inR b ∧ TP r σ0 s) := by
  unfold pf_tell_314
  refine rsf_gi (fun z1 q1 => ?_)
  have b := H.1.1.2.1
  have b4 := b.2.2.2.1
  have b2 := b.2.1
  have b1 := b.1
  exact q_tell323 hd hx3 B h6 (by omega) (tell (by omega)) 200000 (H.le (by omega) (by omega)) (fun _ => ⟨H, q1, hW⟩) (by omega) (by omega) (by omega)
theorem TSl.ins {c e : Int} (h : TSl c e r σ0 σ) (M : M0 r s) (F : ∀ w, MF w σ s) (n : ∀ j, j ≠ 48 → s.1 j = σ.1 j) (h48 : s.1 48 = σ.1 48 + 1) (hk : ∀ k, k < 44 ∨ 47 < k → s.2 k = σ.2 k) : TSl (c - 1) e r σ0 s := by
  obtain ⟨⟨_, h2⟩, h3, h4, h5⟩ := h
  have e64 := n 64 (by decide)
  have e65 := n 65 (by decide)
  have e75 := n 75 (by decide)
  have e57 := n 57 (by decide)
  have e39 := n 39 (by decide)
  exact ⟨⟨M, h2.trans (F _)⟩, by omega, by omega, fun k q h74 => (hk k (by omega)).trans (h5 k q h74)⟩
theorem q_tell130 {x3 x4 x6 x7 x8 x11 t0 : Int} (hd : 11 ≤ d) (hx3 : 0 ≤ x3 ∧ x3 ≤ 100) (B : BG r σ0) (h6 : x6 = σ0.1 51) (h51 : σ0.1 51 ≤ σ.1 51) (tell : ∀ {s : RS} {a b bd hw : Int}, (0 ≤ bd ∧ bd ≤ x3 + 1) → M0 r s → WT s none0 inR → COs s none0 inR a b → rsf (RF d 40 s [a, b, x3 + 1, bd, hw]) (fun s' _ => TP r s s')) (h4 : 0 ≤ x4 ∧ x4 ≤ x3) (H : TSl 2 99 r σ0 σ) (hW : WT σ none0 inR) (hC : COs σ none0 inR x7 x8) (h7 : 0 ≤ x7) (hk : 4 ≤ σ.2 30 x7.toNat ∧ σ.2 30 x7.toNat ≤ 6) (ht : inR t0) : rsf (pf_tell_130 (RF d) σ x3 x4 x6 x7 x8 x11 t0) (fun s b => inR b ∧ TP r σ0 s) := by
  unfold pf_tell_130
  have rg := CLU.rg hC
  have bb := H.1.1.2.1
  have b7 := bb.2.2.2.2.2.2.1
  have b3 := bb.2.2.1
  have b11 := bb.2.2.2.2.2.2.2.2.2.2
  have o6 := B.2.2.2.2.2.1
  refine rsf_cl (q_put (by omega) H.1.1 (by have := H.rm B; omega) ht) (fun s1 z2 f1 => ?_)
  have T1 := H.pp f1
  refine rsf_cl (q_put (by omega) T1.1.1 (by have := T1.rm B; omega) ⟨by decide, by decide⟩) (fun s3 z4 f3 => ?_)
  have T3 := T1.pp f3
  refine rsf_cl (q_number (by omega) T3.1.1 ⟨by omega, by omega⟩ (by have := T3.rm B; omega)) (fun s5 z6 f5 => ?_)
  have T5 := T3.pp f5
  refine rsf_cl (q_put (by omega) T5.1.1 (by have := T5.rm B; omega) ⟨by decide, by decide⟩) (fun s7 z8 f7 => ?_)
  have T7 := T5.pp f7
  have p7 := ((f1.trans f3).trans f5).trans f7
  obtain ⟨M7, F7, g3, g4, g5⟩ := p7
  have e51 := g4 51 (by decide)
  have e39 := g4 39 (by decide)
  have hW7 : WT s7 none0 inR := hW.mf (F7 (σ.1 51)) (by omega) (by omega)
  have hC7 : COs s7 none0 inR x7 x8 := hC.mf (F7 0)
  obtain ⟨C2, _⟩ := hC7.bi h7 (by rw [g5 30 (by decide)]; exact hk)
  refine rsf_rd ⟨by omega, by show _ < ((140000 : Nat) : Int); omega⟩ (fun z9 q9 => ?_)
  rw [q9] at C2
  refine rsf_ck ⟨by omega, by omega⟩ (fun z10 q10 => ?_)
  subst q10
  refine rsf_cl (tell ⟨by omega, by omega⟩ M7 hW7 C2) (fun s11 z12 g => ?_)
  have T11 := T7.tp g (by omega)
  have F11 : MF (s7.1 51) s7 s11 := g.1.1.2
  have k11 := g.1.2.2
  refine rsf_gi (fun z13 q13 => rsf_if (fun c => ?_) (fun c => ?_))
  · obtain ⟨t1, t2⟩ := T11.2 (q13.trans c)
    refine rsf_cl (q_put (by omega) t2.1.1 (by have := t2.rm B; omega) ⟨by decide, by decide⟩) (fun s15 z16 f15 => ?_)
    have T15 := t2.pp f15
    obtain ⟨M15, F15, _, n15, k15⟩ := f15
    have i51 := n15 51 (by decide)
    have i39 := n15 39 (by decide)
    have i72 := n15 72 (by decide)
    have hC15 : COs s15 none0 inR x7 x8 := (hC7.mf F11).mf (F15 0)
    have a30 : s15.2 30 = σ.2 30 := by rw [k15 30 (by decide), k11.2 30 (by omega) (by decide), g5 30 (by decide)]
    refine rsf_rd ⟨by omega, by show _ < ((140000 : Nat) : Int); omega⟩ (fun z17 q17 => ?_)
    refine rsf_ck ⟨by omega, by omega⟩ (fun z18 q18 => ?_)
    have hz : inR z18 := ⟨by omega, by omega⟩
    have u := T15.2.1
    refine rsf_cl (q_inside (by omega) M15 ⟨h7, by omega⟩ hC15.1 hz ⟨by omega, hz⟩ (by omega)) (fun s19 z20 f => ?_)
    obtain ⟨_, M19, F19, n19, f48, k19, W19, D19⟩ := f
    have T19 := T15.ins M19 F19 n19 f48 k19
    have C19 : COs s19 none0 inR (s15.2 33 x7.toNat) z20 := (hC15.bi h7 (by rw [a30]; exact hk)).2 (F19 0) (n19 39 (by decide)) W19 D19
    rw [q17] at C19
    have j51 := n19 51 (by decide)
    have j72 := n19 72 (by decide)
    have hW19 : WT s19 none0 inR := hW7.mf ((F11.trans (F15 _)).trans (F19 _)) (by omega) (by omega)
    refine rsf_ck ⟨by omega, by omega⟩ (fun z21 q21 => rsf_ck ⟨by omega, by omega⟩ (fun z22 q22 => ?_))
    subst q21
    refine rsf_cl (tell ⟨by omega, by omega⟩ M19 hW19 C19) (fun s23 z24 g23 => ?_)
    have T23 := T19.tp g23 (by omega)
    exact q_tell382 (by omega) B (T23.1.le (by omega) (by omega)) (fun q => (T23.2 q).2.le (by omega) (by omega)) h6
  · exact rsf_some ⟨⟨by decide, by decide⟩, T11.1.le (by omega) (by omega), fun q => absurd (q13.symm.trans q) c⟩
theorem q_tell111 {x3 x4 x6 x7 x8 x9 x10 x11 : Int} (hd : 11 ≤ d) (hx3 : 0 ≤ x3 ∧ x3 ≤ 100) (B : BG r σ0) (h6 : x6 = σ0.1 51) (h51 : σ0.1 51 ≤ σ.1 51) (tell : ∀ {s : RS} {a b bd hw : Int}, (0 ≤ bd ∧ bd ≤ x3 + 1) → M0 r s → WT s none0 inR → COs s none0 inR a b → rsf (RF d 40 s [a, b, x3 + 1, bd, hw]) (fun s' _ => TP r s s')) (h4 : 0 ≤ x4 ∧ x4 ≤ x3) (H : TSl 2 99 r σ0 σ) (hW : WT σ none0 inR) (hC : COs σ none0 inR x7 x8) (h7 : inR x7) (h72 : σ.1 72 = 0) (hK : HK none0 σ x7) (h9 : (x7 < 0 ∧ x9 = -1) ∨ (0 ≤ x7 ∧ x9 = σ.2 30 x7.toNat)) (h10 : (x10 = 0 ∧ x9 ≠ 4 ∧ x9 ≠ 5) ∨ (x10 = 1 ∧ (x9 = 4 ∨ x9 = 5))) : rsf (pf_tell_111 (RF d) σ x3 x4 x6 x7 x8 x9 x10 x11) (fun s b => inR b ∧ TP r σ0 s) := by
  unfold pf_tell_111
  have rg := CLU.rg hC
  have bb := H.1.1.2.1
  have b7 := bb.2.2.2.2.2.2.1
  have b3 := bb.2.2.1
  have b11 := bb.2.2.2.2.2.2.2.2.2.2
  have hs := H.1.1.2.2.1
  have fin : ∀ {s : RS} {n : Int}, n ≤ 40 → PP r n σ s → rsf (pf_tell_314 (RF d) s x3 x4 x6 x11) (fun s b => inR b ∧ TP r σ0 s) := fun {s n} hn p => by
    have T := H.pp p
    have e51 := p.2.2.2.1 51 (by decide)
    exact q_tell314 (by omega) hx3 B h6 (by omega) tell h4 (T.le (by omega) (by omega)) (hW.mf (p.2.1 (σ.1 51)) (by omega) (by omega))
  refine rsf_if (fun c => ?_) (fun c => ?_)
  · have hk : x7 < 0 ∧ x9 = -1 ∨ 0 ≤ x7 ∧ (x9 = 2 ∧ (0 ≤ σ.2 31 x7.toNat ∧ σ.2 31 x7.toNat < 100) ∨ x9 = 3 ∧ (0 ≤ σ.2 31 x7.toNat ∧ σ.2 31 x7.toNat < 8)) := by
      rcases h9 with q | q
      · exact Or.inl q
      · refine Or.inr ⟨q.1, ?_⟩
        rcases hC.2 with z | ⟨A, z, _⟩
        · exact absurd z.1 (by omega)
        · rcases z.out.2 with y | y | y | y | y
          · rcases hK with u | ⟨_, u | u⟩
            · omega
            · omega
            · exact False.elim u.2
          · refine Or.inl ⟨by omega, y.2.1, ?_⟩
            have := hs.1; omega
          · exact Or.inr ⟨by omega, y.2.1⟩
          · rcases hK with u | ⟨_, u | u⟩ <;> omega
          · rcases hK with u | ⟨_, u | u⟩ <;> omega
    refine rsf_if (fun c9 => ?_) (fun c9 => ?_)
    · refine rsf_if (fun c3 => ?_) (fun c3 => ?_)
      · have hk' : 0 ≤ x7 ∧ 0 ≤ σ.2 31 x7.toNat ∧ σ.2 31 x7.toNat < 100 := by omega
        refine rsf_rd ⟨by omega, by show _ < ((140000 : Nat) : Int); omega⟩ (fun z4 q4 => ?_)
        refine rsf_ck ⟨by omega, by omega⟩ (fun z5 q5 => ?_)
        refine rsf_rd ⟨by omega, by show _ < ((140000 : Nat) : Int); omega⟩ (fun z6 q6 => ?_)
        refine rsf_rd ⟨by omega, by show _ < ((100 : Nat) : Int); omega⟩ (fun z7 q7 => ?_)
        have hl := hs.2.2.1 z6.toNat
        refine rsf_cl (q_putWord (by omega) (Or.inl ⟨rfl, by omega, by omega⟩) (by omega) H.1.1 (by have := H.rm B; omega)) (fun s8 z9 f => ?_)
        exact fin (by decide) f
      · have hk' : 0 ≤ x7 ∧ 0 ≤ σ.2 31 x7.toNat ∧ σ.2 31 x7.toNat < 8 := by omega
        refine rsf_rd ⟨by omega, by show _ < ((140000 : Nat) : Int); omega⟩ (fun z4 q4 => ?_)
        refine rsf_ck ⟨by omega, by omega⟩ (fun z5 q5 => ?_)
        refine rsf_rd ⟨by omega, by show _ < ((140000 : Nat) : Int); omega⟩ (fun z6 q6 => ?_)
        refine rsf_rd ⟨by omega, by show _ < ((8 : Nat) : Int); omega⟩ (fun z7 q7 => ?_)
        have hl := hs.2.2.2.1 z6.toNat
        refine rsf_cl (q_putWord (by omega) (Or.inr ⟨rfl, by omega, by omega⟩) (by omega) H.1.1 (by have := H.rm B; omega)) (fun s8 z9 f => ?_)
        exact fin (by decide) f
    · refine rsf_cl (q_put (by omega) H.1.1 (by have := H.rm B; omega) ⟨by decide, by decide⟩) (fun s16 z17 f16 => ?_)
      have T16 := H.pp f16
      refine rsf_ck ⟨by omega, by omega⟩ (fun z18 q18 => ?_)
      refine rsf_cl (q_number (by omega) T16.1.1 ⟨by omega, by omega⟩ (by have := T16.rm B; omega)) (fun s19 z20 f19 => ?_)
      exact fin (by decide) (f16.trans f19)
  · have hk : 4 ≤ σ.2 30 x7.toNat ∧ σ.2 30 x7.toNat ≤ 6 ∧ 0 ≤ x7 := by omega
    refine rsf_if (fun _ => ?_) (fun _ => ?_)
    · exact q_tell130 hd hx3 B h6 h51 tell h4 H hW hC hk.2.2 ⟨hk.1, hk.2.1⟩ ⟨by decide, by decide⟩
    · exact q_tell130 hd hx3 B h6 h51 tell h4 H hW hC hk.2.2 ⟨hk.1, hk.2.1⟩ ⟨by decide, by decide⟩
theorem q_tell98 {x3 x4 x6 x7 x8 x9 x10 t0 : Int} (hd : 11 ≤ d) (hx3 : 0 ≤ x3 ∧ x3 ≤ 100) (B : BG r σ0) (h6 : x6 = σ0.1 51) (h51 : σ0.1 51 ≤ σ.1 51) (tell : ∀ {s : RS} {a b bd hw : Int}, (0 ≤ bd ∧ bd ≤ x3 + 1) → M0 r s → WT s none0 inR → COs s none0 inR a b → rsf (RF d 40 s [a, b, x3 + 1, bd, hw]) (fun s' _ => TP r s s')) (h4 : 0 ≤ x4 ∧ x4 ≤ x3) (H : TSl 2 100 r σ0 σ) (hW : WT σ none0 inR) (hC : COs σ none0 inR x7 x8) (h7 : inR x7) (h72 : σ.1 72 = 0) (hK : HK none0 σ x7) (h9 : (x7 < 0 ∧ x9 = -1) ∨ (0 ≤ x7 ∧ x9 = σ.2 30 x7.toNat)) (h10 : (x10 = 0 ∧ x9 ≠ 4 ∧ x9 ≠ 5) ∨ (x10 = 1 ∧ (x9 = 4 ∨ x9 = 5))) : rsf (pf_tell_98 (RF d) σ x3 x4 x6 x7 x8 x9 x10 t0) (fun s b => inR b ∧ TP r σ0 s) := by
  unfold pf_tell_98
  refine rsf_if (fun _ => ?_) (fun _ => ?_)
  · exact q_tell111 hd hx3 B h6 h51 tell h4 (H.le (by omega) (by omega)) hW hC h7 h72 hK h9 h10
  · refine rsf_cl (q_put (by omega) H.1.1 (by have := H.rm B; omega) ⟨by decide, by decide⟩) (fun s2 z3 f => ?_)
    have T := H.pp f
    obtain ⟨M2, F2, _, n2, k2⟩ := f
    have e51 := n2 51 (by decide)
    have e72 := n2 72 (by decide)
    refine q_tell111 hd hx3 B h6 (by omega) tell h4 (T.le (by omega) (by omega)) (hW.mf (F2 (σ.1 51)) (by omega) (by omega)) (hC.mf (F2 0)) h7 (by omega) ?_ (by rw [k2 30 (by decide)]; exact h9) h10
    unfold HK
    rw [k2 30 (by decide), k2 31 (by decide)]
    exact hK
theorem q_tell66 {x3 x4 x5 x6 x7 x8 x9 x10 : Int} (hd : 11 ≤ d) (hx3 : 0 ≤ x3 ∧ x3 ≤ 100) (B : BG r σ0) (h6 : x6 = σ0.1 51) (h51 : σ0.1 51 ≤ σ.1 51) (tell : ∀ {s : RS} {a b bd hw : Int}, (0 ≤ bd ∧ bd ≤ x3 + 1) → M0 r s → WT s none0 inR → COs s none0 inR a b → rsf (RF d 40 s [a, b, x3 + 1, bd, hw]) (fun s' _ => TP r s s')) (h4 : 0 ≤ x4 ∧ x4 ≤ x3) (H : TSl 2 100 r σ0 σ) (hW : WT σ none0 inR) (hC : COs σ none0 inR x7 x8) (h7 : inR x7) (h72 : σ.1 72 = 0) (hK : HK none0 σ x7) (h9 : (x7 < 0 ∧ x9 = -1) ∨ (0 ≤ x7 ∧ x9 = σ.2 30 x7.toNat)) (h10 : (x10 = 0 ∧ x9 ≠ 4 ∧ x9 ≠ 5) ∨ (x10 = 1 ∧ (x9 = 4 ∨ x9 = 5))) : rsf (pf_tell_66 (RF d) σ x3 x4 x5 x6 x7 x8 x9 x10) (fun s b => inR b ∧ TP r σ0 s) := by
  have any : ∀ {t0 : Int}, rsf (pf_tell_98 (RF d) σ x3 x4 x6 x7 x8 x9 x10 t0) (fun s b => inR b ∧ TP r σ0 s) := q_tell98 hd hx3 B h6 h51 tell h4 H hW hC h7 h72 hK h9 h10
  have t78 : rsf (pf_tell_78 (RF d) σ x3 x4 x5 x6 x7 x8 x9 x10) (fun s b => inR b ∧ TP r σ0 s) := by
    unfold pf_tell_78
    refine rsf_if (fun _ => ?_) (fun _ => ?_)
    · unfold pf_tell_97; exact any
    · refine rsf_gi (fun z2 q2 => rsf_if (fun _ => ?_) (fun _ => ?_))
      · unfold pf_tell_97; exact any
      · unfold pf_tell_93; exact any
  unfold pf_tell_66
  refine rsf_if (fun _ => t78) (fun _ => rsf_if (fun _ => ?_) (fun _ => t78))
  unfold pf_tell_93; exact any
theorem TSl.head {c e : Int} (h : TSl c e r σ0 σ) (p : HP r S V w σ s) (hw : σ0.1 51 ≤ w) : TSl c e r σ0 s := by
  obtain ⟨⟨h1, h2⟩, h3, h4, h5⟩ := h
  obtain ⟨⟨p1, p2, p3⟩, _, _, _, ⟨p7, p8⟩, _⟩ := p
  obtain ⟨y1, y2, y3, y4, y5, y6⟩ := p3
  exact ⟨⟨p1, h2.trans (p2.le hw)⟩, by omega, by omega, fun k hk h74 => (p8 k hk).trans (h5 k hk h74)⟩
theorem TSl.look {b : Int} (h : MY 71 r σ s b) : TSl (2 * b) (100 * b) r σ s := by
  obtain ⟨m1, m2, m3, m4, m5⟩ := h
  have e48 := m4 48 (by decide) (by decide) (by decide) (by decide) (by decide)
  have e75 := m4 75 (by decide) (by decide) (by decide) (by decide) (by decide)
  have e57 := m4 57 (by decide) (by decide) (by decide) (by decide) (by decide)
  have e39 := m4 39 (by decide) (by decide) (by decide) (by decide) (by decide)
  exact ⟨⟨m1, m2 _⟩, by rcases m5 with q | q <;> omega, e39, fun k _ _ => by rw [m3]⟩
/-- a term told -/
theorem q_tell : ∀ (k : Nat) {d : Nat} {σ : RS} {x1 x2 x3 x4 x5 : Int}, x3 = 100 - (k : Int) → k ≤ 100 → k + 12 ≤ d → (0 ≤ x4 ∧ x4 ≤ x3) → M0 r σ → WT σ none0 inR → COs σ none0 inR x1 x2 → rsf (RF d 40 σ [x1, x2, x3, x4, x5]) (fun s _ => TP r σ s) := by
  intro k
  induction k with
  | zero =>
    intro d σ x1 x2 x3 x4 x5 h3 hk hd h4 M hW hC
    rw [rq_tell (by omega)]
    refine rsf_fin ?_
    unfold pf_tell_0
    refine rsf_cl (q_look (by omega) M) (fun s1 z2 f => ?_)
    obtain ⟨f, fx⟩ := f
    refine rsf_if (fun c => ?_) (fun c => ?_)
    · exfalso
      rcases f.2.2.2.2 with g | g
      · omega
      · have := fx g.1; omega
    · have T := TSl.look f
      refine rsf_some ⟨⟨by decide, by decide⟩, T.le (by omega) (by omega), fun q => ?_⟩
      rcases f.2.2.2.2 with g | g
      · exact absurd q g.2.1
      · omega
  | succ k ih =>
    intro d σ x1 x2 x3 x4 x5 h3 hk hd h4 M hW hC
    rw [rq_tell (by omega)]
    refine rsf_fin ?_
    unfold pf_tell_0
    refine rsf_cl (q_look (by omega) M) (fun s1 z2 f => ?_)
    obtain ⟨f, fx⟩ := f
    have T1 := TSl.look f
    obtain ⟨M1, F1, e1, n1, g1⟩ := f
    have n51 := n1 51 (by decide) (by decide) (by decide) (by decide) (by decide)
    refine rsf_if (fun c => ?_) (fun c => ?_)
    · have g1' : z2 = 1 := by rcases g1 with g | g <;> omega
      subst g1'
      refine rsf_gi (fun z4 q4 => ?_)
      have hW1 : WT s1 none0 inR := hW.mf (F1 (σ.1 51)) (by omega) (by omega)
      refine rsf_cl (q_head (by omega) (fun _ q => q) M1 hW1 (hC.mf (F1 0))) (fun s5 z6 f5 => ?_)
      have T5 := T1.head f5 (by omega)
      obtain ⟨⟨M5, F5, P5⟩, W5, C5, h51, ⟨m39, mk⟩, hK⟩ := f5
      refine rsf_gi (fun z7 q7 => rsf_if (fun c7 => ?_) (fun c7 => ?_))
      · refine rsf_gi (fun z9 q9 => rsf_gi (fun z10 q10 => ?_))
        have hK' := hK (by omega)
        rw [q9] at hK'
        rw [q9, q10] at C5
        have rg := CLU.rg C5
        have b7 := M5.2.1.2.2.2.2.2.2.1
        have b3 := M5.2.1.2.2.1
        have b11 := M5.2.1.2.2.2.2.2.2.2.2.2.2
        refine rsf_cl (q_kindOf (by omega) M5.1 (by omega)) (fun s11 z12 g => ?_)
        obtain ⟨e11, g⟩ := g
        subst e11
        have h9 : inR z9 := q9 ▸ M5.1.1 52
        have T : TSl 2 100 r σ s11 := T5.le (by omega) (by omega)
        have tell : ∀ {s : RS} {a b bd hw : Int}, (0 ≤ bd ∧ bd ≤ x3 + 1) → M0 r s → WT s none0 inR → COs s none0 inR a b → rsf (RF (d - 1) 40 s [a, b, x3 + 1, bd, hw]) (fun s' _ => TP r s s') := fun {s a b bd hw} hb A1 A2 A3 => ih (by omega) (by omega) (by omega) hb A1 A2 A3
        have b1 : (z12 = 4 ∨ z12 = 5) → rsf (pf_tell_61 (RF (d - 1)) s11 x3 x4 x5 z4 z9 z10 z12) (fun s b => inR b ∧ TP r σ s) := fun hz => by
          unfold pf_tell_61
          exact q_tell66 (by omega) ⟨by omega, by omega⟩ M.2.1 (by omega) (by omega) tell h4 T W5 C5 h9 (by omega) hK' g (Or.inr ⟨rfl, hz⟩)
        refine rsf_if (fun c12 => b1 (Or.inl c12)) (fun c12 => rsf_if (fun c13 => ?_) (fun c13 => b1 (Or.inr (by omega))))
        exact q_tell66 (by omega) ⟨by omega, by omega⟩ M.2.1 (by omega) (by omega) tell h4 T W5 C5 h9 (by omega) hK' g (Or.inl ⟨rfl, c12, c13⟩)
      · exact rsf_some ⟨⟨by decide, by decide⟩, T5.le (by omega) (by omega), fun q => absurd (q7.symm.trans q) c7⟩
    · refine rsf_some ⟨⟨by decide, by decide⟩, T1.le (by omega) (by omega), fun q => ?_⟩
      rcases g1 with g | g
      · exact absurd q g.2.1
      · omega
end RTE
