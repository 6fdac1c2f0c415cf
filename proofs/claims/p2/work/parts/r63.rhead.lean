section RHE
variable {σ σ' σ'' s : RS} {d : Nat} {S V T U : Int → Prop} {r w w' : Int} {Q : RS → Int → Prop}
/-- looking a name up in the cells -/
def FD (r : Int) (S V : Int → Prop) (σ : RS) (c x : Int) (s : RS) : Prop := M0 r s ∧ (∀ w, MF w σ s) ∧ BP 0 0 σ s ∧ s.2 = σ.2 ∧ (∀ j, j ≠ 54 → j ≠ 55 → j ≠ 56 → s.1 j = σ.1 j) ∧ ((s.1 56 = 0 ∧ ¬ Dom σ.2 c x) ∨ (s.1 56 = 1 ∧ s.1 54 < 0 ∧ V (s.1 54)) ∨ (s.1 56 = 1 ∧ 0 ≤ s.1 54 ∧ COs s S V (s.1 54) (s.1 55)))
theorem q_find26 {rec : Nat → RS → List Int → RO} {c x : Int} (M : M0 r σ) (W : WC σ.2 (σ.1 48) (σ.1 39) (σ.1 27) S V c) (h : c = 0 ∧ ¬ Dom σ.2 c x ∨ c ≠ 0) : rsf (pf_find_26 rec σ c) (fun s b => inR b ∧ ((c = 0 ∧ FD r S V σ c x s) ∨ (c ≠ 0 ∧ ∀ c' x', FD r S V σ c' x' s))) := by
  unfold pf_find_26
  have B := M.2.1
  refine rsf_if (fun c0 => ?_) (fun c0 => ?_)
  · unfold pf_find_36
    refine rsf_bo (by omega) (rsf_pi (fun s1 w1 => rsf_gi (fun z3 q3 => ?_)))
    have e := rs_i_e w1
    obtain ⟨M1, _, P1⟩ := M.p (w := 0) w1 rfl ⟨by omega, by omega⟩
    refine rsf_if (fun c3 => ?_) (fun c3 => absurd (q3.symm.trans e) c3)
    refine rsf_some ⟨⟨by decide, by decide⟩, Or.inl ⟨c0, M1, fun w => MF.p w1 rfl (by decide) (by decide) (by decide), P1, rs_i_2 w1, fun j _ _ a => rs_i_n w1 a, Or.inl ⟨e, ?_⟩⟩⟩
    rcases h with h | h
    · exact h.2
    · exact absurd c0 h
  · unfold pf_find_36
    refine rsf_bo (by omega) (rsf_pi (fun s1 w1 => rsf_gi (fun z3 q3 => ?_)))
    have e := rs_i_e w1
    obtain ⟨M1, _, P1⟩ := M.p (w := 0) w1 rfl ⟨by omega, by omega⟩
    have rg := W.rg
    have b48 := B.2.2.2.2.2.1
    have b64 := B.2.1
    have b63 := B.1
    have b11 := B.2.2.2.2.2.2.2.2.2.2
    refine rsf_if (fun c3 => absurd (q3.symm.trans e) (by omega)) (fun c3 => ?_)
    refine rsf_rd ⟨by omega, by show _ < ((80000 : Nat) : Int); omega⟩ (fun z5 q5 => rsf_pi (fun s6 w6 => ?_))
    have h5 : inR z5 := q5 ▸ M1.1.2 _ _
    obtain ⟨M6, _, P6⟩ := M1.p (w := 0) w6 rfl h5
    refine rsf_rd ⟨by omega, by show _ < ((80000 : Nat) : Int); omega⟩ (fun z7 q7 => rsf_pi (fun s8 w8 => ?_))
    have h7 : inR z7 := q7 ▸ M6.1.2 _ _
    obtain ⟨M8, _, P8⟩ := M6.p (w := 0) w8 rfl h7
    have e2 : s8.2 = σ.2 := by rw [rs_i_2 w8, rs_i_2 w6, rs_i_2 w1]
    have F : ∀ w, MF w σ s8 := fun w => ((MF.p w1 rfl (by decide) (by decide) (by decide)).trans (MF.p w6 rfl (by decide) (by decide) (by decide))).trans (MF.p w8 rfl (by decide) (by decide) (by decide))
    have e56 : s8.1 56 = 1 := by rw [rs_i_n w8 (by decide), rs_i_n w6 (by decide), e]
    have e54 : s8.1 54 = σ.2 46 c.toNat := by rw [rs_i_n w8 (by decide), rs_i_e w6, ← q5, rs_i_2 w1]
    have e55 : s8.1 55 = σ.2 47 c.toNat := by rw [rs_i_e w8, ← q7, rs_i_2 w6, rs_i_2 w1]
    have n : ∀ j, j ≠ 54 → j ≠ 55 → j ≠ 56 → s8.1 j = σ.1 j := fun j a b c => by rw [rs_i_n w8 b, rs_i_n w6 a, rs_i_n w1 c]
    have g : (s8.1 56 = 1 ∧ s8.1 54 < 0 ∧ V (s8.1 54)) ∨ (s8.1 56 = 1 ∧ 0 ≤ s8.1 54 ∧ COs s8 S V (s8.1 54) (s8.1 55)) := by
      rcases W.out with q | ⟨_, _, _, q | ⟨q1, A, q2, q3⟩⟩
      · exact absurd q c0
      · exact Or.inl ⟨e56, by rw [e54]; exact q.1, by rw [e54]; exact q.2⟩
      · refine Or.inr ⟨e56, by rw [e54]; exact q2.out.1.1, ?_⟩
        unfold COs
        rw [e2, e54, e55, n 48 (by decide) (by decide) (by decide), n 39 (by decide) (by decide) (by decide), n 27 (by decide) (by decide) (by decide)]
        exact ⟨q1, Or.inr ⟨A, q2, q3⟩⟩
    exact rsf_some ⟨⟨by decide, by decide⟩, Or.inr ⟨c0, fun c' x' => ⟨M8, F, (P1.t0 P6).t0 P8, e2, n, Or.inr g⟩⟩⟩
theorem FD.up {c x : Int} (h : FD r S V σ (σ.2 44 c.toNat) x s) (hb : σ.2 45 c.toNat ≠ x) : FD r S V σ c x s := by
  obtain ⟨h1, h2, h3, h4, h5, h6⟩ := h
  refine ⟨h1, h2, h3, h4, h5, ?_⟩
  rcases h6 with q | q | q
  · refine Or.inl ⟨q.1, fun g => ?_⟩
    rcases g.out.2 with z | z
    · exact hb z
    · exact q.2 z
  · exact Or.inr (Or.inl q)
  · exact Or.inr (Or.inr q)
theorem q_find2 {rec : Nat → RS → List Int → RO} (M : M0 r σ) : ∀ (n : Nat) {c x : Int}, WC σ.2 (σ.1 48) (σ.1 39) (σ.1 27) S V c → c < (n : Int) → rsf (pf_find_2 rec n σ x c) (fun s b => inR b ∧ FD r S V σ c x s) := by
  intro n
  have B := M.2.1
  have b48 := B.2.2.2.2.2.1
  have b64 := B.2.1
  have b63 := B.1
  have b11 := B.2.2.2.2.2.2.2.2.2.2
  induction n with
  | zero => intro c x W h; have := W.rg; omega
  | succ n ih =>
    intro c x W h
    have rg := W.rg
    unfold pf_find_2
    refine rsf_if (fun c0 => ?_) (fun c0 => ?_)
    · refine rsf_mono (q_find26 (x := x) M W (Or.inl ⟨c0, by rw [c0]; exact Dom.no⟩)) (fun s b f => ⟨f.1, ?_⟩)
      rcases f.2 with q | q
      · exact q.2
      · exact q.2 _ _
    · refine rsf_rd ⟨by omega, by show _ < ((80000 : Nat) : Int); omega⟩ (fun z2 q2 => rsf_if (fun c2 => ?_) (fun c2 => ?_))
      · refine rsf_mono (q_find26 (x := x) M W (Or.inr c0)) (fun s b f => ⟨f.1, ?_⟩)
        rcases f.2 with q | q
        · exact q.2
        · exact q.2 _ _
      · refine rsf_rd ⟨by omega, by show _ < ((80000 : Nat) : Int); omega⟩ (fun z4 q4 => ?_)
        rcases W.out with q | ⟨q5, q6, q7, _⟩
        · exact absurd q c0
        · subst q4
          exact rsf_mono (ih q7 (by omega)) (fun s b f => ⟨f.1, f.2.up (by rw [q2]; exact c2)⟩)
theorem q_find {c x : Int} (hd : 1 ≤ d) (M : M0 r σ) (W : WC σ.2 (σ.1 48) (σ.1 39) (σ.1 27) S V c) : rsf (RF d 31 σ [x, c]) (fun s _ => FD r S V σ c x s) := by
  rw [rq_find (by omega)]
  refine rsf_fin ?_
  unfold pf_find_0
  have rg := W.rg
  have B := M.2.1
  have b48 := B.2.2.2.2.2.1
  have b64 := B.2.1
  have b63 := B.1
  have b11 := B.2.2.2.2.2.2.2.2.2.2
  exact q_find2 M 200000 W (by omega)
theorem M0.p51 {x : Int} (M : M0 r σ) (q : s = rs_i σ 51 x) (hx : 0 ≤ x ∧ x ≤ σ.1 64) : M0 r s ∧ (∀ w, MF w σ s) ∧ BP 0 0 σ s := by
  have F : ∀ w, MF w σ s := fun w => MF.p q rfl (by decide) (by decide) (by decide)
  obtain ⟨b1, b2, b3, b4, b5, b6, b7, b8, b9, b10, b11⟩ := M.2.1
  have n : ∀ j, j ≠ 51 → s.1 j = σ.1 j := fun j hj => rs_i_n q hj
  refine ⟨M.mf (F 0) (M.1.p q ⟨by omega, by omega⟩) ?_ (M.2.2.2.2.eq (by rw [rs_i_2 q]) (by rw [rs_i_2 q])), F, ?_⟩
  · unfold BG
    rw [rs_i_e q, n 63 (by decide), n 64 (by decide), n 65 (by decide), n 48 (by decide), n 57 (by decide), n 39 (by decide), n 75 (by decide), n 66 (by decide), n 67 (by decide), n 68 (by decide), n 69 (by decide), n 70 (by decide), n 71 (by decide), n 72 (by decide), n 62 (by decide)]
    exact ⟨b1, b2, b3, hx, b5, b6, b7, b8, b9, b10, b11⟩
  · unfold BP
    rw [n 64 (by decide), n 65 (by decide), n 48 (by decide), n 39 (by decide), n 75 (by decide), n 57 (by decide)]
    exact BP.refl
theorem M0.a {k : Nat} {i x : Int} (M : M0 r σ) (q : s = rs_a σ k i x) (F : MF w σ s) (hx : inR x) (hk : k ≠ 36 ∧ k ≠ 37) : M0 r s ∧ BP 0 0 σ s := by
  have e := rs_a_1 q
  have f : ∀ j, mfr j = false → s.1 j = σ.1 j := fun j _ => by rw [e]
  exact ⟨M.mf F (M.1.a q hx) (M.2.1.eq f) (M.2.2.2.2.eq (rs_a_k q (Ne.symm hk.1)) (rs_a_k q (Ne.symm hk.2))), BP.eq f⟩
/-- where a head stops -/
def HK (S : Int → Prop) (σ : RS) (n : Int) : Prop := n < 0 ∨ (0 ≤ n ∧ ((2 ≤ σ.2 30 n.toNat ∧ σ.2 30 n.toNat ≤ 5) ∨ (σ.2 30 n.toNat = 1 ∧ S (σ.2 31 n.toNat))))
/-- a turn of head -/
def HI (r : Int) (S V : Int → Prop) (x3 : Int) (σ s : RS) (n e b : Int) : Prop := (M0 r s ∧ MF x3 σ s ∧ BP 0 0 σ s) ∧ WT s S V ∧ COs s S V n e ∧ (x3 ≤ s.1 51 ∧ s.1 51 - σ.1 51 ≤ s.1 64 - σ.1 64) ∧ (s.1 39 = σ.1 39 ∧ ∀ k, k < 44 ∨ 50 < k → s.2 k = σ.2 k) ∧ ((b = 0 ∧ (s.1 72 = 0 → HK S s n)) ∨ (b = 1 ∧ s.1 72 = 0 ∧ σ.1 64 < s.1 64))
theorem HI.no {x3 n e b : Int} (h : MY 64 r σ s b) (hb : b = 0) (hW : WT σ S V) (hC : COs σ S V n e) (h3 : x3 ≤ σ.1 51) : HI r S V x3 σ s n e b := by
  have F := h.2.1
  have P := h.b0 (Or.inl rfl)
  obtain ⟨M1, _, e1, n1, g1⟩ := h
  have n51 := n1 51 (by decide) (by decide) (by decide) (by decide) (by decide)
  have n39 := n1 39 (by decide) (by decide) (by decide) (by decide) (by decide)
  have g1' : s.1 72 ≠ 0 ∧ s.1 64 = σ.1 64 := by
    rcases g1 with g | g
    · exact ⟨g.2.1, g.2.2.1⟩
    · omega
  refine ⟨⟨M1, F _, P⟩, hW.mf (F (σ.1 51)) (by omega) (by omega), hC.mf (F 0), ⟨by omega, by omega⟩, ⟨n39, fun k _ => by rw [e1]⟩, Or.inl ⟨hb, fun q => absurd q g1'.1⟩⟩
/-- nothing done, and it stops -/
theorem HI.stop {x3 n e : Int} (M : M0 r σ) (hW : WT σ S V) (hC : COs σ S V n e) (h3 : x3 ≤ σ.1 51) (hk : HK S σ n) : HI r S V x3 σ σ n e 0 :=
  ⟨⟨M, MF.refl, BP.refl⟩, hW, hC, ⟨h3, by omega⟩, ⟨rfl, fun _ _ => rfl⟩, Or.inl ⟨rfl, fun _ => hk⟩⟩
theorem WT.push {x3 t c : Int} (h : WT σ S V) (F : ∀ w, w ≤ σ.1 51 → MF w σ s) (e51 : s.1 51 = σ.1 51 + 1) (e49 : s.2 49 (σ.1 51).toNat = t) (e50 : s.2 50 (σ.1 51).toNat = c) (hC : COs σ S V t c) (_ : x3 = x3) : WT s S V := fun j j0 j1 => by
  have F' := F (σ.1 51) (Int.le_refl _)
  by_cases q : j < σ.1 51
  · obtain ⟨a1, a2⟩ := F'.2.2.2.2.2.1 j j0 q
    rw [a1, a2]
    exact (h j j0 q).mf F'
  · have : j = σ.1 51 := by omega
    subst this
    rw [e49, e50]
    exact hC.mf F'
theorem COs.ap {t c : Int} (h : COs σ S V t c) (h0 : 0 ≤ t) (k : σ.2 30 t.toNat = 7) : COs σ S V (σ.2 32 t.toNat) c ∧ COs σ S V (σ.2 33 t.toNat) c := CLU.ap h h0 k
theorem COs.bi {t c : Int} (h : COs σ S V t c) (h0 : 0 ≤ t) (k : 4 ≤ σ.2 30 t.toNat ∧ σ.2 30 t.toNat ≤ 6) : COs σ S V (σ.2 32 t.toNat) c ∧ (∀ {s : RS} {c' : Int}, MF 0 σ s → s.1 39 = σ.1 39 → WC s.2 (s.1 48) (s.1 39) (s.1 27) S V c' → (∀ y, Dom σ.2 c y ∨ y = σ.2 38 t.toNat → Dom s.2 c' y) → COs s S V (σ.2 33 t.toNat) c') := by
  obtain ⟨h1, h2⟩ := CLU.bi h h0 k
  refine ⟨h1, fun {s c'} F e39 w d => ?_⟩
  have e27 := F.1 27 rfl
  unfold COs
  rw [e39, e27] at w ⊢
  exact h2 F.2.2.2.1.nf w d
theorem h_ap {x3 x4 x5 : Int} {k25 : RS → Int → Int → Int → Int → RO} (hd : 2 ≤ d) (M : M0 r σ) (hW : WT σ S V) (hC : COs σ S V x4 x5) (h3 : 0 ≤ x3 ∧ x3 ≤ σ.1 51) (h0 : 0 ≤ x4) (hk : σ.2 30 x4.toNat = 7) (K : ∀ s n e b, HI r S V x3 σ s n e b → rsf (k25 s x3 n e b) Q) : rsf (pf_head_46 (RF d) k25 σ x3 x4 x5 7) Q := by
  unfold pf_head_46
  refine rsf_if (fun c => absurd rfl c) (fun _ => ?_)
  have rg := CLU.rg hC
  obtain ⟨C1, C2⟩ := hC.ap h0 hk
  obtain ⟨b1, b2, b3, b4, b5, b6, b7, b8, b9, b10, b11⟩ := M.2.1
  refine rsf_cl (q_may (by omega) M) (fun s1 z f => ?_)
  refine rsf_if (fun c => ?_) (fun c => ?_)
  · unfold pf_head_428
    exact K _ _ _ _ (HI.no f c hW hC h3.2)
  · refine my_ct ⟨by omega, by omega⟩ M f c (fun s28 h => ?_)
    have P28 := h.b0 (Or.inr ⟨by omega, by omega⟩)
    obtain ⟨M28, F28, e28, n28, g28⟩ := h
    have hz : z = 1 := by rcases f.2.2.2.2 with g | g <;> omega
    have g28' : s28.1 72 = 0 ∧ s28.1 64 = σ.1 64 + 1 := by rcases g28 with g | g <;> omega
    have n51 := n28 51 (by decide) (by decide) (by decide) (by decide) (by decide)
    have n39 := n28 39 (by decide) (by decide) (by decide) (by decide) (by decide)
    refine rsf_gi (fun z29 q29 => ?_)
    refine rsf_rd ⟨by omega, by show _ < ((140000 : Nat) : Int); omega⟩ (fun z30 q30 => ?_)
    refine rsf_wr ⟨by omega, by show _ < ((21000 : Nat) : Int); omega⟩ (fun s31 w31 => ?_)
    have F31 : ∀ w, w ≤ σ.1 51 → MF w s28 s31 := fun w hw => MF.a w31 (by omega) (Or.inr (Or.inl ⟨Or.inl rfl, by omega⟩))
    obtain ⟨M31, P31⟩ := M28.a w31 (F31 0 (by omega)) (q30 ▸ M28.1.2 _ _) ⟨by decide, by decide⟩
    have e31 := rs_a_1 w31
    refine rsf_gi (fun z32 q32 => ?_)
    obtain rfl : z32 = z29 := by rw [← q32, e31]; exact q29
    refine rsf_wr ⟨by omega, by show _ < ((21000 : Nat) : Int); omega⟩ (fun s33 w33 => ?_)
    have F33 : ∀ w, w ≤ σ.1 51 → MF w s31 s33 := fun w hw => MF.a w33 (by omega) (Or.inr (Or.inl ⟨Or.inr rfl, by omega⟩))
    obtain ⟨M33, P33⟩ := M31.a w33 (F33 0 (by omega)) ⟨by omega, by omega⟩ ⟨by decide, by decide⟩
    have e33 := rs_a_1 w33
    refine rsf_gi (fun z34 q34 => ?_)
    obtain rfl : z34 = z32 := by rw [← q34, e33]; exact q32
    refine rsf_ck ⟨by omega, by omega⟩ (fun z35 q35 => rsf_pi (fun s36 w36 => ?_))
    have e64 : s33.1 64 = σ.1 64 + 1 := by rw [e33, e31]; exact g28'.2
    obtain ⟨M36, F36, P36⟩ := M33.p51 w36 ⟨by omega, by omega⟩
    have F : ∀ w, w ≤ σ.1 51 → MF w σ s36 := fun w hw => (((F28 w).trans (F31 w hw)).trans (F33 w hw)).trans (F36 w)
    have k2 : ∀ k, k < 44 ∨ 50 < k → s36.2 k = σ.2 k := fun k hk => by rw [rs_i_2 w36, rs_a_k w33 (by omega), rs_a_k w31 (by omega), e28]
    have n1 : ∀ j, j ≠ 51 → s36.1 j = s28.1 j := fun j hj => by rw [rs_i_n w36 hj, e33, e31]
    refine rsf_rd ⟨by omega, by show _ < ((140000 : Nat) : Int); omega⟩ (fun z37 q37 => ?_)
    unfold pf_head_428
    have hW' : WT s36 S V := by
      refine WT.push (x3 := x3) hW F (by rw [rs_i_e w36]; omega) (t := z30) (c := x5) ?_ ?_ ?_ rfl
      · rw [rs_i_2 w36, rs_a_k w33 (by decide)]
        have : (σ.1 51).toNat = z34.toNat := by omega
        rw [this]; exact rs_a_e w31
      · rw [rs_i_2 w36]
        have : (σ.1 51).toNat = z34.toNat := by omega
        rw [this]; exact rs_a_e w33
      · rw [← q30, e28]; exact C2
    have m51 := rs_i_e w36
    have m64 := n1 64 (by decide)
    refine K _ _ _ _ ⟨⟨M36, F x3 h3.2, ((P28.t0 P31).t0 P33).t0 P36⟩, hW', ?_, ⟨by omega, by omega⟩, ⟨by rw [n1 39 (by decide), n39], k2⟩, Or.inr ⟨hz, by rw [n1 72 (by decide)]; exact g28'.1, by omega⟩⟩
    rw [← q37, k2 32 (by omega)]
    exact C1.mf (F 0 (by omega))
/-- nothing to do -/
theorem h_re {x3 x4 x5 x7 : Int} {k25 : RS → Int → Int → Int → Int → RO} (M : M0 r σ) (hW : WT σ S V) (hC : COs σ S V x4 x5) (h3 : 0 ≤ x3 ∧ x3 ≤ σ.1 51) (h6 : x7 ≠ 6) (hk : HK S σ x4) (K : ∀ s n e b, HI r S V x3 σ s n e b → rsf (k25 s x3 n e b) Q) : rsf (pf_head_367 (RF d) k25 σ x3 x4 x5 0 x7) Q := by
  unfold pf_head_367
  refine rsf_if (fun _ => ?_) (fun c => absurd h6 c)
  unfold pf_head_428
  exact K _ _ _ _ (HI.stop M hW hC h3.2 hk)
theorem h_bd {x3 x4 x5 : Int} {k25 : RS → Int → Int → Int → Int → RO} (hd : 2 ≤ d) (M : M0 r σ) (hW : WT σ S V) (hC : COs σ S V x4 x5) (h3 : 0 ≤ x3 ∧ x3 ≤ σ.1 51) (h0 : 0 ≤ x4) (hk : σ.2 30 x4.toNat = 1) (K : ∀ s n e b, HI r S V x3 σ s n e b → rsf (k25 s x3 n e b) Q) : rsf (pf_head_46 (RF d) k25 σ x3 x4 x5 1) Q := by
  unfold pf_head_46
  refine rsf_if (fun _ => ?_) (fun c => absurd (by decide) c)
  refine rsf_if (fun c => absurd rfl c) (fun _ => ?_)
  have rg := CLU.rg hC
  obtain ⟨b1, b2, b3, b4, b5, b6, b7, b8, b9, b10, b11⟩ := M.2.1
  refine rsf_rd ⟨by omega, by show _ < ((140000 : Nat) : Int); omega⟩ (fun z15 q15 => ?_)
  refine rsf_cl (q_find (by omega) M hC.1) (fun s16 z17 f => ?_)
  obtain ⟨M16, F16, P16, e16, n16, g16⟩ := f
  have n51 := n16 51 (by decide) (by decide) (by decide)
  have n64 := n16 64 (by decide) (by decide) (by decide)
  have n39 := n16 39 (by decide) (by decide) (by decide)
  have n72 := n16 72 (by decide) (by decide) (by decide)
  have hW16 : WT s16 S V := hW.mf (F16 (σ.1 51)) (by omega) (by omega)
  have hC16 : COs s16 S V x4 x5 := hC.mf (F16 0)
  have lift : ∀ {s n e b}, HI r S V x3 s16 s n e b → HI r S V x3 σ s n e b := fun {s n e b} h => by
    obtain ⟨⟨a1, a2, a3⟩, a4, a5, a6, a7, a8⟩ := h
    refine ⟨⟨a1, (F16 x3).trans a2, P16.t0 a3⟩, a4, a5, by omega, ⟨a7.1.trans n39, fun k hk => (a7.2 k hk).trans (by rw [e16])⟩, ?_⟩
    rcases a8 with q | q
    · exact Or.inl q
    · exact Or.inr ⟨q.1, q.2.1, by omega⟩
  have rest : (s16.1 56 = 0 ∧ ¬ Dom σ.2 x5 z15) ∨ (s16.1 56 = 1 ∧ 0 ≤ s16.1 54 ∧ COs s16 S V (s16.1 54) (s16.1 55)) → rsf (pf_head_173 (RF d) k25 s16 x3 x4 x5 0) Q := fun g => by
    unfold pf_head_173
    refine rsf_gi (fun z1 q1 => rsf_if (fun c => ?_) (fun c => ?_))
    · unfold pf_head_428
      refine K _ _ _ _ (lift (HI.stop M16 hW16 hC16 (by omega) ?_))
      refine Or.inr ⟨h0, Or.inr ⟨by rw [e16]; exact hk, ?_⟩⟩
      rw [e16, q15]
      rcases hC.2 with q | ⟨A, q2, q3⟩
      · exact absurd q.1 (by omega)
      · have hA : A z15 := by
          rcases q2.out.2 with q | q | q | q | q
          · rw [← q15]; exact q.2
          · omega
          · omega
          · omega
          · omega
        rcases q3 _ hA with z | z
        · exact z
        · rcases g with g | g
          · exact absurd z g.2
          · omega
    · refine rsf_cl (q_may (by omega) M16) (fun s3 z4 f3 => ?_)
      refine rsf_if (fun c4 => ?_) (fun c4 => ?_)
      · unfold pf_head_428
        have hx := HI.no f3 c4 hW16 hC16 (x3 := x3) (by omega)
        rw [c4] at hx
        exact K _ _ _ _ (lift hx)
      · refine my_ct ⟨by omega, by omega⟩ M16 f3 c4 (fun s8 h => ?_)
        have P8 := h.b0 (Or.inr ⟨by omega, by omega⟩)
        obtain ⟨M8, F8, e8, n8, g8⟩ := h
        have g8' : s8.1 72 = 0 ∧ s8.1 64 = s16.1 64 + 1 := by rcases g8 with g | g <;> omega
        have m51 := n8 51 (by decide) (by decide) (by decide) (by decide) (by decide)
        have m39 := n8 39 (by decide) (by decide) (by decide) (by decide) (by decide)
        have m54 := n8 54 (by decide) (by decide) (by decide) (by decide) (by decide)
        have m55 := n8 55 (by decide) (by decide) (by decide) (by decide) (by decide)
        refine rsf_gi (fun z9 q9 => rsf_gi (fun z10 q10 => ?_))
        unfold pf_head_428
        have g' : COs s16 S V (s16.1 54) (s16.1 55) := by
          rcases g with g | g
          · omega
          · exact g.2.2
        refine K _ _ _ _ (lift ⟨⟨M8, F8 _, P8⟩, hW16.mf (F8 (σ.1 51)) (by omega) (by omega), ?_, ⟨by omega, by omega⟩, ⟨m39, fun k _ => by rw [e8]⟩, Or.inr ⟨rfl, g8'.1, by omega⟩⟩)
        rw [← q9, ← q10, m54, m55]
        exact g'.mf (F8 0)
  refine rsf_gi (fun z18 q18 => rsf_if (fun c => ?_) (fun c => ?_))
  · refine rest ?_
    rcases g16 with g | g | g
    · exact Or.inl g
    · omega
    · omega
  · refine rsf_gi (fun z20 q20 => rsf_if (fun c2 => ?_) (fun c2 => ?_))
    · refine rest ?_
      rcases g16 with g | g | g
      · omega
      · have := g.2.1; omega
      · exact Or.inr g
    · refine rsf_gi (fun z22 q22 => ?_)
      unfold pf_head_428
      have g' : s16.1 54 < 0 ∧ V (s16.1 54) := by
        rcases g16 with g | g | g
        · omega
        · exact g.2
        · have := g.2.1; omega
      refine K _ _ _ _ (lift (HI.stop M16 hW16 ⟨WC.zero, Or.inl ⟨?_, ?_⟩⟩ (by omega) (Or.inl (by omega))))
      · omega
      · rw [← q22]; exact g'.2
theorem h_kn {x3 x4 x5 : Int} {k25 : RS → Int → Int → Int → Int → RO} (hd : 2 ≤ d) (M : M0 r σ) (hW : WT σ S V) (hC : COs σ S V x4 x5) (h3 : 0 ≤ x3 ∧ x3 ≤ σ.1 51) (h0 : 0 ≤ x4) (hk : σ.2 30 x4.toNat = 2) (K : ∀ s n e b, HI r S V x3 σ s n e b → rsf (k25 s x3 n e b) Q) : rsf (pf_head_46 (RF d) k25 σ x3 x4 x5 2) Q := by
  unfold pf_head_46
  refine rsf_if (fun _ => ?_) (fun c => absurd (by decide) c)
  refine rsf_if (fun _ => ?_) (fun c => absurd (by decide) c)
  refine rsf_if (fun c => absurd rfl c) (fun _ => ?_)
  have rg := CLU.rg hC
  obtain ⟨b1, b2, b3, b4, b5, b6, b7, b8, b9, b10, b11⟩ := M.2.1
  have hs := M.2.2.1.1
  have ho : 0 ≤ σ.2 31 x4.toNat ∧ σ.2 31 x4.toNat < σ.1 27 := by
    rcases hC.2 with q | ⟨A, q2, q3⟩
    · exact absurd q.1 (by omega)
    · rcases q2.out.2 with q | q | q | q | q
      · omega
      · exact q.2
      · omega
      · omega
      · omega
  refine rsf_rd ⟨by omega, by show _ < ((140000 : Nat) : Int); omega⟩ (fun z4 q4 => ?_)
  refine rsf_rd ⟨by omega, by show _ < ((100 : Nat) : Int); omega⟩ (fun z5 q5 => ?_)
  refine rsf_if (fun c => ?_) (fun c => ?_)
  · unfold pf_head_277
    refine rsf_if (fun _ => ?_) (fun c => absurd (by decide) c)
    exact h_re M hW hC h3 (by decide) (Or.inr ⟨h0, Or.inl (by omega)⟩) K
  · refine rsf_cl (q_may (by omega) M) (fun s7 z8 f => ?_)
    refine rsf_if (fun c8 => ?_) (fun c8 => ?_)
    · unfold pf_head_428
      exact K _ _ _ _ (HI.no f c8 hW hC h3.2)
    · have hz : z8 = 1 := by rcases f.2.2.2.2 with g | g <;> omega
      refine my_ct ⟨by omega, by omega⟩ M f c8 (fun s8 h => ?_)
      have P8 := h.b0 (Or.inr ⟨by omega, by omega⟩)
      obtain ⟨M8, F8, e8, n8, g8⟩ := h
      have g8' : s8.1 72 = 0 ∧ s8.1 64 = σ.1 64 + 1 := by rcases g8 with g | g <;> omega
      have m51 := n8 51 (by decide) (by decide) (by decide) (by decide) (by decide)
      have m39 := n8 39 (by decide) (by decide) (by decide) (by decide) (by decide)
      refine rsf_rd ⟨by omega, by show _ < ((140000 : Nat) : Int); omega⟩ (fun z13 q13 => ?_)
      rw [e8, q4] at q13
      subst q13
      refine rsf_rd ⟨by omega, by show _ < ((100 : Nat) : Int); omega⟩ (fun z14 q14 => ?_)
      rw [e8, q5] at q14
      subst q14
      unfold pf_head_428
      have kv := (M.2.2.2.1 z4 (by omega) (by omega)).1
      refine K _ _ _ _ ⟨⟨M8, F8 _, P8⟩, hW.mf (F8 (σ.1 51)) (by omega) (by omega), ?_, ⟨by omega, by omega⟩, ⟨m39, fun k _ => by rw [e8]⟩, Or.inr ⟨hz, g8'.1, by omega⟩⟩
      refine COs.mf (σ := σ) ⟨WC.zero, Or.inr ⟨none0, ?_, fun x q => False.elim q⟩⟩ (F8 0)
      rcases kv with q | q
      · omega
      · rw [← q5]; exact q
theorem h_la {x3 x4 x5 : Int} {k25 : RS → Int → Int → Int → Int → RO} (hd : 2 ≤ d) (M : M0 r σ) (hW : WT σ S V) (hC : COs σ S V x4 x5) (h3 : 0 ≤ x3 ∧ x3 ≤ σ.1 51) (h0 : 0 ≤ x4) (hk : σ.2 30 x4.toNat = 4) (K : ∀ s n e b, HI r S V x3 σ s n e b → rsf (k25 s x3 n e b) Q) : rsf (pf_head_46 (RF d) k25 σ x3 x4 x5 4) Q := by
  unfold pf_head_46
  refine rsf_if (fun _ => ?_) (fun c => absurd (by decide) c)
  refine rsf_if (fun _ => ?_) (fun c => absurd (by decide) c)
  refine rsf_if (fun _ => ?_) (fun c => absurd (by decide) c)
  unfold pf_head_277
  refine rsf_if (fun c => absurd rfl c) (fun _ => ?_)
  have rg := CLU.rg hC
  obtain ⟨b1, b2, b3, b4, b5, b6, b7, b8, b9, b10, b11⟩ := M.2.1
  refine rsf_gi (fun z2 q2 => rsf_if (fun c => ?_) (fun c => ?_))
  · exact h_re M hW hC h3 (by decide) (Or.inr ⟨h0, Or.inl (by omega)⟩) K
  · refine rsf_cl (q_may (by omega) M) (fun s4 z5 f => ?_)
    refine rsf_if (fun c5 => ?_) (fun c5 => ?_)
    · unfold pf_head_428
      exact K _ _ _ _ (HI.no f c5 hW hC h3.2)
    · have hz : z5 = 1 := by rcases f.2.2.2.2 with g | g <;> omega
      refine my_ct ⟨by omega, by omega⟩ M f c5 (fun s9 h => ?_)
      have P9 := h.bp (Or.inr ⟨by omega, by omega⟩)
      obtain ⟨M9, F9, e9, n9, g9⟩ := h
      have g9' : s9.1 72 = 0 ∧ s9.1 64 = σ.1 64 + 1 := by rcases g9 with g | g <;> omega
      have m51 := n9 51 (by decide) (by decide) (by decide) (by decide) (by decide)
      have m39 := n9 39 (by decide) (by decide) (by decide) (by decide) (by decide)
      have m48 := n9 48 (by decide) (by decide) (by decide) (by decide) (by decide)
      refine rsf_gi (fun z10 q10 => rsf_ck ⟨by omega, by omega⟩ (fun z11 q11 => rsf_pi (fun s12 w12 => ?_)))
      obtain ⟨M12, F12, P12⟩ := M9.p51 w12 ⟨by omega, by omega⟩
      have e12 : s12.2 = σ.2 := by rw [rs_i_2 w12, e9]
      have v51 := rs_i_e w12
      have v39 := rs_i_n (j := 39) w12 (by decide)
      have v48 := rs_i_n (j := 48) w12 (by decide)
      have v64 := rs_i_n (j := 64) w12 (by decide)
      have v72 := rs_i_n (j := 72) w12 (by decide)
      have F012 : ∀ w, MF w σ s12 := fun w => (F9 w).trans (F12 w)
      refine rsf_rd ⟨by omega, by show _ < ((140000 : Nat) : Int); omega⟩ (fun z13 q13 => ?_)
      refine rsf_gi (fun z14 q14 => ?_)
      refine rsf_rd ⟨by omega, by show _ < ((21000 : Nat) : Int); omega⟩ (fun z15 q15 => ?_)
      refine rsf_gi (fun z16 q16 => ?_)
      refine rsf_rd ⟨by omega, by show _ < ((21000 : Nat) : Int); omega⟩ (fun z17 q17 => ?_)
      have hp : COs σ S V z15 z17 := by
        have t := hW (σ.1 51 - 1) (by omega) (by omega)
        rw [e12] at q15 q17
        have a1 : (σ.1 51 - 1).toNat = z14.toNat := by omega
        have a2 : z16.toNat = z14.toNat := by omega
        rw [a2] at q17
        rw [a1, q15, q17] at t
        exact t
      have hC12 : COs s12 S V x4 x5 := hC.mf (F012 0)
      obtain ⟨_, hb⟩ := hC12.bi h0 (by rw [e12]; omega)
      refine rsf_cl (q_cell (by omega) M12 hC12.1 (q13 ▸ M12.1.2 _ _) (q15 ▸ M12.1.2 _ _) (hp.mf (F012 0)) (by omega)) (fun s18 z19 f => ?_)
      obtain ⟨f1, M18, F18, n18, f48, k18, W18, D18⟩ := f
      have F : ∀ w, MF w σ s18 := fun w => (F012 w).trans (F18 w)
      have u39 := n18 39 (by decide)
      have u51 := n18 51 (by decide)
      have u64 := n18 64 (by decide)
      have u72 := n18 72 (by decide)
      refine rsf_rd ⟨by omega, by show _ < ((140000 : Nat) : Int); omega⟩ (fun z20 q20 => ?_)
      unfold pf_head_428
      have k2 : ∀ k, k < 44 ∨ 50 < k → s18.2 k = σ.2 k := fun k hk => by rw [k18 k (by omega), e12]
      have P18 : BP 0 0 σ s18 := by
        unfold BP
        rw [f48, n18 57 (by decide), n18 75 (by decide), n18 65 (by decide), u39, u64]
        obtain ⟨p1, p2, p3, p4, p5, p6⟩ := P9.trans P12
        exact ⟨p1, p2, by omega, by omega, p5, p6⟩
      refine K _ _ _ _ ⟨⟨M18, F x3, P18⟩, hW.mf (F (σ.1 51)) (by omega) (by omega), ?_, ⟨by omega, by omega⟩, ⟨by omega, k2⟩, Or.inr ⟨hz, by omega, by omega⟩⟩
      rw [← q20, k18 33 (by omega)]
      exact hb (F18 0) u39 W18 (fun y hy => D18 y (by rw [← q13]; exact hy))
theorem h_le {x3 x4 x5 : Int} {k25 : RS → Int → Int → Int → Int → RO} (hd : 2 ≤ d) (M : M0 r σ) (hW : WT σ S V) (hC : COs σ S V x4 x5) (h3 : 0 ≤ x3 ∧ x3 ≤ σ.1 51) (h0 : 0 ≤ x4) (hk : σ.2 30 x4.toNat = 6) (K : ∀ s n e b, HI r S V x3 σ s n e b → rsf (k25 s x3 n e b) Q) : rsf (pf_head_46 (RF d) k25 σ x3 x4 x5 6) Q := by
  unfold pf_head_46
  refine rsf_if (fun _ => ?_) (fun c => absurd (by decide) c)
  refine rsf_if (fun _ => ?_) (fun c => absurd (by decide) c)
  refine rsf_if (fun _ => ?_) (fun c => absurd (by decide) c)
  unfold pf_head_277
  refine rsf_if (fun _ => ?_) (fun c => absurd (by decide) c)
  unfold pf_head_367
  refine rsf_if (fun c => absurd rfl c) (fun _ => ?_)
  have rg := CLU.rg hC
  obtain ⟨b1, b2, b3, b4, b5, b6, b7, b8, b9, b10, b11⟩ := M.2.1
  refine rsf_cl (q_may (by omega) M) (fun s4 z5 f => ?_)
  refine rsf_if (fun c5 => ?_) (fun c5 => ?_)
  · unfold pf_head_428
    exact K _ _ _ _ (HI.no f c5 hW hC h3.2)
  · have hz : z5 = 1 := by rcases f.2.2.2.2 with g | g <;> omega
    refine my_ct ⟨by omega, by omega⟩ M f c5 (fun s9 h => ?_)
    have P9 := h.bp (Or.inr ⟨by omega, by omega⟩)
    obtain ⟨M9, F9, e9, n9, g9⟩ := h
    have g9' : s9.1 72 = 0 ∧ s9.1 64 = σ.1 64 + 1 := by rcases g9 with g | g <;> omega
    have m51 := n9 51 (by decide) (by decide) (by decide) (by decide) (by decide)
    have m39 := n9 39 (by decide) (by decide) (by decide) (by decide) (by decide)
    have m48 := n9 48 (by decide) (by decide) (by decide) (by decide) (by decide)
    refine rsf_rd ⟨by omega, by show _ < ((140000 : Nat) : Int); omega⟩ (fun z8 q8 => ?_)
    refine rsf_rd ⟨by omega, by show _ < ((140000 : Nat) : Int); omega⟩ (fun z9 q9 => ?_)
    have hC9 : COs s9 S V x4 x5 := hC.mf (F9 0)
    obtain ⟨ha, hb⟩ := hC9.bi h0 (by rw [e9]; omega)
    rw [q9] at ha
    refine rsf_cl (q_cell (by omega) M9 hC9.1 (q8 ▸ M9.1.2 _ _) (q9 ▸ M9.1.2 _ _) ha (by omega)) (fun s18 z19 f => ?_)
    obtain ⟨f1, M18, F18, n18, f48, k18, W18, D18⟩ := f
    have F : ∀ w, MF w σ s18 := fun w => (F9 w).trans (F18 w)
    have u39 := n18 39 (by decide)
    have u51 := n18 51 (by decide)
    have u64 := n18 64 (by decide)
    have u72 := n18 72 (by decide)
    refine rsf_rd ⟨by omega, by show _ < ((140000 : Nat) : Int); omega⟩ (fun z20 q20 => ?_)
    unfold pf_head_428
    have k2 : ∀ k, k < 44 ∨ 50 < k → s18.2 k = σ.2 k := fun k hk => by rw [k18 k (by omega), e9]
    have P18 : BP 0 0 σ s18 := by
      unfold BP
      rw [f48, n18 57 (by decide), n18 75 (by decide), n18 65 (by decide), u39, u64]
      obtain ⟨p1, p2, p3, p4, p5, p6⟩ := P9
      exact ⟨p1, p2, by omega, by omega, p5, p6⟩
    refine K _ _ _ _ ⟨⟨M18, F x3, P18⟩, hW.mf (F (σ.1 51)) (by omega) (by omega), ?_, ⟨by omega, by omega⟩, ⟨by omega, k2⟩, Or.inr ⟨hz, by omega, by omega⟩⟩
    rw [← q20, k18 33 (by omega)]
    exact hb (F18 0) u39 W18 (fun y hy => D18 y (by rw [← q8]; exact hy))
/-- a turn -/
theorem h_turn {x3 x4 x5 t0 : Int} {k25 : RS → Int → Int → Int → Int → RO} (hd : 2 ≤ d) (M : M0 r σ) (hW : WT σ S V) (hC : COs σ S V x4 x5) (h3 : 0 ≤ x3 ∧ x3 ≤ σ.1 51) (ht : (x4 < 0 ∧ t0 = -1) ∨ (0 ≤ x4 ∧ σ.2 30 x4.toNat = t0)) (K : ∀ s n e b, HI r S V x3 σ s n e b → rsf (k25 s x3 n e b) Q) : rsf (pf_head_46 (RF d) k25 σ x3 x4 x5 t0) Q := by
  have other : (t0 = -1 ∨ t0 = 3 ∨ t0 = 5) → HK S σ x4 → rsf (pf_head_46 (RF d) k25 σ x3 x4 x5 t0) Q := fun h hk => by
    unfold pf_head_46
    refine rsf_if (fun _ => ?_) (fun c => absurd (by omega) c)
    refine rsf_if (fun _ => ?_) (fun c => absurd (by omega) c)
    refine rsf_if (fun _ => ?_) (fun c => absurd (by omega) c)
    unfold pf_head_277
    refine rsf_if (fun _ => ?_) (fun c => absurd (by omega) c)
    exact h_re M hW hC h3 (by omega) hk K
  rcases ht with ⟨h0, h1⟩ | ⟨h0, h1⟩
  · exact other (Or.inl h1) (Or.inl h0)
  · rcases hC.2 with q | ⟨A, q2, q3⟩
    · exact absurd q.1 (by omega)
    · rcases q2.out.2 with q | q | q | q | q
      · have e : t0 = 1 := by omega
        subst e; exact h_bd hd M hW hC h3 h0 h1 K
      · have e : t0 = 2 := by omega
        subst e; exact h_kn hd M hW hC h3 h0 h1 K
      · exact other (by omega) (Or.inr ⟨h0, Or.inl (by omega)⟩)
      · have e : t0 = 7 := by omega
        subst e; exact h_ap hd M hW hC h3 h0 h1 K
      · have e : t0 = 4 ∨ t0 = 5 ∨ t0 = 6 := by omega
        rcases e with e | e | e
        · subst e; exact h_la hd M hW hC h3 h0 h1 K
        · exact other (by omega) (Or.inr ⟨h0, Or.inl (by omega)⟩)
        · subst e; exact h_le hd M hW hC h3 h0 h1 K
/-- what head comes to -/
def HP (r : Int) (S V : Int → Prop) (x3 : Int) (σ s : RS) : Prop := (M0 r s ∧ MF x3 σ s ∧ BP 0 0 σ s) ∧ WT s S V ∧ COs s S V (s.1 52) (s.1 53) ∧ (x3 ≤ s.1 51 ∧ s.1 51 - σ.1 51 ≤ s.1 64 - σ.1 64) ∧ (s.1 39 = σ.1 39 ∧ ∀ k, k < 44 ∨ 50 < k → s.2 k = σ.2 k) ∧ (s.1 72 = 0 → HK S s (s.1 52))
theorem HP.pre {x3 : Int} (h : HP r S V x3 σ' s) (F : MF x3 σ σ') (P : BP 0 0 σ σ') (h51 : σ'.1 51 - σ.1 51 ≤ σ'.1 64 - σ.1 64) (h39 : σ'.1 39 = σ.1 39) (hk : ∀ k, k < 44 ∨ 50 < k → σ'.2 k = σ.2 k) : HP r S V x3 σ s := by
  obtain ⟨⟨a1, a2, a3⟩, a4, a5, a6, a7, a8⟩ := h
  exact ⟨⟨a1, F.trans a2, P.t0 a3⟩, a4, a5, by omega, ⟨a7.1.trans h39, fun k q => (a7.2 k q).trans (hk k q)⟩, a8⟩
theorem q_head25 (hd : 2 ≤ d) (hV : ∀ x, V x → inR x) : ∀ (n : Nat) {σ : RS} {x3 x4 x5 x6 : Int}, M0 r σ → WT σ S V → COs σ S V x4 x5 → (0 ≤ x3 ∧ x3 ≤ σ.1 51) → ((x6 = 0 ∧ (σ.1 72 = 0 → HK S σ x4) ∧ 1 ≤ n) ∨ (x6 = 1 ∧ σ.1 63 - σ.1 64 + 2 ≤ (n : Int))) → rsf (pf_head_25 (RF d) n σ x3 x4 x5 x6) (fun s b => inR b ∧ HP r S V x3 σ s) := by
  intro n
  induction n with
  | zero => intro σ x3 x4 x5 x6 M _ _ _ h; have := M.2.1.2.1; omega
  | succ n ih =>
    intro σ x3 x4 x5 x6 M hW hC h3 h6
    unfold pf_head_25
    have rg := CLU.rg hC
    obtain ⟨b1, b2, b3, b4, b5, b6, b7, b8, b9, b10, b11⟩ := M.2.1
    refine rsf_if (fun c => ?_) (fun c => ?_)
    · refine rsf_pi (fun s2 w2 => rsf_pi (fun s3 w3 => ?_))
      have h4 : inR x4 := by
        rcases hC.2 with q | ⟨A, q, _⟩
        · exact hV _ q.2
        · have := q.out.1; exact ⟨by omega, by omega⟩
      obtain ⟨M2, F2, P2⟩ := M.p (w := σ.1 51) w2 rfl h4
      obtain ⟨M3, F3, P3⟩ := M2.p (w := σ.1 51) w3 rfl ⟨by omega, by omega⟩
      have F := F2.trans F3
      have e : s3.2 = σ.2 := by rw [rs_i_2 w3, rs_i_2 w2]
      have k : ∀ j, j ≠ 52 → j ≠ 53 → s3.1 j = σ.1 j := fun j a b => by rw [rs_i_n w3 b, rs_i_n w2 a]
      have e52 : s3.1 52 = x4 := by rw [rs_i_n w3 (by decide), rs_i_e w2]
      have e53 : s3.1 53 = x5 := rs_i_e w3
      have k51 := k 51 (by decide) (by decide)
      have k64 := k 64 (by decide) (by decide)
      have k72 := k 72 (by decide) (by decide)
      refine rsf_some ⟨⟨by decide, by decide⟩, ⟨M3, F.le h3.2, P2.t0 P3⟩, hW.mf F (by omega) (by omega), by rw [e52, e53]; exact hC.mf F, by omega, ⟨k 39 (by decide) (by decide), fun _ _ => by rw [e]⟩, fun q => ?_⟩
      have h6' : σ.1 72 = 0 → HK S σ x4 := by
        rcases h6 with g | g
        · exact g.2.1
        · omega
      have g := h6' (by omega)
      unfold HK at g ⊢
      rw [e52, e]; exact g
    · have h6' : x6 = 1 ∧ σ.1 63 - σ.1 64 + 2 ≤ ((n + 1 : Nat) : Int) := by
        rcases h6 with g | g
        · omega
        · exact g
      have K : ∀ s m e b, HI r S V x3 σ s m e b → rsf (pf_head_25 (RF d) n s x3 m e b) (fun s b => inR b ∧ HP r S V x3 σ s) := fun s m e b h => by
        obtain ⟨⟨a1, a2, a3⟩, a4, a5, a6, a7, a8⟩ := h
        have f63 := a2.1 63 rfl
        refine rsf_mono (ih a1 a4 a5 ⟨h3.1, a6.1⟩ ?_) (fun s' b' f => ⟨f.1, f.2.pre a2 a3 a6.2 a7.1 a7.2⟩)
        rcases a8 with q | q
        · exact Or.inl ⟨q.1, q.2, by omega⟩
        · exact Or.inr ⟨q.1, by omega⟩
      refine rsf_if (fun c2 => ?_) (fun c2 => ?_)
      · refine rsf_rd ⟨by omega, by show _ < ((140000 : Nat) : Int); omega⟩ (fun z5 q5 => ?_)
        exact h_turn (by omega) M hW hC h3 (Or.inr ⟨c2, q5⟩) K
      · exact h_turn (by omega) M hW hC h3 (Or.inl ⟨by omega, rfl⟩) K
/-- to a head -/
theorem q_head {x1 x2 : Int} (hd : 3 ≤ d) (hV : ∀ x, V x → inR x) (M : M0 r σ) (hW : WT σ S V) (hC : COs σ S V x1 x2) : rsf (RF d 32 σ [x1, x2]) (fun s _ => HP r S V (σ.1 51) σ s) := by
  rw [rq_head (by omega)]
  refine rsf_fin ?_
  unfold pf_head_0
  obtain ⟨b1, b2, b3, b4, b5, b6, b7, b8, b9, b10, b11⟩ := M.2.1
  refine rsf_gi (fun z1 q1 => rsf_gi (fun z2 q2 => ?_))
  subst q1
  refine rsf_if (fun c => ?_) (fun c => ?_)
  · unfold pf_head_23
    exact q_head25 (by omega) hV 200000 M hW hC ⟨by omega, by omega⟩ (Or.inl ⟨rfl, fun q => absurd (q2.symm.trans q) c, by omega⟩)
  · unfold pf_head_23
    exact q_head25 (by omega) hV 200000 M hW hC ⟨by omega, by omega⟩ (Or.inr ⟨rfl, by omega⟩)
end RHE
