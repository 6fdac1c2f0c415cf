section RJN
variable {σ σ' σ'' σ0 σh s : RS} {d : Nat} {S V T U A : Int → Prop} {r w w' lo hi sc ch l h R : Int} {Q : RS → Int → Prop}
theorem JF.p {k : Nat} {x : Int} (q : s = rs_i σ k x) (hk : k = 43 ∨ k = 59 ∨ k = 60 ∨ k = 61) : JF lo hi sc ch σ s := by
  have e := rs_i_2 q
  have n := fun j (hj : j ≠ k) => rs_i_n q hj
  refine ⟨fun j hj => n j ?_, fun _ _ => by rw [e], ⟨?_, ?_⟩, fun _ _ _ _ => by rw [e]; exact ⟨rfl, rfl, rfl, rfl, rfl⟩, by rw [e]; exact CFr.refl, fun _ _ _ => by rw [e]; exact ⟨rfl, rfl⟩, fun _ _ _ => by rw [e], fun _ _ _ => by rw [e], fun _ => n 72 (by omega), by rw [n 64 (by omega), n 65 (by omega)]⟩
  · rintro rfl
    rcases hk with rfl | rfl | rfl | rfl <;> cases hj
  · rw [n 39 (by omega)]; exact Int.le_refl _
  · rw [n 48 (by omega)]; exact Int.le_refl _
theorem BG.j (B : BG r σ) (h : ∀ j, jn j = false ∨ mn j = true → s.1 j = σ.1 j) : BG r s := by
  unfold BG
  rw [h 63 (Or.inl rfl), h 64 (Or.inr rfl), h 65 (Or.inr rfl), h 51 (Or.inr rfl), h 57 (Or.inr rfl), h 48 (Or.inr rfl), h 39 (Or.inr rfl), h 75 (Or.inr rfl), h 66 (Or.inr rfl), h 67 (Or.inr rfl), h 68 (Or.inr rfl), h 69 (Or.inr rfl), h 70 (Or.inr rfl), h 71 (Or.inr rfl), h 72 (Or.inr rfl), h 62 (Or.inl rfl)]
  exact B
theorem M0.pj {k : Nat} {x : Int} (M : M0 r σ) (q : s = rs_i σ k x) (hk : k = 43 ∨ k = 59 ∨ k = 60 ∨ k = 61) (hx : inR x) : M0 r s := by
  have F : JF 0 0 0 0 σ s := JF.p q hk
  refine M.jf F (M.1.p q hx) (M.2.1.j (fun j hj => rs_i_n q ?_)) (M.2.2.2.2.eq (by rw [rs_i_2 q]) (by rw [rs_i_2 q]))
  rintro rfl
  rcases hk with rfl | rfl | rfl | rfl <;> rcases hj with hj | hj <;> cases hj
/-- a type is found -/
theorem q_becomes {x1 x2 : Int} (hd : 1 ≤ d) (M : M0 r σ) (h1 : inR x1) (h2 : inR x2) : rsf (RF d 45 σ [x1, x2]) (fun s _ => M0 r s ∧ (∀ lo hi sc ch, JF lo hi sc ch σ s) ∧ s.2 = σ.2 ∧ (∀ j, j ≠ 60 → j ≠ 61 → s.1 j = σ.1 j) ∧ s.1 60 = x1 ∧ s.1 61 = x2) := by
  rw [rq_becomes (by omega)]
  refine rsf_fin ?_
  unfold pf_becomes_0
  refine rsf_pi (fun s1 w1 => rsf_pi (fun s2 w2 => ?_))
  have M1 := M.pj w1 (by omega) h1
  have M2 := M1.pj w2 (by omega) h2
  exact rsf_some ⟨⟨by decide, by decide⟩, M2, fun _ _ _ _ => (JF.p w1 (by omega)).trans (JF.p w2 (by omega)), by rw [rs_i_2 w2, rs_i_2 w1], fun j a b => by rw [rs_i_n w2 b, rs_i_n w1 a], by rw [rs_i_n w2 (by decide), rs_i_e w1], rs_i_e w2⟩
/-- a name's node is given its meaning -/
theorem leaf_set {s5 s6 : RS} {n k o : Int} (M : M0 r σ) (h0 : 0 ≤ n ∧ n < σ.1 39) (hk : σ.2 30 n.toNat = 0) (hl : lo ≤ n ∧ n < hi) (w5 : s5 = rs_a σ 30 n k) (w6 : s6 = rs_a s5 31 n o) (h1 : inR k) (h2 : inR o) (h8 : 8 ≤ n) : M0 r s6 ∧ JF lo hi sc ch σ s6 ∧ s6.1 = σ.1 ∧ s6.2 30 n.toNat = k ∧ s6.2 31 n.toNat = o ∧ (∀ k, k ≠ 30 → k ≠ 31 → s6.2 k = σ.2 k) := by
  have e1 : s6.1 = σ.1 := by rw [rs_a_1 w6, rs_a_1 w5]
  have ek : ∀ k, k ≠ 30 → k ≠ 31 → s6.2 k = σ.2 k := fun k a b => by rw [rs_a_k w6 b, rs_a_k w5 a]
  have st : ∀ k (p : Int), 0 ≤ p → p ≠ n → s6.2 k p.toNat = σ.2 k p.toNat := fun k p p0 pn => by
    have a : ∀ {u t : RS} {m : Nat} {x : Int}, t = rs_a u m n x → t.2 k p.toNat = u.2 k p.toNat := fun {u t m x} w => by
      by_cases c : k = m
      · subst c; exact rs_a_i w (by omega)
      · rw [rs_a_k w c]
    rw [a w6, a w5]
  have F : JF lo hi sc ch σ s6 := by
    refine ⟨fun j _ => by rw [e1], fun k hk => ek k ?_ ?_, by rw [e1]; exact ⟨Int.le_refl _, Int.le_refl _⟩, fun q q1 q2 q3 => ?_, fun q _ _ => ?_, fun q _ _ => ?_, fun q _ _ => ?_, fun q _ _ => ?_, fun _ => by rw [e1], by rw [e1]⟩
    · rintro rfl; cases hk
    · rintro rfl; cases hk
    · have hq : q ≠ n := by rintro rfl; exact q3 ⟨hk, hl.1, hl.2⟩
      exact ⟨st 30 q q1 hq, st 31 q q1 hq, st 32 q q1 hq, st 33 q q1 hq, st 38 q q1 hq⟩
    · rw [ek 44 (by decide) (by decide), ek 45 (by decide) (by decide), ek 46 (by decide) (by decide), ek 47 (by decide) (by decide)]; exact ⟨rfl, rfl, rfl, rfl⟩
    · rw [ek 40 (by decide) (by decide), ek 41 (by decide) (by decide)]; exact ⟨rfl, rfl⟩
    · rw [ek 42 (by decide) (by decide)]
    · rw [ek 58 (by decide) (by decide)]
  refine ⟨M.jf F ((M.1.a w5 h1).a w6 h2) (M.2.1.j (fun j _ => by rw [e1])) (M.2.2.2.2.eq (ek 36 (by decide) (by decide)) (ek 37 (by decide) (by decide))), F, e1, ?_, rs_a_e w6, ek⟩
  rw [rs_a_k w6 (by decide)]; exact rs_a_e w5
theorem q_judgeName51 {rec : Nat → RS → List Int → RO} {k4 : RS → Int → Int → Int → RO} {x1 x2 x3 x4 : Int} (h1 : 0 ≤ x1 ∧ x1 < 140000) (h4 : 0 ≤ x4 ∧ x4 < 140000) (m1 : NMr σ.2 x1) (m4 : NMr σ.2 x4) (h3 : 0 ≤ x3 ∧ x3 < 50) (K : ∀ b, (b = x2 ∨ b = σ.2 42 x3.toNat) → rsf (k4 σ x1 b (x3 + 1)) Q) : ∀ (n : Nat) {x5 x6 : Int}, (x5 = 0 ∨ (x5 = 1 ∧ σ.2 32 x1.toNat = σ.2 32 x4.toNat)) → (0 ≤ x6 ∧ x6 ≤ 12) → σ.2 32 x1.toNat - x6 + 1 ≤ (n : Int) → 1 ≤ n → rsf (pf_judgeName_51 rec k4 n σ x1 x2 x3 x4 x5 x6) Q := by
  intro n
  obtain ⟨_, a1, a2, a3⟩ := m1
  obtain ⟨_, b1, b2, b3⟩ := m4
  induction n with
  | zero => intro x5 x6 _ _ _ h; omega
  | succ n ih =>
    intro x5 x6 h5 h6 hn _
    unfold pf_judgeName_51
    have fin : rsf (pf_judgeName_112 rec k4 σ x1 x2 x3 x5) Q := by
      unfold pf_judgeName_112
      refine rsf_if (fun _ => ?_) (fun _ => ?_)
      · unfold pf_judgeName_124
        exact rsf_ck ⟨by omega, by omega⟩ (fun z q => by subst q; exact K _ (Or.inl rfl))
      · refine rsf_rd ⟨by omega, by show _ < ((50 : Nat) : Int); omega⟩ (fun z2 q2 => ?_)
        unfold pf_judgeName_124
        exact rsf_ck ⟨by omega, by omega⟩ (fun z q => by subst q; exact K _ (Or.inr q2.symm))
    refine rsf_if (fun _ => fin) (fun c => ?_)
    refine rsf_rd ⟨by omega, by show _ < ((140000 : Nat) : Int); omega⟩ (fun z2 q2 => rsf_if (fun _ => fin) (fun c2 => ?_))
    refine rsf_rd ⟨by omega, by show _ < ((140000 : Nat) : Int); omega⟩ (fun z4 q4 => ?_)
    refine rsf_ck ⟨by omega, by omega⟩ (fun z5 q5 => ?_)
    refine rsf_rd ⟨by omega, by show _ < ((4000 : Nat) : Int); omega⟩ (fun z6 q6 => ?_)
    refine rsf_rd ⟨by omega, by show _ < ((140000 : Nat) : Int); omega⟩ (fun z7 q7 => ?_)
    refine rsf_ck ⟨by omega, by omega⟩ (fun z8 q8 => ?_)
    refine rsf_rd ⟨by omega, by show _ < ((4000 : Nat) : Int); omega⟩ (fun z9 q9 => ?_)
    refine rsf_if (fun _ => ?_) (fun _ => ?_)
    · unfold pf_judgeName_104
      exact rsf_ck ⟨by omega, by omega⟩ (fun z q => ih (Or.inl rfl) (by omega) (by omega) (by omega))
    · unfold pf_judgeName_104
      exact rsf_ck ⟨by omega, by omega⟩ (fun z q => ih (by omega) (by omega) (by omega) (by omega))
/-- a fault while judging -/
theorem j_wrong {x y : Int} {n : Int} (hd : 1 ≤ d) (M : M0 r σ) (hx : 1 ≤ x ∧ x ≤ 14) (hy : inR y) : rsf (RF d 3 σ [x, y]) (fun s _ => M0 r s ∧ (∀ w, MF w σ s) ∧ (∀ j, j ≠ 72 → j ≠ 73 → s.1 j = σ.1 j) ∧ s.2 = σ.2 ∧ s.1 72 ≠ 0 ∧ n = n) := by
  refine rsf_mono (q_wrong hd M.1 hx hy) (fun s b f => ?_)
  obtain ⟨_, I, e2, fr, hb⟩ := f
  have b10 := M.2.1.2.2.2.2.2.2.2.2.2.1
  have W := fun (w : Int) => M.wrong (w := w) I e2 fr (by omega) (by omega)
  exact ⟨(W 0).1, fun w => (W w).2.1, fr, e2, by omega, rfl⟩
theorem q_judgeName184 {x1 x3 t0 : Int} (hd : 1 ≤ d) (hR : 0 ≤ R) (M : M0 R σ) (h0 : 8 ≤ x1 ∧ x1 < σ.1 39) (hk : σ.2 30 x1.toNat = 0) (hl : lo ≤ x1 ∧ x1 < hi) (h51 : σ.1 51 = 0) (h3 : -1 ≤ x3 ∧ x3 < σ.1 27) (ht : -1 ≤ t0 ∧ t0 < σ.1 20) : rsf (pf_judgeName_184 (RF d) σ x1 x3 t0) (fun s b => inR b ∧ JPost R S lo hi σ x1 s) := by
  unfold pf_judgeName_184
  have bb := M.2.1
  have b7 := bb.2.2.2.2.2.2.1
  have b3 := bb.2.2.1
  have H := M.2.2.1
  obtain ⟨g1, g2, g3, g4, g5, g6, g7, g8⟩ := H
  have wr : ∀ {x y : Int}, (1 ≤ x ∧ x ≤ 14) → inR y → rsf (rf_cl (RF d 3 σ [x, y]) (fun σ13 z14 => some (σ13, 0))) (fun s b => inR b ∧ JPost R S lo hi σ x1 s) := fun {x y} hx hy => by
    refine rsf_cl (j_wrong (n := 0) hd M hx hy) (fun s z f => ?_)
    obtain ⟨f1, f2, f3, f4, f5, _⟩ := f
    exact rsf_some ⟨⟨by decide, by decide⟩, f1, ((f2 0).jf (f3 75 (by decide) (by decide))), ⟨f3 43 (by decide) (by decide), f3 59 (by decide) (by decide)⟩, fun q => absurd q f5⟩
  refine rsf_if (fun c => ?_) (fun c => ?_)
  · refine rsf_if (fun c2 => ?_) (fun c2 => ?_)
    · refine rsf_rd ⟨by omega, by show _ < ((8 : Nat) : Int); omega⟩ (fun z3 q3 => ?_)
      refine rsf_if (fun c3 => ?_) (fun c3 => ?_)
      · refine rsf_wr ⟨by omega, by show _ < ((140000 : Nat) : Int); omega⟩ (fun s5 w5 => ?_)
        refine rsf_wr ⟨by omega, by show _ < ((140000 : Nat) : Int); omega⟩ (fun s6 w6 => ?_)
        obtain ⟨M6, F6, e1, k30, k31, ek⟩ := leaf_set (lo := lo) (hi := hi) (sc := σ.1 43) (ch := σ.1 59) M ⟨by omega, h0.2⟩ hk hl w5 w6 ⟨by decide, by decide⟩ ⟨by omega, by omega⟩ h0.1
        refine rsf_rd ⟨by omega, by show _ < ((8 : Nat) : Int); omega⟩ (fun z7 q7 => ?_)
        refine rsf_rd ⟨by omega, by show _ < ((8 : Nat) : Int); omega⟩ (fun z8 q8 => ?_)
        rw [ek 18 (by decide) (by decide)] at q7 q8
        have a7 := g5 t0.toNat (by omega)
        refine rsf_rd ⟨by omega, by show _ < ((8 : Nat) : Int); omega⟩ (fun z9 q9 => ?_)
        rw [ek 18 (by decide) (by decide)] at q9
        have a9 := g5 z8.toNat (by omega)
        refine rsf_cl (q_becomes hd M6 ⟨by omega, by omega⟩ ⟨by omega, by omega⟩) (fun s10 z11 f => ?_)
        obtain ⟨M10, F10, e10, n10, v60, v61⟩ := f
        have F : JF lo hi (σ.1 43) (σ.1 59) σ s10 := F6.trans (F10 _ _ _ _)
        have so : ∀ k : Int, 0 ≤ k → k < σ.1 20 → s10.2 30 k.toNat = 3 ∧ s10.2 31 k.toNat = k := fun k k0 k1 => by
          have u := g8 k k0 k1
          obtain ⟨y1, y2, _⟩ := F.2.2.2.1 k k0 (by omega) (fun z => by omega)
          rw [y1, y2]; exact u
        have n39 : s10.1 39 = σ.1 39 := by rw [n10 39 (by decide) (by decide), e1]
        refine rsf_some ⟨⟨by decide, by decide⟩, M10, F, ⟨by rw [n10 43 (by decide) (by decide), e1], by rw [n10 59 (by decide) (by decide), e1]⟩, fun q => ⟨by rw [n10 51 (by decide) (by decide), e1]; exact h51, ?_, ?_, by omega⟩⟩
        · have u := so t0 c2 ht.2
          have ea : s10.2 30 x1.toNat = 3 := by rw [e10]; exact k30
          have eb : s10.2 31 x1.toNat = t0 := by rw [e10]; exact k31
          exact WS.mk ⟨⟨by omega, by omega⟩, Or.inr (Or.inr (Or.inl ⟨ea, by rw [eb]; omega, by rw [eb]; omega, by rw [eb]; exact u.1, by rw [eb]; exact u.2⟩))⟩
        · have u := so z7 (by omega) (by omega)
          rw [v60]
          exact WS.sort ⟨by omega, by omega⟩ (by omega) u.1 u.2
      · exact rsf_rd ⟨by omega, by show _ < ((140000 : Nat) : Int); omega⟩ (fun z12 q12 => wr ⟨by decide, by decide⟩ (q12 ▸ M.1.2 _ _))
    · exact rsf_rd ⟨by omega, by show _ < ((140000 : Nat) : Int); omega⟩ (fun z12 q12 => wr ⟨by decide, by decide⟩ (q12 ▸ M.1.2 _ _))
  · refine rsf_wr ⟨by omega, by show _ < ((140000 : Nat) : Int); omega⟩ (fun s5 w5 => ?_)
    refine rsf_wr ⟨by omega, by show _ < ((140000 : Nat) : Int); omega⟩ (fun s6 w6 => ?_)
    obtain ⟨M6, F6, e1, k30, k31, ek⟩ := leaf_set (lo := lo) (hi := hi) (sc := σ.1 43) (ch := σ.1 59) M ⟨by omega, h0.2⟩ hk hl w5 w6 ⟨by decide, by decide⟩ ⟨by omega, by omega⟩ h0.1
    refine rsf_rd ⟨by omega, by show _ < ((100 : Nat) : Int); omega⟩ (fun z20 q20 => ?_)
    refine rsf_rd ⟨by omega, by show _ < ((100 : Nat) : Int); omega⟩ (fun z21 q21 => ?_)
    have e21 := q21
    rw [ek 23 (by decide) (by decide)] at q20
    rw [ek 24 (by decide) (by decide)] at q21
    have a21 := g7 x3.toNat
    have kv := (M.2.2.2.1 x3 (by omega) h3.2).2
    rw [q20] at kv
    have r20 := WS.out kv
    have r20' := r20.1
    refine rsf_cl (q_becomes hd M6 ⟨by omega, by omega⟩ ⟨by omega, by omega⟩) (fun s10 z11 f => ?_)
    obtain ⟨M10, F10, e10, n10, v60, v61⟩ := f
    have F : JF lo hi (σ.1 43) (σ.1 59) σ s10 := F6.trans (F10 _ _ _ _)
    have n39 : s10.1 39 = σ.1 39 := by rw [n10 39 (by decide) (by decide), e1]
    have n27 : s10.1 27 = σ.1 27 := by rw [n10 27 (by decide) (by decide), e1]
    refine rsf_some ⟨⟨by decide, by decide⟩, M10, F, ⟨by rw [n10 43 (by decide) (by decide), e1], by rw [n10 59 (by decide) (by decide), e1]⟩, fun q => ⟨by rw [n10 51 (by decide) (by decide), e1]; exact h51, ?_, ?_, by omega⟩⟩
    · have ea : s10.2 30 x1.toNat = 2 := by rw [e10]; exact k30
      have eb : s10.2 31 x1.toNat = x3 := by rw [e10]; exact k31
      exact WS.mk ⟨⟨by omega, by omega⟩, Or.inr (Or.inl ⟨ea, by rw [eb]; omega, by rw [eb, n27]; omega⟩)⟩
    · rw [v60]
      exact (WSs.jf kv F).sub (fun _ q => False.elim q)
end RJN
