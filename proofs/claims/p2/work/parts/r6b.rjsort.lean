section RJS
variable {σ σ' σ'' σ0 σh s : RS} {d : Nat} {S V T U A : Int → Prop} {r w w' lo hi sc ch l h R : Int} {Q : RS → Int → Prop}
theorem q_judgeName4 {x1 : Int} (hd : 2 ≤ d) (hR : 0 ≤ R) (M : M0 R σ) (h0 : 8 ≤ x1 ∧ x1 < σ.1 39) (hn : NMr σ.2 x1) (hl : lo ≤ x1 ∧ x1 < hi) (h51 : σ.1 51 = 0) (hS : SC S lo hi σ) (h43 : 0 ≤ σ.1 43 ∧ σ.1 43 ≤ 40) : ∀ (n : Nat) {x2 x3 : Int}, (x2 = -1 ∨ SA σ x2) → 0 ≤ x3 → σ.1 43 - x3 + 1 ≤ (n : Int) → 1 ≤ n → rsf (pf_judgeName_4 (RF d) n σ x1 x2 x3) (fun s b => inR b ∧ JPost R S lo hi σ x1 s) := by
  intro n
  have bb := M.2.1
  have b7 := bb.2.2.2.2.2.2.1
  have b3 := bb.2.2.1
  have H := M.2.2.1
  have hk := hn.1
  have h27 := H.1
  have h20 := H.2.1
  induction n with
  | zero => intro x2 x3 _ _ _ h; omega
  | succ n ih =>
    intro x2 x3 h2 h3 hn' _
    unfold pf_judgeName_4
    refine rsf_gi (fun z1 q1 => rsf_if (fun c => ?_) (fun c => ?_))
    · refine rsf_if (fun c2 => ?_) (fun c2 => ?_)
      · refine rsf_cl (q_knownOf hd H ⟨by omega, by omega⟩ hn) (fun s4 z5 f => ?_)
        obtain ⟨e4, f⟩ := f
        subst e4
        refine rsf_if (fun c5 => ?_) (fun c5 => ?_)
        · refine rsf_cl (q_sortOf hd H ⟨by omega, by omega⟩ hn) (fun s7 z8 g => ?_)
          obtain ⟨e7, g⟩ := g
          subst e7
          exact q_judgeName184 (by omega) hR M h0 hk hl h51 f g
        · exact q_judgeName184 (by omega) hR M h0 hk hl h51 f ⟨by omega, by omega⟩
      · have h2' : SA σ x2 := by
          rcases h2 with q | q
          · omega
          · exact q
        obtain ⟨k, k0, k1, k2⟩ := h2'
        have so := hS k k0 k1
        rw [k2] at so
        obtain ⟨a1, a2, a3, a4, a7, a8⟩ := so
        refine rsf_wr ⟨by omega, by show _ < ((140000 : Nat) : Int); omega⟩ (fun s5 w5 => ?_)
        refine rsf_wr ⟨by omega, by show _ < ((140000 : Nat) : Int); omega⟩ (fun s6 w6 => ?_)
        obtain ⟨M6, F6, e1, k30, k31, ek⟩ := leaf_set (lo := lo) (hi := hi) (sc := σ.1 43) (ch := σ.1 59) M ⟨by omega, h0.2⟩ hk hl w5 w6 ⟨by decide, by decide⟩ ⟨by omega, by omega⟩ h0.1
        refine rsf_rd ⟨by omega, by show _ < ((140000 : Nat) : Int); omega⟩ (fun z20 q20 => ?_)
        refine rsf_rd ⟨by omega, by show _ < ((140000 : Nat) : Int); omega⟩ (fun z21 q21 => ?_)
        rw [ek 40 (by decide) (by decide)] at q20
        rw [ek 41 (by decide) (by decide)] at q21
        rw [q20] at a7
        rw [q21] at a8
        have r20 := (WS.out a7).1
        refine rsf_cl (q_becomes (by omega) M6 ⟨by omega, by omega⟩ ⟨by omega, by omega⟩) (fun s10 z11 f => ?_)
        obtain ⟨M10, F10, e10, n10, v60, v61⟩ := f
        have F : JF lo hi (σ.1 43) (σ.1 59) σ s10 := F6.trans (F10 _ _ _ _)
        have n39 : s10.1 39 = σ.1 39 := by rw [n10 39 (by decide) (by decide), e1]
        refine rsf_some ⟨⟨by decide, by decide⟩, M10, F, ⟨by rw [n10 43 (by decide) (by decide), e1], by rw [n10 59 (by decide) (by decide), e1]⟩, fun q => ⟨by rw [n10 51 (by decide) (by decide), e1]; exact h51, ?_, ?_, by omega⟩⟩
        · have ea : s10.2 30 x1.toNat = 1 := by rw [e10]; exact k30
          have eb : s10.2 31 x1.toNat = x2 := by rw [e10]; exact k31
          exact WS.mk ⟨⟨by omega, by omega⟩, Or.inl ⟨ea, by rw [eb]; exact ⟨k, k0, k1, k2⟩⟩⟩
        · rw [v60]
          exact WSs.jf a7 F
    · refine rsf_rd ⟨by omega, by show _ < ((50 : Nat) : Int); omega⟩ (fun z15 q15 => ?_)
      have so := hS x3 h3 (by omega)
      rw [q15] at so
      obtain ⟨a1, a2, a3, ⟨a4, a5, a6⟩, a7, a8⟩ := so
      refine rsf_rd ⟨by omega, by show _ < ((140000 : Nat) : Int); omega⟩ (fun z16 q16 => ?_)
      rw [q16] at a4 a5 a6
      refine rsf_rd ⟨by omega, by show _ < ((140000 : Nat) : Int); omega⟩ (fun z17 q17 => ?_)
      refine rsf_rd ⟨by omega, by show _ < ((140000 : Nat) : Int); omega⟩ (fun z18 q18 => ?_)
      have m2 := hn.2.2.1
      have K : ∀ b, (b = x2 ∨ b = σ.2 42 x3.toNat) → rsf (pf_judgeName_4 (RF d) n σ x1 b (x3 + 1)) (fun s b => inR b ∧ JPost R S lo hi σ x1 s) := fun b hb => by
        refine ih ?_ (by omega) (by omega) (by omega)
        rcases hb with hb | hb
        · rw [hb]; exact h2
        · exact Or.inr ⟨x3, h3, by omega, hb.symm⟩
      refine rsf_if (fun c17 => ?_) (fun c17 => ?_)
      · unfold pf_judgeName_46
        exact q_judgeName51 ⟨by omega, by omega⟩ ⟨by omega, by omega⟩ hn a5 ⟨h3, by omega⟩ K 200000 (Or.inl rfl) ⟨by omega, by omega⟩ (by omega) (by omega)
      · unfold pf_judgeName_46
        exact q_judgeName51 ⟨by omega, by omega⟩ ⟨by omega, by omega⟩ hn a5 ⟨h3, by omega⟩ K 200000 (Or.inr ⟨rfl, by omega⟩) ⟨by omega, by omega⟩ (by omega) (by omega)
theorem q_judgeName {x1 : Int} (hd : 3 ≤ d) (hR : 0 ≤ R) (M : M0 R σ) (h0 : 8 ≤ x1 ∧ x1 < σ.1 39) (hn : NMr σ.2 x1) (hl : lo ≤ x1 ∧ x1 < hi) (h51 : σ.1 51 = 0) (hS : SC S lo hi σ) (h43 : 0 ≤ σ.1 43 ∧ σ.1 43 ≤ 40) : rsf (RF d 46 σ [x1]) (fun s _ => JPost R S lo hi σ x1 s) := by
  rw [rq_judgeName (by omega)]
  refine rsf_fin ?_
  unfold pf_judgeName_0
  exact q_judgeName4 (by omega) hR M h0 hn hl h51 hS h43 200000 (Or.inl rfl) (by omega) (by omega) (by omega)
/-- a name comes into scope -/
def BD (σ : RS) (n t a : Int) (s : RS) : Prop := (∀ j, j ≠ 43 → s.1 j = σ.1 j) ∧ s.1 43 = σ.1 43 + 1 ∧ (∀ k, k ≠ 40 → k ≠ 41 → k ≠ 42 → s.2 k = σ.2 k) ∧ (∀ k q, q ≠ n.toNat → k ≠ 42 → s.2 k q = σ.2 k q) ∧ (∀ q, q ≠ (σ.1 43).toNat → s.2 42 q = σ.2 42 q) ∧ s.2 40 n.toNat = t ∧ s.2 41 n.toNat = a ∧ s.2 42 (σ.1 43).toNat = n
theorem BD.jf {n t a : Int} (H : BD σ n t a s) (h43 : sc ≤ σ.1 43) (h0 : 0 ≤ n) (hl : lo ≤ n ∧ n < hi) (hc : 0 ≤ sc) : JF lo hi sc ch σ s := by
  obtain ⟨a1, a2, a3, a4, a5, a6, a7, a8⟩ := H
  have ek := fun k p q r => a3 k p q r
  refine ⟨fun j hj => a1 j ?_, fun k hk => a3 k ?_ ?_ ?_, ⟨?_, ?_⟩, fun q _ _ _ => ?_, fun q _ _ => ?_, fun q q0 q1 => ?_, fun q q0 q1 => a5 _ (by omega), fun q _ _ => ?_, fun _ => a1 72 (by decide), by rw [a1 64 (by decide), a1 65 (by decide)]⟩
  · rintro rfl; cases hj
  · rintro rfl; cases hk
  · rintro rfl; cases hk
  · rintro rfl; cases hk
  · rw [a1 39 (by decide)]; exact Int.le_refl _
  · rw [a1 48 (by decide)]; exact Int.le_refl _
  · rw [a3 30 (by decide) (by decide) (by decide), a3 31 (by decide) (by decide) (by decide), a3 32 (by decide) (by decide) (by decide), a3 33 (by decide) (by decide) (by decide), a3 38 (by decide) (by decide) (by decide)]; exact ⟨rfl, rfl, rfl, rfl, rfl⟩
  · rw [a3 44 (by decide) (by decide) (by decide), a3 45 (by decide) (by decide) (by decide), a3 46 (by decide) (by decide) (by decide), a3 47 (by decide) (by decide) (by decide)]; exact ⟨rfl, rfl, rfl, rfl⟩
  · have : q.toNat ≠ n.toNat := by
      intro e
      have : q = n := by omega
      subst this; exact q1 hl
    exact ⟨a4 40 _ this (by decide), a4 41 _ this (by decide)⟩
  · rw [a3 58 (by decide) (by decide) (by decide)]
theorem q_bind {n t a : Int} (hd : 1 ≤ d) (M : M0 r σ) (hn : 0 ≤ n ∧ n < 140000) (ht : inR t) (ha : inR a) (h43 : 0 ≤ σ.1 43 ∧ σ.1 43 < 50) : rsf (RF d 48 σ [n, t, a]) (fun s _ => M0 r s ∧ BD σ n t a s) := by
  rw [rq_bind (by omega)]
  refine rsf_fin ?_
  unfold pf_bind_0
  refine rsf_wr ⟨by omega, by show _ < ((140000 : Nat) : Int); omega⟩ (fun s1 w1 => ?_)
  refine rsf_wr ⟨by omega, by show _ < ((140000 : Nat) : Int); omega⟩ (fun s2 w2 => ?_)
  have e1 := rs_a_1 w1
  have e2 := rs_a_1 w2
  refine rsf_gi (fun z3 q3 => ?_)
  have q3' : σ.1 43 = z3 := by rw [← q3, e2, e1]
  refine rsf_wr ⟨by omega, by show _ < ((50 : Nat) : Int); omega⟩ (fun s4 w4 => ?_)
  have e4 := rs_a_1 w4
  refine rsf_gi (fun z5 q5 => ?_)
  have q5' : σ.1 43 = z5 := by rw [← q5, e4, e2, e1]
  refine rsf_ck ⟨by omega, by omega⟩ (fun z6 q6 => rsf_pi (fun s7 w7 => ?_))
  have e7 := rs_i_2 w7
  have B : BD σ n t a s7 := by
    refine ⟨fun j hj => by rw [rs_i_n w7 hj, e4, e2, e1], by rw [rs_i_e w7]; omega, fun k a b c => by rw [e7, rs_a_k w4 c, rs_a_k w2 b, rs_a_k w1 a], fun k q hq hk => ?_, fun q hq => ?_, ?_, ?_, ?_⟩
    · have st : ∀ {u t : RS} {m : Nat} {x : Int}, t = rs_a u m n x → t.2 k q = u.2 k q := fun {u t m x} w => by
        by_cases c : k = m
        · subst c; exact rs_a_i w hq
        · rw [rs_a_k w c]
      rw [e7, rs_a_k w4 hk, st w2, st w1]
    · rw [e7, rs_a_i w4 (by rw [← q3']; exact hq), rs_a_k w2 (by decide), rs_a_k w1 (by decide)]
    · rw [e7, rs_a_k w4 (by decide), rs_a_k w2 (by decide)]; exact rs_a_e w1
    · rw [e7, rs_a_k w4 (by decide)]; exact rs_a_e w2
    · rw [e7, q3']; exact rs_a_e w4
  refine rsf_some ⟨⟨by decide, by decide⟩, M.jf (B.jf (lo := n) (hi := n + 1) (sc := 0) (ch := 0) (by omega) hn.1 ⟨by omega, by omega⟩ (by omega)) ((((M.1.a w1 ht).a w2 ha).a w4 ⟨by omega, by omega⟩).p w7 ⟨by omega, by omega⟩) (M.2.1.j (fun j hj => B.1 j ?_)) (M.2.2.2.2.eq (B.2.2.1 36 (by decide) (by decide) (by decide)) (B.2.2.1 37 (by decide) (by decide) (by decide))), B⟩
  rintro rfl; rcases hj with hj | hj <;> cases hj
/-- judging, at trees of height k -/
def JC (k : Nat) : Prop := ∀ {d : Nat} {R n lo hi c : Int} {S : Int → Prop} {σ : RS}, 6 * k + 230 ≤ d → JPre R S k n lo hi c σ → rsf (RF d 49 σ [n, c]) (fun s _ => JPost R S lo hi σ n s)
theorem q_judgeSort {k : Nat} {n c : Int} (J : JC k) (hd : 6 * k + 231 ≤ d) (P : JPre R S k n lo hi c σ) : rsf (RF d 47 σ [n, c]) (fun s b => (0 ≤ b ∧ b ≤ 7) ∧ JPost R S lo hi σ n s) := by
  rw [rq_judgeSort (by omega)]
  refine rsf_fin ?_
  unfold pf_judgeSort_0
  have hR := P.1.2
  have rg := P.2.2.2.1.rg
  have hh := P.2.2.2.2.1
  refine rsf_cl (J (by omega) P) (fun s1 z2 f => ?_)
  obtain ⟨M1, F1, e1, g1⟩ := f
  have l39 := F1.2.2.1.1
  have bb := M1.2.1
  have b7 := bb.2.2.2.2.2.2.1
  have b3 := bb.2.2.1
  have no : rsf (pf_judgeSort_30 (RF (d - 1)) s1 n) (fun s b => inR b ∧ (0 ≤ b ∧ b ≤ 7) ∧ JPost R S lo hi σ n s) := by
    unfold pf_judgeSort_30
    unfold pf_judgeSort_31
    refine rsf_if (fun c => absurd rfl c) (fun _ => ?_)
    refine rsf_rd ⟨by omega, by show _ < ((140000 : Nat) : Int); omega⟩ (fun z2 q2 => ?_)
    refine rsf_cl (j_wrong (n := 0) (by omega) M1 ⟨by decide, by decide⟩ (q2 ▸ M1.1.2 _ _)) (fun s3 z4 f => ?_)
    obtain ⟨f1, f2, f3, f4, f5, _⟩ := f
    unfold pf_judgeSort_48
    refine rsf_if (fun _ => ?_) (fun c => absurd rfl c)
    refine rsf_some ⟨⟨by decide, by decide⟩, ⟨by decide, by decide⟩, f1, F1.trans ((f2 0).jf (f3 75 (by decide) (by decide))), ⟨?_, ?_⟩, fun q => absurd q f5⟩
    · rw [f3 43 (by decide) (by decide)]; exact e1.1
    · rw [f3 59 (by decide) (by decide)]; exact e1.2
  refine rsf_gi (fun z3 q3 => rsf_if (fun _ => no) (fun c => ?_))
  obtain ⟨g51, gw, gt, gs⟩ := g1 (by omega)
  have rt := (WS.out gt).1
  refine rsf_gi (fun z5 q5 => ?_)
  refine rsf_rd ⟨by omega, by show _ < ((140000 : Nat) : Int); omega⟩ (fun z6 q6 => rsf_if (fun _ => no) (fun c6 => ?_))
  unfold pf_judgeSort_31
  refine rsf_if (fun _ => ?_) (fun c => absurd (by decide) c)
  unfold pf_judgeSort_48
  refine rsf_if (fun c => absurd c (by decide)) (fun _ => ?_)
  refine rsf_gi (fun z7 q7 => ?_)
  refine rsf_rd ⟨by omega, by show _ < ((140000 : Nat) : Int); omega⟩ (fun z8 q8 => ?_)
  have hs : 0 ≤ z8 ∧ z8 < 8 := by
    have e57 : z7 = z5 := by omega
    rcases (WS.out gt).2 with y | y | y | y | y <;> rw [q5] at y
    · omega
    · omega
    · rw [← q8, e57]; exact y.2.1
    · omega
    · omega
  exact rsf_some ⟨⟨by omega, by omega⟩, ⟨by omega, by omega⟩, M1, F1, e1, g1⟩
end RJS
