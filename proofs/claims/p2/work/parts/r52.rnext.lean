section RNX
variable {σ : RS} {d : Nat}
def LB (σ : RS) : Prop := IR σ ∧ (0 ≤ σ.1 5 ∧ σ.1 5 ≤ 4000) ∧ (0 ≤ σ.1 6 ∧ σ.1 6 ≤ σ.1 5) ∧ (0 ≤ σ.1 10 ∧ σ.1 10 ≤ 4000) ∧ (-1 ≤ σ.1 11 ∧ σ.1 11 ≤ 8) ∧ (0 ≤ σ.1 72 ∧ σ.1 72 ≤ 14)
theorem LX.b (h : LX σ) : LB σ := ⟨h.1, h.2.1, h.2.2.1, h.2.2.2.2.2.1, h.2.2.2.2.2.2.1, h.2.2.2.2.2.2.2.1⟩
theorem q_next193 (hd : 4 ≤ d) : ∀ (n : Nat) {σ : RS}, LB σ → (0 ≤ σ.1 9 ∧ σ.1 9 ≤ σ.1 6) → (σ.1 9 = σ.1 6 → σ.1 6 < σ.1 5 ∧ ((97 ≤ σ.2 4 (σ.1 6).toNat ∧ σ.2 4 (σ.1 6).toNat ≤ 122) ∨ (65 ≤ σ.2 4 (σ.1 6).toNat ∧ σ.2 4 (σ.1 6).toNat ≤ 90))) → σ.1 5 - σ.1 6 < (n : Int) → rsf (pf_next_193 (RF d) n σ) (fun σ' r => inR r ∧ NX σ (σ.1 9) σ') := by
  intro n
  induction n with
  | zero => intro σ L h9 hl hn; have := L.2.2.1; omega
  | succ n ih =>
    intro σ L h9 hl hn
    obtain ⟨hI, l5, l6, l10, l11, l72⟩ := L
    unfold pf_next_193
    refine rsf_gi (fun z1 h1 => ?_)
    subst h1
    refine rsf_cl (q_byteAt (by omega) hI l5 l6.1) (fun s1 z3 f3 => ?_)
    obtain ⟨rfl, r3, f3⟩ := f3
    refine rsf_cl (q_goesOn (by omega)) (fun s1 z5 f5 => ?_)
    obtain ⟨rfl, f5⟩ := f5
    refine rsf_if (fun c => ?_) (fun c => ?_)
    · refine rsf_pi (fun s2 w2 => rsf_gi (fun z8 h8 => rsf_pi (fun s3 w3 => ?_)))
      have b5 := rs_i_n (j := 5) w2 (by decide)
      have b6 := rs_i_n (j := 6) w2 (by decide)
      have b7 := rs_i_e w2
      have b9 := rs_i_n (j := 9) w2 (by decide)
      have b11 := rs_i_n (j := 11) w2 (by decide)
      have b72 := rs_i_n (j := 72) w2 (by decide)
      have c5 := rs_i_n (j := 5) w3 (by decide)
      have c6 := rs_i_n (j := 6) w3 (by decide)
      have c7 := rs_i_n (j := 7) w3 (by decide)
      have c9 := rs_i_n (j := 9) w3 (by decide)
      have c10 := rs_i_e w3
      have c11 := rs_i_n (j := 11) w3 (by decide)
      have c72 := rs_i_n (j := 72) w3 (by decide)
      have hlt : s1.1 9 < s1.1 6 := by
        by_cases q : s1.1 9 = s1.1 6
        · have := hl q
          omega
        · omega
      have I3 : IR s3 := (hI.p w2 ⟨by decide, by decide⟩).p w3 ⟨by omega, by omega⟩
      refine rsf_mono (q_next235 (by omega) _ (σ := s3) (x := 0) ⟨I3, by omega, by omega, by omega, by omega, by omega, by omega, by omega, fun _ => by omega, fun _ => by omega⟩ (by omega) ⟨by decide, by decide⟩ (by decide)) (fun σ' r q => ⟨q.1, q.2.tr ((FLp w2 rfl).trans (FLp w3 rfl)) (by omega) (by omega) (by omega)⟩)
    · refine rsf_gi (fun z10 h10 => rsf_ck ⟨by omega, by omega⟩ (fun z11 h11 => rsf_pi (fun s2 w2 => ?_)))
      have b5 := rs_i_n (j := 5) w2 (by decide)
      have b6 := rs_i_e w2
      have b9 := rs_i_n (j := 9) w2 (by decide)
      have b10 := rs_i_n (j := 10) w2 (by decide)
      have b11 := rs_i_n (j := 11) w2 (by decide)
      have b72 := rs_i_n (j := 72) w2 (by decide)
      refine rsf_mono (ih (σ := s2) ⟨hI.p w2 ⟨by omega, by omega⟩, by omega, by omega, by omega, by omega, by omega⟩ (by omega) (fun q => by omega) (by omega)) (fun σ' r q => ⟨q.1, q.2.tr (FLp w2 rfl) b72 b5 (by omega)⟩)
theorem q_next73 {rec : Nat → RS → List Int → RO} {k2 : RS → Int → RO} {x1 x2 : Int} : ∀ (n : Nat) {σ : RS}, LB σ → (0 ≤ x2 ∧ x2 ≤ σ.1 6) → σ.1 5 - σ.1 6 < (n : Int) → (∀ σ', LB σ' → FL σ σ' → σ'.1 72 = σ.1 72 → σ'.1 5 = σ.1 5 → σ.1 6 < σ'.1 6 → rsf (k2 σ' x1) (fun σ'' r => inR r ∧ NX σ' (σ'.1 6) σ'')) → rsf (pf_next_73 rec k2 n σ x1 x2) (fun σ' r => inR r ∧ NX σ x2 σ') := by
  intro n
  induction n with
  | zero => intro σ L hx hn hk; have := L.2.2.1; omega
  | succ n ih =>
    intro σ L hx hn hk
    obtain ⟨hI, l5, l6, l10, l11, l72⟩ := L
    have hend : rsf (pf_next_111 rec k2 σ x1 x2) (fun σ' r => inR r ∧ NX σ x2 σ') := by
      unfold pf_next_111
      refine rsf_gi (fun z1 h1 => rsf_gi (fun z2 h2 => ?_))
      refine rsf_if (fun c => ?_) (fun c => ?_)
      · refine rsf_gi (fun z4 h4 => rsf_ck ⟨by omega, by omega⟩ (fun z5 h5 => rsf_pi (fun s2 w2 => ?_)))
        have b5 := rs_i_n (j := 5) w2 (by decide)
        have b6 := rs_i_e w2
        have b10 := rs_i_n (j := 10) w2 (by decide)
        have b11 := rs_i_n (j := 11) w2 (by decide)
        have b72 := rs_i_n (j := 72) w2 (by decide)
        exact rsf_mono (hk s2 ⟨hI.p w2 ⟨by omega, by omega⟩, by omega, by omega, by omega, by omega, by omega⟩ (FLp w2 rfl) b72 b5 (by omega)) (fun σ' r q => ⟨q.1, q.2.tr (FLp w2 rfl) b72 b5 (by omega)⟩)
      · refine rsf_pi (fun s2 w2 => rsf_pi (fun s3 w3 => rsf_pi (fun s4 w4 => ?_)))
        have a5 : s4.1 5 = σ.1 5 := by rw [rs_i_n w4 (by decide), rs_i_n w3 (by decide), rs_i_n w2 (by decide)]
        have a6 : s4.1 6 = σ.1 6 := by rw [rs_i_n w4 (by decide), rs_i_n w3 (by decide), rs_i_n w2 (by decide)]
        have a7 : s4.1 7 = 3 := by rw [rs_i_n w4 (by decide), rs_i_e w3]
        have a9 : s4.1 9 = x2 := by rw [rs_i_n w4 (by decide), rs_i_n w3 (by decide), rs_i_e w2]
        have a10 : s4.1 10 = σ.1 10 := by rw [rs_i_n w4 (by decide), rs_i_n w3 (by decide), rs_i_n w2 (by decide)]
        have a11 : s4.1 11 = -1 := rs_i_e w4
        have a72 : s4.1 72 = σ.1 72 := by rw [rs_i_n w4 (by decide), rs_i_n w3 (by decide), rs_i_n w2 (by decide)]
        exact rsf_some ⟨⟨by decide, by decide⟩, ⟨((hI.p w2 ⟨by omega, by omega⟩).p w3 ⟨by decide, by decide⟩).p w4 ⟨by decide, by decide⟩, by omega, by omega, by omega, by omega, by omega, by omega, by omega, by omega, by omega⟩, ((FLp w2 rfl).trans (FLp w3 rfl)).trans (FLp w4 rfl), by omega, fun _ => a72, a5, fun _ _ => by omega⟩
    unfold pf_next_73
    refine rsf_gi (fun z1 h1 => rsf_gi (fun z2 h2 => ?_))
    refine rsf_if (fun c => hend) (fun c => ?_)
    refine rsf_gi (fun z4 h4 => rsf_rd ⟨by omega, by show _ < ((4000 : Nat) : Int); omega⟩ (fun z5 h5 => ?_))
    refine rsf_if (fun c2 => hend) (fun c2 => ?_)
    refine rsf_gi (fun z7 h7 => rsf_ck ⟨by omega, by omega⟩ (fun z8 h8 => rsf_pi (fun s2 w2 => ?_)))
    have b5 := rs_i_n (j := 5) w2 (by decide)
    have b6 := rs_i_e w2
    have b10 := rs_i_n (j := 10) w2 (by decide)
    have b11 := rs_i_n (j := 11) w2 (by decide)
    have b72 := rs_i_n (j := 72) w2 (by decide)
    refine rsf_mono (ih (σ := s2) ⟨hI.p w2 ⟨by omega, by omega⟩, by omega, by omega, by omega, by omega, by omega⟩ (by omega) (by omega) (fun σ' L' f e72 e5 e6 => hk σ' L' ((FLp w2 rfl).trans f) (by omega) (by omega) (by omega))) (fun σ' r q => ⟨q.1, q.2.tr (FLp w2 rfl) b72 b5 (by omega)⟩)
theorem q_next6 (hd : 1 ≤ d) {k2 : RS → Int → RO} : ∀ (n : Nat) {σ : RS}, LB σ → σ.1 5 - σ.1 6 < (n : Int) → (∀ σ', LB σ' → FL σ σ' → σ'.1 72 = σ.1 72 → σ'.1 5 = σ.1 5 → σ.1 6 ≤ σ'.1 6 → rsf (k2 σ' 0) (fun σ'' r => inR r ∧ NX σ' (σ'.1 6) σ'')) → (∀ σ', LB σ' → FL σ σ' → σ'.1 72 = σ.1 72 → σ'.1 5 = σ.1 5 → σ.1 6 < σ'.1 6 → rsf (k2 σ' 1) (fun σ'' r => inR r ∧ NX σ' (σ'.1 6) σ'')) → rsf (pf_next_6 (RF d) k2 n σ) (fun σ' r => inR r ∧ NX σ (σ.1 6) σ') := by
  intro n
  induction n with
  | zero => intro σ L hn hk0 hk1; have := L.2.2.1; omega
  | succ n ih =>
    intro σ L hn hk0 hk1
    have L0 := L
    obtain ⟨hI, l5, l6, l10, l11, l72⟩ := L
    have hgo : σ.1 6 < σ.1 5 → rsf (pf_next_32 (RF d) k2 (pf_next_6 (RF d) k2 n) σ) (fun σ' r => inR r ∧ NX σ (σ.1 6) σ') := by
      intro hlt
      unfold pf_next_32
      refine rsf_gi (fun z1 h1 => rsf_ck ⟨by omega, by omega⟩ (fun z2 h2 => rsf_pi (fun s2 w2 => ?_)))
      have b5 := rs_i_n (j := 5) w2 (by decide)
      have b6 := rs_i_e w2
      have b10 := rs_i_n (j := 10) w2 (by decide)
      have b11 := rs_i_n (j := 11) w2 (by decide)
      have b72 := rs_i_n (j := 72) w2 (by decide)
      refine rsf_mono (ih (σ := s2) ⟨hI.p w2 ⟨by omega, by omega⟩, by omega, by omega, by omega, by omega, by omega⟩ (by omega) (fun σ' L' f e72 e5 e6 => hk0 σ' L' ((FLp w2 rfl).trans f) (by omega) (by omega) (by omega)) (fun σ' L' f e72 e5 e6 => hk1 σ' L' ((FLp w2 rfl).trans f) (by omega) (by omega) (by omega))) (fun σ' r q => ⟨q.1, q.2.tr (FLp w2 rfl) b72 b5 (by omega)⟩)
    unfold pf_next_6
    refine rsf_gi (fun z1 h1 => ?_)
    subst h1
    refine rsf_cl (q_byteAt (by omega) hI l5 l6.1) (fun s1 z3 f3 => ?_)
    obtain ⟨rfl, r3, f3⟩ := f3
    refine rsf_if (fun c => hgo (by omega)) (fun c => ?_)
    refine rsf_gi (fun z5 h5 => ?_)
    subst h5
    refine rsf_cl (q_byteAt (by omega) hI l5 l6.1) (fun s1 z7 f7 => ?_)
    obtain ⟨rfl, r7, f7⟩ := f7
    refine rsf_if (fun c2 => ?_) (fun c2 => hgo (by omega))
    refine rsf_gi (fun z9 h9 => ?_)
    subst h9
    refine rsf_cl (q_byteAt (by omega) hI l5 l6.1) (fun s1 z11 f11 => ?_)
    obtain ⟨rfl, r11, f11⟩ := f11
    refine rsf_if (fun c3 => ?_) (fun c3 => ?_)
    · unfold pf_next_63
      rw [if_pos rfl]
      exact hk0 s1 L0 FL.refl rfl rfl (Int.le_refl _)
    · unfold pf_next_63
      rw [if_neg (by decide)]
      refine rsf_gi (fun z2 h2 => ?_)
      subst h2
      exact q_next73 _ L0 ⟨l6.1, Int.le_refl _⟩ (by omega) (fun σ' L' f e72 e5 e6 => hk1 σ' L' f e72 e5 e6)
theorem q_next2 (hd : 4 ≤ d) : ∀ (n : Nat) {σ : RS} {x : Int}, LB σ → ((x = 0 ∧ 0 < n) ∨ (x = 1 ∧ σ.1 5 - σ.1 6 + 2 ≤ (n : Int))) → rsf (pf_next_2 (RF d) n σ x) (fun σ' r => inR r ∧ NX σ (σ.1 6) σ') := by
  intro n
  induction n with
  | zero => intro σ x L hn; have := L.2.2.1; omega
  | succ n ih =>
    intro σ x L hn
    unfold pf_next_2
    refine rsf_if (fun c => ?_) (fun c => ?_)
    · obtain ⟨hI, l5, l6, l10, l11, l72⟩ := L
      refine rsf_gi (fun z2 h2 => rsf_pi (fun s3 w3 => ?_))
      subst h2
      have b5 := rs_i_n (j := 5) w3 (by decide)
      have b6 := rs_i_n (j := 6) w3 (by decide)
      have b9 := rs_i_e w3
      have b10 := rs_i_n (j := 10) w3 (by decide)
      have b72 := rs_i_n (j := 72) w3 (by decide)
      have I3 := hI.p w3 ⟨by omega, by omega⟩
      refine rsf_gi (fun z4 h4 => ?_)
      subst h4
      refine rsf_cl (q_byteAt (by omega) I3 (by omega) (by omega)) (fun s5 z6 f6 => ?_)
      obtain ⟨rfl, r6, f6⟩ := f6
      refine rsf_pi (fun s7 w7 => ?_)
      have c5 := rs_i_n (j := 5) w7 (by decide)
      have c6 := rs_i_n (j := 6) w7 (by decide)
      have c9 := rs_i_n (j := 9) w7 (by decide)
      have c10 := rs_i_n (j := 10) w7 (by decide)
      have c11 := rs_i_e w7
      have c72 := rs_i_n (j := 72) w7 (by decide)
      have I7 := I3.p w7 ⟨by decide, by decide⟩
      have f37 := (FLp w3 rfl).trans (FLp w7 rfl)
      refine rsf_if (fun c2 => ?_) (fun c2 => ?_)
      · refine rsf_cl (q_isLetter (by omega)) (fun s9 z10 f10 => ?_)
        obtain ⟨rfl, f10⟩ := f10
        refine rsf_if (fun c3 => ?_) (fun c3 => ?_)
        · refine rsf_cl (q_readSign (by omega) I7 (by omega) (by omega) r6) (fun s12 z13 f13 => ?_)
          obtain ⟨_, I12, F12, g7, g6, g5, g9, g10, g11, g72⟩ := f13
          exact rsf_some ⟨⟨by decide, by decide⟩, ⟨I12, by omega, by omega, by omega, by omega, by omega, by omega, by omega, fun q => by omega, fun q => by omega⟩, f37.trans F12, by omega, fun _ => by omega, by omega, fun _ _ => by omega⟩
        · have ht : s9.2 4 = s5.2 4 := by rw [w7]; rfl
          refine rsf_mono (q_next193 (by omega) _ (σ := s9) ⟨I7, by omega, by omega, by omega, by omega, by omega⟩ (by omega) (fun _ => by
            have e6 : s9.1 6 = s5.1 6 := c6
            rw [ht, e6]
            omega) (by omega)) (fun σ' r q => ⟨q.1, q.2.tr f37 (by omega) (by omega) (by omega)⟩)
      · refine rsf_pi (fun s14 w14 => ?_)
        have d5 := rs_i_n (j := 5) w14 (by decide)
        have d6 := rs_i_n (j := 6) w14 (by decide)
        have d7 := rs_i_e w14
        have d9 := rs_i_n (j := 9) w14 (by decide)
        have d10 := rs_i_n (j := 10) w14 (by decide)
        have d11 := rs_i_n (j := 11) w14 (by decide)
        have d72 := rs_i_n (j := 72) w14 (by decide)
        exact rsf_some ⟨⟨by decide, by decide⟩, ⟨I7.p w14 ⟨by decide, by decide⟩, by omega, by omega, by omega, by omega, by omega, by omega, by omega, by omega, by omega⟩, f37.trans (FLp w14 rfl), by omega, fun _ => by omega, by omega, fun _ _ => by omega⟩
    · have l6 := L.2.2.1
      have l5 := L.2.1
      refine q_next6 (by omega) _ L (by omega) (fun σ' L' f e72 e5 e6 => ih L' (Or.inl ⟨rfl, by omega⟩)) (fun σ' L' f e72 e5 e6 => ih L' (Or.inr ⟨rfl, by omega⟩))
theorem q_next (hd : 5 ≤ d) (L : LB σ) : rsf (RF d 10 σ []) (fun σ' r => NX σ (σ.1 6) σ') := by
  rw [rq_next (by omega)]
  refine rsf_fin ?_
  unfold pf_next_0
  have := L.2.1
  have := L.2.2.1
  exact q_next2 (by omega) _ L (Or.inr ⟨rfl, by omega⟩)
end RNX
