section RLQ
variable {σ τ : RS} {P P' : RS → RS → Int → Int → Prop} {K : Nat → Prop}
/-- two runs: what their ends have in common -/
def lq (o1 o2 : RO) (P : RS → RS → Int → Int → Prop) : Prop := ∀ y1 y2, o1 = some y1 → o2 = some y2 → P y1.1 y2.1 y1.2 y2.2
theorem lq_some {r s : Int} (h : P σ τ r s) : lq (some (σ, r)) (some (τ, s)) P := by
  intro y1 y2 h1 h2
  cases h1; cases h2
  exact h
theorem lq_none {o : RO} : lq none o P := fun y1 y2 h1 _ => by cases h1
theorem lq_non2 {o : RO} : lq o none P := fun y1 y2 _ h2 => by cases h2
theorem lq_gi {k : Nat} {f g : Int → RO} (e : σ.1 k = τ.1 k) (h : ∀ z, σ.1 k = z → lq (f z) (g z) P) : lq (rf_gi σ k f) (rf_gi τ k g) P := by
  unfold rf_gi
  rw [← e]
  exact h _ rfl
theorem lq_pi {k : Nat} {x y : Int} {f g : RS → RO} (h : ∀ σ1 τ1, σ1 = rs_i σ k x → τ1 = rs_i τ k y → lq (f σ1) (g τ1) P) : lq (rf_pi σ k x f) (rf_pi τ k y g) P := h _ _ rfl rfl
theorem lq_ck {x : Int} {f g : Int → RO} (h : lq (f x) (g x) P) : lq (rf_ck x f) (rf_ck x g) P := by
  unfold rf_ck
  by_cases c : -2147483648 ≤ x ∧ x ≤ 2147483647
  · rw [if_pos c, if_pos c]; exact h
  · rw [if_neg c, if_neg c]; exact lq_none
theorem lq_bo {x : Int} {f g : RO} (h : lq f g P) : lq (rf_bo x f) (rf_bo x g) P := by
  unfold rf_bo
  by_cases c : x = 0 ∨ x = 1
  · rw [if_pos c, if_pos c]; exact h
  · rw [if_neg c, if_neg c]; exact lq_none
theorem lq_rd {i : Int} {f g : Int → RO} (e : σ.2 4 = τ.2 4) (h : ∀ z, lq (f z) (g z) P) : lq (rf_rd σ 4 i f) (rf_rd τ 4 i g) P := by
  unfold rf_rd
  rw [e]
  by_cases c : 0 ≤ i ∧ i < (rf_len 4 : Int)
  · rw [if_pos c, if_pos c]; exact h _
  · rw [if_neg c, if_neg c]; exact lq_none
theorem lq_ws {i : Int} {f g : Int → RO} (h : ∀ z, lq (f z) (g z) P) : lq (rf_ws i f) (rf_ws i g) P := by
  unfold rf_ws
  by_cases c : 0 ≤ i ∧ i < 9
  · rw [if_pos c, if_pos c]; exact h _
  · rw [if_neg c, if_neg c]; exact lq_none
theorem lq_sL {i : Int} {f g : Int → RO} (h : ∀ z, lq (f z) (g z) P) : lq (rf_sL i f) (rf_sL i g) P := by
  unfold rf_sL
  by_cases c : 0 ≤ i ∧ i < 11
  · rw [if_pos c, if_pos c]; exact h _
  · rw [if_neg c, if_neg c]; exact lq_none
theorem lq_sC {i j : Int} {f g : Int → RO} (h : ∀ z, lq (f z) (g z) P) : lq (rf_sC i j f) (rf_sC i j g) P := by
  unfold rf_sC
  by_cases c : (0 ≤ i ∧ i < 11) ∧ 0 ≤ j ∧ j < rf_sn i.toNat
  · rw [if_pos c, if_pos c]; exact h _
  · rw [if_neg c, if_neg c]; exact lq_none
theorem lq_if {c : Prop} [Decidable c] {a b a' b' : RO} (h1 : c → lq a a' P) (h2 : ¬ c → lq b b' P) : lq (if c then a else b) (if c then a' else b') P := by
  by_cases h : c
  · rw [if_pos h, if_pos h]; exact h1 h
  · rw [if_neg h, if_neg h]; exact h2 h
theorem lq_cl {o1 o2 : RO} {f g : RS → Int → RO} (h : lq o1 o2 P') (h0 : ∀ σ' τ' z w, P' σ' τ' z w → lq (f σ' z) (g τ' w) P) : lq (rf_cl o1 f) (rf_cl o2 g) P := by
  cases o1 with
  | none => exact lq_none
  | some y1 =>
    cases o2 with
    | none => exact lq_non2
    | some y2 => exact h0 _ _ _ _ (h y1 y2 rfl rfl)
theorem lq_fin {o1 o2 : RO} (h : lq o1 o2 P) : lq (rf_fin o1) (rf_fin o2) P := by
  intro y1 y2 h1 h2
  exact h y1 y2 (rf_fin_s h1).1 (rf_fin_s h2).1
/-- the numbers K are the same -/
def EK (K : Nat → Prop) (σ τ : RS) : Prop := (∀ j, K j → σ.1 j = τ.1 j) ∧ σ.2 4 = τ.2 4
def Ka (K : Nat → Prop) (k : Nat) : Nat → Prop := fun j => K j ∨ j = k
theorem EK.put {k : Nat} {x : Int} {σ1 τ1 : RS} (H : EK K σ τ) (w : σ1 = rs_i σ k x) (v : τ1 = rs_i τ k x) : EK (Ka K k) σ1 τ1 := by
  refine ⟨fun j hj => ?_, by rw [w, v]; exact H.2⟩
  by_cases c : j = k
  · subst c
    have a : σ1.1 j = x := by rw [w]; exact if_pos rfl
    have b : τ1.1 j = x := by rw [v]; exact if_pos rfl
    rw [a, b]
  · rcases hj with hj | hj
    · have a : σ1.1 j = σ.1 j := by rw [w]; exact if_neg c
      have b : τ1.1 j = τ.1 j := by rw [v]; exact if_neg c
      rw [a, b, H.1 j hj]
    · exact absurd hj c
theorem EK.sub {K' : Nat → Prop} (H : EK K σ τ) (h : ∀ j, K' j → K j) : EK K' σ τ := ⟨fun j hj => H.1 j (h j hj), H.2⟩
theorem EK.keep {k : Nat} {x : Int} {σ1 τ1 : RS} (H : EK K σ τ) (w : σ1 = rs_i σ k x) (v : τ1 = rs_i τ k x) : EK K σ1 τ1 := (H.put w v).sub (fun _ q => Or.inl q)
/-- what stays and comes out the same -/
def SM (σ τ : RS) : RS → RS → Int → Int → Prop := fun σ' τ' r s => σ' = σ ∧ τ' = τ ∧ r = s
theorem m_byteAt {d e : Nat} {a : Int} (h5 : K 5) (H : EK K σ τ) : lq (RF d 7 σ [a]) (RF e 7 τ [a]) (SM σ τ) := by
  cases d with
  | zero => exact lq_none
  | succ d =>
    cases e with
    | zero => exact lq_non2
    | succ e =>
      rw [RF_s, RF_s]
      refine lq_fin ?_
      rw [rb_byteAt, rb_byteAt]
      unfold pf_byteAt_0
      refine lq_gi (H.1 5 h5) (fun z _ => lq_if (fun _ => lq_some ⟨rfl, rfl, rfl⟩) (fun _ => lq_rd H.2 (fun _ => lq_some ⟨rfl, rfl, rfl⟩)))
theorem m_isLetter {d e : Nat} {a : Int} : lq (RF d 8 σ [a]) (RF e 8 τ [a]) (SM σ τ) := by
  cases d with
  | zero => exact lq_none
  | succ d =>
    cases e with
    | zero => exact lq_non2
    | succ e =>
      rw [RF_s, RF_s]
      refine lq_fin ?_
      rw [rb_isLetter, rb_isLetter]
      unfold pf_isLetter_0 pf_isLetter_12
      have f : ∀ (x : Int), lq (rf_bo x (some (σ, x))) (rf_bo x (some (τ, x))) (SM σ τ) := fun x => lq_bo (lq_some ⟨rfl, rfl, rfl⟩)
      exact lq_if (fun _ => lq_if (fun _ => f 0) (fun _ => lq_if (fun _ => f 0) (fun _ => f 1))) (fun _ => lq_if (fun _ => f 1) (fun _ => lq_if (fun _ => f 0) (fun _ => lq_if (fun _ => f 0) (fun _ => f 1))))
theorem m_goesOn {d e : Nat} {a : Int} : lq (RF d 9 σ [a]) (RF e 9 τ [a]) (SM σ τ) := by
  cases d with
  | zero => exact lq_none
  | succ d =>
    cases e with
    | zero => exact lq_non2
    | succ e =>
      rw [RF_s, RF_s]
      refine lq_fin ?_
      rw [rb_goesOn, rb_goesOn]
      unfold pf_goesOn_0 pf_goesOn_19
      have f : ∀ (x : Int), lq (rf_bo x (some (σ, x))) (rf_bo x (some (τ, x))) (SM σ τ) := fun x => lq_bo (lq_some ⟨rfl, rfl, rfl⟩)
      refine lq_cl m_isLetter (fun σ' τ' z w h => ?_)
      obtain ⟨rfl, rfl, rfl⟩ := h
      exact lq_if (fun _ => f 1) (fun _ => lq_if (fun _ => lq_if (fun _ => f 0) (fun _ => f 1)) (fun _ => lq_if (fun _ => f 1) (fun _ => lq_if (fun _ => f 0) (fun _ => f 1))))
theorem m_isWord29 {r1 r2 : Nat → RS → List Int → RO} {a : Int} (h9 : K 9) (h10 : K 10) (H : EK K σ τ) : ∀ {n : Nat} {b c : Int}, lq (pf_isWord_29 r1 n σ a b c) (pf_isWord_29 r2 n τ a b c) (SM σ τ) := by
  intro n
  induction n with
  | zero => intro b c; exact lq_none
  | succ n ih =>
    intro b c
    unfold pf_isWord_29
    refine lq_if (fun _ => lq_bo (lq_some ⟨rfl, rfl, rfl⟩)) (fun _ => lq_gi (H.1 10 h10) (fun z2 _ => lq_gi (H.1 9 h9) (fun z3 _ => lq_ck (lq_if (fun _ => lq_bo (lq_some ⟨rfl, rfl, rfl⟩)) (fun _ => lq_ws (fun z6 => lq_sC (fun z7 => lq_gi (H.1 9 h9) (fun z8 _ => lq_ck (lq_rd H.2 (fun z10 => ?_))))))))))
    unfold pf_isWord_75
    exact lq_if (fun _ => lq_ck ih) (fun _ => lq_ck ih)
theorem m_isWord {d e : Nat} {a : Int} (h9 : K 9) (h10 : K 10) (H : EK K σ τ) : lq (RF d 11 σ [a]) (RF e 11 τ [a]) (SM σ τ) := by
  cases d with
  | zero => exact lq_none
  | succ d =>
    cases e with
    | zero => exact lq_non2
    | succ e =>
      rw [RF_s, RF_s]
      refine lq_fin ?_
      show lq (if 3 ≤ d then pf_isWord_0 (RF d) σ a else none) (if 3 ≤ e then pf_isWord_0 (RF e) τ a else none) _
      by_cases c1 : 3 ≤ d
      · rw [if_pos c1]
        by_cases c2 : 3 ≤ e
        · rw [if_pos c2]
          unfold pf_isWord_0 pf_isWord_26
          exact lq_ws (fun _ => lq_sL (fun _ => lq_gi (H.1 10 h10) (fun _ _ => lq_gi (H.1 9 h9) (fun _ _ => lq_ck (lq_if (fun _ => m_isWord29 h9 h10 H) (fun _ => m_isWord29 h9 h10 H))))))
        · rw [if_neg c2]; exact lq_non2
      · rw [if_neg c1]; exact lq_none
theorem m_wrong {d e : Nat} {a b : Int} (h72 : K 72) (H : EK K σ τ) (h7 : σ.1 7 = 1) : lq (RF d 3 σ [a, b]) (RF e 3 τ [a, b]) (fun σ' τ' _ _ => EK K σ' τ' ∧ σ'.1 7 = 1) := by
  cases d with
  | zero => exact lq_none
  | succ d =>
    cases e with
    | zero => exact lq_non2
    | succ e =>
      rw [RF_s, RF_s]
      refine lq_fin ?_
      rw [rb_wrong, rb_wrong]
      unfold pf_wrong_0
      refine lq_gi (H.1 72 h72) (fun z _ => lq_if (fun _ => ?_) (fun _ => ?_))
      · first
        | exact lq_pi (fun σ1 τ1 w1 v1 => lq_pi (fun σ2 τ2 w2 v2 => lq_some ⟨(H.keep w1 v1).keep w2 v2, by rw [w2, w1]; exact h7⟩))
        | exact lq_some ⟨H, h7⟩
      · first
        | exact lq_pi (fun σ1 τ1 w1 v1 => lq_pi (fun σ2 τ2 w2 v2 => lq_some ⟨(H.keep w1 v1).keep w2 v2, by rw [w2, w1]; exact h7⟩))
        | exact lq_some ⟨H, h7⟩
/-- after a token: the lexers stand alike -/
def FR (K : Nat → Prop) : RS → RS → Int → Int → Prop := fun σ' τ' r s => (∀ j, K j → σ'.1 j = τ'.1 j) ∧ (σ'.1 7 = τ'.1 7 ∧ σ'.1 9 = τ'.1 9 ∧ σ'.1 11 = τ'.1 11) ∧ σ'.2 4 = τ'.2 4 ∧ (σ'.1 7 = 2 → σ'.1 8 = τ'.1 8) ∧ (σ'.1 7 = 1 → σ'.1 10 = τ'.1 10) ∧ r = s
def K1 (K : Nat → Prop) : Nat → Prop := Ka (Ka K 9) 11
def K2 (K : Nat → Prop) : Nat → Prop := Ka (Ka (K1 K) 7) 10
theorem K1.k {j : Nat} (h : K j) : K1 K j := Or.inl (Or.inl h)
theorem K2.k {j : Nat} (h : K1 K j) : K2 K j := Or.inl (Or.inl h)
theorem m_235 {d e : Nat} (h72 : K 72) : ∀ {n : Nat} {σ τ : RS} {a : Int}, EK (K2 K) σ τ → σ.1 7 = 1 → lq (pf_next_235 (RF d) n σ a) (pf_next_235 (RF e) n τ a) (FR K) := by
  have k9 : K2 K 9 := Or.inl (Or.inl (Or.inl (Or.inr rfl)))
  have k11 : K2 K 11 := Or.inl (Or.inl (Or.inr rfl))
  have k7 : K2 K 7 := Or.inl (Or.inr rfl)
  have k10 : K2 K 10 := Or.inr rfl
  have fin : ∀ {σ τ : RS}, EK (K2 K) σ τ → σ.1 7 = 1 → FR K σ τ 0 0 := fun {σ τ} H h7 => ⟨fun j hj => H.1 j (K2.k (K1.k hj)), ⟨H.1 7 k7, H.1 9 k9, H.1 11 k11⟩, H.2, fun q => by omega, fun _ => H.1 10 k10, rfl⟩
  intro n
  induction n with
  | zero => intros; exact lq_none
  | succ n ih =>
    intro σ τ a H h7
    unfold pf_next_235
    refine lq_if (fun _ => ?_) (fun _ => ?_)
    · refine lq_gi (H.1 10 k10) (fun z2 _ => lq_gi (H.1 9 k9) (fun z3 _ => lq_ck (lq_if (fun _ => lq_some (fin H h7)) (fun _ => lq_gi (H.1 9 k9) (fun z6 _ => lq_cl (m_wrong (K2.k (K1.k h72)) H h7) (fun σ' τ' z w h => lq_some (fin h.1 h.2)))))))
    · refine lq_cl (m_isWord k9 k10 H) (fun σ' τ' z w h => ?_)
      obtain ⟨rfl, rfl, rfl⟩ := h
      unfold pf_next_254
      refine lq_if (fun _ => lq_ck (ih H h7)) (fun _ => lq_pi (fun σ1 τ1 w1 v1 => lq_ck (ih (H.keep w1 v1) ?_)))
      rw [w1]; exact h7
theorem m_193 {d e : Nat} (h5 : K 5) (h6 : K 6) (h72 : K 72) : ∀ {n : Nat} {σ τ : RS}, EK (K1 K) σ τ → lq (pf_next_193 (RF d) n σ) (pf_next_193 (RF e) n τ) (FR K) := by
  intro n
  induction n with
  | zero => intros; exact lq_none
  | succ n ih =>
    intro σ τ H
    unfold pf_next_193
    refine lq_gi (H.1 6 (K1.k h6)) (fun z1 _ => lq_cl (m_byteAt (K1.k h5) H) (fun σ2 τ2 z3 w3 h => ?_))
    obtain ⟨rfl, rfl, rfl⟩ := h
    refine lq_cl m_goesOn (fun σ4 τ4 z5 w5 h => ?_)
    obtain ⟨rfl, rfl, rfl⟩ := h
    refine lq_if (fun _ => ?_) (fun _ => ?_)
    · refine lq_pi (fun σ7 τ7 w7 v7 => ?_)
      have H7 := H.put w7 v7
      refine lq_gi (H7.1 6 (Or.inl (K1.k h6))) (fun z8 _ => lq_pi (fun σ9 τ9 w9 v9 => ?_))
      refine m_235 h72 (H7.put w9 v9) ?_
      rw [rs_i_n w9 (by decide), rs_i_e w7]
    · exact lq_gi (H.1 6 (K1.k h6)) (fun z10 _ => lq_ck (lq_pi (fun σ12 τ12 w v => ih (H.keep w v))))
theorem m_readSign {d e : Nat} {a : Int} (h5 : K 5) (h6 : K 6) (H : EK (K1 K) σ τ) : lq (RF d 12 σ [a]) (RF e 12 τ [a]) (fun σ' τ' _ _ => FR K σ' τ' 0 0) := by
  cases d with
  | zero => exact lq_none
  | succ d =>
    cases e with
    | zero => exact lq_non2
    | succ e =>
      rw [RF_s, RF_s]
      refine lq_fin ?_
      rw [rb_readSign, rb_readSign]
      unfold pf_readSign_0
      refine lq_pi (fun σ1 τ1 w1 v1 => lq_pi (fun σ2 τ2 w2 v2 => ?_))
      have H2 := (H.put w1 v1).put w2 v2
      have n2 : σ2.1 7 = 2 := by
        rw [rs_i_n w2 (by decide), rs_i_e w1]
      have k9 : Ka (Ka (K1 K) 7) 8 9 := Or.inl (Or.inl (Or.inl (Or.inr rfl)))
      have k11 : Ka (Ka (K1 K) 7) 8 11 := Or.inl (Or.inl (Or.inr rfl))
      have k7 : Ka (Ka (K1 K) 7) 8 7 := Or.inl (Or.inr rfl)
      have k8 : Ka (Ka (K1 K) 7) 8 8 := Or.inr rfl
      have k5 : Ka (Ka (K1 K) 7) 8 5 := Or.inl (Or.inl (K1.k h5))
      have k6 : Ka (Ka (K1 K) 7) 8 6 := Or.inl (Or.inl (K1.k h6))
      have fin : ∀ {σ τ : RS}, EK (Ka (Ka (K1 K) 7) 8) σ τ → σ.1 7 ≠ 1 → lq (some (σ, (0 : Int))) (some (τ, (0 : Int))) (fun σ' τ' _ _ => FR K σ' τ' 0 0) := fun {σ τ} H h7 => lq_some ⟨fun j hj => H.1 j (Or.inl (Or.inl (K1.k hj))), ⟨H.1 7 k7, H.1 9 k9, H.1 11 k11⟩, H.2, fun _ => H.1 8 k8, fun q => absurd q h7, rfl⟩
      have t98 : ∀ {σ τ : RS}, EK (Ka (Ka (K1 K) 7) 8) σ τ → σ.1 7 = 2 → lq (pf_readSign_98 (RF d) σ a) (pf_readSign_98 (RF e) τ a) (fun σ' τ' _ _ => FR K σ' τ' 0 0) := fun {σ τ} H h7 => by
        unfold pf_readSign_98
        have f := fin H (by omega)
        refine lq_if (fun _ => f) (fun _ => lq_if (fun _ => f) (fun _ => lq_if (fun _ => f) (fun _ => lq_if (fun _ => f) (fun _ => lq_if (fun _ => f) (fun _ => lq_if (fun _ => f) (fun _ => lq_if (fun _ => f) (fun _ => lq_if (fun _ => f) (fun _ => lq_pi (fun σ3 τ3 w3 v3 => fin (H.keep w3 v3) ?_)))))))))
        rw [rs_i_e w3]; decide
      have i8 : ∀ {s t : RS} {k : Nat} {x : Int}, k ≠ 7 → t = rs_i s k x → t.1 7 = s.1 7 := fun {s t k x} h w => by rw [w]; exact if_neg (Ne.symm h)
      have step : ∀ {σ τ : RS} {x : Int}, EK (Ka (Ka (K1 K) 7) 8) σ τ → σ.1 7 = 2 → lq (rf_pi σ 8 x (fun σ6 => rf_gi σ6 6 (fun z7 => rf_ck (z7 + 1) (fun z8 => rf_pi σ6 6 z8 (fun σ9 => some (σ9, 0)))))) (rf_pi τ 8 x (fun σ6 => rf_gi σ6 6 (fun z7 => rf_ck (z7 + 1) (fun z8 => rf_pi σ6 6 z8 (fun σ9 => some (σ9, 0)))))) (fun σ' τ' _ _ => FR K σ' τ' 0 0) := fun {σ τ x} H h7 => by
        refine lq_pi (fun σ6 τ6 w6 v6 => ?_)
        have H6 := H.keep w6 v6
        refine lq_gi (H6.1 6 k6) (fun z7 _ => lq_ck (lq_pi (fun σ9 τ9 w9 v9 => fin (H6.keep w9 v9) ?_)))
        rw [i8 (by decide) w9, i8 (by decide) w6, h7]; decide
      have t59 : ∀ {σ τ : RS}, EK (Ka (Ka (K1 K) 7) 8) σ τ → σ.1 7 = 2 → lq (pf_readSign_59 (RF d) σ a) (pf_readSign_59 (RF e) τ a) (fun σ' τ' _ _ => FR K σ' τ' 0 0) := fun {σ τ} H h7 => by
        unfold pf_readSign_59
        refine lq_if (fun _ => t98 H h7) (fun _ => lq_gi (H.1 6 k6) (fun z2 _ => lq_cl (m_byteAt k5 H) (fun σ3 τ3 z4 w4 h => ?_)))
        obtain ⟨rfl, rfl, rfl⟩ := h
        exact lq_if (fun _ => t98 H h7) (fun _ => step H h7)
      refine lq_gi (H2.1 6 k6) (fun z3 _ => lq_ck (lq_pi (fun σ5 τ5 w5 v5 => ?_)))
      have H5 := H2.keep w5 v5
      have n5 : σ5.1 7 = 2 := by rw [i8 (by decide) w5]; exact n2
      refine lq_if (fun _ => t59 H5 n5) (fun _ => lq_gi (H5.1 6 k6) (fun z7 _ => lq_cl (m_byteAt k5 H5) (fun σ8 τ8 z9 w9 h => ?_)))
      obtain ⟨rfl, rfl, rfl⟩ := h
      exact lq_if (fun _ => t59 H5 n5) (fun _ => step H5 n5)
theorem m_73 {r1 r2 : Nat → RS → List Int → RO} {k2 k2' : RS → Int → RO} (h5 : K 5) (h6 : K 6) (hk : ∀ {σ τ : RS} {z : Int}, EK K σ τ → lq (k2 σ z) (k2' τ z) (FR K)) : ∀ {n : Nat} {σ τ : RS} {a b : Int}, EK K σ τ → lq (pf_next_73 r1 k2 n σ a b) (pf_next_73 r2 k2' n τ a b) (FR K) := by
  intro n
  induction n with
  | zero => intros; exact lq_none
  | succ n ih =>
    intro σ τ a b H
    unfold pf_next_73
    have t111 : lq (pf_next_111 r1 k2 σ a b) (pf_next_111 r2 k2' τ a b) (FR K) := by
      unfold pf_next_111
      refine lq_gi (H.1 6 h6) (fun z1 _ => lq_gi (H.1 5 h5) (fun z2 _ => lq_if (fun _ => ?_) (fun _ => ?_)))
      · exact lq_gi (H.1 6 h6) (fun z4 _ => lq_ck (lq_pi (fun σ6 τ6 w v => hk (H.keep w v))))
      · refine lq_pi (fun σ7 τ7 w7 v7 => lq_pi (fun σ8 τ8 w8 v8 => lq_pi (fun σ9 τ9 w9 v9 => lq_some ?_)))
        have H9 := ((H.put w7 v7).put w8 v8).put w9 v9
        have n7 : σ9.1 7 = 3 := by
          rw [rs_i_n w9 (by decide), rs_i_e w8]
        exact ⟨fun j hj => H9.1 j (Or.inl (Or.inl (Or.inl hj))), ⟨H9.1 7 (Or.inl (Or.inr rfl)), H9.1 9 (Or.inl (Or.inl (Or.inr rfl))), H9.1 11 (Or.inr rfl)⟩, H9.2, fun q => by omega, fun q => by omega, rfl⟩
    exact lq_gi (H.1 6 h6) (fun z1 _ => lq_gi (H.1 5 h5) (fun z2 _ => lq_if (fun _ => t111) (fun _ => lq_gi (H.1 6 h6) (fun z4 _ => lq_rd H.2 (fun z5 => lq_if (fun _ => t111) (fun _ => lq_gi (H.1 6 h6) (fun z7 _ => lq_ck (lq_pi (fun σ9 τ9 w v => ih (H.keep w v))))))))))
theorem m_6 {d e : Nat} {k2 k2' : RS → Int → RO} (h5 : K 5) (h6 : K 6) (hk : ∀ {σ τ : RS} {z : Int}, EK K σ τ → lq (k2 σ z) (k2' τ z) (FR K)) : ∀ {n : Nat} {σ τ : RS}, EK K σ τ → lq (pf_next_6 (RF d) k2 n σ) (pf_next_6 (RF e) k2' n τ) (FR K) := by
  intro n
  induction n with
  | zero => intros; exact lq_none
  | succ n ih =>
    intro σ τ H
    unfold pf_next_6
    have t32 : lq (pf_next_32 (RF d) k2 (pf_next_6 (RF d) k2 n) σ) (pf_next_32 (RF e) k2' (pf_next_6 (RF e) k2' n) τ) (FR K) := by
      unfold pf_next_32
      exact lq_gi (H.1 6 h6) (fun z1 _ => lq_ck (lq_pi (fun σ3 τ3 w v => ih (H.keep w v))))
    have t63 : ∀ (x : Int), lq (pf_next_63 (RF d) k2 σ x) (pf_next_63 (RF e) k2' τ x) (FR K) := fun x => by
      unfold pf_next_63
      exact lq_if (fun _ => hk H) (fun _ => lq_gi (H.1 6 h6) (fun z2 _ => m_73 (k2 := k2) (k2' := k2') h5 h6 hk H))
    refine lq_gi (H.1 6 h6) (fun z1 _ => lq_cl (m_byteAt h5 H) (fun σ2 τ2 z3 w3 h => ?_))
    obtain ⟨rfl, rfl, rfl⟩ := h
    refine lq_if (fun _ => t32) (fun _ => lq_gi (H.1 6 h6) (fun z5 _ => lq_cl (m_byteAt h5 H) (fun σ6 τ6 z7 w7 h => ?_)))
    obtain ⟨rfl, rfl, rfl⟩ := h
    refine lq_if (fun _ => lq_gi (H.1 6 h6) (fun z9 _ => lq_cl (m_byteAt h5 H) (fun σ10 τ10 z11 w11 h => ?_))) (fun _ => t32)
    obtain ⟨rfl, rfl, rfl⟩ := h
    exact lq_if (fun _ => t63 0) (fun _ => t63 1)
theorem m_2 {d e : Nat} (h5 : K 5) (h6 : K 6) (h72 : K 72) : ∀ {n : Nat} {σ τ : RS} {a : Int}, EK K σ τ → lq (pf_next_2 (RF d) n σ a) (pf_next_2 (RF e) n τ a) (FR K) := by
  intro n
  induction n with
  | zero => intros; exact lq_none
  | succ n ih =>
    intro σ τ a H
    unfold pf_next_2
    refine lq_if (fun _ => ?_) (fun _ => m_6 (k2 := pf_next_2 (RF d) n) (k2' := pf_next_2 (RF e) n) h5 h6 (fun h => ih h) H)
    refine lq_gi (H.1 6 h6) (fun z2 _ => lq_pi (fun σ3 τ3 w3 v3 => ?_))
    have H3 := H.put w3 v3
    refine lq_gi (H3.1 6 (Or.inl h6)) (fun z4 _ => lq_cl (m_byteAt (Or.inl h5) H3) (fun σ5 τ5 z6 w6 h => ?_))
    obtain ⟨rfl, rfl, rfl⟩ := h
    refine lq_pi (fun σ7 τ7 w7 v7 => ?_)
    have H7 : EK (K1 K) σ7 τ7 := H3.put w7 v7
    refine lq_if (fun _ => ?_) (fun _ => ?_)
    · refine lq_cl m_isLetter (fun σ9 τ9 z10 w10 h => ?_)
      obtain ⟨rfl, rfl, rfl⟩ := h
      exact lq_if (fun _ => lq_cl (m_readSign h5 h6 H7) (fun σ' τ' z w h => lq_some h)) (fun _ => m_193 h5 h6 h72 H7)
    · refine lq_pi (fun σ8 τ8 w8 v8 => lq_some ?_)
      have H8 := H7.put w8 v8
      have n7 : σ8.1 7 = 0 := rs_i_e w8
      exact ⟨fun j hj => H8.1 j (Or.inl (K1.k hj)), ⟨H8.1 7 (Or.inr rfl), H8.1 9 (Or.inl (Or.inl (Or.inr rfl))), H8.1 11 (Or.inl (Or.inr rfl))⟩, H8.2, fun q => by omega, fun q => by omega, rfl⟩
/-- a token is read the same way, whatever stood there before -/
theorem m_next {d e : Nat} (h5 : K 5) (h6 : K 6) (h72 : K 72) (H : EK K σ τ) : lq (RF d 10 σ []) (RF e 10 τ []) (FR K) := by
  cases d with
  | zero => exact lq_none
  | succ d =>
    cases e with
    | zero => exact lq_non2
    | succ e =>
      rw [RF_s, RF_s]
      refine lq_fin ?_
      rw [rb_next, rb_next]
      unfold pf_next_0
      exact m_2 h5 h6 h72 H
theorem l_next {d e : Nat} (H : SL σ τ) : lr (RF d 10 σ []) (RF e 10 τ []) (fun r s => r = s) := by
  have E : EK (fun j => j = 5 ∨ j = 6 ∨ j = 72 ∨ j = 76) σ τ := ⟨fun j hj => H.1 j (by rcases hj with rfl | rfl | rfl | rfl <;> rfl), H.2.1⟩
  intro y1 y2 h1 h2
  obtain ⟨f1, f2, f3, f4, f5, f6⟩ := m_next (Or.inl rfl) (Or.inr (Or.inl rfl)) (Or.inr (Or.inr (Or.inl rfl))) E y1 y2 h1 h2
  refine ⟨⟨fun j hj => ?_, f3, f4, f5⟩, f6⟩
  unfold lxk at hj
  simp only [Bool.or_eq_true, beq_iff_eq] at hj
  rcases hj with (((((rfl | rfl) | rfl) | rfl) | rfl) | rfl) | rfl
  · exact f1 5 (Or.inl rfl)
  · exact f1 6 (Or.inr (Or.inl rfl))
  · exact f2.1
  · exact f2.2.1
  · exact f2.2.2
  · exact f1 72 (Or.inr (Or.inr (Or.inl rfl)))
  · exact f1 76 (Or.inr (Or.inr (Or.inr rfl)))
end RLQ
