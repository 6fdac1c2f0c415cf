section RLK
variable {σ τ : RS} {V V' : Int → Int → Prop}
/-- two runs whose lexers stand alike -/
def lxk (j : Nat) : Bool := j == 5 || j == 6 || j == 7 || j == 9 || j == 11 || j == 72 || j == 76
def SL (σ τ : RS) : Prop := (∀ j, lxk j = true → σ.1 j = τ.1 j) ∧ σ.2 4 = τ.2 4 ∧ (σ.1 7 = 2 → σ.1 8 = τ.1 8) ∧ (σ.1 7 = 1 → σ.1 10 = τ.1 10)
def lr (o1 o2 : RO) (V : Int → Int → Prop) : Prop := ∀ y1 y2, o1 = some y1 → o2 = some y2 → SL y1.1 y2.1 ∧ V y1.2 y2.2
theorem lr_some {r s : Int} (H : SL σ τ) (h : V r s) : lr (some (σ, r)) (some (τ, s)) V := by
  intro y1 y2 h1 h2
  cases h1; cases h2
  exact ⟨H, h⟩
theorem lr_none {o : RO} : lr none o V := fun y1 y2 h1 _ => by cases h1
theorem lr_gi {k : Nat} {f g : Int → RO} (H : SL σ τ) (hk : lxk k = true) (h : ∀ z, lr (f z) (g z) V) : lr (rf_gi σ k f) (rf_gi τ k g) V := by
  unfold rf_gi
  rw [H.1 k hk]
  exact h _
theorem lr_gj {k : Nat} {f g : Int → RO} (h : ∀ z w, lr (f z) (g w) V) : lr (rf_gi σ k f) (rf_gi τ k g) V := h _ _
theorem SL.pi (H : SL σ τ) (k : Nat) {x y : Int} (hx : x = y ∨ lxk k = false) (hk : k ≠ 7 ∧ k ≠ 8 ∧ k ≠ 10) : SL (rs_i σ k x) (rs_i τ k y) := by
  have n : ∀ (s : RS) (z : Int) (j : Nat), j ≠ k → (rs_i s k z).1 j = s.1 j := fun s z j hj => if_neg hj
  refine ⟨fun j hj => ?_, H.2.1, ?_, ?_⟩
  · show (if j = k then x else σ.1 j) = (if j = k then y else τ.1 j)
    by_cases c : j = k
    · rw [if_pos c, if_pos c]
      rcases hx with q | q
      · exact q
      · rw [c, q] at hj; cases hj
    · rw [if_neg c, if_neg c]; exact H.1 j hj
  · rw [n σ x 7 (Ne.symm hk.1), n σ x 8 (Ne.symm hk.2.1), n τ y 8 (Ne.symm hk.2.1)]; exact H.2.2.1
  · rw [n σ x 7 (Ne.symm hk.1), n σ x 10 (Ne.symm hk.2.2), n τ y 10 (Ne.symm hk.2.2)]; exact H.2.2.2
theorem lr_pi {k : Nat} {x y : Int} {f g : RS → RO} (H : SL σ τ) (hx : x = y ∨ lxk k = false) (h : ∀ σ1 τ1, SL σ1 τ1 → lr (f σ1) (g τ1) V) (hk : k ≠ 7 ∧ k ≠ 8 ∧ k ≠ 10 := by decide) : lr (rf_pi σ k x f) (rf_pi τ k y g) V := h _ _ (H.pi k hx hk)
theorem lr_ck {x : Int} {f g : Int → RO} (h : ∀ z, lr (f z) (g z) V) : lr (rf_ck x f) (rf_ck x g) V := by
  unfold rf_ck
  by_cases c : -2147483648 ≤ x ∧ x ≤ 2147483647
  · rw [if_pos c, if_pos c]; exact h x
  · rw [if_neg c, if_neg c]; exact lr_none
theorem lr_cj {x y : Int} {f g : Int → RO} (h : ∀ z w, lr (f z) (g w) V) : lr (rf_ck x f) (rf_ck y g) V := by
  unfold rf_ck
  by_cases c : -2147483648 ≤ x ∧ x ≤ 2147483647
  · rw [if_pos c]
    by_cases c2 : -2147483648 ≤ y ∧ y ≤ 2147483647
    · rw [if_pos c2]; exact h x y
    · rw [if_neg c2]; exact fun y1 y2 _ h2 => by cases h2
  · rw [if_neg c]; exact lr_none
theorem lr_bo {x y : Int} {f g : RO} (h : lr f g V) : lr (rf_bo x f) (rf_bo y g) V := by
  unfold rf_bo
  by_cases c : x = 0 ∨ x = 1
  · rw [if_pos c]
    by_cases c2 : y = 0 ∨ y = 1
    · rw [if_pos c2]; exact h
    · rw [if_neg c2]; exact fun y1 y2 _ h2 => by cases h2
  · rw [if_neg c]; exact lr_none
theorem lr_rd {i : Int} {f g : Int → RO} (H : SL σ τ) (h : ∀ z, lr (f z) (g z) V) : lr (rf_rd σ 4 i f) (rf_rd τ 4 i g) V := by
  unfold rf_rd
  rw [H.2.1]
  by_cases c : 0 ≤ i ∧ i < (rf_len 4 : Int)
  · rw [if_pos c, if_pos c]; exact h _
  · rw [if_neg c, if_neg c]; exact lr_none
theorem SL.wr (H : SL σ τ) {k : Nat} (hk : k ≠ 4) (i x j y : Int) : SL (rs_a σ k i x) (rs_a τ k j y) := by
  refine ⟨H.1, ?_, H.2.2⟩
  funext q
  show (if 4 = k then _ else σ.2 4 q) = (if 4 = k then _ else τ.2 4 q)
  rw [if_neg (fun e => hk e.symm), if_neg (fun e => hk e.symm), H.2.1]
theorem lr_wj {k : Nat} {i x j y : Int} {f g : RS → RO} (H : SL σ τ) (hk : k ≠ 4) (h : ∀ σ1 τ1, SL σ1 τ1 → lr (f σ1) (g τ1) V) : lr (rf_wr σ k i x f) (rf_wr τ k j y g) V := by
  unfold rf_wr
  by_cases c : 0 ≤ i ∧ i < (rf_len k : Int)
  · rw [if_pos c]
    by_cases c2 : 0 ≤ j ∧ j < (rf_len k : Int)
    · rw [if_pos c2]; exact h _ _ (H.wr hk i x j y)
    · rw [if_neg c2]; exact fun y1 y2 _ h2 => by cases h2
  · rw [if_neg c]; exact lr_none
theorem SL.w1 (H : SL σ τ) {k : Nat} (hk : k ≠ 4) (i x : Int) : SL (rs_a σ k i x) τ := by
  refine ⟨H.1, ?_, H.2.2⟩
  funext q
  show (if 4 = k then _ else σ.2 4 q) = τ.2 4 q
  rw [if_neg (fun e => hk e.symm), H.2.1]
theorem SL.i1 (H : SL σ τ) {k : Nat} (hk : lxk k = false) (x : Int) (hk' : k ≠ 7 ∧ k ≠ 8 ∧ k ≠ 10) : SL (rs_i σ k x) τ := by
  have n : ∀ (s : RS) (z : Int) (j : Nat), j ≠ k → (rs_i s k z).1 j = s.1 j := fun s z j hj => if_neg hj
  refine ⟨fun j hj => ?_, H.2.1, ?_, ?_⟩
  · show (if j = k then x else σ.1 j) = τ.1 j
    rw [if_neg (fun e => by rw [e, hk] at hj; cases hj)]
    exact H.1 j hj
  · rw [n σ x 7 (Ne.symm hk'.1), n σ x 8 (Ne.symm hk'.2.1)]; exact H.2.2.1
  · rw [n σ x 7 (Ne.symm hk'.1), n σ x 10 (Ne.symm hk'.2.2)]; exact H.2.2.2
theorem SL.symm (H : SL σ τ) : SL τ σ := by
  have e7 := H.1 7 rfl
  exact ⟨fun j hj => (H.1 j hj).symm, H.2.1.symm, fun q => (H.2.2.1 (e7.trans q)).symm, fun q => (H.2.2.2 (e7.trans q)).symm⟩
theorem lr_ws {i : Int} {f g : Int → RO} (h : ∀ z, lr (f z) (g z) V) : lr (rf_ws i f) (rf_ws i g) V := by
  unfold rf_ws
  by_cases c : 0 ≤ i ∧ i < 9
  · rw [if_pos c, if_pos c]; exact h _
  · rw [if_neg c, if_neg c]; exact lr_none
theorem lr_sL {i : Int} {f g : Int → RO} (h : ∀ z, lr (f z) (g z) V) : lr (rf_sL i f) (rf_sL i g) V := by
  unfold rf_sL
  by_cases c : 0 ≤ i ∧ i < 11
  · rw [if_pos c, if_pos c]; exact h _
  · rw [if_neg c, if_neg c]; exact lr_none
theorem lr_sC {i j : Int} {f g : Int → RO} (h : ∀ z, lr (f z) (g z) V) : lr (rf_sC i j f) (rf_sC i j g) V := by
  unfold rf_sC
  by_cases c : (0 ≤ i ∧ i < 11) ∧ 0 ≤ j ∧ j < rf_sn i.toNat
  · rw [if_pos c, if_pos c]; exact h _
  · rw [if_neg c, if_neg c]; exact lr_none
theorem lr_if {c : Prop} [Decidable c] {a b a' b' : RO} (h1 : c → lr a a' V) (h2 : ¬ c → lr b b' V) : lr (if c then a else b) (if c then a' else b') V := by
  by_cases h : c
  · rw [if_pos h, if_pos h]; exact h1 h
  · rw [if_neg h, if_neg h]; exact h2 h
theorem lr_ij {c c' : Prop} [Decidable c] [Decidable c'] {a b a' b' : RO} (h1 : lr a a' V) (h2 : lr a b' V) (h3 : lr b a' V) (h4 : lr b b' V) : lr (if c then a else b) (if c' then a' else b') V := by
  by_cases h : c
  · rw [if_pos h]
    by_cases k : c'
    · rw [if_pos k]; exact h1
    · rw [if_neg k]; exact h2
  · rw [if_neg h]
    by_cases k : c'
    · rw [if_pos k]; exact h3
    · rw [if_neg k]; exact h4
theorem lr_cl {o1 o2 : RO} {f g : RS → Int → RO} {U : Int → Int → Prop} (h : lr o1 o2 U) (h0 : ∀ σ' τ' z w, SL σ' τ' → U z w → lr (f σ' z) (g τ' w) V) : lr (rf_cl o1 f) (rf_cl o2 g) V := by
  cases o1 with
  | none => exact lr_none
  | some y1 =>
    cases o2 with
    | none => exact fun y1 y2 _ h2 => by cases h2
    | some y2 =>
      obtain ⟨a, b⟩ := h y1 y2 rfl rfl
      exact h0 _ _ _ _ a b
theorem lr_fin {o1 o2 : RO} (h : lr o1 o2 V) : lr (rf_fin o1) (rf_fin o2) V := by
  intro y1 y2 h1 h2
  exact h y1 y2 (rf_fin_s h1).1 (rf_fin_s h2).1
end RLK
