/-! THE CLASS, PURE: what a run of pure words comes to -/
section CSA
def sf (o : CO) (Q : CS → Nat → Int → Prop) : Prop := ∃ σ' kd r, o = some (σ', kd, r) ∧ Q σ' kd r
variable {Q Q' : CS → Nat → Int → Prop} {σ : CS}
theorem sf_mono {o : CO} (h : sf o Q) (k : ∀ σ' kd r, Q σ' kd r → Q' σ' kd r) : sf o Q' := by
  obtain ⟨σ', kd, r, h1, h2⟩ := h
  exact ⟨σ', kd, r, h1, k _ _ _ h2⟩
theorem sf_some {kd : Nat} {r : Int} (h : Q σ kd r) : sf (some (σ, kd, r)) Q := ⟨_, _, _, rfl, h⟩
theorem sf_fin {o : CO} (h : sf o (fun σ' kd r => inR r ∧ Q σ' kd r)) : sf (cc_fin o) Q := by
  obtain ⟨σ', kd, r, h1, h2, h3⟩ := h
  refine ⟨σ', kd, r, ?_, h3⟩
  rw [h1]
  exact if_pos h2
theorem sf_ck {x : Int} {f : Int → CO} (hx : inR x) (h : sf (f x) Q) : sf (cc_ck x f) Q := by
  unfold cc_ck; rw [if_pos hx]; exact h
theorem sf_nm {x : Int} {f : Int → CO} (h : sf (f x) Q) : sf (cc_nm x f) Q := h
theorem sf_bo {x : Int} {f : CO} (hx : x = 0 ∨ x = 1) (h : sf f Q) : sf (cc_bo x f) Q := by
  unfold cc_bo; rw [if_pos hx]; exact h
theorem sf_g {t f : Nat} {x : Int} {k : Int → CO} (hx : 0 ≤ x ∧ c_tg σ x.toNat = t) (h : sf (k (c_pv σ x.toNat f)) Q) : sf (cc_g σ t f x k) Q := by
  unfold cc_g; rw [if_pos hx]; exact h
theorem sf_p {t f : Nat} {x y : Int} {k : CS → CO} (hx : 0 ≤ x ∧ c_tg σ x.toNat = t) (h : sf (k (cs_p σ x.toNat f y)) Q) : sf (cc_p σ t f x y k) Q := by
  unfold cc_p; rw [if_pos hx]; exact h
theorem sf_l {t : Nat} {x : Int} {k : Int → CO} (hx : 0 ≤ x ∧ c_tg σ x.toNat = t) (hn : c_ln σ x.toNat ≤ 2147483647) (h : sf (k (c_ln σ x.toNat : Int)) Q) : sf (cc_l σ t x k) Q := by
  unfold cc_l; rw [if_pos ⟨hx, hn⟩]; exact h
theorem sf_r {t : Nat} {x i : Int} {k : Int → CO} (hx : 0 ≤ x ∧ c_tg σ x.toNat = t) (hi : 0 ≤ i ∧ i < (c_ln σ x.toNat : Int)) (h : sf (k (c_pv σ x.toNat i.toNat)) Q) : sf (cc_r σ t x i k) Q := by
  unfold cc_r; rw [if_pos ⟨hx, hi⟩]; exact h
theorem sf_w {t : Nat} {x i y : Int} {k : CS → CO} (hx : 0 ≤ x ∧ c_tg σ x.toNat = t) (hi : 0 ≤ i ∧ i < (c_ln σ x.toNat : Int)) (h : sf (k (cs_p σ x.toNat i.toNat y)) Q) : sf (cc_w σ t x i y k) Q := by
  unfold cc_w; rw [if_pos ⟨hx, hi⟩]; exact h
theorem sf_t {t : Nat} {x : Int} {k : CO} (hx : 0 ≤ x ∧ c_tg σ x.toNat = t) (h : sf k Q) : sf (cc_t σ t x k) Q := by
  unfold cc_t; rw [if_pos hx]; exact h
theorem sf_tn {t : Nat} {x : Int} {k : CO} (hx : x < 0 ∨ (0 ≤ x ∧ c_tg σ x.toNat = t)) (h : sf k Q) : sf (cc_tn σ t x k) Q := by
  unfold cc_tn; rw [if_pos hx]; exact h
theorem sf_to {x : Int} {k : CO} (hx : x < 0 ∨ (0 ≤ x ∧ (c_tg σ x.toNat = 7 ∨ c_tg σ x.toNat = 10))) (h : sf k Q) : sf (cc_to σ x k) Q := by
  unfold cc_to; rw [if_pos hx]; exact h
theorem sf_n {b : cBd} {t N : Nat} {k : CS → Int → CO} (hb : c_hp σ + 1 ≤ b.1 ∧ c_sl σ + N ≤ b.2.1 ∧ c_hp σ < 2147483648) (h : sf (k (cs_n σ t N) (c_hp σ : Int)) Q) : sf (cc_n σ b t N k) Q := by
  unfold cc_n; rw [if_pos hb]; exact h
theorem sf_na {b : cBd} {t : Nat} {i : Int} {k : CS → Int → CO} (hi : 0 ≤ i ∧ i.toNat * 4 ≤ 536870912) (hb : c_hp σ + 1 ≤ b.1 ∧ c_sl σ + i.toNat ≤ b.2.1 ∧ c_hp σ < 2147483648) (h : sf (k (cs_n σ t i.toNat) (c_hp σ : Int)) Q) : sf (cc_na σ b t i k) Q := by
  unfold cc_na; rw [if_pos ⟨hi, hb⟩]; exact h
theorem sf_x {b : cBd} {kd : Nat} (hb : c_hp σ + 1 ≤ b.1 ∧ c_sl σ + 6 ≤ b.2.1) (h : Q (cs_x σ 6) kd 0) : sf (cc_x σ b kd) Q := by
  unfold cc_x; rw [if_pos hb]; exact sf_some h
theorem sf_gs {b : cBd} {i : Nat} {k : Int → CO} (hi : b.2.2 i ≤ 2147483647) (h : sf (k (b.2.2 i : Int)) Q) : sf (cc_gs b i k) Q := by
  unfold cc_gs; rw [if_pos (by omega)]; exact h
theorem sf_mx {x y : Int} {k : Int → CO} (h : sf (k (if x < y then y else x)) Q) : sf (cc_mx x y k) Q := h
theorem sf_mn {x y : Int} {k : Int → CO} (h : sf (k (if y < x then y else x)) Q) : sf (cc_mn x y k) Q := h
theorem sf_ac {σ : CS} {x y : Int} {k : CO} (hx : (0 ≤ x ∧ 0 ≤ y) ∧ (x = y ∨ (c_tg σ x.toNat ≠ 0 ∧ c_tg σ y.toNat ≠ 0))) (h : sf k Q) : sf (cc_ac σ x y k) Q := by
  unfold cc_ac; rw [if_pos hx]; exact h
theorem sf_if {c : Prop} [Decidable c] {a b : CO} (h1 : c → sf a Q) (h2 : ¬ c → sf b Q) : sf (if c then a else b) Q := by
  by_cases h : c
  · rw [if_pos h]; exact h1 h
  · rw [if_neg h]; exact h2 h
/-- a call: it returns, or throws -/
theorem sf_cl {o : CO} {k : CS → Int → CO} {P : CS → Nat → Int → Prop} (h : sf o P) (h0 : ∀ σ' r, P σ' 0 r → sf (k σ' r) Q) (h1 : ∀ σ' kd r, kd ≠ 0 → P σ' kd r → Q σ' kd r) : sf (cc_cl o k) Q := by
  obtain ⟨σ', kd, r, e, hp⟩ := h
  subst e
  by_cases hk : kd = 0
  · subst hk
    exact h0 σ' r hp
  · refine ⟨σ', kd, r, ?_, h1 σ' kd r hk hp⟩
    show (if kd = 0 then _ else _) = _
    rw [if_neg hk]
theorem sf_ci {o : CO} {k : CS → CO} {P : CS → Nat → Int → Prop} (h : sf o P) (h0 : ∀ σ' kd r, P σ' kd r → kd = 0 ∧ sf (k σ') Q) : sf (cc_ci o k) Q := by
  obtain ⟨σ', kd, r, e, hp⟩ := h
  subst e
  obtain ⟨hk, h2⟩ := h0 σ' kd r hp
  subst hk
  exact h2
theorem sf_cn {o : CO} {k : CS → Int → CO} {P : CS → Nat → Int → Prop} (h : sf o P) (h0 : ∀ σ' kd r, P σ' kd r → kd = 0 ∧ sf (k σ' r) Q) : sf (cc_cn o k) Q := by
  obtain ⟨σ', kd, r, e, hp⟩ := h
  subst e
  obtain ⟨hk, h2⟩ := h0 σ' kd r hp
  subst hk
  exact h2
theorem sf_ct {o : CO} {k : CS → Int → CO} {h9 : CS → CO} {P : CS → Nat → Int → Prop} (h : sf o P) (h0 : ∀ σ' r, P σ' 0 r → sf (k σ' r) Q) (h1 : ∀ σ' kd r, kd ≠ 0 → P σ' kd r → kd = 1 ∧ sf (h9 σ') Q) : sf (cc_ct o k h9) Q := by
  obtain ⟨σ', kd, r, e, hp⟩ := h
  subst e
  by_cases hk : kd = 0
  · subst hk
    exact h0 σ' r hp
  · obtain ⟨h2, h3⟩ := h1 σ' kd r hk hp
    subst h2
    exact h3
end CSA
section CSW
variable {Q : CS → Nat → Int → Prop} {σ : CS}
theorem wg {t f : Nat} {x : Int} {k : Int → CO} (hx : 0 ≤ x ∧ c_tg σ x.toNat = t) (h : ∀ z, c_pv σ x.toNat f = z → sf (k z) Q) : sf (cc_g σ t f x k) Q := sf_g hx (h _ rfl)
theorem wgN {n t f : Nat} {k : Int → CO} (hx : c_tg σ n = t) (h : ∀ z, c_pv σ n f = z → sf (k z) Q) : sf (cc_g σ t f ((n : Nat) : Int) k) Q := sf_g ⟨by omega, by rw [Int.toNat_natCast]; exact hx⟩ (by rw [Int.toNat_natCast]; exact h _ rfl)
theorem wgF {n t f : Nat} {v : Int} {k : Int → CO} (hx : c_tg σ n = t) (hv : c_pv σ n f = v) (h : sf (k v) Q) : sf (cc_g σ t f ((n : Nat) : Int) k) Q := sf_g ⟨by omega, by rw [Int.toNat_natCast]; exact hx⟩ (by rw [Int.toNat_natCast, hv]; exact h)
theorem wp {t f : Nat} {x y : Int} {k : CS → CO} (hx : 0 ≤ x ∧ c_tg σ x.toNat = t) (h : ∀ σ1, σ1 = cs_p σ x.toNat f y → sf (k σ1) Q) : sf (cc_p σ t f x y k) Q := sf_p hx (h _ rfl)
theorem wpN {n t f : Nat} {y : Int} {k : CS → CO} (hx : c_tg σ n = t) (h : ∀ σ1, σ1 = cs_p σ n f y → sf (k σ1) Q) : sf (cc_p σ t f ((n : Nat) : Int) y k) Q := sf_p ⟨by omega, by rw [Int.toNat_natCast]; exact hx⟩ (by rw [Int.toNat_natCast]; exact h _ rfl)
theorem wl {t : Nat} {x : Int} {k : Int → CO} (hx : 0 ≤ x ∧ c_tg σ x.toNat = t) (hn : c_ln σ x.toNat ≤ 2147483647) (h : ∀ z, (c_ln σ x.toNat : Int) = z → sf (k z) Q) : sf (cc_l σ t x k) Q := sf_l hx hn (h _ rfl)
theorem wlN {n t m : Nat} {k : Int → CO} (hx : c_tg σ n = t) (hm : c_ln σ n = m) (hn : m ≤ 2147483647) (h : ∀ z, z = (m : Int) → sf (k z) Q) : sf (cc_l σ t ((n : Nat) : Int) k) Q := sf_l ⟨by omega, by rw [Int.toNat_natCast]; exact hx⟩ (by rw [Int.toNat_natCast, hm]; exact hn) (by rw [Int.toNat_natCast, hm]; exact h _ rfl)
theorem wr {t : Nat} {x i : Int} {k : Int → CO} (hx : 0 ≤ x ∧ c_tg σ x.toNat = t) (hi : 0 ≤ i ∧ i < (c_ln σ x.toNat : Int)) (h : ∀ z, c_pv σ x.toNat i.toNat = z → sf (k z) Q) : sf (cc_r σ t x i k) Q := sf_r hx hi (h _ rfl)
theorem wrN {n t m : Nat} {i : Int} {k : Int → CO} (hx : c_tg σ n = t) (hm : c_ln σ n = m) (hi : 0 ≤ i ∧ i < (m : Int)) (h : ∀ z, c_pv σ n i.toNat = z → sf (k z) Q) : sf (cc_r σ t ((n : Nat) : Int) i k) Q := sf_r ⟨by omega, by rw [Int.toNat_natCast]; exact hx⟩ (by rw [Int.toNat_natCast, hm]; exact hi) (by rw [Int.toNat_natCast]; exact h _ rfl)
theorem ww {t : Nat} {x i y : Int} {k : CS → CO} (hx : 0 ≤ x ∧ c_tg σ x.toNat = t) (hi : 0 ≤ i ∧ i < (c_ln σ x.toNat : Int)) (h : ∀ σ1, σ1 = cs_p σ x.toNat i.toNat y → sf (k σ1) Q) : sf (cc_w σ t x i y k) Q := sf_w hx hi (h _ rfl)
theorem wwN {n t m : Nat} {i y : Int} {k : CS → CO} (hx : c_tg σ n = t) (hm : c_ln σ n = m) (hi : 0 ≤ i ∧ i < (m : Int)) (h : ∀ σ1, σ1 = cs_p σ n i.toNat y → sf (k σ1) Q) : sf (cc_w σ t ((n : Nat) : Int) i y k) Q := sf_w ⟨by omega, by rw [Int.toNat_natCast]; exact hx⟩ (by rw [Int.toNat_natCast, hm]; exact hi) (by rw [Int.toNat_natCast]; exact h _ rfl)
theorem wck {x : Int} {f : Int → CO} (hx : -2147483648 ≤ x ∧ x ≤ 2147483647) (h : ∀ z, z = x → sf (f z) Q) : sf (cc_ck x f) Q := sf_ck hx (h _ rfl)
theorem wnm {x : Int} {f : Int → CO} (h : ∀ z, z = x → sf (f z) Q) : sf (cc_nm x f) Q := h _ rfl
theorem wtN {n t : Nat} {k : CO} (hx : c_tg σ n = t) (h : sf k Q) : sf (cc_t σ t ((n : Nat) : Int) k) Q := sf_t ⟨by omega, by rw [Int.toNat_natCast]; exact hx⟩ h
theorem wn {b : cBd} {t N : Nat} {k : CS → Int → CO} (hb : c_hp σ + 1 ≤ b.1 ∧ c_sl σ + N ≤ b.2.1 ∧ c_hp σ < 2147483648) (h : ∀ σ1, σ1 = cs_n σ t N → sf (k σ1 (c_hp σ : Int)) Q) : sf (cc_n σ b t N k) Q := sf_n hb (h _ rfl)
theorem wna {b : cBd} {t : Nat} {i : Int} {k : CS → Int → CO} (hi : 0 ≤ i ∧ i ≤ 100000000) (hb : c_hp σ + 1 ≤ b.1 ∧ c_sl σ + i.toNat ≤ b.2.1 ∧ c_hp σ < 2147483648) (h : ∀ σ1, σ1 = cs_n σ t i.toNat → sf (k σ1 (c_hp σ : Int)) Q) : sf (cc_na σ b t i k) Q := sf_na ⟨hi.1, by omega⟩ hb (h _ rfl)
theorem wmn {x y : Int} {k : Int → CO} (h : ∀ z, (z = x ∧ x ≤ y) ∨ (z = y ∧ y < x) → sf (k z) Q) : sf (cc_mn x y k) Q := by
  refine sf_mn (h _ ?_)
  by_cases c : y < x
  · rw [if_pos c]; exact Or.inr ⟨rfl, c⟩
  · rw [if_neg c]; exact Or.inl ⟨rfl, by omega⟩
theorem wmx {x y : Int} {k : Int → CO} (h : ∀ z, (z = y ∧ x < y) ∨ (z = x ∧ y ≤ x) → sf (k z) Q) : sf (cc_mx x y k) Q := by
  refine sf_mx (h _ ?_)
  by_cases c : x < y
  · rw [if_pos c]; exact Or.inl ⟨rfl, c⟩
  · rw [if_neg c]; exact Or.inr ⟨rfl, by omega⟩
end CSW
