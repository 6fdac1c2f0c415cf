section RTR
variable {σ σ' σ'' : RS} {d : Nat}
/-- a name's place in the text -/
def NMr (a : Nat → Nat → Int) (t : Int) : Prop := a 30 t.toNat = 0 ∧ 0 ≤ a 31 t.toNat ∧ (1 ≤ a 32 t.toNat ∧ a 32 t.toNat ≤ 12) ∧ a 31 t.toNat + a 32 t.toNat ≤ 4000
/-- a term just read: its height, its node, and the nodes that are its own -/
def TRn (a : Nat → Nat → Int) : Nat → Nat → Int → Int → Int → Prop
  | 0, _, _, _, _ => False
  | n + 1, h, t, lo, hi => (0 ≤ t ∧ NMr a t ∧ lo = t ∧ hi = t + 1)
    ∨ (∃ (k : Nat) (x y m : Int), TRn a n h x lo m ∧ TRn a n k y m t ∧ k < h ∧ a 30 t.toNat = 7 ∧ a 32 t.toNat = x ∧ a 33 t.toNat = y ∧ a 38 t.toNat = t ∧ hi = t + 1)
    ∨ (∃ (k j : Nat) (x y m : Int), TRn a n k x lo m ∧ TRn a n j y m t ∧ k < h ∧ j < h ∧ a 30 t.toNat = 5 ∧ a 31 t.toNat = -1 ∧ a 32 t.toNat = x ∧ a 33 t.toNat = y ∧ a 38 t.toNat = t ∧ hi = t + 1)
    ∨ (∃ (k j : Nat) (x y m : Int), 0 ≤ t ∧ TRn a n k x (t + 2) m ∧ TRn a n j y m hi ∧ k + 2 ≤ h ∧ j + 2 ≤ h ∧ (4 ≤ a 30 t.toNat ∧ a 30 t.toNat ≤ 6) ∧ a 31 t.toNat = t + 1 ∧ NMr a (t + 1) ∧ a 32 t.toNat = x ∧ a 33 t.toNat = y ∧ a 38 t.toNat = t ∧ lo = t)
def TR (a : Nat → Nat → Int) (h : Nat) (t lo hi : Int) : Prop := ∃ n, TRn a n h t lo hi
theorem TRn.up {a : Nat → Nat → Int} : ∀ {n : Nat} {h : Nat} {t lo hi : Int}, TRn a n h t lo hi → ∀ {n' : Nat}, n ≤ n' → TRn a n' h t lo hi := by
  intro n
  induction n with
  | zero => intro h t lo hi T; exact False.elim T
  | succ n ih =>
    intro h t lo hi T n' hn
    obtain ⟨n', rfl⟩ : ∃ k, n' = k + 1 := ⟨n' - 1, by omega⟩
    have hn' : n ≤ n' := by omega
    rcases T with T | ⟨k, x, y, m, T1, T2, R⟩ | ⟨k, j, x, y, m, T1, T2, R⟩ | ⟨k, j, x, y, m, h0, T1, T2, R⟩
    · exact Or.inl T
    · exact Or.inr (Or.inl ⟨k, x, y, m, ih T1 hn', ih T2 hn', R⟩)
    · exact Or.inr (Or.inr (Or.inl ⟨k, j, x, y, m, ih T1 hn', ih T2 hn', R⟩))
    · exact Or.inr (Or.inr (Or.inr ⟨k, j, x, y, m, h0, ih T1 hn', ih T2 hn', R⟩))
theorem TR.nm {a : Nat → Nat → Int} {h : Nat} {t : Int} (h0 : 0 ≤ t) (n : NMr a t) : TR a h t t (t + 1) := ⟨1, Or.inl ⟨h0, n, rfl, rfl⟩⟩
theorem TR.ap {a : Nat → Nat → Int} {h k : Nat} {x y lo m t : Int} (T1 : TR a h x lo m) (T2 : TR a k y m t) (hk : k < h) (e1 : a 30 t.toNat = 7) (e2 : a 32 t.toNat = x) (e3 : a 33 t.toNat = y) (e4 : a 38 t.toNat = t) : TR a h t lo (t + 1) := by
  obtain ⟨n1, T1⟩ := T1
  obtain ⟨n2, T2⟩ := T2
  exact ⟨n1 + n2 + 1, Or.inr (Or.inl ⟨k, x, y, m, T1.up (by omega), T2.up (by omega), hk, e1, e2, e3, e4, rfl⟩)⟩
theorem TR.ar {a : Nat → Nat → Int} {h k j : Nat} {x y lo m t : Int} (T1 : TR a k x lo m) (T2 : TR a j y m t) (hk : k < h) (hj : j < h) (e1 : a 30 t.toNat = 5) (e0 : a 31 t.toNat = -1) (e2 : a 32 t.toNat = x) (e3 : a 33 t.toNat = y) (e4 : a 38 t.toNat = t) : TR a h t lo (t + 1) := by
  obtain ⟨n1, T1⟩ := T1
  obtain ⟨n2, T2⟩ := T2
  exact ⟨n1 + n2 + 1, Or.inr (Or.inr (Or.inl ⟨k, j, x, y, m, T1.up (by omega), T2.up (by omega), hk, hj, e1, e0, e2, e3, e4, rfl⟩))⟩
theorem TR.bi {a : Nat → Nat → Int} {h k j : Nat} {x y m t hi : Int} (h0 : 0 ≤ t) (T1 : TR a k x (t + 2) m) (T2 : TR a j y m hi) (hk : k + 2 ≤ h) (hj : j + 2 ≤ h) (e1 : 4 ≤ a 30 t.toNat ∧ a 30 t.toNat ≤ 6) (e2 : a 31 t.toNat = t + 1) (e3 : NMr a (t + 1)) (e4 : a 32 t.toNat = x) (e5 : a 33 t.toNat = y) (e6 : a 38 t.toNat = t) : TR a h t t hi := by
  obtain ⟨n1, T1⟩ := T1
  obtain ⟨n2, T2⟩ := T2
  exact ⟨n1 + n2 + 1, Or.inr (Or.inr (Or.inr ⟨k, j, x, y, m, h0, T1.up (by omega), T2.up (by omega), hk, hj, e1, e2, e3, e4, e5, e6, rfl⟩))⟩
theorem TR.ind {a : Nat → Nat → Int} {P : (h : Nat) → (t lo hi : Int) → TR a h t lo hi → Prop} (nm : ∀ {h : Nat} {t : Int} (h0 : 0 ≤ t) (n : NMr a t), P h t t (t + 1) (TR.nm h0 n)) (ap : ∀ {h k : Nat} {x y lo m t : Int} (t1 : TR a h x lo m) (t2 : TR a k y m t) (hk : k < h) (e1 : a 30 t.toNat = 7) (e2 : a 32 t.toNat = x) (e3 : a 33 t.toNat = y) (e4 : a 38 t.toNat = t), P h x lo m t1 → P k y m t t2 → P h t lo (t + 1) (TR.ap t1 t2 hk e1 e2 e3 e4)) (ar : ∀ {h k j : Nat} {x y lo m t : Int} (t1 : TR a k x lo m) (t2 : TR a j y m t) (hk : k < h) (hj : j < h) (e1 : a 30 t.toNat = 5) (e0 : a 31 t.toNat = -1) (e2 : a 32 t.toNat = x) (e3 : a 33 t.toNat = y) (e4 : a 38 t.toNat = t), P k x lo m t1 → P j y m t t2 → P h t lo (t + 1) (TR.ar t1 t2 hk hj e1 e0 e2 e3 e4)) (bi : ∀ {h k j : Nat} {x y m t hi : Int} (h0 : 0 ≤ t) (t1 : TR a k x (t + 2) m) (t2 : TR a j y m hi) (hk : k + 2 ≤ h) (hj : j + 2 ≤ h) (e1 : 4 ≤ a 30 t.toNat ∧ a 30 t.toNat ≤ 6) (e2 : a 31 t.toNat = t + 1) (e3 : NMr a (t + 1)) (e4 : a 32 t.toNat = x) (e5 : a 33 t.toNat = y) (e6 : a 38 t.toNat = t), P k x (t + 2) m t1 → P j y m hi t2 → P h t t hi (TR.bi h0 t1 t2 hk hj e1 e2 e3 e4 e5 e6)) {h : Nat} {t lo hi : Int} (T : TR a h t lo hi) : P h t lo hi T := by
  obtain ⟨n, T⟩ := T
  induction n generalizing h t lo hi with
  | zero => exact False.elim T
  | succ n ih =>
    rcases T with ⟨h0, q, e1, e2⟩ | ⟨k, x, y, m, T1, T2, hk, e1, e2, e3, e4, e5⟩ | ⟨k, j, x, y, m, T1, T2, hk, hj, e1, e0, e2, e3, e4, e5⟩ | ⟨k, j, x, y, m, h0, T1, T2, hk, hj, e1, e2, e3, e4, e5, e6, e7⟩
    · subst e1; subst e2; exact nm h0 q
    · subst e5; exact ap ⟨n, T1⟩ ⟨n, T2⟩ hk e1 e2 e3 e4 (ih T1) (ih T2)
    · subst e5; exact ar ⟨n, T1⟩ ⟨n, T2⟩ hk hj e1 e0 e2 e3 e4 (ih T1) (ih T2)
    · subst e7; exact bi h0 ⟨n, T1⟩ ⟨n, T2⟩ hk hj e1 e2 e3 e4 e5 e6 (ih T1) (ih T2)
theorem TR.rg {a : Nat → Nat → Int} {h : Nat} {t lo hi : Int} (T : TR a h t lo hi) : 0 ≤ lo ∧ lo ≤ t ∧ t < hi := by
  induction T using TR.ind with
  | nm h0 _ => omega
  | ap _ _ _ _ _ _ _ i1 i2 => omega
  | ar _ _ _ _ _ _ _ _ _ i1 i2 => omega
  | bi h0 _ _ _ _ _ _ _ _ _ _ i1 i2 => omega
theorem TR.mono {a : Nat → Nat → Int} {h : Nat} {t lo hi : Int} (T : TR a h t lo hi) : ∀ {h' : Nat}, h ≤ h' → TR a h' t lo hi := by
  induction T using TR.ind with
  | nm h0 n => intro h' _; exact TR.nm h0 n
  | ap t1 t2 hk e1 e2 e3 e4 i1 i2 => intro h' hh; exact TR.ap (i1 hh) t2 (by omega) e1 e2 e3 e4
  | ar t1 t2 hk hj e1 e2 e3 e4 e5 i1 i2 => intro h' hh; exact TR.ar t1 t2 (by omega) (by omega) e1 e2 e3 e4 e5
  | bi h0 t1 t2 hk hj e1 e2 e3 e4 e5 e6 i1 i2 => intro h' hh; exact TR.bi h0 t1 t2 (by omega) (by omega) e1 e2 e3 e4 e5 e6
/-- the arrays of the nodes agree on a stretch -/
def AG (a b : Nat → Nat → Int) (lo hi : Int) : Prop := ∀ (q : Int), lo ≤ q → q < hi → b 30 q.toNat = a 30 q.toNat ∧ b 31 q.toNat = a 31 q.toNat ∧ b 32 q.toNat = a 32 q.toNat ∧ b 33 q.toNat = a 33 q.toNat ∧ b 38 q.toNat = a 38 q.toNat
theorem AG.sub {a b : Nat → Nat → Int} {lo hi l h : Int} (A : AG a b lo hi) (h1 : lo ≤ l) (h2 : h ≤ hi) : AG a b l h := fun q q1 q2 => A q (by omega) (by omega)
theorem NMr.ag {a b : Nat → Nat → Int} {lo hi t : Int} (n : NMr a t) (A : AG a b lo hi) (h1 : lo ≤ t) (h2 : t < hi) : NMr b t := by
  obtain ⟨e1, e2, e3, e4, e5⟩ := A t h1 h2
  unfold NMr at *
  rw [e1, e2, e3]; exact n
theorem TR.ag {a b : Nat → Nat → Int} {h : Nat} {t lo hi : Int} (T : TR a h t lo hi) : AG a b lo hi → TR b h t lo hi := by
  induction T using TR.ind with
  | nm h0 n => intro A; exact TR.nm h0 (n.ag A (by omega) (by omega))
  | ap t1 t2 hk e1 e2 e3 e4 i1 i2 =>
    intro A
    have r1 := t1.rg
    have r2 := t2.rg
    obtain ⟨f1, f2, f3, f4, f5⟩ := A _ (by omega : _ ≤ _) (Int.lt_succ _)
    exact TR.ap (i1 (A.sub (by omega) (by omega))) (i2 (A.sub (by omega) (by omega))) hk (f1.trans e1) (f3.trans e2) (f4.trans e3) (f5.trans e4)
  | ar t1 t2 hk hj e1 e2 e3 e4 e5 i1 i2 =>
    intro A
    have r1 := t1.rg
    have r2 := t2.rg
    obtain ⟨f1, f2, f3, f4, f5⟩ := A _ (by omega : _ ≤ _) (Int.lt_succ _)
    exact TR.ar (i1 (A.sub (by omega) (by omega))) (i2 (A.sub (by omega) (by omega))) hk hj (f1.trans e1) (f2.trans e2) (f3.trans e3) (f4.trans e4) (f5.trans e5)
  | @bi h k j x y m t hi h0 t1 t2 hk hj e1 e2 e3 e4 e5 e6 i1 i2 =>
    intro A
    have r1 := t1.rg
    have r2 := t2.rg
    obtain ⟨f1, f2, f3, f4, f5⟩ := A t (by omega) (by omega)
    exact TR.bi h0 (i1 (A.sub (by omega) (by omega))) (i2 (A.sub (by omega) (by omega))) hk hj (by rw [f1]; exact e1) (f2.trans e2) (e3.ag A (by omega) (by omega)) (f3.trans e4) (f4.trans e5) (f5.trans e6)
theorem AG.of (h : PF σ σ') {lo hi : Int} (h0 : 0 ≤ lo) (h1 : hi ≤ σ.1 39) : AG σ.2 σ'.2 lo hi := by
  intro q q1 q2
  have hq : q.toNat < (σ.1 39).toNat := by omega
  have f := fun k h4 h5 => h.2.2.2.1 k q.toNat hq h4 h5
  exact ⟨f 30 (by decide) (by decide), f 31 (by decide) (by decide), f 32 (by decide) (by decide), f 33 (by decide) (by decide), f 38 (by decide) (by decide)⟩
/-- all nodes of a term just read are of its kinds, and point into it -/
theorem TR.ng {a : Nat → Nat → Int} {h : Nat} {t lo hi : Int} (T : TR a h t lo hi) : ∀ (q : Int), lo ≤ q → q < hi → (0 ≤ a 30 q.toNat ∧ a 30 q.toNat ≤ 7) ∧ (a 30 q.toNat < 4 → a 30 q.toNat = 0) ∧ (4 ≤ a 30 q.toNat → (lo ≤ a 32 q.toNat ∧ a 32 q.toNat < hi) ∧ (lo ≤ a 33 q.toNat ∧ a 33 q.toNat < hi)) := by
  induction T using TR.ind with
  | @nm h t h0 n =>
    intro q q1 q2
    have e : q = t := by omega
    subst e
    have := n.1
    omega
  | @ap h k x y lo m t t1 t2 hk e1 e2 e3 e4 i1 i2 =>
    intro q q1 q2
    have r1 := t1.rg
    have r2 := t2.rg
    by_cases c1 : q < m
    · have := i1 q q1 c1; omega
    · by_cases c2 : q < t
      · have := i2 q (by omega) c2; omega
      · have e : q = t := by omega
        subst e; omega
  | @ar h k j x y lo m t t1 t2 hk hj e1 e2 e3 e4 e5 i1 i2 =>
    intro q q1 q2
    have r1 := t1.rg
    have r2 := t2.rg
    by_cases c1 : q < m
    · have := i1 q q1 c1; omega
    · by_cases c2 : q < t
      · have := i2 q (by omega) c2; omega
      · have e : q = t := by omega
        subst e; omega
  | @bi h k j x y m t hi h0 t1 t2 hk hj e1 e2 e3 e4 e5 e6 i1 i2 =>
    intro q q1 q2
    have r1 := t1.rg
    have r2 := t2.rg
    by_cases c0 : q = t
    · subst c0; omega
    · by_cases c3 : q = t + 1
      · subst c3; have := e3.1; omega
      · by_cases c1 : q < m
        · have := i1 q (by omega) c1; omega
        · have := i2 q (by omega) q2; omega
end RTR
