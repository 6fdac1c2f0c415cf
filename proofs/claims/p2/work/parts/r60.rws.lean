section RWS
variable {a b : Nat → Nat → Int} {N M m m' C D : Int} {S V : Int → Prop}
/-- one name more -/
def wsb (A : Int → Prop) (x : Int) : Int → Prop := fun y => A y ∨ y = x
/-- what a node whose free names are in A must be, its parts by R -/
def WSo (a : Nat → Nat → Int) (N m : Int) (R : Int → (Int → Prop) → Prop) (n : Int) (A : Int → Prop) : Prop := (0 ≤ n ∧ n < N) ∧ ((a 30 n.toNat = 1 ∧ A (a 31 n.toNat)) ∨ (a 30 n.toNat = 2 ∧ 0 ≤ a 31 n.toNat ∧ a 31 n.toNat < m) ∨ (a 30 n.toNat = 3 ∧ (0 ≤ a 31 n.toNat ∧ a 31 n.toNat < 8) ∧ a 31 n.toNat < N ∧ a 30 (a 31 n.toNat).toNat = 3 ∧ a 31 (a 31 n.toNat).toNat = a 31 n.toNat) ∨ (a 30 n.toNat = 7 ∧ R (a 32 n.toNat) A ∧ R (a 33 n.toNat) A) ∨ ((4 ≤ a 30 n.toNat ∧ a 30 n.toNat ≤ 6) ∧ R (a 32 n.toNat) A ∧ R (a 33 n.toNat) (wsb A (a 38 n.toNat))))
/-- a judged term: its free names are in A -/
def WS (a : Nat → Nat → Int) (N m : Int) (n : Int) (A : Int → Prop) : Prop := ∃ R : Int → (Int → Prop) → Prop, (∀ n A, R n A → WSo a N m R n A) ∧ R n A
theorem WSo.mono {R R' : Int → (Int → Prop) → Prop} {n : Int} {A : Int → Prop} (h : WSo a N m R n A) (k : ∀ n A, R n A → R' n A) : WSo a N m R' n A := by
  obtain ⟨h1, h2⟩ := h
  refine ⟨h1, ?_⟩
  rcases h2 with q | q | q | ⟨q, q1, q2⟩ | ⟨q, q1, q2⟩
  · exact Or.inl q
  · exact Or.inr (Or.inl q)
  · exact Or.inr (Or.inr (Or.inl q))
  · exact Or.inr (Or.inr (Or.inr (Or.inl ⟨q, k _ _ q1, k _ _ q2⟩)))
  · exact Or.inr (Or.inr (Or.inr (Or.inr ⟨q, k _ _ q1, k _ _ q2⟩)))
theorem WS.out {n : Int} {A : Int → Prop} (h : WS a N m n A) : WSo a N m (WS a N m) n A := by
  obtain ⟨R, h1, h2⟩ := h
  exact (h1 _ _ h2).mono (fun n A q => ⟨R, h1, q⟩)
theorem WS.mk {n : Int} {A : Int → Prop} (h : WSo a N m (WS a N m) n A) : WS a N m n A := by
  refine ⟨fun n' A' => WS a N m n' A' ∨ (n' = n ∧ A' = A), fun n' A' q => ?_, Or.inr ⟨rfl, rfl⟩⟩
  rcases q with q | ⟨rfl, rfl⟩
  · exact q.out.mono (fun _ _ z => Or.inl z)
  · exact h.mono (fun _ _ z => Or.inl z)
theorem WS.sub {n : Int} {A B : Int → Prop} (h : WS a N m n A) (k : ∀ x, A x → B x) : WS a N m n B := by
  obtain ⟨R, h1, h2⟩ := h
  refine ⟨fun n' B' => ∃ A', R n' A' ∧ ∀ x, A' x → B' x, fun n' B' q => ?_, A, h2, k⟩
  obtain ⟨A', q1, q2⟩ := q
  obtain ⟨g1, g2⟩ := h1 _ _ q1
  refine ⟨g1, ?_⟩
  rcases g2 with q | q | q | ⟨q, r1, r2⟩ | ⟨q, r1, r2⟩
  · exact Or.inl ⟨q.1, q2 _ q.2⟩
  · exact Or.inr (Or.inl q)
  · exact Or.inr (Or.inr (Or.inl q))
  · exact Or.inr (Or.inr (Or.inr (Or.inl ⟨q, ⟨A', r1, q2⟩, ⟨A', r2, q2⟩⟩)))
  · refine Or.inr (Or.inr (Or.inr (Or.inr ⟨q, ⟨A', r1, q2⟩, ⟨_, r2, fun x hx => ?_⟩⟩)))
    rcases hx with hx | hx
    · exact Or.inl (q2 x hx)
    · exact Or.inr hx
/-- the judged nodes below N stay -/
def NFr (a b : Nat → Nat → Int) (N : Int) : Prop := ∀ q : Int, 0 ≤ q → q < N → a 30 q.toNat ≠ 0 → b 30 q.toNat = a 30 q.toNat ∧ b 31 q.toNat = a 31 q.toNat ∧ b 32 q.toNat = a 32 q.toNat ∧ b 33 q.toNat = a 33 q.toNat ∧ b 38 q.toNat = a 38 q.toNat
theorem WS.fr {n : Int} {A : Int → Prop} (h : WS a N m n A) (F : NFr a b N) (hN : N ≤ M) (hm : m ≤ m') : WS b M m' n A := by
  obtain ⟨R, h1, h2⟩ := h
  refine ⟨R, fun n A q => ?_, h2⟩
  obtain ⟨g1, g2⟩ := h1 _ _ q
  have hk : a 30 n.toNat ≠ 0 := by
    rcases g2 with q | q | q | q | q <;> omega
  obtain ⟨e1, e2, e3, e4, e5⟩ := F n g1.1 g1.2 hk
  unfold WSo
  rw [e1, e2, e3, e4, e5]
  refine ⟨⟨g1.1, by omega⟩, ?_⟩
  rcases g2 with q | q | ⟨q, q1, q2, q3, q4⟩ | q | q
  · exact Or.inl q
  · exact Or.inr (Or.inl ⟨q.1, q.2.1, by omega⟩)
  · obtain ⟨f1, f2, _⟩ := F (a 31 n.toNat) q1.1 q2 (by omega)
    exact Or.inr (Or.inr (Or.inl ⟨q, q1, by omega, f1.trans q3, f2.trans q4⟩))
  · exact Or.inr (Or.inr (Or.inr (Or.inl q)))
  · exact Or.inr (Or.inr (Or.inr (Or.inr q)))
theorem WS.sort {n : Int} {A : Int → Prop} (h : 0 ≤ n ∧ n < N) (h8 : n < 8) (k : a 30 n.toNat = 3) (o : a 31 n.toNat = n) : WS a N m n A :=
  WS.mk ⟨h, Or.inr (Or.inr (Or.inl ⟨k, by rw [o]; exact ⟨h.1, h8⟩, by rw [o]; exact h.2, by rw [o]; exact k, by rw [o]; exact o⟩))⟩
/-- a judged term whose nodes are sorts' or from L on -/
def WSL (a : Nat → Nat → Int) (L N m : Int) (n : Int) (A : Int → Prop) : Prop := ∃ R : Int → (Int → Prop) → Prop, (∀ n A, R n A → WSo a N m R n A ∧ (L ≤ n ∨ n < 8)) ∧ R n A
theorem WSL.ws {L n : Int} {A : Int → Prop} (h : WSL a L N m n A) : WS a N m n A := by
  obtain ⟨R, h1, h2⟩ := h
  exact ⟨R, fun n A q => (h1 n A q).1, h2⟩
theorem WSL.mk {L n : Int} {A : Int → Prop} (h : WSo a N m (WSL a L N m) n A) (hL : L ≤ n ∨ n < 8) : WSL a L N m n A := by
  refine ⟨fun n' A' => WSL a L N m n' A' ∨ (n' = n ∧ A' = A), fun n' A' q => ?_, Or.inr ⟨rfl, rfl⟩⟩
  rcases q with ⟨R, h1, h2⟩ | ⟨rfl, rfl⟩
  · exact ⟨(h1 _ _ h2).1.mono (fun _ _ z => Or.inl ⟨R, h1, z⟩), (h1 _ _ h2).2⟩
  · exact ⟨h.mono (fun _ _ z => Or.inl z), hL⟩
theorem WSL.fr {L L' n : Int} {A : Int → Prop} (h : WSL a L N m n A) (F : ∀ q : Int, 0 ≤ q → q < N → L ≤ q ∨ q < 8 → b 30 q.toNat = a 30 q.toNat ∧ b 31 q.toNat = a 31 q.toNat ∧ b 32 q.toNat = a 32 q.toNat ∧ b 33 q.toNat = a 33 q.toNat ∧ b 38 q.toNat = a 38 q.toNat) (hN : N ≤ M) (hL : L' ≤ L) : WSL b L' M m n A := by
  obtain ⟨R, h1, h2⟩ := h
  refine ⟨R, fun n A q => ?_, h2⟩
  obtain ⟨⟨g1, g2⟩, g3⟩ := h1 _ _ q
  obtain ⟨e1, e2, e3, e4, e5⟩ := F n g1.1 g1.2 g3
  unfold WSo
  rw [e1, e2, e3, e4, e5]
  refine ⟨⟨⟨g1.1, by omega⟩, ?_⟩, by omega⟩
  rcases g2 with q | q | ⟨q, q1, q2, q3, q4⟩ | q | q
  · exact Or.inl q
  · exact Or.inr (Or.inl q)
  · obtain ⟨f1, f2, _⟩ := F (a 31 n.toNat) q1.1 q2 (Or.inr q1.2)
    exact Or.inr (Or.inr (Or.inl ⟨q, q1, by omega, f1.trans q3, f2.trans q4⟩))
  · exact Or.inr (Or.inr (Or.inr (Or.inl q)))
  · exact Or.inr (Or.inr (Or.inr (Or.inr q)))
theorem WSL.sort {L n : Int} {A : Int → Prop} (h : 0 ≤ n ∧ n < N) (h8 : n < 8) (k : a 30 n.toNat = 3) (o : a 31 n.toNat = n) : WSL a L N m n A :=
  WSL.mk ⟨h, Or.inr (Or.inr (Or.inl ⟨k, by rw [o]; exact ⟨h.1, h8⟩, by rw [o]; exact h.2, by rw [o]; exact k, by rw [o]; exact o⟩))⟩ (Or.inr h8)
theorem WSL.sub {L n : Int} {A B : Int → Prop} (h : WSL a L N m n A) (k : ∀ x, A x → B x) : WSL a L N m n B := by
  obtain ⟨R, h1, h2⟩ := h
  refine ⟨fun n' B' => ∃ A', R n' A' ∧ ∀ x, A' x → B' x, fun n' B' q => ?_, A, h2, k⟩
  obtain ⟨A', q1, q2⟩ := q
  obtain ⟨⟨g1, g2⟩, g3⟩ := h1 _ _ q1
  refine ⟨⟨g1, ?_⟩, g3⟩
  rcases g2 with q | q | q | ⟨q, r1, r2⟩ | ⟨q, r1, r2⟩
  · exact Or.inl ⟨q.1, q2 _ q.2⟩
  · exact Or.inr (Or.inl q)
  · exact Or.inr (Or.inr (Or.inl q))
  · exact Or.inr (Or.inr (Or.inr (Or.inl ⟨q, ⟨A', r1, q2⟩, ⟨A', r2, q2⟩⟩)))
  · refine Or.inr (Or.inr (Or.inr (Or.inr ⟨q, ⟨A', r1, q2⟩, ⟨_, r2, fun x hx => ?_⟩⟩)))
    rcases hx with hx | hx
    · exact Or.inl (q2 x hx)
    · exact Or.inr hx
/-- the names that the cells from c on bind -/
def DomN (a : Nat → Nat → Int) : Nat → Int → Int → Prop
  | 0, _, _ => False
  | n + 1, c, x => c ≠ 0 ∧ (a 45 c.toNat = x ∨ DomN a n (a 44 c.toNat) x)
def Dom (a : Nat → Nat → Int) (c x : Int) : Prop := ∃ n, DomN a n c x
theorem Dom.here {c x : Int} (h : c ≠ 0) (e : a 45 c.toNat = x) : Dom a c x := ⟨1, h, Or.inl e⟩
theorem Dom.up {c x : Int} (h : c ≠ 0) (e : Dom a (a 44 c.toNat) x) : Dom a c x := by
  obtain ⟨n, e⟩ := e
  exact ⟨n + 1, h, Or.inr e⟩
theorem Dom.out {c x : Int} (h : Dom a c x) : c ≠ 0 ∧ (a 45 c.toNat = x ∨ Dom a (a 44 c.toNat) x) := by
  obtain ⟨n, h⟩ := h
  cases n with
  | zero => exact False.elim h
  | succ n =>
    refine ⟨h.1, ?_⟩
    rcases h.2 with q | q
    · exact Or.inl q
    · exact Or.inr ⟨n, q⟩
theorem Dom.no {x : Int} : ¬ Dom a 0 x := fun h => h.out.1 rfl
/-- what a cell must be, those behind it by R -/
def WCo (a : Nat → Nat → Int) (C N m : Int) (S V : Int → Prop) (R : Int → Prop) (i : Int) : Prop := i = 0 ∨ ((0 < i ∧ i < C) ∧ (0 ≤ a 44 i.toNat ∧ a 44 i.toNat < i) ∧ R (a 44 i.toNat) ∧ ((a 46 i.toNat < 0 ∧ V (a 46 i.toNat)) ∨ (R (a 47 i.toNat) ∧ ∃ A, WS a N m (a 46 i.toNat) A ∧ ∀ x, A x → S x ∨ Dom a (a 47 i.toNat) x)))
def WC (a : Nat → Nat → Int) (C N m : Int) (S V : Int → Prop) (c : Int) : Prop := ∃ R : Int → Prop, (∀ i, R i → WCo a C N m S V R i) ∧ R c
theorem WCo.mono {R R' : Int → Prop} {i : Int} (h : WCo a C N m S V R i) (k : ∀ i, R i → R' i) : WCo a C N m S V R' i := by
  rcases h with h | ⟨h1, h2, h3, h4⟩
  · exact Or.inl h
  · refine Or.inr ⟨h1, h2, k _ h3, ?_⟩
    rcases h4 with h4 | ⟨h4, h5⟩
    · exact Or.inl h4
    · exact Or.inr ⟨k _ h4, h5⟩
theorem WC.out {c : Int} (h : WC a C N m S V c) : WCo a C N m S V (WC a C N m S V) c := by
  obtain ⟨R, h1, h2⟩ := h
  exact (h1 _ h2).mono (fun i q => ⟨R, h1, q⟩)
theorem WC.mk {c : Int} (h : WCo a C N m S V (WC a C N m S V) c) : WC a C N m S V c := by
  refine ⟨fun i => WC a C N m S V i ∨ i = c, fun i q => ?_, Or.inr rfl⟩
  rcases q with q | rfl
  · exact q.out.mono (fun _ z => Or.inl z)
  · exact h.mono (fun _ z => Or.inl z)
theorem WC.zero : WC a C N m S V 0 := WC.mk (Or.inl rfl)
theorem WC.rg {c : Int} (h : WC a C N m S V c) : 0 ≤ c ∧ (c = 0 ∨ c < C) := by
  rcases h.out with q | ⟨q, _⟩
  · omega
  · omega
/-- the cells below C stay -/
def CFr (a b : Nat → Nat → Int) (C : Int) : Prop := ∀ q : Int, 0 ≤ q → q < C → b 44 q.toNat = a 44 q.toNat ∧ b 45 q.toNat = a 45 q.toNat ∧ b 46 q.toNat = a 46 q.toNat ∧ b 47 q.toNat = a 47 q.toNat
theorem Dom.fr {c x : Int} (w : WC a C N m S V c) (F : CFr a b C) (h : Dom a c x) : Dom b c x := by
  obtain ⟨n, h⟩ := h
  induction n generalizing c with
  | zero => exact False.elim h
  | succ n ih =>
    rcases w.out with q | ⟨q1, q2, q3, _⟩
    · exact absurd q h.1
    · obtain ⟨e1, e2, _, _⟩ := F c (by omega) q1.2
      rcases h.2 with g | g
      · exact Dom.here h.1 (e2.trans g)
      · exact Dom.up h.1 (by rw [e1]; exact ih q3 g)
theorem WC.fr {T U : Int → Prop} {c : Int} (h : WC a C N m S V c) (F : NFr a b N) (G : CFr a b C) (hN : N ≤ M) (hm : m ≤ m') (hC : C ≤ D) (hS : ∀ x, S x → T x) (hV : ∀ x, V x → U x) : WC b D M m' T U c := by
  refine ⟨fun i => WC a C N m S V i, fun i q => ?_, h⟩
  rcases q.out with q | ⟨q1, q2, q3, q4⟩
  · exact Or.inl q
  · obtain ⟨e1, e2, e3, e4⟩ := G i (by omega) q1.2
    unfold WCo
    rw [e1, e3, e4]
    refine Or.inr ⟨⟨q1.1, by omega⟩, q2, q3, ?_⟩
    rcases q4 with q4 | ⟨q4, A, q5, q6⟩
    · exact Or.inl ⟨q4.1, hV _ q4.2⟩
    · refine Or.inr ⟨q4, A, q5.fr F hN hm, fun x hx => ?_⟩
      rcases q6 x hx with z | z
      · exact Or.inl (hS x z)
      · exact Or.inr (z.fr q4 G)
/-- a term under its cells -/
def CLU (a : Nat → Nat → Int) (C N m : Int) (S V : Int → Prop) (t c : Int) : Prop := WC a C N m S V c ∧ ((t < 0 ∧ V t) ∨ ∃ A, WS a N m t A ∧ ∀ x, A x → S x ∨ Dom a c x)
theorem CLU.fr {T U : Int → Prop} {t c : Int} (h : CLU a C N m S V t c) (F : NFr a b N) (G : CFr a b C) (hN : N ≤ M) (hm : m ≤ m') (hC : C ≤ D) (hS : ∀ x, S x → T x) (hV : ∀ x, V x → U x) : CLU b D M m' T U t c := by
  refine ⟨h.1.fr F G hN hm hC hS hV, ?_⟩
  rcases h.2 with q | ⟨A, q1, q2⟩
  · exact Or.inl ⟨q.1, hV _ q.2⟩
  · refine Or.inr ⟨A, q1.fr F hN hm, fun x hx => ?_⟩
    rcases q2 x hx with z | z
    · exact Or.inl (hS x z)
    · exact Or.inr (z.fr h.1 G)
theorem CLU.rg {t c : Int} (h : CLU a C N m S V t c) : (t < 0 ∨ (0 ≤ t ∧ t < N)) ∧ 0 ≤ c ∧ (c = 0 ∨ c < C) := by
  refine ⟨?_, h.1.rg⟩
  rcases h.2 with q | ⟨A, q1, _⟩
  · exact Or.inl q.1
  · exact Or.inr q1.out.1
/-- a cell more -/
theorem WC.new {e t u x : Int} (he : WC a C N m S V e) (ht : CLU a C N m S V t u) (F : NFr a b N) (G : CFr a b C) (hC : 1 ≤ C) (h1 : b 44 C.toNat = e) (h2 : b 45 C.toNat = x) (h3 : b 46 C.toNat = t) (h4 : b 47 C.toNat = u) : WC b (C + 1) N m S V C ∧ (∀ y, Dom a e y ∨ y = x → Dom b C y) := by
  have id : ∀ x, S x → S x := fun _ q => q
  have id' : ∀ x, V x → V x := fun _ q => q
  have r := he.rg
  refine ⟨WC.mk (Or.inr ⟨by omega, by rw [h1]; omega, by rw [h1]; exact he.fr F G (Int.le_refl _) (Int.le_refl _) (by omega) id id', ?_⟩), fun y hy => ?_⟩
  · rw [h3, h4]
    have q' := ht.fr (M := N) (m' := m) (D := C + 1) F G (Int.le_refl _) (Int.le_refl _) (by omega) id id'
    rcases q'.2 with z | z
    · exact Or.inl z
    · exact Or.inr ⟨q'.1, z⟩
  · rcases hy with hy | hy
    · exact Dom.up (by omega) (by rw [h1]; exact hy.fr he G)
    · exact Dom.here (by omega) (by rw [h2, hy])
/-- parts of a term under its cells -/
theorem CLU.ap {t c : Int} (h : CLU a C N m S V t c) (h0 : 0 ≤ t) (k : a 30 t.toNat = 7) : CLU a C N m S V (a 32 t.toNat) c ∧ CLU a C N m S V (a 33 t.toNat) c := by
  rcases h.2 with q | ⟨A, q1, q2⟩
  · exact absurd q.1 (by omega)
  · obtain ⟨_, g⟩ := q1.out
    rcases g with q | q | q | q | q
    · omega
    · omega
    · omega
    · exact ⟨⟨h.1, Or.inr ⟨A, q.2.1, q2⟩⟩, ⟨h.1, Or.inr ⟨A, q.2.2, q2⟩⟩⟩
    · omega
theorem CLU.bi {t c : Int} (h : CLU a C N m S V t c) (h0 : 0 ≤ t) (k : 4 ≤ a 30 t.toNat ∧ a 30 t.toNat ≤ 6) : CLU a C N m S V (a 32 t.toNat) c ∧ (∀ {b : Nat → Nat → Int} {D : Int} {c' : Int}, NFr a b N → WC b D N m S V c' → (∀ y, Dom a c y ∨ y = a 38 t.toNat → Dom b c' y) → CLU b D N m S V (a 33 t.toNat) c') := by
  rcases h.2 with q | ⟨A, q1, q2⟩
  · exact absurd q.1 (by omega)
  · obtain ⟨_, g⟩ := q1.out
    rcases g with q | q | q | q | q
    · omega
    · omega
    · omega
    · omega
    · refine ⟨⟨h.1, Or.inr ⟨A, q.2.1, q2⟩⟩, fun {b D c'} F w d => ⟨w, Or.inr ⟨_, (q.2.2).fr F (Int.le_refl _) (Int.le_refl _), fun x hx => ?_⟩⟩⟩
      rcases hx with hx | hx
      · rcases q2 x hx with z | z
        · exact Or.inl z
        · exact Or.inr (d x (Or.inl z))
      · exact Or.inr (d x (Or.inr hx))
end RWS
