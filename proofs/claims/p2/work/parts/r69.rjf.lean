section RJF
variable {σ σ' σ'' σ0 σh s : RS} {d : Nat} {S V T U A : Int → Prop} {r w w' lo hi sc ch l h : Int} {Q : RS → Int → Prop}
/-- the numbers and arrays that judging uses -/
def jn (j : Nat) : Bool := (mn j && !(j == 75)) || j == 43 || j == 59 || j == 60 || j == 61
def ja (k : Nat) : Bool := ma k || k == 40 || k == 41 || k == 42 || k == 58
/-- what judging a term with the nodes lo .. hi leaves -/
def JF (lo hi sc ch : Int) (σ s : RS) : Prop := (∀ j, jn j = false → s.1 j = σ.1 j) ∧ (∀ k, ja k = false → s.2 k = σ.2 k) ∧ (σ.1 39 ≤ s.1 39 ∧ σ.1 48 ≤ s.1 48) ∧ (∀ q : Int, 0 ≤ q → q < σ.1 39 → ¬ (σ.2 30 q.toNat = 0 ∧ lo ≤ q ∧ q < hi) → s.2 30 q.toNat = σ.2 30 q.toNat ∧ s.2 31 q.toNat = σ.2 31 q.toNat ∧ s.2 32 q.toNat = σ.2 32 q.toNat ∧ s.2 33 q.toNat = σ.2 33 q.toNat ∧ s.2 38 q.toNat = σ.2 38 q.toNat) ∧ CFr σ.2 s.2 (σ.1 48) ∧ (∀ q : Int, 0 ≤ q → ¬ (lo ≤ q ∧ q < hi) → s.2 40 q.toNat = σ.2 40 q.toNat ∧ s.2 41 q.toNat = σ.2 41 q.toNat) ∧ (∀ q : Int, 0 ≤ q → q < sc → s.2 42 q.toNat = σ.2 42 q.toNat) ∧ (∀ q : Int, 0 ≤ q → q < ch → s.2 58 q.toNat = σ.2 58 q.toNat) ∧ (σ.1 72 ≠ 0 → s.1 72 = σ.1 72) ∧ s.1 65 - s.1 64 = σ.1 65 - σ.1 64
theorem jn_mn {j : Nat} (h : jn j = false) : mn j = false ∨ j = 75 := by
  unfold jn at h
  simp only [Bool.or_eq_false_iff] at h
  have g := h.1.1.1.1
  cases q : mn j with
  | false => exact Or.inl rfl
  | true =>
    rw [q] at g
    refine Or.inr ?_
    by_cases c : j = 75
    · exact c
    · have : (j == 75) = false := beq_eq_false_iff_ne.mpr c
      rw [this] at g
      cases g
theorem ja_ma {k : Nat} (h : ja k = false) : ma k = false := by
  unfold ja at h
  simp only [Bool.or_eq_false_iff] at h
  exact h.1.1.1.1
theorem JF.refl : JF lo hi sc ch σ σ := ⟨fun _ _ => rfl, fun _ _ => rfl, ⟨Int.le_refl _, Int.le_refl _⟩, fun _ _ _ _ => ⟨rfl, rfl, rfl, rfl, rfl⟩, CFr.refl, fun _ _ _ => ⟨rfl, rfl⟩, fun _ _ _ => rfl, fun _ _ _ => rfl, fun _ => rfl, rfl⟩
theorem JF.trans (h : JF lo hi sc ch σ σ') (k : JF lo hi sc ch σ' σ'') : JF lo hi sc ch σ σ'' := by
  obtain ⟨a1, a2, a3, a4, a5, a6, a7, a8, a9, a10⟩ := h
  obtain ⟨b1, b2, b3, b4, b5, b6, b7, b8, b9, b10⟩ := k
  refine ⟨fun j hj => (b1 j hj).trans (a1 j hj), fun j hj => (b2 j hj).trans (a2 j hj), by omega, fun q q1 q2 q3 => ?_, a5.trans b5 a3.2, fun q q1 q2 => ?_, fun q q1 q2 => (b7 q q1 q2).trans (a7 q q1 q2), fun q q1 q2 => (b8 q q1 q2).trans (a8 q q1 q2), fun q => ?_, b10.trans a10⟩
  · obtain ⟨c1, c2, c3, c4, c5⟩ := a4 q q1 q2 q3
    obtain ⟨d1, d2, d3, d4, d5⟩ := b4 q q1 (by omega) (by rw [c1]; exact q3)
    exact ⟨d1.trans c1, d2.trans c2, d3.trans c3, d4.trans c4, d5.trans c5⟩
  · obtain ⟨c1, c2⟩ := a6 q q1 q2
    obtain ⟨d1, d2⟩ := b6 q q1 q2
    exact ⟨d1.trans c1, d2.trans c2⟩
  · rw [b9 (by rw [a9 q]; exact q), a9 q]
theorem JF.wide {lo' hi' sc' ch' : Int} (H : JF lo hi sc ch σ s) (h1 : lo' ≤ lo) (h2 : hi ≤ hi') (h3 : sc' ≤ sc) (h4 : ch' ≤ ch) : JF lo' hi' sc' ch' σ s :=
  ⟨H.1, H.2.1, H.2.2.1, fun q a b c => H.2.2.2.1 q a b (fun z => c ⟨z.1, by omega, by omega⟩), H.2.2.2.2.1, fun q a b => H.2.2.2.2.2.1 q a (fun z => b ⟨by omega, by omega⟩), fun q a b => H.2.2.2.2.2.2.1 q a (by omega), fun q a b => H.2.2.2.2.2.2.2.1 q a (by omega), H.2.2.2.2.2.2.2.2⟩
theorem MF.jf (F : MF w σ s) (h75 : s.1 75 = σ.1 75) : JF lo hi sc ch σ s := by
  obtain ⟨a1, a2, a3, a4, a5, a6, a7⟩ := F
  have e := fun k (hk : ma k = false) => a2 k hk
  refine ⟨fun j hj => ?_, fun k hk => a2 k (ja_ma hk), a3, fun q q1 q2 _ => a4 q q1 q2, a5, fun q _ _ => by rw [e 40 rfl, e 41 rfl]; exact ⟨rfl, rfl⟩, fun q _ _ => by rw [e 42 rfl], fun q _ _ => by rw [e 58 rfl], a7⟩
  rcases jn_mn hj with q | q
  · exact a1 j q
  · rw [q]; exact h75
theorem JF.nf (F : JF lo hi sc ch σ s) : NFr σ.2 s.2 (σ.1 39) := fun q q1 q2 q3 => F.2.2.2.1 q q1 q2 (fun z => q3 z.1)
theorem JF.ag (F : JF lo hi sc ch σ s) (h0 : 0 ≤ l) (h1 : h ≤ σ.1 39) (h2 : h ≤ lo ∨ hi ≤ l) : AG σ.2 s.2 l h := fun q q1 q2 => F.2.2.2.1 q (by omega) (by omega) (by omega)
theorem WSs.jf {t : Int} (W : WSs σ t A) (F : JF lo hi sc ch σ s) : WSs s t A := WS.fr W F.nf F.2.2.1.1 (by rw [F.1 27 rfl]; exact Int.le_refl _)
theorem COs.jf {t c : Int} (W : COs σ S V t c) (F : JF lo hi sc ch σ s) : COs s S V t c := CLU.fr W F.nf F.2.2.2.2.1 F.2.2.1.1 (by rw [F.1 27 rfl]; exact Int.le_refl _) F.2.2.1.2 (fun _ q => q) (fun _ q => q)
/-- a list of cells in order -/
def WCs (σ : RS) (S V : Int → Prop) (c : Int) : Prop := WC σ.2 (σ.1 48) (σ.1 39) (σ.1 27) S V c
theorem WCs.jf {c : Int} (W : WCs σ S V c) (F : JF lo hi sc ch σ s) (hS : ∀ x, S x → T x) : WCs s T V c := WC.fr W F.nf F.2.2.2.2.1 F.2.2.1.1 (by rw [F.1 27 rfl]; exact Int.le_refl _) F.2.2.1.2 hS (fun _ q => q)
theorem KV.jf (K : KV σ) (F : JF lo hi sc ch σ s) : KV s := fun k k0 k1 => by
  rw [F.1 27 rfl] at k1
  rw [F.2.1 25 rfl, F.2.1 23 rfl]
  obtain ⟨h1, h2⟩ := K k k0 k1
  refine ⟨?_, h2.jf F⟩
  rcases h1 with q | q
  · exact Or.inl q
  · exact Or.inr (q.jf F)
theorem HS.jf (H : HS σ) (F : JF lo hi sc ch σ s) (hn : 8 ≤ σ.1 39) : HS s := by
  unfold HS
  rw [F.1 27 rfl, F.1 20 rfl, F.2.1 22 rfl, F.2.1 17 rfl, F.2.1 18 rfl, F.2.1 19 rfl, F.2.1 24 rfl]
  obtain ⟨h1, h2, h3, h4, h5, h6, h7, h8⟩ := H
  refine ⟨h1, h2, h3, h4, h5, h6, h7, fun k k0 k1 => ?_⟩
  have g := h8 k k0 k1
  obtain ⟨e1, e2, _⟩ := F.2.2.2.1 k k0 (by omega) (fun z => by omega)
  rw [e1, e2]; exact g
theorem M0.jf (M : M0 r σ) (F : JF lo hi sc ch σ s) (I : IR s) (B : BG w s) (K : KA s) : M0 w s := ⟨I, B, M.2.2.1.jf F M.2.1.2.2.2.2.2.2.1.1, M.2.2.2.1.jf F, K⟩
theorem M0.le (M : M0 r σ) (h : w ≤ r) (h0 : 0 ≤ w) : M0 w σ := by
  obtain ⟨b1, b2, b3, b4, b5, b6, b7, b8, b9, b10, b11⟩ := M.2.1
  exact ⟨M.1, ⟨b1, b2, b3, b4, b5, ⟨by omega, by omega⟩, ⟨by omega, by omega⟩, b8, b9, b10, h0, by omega⟩, M.2.2⟩
/-- the names in scope -/
def SA (σ : RS) : Int → Prop := fun x => ∃ k : Int, 0 ≤ k ∧ k < σ.1 43 ∧ σ.2 42 k.toNat = x
/-- a name in scope -/
def SCo (S : Int → Prop) (lo hi : Int) (σ : RS) (b : Int) : Prop := (0 ≤ b ∧ b < σ.1 39) ∧ (4 ≤ σ.2 30 b.toNat ∧ σ.2 30 b.toNat ≤ 6) ∧ ¬ (lo ≤ b ∧ b < hi) ∧ ((0 ≤ σ.2 31 b.toNat ∧ σ.2 31 b.toNat < σ.1 39) ∧ NMr σ.2 (σ.2 31 b.toNat) ∧ ¬ (lo ≤ σ.2 31 b.toNat ∧ σ.2 31 b.toNat < hi)) ∧ WSs σ (σ.2 40 b.toNat) S ∧ (-1 ≤ σ.2 41 b.toNat ∧ σ.2 41 b.toNat ≤ 7)
def SC (S : Int → Prop) (lo hi : Int) (σ : RS) : Prop := ∀ k : Int, 0 ≤ k → k < σ.1 43 → SCo S lo hi σ (σ.2 42 k.toNat)
theorem SCo.jf {b : Int} (H : SCo S lo hi σ b) (F : JF l h sc ch σ s) (h1 : lo ≤ l) (h2 : h ≤ hi) (hS : ∀ x, S x → T x) : SCo T lo hi s b := by
  obtain ⟨a1, a2, a3, ⟨a4, a5, a6⟩, a7, a8⟩ := H
  obtain ⟨e1, e2, e3, e4, e5⟩ := F.2.2.2.1 b a1.1 a1.2 (fun z => by omega)
  obtain ⟨f1, f2⟩ := F.2.2.2.2.2.1 b a1.1 (fun z => a3 ⟨by omega, by omega⟩)
  have l39 := F.2.2.1.1
  unfold SCo
  rw [e1, e2, f1, f2]
  obtain ⟨g1, g2, g3, _⟩ := F.2.2.2.1 (σ.2 31 b.toNat) a4.1 a4.2 (fun z => a6 ⟨by omega, by omega⟩)
  refine ⟨⟨a1.1, by omega⟩, a2, a3, ⟨⟨a4.1, by omega⟩, ?_, a6⟩, (a7.jf F).sub hS, a8⟩
  unfold NMr at a5 ⊢
  rw [g1, g2, g3]; exact a5
theorem SC.jf (H : SC S lo hi σ) (F : JF l h sc ch σ s) (h1 : lo ≤ l) (h2 : h ≤ hi) (h43 : s.1 43 = σ.1 43) (hsc : σ.1 43 ≤ sc) (hS : ∀ x, S x → T x) : SC T lo hi s := fun k k0 k1 => by
  rw [F.2.2.2.2.2.2.1 k k0 (by omega)]
  exact (H k k0 (by omega)).jf F h1 h2 hS
theorem SC.nar (H : SC S lo hi σ) (h1 : lo ≤ l) (h2 : h ≤ hi) : SC S l h σ := fun k k0 k1 => by
  obtain ⟨a1, a2, a3, ⟨a4, a5, a6⟩, a7, a8⟩ := H k k0 k1
  exact ⟨a1, a2, fun z => a3 ⟨by omega, by omega⟩, ⟨a4, a5, fun z => a6 ⟨by omega, by omega⟩⟩, a7, a8⟩
theorem SA.jf (F : JF l h sc ch σ s) (h43 : s.1 43 = σ.1 43) (hsc : σ.1 43 ≤ sc) {x : Int} : SA s x ↔ SA σ x := by
  constructor
  · rintro ⟨k, k0, k1, k2⟩
    exact ⟨k, k0, by omega, by rw [← F.2.2.2.2.2.2.1 k k0 (by omega)]; exact k2⟩
  · rintro ⟨k, k0, k1, k2⟩
    exact ⟨k, k0, by omega, by rw [F.2.2.2.2.2.2.1 k k0 (by omega)]; exact k2⟩
theorem Dom.jf {c x : Int} (D : Dom σ.2 c x) (W : WCs σ S V c) (F : JF l h sc ch σ s) : Dom s.2 c x := Dom.fr W F.2.2.2.2.1 D
/-- before judging -/
def JPre (R : Int) (S : Int → Prop) (k : Nat) (n lo hi c : Int) (σ : RS) : Prop := (M0 (R + (hi - lo)) σ ∧ 0 ≤ R) ∧ σ.1 15 ≠ 0 ∧ σ.1 51 = 0 ∧ TR σ.2 k n lo hi ∧ (8 ≤ lo ∧ hi ≤ σ.1 39) ∧ SC S lo hi σ ∧ (0 ≤ σ.1 43 ∧ 2 * σ.1 43 + k ≤ 80) ∧ (0 ≤ σ.1 59 ∧ 2 * σ.1 59 + (hi - lo) ≤ 8000) ∧ WCs σ S none0 c ∧ (∀ x, SA σ x → S x ∨ Dom σ.2 c x)
/-- the type that was found -/
def TY (S : Int → Prop) (s : RS) : Prop := WSs s (s.1 60) S ∧ (-1 ≤ s.1 61 ∧ s.1 61 ≤ 7)
/-- after it -/
def JPost (R : Int) (S : Int → Prop) (lo hi : Int) (σ : RS) (n : Int) (s : RS) : Prop := M0 R s ∧ JF lo hi (σ.1 43) (σ.1 59) σ s ∧ (s.1 43 = σ.1 43 ∧ s.1 59 = σ.1 59) ∧ (s.1 72 = 0 → s.1 51 = 0 ∧ WSs s n (SA σ) ∧ TY S s)
end RJF
