section RNM
variable {σ σ' σ'' σ0 σh s : RS} {d : Nat} {S V T U A : Int → Prop} {r w w' : Int} {Q : RS → Int → Prop}
/-- within a normal form: c cells, n nodes are paid for -/
def NS (c n r : Int) (σ0 σ : RS) : Prop := (M0 r σ ∧ MF (σ0.1 51) σ0 σ) ∧ (σ0.1 64 ≤ σ.1 64 ∧ σ.1 65 = σ0.1 65 + (σ.1 64 - σ0.1 64) ∧ σ.1 48 + c ≤ σ0.1 48 + 2 * (σ.1 64 - σ0.1 64) ∧ σ.1 39 + n ≤ σ0.1 39 + (σ.1 64 - σ0.1 64) ∧ σ.1 75 = σ0.1 75 ∧ σ.1 57 ≤ σ0.1 57 + (σ.1 64 - σ0.1 64))
theorem NS.bp {c n : Int} (h : NS c n r σ0 σ) (hc : 0 ≤ c) (hn : 0 ≤ n) : BP 0 0 σ0 σ := by
  have := h.2
  exact ⟨by omega, by omega, by omega, by omega, by omega, by omega⟩
theorem NS.le {c n c' n' : Int} (h : NS c n r σ0 σ) (hc : c' ≤ c) (hn : n' ≤ n) : NS c' n' r σ0 σ := ⟨h.1, by have := h.2; omega⟩
theorem NS.look {b : Int} (h : MY 71 r σ s b) : NS (2 * b) b r σ s := by
  obtain ⟨m1, m2, m3, m4, m5⟩ := h
  have e48 := m4 48 (by decide) (by decide) (by decide) (by decide) (by decide)
  have e75 := m4 75 (by decide) (by decide) (by decide) (by decide) (by decide)
  have e57 := m4 57 (by decide) (by decide) (by decide) (by decide) (by decide)
  have e39 := m4 39 (by decide) (by decide) (by decide) (by decide) (by decide)
  exact ⟨⟨m1, m2 _⟩, by rcases m5 with q | q <;> omega⟩
theorem NS.head {c n : Int} (h : NS c n r σ0 σ) (p : HP r S V w σ s) (hw : σ0.1 51 ≤ w) : NS c (n + (s.1 51 - σ.1 51)) r σ0 s := by
  obtain ⟨⟨h1, h2⟩, h3⟩ := h
  obtain ⟨⟨p1, p2, p3⟩, _, _, p6, ⟨p7, p8⟩, _⟩ := p
  obtain ⟨y1, y2, y3, y4, y5, y6⟩ := p3
  exact ⟨⟨p1, h2.trans (p2.le hw)⟩, by omega⟩
theorem NS.tr {c n : Int} (h : NS c n r σ0 σ) (k : NS 0 0 r σ s) (hw : σ0.1 51 ≤ σ.1 51) : NS c n r σ0 s := by
  obtain ⟨⟨h1, h2⟩, h3⟩ := h
  obtain ⟨⟨k1, k2⟩, k3⟩ := k
  exact ⟨⟨k1, h2.trans (k2.le hw)⟩, by omega⟩
theorem NS.ins {c n : Int} (h : NS c n r σ0 σ) (M : M0 r s) (F : ∀ w, MF w σ s) (e : ∀ j, j ≠ 48 → s.1 j = σ.1 j) (h48 : s.1 48 = σ.1 48 + 1) : NS (c - 1) n r σ0 s := by
  obtain ⟨⟨_, h2⟩, h3⟩ := h
  have e64 := e 64 (by decide)
  have e65 := e 65 (by decide)
  have e75 := e 75 (by decide)
  have e57 := e 57 (by decide)
  have e39 := e 39 (by decide)
  exact ⟨⟨M, h2.trans (F _)⟩, by omega⟩
/-- the counts are the same -/
theorem NS.eq {c n : Int} (h : NS c n r σ0 σ) (M : M0 r s) (F : MF (σ0.1 51) σ0 s) (e : ∀ j, j ≠ 51 → s.1 j = σ.1 j) : NS c n r σ0 s := by
  obtain ⟨_, h3⟩ := h
  have e64 := e 64 (by decide)
  have e65 := e 65 (by decide)
  have e75 := e 75 (by decide)
  have e57 := e 57 (by decide)
  have e39 := e 39 (by decide)
  have e48 := e 48 (by decide)
  exact ⟨⟨M, F⟩, by omega⟩
/-- a new node -/
def ND1 (r : Int) (σ : RS) (a1 a2 a3 a4 : Int) (s : RS) (b : Int) : Prop := b = σ.1 39 ∧ M0 r s ∧ (∀ w, MF w σ s) ∧ (∀ j, j ≠ 39 → s.1 j = σ.1 j) ∧ s.1 39 = σ.1 39 + 1 ∧ (∀ k, ndm k = false → s.2 k = σ.2 k) ∧ (∀ k q, q ≠ (σ.1 39).toNat → s.2 k q = σ.2 k q) ∧ s.2 30 b.toNat = a1 ∧ s.2 31 b.toNat = a2 ∧ s.2 32 b.toNat = a3 ∧ s.2 33 b.toNat = a4 ∧ s.2 38 b.toNat = b
theorem q_nodeM {a1 a2 a3 a4 a5 : Int} (hd : 1 ≤ d) (M : M0 r σ) (h15 : σ.1 15 ≠ 0) (h1 : inR a1) (h2 : inR a2) (h3 : inR a3) (h4 : inR a4) (h5 : inR a5) (hn : σ.1 39 + 1 + r ≤ σ.1 65 + 79000 ∧ σ.1 39 + 1 + r ≤ σ.1 62 + σ.1 64 + 16001) : rsf (RF d 18 σ [a1, a2, a3, a4, a5]) (ND1 r σ a1 a2 a3 a4) := by
  obtain ⟨b1, b2, b3, b4, b5, b6, b7, b8, b9, b10, b11⟩ := M.2.1
  refine rsf_mono (q_node hd M.1 h1 h2 h3 h4 h5 ⟨by omega, by omega⟩) (fun s b f => ?_)
  obtain ⟨I, n, fk, fq, g⟩ := f
  rcases g with g | ⟨_, g0, g1, g2, g3, g4, g5, g6⟩
  · exact absurd g.1 h15
  have F : ∀ w, MF w σ s := fun w => by
    refine ⟨fun j hj => n j (by rintro rfl; cases hj), fun k hk => fk k ?_, ⟨by omega, ?_⟩, fun q q1 q2 => ?_, fun q _ _ => ?_, fun q _ _ => ?_, fun _ => n 72 (by decide), by rw [n 64 (by decide), n 65 (by decide)]⟩
    · cases hq : ndm k with
      | false => rfl
      | true =>
        exfalso
        unfold ndm at hq
        simp only [Bool.or_eq_true, beq_iff_eq] at hq
        rcases hq with (((((rfl | rfl) | rfl) | rfl) | rfl) | rfl) | rfl <;> cases hk
    · rw [n 48 (by decide)]; exact Int.le_refl _
    · have : q.toNat ≠ (σ.1 39).toNat := by omega
      exact ⟨fq 30 _ this, fq 31 _ this, fq 32 _ this, fq 33 _ this, fq 38 _ this⟩
    · rw [fk 44 rfl, fk 45 rfl, fk 46 rfl, fk 47 rfl]; exact ⟨rfl, rfl, rfl, rfl⟩
    · rw [fk 49 rfl, fk 50 rfl]; exact ⟨rfl, rfl⟩
  refine ⟨g0, M.mf (F 0) I ?_ (M.2.2.2.2.eq (fk 36 rfl) (fk 37 rfl)), F, n, g1, fk, fq, g2, g3, g4, g5, g6⟩
  unfold BG
  rw [g1, n 63 (by decide), n 64 (by decide), n 65 (by decide), n 48 (by decide), n 51 (by decide), n 75 (by decide), n 57 (by decide), n 66 (by decide), n 67 (by decide), n 68 (by decide), n 69 (by decide), n 70 (by decide), n 71 (by decide), n 72 (by decide), n 62 (by decide)]
  exact ⟨b1, b2, b3, b4, b5, b6, ⟨by omega, by omega⟩, b8, b9, b10, b11.1, by omega⟩
theorem NS.nd {c n a1 a2 a3 a4 b : Int} (h : NS c n r σ0 σ) (k : ND1 r σ a1 a2 a3 a4 s b) : NS c (n - 1) r σ0 s := by
  obtain ⟨⟨_, h2⟩, h3⟩ := h
  obtain ⟨k0, k1, k2, e, k4, _⟩ := k
  have e64 := e 64 (by decide)
  have e65 := e 65 (by decide)
  have e75 := e 75 (by decide)
  have e57 := e 57 (by decide)
  have e48 := e 48 (by decide)
  exact ⟨⟨k1, h2.trans (k2 _)⟩, by omega⟩
theorem MF.wn {k : Nat} {i x : Int} (h : MF w σ0 σ) (q : s = rs_a σ k i x) (hk : k = 32 ∨ k = 33) (hi : 0 ≤ σ0.1 39 ∧ σ0.1 39 ≤ i) : MF w σ0 s := by
  obtain ⟨a1, a2, a3, a4, a5, a6, a7⟩ := h
  have e := rs_a_1 q
  refine ⟨fun j hj => by rw [e]; exact a1 j hj, fun j hj => ?_, by rw [e]; exact a3, fun p p1 p2 => ?_, fun p p1 p2 => ?_, fun p p1 p2 => ?_, by rw [e]; exact a7⟩
  · have : j ≠ k := by rintro rfl; rcases hk with rfl | rfl <;> cases hj
    rw [rs_a_k q this]; exact a2 j hj
  · have st : ∀ m, s.2 m p.toNat = σ.2 m p.toNat := fun m => by
      by_cases c : m = k
      · subst c; exact rs_a_i q (by omega)
      · rw [rs_a_k q c]
    rw [st, st, st, st, st]; exact a4 p p1 p2
  · rw [rs_a_k q (by omega), rs_a_k q (by omega), rs_a_k q (by omega), rs_a_k q (by omega)]; exact a5 p p1 p2
  · rw [rs_a_k q (by omega), rs_a_k q (by omega)]; exact a6 p p1 p2
theorem M0.wn {k : Nat} {i x : Int} (M : M0 r σ) (Mh : M0 r σh) (h : MF w σh σ) (q : s = rs_a σ k i x) (hk : k = 32 ∨ k = 33) (hi : 0 ≤ σh.1 39 ∧ σh.1 39 ≤ i) (hx : inR x) : M0 r s := by
  have e := rs_a_1 q
  exact Mh.mf (h.wn q hk hi) (M.1.a q hx) (M.2.1.eq (fun j _ => by rw [e])) (M.2.2.2.2.eq (rs_a_k q (by omega)) (rs_a_k q (by omega)))
theorem M0.wk {k : Nat} {i x : Int} (M : M0 r σ) (q : s = rs_a σ k i x) (hk : k = 36 ∨ k = 37) (hi : 0 ≤ i) (hx : 0 ≤ x ∧ x ≤ 7) : M0 r s ∧ ∀ w, MF w σ s := by
  have F : ∀ w, MF w σ s := fun w => MF.a q hi (by omega)
  have e := rs_a_1 q
  refine ⟨M.mf (F 0) (M.1.a q ⟨by omega, by omega⟩) (M.2.1.eq (fun j _ => by rw [e])) (fun p => ?_), F⟩
  have K := M.2.2.2.2 p
  have st : ∀ m, m = 36 ∨ m = 37 → 0 ≤ s.2 m p ∧ s.2 m p ≤ 7 := fun m hm => by
    by_cases c : m = k
    · subst c
      by_cases c2 : p = i.toNat
      · subst c2; rw [rs_a_e q]; exact hx
      · rw [rs_a_i q c2]; rcases hm with rfl | rfl
        · exact K.1
        · exact K.2
    · rw [rs_a_k q c]; rcases hm with rfl | rfl
      · exact K.1
      · exact K.2
  exact ⟨st 36 (Or.inl rfl), st 37 (Or.inr rfl)⟩
def WSls (L : Int) (σ : RS) (t : Int) (A : Int → Prop) : Prop := WSL σ.2 L (σ.1 39) (σ.1 27) t A
theorem WSls.mf {L t : Int} (h : WSls L σ t A) (F : MF w σ s) : WSls L s t A := by
  unfold WSls
  rw [F.1 27 rfl]
  exact WSL.fr h (fun q q1 q2 _ => F.2.2.2.1 q q1 q2) F.2.2.1.1 (Int.le_refl _)
/-- the names that a normal form may use -/
def nma (S V : Int → Prop) : Int → Prop := fun x => S x ∨ V (-2 - x)
/-- what a normal form comes to -/
def NP (r : Int) (A : Int → Prop) (σ s : RS) (b : Int) : Prop := NS 0 0 r σ s ∧ inR b ∧ (s.1 72 = 0 → s.1 51 = σ.1 51 ∧ WSls (σ.1 39) s b A)
theorem q_normalb {x1 x2 x3 : Int} (hd : 4 ≤ d) (M : M0 r σ) (h72 : σ.1 72 ≠ 0) : rsf (RF d 41 σ [x1, x2, x3]) (fun s b => NP r A σ s b ∧ s.1 72 ≠ 0 ∧ ∀ w, MF w σ s) := by
  rw [rq_normal (by omega)]
  refine rsf_fin ?_
  unfold pf_normal_0
  refine rsf_cl (q_look (by omega) M) (fun s1 z2 f => ?_)
  obtain ⟨f, _⟩ := f
  have g : z2 = 0 ∧ s1.1 72 ≠ 0 := by
    rcases f.2.2.2.2 with g | g
    · exact ⟨g.1, g.2.1⟩
    · exact absurd g.2.1 h72
  refine rsf_if (fun c => absurd g.1 c) (fun c => ?_)
  have n := NS.look f
  exact rsf_some ⟨⟨by decide, by decide⟩, ⟨n.le (by omega) (by omega), ⟨by decide, by decide⟩, fun q => absurd q g.2⟩, g.2, f.2.1⟩
/-- the parts that wait, made into uses -/
theorem q_normal229 {x3 x4 x9 : Int} (hd : 1 ≤ d) (hV : ∀ x, V x → inR x) (hx3 : 0 ≤ x3 ∧ x3 ≤ 100) (B : BG r σ0) (h15 : σ0.1 15 ≠ 0) (h4 : x4 = σ0.1 51) (h9 : x4 ≤ x9 ∧ x9 ≤ 20000) (nrm : ∀ {s : RS} {a b : Int}, M0 r s → s.1 15 ≠ 0 → WT s S V → COs s S V a b → rsf (RF d 41 s [a, b, x3 + 1]) (NP r (nma S V) s)) : ∀ (n : Nat) {σ : RS} {x8 x10 : Int}, NS 0 0 r σ0 σ → inR x8 → (σ.1 72 = 0 → NS 0 (x9 - x4 - x10 + 1) r σ0 σ ∧ σ.1 51 = x9 ∧ WT σ S V ∧ WSls (σ0.1 39) σ x8 (nma S V)) → 1 ≤ x10 → x9 - x10 + 3 ≤ (n : Int) → 1 ≤ n → rsf (pf_normal_229 (RF d) n σ x3 x4 x8 x9 x10) (fun s b => inR b ∧ NP r (nma S V) σ0 s b) := by
  intro n
  have b4 := B.2.2.2.1
  have b7 := B.2.2.2.2.2.2.1
  have b3 := B.2.2.1
  have b11 := B.2.2.2.2.2.2.2.2.2.2
  induction n with
  | zero => intro σ x8 x10 _ _ _ _ _ h; omega
  | succ n ih =>
    intro σ x8 x10 H h8 H' h10 hn _
    unfold pf_normal_229
    have fin : ∀ (_ : σ.1 72 = 0 → True), rsf (rf_pi σ 51 x4 (fun σ3 => some (σ3, x8))) (fun s b => inR b ∧ NP r (nma S V) σ0 s b) := fun _ => by
      refine rsf_pi (fun s3 w3 => ?_)
      have h3 := H.2
      obtain ⟨M3, F3, P3⟩ := H.1.1.p51 w3 ⟨by omega, by omega⟩
      have N3 := H.eq M3 (H.1.2.trans (F3 _)) (fun j hj => rs_i_n w3 hj)
      refine rsf_some ⟨h8, N3, h8, fun q => ⟨by rw [rs_i_e w3]; exact h4, ?_⟩⟩
      rw [rs_i_n w3 (by decide)] at q
      exact (H' q).2.2.2.mf (F3 0)
    refine rsf_gi (fun z1 q1 => rsf_if (fun c => fin (fun _ => trivial)) (fun c => ?_))
    refine rsf_ck ⟨by omega, by omega⟩ (fun z4 q4 => rsf_if (fun c4 => fin (fun _ => trivial)) (fun c4 => ?_))
    obtain ⟨N1, h51, hW, hL⟩ := H' (by omega)
    refine rsf_ck ⟨by omega, by omega⟩ (fun z7 q7 => ?_)
    refine rsf_rd ⟨by omega, by show _ < ((21000 : Nat) : Int); omega⟩ (fun z8 q8 => ?_)
    refine rsf_ck ⟨by omega, by omega⟩ (fun z9 q9 => ?_)
    refine rsf_rd ⟨by omega, by show _ < ((21000 : Nat) : Int); omega⟩ (fun z10 q10 => ?_)
    refine rsf_ck ⟨by omega, by omega⟩ (fun z11 q11 => ?_)
    have C := hW z7 (by omega) (by omega)
    have e9 : z9 = z7 := by omega
    subst e9 q11
    rw [q8, q10] at C
    have h15' : σ.1 15 ≠ 0 := by rw [H.1.2.1 15 rfl]; exact h15
    refine rsf_cl (nrm H.1.1 h15' hW C) (fun s12 z13 g => ?_)
    obtain ⟨G1, G2, G3⟩ := g
    have N12 := N1.tr G1 (by omega)
    have i15 : s12.1 15 ≠ 0 := by rw [G1.1.2.1 15 rfl]; exact h15'
    have l0 := H.1.2.2.2.1.1
    have l1 := G1.1.2.2.2.1.1
    have e62 := N12.1.2.1 62 rfl
    have h12 := N12.2
    have c3 := N12.1.1.2.1.2.2.1
    have c7 := N12.1.1.2.1.2.2.2.2.2.2.1
    have c11 := N12.1.1.2.1.2.2.2.2.2.2.2.2.2.2
    refine rsf_cl (q_nodeM hd N12.1.1 i15 ⟨by decide, by decide⟩ ⟨by decide, by decide⟩ h8 G2 ⟨by decide, by decide⟩ (by omega)) (fun s14 z15 k => ?_)
    have N14 := N12.nd k
    obtain ⟨k0, k1, k2, k3, k4, k5, k6, k7, k8, k9, k10, k11⟩ := k
    refine rsf_ck ⟨by omega, by omega⟩ (fun z16 q16 => ?_)
    refine ih (N14.le (by omega) (by omega)) ⟨by omega, by omega⟩ (fun q => ?_) (by omega) (by omega) (by omega)
    rw [k3 72 (by decide)] at q
    obtain ⟨g1, g2⟩ := G3 q
    have e51 := k3 51 (by decide)
    have F := G1.1.2.trans (k2 (σ.1 51))
    refine ⟨N14.le (by omega) (by omega), by omega, hW.mf F (by omega) (by omega), ?_⟩
    have L1 : WSls (σ0.1 39) s14 x8 (nma S V) := hL.mf F
    have L2 : WSls (σ0.1 39) s14 z13 (nma S V) := by
      have t : WSls (σ.1 39) s14 z13 (nma S V) := g2.mf (k2 0)
      exact WSL.fr t (fun _ _ _ _ => ⟨rfl, rfl, rfl, rfl, rfl⟩) (Int.le_refl _) l0
    unfold WSls at L1 L2 ⊢
    refine WSL.mk ⟨⟨by omega, by omega⟩, Or.inr (Or.inr (Or.inr (Or.inl ⟨k7, ?_, ?_⟩)))⟩ (Or.inl (by omega))
    · rw [k9]; exact L1
    · rw [k10]; exact L2
theorem q_normal218 {x3 x4 t0 : Int} (hd : 1 ≤ d) (hV : ∀ x, V x → inR x) (hx3 : 0 ≤ x3 ∧ x3 ≤ 100) (B : BG r σ0) (h15 : σ0.1 15 ≠ 0) (h4 : x4 = σ0.1 51) (h51 : σ0.1 51 ≤ σ.1 51) (nrm : ∀ {s : RS} {a b : Int}, M0 r s → s.1 15 ≠ 0 → WT s S V → COs s S V a b → rsf (RF d 41 s [a, b, x3 + 1]) (NP r (nma S V) s)) (H : NS 0 (σ.1 51 - σ0.1 51) r σ0 σ) (h8 : inR t0) (hW : WT σ S V) (hL : WSls (σ0.1 39) σ t0 (nma S V)) : rsf (pf_normal_218 (RF d) σ x3 x4 t0) (fun s b => inR b ∧ NP r (nma S V) σ0 s b) := by
  unfold pf_normal_218
  refine rsf_gi (fun z1 q1 => ?_)
  have b := H.1.1.2.1
  have b4 := b.2.2.2.1
  have b2 := b.2.1
  have b1 := b.1
  exact q_normal229 hd hV hx3 B h15 h4 (by omega) nrm 200000 (H.le (by omega) (by omega)) h8 (fun _ => ⟨H.le (by omega) (by omega), q1, hW, hL⟩) (by omega) (by omega) (by omega)
/-- under a binder -/
theorem q_normal63 {x3 x4 x5 x6 x7 : Int} (hd : 4 ≤ d) (hV : ∀ x, V x → inR x) (hx3 : 0 ≤ x3 ∧ x3 ≤ 100) (B : BG r σ0) (h15 : σ0.1 15 ≠ 0) (h4 : x4 = σ0.1 51) (h51 : σ0.1 51 ≤ σ.1 51) (nrm : ∀ {s : RS} {a b : Int} {U : Int → Prop}, (∀ x, U x → inR x) → M0 r s → s.1 15 ≠ 0 → WT s S U → COs s S U a b → rsf (RF d 41 s [a, b, x3 + 1]) (NP r (nma S U) s)) (H : NS 2 1 r σ0 σ) (hW : WT σ S V) (hC : COs σ S V x5 x6) (h5 : 0 ≤ x5) (hk : σ.2 30 x5.toNat = x7) (h7 : x7 = 4 ∨ x7 = 5) : rsf (pf_normal_63 (RF d) σ x3 x4 x5 x6 x7) (fun s b => inR b ∧ NP r (nma S V) σ0 s b) := by
  unfold pf_normal_63
  have M := H.1.1
  have h3 := H.2
  have rg := CLU.rg hC
  have l0 := H.1.2.2.2.1.1
  have e62 := H.1.2.1 62 rfl
  have h15' : σ.1 15 ≠ 0 := by rw [H.1.2.1 15 rfl]; exact h15
  obtain ⟨b1, b2, b3, b4, b5, b6, b7, b8, b9, b10, b11⟩ := M.2.1
  obtain ⟨o1, o2, o3, o4, o5, o6, o7, o8, o9, o10, o11⟩ := B
  obtain ⟨C2, _⟩ := hC.bi h5 (by omega)
  refine rsf_cl (q_nodeM (by omega) M h15' ⟨by omega, by omega⟩ ⟨by decide, by decide⟩ ⟨by decide, by decide⟩ ⟨by decide, by decide⟩ ⟨by decide, by decide⟩ (by omega)) (fun s1 z2 k => ?_)
  have N1 := H.nd k
  obtain ⟨k0, M1, F1, k3, k4, k5, k6, k7, k8, k9, k10, k11⟩ := k
  refine rsf_rd ⟨by omega, by show _ < ((140000 : Nat) : Int); omega⟩ (fun z3 q3 => ?_)
  refine rsf_wr ⟨by omega, by show _ < ((140000 : Nat) : Int); omega⟩ (fun s4 w4 => ?_)
  obtain ⟨M4, F4⟩ := M1.wk w4 (Or.inl rfl) (by omega) (by rw [← q3]; exact (M1.2.2.2.2 _).1)
  refine rsf_rd ⟨by omega, by show _ < ((140000 : Nat) : Int); omega⟩ (fun z5 q5 => ?_)
  refine rsf_wr ⟨by omega, by show _ < ((140000 : Nat) : Int); omega⟩ (fun s6 w6 => ?_)
  obtain ⟨M6, F6⟩ := M4.wk w6 (Or.inr rfl) (by omega) (by rw [← q5]; exact (M4.2.2.2.2 _).2)
  have e6 : s6.1 = s1.1 := by rw [rs_a_1 w6, rs_a_1 w4]
  have a6 : ∀ k, k ≠ 36 → k ≠ 37 → s6.2 k = s1.2 k := fun k p q => by rw [rs_a_k w6 q, rs_a_k w4 p]
  have Fh6 : ∀ w, MF w σ s6 := fun w => ((F1 w).trans (F4 w)).trans (F6 w)
  have N6 : NS 2 0 r σ0 s6 := (N1.eq M6 (H.1.2.trans (Fh6 _)) (fun j _ => by rw [e6])).le (by omega) (by omega)
  have e39 : s6.1 39 = σ.1 39 + 1 := by rw [e6]; exact k4
  have e51 : s6.1 51 = σ.1 51 := by rw [e6]; exact k3 51 (by decide)
  refine rsf_rd ⟨by omega, by show _ < ((140000 : Nat) : Int); omega⟩ (fun z7 q7 => ?_)
  have g5 : x5.toNat ≠ (σ.1 39).toNat := by omega
  have hz7 : z7 = σ.2 32 x5.toNat := by rw [← q7, a6 32 (by decide) (by decide), k6 32 _ g5]
  refine rsf_ck ⟨by omega, by omega⟩ (fun z8 q8 => ?_)
  subst q8
  have i15 : s6.1 15 ≠ 0 := by rw [e6, k3 15 (by decide)]; exact h15'
  have hW6 : WT s6 S V := hW.mf (Fh6 (σ.1 51)) (by omega) (by omega)
  refine rsf_cl (nrm hV M6 i15 hW6 (by rw [hz7]; exact C2.mf (Fh6 0))) (fun s9 z10 g => ?_)
  obtain ⟨G1, G2, G3⟩ := g
  have N9 := N6.tr G1 (by omega)
  have Fv9 : MF (s6.1 51) σ s9 := (Fh6 _).trans G1.1.2
  have Fh9 : MF (σ0.1 51) σ s9 := Fv9.le (by omega)
  refine rsf_wr ⟨by omega, by show _ < ((140000 : Nat) : Int); omega⟩ (fun s11 w11 => ?_)
  have e11 := rs_a_1 w11
  have Fv11 : MF (s6.1 51) σ s11 := Fv9.wn w11 (Or.inl rfl) (by omega)
  have Fh11 : MF (σ0.1 51) σ s11 := Fv11.le (by omega)
  have M11 : M0 r s11 := N9.1.1.wn M Fh9 w11 (Or.inl rfl) (by omega) G2
  have N11 : NS 2 0 r σ0 s11 := N9.eq M11 (H.1.2.trans Fh11) (fun j _ => by rw [e11])
  have l9 := G1.1.2.2.2.1.1
  have e11' : s11.1 39 = s9.1 39 := by rw [e11]
  refine rsf_rd ⟨by omega, by show _ < ((140000 : Nat) : Int); omega⟩ (fun z12 q12 => ?_)
  obtain ⟨c1, c2, c3, c4, c5, c6, c7, c8, c9, c10, c11⟩ := M11.2.1
  refine rsf_ck ⟨by omega, by omega⟩ (fun z13 q13 => ?_)
  have hz13 : inR z13 := ⟨by omega, by omega⟩
  have n11 := N11.2
  have hC11 : COs s11 S (fun x => V x ∨ x = z13) x5 x6 := (hC.mf Fh11).up (fun _ q => q) (fun _ q => Or.inl q)
  have hk11 : 4 ≤ s11.2 30 x5.toNat ∧ s11.2 30 x5.toNat ≤ 6 := by
    have := (Fh11.2.2.2.1 x5 h5 (by omega)).1
    omega
  refine rsf_cl (q_inside (by omega) M11 ⟨h5, by omega⟩ hC11.1 hz13 ⟨by omega, Or.inr rfl⟩ (by omega)) (fun s14 z15 f => ?_)
  obtain ⟨_, M14, F14, n14, f48, k14, W14, D14⟩ := f
  have N14 := N11.ins M14 F14 n14 f48
  have C14 : COs s14 S (fun x => V x ∨ x = z13) (s11.2 33 x5.toNat) z15 := (hC11.bi h5 hk11).2 (F14 0) (n14 39 (by decide)) W14 D14
  rw [q12] at C14
  refine rsf_ck ⟨by omega, by omega⟩ (fun z16 q16 => ?_)
  subst q16
  have m72 : s14.1 72 = s9.1 72 := by rw [n14 72 (by decide), e11]
  have m51 : s14.1 51 = s9.1 51 := by rw [n14 51 (by decide), e11]
  have m39 : s14.1 39 = s9.1 39 := by rw [n14 39 (by decide), e11]
  have Fh14 : MF (σ0.1 51) σ s14 := Fh11.trans (F14 _)
  have j15 : s14.1 15 ≠ 0 := by rw [Fh14.1 15 rfl]; exact h15'
  have call : rsf (RF d 41 s14 [z12, z15, x3 + 1]) (fun s b => (NS 1 0 r σ0 s ∧ MF (σ0.1 51) s14 s ∧ inR b) ∧ (s.1 72 = 0 → s9.1 72 = 0 ∧ WSls (s14.1 39) s b (nma S (fun x => V x ∨ x = z13)))) := by
    by_cases hb : s9.1 72 = 0
    · have v51 := (G3 hb).1
      have hW14 : WT s14 S (fun x => V x ∨ x = z13) := (hW.mf (Fv11.trans (F14 _)) (by omega) (by omega)).up (fun _ q => q) (fun _ q => Or.inl q)
      have hU : ∀ x, (V x ∨ x = z13) → inR x := fun x q => by
        rcases q with q | q
        · exact hV x q
        · rw [q]; exact hz13
      refine rsf_mono (nrm hU M14 j15 hW14 C14) (fun s b g => ?_)
      obtain ⟨y1, y2, y3⟩ := g
      exact ⟨⟨N14.tr y1 (by omega), y1.1.2.le (by omega), y2⟩, fun q => ⟨hb, (y3 q).2⟩⟩
    · refine rsf_mono (q_normalb (A := none0) hd M14 (by rw [m72]; exact hb)) (fun s b g => ?_)
      obtain ⟨⟨y1, y2, _⟩, y4, y5⟩ := g
      have z1 := y1.2
      have z2 := N14.2
      exact ⟨⟨⟨⟨y1.1.1, N14.1.2.trans (y5 _)⟩, by omega⟩, y5 _, y2⟩, fun q => absurd q y4⟩
  refine rsf_cl call (fun s17 z18 g => ?_)
  obtain ⟨⟨N17, F17, hz18⟩, g17⟩ := g
  clear call
  have Fh17 : MF (σ0.1 51) σ s17 := Fh14.trans F17
  refine rsf_wr ⟨by omega, by show _ < ((140000 : Nat) : Int); omega⟩ (fun s19 w19 => ?_)
  have e19 := rs_a_1 w19
  have Fh19 : MF (σ0.1 51) σ s19 := Fh17.wn w19 (Or.inr rfl) (by omega)
  have M19 : M0 r s19 := N17.1.1.wn M Fh17 w19 (Or.inr rfl) (by omega) hz18
  have N19 : NS 1 0 r σ0 s19 := N17.eq M19 (H.1.2.trans Fh19) (fun j _ => by rw [e19])
  have n19 := N19.2
  refine rsf_pi (fun s20 w20 => ?_)
  obtain ⟨M20, F20, _⟩ := M19.p51 w20 ⟨by omega, by omega⟩
  have N20 := N19.eq M20 (N19.1.2.trans (F20 _)) (fun j hj => rs_i_n w20 hj)
  have hz2 : inR z2 := ⟨by omega, by omega⟩
  refine rsf_some ⟨hz2, N20.le (by omega) (by omega), hz2, fun q => ⟨by rw [rs_i_e w20]; exact h4, ?_⟩⟩
  rw [rs_i_n w20 (by decide), e19] at q
  obtain ⟨q9, L18⟩ := g17 q
  obtain ⟨_, L10⟩ := G3 q9
  have e20 : s20.2 = s19.2 := rs_i_2 w20
  have x39 : s20.1 39 = s17.1 39 := by rw [rs_i_n w20 (by decide), e19]
  have x27 : s20.1 27 = s17.1 27 := by rw [rs_i_n w20 (by decide), e19]
  have l17 := F17.2.2.1.1
  have at2 : ∀ k, k = 30 ∨ k = 38 → s20.2 k z2.toNat = s1.2 k z2.toNat := fun k hk => by
    have a := F17.2.2.2.1 z2 (by omega) (by omega)
    have b := G1.1.2.2.2.2.1 z2 (by omega) (by omega)
    rw [e20, rs_a_k w19 (by omega)]
    have hs : s17.2 k z2.toNat = s14.2 k z2.toNat ∧ s9.2 k z2.toNat = s6.2 k z2.toNat := by
      rcases hk with rfl | rfl
      · exact ⟨a.1, b.1⟩
      · exact ⟨a.2.2.2.2, b.2.2.2.2⟩
    rw [hs.1, k14 k (by omega), rs_a_k w11 (by omega), hs.2, a6 k (by omega) (by omega)]
  have at32 : s20.2 32 z2.toNat = z10 := by
    have a := F17.2.2.2.1 z2 (by omega) (by omega)
    rw [e20, rs_a_k w19 (by decide), a.2.2.1, k14 32 (by omega)]; exact rs_a_e w11
  have at33 : s20.2 33 z2.toNat = z18 := by rw [e20]; exact rs_a_e w19
  have away : ∀ (p : Int), 0 ≤ p → p ≠ z2 → ∀ k, s20.2 k p.toNat = s17.2 k p.toNat := fun p p0 p1 k => by
    rw [e20]
    by_cases c : k = 33
    · subst c; exact rs_a_i w19 (by omega)
    · rw [rs_a_k w19 c]
  have away11 : ∀ (p : Int), 0 ≤ p → p ≠ z2 → ∀ k, k < 44 → s14.2 k p.toNat = s9.2 k p.toNat := fun p p0 p1 k hk => by
    rw [k14 k (by omega)]
    by_cases c : k = 32
    · subst c; exact rs_a_i w11 (by omega)
    · rw [rs_a_k w11 c]
  unfold WSls at L10 L18 ⊢
  refine WSL.mk ⟨⟨by omega, by omega⟩, Or.inr (Or.inr (Or.inr (Or.inr ⟨?_, ?_, ?_⟩)))⟩ (Or.inl (by omega))
  · rw [at2 30 (Or.inl rfl), k7]; omega
  · rw [at32, x27, F17.1 27 rfl, n14 27 (by decide), e11]
    refine WSL.fr L10 (fun p p0 p1 p2 => ?_) (by omega) (by omega)
    have hp : p ≠ z2 := by omega
    obtain ⟨a1, a2, a3, a4, a5⟩ := F17.2.2.2.1 p p0 (by omega)
    have aw := away p p0 hp
    have aw' := away11 p p0 hp
    exact ⟨by rw [aw, a1, aw' 30 (by decide)], by rw [aw, a2, aw' 31 (by decide)], by rw [aw, a3, aw' 32 (by decide)], by rw [aw, a4, aw' 33 (by decide)], by rw [aw, a5, aw' 38 (by decide)]⟩
  · rw [at33, x27, at2 38 (Or.inr rfl), k11]
    refine (WSL.fr (b := s20.2) (M := s20.1 39) (L' := σ0.1 39) L18 (fun p p0 p1 p2 => ?_) (by omega) (by omega)).sub (fun x hx => ?_)
    · have hp : p ≠ z2 := by omega
      have aw := away p p0 hp
      exact ⟨aw _, aw _, aw _, aw _, aw _⟩
    · rcases hx with hx | hx | hx
      · exact Or.inl (Or.inl hx)
      · exact Or.inl (Or.inr hx)
      · exact Or.inr (by omega)
end RNM
