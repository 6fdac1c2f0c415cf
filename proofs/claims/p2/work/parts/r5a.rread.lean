section RRE
variable {σ σ' σ'' : RS} {d : Nat}
/-- the lexer in order, its name short -/
def LZ (σ : RS) : Prop := LX σ ∧ (σ.1 7 = 1 → σ.1 72 = 0 → σ.1 10 - σ.1 9 ≤ 12)
/-- room for the nodes of what is left of the text -/
def BU (σ : RS) : Prop := 0 ≤ σ.1 39 ∧ σ.1 39 + 2 * (σ.1 5 - σ.1 9) ≤ 139990
/-- what reading a term comes to -/
def PR (h : Nat) (σ σ' : RS) (r : Int) : Prop := LZ σ' ∧ PF σ σ' ∧ (0 ≤ r ∧ r < 140000) ∧ (σ.1 15 = 0 → σ'.1 39 = σ.1 39) ∧ σ'.1 39 ≤ σ.1 39 + 2 * (σ'.1 9 - σ.1 9) + 1 ∧ (σ'.1 72 = 0 → σ'.1 39 + 1 ≤ σ.1 39 + 2 * (σ'.1 9 - σ.1 9)) ∧ (σ'.1 72 = 0 → σ.1 15 ≠ 0 → TR σ'.2 h r (σ.1 39) (σ'.1 39))
def PT (h : Nat) (σ σ' : RS) (r : Int) : Prop := PR h σ σ' r ∧ (σ.1 72 ≠ 0 → σ'.1 39 = σ.1 39)
theorem LZ.w (L : LZ σ) (I : IR σ') (e : σ'.1 = σ.1) : LZ σ' := ⟨L.1.fr I (fun j _ => by rw [e]), by rw [e]; exact L.2⟩
theorem PF.w (h : PF σ σ') {k : Nat} {i x : Int} (w : σ'' = rs_a σ' k i x) (hk : k = 34 ∨ k = 35) : PF σ σ'' := by
  obtain ⟨a1, a2, a3, a4, a5, a6, a7⟩ := h
  have e := rs_a_1 w
  refine ⟨fun j hj h9 => by rw [e]; exact a1 j hj h9, fun m hm => ?_, by rw [e]; exact a3, fun m q hq h4 h5 => ?_, by rw [e]; exact a5, by rw [e]; exact a6, by rw [e]; exact a7⟩
  · have : m ≠ k := by rintro rfl; rcases hk with rfl | rfl <;> cases hm
    rw [rs_a_k w this]; exact a2 m hm
  · have : m ≠ k := by omega
    rw [rs_a_k w this]; exact a4 m q hq h4 h5
theorem TR.w {h : Nat} {t lo hi : Int} (T : TR σ'.2 h t lo hi) {k : Nat} {i x : Int} (w : σ'' = rs_a σ' k i x) (hk : k = 34 ∨ k = 35) : TR σ''.2 h t lo hi := by
  refine T.ag (fun q _ _ => ?_)
  refine ⟨?_, ?_, ?_, ?_, ?_⟩ <;> rw [rs_a_k w (by omega)]
theorem PR.w {h : Nat} {r : Int} (p : PR h σ σ' r) {k : Nat} {i x : Int} (w : σ'' = rs_a σ' k i x) (hk : k = 34 ∨ k = 35) (hx : inR x) : PR h σ σ'' r := by
  obtain ⟨p1, p2, p3, p4, p5, p6, p7⟩ := p
  have e := rs_a_1 w
  exact ⟨p1.w (p1.1.1.a w hx) e, p2.w w hk, p3, by rw [e]; exact p4, by rw [e]; exact p5, by rw [e]; exact p6, fun q c => by rw [e] at q; rw [e]; exact (p7 q c).w w hk⟩
/-- over a token -/
theorem q_step (hd : 5 ≤ d) (L : LZ σ) (h7 : σ.1 7 = 1 ∨ σ.1 7 = 2) : rsf (RF d 10 σ []) (fun σ' r => LZ σ' ∧ PF σ σ' ∧ FL σ σ' ∧ σ.1 9 < σ'.1 9) := by
  refine rsf_mono (q_next hd L.1.b) (fun σ' r f => ?_)
  have n := ND.of L.1 h7 f
  have f3 := f.2.2.1
  obtain ⟨hI, l5, l6, l7, l9, l10, l11, l72, lt1, lt2⟩ := L.1
  have : σ.1 9 < σ.1 6 := by
    rcases h7 with q | q
    · exact (lt1 q).2
    · exact lt2 q
  exact ⟨⟨n.1, n.2.2.2.2.2.2⟩, PF.ofFL n.2.1 n.2.2.1 n.2.2.2.1 n.2.2.2.2.1, n.2.1, by omega⟩
theorem q_readAtom {h : Nat} {x : Int} (hd : 7 ≤ d) (hx : 0 ≤ x ∧ x ≤ 40) (ih : ∀ {s : RS}, LZ s → BU s → rsf (RF d 20 s [x + 1]) (PT h s)) (L : LZ σ) (B : BU σ) : rsf (RF (d + 1) 24 σ [x]) (PR h σ) := by
  rw [rq_readAtom (by omega)]
  refine rsf_fin ?_
  unfold pf_readAtom_0
  rw [Nat.add_sub_cancel]
  obtain ⟨B1, B2⟩ := B
  refine rsf_cl (q_isSign (by omega) L.1.1) (fun s1 z2 f2 => ?_)
  obtain ⟨e1, f2⟩ := f2
  subst e1
  refine rsf_if (fun c => ?_) (fun c => ?_)
  · refine rsf_gi (fun z4 h4 => ?_)
    refine rsf_cl (q_step (by omega) L (by omega)) (fun s5 z6 f6 => ?_)
    obtain ⟨L5, P5, F5, g5⟩ := f6
    have n5 := F5.2 39 rfl
    have b5 := F5.2 15 rfl
    have c5 := P5.2.2.2.2.1
    refine rsf_ck ⟨by omega, by omega⟩ (fun z7 h7 => ?_)
    subst h7
    refine rsf_cl (ih L5 ⟨by omega, by omega⟩) (fun s8 z9 f9 => ?_)
    obtain ⟨⟨L8, P8, R8, T0, T1, T2, T3⟩, _⟩ := f9
    refine rsf_cl (q_need (by omega) L8.1) (fun s10 z11 f11 => ?_)
    obtain ⟨_, n, _⟩ := f11
    have n10 := n.2.1.2 39 rfl
    have m2 := n.2.1.1
    have m9 := n.2.2.2.1
    have m72 := n.2.2.2.2.1
    have mg := n.2.2.2.2.2.1
    have p : PR h s1 s10 z9 := by
      refine ⟨⟨n.1, n.2.2.2.2.2.2⟩, (P5.trans P8).trans (PF.ofFL n.2.1 n.2.2.1 n.2.2.2.1 n.2.2.2.2.1), R8, fun q => ?_, by omega, fun q => ?_, fun q c => ?_⟩
      · rw [n10, T0 (by rw [b5]; exact q), n5]
      · have := mg q
        have := T2 (by omega)
        omega
      · have t := T3 (by omega) (by rw [b5]; exact c)
        rw [n10, m2, ← n5]; exact t
    have hz : inR z9 := ⟨by omega, by omega⟩
    refine rsf_gi (fun z12 h12 => ?_)
    refine rsf_if (fun c2 => ?_) (fun c2 => ?_)
    · exact rsf_some ⟨hz, p⟩
    · refine rsf_wr ⟨by omega, by show _ < ((140000 : Nat) : Int); omega⟩ (fun s14 w14 => ?_)
      exact rsf_some ⟨hz, p.w w14 (Or.inl rfl) (h4 ▸ L.1.1.1 _)⟩
  · have l9 := L.1.2.2.2.2.1
    have l6 := L.1.2.2.1
    refine rsf_cl (q_nameNode (by omega) L.1 ⟨by omega, by omega⟩) (fun s15 z16 f16 => ?_)
    obtain ⟨L15, P15, g15, k15⟩ := f16
    have c9 := P15.2.2.2.2.2.1
    have c72 := P15.2.2.2.2.2.2
    refine rsf_some ⟨⟨by omega, by omega⟩, L15, P15, by omega, by omega, by omega, fun q => ?_, fun q c => ?_⟩
    · have := g15 q; omega
    · have g := g15 q
      rcases k15 with ⟨c', _⟩ | ⟨_, e0, e1, e2, e3, e4, e5, e6⟩
      · exact absurd c' c
      · have := L.1.2.2.2.2.2.2.2.2.1 g.2.1
        have := L.2 g.2.1 (by omega)
        have l10 := L.1.2.2.2.2.2.1
        rw [e1, ← e0]
        exact TR.nm (by omega) ⟨e2, by omega, by omega, by omega⟩
end RRE
