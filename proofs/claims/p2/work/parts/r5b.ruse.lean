section RUS
variable {σ σ' σ'' σ0 : RS} {d : Nat}
theorem PR.mono {h h' : Nat} {r : Int} (p : PR h σ σ' r) (hh : h ≤ h') : PR h' σ σ' r := by
  obtain ⟨p1, p2, p3, p4, p5, p6, p7⟩ := p
  exact ⟨p1, p2, p3, p4, p5, p6, fun q c => (p7 q c).mono hh⟩
/-- a new node while reading -/
theorem q_nodeP (hd : 1 ≤ d) (L : LZ σ) {a1 a2 a3 a4 a5 : Int} (h1 : inR a1) (h2 : inR a2) (h3 : inR a3) (h4 : inR a4) (h5 : inR a5) (hn : 0 ≤ σ.1 39 ∧ σ.1 39 < 139999) : rsf (RF d 18 σ [a1, a2, a3, a4, a5]) (fun σ' r => LZ σ' ∧ PF σ σ' ∧ (∀ j, j ≠ 39 → σ'.1 j = σ.1 j) ∧ (0 ≤ r ∧ r < 140000) ∧ ((σ.1 15 = 0 ∧ σ'.1 39 = σ.1 39) ∨ (σ.1 15 ≠ 0 ∧ r = σ.1 39 ∧ σ'.1 39 = σ.1 39 + 1 ∧ σ'.2 30 r.toNat = a1 ∧ σ'.2 31 r.toNat = a2 ∧ σ'.2 32 r.toNat = a3 ∧ σ'.2 33 r.toNat = a4 ∧ σ'.2 38 r.toNat = r))) := by
  refine rsf_mono (q_node hd L.1.1 h1 h2 h3 h4 h5 hn) (fun σ' r f => ?_)
  obtain ⟨I6, fr6, fa6, fq6, g6⟩ := f
  have b9 := fr6 9 (by decide)
  have b72 := fr6 72 (by decide)
  have P6 : PF σ σ' := by
    refine ⟨fun j _ h9 => fr6 j h9, fa6, ?_, fun k q hq _ _ => fq6 k q (by omega), fr6 5 (by decide), by omega, fun _ => b72⟩
    rcases g6 with ⟨_, e, _⟩ | ⟨_, _, e, _⟩
    · rw [e]; exact Int.le_refl _
    · omega
  refine ⟨⟨L.1.fr I6 fr6, ?_⟩, P6, fr6, ?_, ?_⟩
  · rw [fr6 7 (by decide), b72, fr6 10 (by decide), b9]; exact L.2
  · rcases g6 with ⟨_, _, e⟩ | ⟨_, e, _⟩ <;> omega
  · rcases g6 with ⟨c, e, _⟩ | g
    · exact Or.inl ⟨c, by rw [e]⟩
    · exact Or.inr g
theorem PF.b (h : PF σ σ') : σ'.1 15 = σ.1 15 := h.1 15 rfl (by decide)
theorem q_use42 {h : Nat} {x x2 x3 : Int} (hd : 7 ≤ d) (hx : 0 ≤ x ∧ x ≤ 40) (h2 : inR x2) (ih : ∀ {s : RS}, LZ s → BU s → rsf (RF d 20 s [x + 1]) (PT h s)) (B : BU σ0) (p : PR (h + 1) σ0 σ x3) : rsf (pf_readUse_42 (RF d) σ x x2 x3) (fun σ' r => inR r ∧ PR (h + 2) σ0 σ' r) := by
  have p' := p
  obtain ⟨L, P, R, T0, T1, T2, T3⟩ := p'
  obtain ⟨B1, B2⟩ := B
  have hb := P.b
  have h5 := P.2.2.2.2.1
  have i3 : inR x3 := ⟨by omega, by omega⟩
  unfold pf_readUse_42
  refine rsf_gi (fun z1 h1 => ?_)
  refine rsf_if (fun c => rsf_some ⟨i3, p.mono (by omega)⟩) (fun c => ?_)
  refine rsf_cl (q_isSign (by omega) L.1.1) (fun s3 z4 f4 => ?_)
  obtain ⟨e1, f4⟩ := f4
  subst e1
  refine rsf_if (fun c2 => rsf_some ⟨i3, p.mono (by omega)⟩) (fun c2 => ?_)
  have T2' := T2 (by omega)
  refine rsf_gi (fun z6 h6 => ?_)
  refine rsf_cl (q_step (by omega) L (by omega)) (fun s7 z8 f8 => ?_)
  obtain ⟨L7, P7, F7, g7⟩ := f8
  have n7 := F7.2 39 rfl
  have b7 := P7.b
  have c7 := P7.2.2.2.2.1
  refine rsf_ck ⟨by omega, by omega⟩ (fun z9 h9 => ?_)
  subst h9
  refine rsf_cl (ih L7 ⟨by have := P.2.2.1; omega, by omega⟩) (fun s10 z11 f11 => ?_)
  obtain ⟨⟨L10, P10, R10, U0, U1, U2, U3⟩, _⟩ := f11
  have b10 := P10.b
  have c10 := P10.2.2.2.2.1
  have n10 := P10.2.2.1
  have m10 := P10.2.2.2.2.2.1
  have n0 := P.2.2.1
  have l10 := L10.1.2.2.1
  have l10' := L10.1.2.2.2.2.1
  refine rsf_cl (q_nodeP (by omega) L10 ⟨by decide, by decide⟩ ⟨by decide, by decide⟩ i3 ⟨by omega, by omega⟩ h2 ⟨by omega, by omega⟩) (fun s12 z13 f13 => ?_)
  obtain ⟨L12, P12, fr12, R12, g12⟩ := f13
  have a9 := fr12 9 (by decide)
  have a72 := fr12 72 (by decide)
  have q : PR (h + 2) σ0 s12 z13 := by
    refine ⟨L12, ((P.trans P7).trans P10).trans P12, R12, fun q => ?_, by omega, fun q => ?_, fun q c => ?_⟩
    · have := T0 q
      have := U0 (by omega)
      omega
    · have := U2 (by omega)
      omega
    · rcases g12 with ⟨c', _⟩ | ⟨_, e0, e1, e2, e3, e4, e5, e6⟩
      · omega
      · have t1 := (T3 (by omega) c).ag (AG.of ((P7.trans P10).trans P12) (by omega) (by omega))
        have t2 := (U3 (by omega) (by omega)).ag (AG.of P12 (by omega) (by omega))
        rw [n7, ← e0] at t2
        rw [e1, ← e0]
        exact TR.ar t1 t2 (by omega) (by omega) e2 e3 e4 e5 e6
  have hz : inR z13 := ⟨by omega, by omega⟩
  refine rsf_gi (fun z14 h14 => ?_)
  refine rsf_if (fun c3 => rsf_some ⟨hz, q⟩) (fun c3 => ?_)
  refine rsf_wr ⟨by omega, by show _ < ((140000 : Nat) : Int); omega⟩ (fun s16 w16 => ?_)
  exact rsf_some ⟨hz, q.w w16 (Or.inr rfl) (h6 ▸ L.1.1.1 _)⟩
theorem q_use6 {h : Nat} {x x2 : Int} (hd : 7 ≤ d) (hx : 0 ≤ x ∧ x ≤ 40) (h2 : inR x2) (ih : ∀ {s : RS}, LZ s → BU s → rsf (RF d 20 s [x + 1]) (PT h s)) (ia : ∀ {s : RS}, LZ s → BU s → rsf (RF d 24 s [x]) (PR h s)) (B : BU σ0) : ∀ (n : Nat) {σ : RS} {x3 : Int}, PR (h + 1) σ0 σ x3 → (σ.1 5 - σ.1 9 + 2 ≤ (n : Int) ∨ (σ.1 72 ≠ 0 ∧ 1 ≤ n)) → rsf (pf_readUse_6 (RF d) n σ x x2 x3) (fun σ' r => inR r ∧ PR (h + 2) σ0 σ' r) := by
  intro n
  induction n with
  | zero =>
    intro σ x3 p hn
    have l := p.1.1.2.2.1
    have l' := p.1.1.2.2.2.2.1
    exfalso; omega
  | succ n iw =>
    intro σ x3 p hn
    have p' := p
    obtain ⟨L, P, R, T0, T1, T2, T3⟩ := p'
    have B' := B
    obtain ⟨B1, B2⟩ := B'
    have hb := P.b
    have h5 := P.2.2.2.2.1
    have n0 := P.2.2.1
    have i3 : inR x3 := ⟨by omega, by omega⟩
    unfold pf_readUse_6
    refine rsf_gi (fun z1 h1 => ?_)
    refine rsf_if (fun c => q_use42 hd hx h2 ih B p) (fun c => ?_)
    refine rsf_cl (q_beginsAtom (by omega) L.1.1) (fun s3 z4 f4 => ?_)
    obtain ⟨e1, f4⟩ := f4
    subst e1
    refine rsf_if (fun c2 => q_use42 hd hx h2 ih B p) (fun c2 => ?_)
    have T2' := T2 (by omega)
    refine rsf_cl (ia L ⟨by omega, by omega⟩) (fun s6 z7 f7 => ?_)
    obtain ⟨L10, P10, R10, U0, U1, U2, U3⟩ := f7
    have b10 := P10.b
    have c10 := P10.2.2.2.2.1
    have n10 := P10.2.2.1
    have m10 := P10.2.2.2.2.2.1
    have l10 := L10.1.2.2.1
    have l10' := L10.1.2.2.2.2.1
    refine rsf_cl (q_nodeP (by omega) L10 ⟨by decide, by decide⟩ ⟨by decide, by decide⟩ i3 ⟨by omega, by omega⟩ h2 ⟨by omega, by omega⟩) (fun s8 z9 f9 => ?_)
    obtain ⟨L12, P12, fr12, R12, g12⟩ := f9
    have a9 := fr12 9 (by decide)
    have a72 := fr12 72 (by decide)
    have a5 := fr12 5 (by decide)
    refine iw ?_ ?_
    · refine ⟨L12, (P.trans P10).trans P12, R12, fun q => ?_, by omega, fun q => ?_, fun q c => ?_⟩
      · have := T0 q
        have := U0 (by omega)
        omega
      · have := U2 (by omega)
        omega
      · rcases g12 with ⟨c', _⟩ | ⟨_, e0, e1, e2, e3, e4, e5, e6⟩
        · omega
        · have t1 := (T3 (by omega) c).ag (AG.of (P10.trans P12) (by omega) (by omega))
          have t2 := (U3 (by omega) (by omega)).ag (AG.of P12 (by omega) (by omega))
          rw [← e0] at t2
          rw [e1, ← e0]
          exact TR.ap t1 t2 (by omega) e2 e4 e5 e6
    · by_cases c3 : s6.1 72 = 0
      · have := U2 c3
        omega
      · exact Or.inr ⟨by omega, by omega⟩
theorem q_readUse {h : Nat} {x x2 : Int} (hd : 8 ≤ d) (hx : 0 ≤ x ∧ x ≤ 40) (h2 : inR x2) (ih0 : ∀ {s : RS}, LZ s → BU s → rsf (RF (d - 1) 20 s [x + 1]) (PT h s)) (ih : ∀ {s : RS}, LZ s → BU s → rsf (RF d 20 s [x + 1]) (PT h s)) (L : LZ σ) (B : BU σ) : rsf (RF (d + 1) 23 σ [x, x2]) (PR (h + 2) σ) := by
  rw [rq_readUse (by omega)]
  refine rsf_fin ?_
  unfold pf_readUse_0
  rw [Nat.add_sub_cancel]
  have ia : ∀ {s : RS}, LZ s → BU s → rsf (RF d 24 s [x]) (PR h s) := by
    intro s Ls Bs
    obtain ⟨d, rfl⟩ : ∃ e, d = e + 1 := ⟨d - 1, by omega⟩
    exact q_readAtom (by omega) hx ih0 Ls Bs
  refine rsf_cl (ia L B) (fun s1 z2 f2 => ?_)
  have l5 := f2.1.1.2.1
  have l9 := f2.1.1.2.2.2.2.1
  exact q_use6 (by omega) hx h2 ih ia B 200000 (f2.mono (by omega)) (Or.inl (by omega))
end RUS
