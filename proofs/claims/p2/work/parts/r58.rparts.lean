section RPA
variable {σ σ' σ'' : RS} {d : Nat}
/-- what reading leaves: all but the lexer's numbers and the nodes; the old nodes but where they stand -/
def PF (σ σ' : RS) : Prop := (∀ j, lxs j = false → j ≠ 39 → σ'.1 j = σ.1 j) ∧ (∀ k, ndm k = false → σ'.2 k = σ.2 k) ∧ σ.1 39 ≤ σ'.1 39 ∧ (∀ k q, q < (σ.1 39).toNat → k ≠ 34 → k ≠ 35 → σ'.2 k q = σ.2 k q) ∧ σ'.1 5 = σ.1 5 ∧ σ.1 9 ≤ σ'.1 9 ∧ (σ.1 72 ≠ 0 → σ'.1 72 = σ.1 72)
theorem PF.refl : PF σ σ := ⟨fun _ _ _ => rfl, fun _ _ => rfl, Int.le_refl _, fun _ _ _ _ _ => rfl, rfl, Int.le_refl _, fun _ => rfl⟩
theorem PF.trans (h : PF σ σ') (k : PF σ' σ'') : PF σ σ'' := by
  obtain ⟨a1, a2, a3, a4, a5, a6, a7⟩ := h
  obtain ⟨b1, b2, b3, b4, b5, b6, b7⟩ := k
  refine ⟨fun j hj h9 => (b1 j hj h9).trans (a1 j hj h9), fun k hk => (b2 k hk).trans (a2 k hk), by omega, fun k q hq h4 h5 => (b4 k q (by omega) h4 h5).trans (a4 k q hq h4 h5), by omega, by omega, fun q => ?_⟩
  rw [b7 (by rw [a7 q]; exact q), a7 q]
theorem PF.ofFL (h : FL σ σ') (h5 : σ'.1 5 = σ.1 5) (h9 : σ.1 9 ≤ σ'.1 9) (h72 : σ.1 72 ≠ 0 → σ'.1 72 = σ.1 72) : PF σ σ' :=
  ⟨fun j hj _ => h.2 j hj, fun k _ => by rw [h.1], by rw [h.2 39 rfl]; exact Int.le_refl _, fun k q _ _ _ => by rw [h.1], h5, h9, h72⟩
theorem LX.fr (L : LX σ) (I : IR σ') (fr : ∀ j, j ≠ 39 → σ'.1 j = σ.1 j) : LX σ' := by
  obtain ⟨hI, l5, l6, l7, l9, l10, l11, l72, lt1, lt2⟩ := L
  have a5 := fr 5 (by decide)
  have a6 := fr 6 (by decide)
  have a7 := fr 7 (by decide)
  have a9 := fr 9 (by decide)
  have a10 := fr 10 (by decide)
  have a11 := fr 11 (by decide)
  have a72 := fr 72 (by decide)
  exact ⟨I, by omega, by omega, by omega, by omega, by omega, by omega, by omega, by omega, by omega⟩
/-- a node's parts are set -/
theorem q_parts (hd : 1 ≤ d) (I : IR σ) {a1 a2 a3 a4 : Int} (h1 : 0 ≤ a1 ∧ a1 < 140000) (h2 : inR a2) (h3 : inR a3) (h4 : inR a4) : rsf (RF d 21 σ [a1, a2, a3, a4]) (fun σ' r => r = a1 ∧ IR σ' ∧ σ'.1 = σ.1 ∧ (∀ k, k ≠ 31 → k ≠ 32 → k ≠ 33 → σ'.2 k = σ.2 k) ∧ (∀ k q, q ≠ a1.toNat → σ'.2 k q = σ.2 k q) ∧ ((σ.1 15 = 0 ∧ σ' = σ) ∨ (σ.1 15 ≠ 0 ∧ σ'.2 31 a1.toNat = a2 ∧ σ'.2 32 a1.toNat = a3 ∧ σ'.2 33 a1.toNat = a4))) := by
  rw [rq_parts hd]
  refine rsf_fin ?_
  unfold pf_parts_0
  have ha : inR a1 := ⟨by omega, by omega⟩
  refine rsf_gi (fun z1 q1 => ?_)
  refine rsf_if (fun c => ?_) (fun c => ?_)
  · exact rsf_some ⟨ha, rfl, I, rfl, fun _ _ _ _ => rfl, fun _ _ _ => rfl, Or.inl ⟨by omega, rfl⟩⟩
  · refine rsf_wr ⟨by omega, by show _ < ((140000 : Nat) : Int); omega⟩ (fun s3 w3 => ?_)
    refine rsf_wr ⟨by omega, by show _ < ((140000 : Nat) : Int); omega⟩ (fun s4 w4 => ?_)
    refine rsf_wr ⟨by omega, by show _ < ((140000 : Nat) : Int); omega⟩ (fun s5 w5 => ?_)
    refine rsf_some ⟨ha, rfl, ((I.a w3 h2).a w4 h3).a w5 h4, by rw [rs_a_1 w5, rs_a_1 w4, rs_a_1 w3], fun k k1 k2 k3 => by rw [rs_a_k w5 k3, rs_a_k w4 k2, rs_a_k w3 k1], fun k q hq => ?_, Or.inr ⟨by omega, ?_, ?_, ?_⟩⟩
    · have st : ∀ {s t : RS} {m : Nat} {x : Int}, t = rs_a s m a1 x → t.2 k q = s.2 k q := fun {s t m x} w => by
        by_cases c9 : k = m
        · subst c9; exact rs_a_i w hq
        · rw [rs_a_k w c9]
      rw [st w5, st w4, st w3]
    · rw [rs_a_k w5 (by decide), rs_a_k w4 (by decide)]; exact rs_a_e w3
    · rw [rs_a_k w5 (by decide)]; exact rs_a_e w4
    · exact rs_a_e w5
/-- a name's node, and over the name; a fault, where no name stands -/
theorem q_nameNode (hd : 7 ≤ d) (L : LX σ) (hn : 0 ≤ σ.1 39 ∧ σ.1 39 < 139999) : rsf (RF d 19 σ []) (fun σ' r => (LX σ' ∧ (σ'.1 7 = 1 → σ'.1 72 = 0 → σ'.1 10 - σ'.1 9 ≤ 12)) ∧ PF σ σ' ∧ (σ'.1 72 = 0 → σ.1 9 < σ'.1 9 ∧ σ.1 7 = 1 ∧ σ.1 11 = -1) ∧ ((σ.1 15 = 0 ∧ r = 0 ∧ σ'.1 39 = σ.1 39 ∧ σ'.2 = σ.2) ∨ (σ.1 15 ≠ 0 ∧ r = σ.1 39 ∧ σ'.1 39 = σ.1 39 + 1 ∧ σ'.2 30 r.toNat = 0 ∧ σ'.2 31 r.toNat = σ.1 9 ∧ σ'.2 32 r.toNat = σ.1 10 - σ.1 9 ∧ σ'.2 33 r.toNat = 0 ∧ σ'.2 38 r.toNat = r))) := by
  rw [rq_nameNode (by omega)]
  refine rsf_fin ?_
  unfold pf_nameNode_0
  have L' := L
  obtain ⟨hI, l5, l6, l7, l9, l10, l11, l72, lt1, lt2⟩ := L'
  refine rsf_gi (fun z1 h1 => rsf_gi (fun z2 h2 => rsf_gi (fun z3 h3 => rsf_ck ⟨by omega, by omega⟩ (fun z4 h4 => rsf_gi (fun z5 h5 => ?_)))))
  refine rsf_cl (q_node (by omega) hI ⟨by decide, by decide⟩ ⟨by omega, by omega⟩ ⟨by omega, by omega⟩ ⟨by decide, by decide⟩ ⟨by omega, by omega⟩ hn) (fun s6 z7 f7 => ?_)
  obtain ⟨I6, fr6, fa6, fq6, g6⟩ := f7
  have L6 : LX s6 := L.fr I6 fr6
  have hz : inR z7 := by
    rcases g6 with ⟨_, _, e⟩ | ⟨_, e, _⟩
    · exact ⟨by omega, by omega⟩
    · exact ⟨by omega, by omega⟩
  have b7 := fr6 7 (by decide)
  have b9 := fr6 9 (by decide)
  have b11 := fr6 11 (by decide)
  have b72 := fr6 72 (by decide)
  have P6 : PF σ s6 := by
    refine ⟨fun j _ h9 => fr6 j h9, fa6, ?_, fun k q hq _ _ => fq6 k q (by omega), fr6 5 (by decide), by omega, fun _ => b72⟩
    rcases g6 with ⟨_, e, _⟩ | ⟨_, _, e, _⟩
    · rw [e]; exact Int.le_refl _
    · omega
  have fin : ∀ {s : RS}, ND s6 s → ((σ.1 15 = 0 ∧ z7 = 0 ∧ s.1 39 = σ.1 39 ∧ s.2 = σ.2) ∨ (σ.1 15 ≠ 0 ∧ z7 = σ.1 39 ∧ s.1 39 = σ.1 39 + 1 ∧ s.2 30 z7.toNat = 0 ∧ s.2 31 z7.toNat = σ.1 9 ∧ s.2 32 z7.toNat = σ.1 10 - σ.1 9 ∧ s.2 33 z7.toNat = 0 ∧ s.2 38 z7.toNat = z7)) := by
    intro s n
    have n39 := n.2.1.2 39 rfl
    have n2 := n.2.1.1
    rcases g6 with ⟨c, e, e'⟩ | ⟨c, e, e1, e2, e3, e4, e5, e6⟩
    · exact Or.inl ⟨c, e', by rw [n39, e], by rw [n2, e]⟩
    · exact Or.inr ⟨c, e, by rw [n39, e1], by rw [n2, e2], by rw [n2, e3]; omega, by rw [n2, e4]; omega, by rw [n2, e5], by rw [n2, e6]⟩
  refine rsf_cl (q_isName (by omega) I6) (fun s8 z9 f9 => ?_)
  obtain ⟨e8, f9⟩ := f9
  subst e8
  refine rsf_if (fun c => ?_) (fun c => ?_)
  · refine rsf_cl (q_cant (by omega) L6) (fun s4 z5 f5 => ?_)
    obtain ⟨_, L4, e2, fr, h4', h4''⟩ := f5
    have n := ND.cant L4 e2 fr h4' h4''
    exact rsf_some ⟨hz, ⟨L4, n.2.2.2.2.2.2⟩, P6.trans (PF.ofFL n.2.1 n.2.2.1 n.2.2.2.1 n.2.2.2.2.1), fun q => absurd q h4', fin n⟩
  · refine rsf_cl (q_next (by omega) L6.b) (fun s9 z10 f10 => ?_)
    have n := ND.of L6 (by omega) f10
    have n9 := n.2.2.2.2.2.1
    exact rsf_some ⟨hz, ⟨n.1, n.2.2.2.2.2.2⟩, P6.trans (PF.ofFL n.2.1 n.2.2.1 n.2.2.2.1 n.2.2.2.2.1), fun q => ⟨by have := n9 q; omega, by omega, by omega⟩, fin n⟩
end RPA
