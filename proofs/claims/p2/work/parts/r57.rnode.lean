section RNO
variable {σ σ' σ'' : RS} {d : Nat}
theorem rs_a_e {k : Nat} {i x : Int} (w : σ' = rs_a σ k i x) : σ'.2 k i.toNat = x := by subst w; show (if k = k then (if i.toNat = i.toNat then x else _) else _) = x; rw [if_pos rfl, if_pos rfl]
theorem rs_a_k {k j : Nat} {i x : Int} (w : σ' = rs_a σ k i x) (h : j ≠ k) : σ'.2 j = σ.2 j := by
  subst w
  funext q
  show (if j = k then (if q = i.toNat then x else σ.2 j q) else σ.2 j q) = σ.2 j q
  rw [if_neg h]
theorem rs_a_i {k q : Nat} {i x : Int} (w : σ' = rs_a σ k i x) (h : q ≠ i.toNat) : σ'.2 k q = σ.2 k q := by
  subst w
  show (if k = k then (if q = i.toNat then x else σ.2 k q) else σ.2 k q) = σ.2 k q
  rw [if_pos rfl, if_neg h]
theorem rs_a_1 {k : Nat} {i x : Int} (w : σ' = rs_a σ k i x) : σ'.1 = σ.1 := by subst w; rfl
theorem rs_i_2 {k : Nat} {x : Int} (w : σ' = rs_i σ k x) : σ'.2 = σ.2 := by subst w; rfl
theorem IR.a {k : Nat} {i x : Int} (h : IR σ) (w : σ' = rs_a σ k i x) (hx : inR x) : IR σ' := by
  subst w
  refine ⟨h.1, fun j q => ?_⟩
  show inR (if j = k then (if q = i.toNat then x else σ.2 j q) else σ.2 j q)
  split
  · split
    · exact hx
    · exact h.2 j q
  · exact h.2 j q
/-- a new node; none, where nothing is built -/
def ndm (k : Nat) : Bool := k == 30 || k == 31 || k == 32 || k == 33 || k == 34 || k == 35 || k == 38
theorem q_node (hd : 1 ≤ d) (I : IR σ) {a1 a2 a3 a4 a5 : Int} (h1 : inR a1) (h2 : inR a2) (h3 : inR a3) (h4 : inR a4) (h5 : inR a5) (hn : 0 ≤ σ.1 39 ∧ σ.1 39 < 139999) : rsf (RF d 18 σ [a1, a2, a3, a4, a5]) (fun σ' r => IR σ' ∧ (∀ j, j ≠ 39 → σ'.1 j = σ.1 j) ∧ (∀ k, ndm k = false → σ'.2 k = σ.2 k) ∧ (∀ k q, q ≠ (σ.1 39).toNat → σ'.2 k q = σ.2 k q) ∧ ((σ.1 15 = 0 ∧ σ' = σ ∧ r = 0) ∨ (σ.1 15 ≠ 0 ∧ r = σ.1 39 ∧ σ'.1 39 = σ.1 39 + 1 ∧ σ'.2 30 r.toNat = a1 ∧ σ'.2 31 r.toNat = a2 ∧ σ'.2 32 r.toNat = a3 ∧ σ'.2 33 r.toNat = a4 ∧ σ'.2 38 r.toNat = r))) := by
  rw [rq_node hd]
  refine rsf_fin ?_
  unfold pf_node_0
  refine rsf_gi (fun z1 q1 => ?_)
  refine rsf_if (fun c => ?_) (fun c => ?_)
  · refine rsf_gi (fun N hN => rsf_wr ⟨by omega, by show _ < ((140000 : Nat) : Int); omega⟩ (fun s4 w4 => ?_))
    refine rsf_gi (fun z5 q5 => ?_)
    obtain rfl : z5 = N := by rw [← q5, rs_a_1 w4]; exact hN
    refine rsf_wr ⟨by omega, by show _ < ((140000 : Nat) : Int); omega⟩ (fun s6 w6 => ?_)
    refine rsf_gi (fun z7 q7 => ?_)
    obtain rfl : z7 = z5 := by rw [← q7, rs_a_1 w6]; exact q5
    refine rsf_wr ⟨by omega, by show _ < ((140000 : Nat) : Int); omega⟩ (fun s8 w8 => ?_)
    refine rsf_gi (fun z9 q9 => ?_)
    obtain rfl : z9 = z7 := by rw [← q9, rs_a_1 w8]; exact q7
    refine rsf_wr ⟨by omega, by show _ < ((140000 : Nat) : Int); omega⟩ (fun s10 w10 => ?_)
    refine rsf_gi (fun z11 q11 => ?_)
    obtain rfl : z11 = z9 := by rw [← q11, rs_a_1 w10]; exact q9
    refine rsf_wr ⟨by omega, by show _ < ((140000 : Nat) : Int); omega⟩ (fun s12 w12 => ?_)
    refine rsf_gi (fun z13 q13 => ?_)
    obtain rfl : z13 = z11 := by rw [← q13, rs_a_1 w12]; exact q11
    refine rsf_wr ⟨by omega, by show _ < ((140000 : Nat) : Int); omega⟩ (fun s14 w14 => ?_)
    refine rsf_gi (fun z15 q15 => ?_)
    obtain rfl : z15 = z13 := by rw [← q15, rs_a_1 w14]; exact q13
    refine rsf_gi (fun z16 q16 => ?_)
    obtain rfl : z16 = z15 := by rw [← q16]; exact q15
    refine rsf_wr ⟨by omega, by show _ < ((140000 : Nat) : Int); omega⟩ (fun s17 w17 => ?_)
    refine rsf_gi (fun z18 q18 => ?_)
    obtain rfl : z18 = z16 := by rw [← q18, rs_a_1 w17]; exact q16
    refine rsf_ck ⟨by omega, by omega⟩ (fun z19 q19 => rsf_pi (fun s20 w20 => rsf_gi (fun z21 q21 => ?_)))
    have e21 : z21 = z18 + 1 := by rw [← q21, rs_i_e w20]; exact q19
    refine rsf_ck ⟨by omega, by omega⟩ (fun z22 q22 => ?_)
    obtain rfl : z22 = z18 := by omega
    have I20 : IR s20 := ((((((((I.a w4 h1).a w6 h2).a w8 h3).a w10 h4).a w12 h5).a w14 h5).a w17 ⟨by omega, by omega⟩)).p w20 ⟨by omega, by omega⟩
    have hz : s20.2 = s17.2 := rs_i_2 w20
    have h1' : s17.1 = σ.1 := by rw [rs_a_1 w17, rs_a_1 w14, rs_a_1 w12, rs_a_1 w10, rs_a_1 w8, rs_a_1 w6, rs_a_1 w4]
    refine rsf_some ⟨⟨by omega, by omega⟩, I20, fun j hj => ?_, fun k hk => ?_, fun k q hq => ?_, Or.inr ⟨by omega, hN.symm, ?_, ?_, ?_, ?_, ?_, ?_⟩⟩
    · rw [rs_i_n w20 hj, h1']
    · have hk' : k ≠ 30 ∧ k ≠ 31 ∧ k ≠ 32 ∧ k ≠ 33 ∧ k ≠ 34 ∧ k ≠ 35 ∧ k ≠ 38 := by
        refine ⟨?_, ?_, ?_, ?_, ?_, ?_, ?_⟩ <;> (intro e; subst e; exact absurd hk (by decide))
      rw [hz, rs_a_k w17 hk'.2.2.2.2.2.2, rs_a_k w14 hk'.2.2.2.2.2.1, rs_a_k w12 hk'.2.2.2.2.1, rs_a_k w10 hk'.2.2.2.1, rs_a_k w8 hk'.2.2.1, rs_a_k w6 hk'.2.1, rs_a_k w4 hk'.1]
    · rw [hN] at hq
      have st : ∀ {s t : RS} {m : Nat} {x : Int}, t = rs_a s m z22 x → t.2 k q = s.2 k q := fun {s t m x} w => by
        by_cases c9 : k = m
        · subst c9; exact rs_a_i w hq
        · rw [rs_a_k w c9]
      rw [hz, st w17, st w14, st w12, st w10, st w8, st w6, st w4]
    · rw [rs_i_e w20, hN]; omega
    · rw [hz, rs_a_k w17 (by decide), rs_a_k w14 (by decide), rs_a_k w12 (by decide), rs_a_k w10 (by decide), rs_a_k w8 (by decide), rs_a_k w6 (by decide)]; exact rs_a_e w4
    · rw [hz, rs_a_k w17 (by decide), rs_a_k w14 (by decide), rs_a_k w12 (by decide), rs_a_k w10 (by decide), rs_a_k w8 (by decide)]; exact rs_a_e w6
    · rw [hz, rs_a_k w17 (by decide), rs_a_k w14 (by decide), rs_a_k w12 (by decide), rs_a_k w10 (by decide)]; exact rs_a_e w8
    · rw [hz, rs_a_k w17 (by decide), rs_a_k w14 (by decide), rs_a_k w12 (by decide)]; exact rs_a_e w10
    · rw [hz]; exact rs_a_e w17
  · exact rsf_some ⟨⟨by decide, by decide⟩, I, fun _ _ => rfl, fun _ _ => rfl, fun _ _ _ => rfl, Or.inl ⟨by omega, rfl, rfl⟩⟩
end RNO
