section RLX
abbrev RO : Type := Option (RS × Int)
def rsf (o : RO) (Q : RS → Int → Prop) : Prop := ∃ σ' r, o = some (σ', r) ∧ Q σ' r
variable {Q Q' : RS → Int → Prop} {σ σ' σ'' : RS} {d : Nat}
theorem rsf_mono {o : RO} (h : rsf o Q) (k : ∀ σ' r, Q σ' r → Q' σ' r) : rsf o Q' := by
  obtain ⟨σ', r, h1, h2⟩ := h
  exact ⟨σ', r, h1, k _ _ h2⟩
theorem rsf_some {r : Int} (h : Q σ r) : rsf (some (σ, r)) Q := ⟨_, _, rfl, h⟩
theorem rsf_fin {o : RO} (h : rsf o (fun σ' r => inR r ∧ Q σ' r)) : rsf (rf_fin o) Q := by
  obtain ⟨σ', r, h1, h2, h3⟩ := h
  refine ⟨σ', r, ?_, h3⟩
  rw [h1]
  exact if_pos h2
theorem rsf_gi {k : Nat} {f : Int → RO} (h : ∀ z, σ.1 k = z → rsf (f z) Q) : rsf (rf_gi σ k f) Q := h _ rfl
theorem rsf_pi {k : Nat} {x : Int} {f : RS → RO} (h : ∀ σ1, σ1 = rs_i σ k x → rsf (f σ1) Q) : rsf (rf_pi σ k x f) Q := h _ rfl
theorem rsf_rd {k : Nat} {i : Int} {f : Int → RO} (hi : 0 ≤ i ∧ i < (rf_len k : Int)) (h : ∀ z, σ.2 k i.toNat = z → rsf (f z) Q) : rsf (rf_rd σ k i f) Q := by
  unfold rf_rd; rw [if_pos hi]; exact h _ rfl
theorem rsf_wr {k : Nat} {i x : Int} {f : RS → RO} (hi : 0 ≤ i ∧ i < (rf_len k : Int)) (h : ∀ σ1, σ1 = rs_a σ k i x → rsf (f σ1) Q) : rsf (rf_wr σ k i x f) Q := by
  unfold rf_wr; rw [if_pos hi]; exact h _ rfl
theorem rsf_ck {x : Int} {f : Int → RO} (hx : -2147483648 ≤ x ∧ x ≤ 2147483647) (h : ∀ z, z = x → rsf (f z) Q) : rsf (rf_ck x f) Q := by
  unfold rf_ck; rw [if_pos hx]; exact h _ rfl
theorem rsf_nm {x : Int} {f : Int → RO} (h : ∀ z, z = x → rsf (f z) Q) : rsf (rf_nm x f) Q := h _ rfl
theorem rsf_bo {x : Int} {f : RO} (hx : x = 0 ∨ x = 1) (h : rsf f Q) : rsf (rf_bo x f) Q := by
  unfold rf_bo; rw [if_pos hx]; exact h
theorem rsf_ws {i : Int} {f : Int → RO} (hi : 0 ≤ i ∧ i < 9) (h : ∀ z, z = i → rsf (f z) Q) : rsf (rf_ws i f) Q := by
  unfold rf_ws; rw [if_pos hi]; exact h _ rfl
theorem rsf_sL {j : Int} {f : Int → RO} (hi : 0 ≤ j ∧ j < 11) (h : ∀ z, z = rf_sn j.toNat → rsf (f z) Q) : rsf (rf_sL j f) Q := by
  unfold rf_sL; rw [if_pos hi]; exact h _ rfl
theorem rsf_sC {j k : Int} {f : Int → RO} (hi : (0 ≤ j ∧ j < 11) ∧ 0 ≤ k ∧ k < rf_sn j.toNat) (h : ∀ z, z = rf_sc j.toNat k.toNat → rsf (f z) Q) : rsf (rf_sC j k f) Q := by
  unfold rf_sC; rw [if_pos hi]; exact h _ rfl
theorem rsf_if {c : Prop} [Decidable c] {a b : RO} (h1 : c → rsf a Q) (h2 : ¬ c → rsf b Q) : rsf (if c then a else b) Q := by
  by_cases h : c
  · rw [if_pos h]; exact h1 h
  · rw [if_neg h]; exact h2 h
theorem rsf_cl {o : RO} {f : RS → Int → RO} {P : RS → Int → Prop} (h : rsf o P) (h0 : ∀ σ' r, P σ' r → rsf (f σ' r) Q) : rsf (rf_cl o f) Q := by
  obtain ⟨σ', r, e, hp⟩ := h
  subst e
  exact h0 σ' r hp
/-- the lexer's numbers -/
def lxs (j : Nat) : Bool := j == 6 || j == 7 || j == 8 || j == 9 || j == 10 || j == 11 || j == 72 || j == 73
/-- all but the lexer's numbers stay -/
def FL (σ σ' : RS) : Prop := σ'.2 = σ.2 ∧ ∀ j, lxs j = false → σ'.1 j = σ.1 j
theorem FL.refl : FL σ σ := ⟨rfl, fun _ _ => rfl⟩
theorem FL.trans (h : FL σ σ') (k : FL σ' σ'') : FL σ σ'' := ⟨k.1.trans h.1, fun j hj => (k.2 j hj).trans (h.2 j hj)⟩
theorem FLp {k : Nat} {x : Int} (w : σ' = rs_i σ k x) (hk : lxs k = true) : FL σ σ' := by
  subst w
  refine ⟨rfl, fun j hj => ?_⟩
  show (if j = k then x else σ.1 j) = σ.1 j
  rw [if_neg (fun e => by rw [e, hk] at hj; cases hj)]
theorem rs_i_e {k : Nat} {x : Int} (w : σ' = rs_i σ k x) : σ'.1 k = x := by subst w; exact if_pos rfl
theorem rs_i_n {k j : Nat} {x : Int} (w : σ' = rs_i σ k x) (h : j ≠ k) : σ'.1 j = σ.1 j := by subst w; exact if_neg h
def IR (σ : RS) : Prop := (∀ j, inR (σ.1 j)) ∧ ∀ j q, inR (σ.2 j q)
theorem IR.p {k : Nat} {x : Int} (h : IR σ) (w : σ' = rs_i σ k x) (hx : inR x) : IR σ' := by
  subst w
  refine ⟨fun j => ?_, h.2⟩
  show inR (if j = k then x else σ.1 j)
  split
  · exact hx
  · exact h.1 j
def LX (σ : RS) : Prop := IR σ ∧ (0 ≤ σ.1 5 ∧ σ.1 5 ≤ 4000) ∧ (0 ≤ σ.1 6 ∧ σ.1 6 ≤ σ.1 5) ∧ (0 ≤ σ.1 7 ∧ σ.1 7 ≤ 3) ∧ (0 ≤ σ.1 9 ∧ σ.1 9 ≤ σ.1 6) ∧ (0 ≤ σ.1 10 ∧ σ.1 10 ≤ 4000) ∧ (-1 ≤ σ.1 11 ∧ σ.1 11 ≤ 8) ∧ (0 ≤ σ.1 72 ∧ σ.1 72 ≤ 14) ∧ (σ.1 7 = 1 → σ.1 10 = σ.1 6 ∧ σ.1 9 < σ.1 6) ∧ (σ.1 7 = 2 → σ.1 9 < σ.1 6)
/-- .. between its steps: where it stands -/
def LA (σ : RS) : Prop := IR σ ∧ (0 ≤ σ.1 5 ∧ σ.1 5 ≤ 4000) ∧ (0 ≤ σ.1 6 ∧ σ.1 6 ≤ σ.1 5) ∧ (0 ≤ σ.1 72 ∧ σ.1 72 ≤ 14)
theorem RF_s {d k : Nat} {σ : RS} {as : List Int} : RF (d + 1) k σ as = rf_fin (rf_body (RF d) d k σ as) := rfl
theorem rb_thrown {rec : Nat → RS → List Int → Option (RS × Int)} {σ : RS} {d : Nat} : rf_body rec d 1 σ [] = pf_thrown_0 rec σ := rfl
theorem rq_thrown {σ : RS} {d : Nat} (hd : 1 ≤ d) : RF d 1 σ [] = rf_fin (pf_thrown_0 (RF (d - 1)) σ) := by
  obtain ⟨d, rfl⟩ : ∃ d0, d = d0 + 1 := ⟨d - 1, by omega⟩
  rw [Nat.add_sub_cancel, RF_s]
  exact congrArg rf_fin (rb_thrown)
theorem rb_fail {rec : Nat → RS → List Int → Option (RS × Int)} {σ : RS} {d : Nat} {a0 : Int} : rf_body rec d 2 σ [a0] = pf_fail_0 rec σ a0 := rfl
theorem rq_fail {σ : RS} {d : Nat} {a0 : Int} (hd : 1 ≤ d) : RF d 2 σ [a0] = rf_fin (pf_fail_0 (RF (d - 1)) σ a0) := by
  obtain ⟨d, rfl⟩ : ∃ d0, d = d0 + 1 := ⟨d - 1, by omega⟩
  rw [Nat.add_sub_cancel, RF_s]
  exact congrArg rf_fin (rb_fail)
theorem rb_wrong {rec : Nat → RS → List Int → Option (RS × Int)} {σ : RS} {d : Nat} {a0 a1 : Int} : rf_body rec d 3 σ [a0, a1] = pf_wrong_0 rec σ a0 a1 := rfl
theorem rq_wrong {σ : RS} {d : Nat} {a0 a1 : Int} (hd : 1 ≤ d) : RF d 3 σ [a0, a1] = rf_fin (pf_wrong_0 (RF (d - 1)) σ a0 a1) := by
  obtain ⟨d, rfl⟩ : ∃ d0, d = d0 + 1 := ⟨d - 1, by omega⟩
  rw [Nat.add_sub_cancel, RF_s]
  exact congrArg rf_fin (rb_wrong)
theorem rq_newSort {σ : RS} {d : Nat} {a0 : Int} (hd : 4 ≤ d) : RF d 4 σ [a0] = rf_fin (pf_newSort_0 (RF (d - 1)) a0 σ) := by
  obtain ⟨d, rfl⟩ : ∃ d0, d = d0 + 1 := ⟨d - 1, by omega⟩
  rw [Nat.add_sub_cancel, RF_s]
  exact congrArg rf_fin (if_pos (by omega))
theorem rq_table {σ : RS} {d : Nat} {a0 : Int} (hd : 4 ≤ d) : RF d 5 σ [a0] = rf_fin (pf_table_0 (RF (d - 1)) σ a0) := by
  obtain ⟨d, rfl⟩ : ∃ d0, d = d0 + 1 := ⟨d - 1, by omega⟩
  rw [Nat.add_sub_cancel, RF_s]
  exact congrArg rf_fin (if_pos (by omega))
theorem rb_feed {rec : Nat → RS → List Int → Option (RS × Int)} {σ : RS} {d : Nat} {a0 a1 a2 a3 a4 : Int} : rf_body rec d 6 σ [a0, a1, a2, a3, a4] = pf_feed_0 rec σ a0 a1 a2 a3 a4 := rfl
theorem rq_feed {σ : RS} {d : Nat} {a0 a1 a2 a3 a4 : Int} (hd : 1 ≤ d) : RF d 6 σ [a0, a1, a2, a3, a4] = rf_fin (pf_feed_0 (RF (d - 1)) σ a0 a1 a2 a3 a4) := by
  obtain ⟨d, rfl⟩ : ∃ d0, d = d0 + 1 := ⟨d - 1, by omega⟩
  rw [Nat.add_sub_cancel, RF_s]
  exact congrArg rf_fin (rb_feed)
theorem rb_byteAt {rec : Nat → RS → List Int → Option (RS × Int)} {σ : RS} {d : Nat} {a0 : Int} : rf_body rec d 7 σ [a0] = pf_byteAt_0 rec σ a0 := rfl
theorem rq_byteAt {σ : RS} {d : Nat} {a0 : Int} (hd : 1 ≤ d) : RF d 7 σ [a0] = rf_fin (pf_byteAt_0 (RF (d - 1)) σ a0) := by
  obtain ⟨d, rfl⟩ : ∃ d0, d = d0 + 1 := ⟨d - 1, by omega⟩
  rw [Nat.add_sub_cancel, RF_s]
  exact congrArg rf_fin (rb_byteAt)
theorem rb_isLetter {rec : Nat → RS → List Int → Option (RS × Int)} {σ : RS} {d : Nat} {a0 : Int} : rf_body rec d 8 σ [a0] = pf_isLetter_0 rec σ a0 := rfl
theorem rq_isLetter {σ : RS} {d : Nat} {a0 : Int} (hd : 1 ≤ d) : RF d 8 σ [a0] = rf_fin (pf_isLetter_0 (RF (d - 1)) σ a0) := by
  obtain ⟨d, rfl⟩ : ∃ d0, d = d0 + 1 := ⟨d - 1, by omega⟩
  rw [Nat.add_sub_cancel, RF_s]
  exact congrArg rf_fin (rb_isLetter)
theorem rb_goesOn {rec : Nat → RS → List Int → Option (RS × Int)} {σ : RS} {d : Nat} {a0 : Int} : rf_body rec d 9 σ [a0] = pf_goesOn_0 rec σ a0 := rfl
theorem rq_goesOn {σ : RS} {d : Nat} {a0 : Int} (hd : 1 ≤ d) : RF d 9 σ [a0] = rf_fin (pf_goesOn_0 (RF (d - 1)) σ a0) := by
  obtain ⟨d, rfl⟩ : ∃ d0, d = d0 + 1 := ⟨d - 1, by omega⟩
  rw [Nat.add_sub_cancel, RF_s]
  exact congrArg rf_fin (rb_goesOn)
theorem rb_next {rec : Nat → RS → List Int → Option (RS × Int)} {σ : RS} {d : Nat} : rf_body rec d 10 σ [] = pf_next_0 rec σ := rfl
theorem rq_next {σ : RS} {d : Nat} (hd : 1 ≤ d) : RF d 10 σ [] = rf_fin (pf_next_0 (RF (d - 1)) σ) := by
  obtain ⟨d, rfl⟩ : ∃ d0, d = d0 + 1 := ⟨d - 1, by omega⟩
  rw [Nat.add_sub_cancel, RF_s]
  exact congrArg rf_fin (rb_next)
theorem rq_isWord {σ : RS} {d : Nat} {a0 : Int} (hd : 4 ≤ d) : RF d 11 σ [a0] = rf_fin (pf_isWord_0 (RF (d - 1)) σ a0) := by
  obtain ⟨d, rfl⟩ : ∃ d0, d = d0 + 1 := ⟨d - 1, by omega⟩
  rw [Nat.add_sub_cancel, RF_s]
  exact congrArg rf_fin (if_pos (by omega))
theorem rb_readSign {rec : Nat → RS → List Int → Option (RS × Int)} {σ : RS} {d : Nat} {a0 : Int} : rf_body rec d 12 σ [a0] = pf_readSign_0 rec σ a0 := rfl
theorem rq_readSign {σ : RS} {d : Nat} {a0 : Int} (hd : 1 ≤ d) : RF d 12 σ [a0] = rf_fin (pf_readSign_0 (RF (d - 1)) σ a0) := by
  obtain ⟨d, rfl⟩ : ∃ d0, d = d0 + 1 := ⟨d - 1, by omega⟩
  rw [Nat.add_sub_cancel, RF_s]
  exact congrArg rf_fin (rb_readSign)
theorem rb_isSign {rec : Nat → RS → List Int → Option (RS × Int)} {σ : RS} {d : Nat} {a0 : Int} : rf_body rec d 13 σ [a0] = pf_isSign_0 rec σ a0 := rfl
theorem rq_isSign {σ : RS} {d : Nat} {a0 : Int} (hd : 1 ≤ d) : RF d 13 σ [a0] = rf_fin (pf_isSign_0 (RF (d - 1)) σ a0) := by
  obtain ⟨d, rfl⟩ : ∃ d0, d = d0 + 1 := ⟨d - 1, by omega⟩
  rw [Nat.add_sub_cancel, RF_s]
  exact congrArg rf_fin (rb_isSign)
theorem rb_isName {rec : Nat → RS → List Int → Option (RS × Int)} {σ : RS} {d : Nat} : rf_body rec d 14 σ [] = pf_isName_0 rec σ := rfl
theorem rq_isName {σ : RS} {d : Nat} (hd : 1 ≤ d) : RF d 14 σ [] = rf_fin (pf_isName_0 (RF (d - 1)) σ) := by
  obtain ⟨d, rfl⟩ : ∃ d0, d = d0 + 1 := ⟨d - 1, by omega⟩
  rw [Nat.add_sub_cancel, RF_s]
  exact congrArg rf_fin (rb_isName)
theorem rb_cant {rec : Nat → RS → List Int → Option (RS × Int)} {σ : RS} {d : Nat} : rf_body rec d 15 σ [] = pf_cant_0 rec σ := rfl
theorem rq_cant {σ : RS} {d : Nat} (hd : 1 ≤ d) : RF d 15 σ [] = rf_fin (pf_cant_0 (RF (d - 1)) σ) := by
  obtain ⟨d, rfl⟩ : ∃ d0, d = d0 + 1 := ⟨d - 1, by omega⟩
  rw [Nat.add_sub_cancel, RF_s]
  exact congrArg rf_fin (rb_cant)
theorem rb_need {rec : Nat → RS → List Int → Option (RS × Int)} {σ : RS} {d : Nat} {a0 : Int} : rf_body rec d 16 σ [a0] = pf_need_0 rec σ a0 := rfl
theorem rq_need {σ : RS} {d : Nat} {a0 : Int} (hd : 1 ≤ d) : RF d 16 σ [a0] = rf_fin (pf_need_0 (RF (d - 1)) σ a0) := by
  obtain ⟨d, rfl⟩ : ∃ d0, d = d0 + 1 := ⟨d - 1, by omega⟩
  rw [Nat.add_sub_cancel, RF_s]
  exact congrArg rf_fin (rb_need)
theorem rb_needWord {rec : Nat → RS → List Int → Option (RS × Int)} {σ : RS} {d : Nat} {a0 : Int} : rf_body rec d 17 σ [a0] = pf_needWord_0 rec σ a0 := rfl
theorem rq_needWord {σ : RS} {d : Nat} {a0 : Int} (hd : 1 ≤ d) : RF d 17 σ [a0] = rf_fin (pf_needWord_0 (RF (d - 1)) σ a0) := by
  obtain ⟨d, rfl⟩ : ∃ d0, d = d0 + 1 := ⟨d - 1, by omega⟩
  rw [Nat.add_sub_cancel, RF_s]
  exact congrArg rf_fin (rb_needWord)
theorem rb_node {rec : Nat → RS → List Int → Option (RS × Int)} {σ : RS} {d : Nat} {a0 a1 a2 a3 a4 : Int} : rf_body rec d 18 σ [a0, a1, a2, a3, a4] = pf_node_0 rec σ a0 a1 a2 a3 a4 := rfl
theorem rq_node {σ : RS} {d : Nat} {a0 a1 a2 a3 a4 : Int} (hd : 1 ≤ d) : RF d 18 σ [a0, a1, a2, a3, a4] = rf_fin (pf_node_0 (RF (d - 1)) σ a0 a1 a2 a3 a4) := by
  obtain ⟨d, rfl⟩ : ∃ d0, d = d0 + 1 := ⟨d - 1, by omega⟩
  rw [Nat.add_sub_cancel, RF_s]
  exact congrArg rf_fin (rb_node)
theorem rb_nameNode {rec : Nat → RS → List Int → Option (RS × Int)} {σ : RS} {d : Nat} : rf_body rec d 19 σ [] = pf_nameNode_0 rec σ := rfl
theorem rq_nameNode {σ : RS} {d : Nat} (hd : 1 ≤ d) : RF d 19 σ [] = rf_fin (pf_nameNode_0 (RF (d - 1)) σ) := by
  obtain ⟨d, rfl⟩ : ∃ d0, d = d0 + 1 := ⟨d - 1, by omega⟩
  rw [Nat.add_sub_cancel, RF_s]
  exact congrArg rf_fin (rb_nameNode)
theorem rb_readTerm {rec : Nat → RS → List Int → Option (RS × Int)} {σ : RS} {d : Nat} {a0 : Int} : rf_body rec d 20 σ [a0] = pf_readTerm_0 rec σ a0 := rfl
theorem rq_readTerm {σ : RS} {d : Nat} {a0 : Int} (hd : 1 ≤ d) : RF d 20 σ [a0] = rf_fin (pf_readTerm_0 (RF (d - 1)) σ a0) := by
  obtain ⟨d, rfl⟩ : ∃ d0, d = d0 + 1 := ⟨d - 1, by omega⟩
  rw [Nat.add_sub_cancel, RF_s]
  exact congrArg rf_fin (rb_readTerm)
theorem rb_parts {rec : Nat → RS → List Int → Option (RS × Int)} {σ : RS} {d : Nat} {a0 a1 a2 a3 : Int} : rf_body rec d 21 σ [a0, a1, a2, a3] = pf_parts_0 rec σ a0 a1 a2 a3 := rfl
theorem rq_parts {σ : RS} {d : Nat} {a0 a1 a2 a3 : Int} (hd : 1 ≤ d) : RF d 21 σ [a0, a1, a2, a3] = rf_fin (pf_parts_0 (RF (d - 1)) σ a0 a1 a2 a3) := by
  obtain ⟨d, rfl⟩ : ∃ d0, d = d0 + 1 := ⟨d - 1, by omega⟩
  rw [Nat.add_sub_cancel, RF_s]
  exact congrArg rf_fin (rb_parts)
theorem rb_beginsAtom {rec : Nat → RS → List Int → Option (RS × Int)} {σ : RS} {d : Nat} : rf_body rec d 22 σ [] = pf_beginsAtom_0 rec σ := rfl
theorem rq_beginsAtom {σ : RS} {d : Nat} (hd : 1 ≤ d) : RF d 22 σ [] = rf_fin (pf_beginsAtom_0 (RF (d - 1)) σ) := by
  obtain ⟨d, rfl⟩ : ∃ d0, d = d0 + 1 := ⟨d - 1, by omega⟩
  rw [Nat.add_sub_cancel, RF_s]
  exact congrArg rf_fin (rb_beginsAtom)
theorem rb_readUse {rec : Nat → RS → List Int → Option (RS × Int)} {σ : RS} {d : Nat} {a0 a1 : Int} : rf_body rec d 23 σ [a0, a1] = pf_readUse_0 rec σ a0 a1 := rfl
theorem rq_readUse {σ : RS} {d : Nat} {a0 a1 : Int} (hd : 1 ≤ d) : RF d 23 σ [a0, a1] = rf_fin (pf_readUse_0 (RF (d - 1)) σ a0 a1) := by
  obtain ⟨d, rfl⟩ : ∃ d0, d = d0 + 1 := ⟨d - 1, by omega⟩
  rw [Nat.add_sub_cancel, RF_s]
  exact congrArg rf_fin (rb_readUse)
theorem rb_readAtom {rec : Nat → RS → List Int → Option (RS × Int)} {σ : RS} {d : Nat} {a0 : Int} : rf_body rec d 24 σ [a0] = pf_readAtom_0 rec σ a0 := rfl
theorem rq_readAtom {σ : RS} {d : Nat} {a0 : Int} (hd : 1 ≤ d) : RF d 24 σ [a0] = rf_fin (pf_readAtom_0 (RF (d - 1)) σ a0) := by
  obtain ⟨d, rfl⟩ : ∃ d0, d = d0 + 1 := ⟨d - 1, by omega⟩
  rw [Nat.add_sub_cancel, RF_s]
  exact congrArg rf_fin (rb_readAtom)
theorem rb_readStatement {rec : Nat → RS → List Int → Option (RS × Int)} {σ : RS} {d : Nat} : rf_body rec d 25 σ [] = pf_readStatement_0 rec σ := rfl
theorem rq_readStatement {σ : RS} {d : Nat} (hd : 1 ≤ d) : RF d 25 σ [] = rf_fin (pf_readStatement_0 (RF (d - 1)) σ) := by
  obtain ⟨d, rfl⟩ : ∃ d0, d = d0 + 1 := ⟨d - 1, by omega⟩
  rw [Nat.add_sub_cancel, RF_s]
  exact congrArg rf_fin (rb_readStatement)
theorem rb_readTold {rec : Nat → RS → List Int → Option (RS × Int)} {σ : RS} {d : Nat} : rf_body rec d 26 σ [] = pf_readTold_0 rec σ := rfl
theorem rq_readTold {σ : RS} {d : Nat} (hd : 1 ≤ d) : RF d 26 σ [] = rf_fin (pf_readTold_0 (RF (d - 1)) σ) := by
  obtain ⟨d, rfl⟩ : ∃ d0, d = d0 + 1 := ⟨d - 1, by omega⟩
  rw [Nat.add_sub_cancel, RF_s]
  exact congrArg rf_fin (rb_readTold)
theorem rb_readAll {rec : Nat → RS → List Int → Option (RS × Int)} {σ : RS} {d : Nat} : rf_body rec d 27 σ [] = pf_readAll_0 rec σ := rfl
theorem rq_readAll {σ : RS} {d : Nat} (hd : 1 ≤ d) : RF d 27 σ [] = rf_fin (pf_readAll_0 (RF (d - 1)) σ) := by
  obtain ⟨d, rfl⟩ : ∃ d0, d = d0 + 1 := ⟨d - 1, by omega⟩
  rw [Nat.add_sub_cancel, RF_s]
  exact congrArg rf_fin (rb_readAll)
theorem rb_may {rec : Nat → RS → List Int → Option (RS × Int)} {σ : RS} {d : Nat} : rf_body rec d 28 σ [] = pf_may_0 rec σ := rfl
theorem rq_may {σ : RS} {d : Nat} (hd : 1 ≤ d) : RF d 28 σ [] = rf_fin (pf_may_0 (RF (d - 1)) σ) := by
  obtain ⟨d, rfl⟩ : ∃ d0, d = d0 + 1 := ⟨d - 1, by omega⟩
  rw [Nat.add_sub_cancel, RF_s]
  exact congrArg rf_fin (rb_may)
theorem rb_look {rec : Nat → RS → List Int → Option (RS × Int)} {σ : RS} {d : Nat} {a0 : Int} : rf_body rec d 29 σ [a0] = pf_look_0 rec σ a0 := rfl
theorem rq_look {σ : RS} {d : Nat} {a0 : Int} (hd : 1 ≤ d) : RF d 29 σ [a0] = rf_fin (pf_look_0 (RF (d - 1)) σ a0) := by
  obtain ⟨d, rfl⟩ : ∃ d0, d = d0 + 1 := ⟨d - 1, by omega⟩
  rw [Nat.add_sub_cancel, RF_s]
  exact congrArg rf_fin (rb_look)
theorem rb_cell {rec : Nat → RS → List Int → Option (RS × Int)} {σ : RS} {d : Nat} {a0 a1 a2 a3 : Int} : rf_body rec d 30 σ [a0, a1, a2, a3] = pf_cell_0 rec σ a0 a1 a2 a3 := rfl
theorem rq_cell {σ : RS} {d : Nat} {a0 a1 a2 a3 : Int} (hd : 1 ≤ d) : RF d 30 σ [a0, a1, a2, a3] = rf_fin (pf_cell_0 (RF (d - 1)) σ a0 a1 a2 a3) := by
  obtain ⟨d, rfl⟩ : ∃ d0, d = d0 + 1 := ⟨d - 1, by omega⟩
  rw [Nat.add_sub_cancel, RF_s]
  exact congrArg rf_fin (rb_cell)
theorem rb_find {rec : Nat → RS → List Int → Option (RS × Int)} {σ : RS} {d : Nat} {a0 a1 : Int} : rf_body rec d 31 σ [a0, a1] = pf_find_0 rec σ a0 a1 := rfl
theorem rq_find {σ : RS} {d : Nat} {a0 a1 : Int} (hd : 1 ≤ d) : RF d 31 σ [a0, a1] = rf_fin (pf_find_0 (RF (d - 1)) σ a0 a1) := by
  obtain ⟨d, rfl⟩ : ∃ d0, d = d0 + 1 := ⟨d - 1, by omega⟩
  rw [Nat.add_sub_cancel, RF_s]
  exact congrArg rf_fin (rb_find)
theorem rb_head {rec : Nat → RS → List Int → Option (RS × Int)} {σ : RS} {d : Nat} {a0 a1 : Int} : rf_body rec d 32 σ [a0, a1] = pf_head_0 rec σ a0 a1 := rfl
theorem rq_head {σ : RS} {d : Nat} {a0 a1 : Int} (hd : 1 ≤ d) : RF d 32 σ [a0, a1] = rf_fin (pf_head_0 (RF (d - 1)) σ a0 a1) := by
  obtain ⟨d, rfl⟩ : ∃ d0, d = d0 + 1 := ⟨d - 1, by omega⟩
  rw [Nat.add_sub_cancel, RF_s]
  exact congrArg rf_fin (rb_head)
theorem rb_kindOf {rec : Nat → RS → List Int → Option (RS × Int)} {σ : RS} {d : Nat} {a0 : Int} : rf_body rec d 33 σ [a0] = pf_kindOf_0 rec σ a0 := rfl
theorem rq_kindOf {σ : RS} {d : Nat} {a0 : Int} (hd : 1 ≤ d) : RF d 33 σ [a0] = rf_fin (pf_kindOf_0 (RF (d - 1)) σ a0) := by
  obtain ⟨d, rfl⟩ : ∃ d0, d = d0 + 1 := ⟨d - 1, by omega⟩
  rw [Nat.add_sub_cancel, RF_s]
  exact congrArg rf_fin (rb_kindOf)
theorem rb_inside {rec : Nat → RS → List Int → Option (RS × Int)} {σ : RS} {d : Nat} {a0 a1 a2 : Int} : rf_body rec d 34 σ [a0, a1, a2] = pf_inside_0 rec σ a0 a1 a2 := rfl
theorem rq_inside {σ : RS} {d : Nat} {a0 a1 a2 : Int} (hd : 1 ≤ d) : RF d 34 σ [a0, a1, a2] = rf_fin (pf_inside_0 (RF (d - 1)) σ a0 a1 a2) := by
  obtain ⟨d, rfl⟩ : ∃ d0, d = d0 + 1 := ⟨d - 1, by omega⟩
  rw [Nat.add_sub_cancel, RF_s]
  exact congrArg rf_fin (rb_inside)
theorem rb_compare {rec : Nat → RS → List Int → Option (RS × Int)} {σ : RS} {d : Nat} {a0 a1 a2 a3 a4 : Int} : rf_body rec d 35 σ [a0, a1, a2, a3, a4] = pf_compare_0 rec σ a0 a1 a2 a3 a4 := rfl
theorem rq_compare {σ : RS} {d : Nat} {a0 a1 a2 a3 a4 : Int} (hd : 1 ≤ d) : RF d 35 σ [a0, a1, a2, a3, a4] = rf_fin (pf_compare_0 (RF (d - 1)) σ a0 a1 a2 a3 a4) := by
  obtain ⟨d, rfl⟩ : ∃ d0, d = d0 + 1 := ⟨d - 1, by omega⟩
  rw [Nat.add_sub_cancel, RF_s]
  exact congrArg rf_fin (rb_compare)
theorem rb_alike {rec : Nat → RS → List Int → Option (RS × Int)} {σ : RS} {d : Nat} {a0 a1 a2 a3 a4 a5 a6 : Int} : rf_body rec d 36 σ [a0, a1, a2, a3, a4, a5, a6] = pf_alike_0 rec σ a0 a1 a2 a3 a4 a5 a6 := rfl
theorem rq_alike {σ : RS} {d : Nat} {a0 a1 a2 a3 a4 a5 a6 : Int} (hd : 1 ≤ d) : RF d 36 σ [a0, a1, a2, a3, a4, a5, a6] = rf_fin (pf_alike_0 (RF (d - 1)) σ a0 a1 a2 a3 a4 a5 a6) := by
  obtain ⟨d, rfl⟩ : ∃ d0, d = d0 + 1 := ⟨d - 1, by omega⟩
  rw [Nat.add_sub_cancel, RF_s]
  exact congrArg rf_fin (rb_alike)
theorem rb_put {rec : Nat → RS → List Int → Option (RS × Int)} {σ : RS} {d : Nat} {a0 : Int} : rf_body rec d 37 σ [a0] = pf_put_0 rec σ a0 := rfl
theorem rq_put {σ : RS} {d : Nat} {a0 : Int} (hd : 1 ≤ d) : RF d 37 σ [a0] = rf_fin (pf_put_0 (RF (d - 1)) σ a0) := by
  obtain ⟨d, rfl⟩ : ∃ d0, d = d0 + 1 := ⟨d - 1, by omega⟩
  rw [Nat.add_sub_cancel, RF_s]
  exact congrArg rf_fin (rb_put)
theorem rb_number {rec : Nat → RS → List Int → Option (RS × Int)} {σ : RS} {d : Nat} {a0 : Int} : rf_body rec d 38 σ [a0] = pf_number_0 rec σ a0 := rfl
theorem rq_number {σ : RS} {d : Nat} {a0 : Int} (hd : 1 ≤ d) : RF d 38 σ [a0] = rf_fin (pf_number_0 (RF (d - 1)) σ a0) := by
  obtain ⟨d, rfl⟩ : ∃ d0, d = d0 + 1 := ⟨d - 1, by omega⟩
  rw [Nat.add_sub_cancel, RF_s]
  exact congrArg rf_fin (rb_number)
theorem rb_putWord {rec : Nat → RS → List Int → Option (RS × Int)} {σ : RS} {d : Nat} {a0 a1 a2 : Int} : rf_body rec d 39 σ [a0, a1, a2] = pf_putWord_0 rec a1 σ a0 a2 := rfl
theorem rq_putWord {σ : RS} {d : Nat} {a0 a1 a2 : Int} (hd : 1 ≤ d) : RF d 39 σ [a0, a1, a2] = rf_fin (pf_putWord_0 (RF (d - 1)) a1 σ a0 a2) := by
  obtain ⟨d, rfl⟩ : ∃ d0, d = d0 + 1 := ⟨d - 1, by omega⟩
  rw [Nat.add_sub_cancel, RF_s]
  exact congrArg rf_fin (rb_putWord)
theorem rb_tell {rec : Nat → RS → List Int → Option (RS × Int)} {σ : RS} {d : Nat} {a0 a1 a2 a3 a4 : Int} : rf_body rec d 40 σ [a0, a1, a2, a3, a4] = pf_tell_0 rec σ a0 a1 a2 a3 a4 := rfl
theorem rq_tell {σ : RS} {d : Nat} {a0 a1 a2 a3 a4 : Int} (hd : 1 ≤ d) : RF d 40 σ [a0, a1, a2, a3, a4] = rf_fin (pf_tell_0 (RF (d - 1)) σ a0 a1 a2 a3 a4) := by
  obtain ⟨d, rfl⟩ : ∃ d0, d = d0 + 1 := ⟨d - 1, by omega⟩
  rw [Nat.add_sub_cancel, RF_s]
  exact congrArg rf_fin (rb_tell)
theorem rb_normal {rec : Nat → RS → List Int → Option (RS × Int)} {σ : RS} {d : Nat} {a0 a1 a2 : Int} : rf_body rec d 41 σ [a0, a1, a2] = pf_normal_0 rec σ a0 a1 a2 := rfl
theorem rq_normal {σ : RS} {d : Nat} {a0 a1 a2 : Int} (hd : 1 ≤ d) : RF d 41 σ [a0, a1, a2] = rf_fin (pf_normal_0 (RF (d - 1)) σ a0 a1 a2) := by
  obtain ⟨d, rfl⟩ : ∃ d0, d = d0 + 1 := ⟨d - 1, by omega⟩
  rw [Nat.add_sub_cancel, RF_s]
  exact congrArg rf_fin (rb_normal)
theorem rb_sameName {rec : Nat → RS → List Int → Option (RS × Int)} {σ : RS} {d : Nat} {a0 a1 a2 a3 a4 : Int} : rf_body rec d 42 σ [a0, a1, a2, a3, a4] = pf_sameName_0 rec a2 σ a0 a1 a3 a4 := rfl
theorem rq_sameName {σ : RS} {d : Nat} {a0 a1 a2 a3 a4 : Int} (hd : 1 ≤ d) : RF d 42 σ [a0, a1, a2, a3, a4] = rf_fin (pf_sameName_0 (RF (d - 1)) a2 σ a0 a1 a3 a4) := by
  obtain ⟨d, rfl⟩ : ∃ d0, d = d0 + 1 := ⟨d - 1, by omega⟩
  rw [Nat.add_sub_cancel, RF_s]
  exact congrArg rf_fin (rb_sameName)
theorem rb_sortOf {rec : Nat → RS → List Int → Option (RS × Int)} {σ : RS} {d : Nat} {a0 : Int} : rf_body rec d 43 σ [a0] = pf_sortOf_0 rec σ a0 := rfl
theorem rq_sortOf {σ : RS} {d : Nat} {a0 : Int} (hd : 1 ≤ d) : RF d 43 σ [a0] = rf_fin (pf_sortOf_0 (RF (d - 1)) σ a0) := by
  obtain ⟨d, rfl⟩ : ∃ d0, d = d0 + 1 := ⟨d - 1, by omega⟩
  rw [Nat.add_sub_cancel, RF_s]
  exact congrArg rf_fin (rb_sortOf)
theorem rb_knownOf {rec : Nat → RS → List Int → Option (RS × Int)} {σ : RS} {d : Nat} {a0 : Int} : rf_body rec d 44 σ [a0] = pf_knownOf_0 rec σ a0 := rfl
theorem rq_knownOf {σ : RS} {d : Nat} {a0 : Int} (hd : 1 ≤ d) : RF d 44 σ [a0] = rf_fin (pf_knownOf_0 (RF (d - 1)) σ a0) := by
  obtain ⟨d, rfl⟩ : ∃ d0, d = d0 + 1 := ⟨d - 1, by omega⟩
  rw [Nat.add_sub_cancel, RF_s]
  exact congrArg rf_fin (rb_knownOf)
theorem rb_becomes {rec : Nat → RS → List Int → Option (RS × Int)} {σ : RS} {d : Nat} {a0 a1 : Int} : rf_body rec d 45 σ [a0, a1] = pf_becomes_0 rec σ a0 a1 := rfl
theorem rq_becomes {σ : RS} {d : Nat} {a0 a1 : Int} (hd : 1 ≤ d) : RF d 45 σ [a0, a1] = rf_fin (pf_becomes_0 (RF (d - 1)) σ a0 a1) := by
  obtain ⟨d, rfl⟩ : ∃ d0, d = d0 + 1 := ⟨d - 1, by omega⟩
  rw [Nat.add_sub_cancel, RF_s]
  exact congrArg rf_fin (rb_becomes)
theorem rb_judgeName {rec : Nat → RS → List Int → Option (RS × Int)} {σ : RS} {d : Nat} {a0 : Int} : rf_body rec d 46 σ [a0] = pf_judgeName_0 rec σ a0 := rfl
theorem rq_judgeName {σ : RS} {d : Nat} {a0 : Int} (hd : 1 ≤ d) : RF d 46 σ [a0] = rf_fin (pf_judgeName_0 (RF (d - 1)) σ a0) := by
  obtain ⟨d, rfl⟩ : ∃ d0, d = d0 + 1 := ⟨d - 1, by omega⟩
  rw [Nat.add_sub_cancel, RF_s]
  exact congrArg rf_fin (rb_judgeName)
theorem rb_judgeSort {rec : Nat → RS → List Int → Option (RS × Int)} {σ : RS} {d : Nat} {a0 a1 : Int} : rf_body rec d 47 σ [a0, a1] = pf_judgeSort_0 rec σ a0 a1 := rfl
theorem rq_judgeSort {σ : RS} {d : Nat} {a0 a1 : Int} (hd : 1 ≤ d) : RF d 47 σ [a0, a1] = rf_fin (pf_judgeSort_0 (RF (d - 1)) σ a0 a1) := by
  obtain ⟨d, rfl⟩ : ∃ d0, d = d0 + 1 := ⟨d - 1, by omega⟩
  rw [Nat.add_sub_cancel, RF_s]
  exact congrArg rf_fin (rb_judgeSort)
theorem rb_bind {rec : Nat → RS → List Int → Option (RS × Int)} {σ : RS} {d : Nat} {a0 a1 a2 : Int} : rf_body rec d 48 σ [a0, a1, a2] = pf_bind_0 rec σ a0 a1 a2 := rfl
theorem rq_bind {σ : RS} {d : Nat} {a0 a1 a2 : Int} (hd : 1 ≤ d) : RF d 48 σ [a0, a1, a2] = rf_fin (pf_bind_0 (RF (d - 1)) σ a0 a1 a2) := by
  obtain ⟨d, rfl⟩ : ∃ d0, d = d0 + 1 := ⟨d - 1, by omega⟩
  rw [Nat.add_sub_cancel, RF_s]
  exact congrArg rf_fin (rb_bind)
theorem rb_judge {rec : Nat → RS → List Int → Option (RS × Int)} {σ : RS} {d : Nat} {a0 a1 : Int} : rf_body rec d 49 σ [a0, a1] = pf_judge_0 rec σ a0 a1 := rfl
theorem rq_judge {σ : RS} {d : Nat} {a0 a1 : Int} (hd : 1 ≤ d) : RF d 49 σ [a0, a1] = rf_fin (pf_judge_0 (RF (d - 1)) σ a0 a1) := by
  obtain ⟨d, rfl⟩ : ∃ d0, d = d0 + 1 := ⟨d - 1, by omega⟩
  rw [Nat.add_sub_cancel, RF_s]
  exact congrArg rf_fin (rb_judge)
theorem rb_judgeProduct {rec : Nat → RS → List Int → Option (RS × Int)} {σ : RS} {d : Nat} {a0 a1 : Int} : rf_body rec d 50 σ [a0, a1] = pf_judgeProduct_0 rec σ a0 a1 := rfl
theorem rq_judgeProduct {σ : RS} {d : Nat} {a0 a1 : Int} (hd : 1 ≤ d) : RF d 50 σ [a0, a1] = rf_fin (pf_judgeProduct_0 (RF (d - 1)) σ a0 a1) := by
  obtain ⟨d, rfl⟩ : ∃ d0, d = d0 + 1 := ⟨d - 1, by omega⟩
  rw [Nat.add_sub_cancel, RF_s]
  exact congrArg rf_fin (rb_judgeProduct)
theorem rb_judgeLambda {rec : Nat → RS → List Int → Option (RS × Int)} {σ : RS} {d : Nat} {a0 a1 : Int} : rf_body rec d 51 σ [a0, a1] = pf_judgeLambda_0 rec σ a0 a1 := rfl
theorem rq_judgeLambda {σ : RS} {d : Nat} {a0 a1 : Int} (hd : 1 ≤ d) : RF d 51 σ [a0, a1] = rf_fin (pf_judgeLambda_0 (RF (d - 1)) σ a0 a1) := by
  obtain ⟨d, rfl⟩ : ∃ d0, d = d0 + 1 := ⟨d - 1, by omega⟩
  rw [Nat.add_sub_cancel, RF_s]
  exact congrArg rf_fin (rb_judgeLambda)
theorem rb_judgeUse {rec : Nat → RS → List Int → Option (RS × Int)} {σ : RS} {d : Nat} {a0 a1 : Int} : rf_body rec d 52 σ [a0, a1] = pf_judgeUse_0 rec σ a0 a1 := rfl
theorem rq_judgeUse {σ : RS} {d : Nat} {a0 a1 : Int} (hd : 1 ≤ d) : RF d 52 σ [a0, a1] = rf_fin (pf_judgeUse_0 (RF (d - 1)) σ a0 a1) := by
  obtain ⟨d, rfl⟩ : ∃ d0, d = d0 + 1 := ⟨d - 1, by omega⟩
  rw [Nat.add_sub_cancel, RF_s]
  exact congrArg rf_fin (rb_judgeUse)
theorem rb_applied {rec : Nat → RS → List Int → Option (RS × Int)} {σ : RS} {d : Nat} {a0 a1 : Int} : rf_body rec d 53 σ [a0, a1] = pf_applied_0 rec σ a0 a1 := rfl
theorem rq_applied {σ : RS} {d : Nat} {a0 a1 : Int} (hd : 1 ≤ d) : RF d 53 σ [a0, a1] = rf_fin (pf_applied_0 (RF (d - 1)) σ a0 a1) := by
  obtain ⟨d, rfl⟩ : ∃ d0, d = d0 + 1 := ⟨d - 1, by omega⟩
  rw [Nat.add_sub_cancel, RF_s]
  exact congrArg rf_fin (rb_applied)
theorem rb_begin {rec : Nat → RS → List Int → Option (RS × Int)} {σ : RS} {d : Nat} : rf_body rec d 54 σ [] = pf_begin_0 rec σ := rfl
theorem rq_begin {σ : RS} {d : Nat} (hd : 1 ≤ d) : RF d 54 σ [] = rf_fin (pf_begin_0 (RF (d - 1)) σ) := by
  obtain ⟨d, rfl⟩ : ∃ d0, d = d0 + 1 := ⟨d - 1, by omega⟩
  rw [Nat.add_sub_cancel, RF_s]
  exact congrArg rf_fin (rb_begin)
theorem rb_drop {rec : Nat → RS → List Int → Option (RS × Int)} {σ : RS} {d : Nat} : rf_body rec d 55 σ [] = pf_drop_0 rec σ := rfl
theorem rq_drop {σ : RS} {d : Nat} (hd : 1 ≤ d) : RF d 55 σ [] = rf_fin (pf_drop_0 (RF (d - 1)) σ) := by
  obtain ⟨d, rfl⟩ : ∃ d0, d = d0 + 1 := ⟨d - 1, by omega⟩
  rw [Nat.add_sub_cancel, RF_s]
  exact congrArg rf_fin (rb_drop)
theorem rb_tables {rec : Nat → RS → List Int → Option (RS × Int)} {σ : RS} {d : Nat} : rf_body rec d 56 σ [] = pf_tables_0 rec σ := rfl
theorem rq_tables {σ : RS} {d : Nat} (hd : 1 ≤ d) : RF d 56 σ [] = rf_fin (pf_tables_0 (RF (d - 1)) σ) := by
  obtain ⟨d, rfl⟩ : ∃ d0, d = d0 + 1 := ⟨d - 1, by omega⟩
  rw [Nat.add_sub_cancel, RF_s]
  exact congrArg rf_fin (rb_tables)
theorem rb_yes {rec : Nat → RS → List Int → Option (RS × Int)} {σ : RS} {d : Nat} {a0 : Int} : rf_body rec d 57 σ [a0] = pf_yes_0 rec σ a0 := rfl
theorem rq_yes {σ : RS} {d : Nat} {a0 : Int} (hd : 1 ≤ d) : RF d 57 σ [a0] = rf_fin (pf_yes_0 (RF (d - 1)) σ a0) := by
  obtain ⟨d, rfl⟩ : ∃ d0, d = d0 + 1 := ⟨d - 1, by omega⟩
  rw [Nat.add_sub_cancel, RF_s]
  exact congrArg rf_fin (rb_yes)
theorem rb_told {rec : Nat → RS → List Int → Option (RS × Int)} {σ : RS} {d : Nat} : rf_body rec d 58 σ [] = pf_told_0 rec σ := rfl
theorem rq_told {σ : RS} {d : Nat} (hd : 1 ≤ d) : RF d 58 σ [] = rf_fin (pf_told_0 (RF (d - 1)) σ) := by
  obtain ⟨d, rfl⟩ : ∃ d0, d = d0 + 1 := ⟨d - 1, by omega⟩
  rw [Nat.add_sub_cancel, RF_s]
  exact congrArg rf_fin (rb_told)
theorem rb_doStatement {rec : Nat → RS → List Int → Option (RS × Int)} {σ : RS} {d : Nat} : rf_body rec d 59 σ [] = pf_doStatement_0 rec σ := rfl
theorem rq_doStatement {σ : RS} {d : Nat} (hd : 1 ≤ d) : RF d 59 σ [] = rf_fin (pf_doStatement_0 (RF (d - 1)) σ) := by
  obtain ⟨d, rfl⟩ : ∃ d0, d = d0 + 1 := ⟨d - 1, by omega⟩
  rw [Nat.add_sub_cancel, RF_s]
  exact congrArg rf_fin (rb_doStatement)
theorem rb_tellLine {rec : Nat → RS → List Int → Option (RS × Int)} {σ : RS} {d : Nat} {a0 : Int} : rf_body rec d 60 σ [a0] = pf_tellLine_0 rec σ a0 := rfl
theorem rq_tellLine {σ : RS} {d : Nat} {a0 : Int} (hd : 1 ≤ d) : RF d 60 σ [a0] = rf_fin (pf_tellLine_0 (RF (d - 1)) σ a0) := by
  obtain ⟨d, rfl⟩ : ∃ d0, d = d0 + 1 := ⟨d - 1, by omega⟩
  rw [Nat.add_sub_cancel, RF_s]
  exact congrArg rf_fin (rb_tellLine)
theorem rb_tellHead {rec : Nat → RS → List Int → Option (RS × Int)} {σ : RS} {d : Nat} : rf_body rec d 61 σ [] = pf_tellHead_0 rec σ := rfl
theorem rq_tellHead {σ : RS} {d : Nat} (hd : 1 ≤ d) : RF d 61 σ [] = rf_fin (pf_tellHead_0 (RF (d - 1)) σ) := by
  obtain ⟨d, rfl⟩ : ∃ d0, d = d0 + 1 := ⟨d - 1, by omega⟩
  rw [Nat.add_sub_cancel, RF_s]
  exact congrArg rf_fin (rb_tellHead)
theorem rb_text {rec : Nat → RS → List Int → Option (RS × Int)} {σ : RS} {d : Nat} {a0 : Int} : rf_body rec d 62 σ [a0] = pf_text_0 rec σ a0 := rfl
theorem rq_text {σ : RS} {d : Nat} {a0 : Int} (hd : 1 ≤ d) : RF d 62 σ [a0] = rf_fin (pf_text_0 (RF (d - 1)) σ a0) := by
  obtain ⟨d, rfl⟩ : ∃ d0, d = d0 + 1 := ⟨d - 1, by omega⟩
  rw [Nat.add_sub_cancel, RF_s]
  exact congrArg rf_fin (rb_text)
theorem rb_fault {rec : Nat → RS → List Int → Option (RS × Int)} {σ : RS} {d : Nat} {a0 : Int} : rf_body rec d 63 σ [a0] = pf_fault_0 rec σ a0 := rfl
theorem rq_fault {σ : RS} {d : Nat} {a0 : Int} (hd : 1 ≤ d) : RF d 63 σ [a0] = rf_fin (pf_fault_0 (RF (d - 1)) σ a0) := by
  obtain ⟨d, rfl⟩ : ∃ d0, d = d0 + 1 := ⟨d - 1, by omega⟩
  rw [Nat.add_sub_cancel, RF_s]
  exact congrArg rf_fin (rb_fault)
theorem rb_corner {rec : Nat → RS → List Int → Option (RS × Int)} {σ : RS} {d : Nat} {a0 : Int} : rf_body rec d 64 σ [a0] = pf_corner_0 rec σ a0 := rfl
theorem rq_corner {σ : RS} {d : Nat} {a0 : Int} (hd : 1 ≤ d) : RF d 64 σ [a0] = rf_fin (pf_corner_0 (RF (d - 1)) σ a0) := by
  obtain ⟨d, rfl⟩ : ∃ d0, d = d0 + 1 := ⟨d - 1, by omega⟩
  rw [Nat.add_sub_cancel, RF_s]
  exact congrArg rf_fin (rb_corner)
theorem rb_limit {rec : Nat → RS → List Int → Option (RS × Int)} {σ : RS} {d : Nat} {a0 : Int} : rf_body rec d 65 σ [a0] = pf_limit_0 rec σ a0 := rfl
theorem rq_limit {σ : RS} {d : Nat} {a0 : Int} (hd : 1 ≤ d) : RF d 65 σ [a0] = rf_fin (pf_limit_0 (RF (d - 1)) σ a0) := by
  obtain ⟨d, rfl⟩ : ∃ d0, d = d0 + 1 := ⟨d - 1, by omega⟩
  rw [Nat.add_sub_cancel, RF_s]
  exact congrArg rf_fin (rb_limit)
theorem rb_outs {rec : Nat → RS → List Int → Option (RS × Int)} {σ : RS} {d : Nat} : rf_body rec d 66 σ [] = pf_outs_0 rec σ := rfl
theorem rq_outs {σ : RS} {d : Nat} (hd : 1 ≤ d) : RF d 66 σ [] = rf_fin (pf_outs_0 (RF (d - 1)) σ) := by
  obtain ⟨d, rfl⟩ : ∃ d0, d = d0 + 1 := ⟨d - 1, by omega⟩
  rw [Nat.add_sub_cancel, RF_s]
  exact congrArg rf_fin (rb_outs)
theorem rb_out {rec : Nat → RS → List Int → Option (RS × Int)} {σ : RS} {d : Nat} {a0 : Int} : rf_body rec d 67 σ [a0] = pf_out_0 rec σ a0 := rfl
theorem rq_out {σ : RS} {d : Nat} {a0 : Int} (hd : 1 ≤ d) : RF d 67 σ [a0] = rf_fin (pf_out_0 (RF (d - 1)) σ a0) := by
  obtain ⟨d, rfl⟩ : ∃ d0, d = d0 + 1 := ⟨d - 1, by omega⟩
  rw [Nat.add_sub_cancel, RF_s]
  exact congrArg rf_fin (rb_out)
theorem rb_count {rec : Nat → RS → List Int → Option (RS × Int)} {σ : RS} {d : Nat} {a0 : Int} : rf_body rec d 68 σ [a0] = pf_count_0 rec σ a0 := rfl
theorem rq_count {σ : RS} {d : Nat} {a0 : Int} (hd : 1 ≤ d) : RF d 68 σ [a0] = rf_fin (pf_count_0 (RF (d - 1)) σ a0) := by
  obtain ⟨d, rfl⟩ : ∃ d0, d = d0 + 1 := ⟨d - 1, by omega⟩
  rw [Nat.add_sub_cancel, RF_s]
  exact congrArg rf_fin (rb_count)
theorem rb_name {rec : Nat → RS → List Int → Option (RS × Int)} {σ : RS} {d : Nat} {a0 a1 : Int} : rf_body rec d 69 σ [a0, a1] = pf_name_0 rec σ a0 a1 := rfl
theorem rq_name {σ : RS} {d : Nat} {a0 a1 : Int} (hd : 1 ≤ d) : RF d 69 σ [a0, a1] = rf_fin (pf_name_0 (RF (d - 1)) σ a0 a1) := by
  obtain ⟨d, rfl⟩ : ∃ d0, d = d0 + 1 := ⟨d - 1, by omega⟩
  rw [Nat.add_sub_cancel, RF_s]
  exact congrArg rf_fin (rb_name)
theorem rb_sort {rec : Nat → RS → List Int → Option (RS × Int)} {σ : RS} {d : Nat} {a0 a1 : Int} : rf_body rec d 70 σ [a0, a1] = pf_sort_0 rec σ a0 a1 := rfl
theorem rq_sort {σ : RS} {d : Nat} {a0 a1 : Int} (hd : 1 ≤ d) : RF d 70 σ [a0, a1] = rf_fin (pf_sort_0 (RF (d - 1)) σ a0 a1) := by
  obtain ⟨d, rfl⟩ : ∃ d0, d = d0 + 1 := ⟨d - 1, by omega⟩
  rw [Nat.add_sub_cancel, RF_s]
  exact congrArg rf_fin (rb_sort)
theorem rb_rule {rec : Nat → RS → List Int → Option (RS × Int)} {σ : RS} {d : Nat} {a0 a1 : Int} : rf_body rec d 71 σ [a0, a1] = pf_rule_0 rec σ a0 a1 := rfl
theorem rq_rule {σ : RS} {d : Nat} {a0 a1 : Int} (hd : 1 ≤ d) : RF d 71 σ [a0, a1] = rf_fin (pf_rule_0 (RF (d - 1)) σ a0 a1) := by
  obtain ⟨d, rfl⟩ : ∃ d0, d = d0 + 1 := ⟨d - 1, by omega⟩
  rw [Nat.add_sub_cancel, RF_s]
  exact congrArg rf_fin (rb_rule)
theorem rb_type {rec : Nat → RS → List Int → Option (RS × Int)} {σ : RS} {d : Nat} {a0 : Int} : rf_body rec d 72 σ [a0] = pf_type_0 rec σ a0 := rfl
theorem rq_type {σ : RS} {d : Nat} {a0 : Int} (hd : 1 ≤ d) : RF d 72 σ [a0] = rf_fin (pf_type_0 (RF (d - 1)) σ a0) := by
  obtain ⟨d, rfl⟩ : ∃ d0, d = d0 + 1 := ⟨d - 1, by omega⟩
  rw [Nat.add_sub_cancel, RF_s]
  exact congrArg rf_fin (rb_type)
theorem rb_same {rec : Nat → RS → List Int → Option (RS × Int)} {σ : RS} {d : Nat} {a0 a1 : Int} : rf_body rec d 73 σ [a0, a1] = pf_same_0 rec σ a0 a1 := rfl
theorem rq_same {σ : RS} {d : Nat} {a0 a1 : Int} (hd : 1 ≤ d) : RF d 73 σ [a0, a1] = rf_fin (pf_same_0 (RF (d - 1)) σ a0 a1) := by
  obtain ⟨d, rfl⟩ : ∃ d0, d = d0 + 1 := ⟨d - 1, by omega⟩
  rw [Nat.add_sub_cancel, RF_s]
  exact congrArg rf_fin (rb_same)
theorem rb_mark {rec : Nat → RS → List Int → Option (RS × Int)} {σ : RS} {d : Nat} : rf_body rec d 74 σ [] = pf_mark_0 rec σ := rfl
theorem rq_mark {σ : RS} {d : Nat} (hd : 1 ≤ d) : RF d 74 σ [] = rf_fin (pf_mark_0 (RF (d - 1)) σ) := by
  obtain ⟨d, rfl⟩ : ∃ d0, d = d0 + 1 := ⟨d - 1, by omega⟩
  rw [Nat.add_sub_cancel, RF_s]
  exact congrArg rf_fin (rb_mark)
theorem rb_back {rec : Nat → RS → List Int → Option (RS × Int)} {σ : RS} {d : Nat} : rf_body rec d 75 σ [] = pf_back_0 rec σ := rfl
theorem rq_back {σ : RS} {d : Nat} (hd : 1 ≤ d) : RF d 75 σ [] = rf_fin (pf_back_0 (RF (d - 1)) σ) := by
  obtain ⟨d, rfl⟩ : ∃ d0, d = d0 + 1 := ⟨d - 1, by omega⟩
  rw [Nat.add_sub_cancel, RF_s]
  exact congrArg rf_fin (rb_back)
end RLX
