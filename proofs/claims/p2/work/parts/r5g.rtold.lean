section RTO
variable {σ σ' σ'' σ0 : RS} {d : Nat}
def NM1 (σ : RS) (k : Nat) (lo hi : Int) : Prop := lo ≤ σ.1 k ∧ σ.1 k < hi ∧ NMr σ.2 (σ.1 k)
def TM (σ : RS) (k : Nat) (l h : Int) : Prop := TR σ.2 80 (σ.1 k) l h
/-- a statement just read -/
def SO (σ : RS) (lo hi : Int) : Prop :=
  (σ.1 76 = -1 ∧ NM1 σ 80 lo (lo + 1) ∧ ((σ.1 78 = -1 ∧ TM σ 79 (lo + 1) hi) ∨ (σ.1 79 = -1 ∧ TM σ 78 (lo + 1) hi) ∨ ∃ m, TM σ 79 (lo + 1) m ∧ TM σ 78 m hi))
  ∨ (σ.1 76 = 0 ∧ NM1 σ 80 lo hi)
  ∨ (σ.1 76 = 1 ∧ NM1 σ 80 lo hi ∧ NM1 σ 81 lo hi)
  ∨ (σ.1 76 = 2 ∧ NM1 σ 80 lo hi ∧ NM1 σ 81 lo hi ∧ NM1 σ 82 lo hi)
  ∨ ((3 ≤ σ.1 76 ∧ σ.1 76 ≤ 6) ∧ ((σ.1 79 = -1 ∧ σ.1 76 ≠ 5 ∧ TM σ 78 lo hi) ∨ ((σ.1 76 = 3 ∨ σ.1 76 = 5) ∧ ∃ m, TM σ 78 lo m ∧ TM σ 79 m hi)))
def SP (σ σ' : RS) : Prop := LZ σ' ∧ SF σ σ' ∧ (σ'.1 76 = σ.1 76 ∧ σ'.1 77 = σ.1 77) ∧ (σ.1 15 = 0 → σ'.1 39 = σ.1 39) ∧ σ'.1 39 ≤ σ.1 39 + 2 * (σ'.1 9 - σ.1 9) + 1 ∧ (σ'.1 72 = 0 → σ'.1 39 ≤ σ.1 39 + 2 * (σ'.1 9 - σ.1 9) ∧ σ.1 9 < σ'.1 9) ∧ (σ'.1 72 = 0 → σ.1 15 ≠ 0 → SO σ' (σ.1 39) (σ'.1 39))
/-- a term at the top of a statement -/
theorem q_top (hd : 131 ≤ d) (L : LZ σ) (B : BU σ) : rsf (RF d 20 σ [0]) (PT 80 σ) := q_readTerm 40 rfl (by omega) (by omega) L B
theorem PF.at (h : PF σ σ') {j : Nat} (h1 : lxs j = false) (h2 : j ≠ 39) : σ'.1 j = σ.1 j := h.1 j h1 h2
end RTO
