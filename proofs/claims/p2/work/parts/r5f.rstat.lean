section RST
variable {σ σ' σ'' σ0 : RS} {d : Nat}
/-- what reading a statement leaves -/
def SF (σ σ' : RS) : Prop := (∀ j, lxs j = false → j ≠ 39 → (j < 76 ∨ 82 < j) → σ'.1 j = σ.1 j) ∧ (∀ k, ndm k = false → σ'.2 k = σ.2 k) ∧ σ.1 39 ≤ σ'.1 39 ∧ (∀ k q, q < (σ.1 39).toNat → k ≠ 34 → k ≠ 35 → σ'.2 k q = σ.2 k q) ∧ σ'.1 5 = σ.1 5 ∧ σ.1 9 ≤ σ'.1 9 ∧ (σ.1 72 ≠ 0 → σ'.1 72 = σ.1 72)
theorem PF.s (h : PF σ σ') : SF σ σ' := ⟨fun j a b _ => h.1 j a b, h.2⟩
theorem SF.trans (h : SF σ σ') (k : SF σ' σ'') : SF σ σ'' := by
  obtain ⟨a1, a2, a3, a4, a5, a6, a7⟩ := h
  obtain ⟨b1, b2, b3, b4, b5, b6, b7⟩ := k
  refine ⟨fun j hj h9 h8 => (b1 j hj h9 h8).trans (a1 j hj h9 h8), fun k hk => (b2 k hk).trans (a2 k hk), by omega, fun k q hq h4 h5 => (b4 k q (by omega) h4 h5).trans (a4 k q hq h4 h5), by omega, by omega, fun q => ?_⟩
  rw [b7 (by rw [a7 q]; exact q), a7 q]
theorem SF.p {k : Nat} {x : Int} (w : σ' = rs_i σ k x) (hk : 76 ≤ k ∧ k ≤ 82) : SF σ σ' := by
  have e := rs_i_2 w
  have n := fun j (h : j ≠ k) => rs_i_n w h
  exact ⟨fun j _ _ h => n j (by omega), fun _ _ => by rw [e], by rw [n 39 (by omega)]; exact Int.le_refl _, fun _ _ _ _ _ => by rw [e], n 5 (by omega), by rw [n 9 (by omega)]; exact Int.le_refl _, fun _ => n 72 (by omega)⟩
theorem LZ.p {k : Nat} {x : Int} (L : LZ σ) (w : σ' = rs_i σ k x) (hx : inR x) (hk : 76 ≤ k ∧ k ≤ 82) : LZ σ' := by
  have n := fun j (h : j ≠ k) => rs_i_n w h
  have I := L.1.1.p w hx
  obtain ⟨⟨hI, l5, l6, l7, l9, l10, l11, l72, lt1, lt2⟩, l12⟩ := L
  have a5 := n 5 (by omega)
  have a6 := n 6 (by omega)
  have a7 := n 7 (by omega)
  have a9 := n 9 (by omega)
  have a10 := n 10 (by omega)
  have a11 := n 11 (by omega)
  have a72 := n 72 (by omega)
  exact ⟨⟨I, by omega, by omega, by omega, by omega, by omega, by omega, by omega, by omega, by omega⟩, by omega⟩
theorem AG.ofS (h : SF σ σ') {lo hi : Int} (h0 : 0 ≤ lo) (h1 : hi ≤ σ.1 39) : AG σ.2 σ'.2 lo hi := by
  intro q q1 q2
  have hq : q.toNat < (σ.1 39).toNat := by omega
  have f := fun k h4 h5 => h.2.2.2.1 k q.toNat hq h4 h5
  exact ⟨f 30 (by decide) (by decide), f 31 (by decide) (by decide), f 32 (by decide) (by decide), f 33 (by decide) (by decide), f 38 (by decide) (by decide)⟩
end RST
