section RMA
variable {σ σ' σ'' s : RS} {d : Nat} {S V T U : Int → Prop} {r w w' : Int}
/-- the machine's numbers and arrays -/
def mn (j : Nat) : Bool := j == 39 || j == 48 || (Nat.ble 51 j && Nat.ble j 57) || (Nat.ble 64 j && Nat.ble j 73) || j == 75
def ma (k : Nat) : Bool := (Nat.ble 30 k && Nat.ble k 38) || (Nat.ble 44 k && Nat.ble k 47) || k == 49 || k == 50 || k == 74
/-- what the machine leaves -/
def MF (w : Int) (σ σ' : RS) : Prop := (∀ j, mn j = false → σ'.1 j = σ.1 j) ∧ (∀ k, ma k = false → σ'.2 k = σ.2 k) ∧ (σ.1 39 ≤ σ'.1 39 ∧ σ.1 48 ≤ σ'.1 48) ∧ AG σ.2 σ'.2 0 (σ.1 39) ∧ CFr σ.2 σ'.2 (σ.1 48) ∧ (∀ q : Int, 0 ≤ q → q < w → σ'.2 49 q.toNat = σ.2 49 q.toNat ∧ σ'.2 50 q.toNat = σ.2 50 q.toNat) ∧ (σ.1 72 ≠ 0 → σ'.1 72 = σ.1 72) ∧ σ'.1 65 - σ'.1 64 = σ.1 65 - σ.1 64
theorem AG.refl {a : Nat → Nat → Int} {lo hi : Int} : AG a a lo hi := fun _ _ _ => ⟨rfl, rfl, rfl, rfl, rfl⟩
theorem AG.trans {a b c : Nat → Nat → Int} {lo hi : Int} (h : AG a b lo hi) (k : AG b c lo hi) : AG a c lo hi := fun q q1 q2 => by
  obtain ⟨c1, c2, c3, c4, c5⟩ := h q q1 q2
  obtain ⟨d1, d2, d3, d4, d5⟩ := k q q1 q2
  exact ⟨d1.trans c1, d2.trans c2, d3.trans c3, d4.trans c4, d5.trans c5⟩
theorem CFr.refl {a : Nat → Nat → Int} {C : Int} : CFr a a C := fun _ _ _ => ⟨rfl, rfl, rfl, rfl⟩
theorem CFr.trans {a b c : Nat → Nat → Int} {C D : Int} (h : CFr a b C) (k : CFr b c D) (hC : C ≤ D) : CFr a c C := fun q q1 q2 => by
  obtain ⟨c1, c2, c3, c4⟩ := h q q1 q2
  obtain ⟨d1, d2, d3, d4⟩ := k q q1 (by omega)
  exact ⟨d1.trans c1, d2.trans c2, d3.trans c3, d4.trans c4⟩
theorem MF.refl : MF w σ σ := ⟨fun _ _ => rfl, fun _ _ => rfl, ⟨Int.le_refl _, Int.le_refl _⟩, AG.refl, CFr.refl, fun _ _ _ => ⟨rfl, rfl⟩, fun _ => rfl, rfl⟩
theorem MF.trans (h : MF w σ σ') (k : MF w σ' σ'') : MF w σ σ'' := by
  obtain ⟨a1, a2, a3, a4, a5, a6, a7, a8⟩ := h
  obtain ⟨b1, b2, b3, b4, b5, b6, b7, b8⟩ := k
  refine ⟨fun j hj => (b1 j hj).trans (a1 j hj), fun j hj => (b2 j hj).trans (a2 j hj), by omega, a4.trans (b4.sub (Int.le_refl _) a3.1), a5.trans b5 a3.2, fun q q1 q2 => ?_, fun q => ?_, b8.trans a8⟩
  · obtain ⟨c1, c2⟩ := a6 q q1 q2
    obtain ⟨d1, d2⟩ := b6 q q1 q2
    exact ⟨d1.trans c1, d2.trans c2⟩
  · rw [b7 (by rw [a7 q]; exact q), a7 q]
theorem MF.le (h : MF w σ σ') (k : w' ≤ w) : MF w' σ σ' := ⟨h.1, h.2.1, h.2.2.1, h.2.2.2.1, h.2.2.2.2.1, fun q q1 q2 => h.2.2.2.2.2.1 q q1 (by omega), h.2.2.2.2.2.2⟩
/-- numbers alone -/
theorem MF.nu (e : σ'.2 = σ.2) (h : ∀ j, mn j = false → σ'.1 j = σ.1 j) (h1 : σ.1 39 ≤ σ'.1 39 ∧ σ.1 48 ≤ σ'.1 48) (h2 : σ.1 72 ≠ 0 → σ'.1 72 = σ.1 72) (h3 : σ'.1 65 - σ'.1 64 = σ.1 65 - σ.1 64) : MF w σ σ' := ⟨h, fun _ _ => by rw [e], h1, by rw [e]; exact AG.refl, by rw [e]; exact CFr.refl, fun _ _ _ => by rw [e]; exact ⟨rfl, rfl⟩, h2, h3⟩
theorem MF.p {k : Nat} {x : Int} (q : s = rs_i σ k x) (hk : mn k = true) (h39 : k ≠ 39) (h48 : k ≠ 48) (h72 : k ≠ 72 ∧ k ≠ 64 ∧ k ≠ 65) : MF w σ s := by
  refine MF.nu (rs_i_2 q) (fun j hj => rs_i_n q ?_) ⟨?_, ?_⟩ (fun _ => rs_i_n q (Ne.symm h72.1)) (by rw [rs_i_n q (Ne.symm h72.2.1), rs_i_n q (Ne.symm h72.2.2)])
  · rintro rfl; rw [hk] at hj; cases hj
  · rw [rs_i_n q (Ne.symm h39)]; exact Int.le_refl _
  · rw [rs_i_n q (Ne.symm h48)]; exact Int.le_refl _
theorem MF.wrong (e : σ'.2 = σ.2) (fr : ∀ j, j ≠ 72 → j ≠ 73 → σ'.1 j = σ.1 j) (h : σ.1 72 ≠ 0 → σ'.1 72 = σ.1 72) : MF w σ σ' := by
  refine MF.nu e (fun j hj => fr j ?_ ?_) ⟨?_, ?_⟩ h (by rw [fr 64 (by decide) (by decide), fr 65 (by decide) (by decide)])
  · rintro rfl; cases hj
  · rintro rfl; cases hj
  · rw [fr 39 (by decide) (by decide)]; exact Int.le_refl _
  · rw [fr 48 (by decide) (by decide)]; exact Int.le_refl _
/-- arrays that only the machine's stacks and the answer are -/
theorem MF.a {k : Nat} {i x : Int} (q : s = rs_a σ k i x) (hi : 0 ≤ i) (hk : k = 74 ∨ ((k = 49 ∨ k = 50) ∧ w ≤ i) ∨ ((k = 34 ∨ k = 35 ∨ k = 36 ∨ k = 37))) : MF w σ s := by
  have e := rs_a_1 q
  refine ⟨fun j _ => by rw [e], fun j hj => ?_, by rw [e]; exact ⟨Int.le_refl _, Int.le_refl _⟩, fun p p1 p2 => ?_, fun p p1 p2 => ?_, fun p p1 p2 => ?_, fun _ => by rw [e], by rw [e]⟩
  · have : j ≠ k := by
      rintro rfl
      rcases hk with rfl | ⟨rfl | rfl, _⟩ | rfl | rfl | rfl | rfl <;> cases hj
    rw [rs_a_k q this]
  · refine ⟨?_, ?_, ?_, ?_, ?_⟩ <;> rw [rs_a_k q (by omega)]
  · refine ⟨?_, ?_, ?_, ?_⟩ <;> rw [rs_a_k q (by omega)]
  · have st : ∀ m, m = 49 ∨ m = 50 → s.2 m p.toNat = σ.2 m p.toNat := fun m hm => by
      by_cases c : m = k
      · subst c; exact rs_a_i q (by omega)
      · rw [rs_a_k q c]
    exact ⟨st 49 (Or.inl rfl), st 50 (Or.inr rfl)⟩
def WSs (σ : RS) (t : Int) (A : Int → Prop) : Prop := WS σ.2 (σ.1 39) (σ.1 27) t A
def COs (σ : RS) (S V : Int → Prop) (t c : Int) : Prop := CLU σ.2 (σ.1 48) (σ.1 39) (σ.1 27) S V t c
theorem AG.nf {a b : Nat → Nat → Int} {N : Int} (h : AG a b 0 N) : NFr a b N := fun q q1 q2 _ => h q q1 q2
theorem WSs.mf {t : Int} {A : Int → Prop} (h : WSs σ t A) (F : MF w σ σ') : WSs σ' t A := WS.fr h F.2.2.2.1.nf F.2.2.1.1 (by rw [F.1 27 rfl]; exact Int.le_refl _)
theorem COs.mf {t c : Int} (h : COs σ S V t c) (F : MF w σ σ') : COs σ' S V t c := CLU.fr h F.2.2.2.1.nf F.2.2.2.2.1 F.2.2.1.1 (by rw [F.1 27 rfl]; exact Int.le_refl _) F.2.2.1.2 (fun _ q => q) (fun _ q => q)
theorem COs.up {t c : Int} (h : COs σ S V t c) (hS : ∀ x, S x → T x) (hV : ∀ x, V x → U x) : COs σ T U t c := CLU.fr h AG.refl.nf CFr.refl (Int.le_refl _) (Int.le_refl _) (Int.le_refl _) hS hV
/-- the waiting terms -/
def WT (σ : RS) (S V : Int → Prop) : Prop := ∀ j : Int, 0 ≤ j → j < σ.1 51 → COs σ S V (σ.2 49 j.toNat) (σ.2 50 j.toNat)
theorem WT.mf (h : WT σ S V) (F : MF w σ σ') (h1 : σ'.1 51 ≤ σ.1 51) (h2 : σ'.1 51 ≤ w) : WT σ' S V := fun j j0 j1 => by
  obtain ⟨e1, e2⟩ := F.2.2.2.2.2.1 j j0 (by omega)
  rw [e1, e2]
  exact (h j j0 (by omega)).mf F
theorem WT.up (h : WT σ S V) (hS : ∀ x, S x → T x) (hV : ∀ x, V x → U x) : WT σ T U := fun j j0 j1 => (h j j0 j1).up hS hV
def none0 : Int → Prop := fun _ => False
/-- what is known -/
def KV (σ : RS) : Prop := ∀ k : Int, 0 ≤ k → k < σ.1 27 → (σ.2 25 k.toNat < 0 ∨ WSs σ (σ.2 25 k.toNat) none0) ∧ WSs σ (σ.2 23 k.toNat) none0
theorem KV.mf (h : KV σ) (F : MF w σ σ') : KV σ' := fun k k0 k1 => by
  rw [F.1 27 rfl] at k1
  rw [F.2.1 25 rfl, F.2.1 23 rfl]
  obtain ⟨h1, h2⟩ := h k k0 k1
  refine ⟨?_, h2.mf F⟩
  rcases h1 with q | q
  · exact Or.inl q
  · exact Or.inr (q.mf F)
/-- the tables -/
def HS (σ : RS) : Prop := (0 ≤ σ.1 27 ∧ σ.1 27 ≤ 100) ∧ (0 ≤ σ.1 20 ∧ σ.1 20 ≤ 8) ∧ (∀ k, 0 ≤ σ.2 22 k ∧ σ.2 22 k ≤ 12) ∧ (∀ k, 0 ≤ σ.2 17 k ∧ σ.2 17 k ≤ 12) ∧ (∀ k, k < 8 → -1 ≤ σ.2 18 k ∧ σ.2 18 k < σ.1 20) ∧ (∀ k, k < 64 → -1 ≤ σ.2 19 k ∧ σ.2 19 k < σ.1 20) ∧ (∀ k, -1 ≤ σ.2 24 k ∧ σ.2 24 k ≤ 7) ∧ (∀ k : Int, 0 ≤ k → k < σ.1 20 → σ.2 30 k.toNat = 3 ∧ σ.2 31 k.toNat = k) 
theorem HS.mf (h : HS σ) (F : MF w σ σ') (hn : 8 ≤ σ.1 39) : HS σ' := by
  unfold HS
  rw [F.1 27 rfl, F.1 20 rfl, F.2.1 22 rfl, F.2.1 17 rfl, F.2.1 18 rfl, F.2.1 19 rfl, F.2.1 24 rfl]
  obtain ⟨h1, h2, h3, h4, h5, h6, h7, h8⟩ := h
  refine ⟨h1, h2, h3, h4, h5, h6, h7, fun k k0 k1 => ?_⟩
  obtain ⟨e1, e2, _⟩ := F.2.2.2.1 k k0 (by omega)
  rw [e1, e2]; exact h8 k k0 k1
def KA (σ : RS) : Prop := ∀ q, (0 ≤ σ.2 36 q ∧ σ.2 36 q ≤ 7) ∧ (0 ≤ σ.2 37 q ∧ σ.2 37 q ≤ 7)
/-- the counts; r: what is set aside for the term being judged -/
def BG (r : Int) (σ : RS) : Prop := (1 ≤ σ.1 63 ∧ σ.1 63 ≤ 20000) ∧ (0 ≤ σ.1 64 ∧ σ.1 64 ≤ σ.1 63) ∧ (0 ≤ σ.1 65 ∧ σ.1 65 ≤ 60000) ∧ (0 ≤ σ.1 51 ∧ σ.1 51 ≤ σ.1 64) ∧ (0 ≤ σ.1 57 ∧ σ.1 57 ≤ σ.1 64) ∧ (1 ≤ σ.1 48 ∧ σ.1 48 + r ≤ 2 * σ.1 64 + 20001) ∧ (8 ≤ σ.1 39 ∧ σ.1 39 + r ≤ σ.1 65 + 79000) ∧ (0 ≤ σ.1 75 ∧ σ.1 75 ≤ 100 * σ.1 65 + 1000000) ∧ ((0 ≤ σ.1 66 ∧ σ.1 66 ≤ σ.1 64) ∧ (0 ≤ σ.1 67 ∧ σ.1 67 ≤ σ.1 64) ∧ (0 ≤ σ.1 68 ∧ σ.1 68 ≤ σ.1 64) ∧ (0 ≤ σ.1 69 ∧ σ.1 69 ≤ σ.1 64) ∧ (0 ≤ σ.1 70 ∧ σ.1 70 ≤ σ.1 64) ∧ (0 ≤ σ.1 71 ∧ σ.1 71 ≤ σ.1 64)) ∧ (0 ≤ σ.1 72 ∧ σ.1 72 ≤ 14) ∧ (0 ≤ r ∧ σ.1 39 + r ≤ σ.1 62 + σ.1 64 + 16001)
/-- what a word of the machine may spend -/
def BP (c n : Int) (σ σ' : RS) : Prop := σ.1 64 ≤ σ'.1 64 ∧ σ'.1 65 = σ.1 65 + (σ'.1 64 - σ.1 64) ∧ σ'.1 48 ≤ σ.1 48 + 2 * (σ'.1 64 - σ.1 64) + c ∧ σ'.1 39 ≤ σ.1 39 + (σ'.1 64 - σ.1 64) + n ∧ σ'.1 75 = σ.1 75 ∧ σ'.1 57 ≤ σ.1 57 + (σ'.1 64 - σ.1 64)
theorem BP.refl : BP 0 0 σ σ := ⟨by omega, by omega, by omega, by omega, by omega, by omega⟩
theorem BP.trans {c n c' n' : Int} (h : BP c n σ σ') (k : BP c' n' σ' σ'') : BP (c + c') (n + n') σ σ'' := by
  obtain ⟨a1, a2, a3, a4, a5, a6⟩ := h
  obtain ⟨b1, b2, b3, b4, b5, b6⟩ := k
  exact ⟨by omega, by omega, by omega, by omega, by omega, by omega⟩
theorem BP.t0 (h : BP 0 0 σ σ') (k : BP 0 0 σ' σ'') : BP 0 0 σ σ'' := h.trans k
theorem BP.le {c n c' n' : Int} (h : BP c n σ σ') (h1 : c ≤ c') (h2 : n ≤ n') : BP c' n' σ σ' := by
  obtain ⟨a1, a2, a3, a4, a5, a6⟩ := h
  exact ⟨by omega, by omega, by omega, by omega, by omega, by omega⟩
/-- the machine in order -/
def M0 (r : Int) (σ : RS) : Prop := IR σ ∧ BG r σ ∧ HS σ ∧ KV σ ∧ KA σ
theorem M0.mf (M : M0 r σ) (F : MF w σ σ') (I : IR σ') (B : BG r σ') (K : KA σ') : M0 r σ' := ⟨I, B, M.2.2.1.mf F M.2.1.2.2.2.2.2.2.1.1, M.2.2.2.1.mf F, K⟩
theorem KA.eq (K : KA σ) (h1 : σ'.2 36 = σ.2 36) (h2 : σ'.2 37 = σ.2 37) : KA σ' := by unfold KA; rw [h1, h2]; exact K
/-- a number of the machine that counts nothing -/
def mfr (k : Nat) : Bool := k == 52 || k == 53 || k == 54 || k == 55 || k == 56 || k == 73
theorem BG.eq (B : BG r σ) (h : ∀ j, mfr j = false → σ'.1 j = σ.1 j) : BG r σ' := by
  unfold BG
  rw [h 63 rfl, h 64 rfl, h 65 rfl, h 51 rfl, h 57 rfl, h 48 rfl, h 39 rfl, h 75 rfl, h 66 rfl, h 67 rfl, h 68 rfl, h 69 rfl, h 70 rfl, h 71 rfl, h 72 rfl, h 62 rfl]
  exact B
theorem BP.eq (h : ∀ j, mfr j = false → σ'.1 j = σ.1 j) : BP 0 0 σ σ' := by
  unfold BP
  rw [h 64 rfl, h 65 rfl, h 48 rfl, h 39 rfl, h 75 rfl, h 57 rfl]
  exact BP.refl
theorem M0.p {k : Nat} {x : Int} (M : M0 r σ) (q : s = rs_i σ k x) (hk : mfr k = true) (hx : inR x) : M0 r s ∧ MF w σ s ∧ BP 0 0 σ s := by
  have hf : ∀ j, mfr j = false → s.1 j = σ.1 j := fun j hj => rs_i_n q (by rintro rfl; rw [hk] at hj; cases hj)
  have hm : mn k = true ∧ k ≠ 39 ∧ k ≠ 48 ∧ k ≠ 72 ∧ k ≠ 64 ∧ k ≠ 65 := by
    unfold mfr at hk
    simp only [Bool.or_eq_true, beq_iff_eq] at hk
    rcases hk with ((((rfl | rfl) | rfl) | rfl) | rfl) | rfl <;> decide
  have F : MF w σ s := MF.p q hm.1 hm.2.1 hm.2.2.1 hm.2.2.2
  exact ⟨M.mf F (M.1.p q hx) (M.2.1.eq hf) (M.2.2.2.2.eq (by rw [rs_i_2 q]) (by rw [rs_i_2 q])), F, BP.eq hf⟩
end RMA
