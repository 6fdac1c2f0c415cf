/-! what stands in the class's heap between its words -/
section CIA
/-- the single objects and rows of a house, by their places behind it: tags, lengths, the references that stay -/
def gT : List Nat := [12, 20, 11, 1, 6, 20, 21, 21, 21, 6, 20, 21, 22, 22, 21, 21, 5, 21, 20, 8, 21, 21, 21, 3]
def gL : List Nat := [10, 4000, 2, 11, 3, 96, 8, 8, 64, 3, 1200, 100, 100, 100, 100, 20, 8, 7, 3000, 11, 4001, 4001, 4001, 5]
def gF : List (Nat × Nat × Nat) := [(0, 0, 1), (0, 1, 2), (0, 2, 3), (0, 3, 16), (0, 4, 19), (0, 5, 23), (3, 0, 4), (3, 1, 7), (3, 2, 8), (3, 5, 9), (3, 6, 12), (3, 7, 13), (3, 8, 14), (3, 9, 15), (4, 0, 5), (4, 1, 6), (9, 0, 10), (9, 1, 11), (16, 0, 3), (16, 1, 2), (16, 2, 17), (16, 6, 18), (19, 0, 1), (19, 1, 2), (19, 2, 20), (19, 3, 21), (19, 4, 22), (23, 0, 1), (23, 1, 3), (23, 2, 16), (23, 3, 2)]
def oN (σ : CS) (x : Int) : Prop := 0 ≤ x ∧ c_tg σ x.toNat = 7
def oNN (σ : CS) (x : Int) : Prop := x < 0 ∨ oN σ x
def oLn (σ : CS) (x : Int) : Prop := 0 ≤ x ∧ c_tg σ x.toNat = 4
def oL (σ : CS) (x : Int) : Prop := x < 0 ∨ oLn σ x
def oPn (σ : CS) (x : Int) : Prop := 0 ≤ x ∧ c_tg σ x.toNat = 4 ∧ c_pv σ x.toNat 0 = 0
def oP (σ : CS) (x : Int) : Prop := x < 0 ∨ oPn σ x
def oSn (σ : CS) (x : Int) : Prop := 0 ≤ x ∧ c_tg σ x.toNat = 9
def oS (σ : CS) (x : Int) : Prop := x < 0 ∨ oSn σ x
def oHd (σ : CS) (x : Int) : Prop := 0 ≤ x ∧ c_tg σ x.toNat = 2
/-- a binder, a use, a product: kinds that stay -/
def oB (σ : CS) (x : Int) : Prop := oN σ x ∧ 4 ≤ c_pv σ x.toNat 0 ∧ c_pv σ x.toNat 0 ≤ 6
def oU (σ : CS) (x : Int) : Prop := oN σ x ∧ c_pv σ x.toNat 0 = 7
def oPr (σ : CS) (x : Int) : Prop := oN σ x ∧ c_pv σ x.toNat 0 = 5
def oA (b : Nat) (σ : CS) (x : Int) : Prop := (0 ≤ x ∧ c_tg σ x.toNat = 22) ∧ b + 24 ≤ x.toNat ∧ 1 ≤ c_ln σ x.toNat ∧ c_ln σ x.toNat ≤ 100000 ∧ ∀ i, i < c_ln σ x.toNat → oN σ (c_pv σ x.toNat i)
def oid (x : Int) : Prop := -1000000 ≤ x ∧ x ≤ 1000000000
def oK (k n f s : Int) (σ : CS) : Prop := (0 ≤ k ∧ k ≤ 8) ∧ (k ≤ 2 → oN σ n) ∧ (7 ≤ k → oN σ n) ∧ (1 ≤ k → oN σ f) ∧ (k = 2 → oN σ s) ∧ (k = 5 → oN σ s) ∧ oNN σ s
/-- an object's fields, by its tag -/
def oH (σ : CS) (F : Nat → Int) : Prop := oN σ (F 0) ∧ oid (F 1) ∧ oL σ (F 2) ∧ oP σ (F 3)
def oLk (a : Nat) (σ : CS) (F : Nat → Int) : Prop := oid (F 0) ∧ oNN σ (F 1) ∧ oL σ (F 2) ∧ oid (F 3) ∧ oL σ (F 4) ∧ F 4 < (a : Int) ∧ (F 0 = 0 → oN σ (F 1) ∧ oP σ (F 4))
def oNd (b : Nat) (σ : CS) (F : Nat → Int) : Prop := (0 ≤ F 0 ∧ F 0 ≤ 7) ∧ oid (F 1) ∧ (0 ≤ F 4 ∧ F 4 ≤ 5000) ∧ (0 ≤ F 5 ∧ F 5 ≤ 5000) ∧ (F 0 ≤ 3 → F 6 < 0) ∧ (4 ≤ F 0 → oN σ (F 6)) ∧ (4 ≤ F 0 → F 0 ≤ 6 → oN σ (F 7) ∧ F 1 ≠ 0) ∧ (F 0 = 7 → oA b σ (F 8))
def oSc (a : Nat) (σ : CS) (F : Nat → Int) : Prop := oN σ (F 0) ∧ oN σ (F 1) ∧ oL σ (F 3) ∧ oS σ (F 4) ∧ F 4 < (a : Int)
def oSt (σ : CS) (F : Nat → Int) : Prop := (F 0 = 0 ∧ F 2 < 0) ∨ oK (F 0) (F 2) (F 3) (F 4) σ
def OI (b : Nat) (σ : CS) (a : Nat) : Prop := (c_tg σ a = 2 → oH σ (c_pv σ a)) ∧ (c_tg σ a = 4 → oLk a σ (c_pv σ a)) ∧ (c_tg σ a = 7 → oNd b σ (c_pv σ a)) ∧ (c_tg σ a = 9 → oSc a σ (c_pv σ a)) ∧ (c_tg σ a = 10 → oSt σ (c_pv σ a))
/-- what no word writes twice -/
def fz0 (b : Nat) (σ : CS) (a f : Nat) : Prop := (c_tg σ a = 7 ∧ (f = 6 ∨ f = 7 ∨ f = 8)) ∨ (c_tg σ a = 7 ∧ 4 ≤ c_pv σ a 0 ∧ f ≤ 1) ∨ (c_tg σ a = 22 ∧ b + 24 ≤ a) ∨ c_tg σ a = 4 ∨ c_tg σ a = 2 ∨ c_tg σ a = 9 ∨ (a = b + 16 ∧ f = 4) ∨ (a = b + 3 ∧ f = 10) ∨ (a = b + 0 ∧ f = 6)
/-- .. lists and statements too, but by the word that made them -/
def fz (b : Nat) (σ : CS) (a f : Nat) : Prop := fz0 b σ a f ∨ c_tg σ a = 10 ∨ c_tg σ a = 13 ∨ c_tg σ a = 23
/-- what a word leaves as it was -/
def Ext0 (b : Nat) (σ σ' : CS) : Prop := c_hp σ ≤ c_hp σ' ∧ (∀ a, c_tg σ a ≠ 0 → c_tg σ' a = c_tg σ a ∧ c_ln σ' a = c_ln σ a) ∧ ∀ a f, fz0 b σ a f → c_pv σ' a f = c_pv σ a f
def Ext (b : Nat) (σ σ' : CS) : Prop := c_hp σ ≤ c_hp σ' ∧ (∀ a, c_tg σ a ≠ 0 → c_tg σ' a = c_tg σ a ∧ c_ln σ' a = c_ln σ a) ∧ ∀ a f, fz b σ a f → c_pv σ' a f = c_pv σ a f
variable {b : Nat} {σ σ' σ'' : CS}
theorem Ext.refl : Ext b σ σ := ⟨Nat.le_refl _, fun _ _ => ⟨rfl, rfl⟩, fun _ _ _ => rfl⟩
theorem Ext.z (h : Ext b σ σ') : Ext0 b σ σ' := ⟨h.1, h.2.1, fun a f q => h.2.2 a f (Or.inl q)⟩
theorem fz0.up (h : Ext0 b σ σ') {a f : Nat} (k : fz0 b σ a f) : fz0 b σ' a f := by
  obtain ⟨h1, h2, h3⟩ := h
  have ht : c_tg σ a ≠ 0 → c_tg σ' a = c_tg σ a := fun q => (h2 a q).1
  unfold fz0 at k ⊢
  rcases k with k | k | k | k | k | k | k | k | k
  · rw [ht (by omega)]; omega
  · have e0 := h3 a 0 (Or.inr (Or.inl ⟨k.1, k.2.1, by omega⟩))
    rw [ht (by omega), e0]; omega
  · rw [ht (by omega)]; omega
  · rw [ht (by omega)]; omega
  · rw [ht (by omega)]; omega
  · rw [ht (by omega)]; omega
  · omega
  · omega
  · omega
theorem fz.up (h : Ext b σ σ') {a f : Nat} (k : fz b σ a f) : fz b σ' a f := by
  have ht : c_tg σ a ≠ 0 → c_tg σ' a = c_tg σ a := fun q => (h.2.1 a q).1
  rcases k with k | k
  · exact Or.inl (k.up h.z)
  · right; rw [ht (by omega)]; exact k
theorem Ext0.trans (h : Ext0 b σ σ') (k : Ext0 b σ' σ'') : Ext0 b σ σ'' := by
  refine ⟨Nat.le_trans h.1 k.1, fun a ha => ?_, fun a f hf => ?_⟩
  · have e := h.2.1 a ha
    have e2 := k.2.1 a (by rw [e.1]; exact ha)
    exact ⟨e2.1.trans e.1, e2.2.trans e.2⟩
  · exact (k.2.2 a f (hf.up h)).trans (h.2.2 a f hf)
theorem Ext.trans (h : Ext b σ σ') (k : Ext b σ' σ'') : Ext b σ σ'' := by
  refine ⟨Nat.le_trans h.1 k.1, fun a ha => ?_, fun a f hf => ?_⟩
  · have e := h.2.1 a ha
    have e2 := k.2.1 a (by rw [e.1]; exact ha)
    exact ⟨e2.1.trans e.1, e2.2.trans e.2⟩
  · exact (k.2.2 a f (hf.up h)).trans (h.2.2 a f hf)
/-- what this word made itself, it may fill -/
theorem Ext.own (h : Ext b σ σ') (k : Ext0 b σ' σ'') (hx : ∀ a f, (c_tg σ' a = 10 ∨ c_tg σ' a = 13 ∨ c_tg σ' a = 23) → c_tg σ a ≠ 0 → c_pv σ'' a f = c_pv σ' a f) : Ext b σ σ'' := by
  refine ⟨Nat.le_trans h.1 k.1, fun a ha => ?_, fun a f hf => ?_⟩
  · have e := h.2.1 a ha
    have e2 := k.2.1 a (by rw [e.1]; exact ha)
    exact ⟨e2.1.trans e.1, e2.2.trans e.2⟩
  · have e1 := h.2.2 a f hf
    rcases hf with q | q
    · exact (k.2.2 a f (q.up h.z)).trans e1
    · have hn : c_tg σ a ≠ 0 := by omega
      have ht := (h.2.1 a hn).1
      exact (hx a f (by rw [ht]; exact q) hn).trans e1
theorem Ext0.tg (h : Ext0 b σ σ') {a t : Nat} (ha : c_tg σ a = t) (ht : t ≠ 0) : c_tg σ' a = t := (h.2.1 a (by rw [ha]; exact ht)).1.trans ha
theorem Ext0.ln (h : Ext0 b σ σ') {a t : Nat} (ha : c_tg σ a = t) (ht : t ≠ 0) : c_ln σ' a = c_ln σ a := (h.2.1 a (by rw [ha]; exact ht)).2
theorem Ext0.lk (h : Ext0 b σ σ') {a : Nat} (ha : c_tg σ a = 4) (f : Nat) : c_pv σ' a f = c_pv σ a f := h.2.2 a f (by unfold fz0; omega)
theorem Ext0.hd (h : Ext0 b σ σ') {a : Nat} (ha : c_tg σ a = 2) (f : Nat) : c_pv σ' a f = c_pv σ a f := h.2.2 a f (by unfold fz0; omega)
theorem Ext0.sc (h : Ext0 b σ σ') {a : Nat} (ha : c_tg σ a = 9) (f : Nat) : c_pv σ' a f = c_pv σ a f := h.2.2 a f (by unfold fz0; omega)
theorem Ext.sm (h : Ext b σ σ') {a : Nat} (ha : c_tg σ a = 10) (f : Nat) : c_pv σ' a f = c_pv σ a f := h.2.2 a f (by unfold fz; omega)
theorem Ext.li (h : Ext b σ σ') {a : Nat} (ha : c_tg σ a = 13) (f : Nat) : c_pv σ' a f = c_pv σ a f := h.2.2 a f (by unfold fz; omega)
theorem Ext.ld (h : Ext b σ σ') {a : Nat} (ha : c_tg σ a = 23) (f : Nat) : c_pv σ' a f = c_pv σ a f := h.2.2 a f (by unfold fz; omega)
theorem Ext0.ar (h : Ext0 b σ σ') {a : Nat} (ha : c_tg σ a = 22) (hb : b + 24 ≤ a) (f : Nat) : c_pv σ' a f = c_pv σ a f := h.2.2 a f (by unfold fz0; omega)
theorem Ext0.nd (h : Ext0 b σ σ') {a : Nat} (ha : c_tg σ a = 7) (f : Nat) (hf : f = 6 ∨ f = 7 ∨ f = 8) : c_pv σ' a f = c_pv σ a f := h.2.2 a f (by unfold fz0; omega)
theorem Ext0.kd (h : Ext0 b σ σ') {a : Nat} (ha : c_tg σ a = 7) (hk : 4 ≤ c_pv σ a 0) : c_pv σ' a 0 = c_pv σ a 0 ∧ c_pv σ' a 1 = c_pv σ a 1 := ⟨h.2.2 a 0 (by unfold fz0; omega), h.2.2 a 1 (by unfold fz0; omega)⟩
theorem Ext0.wM (h : Ext0 b σ σ') : c_pv σ' (b + 16) 4 = c_pv σ (b + 16) 4 := h.2.2 _ _ (by unfold fz0; omega)
theorem Ext0.mC (h : Ext0 b σ σ') : c_pv σ' (b + 3) 10 = c_pv σ (b + 3) 10 := h.2.2 _ _ (by unfold fz0; omega)
theorem Ext0.tL (h : Ext0 b σ σ') : c_pv σ' (b + 0) 6 = c_pv σ (b + 0) 6 := h.2.2 _ _ (by unfold fz0; omega)
theorem Ext.tg (h : Ext b σ σ') {a t : Nat} (ha : c_tg σ a = t) (ht : t ≠ 0) : c_tg σ' a = t := h.z.tg ha ht
theorem Ext.ln (h : Ext b σ σ') {a t : Nat} (ha : c_tg σ a = t) (ht : t ≠ 0) : c_ln σ' a = c_ln σ a := h.z.ln ha ht
theorem Ext.wM (h : Ext b σ σ') : c_pv σ' (b + 16) 4 = c_pv σ (b + 16) 4 := h.z.wM
theorem Ext.mC (h : Ext b σ σ') : c_pv σ' (b + 3) 10 = c_pv σ (b + 3) 10 := h.z.mC
theorem Ext.tL (h : Ext b σ σ') : c_pv σ' (b + 0) 6 = c_pv σ (b + 0) 6 := h.z.tL
theorem oN.tg {x : Int} (h : oN σ x) : 0 ≤ x ∧ c_tg σ x.toNat = 7 := h
theorem oLn.tg {x : Int} (h : oLn σ x) : 0 ≤ x ∧ c_tg σ x.toNat = 4 := h
theorem oPn.tg {x : Int} (h : oPn σ x) : 0 ≤ x ∧ c_tg σ x.toNat = 4 := ⟨h.1, h.2.1⟩
theorem oSn.tg {x : Int} (h : oSn σ x) : 0 ≤ x ∧ c_tg σ x.toNat = 9 := h
theorem oHd.tg {x : Int} (h : oHd σ x) : 0 ≤ x ∧ c_tg σ x.toNat = 2 := h
theorem oB.tg {x : Int} (h : oB σ x) : 0 ≤ x ∧ c_tg σ x.toNat = 7 := h.1
theorem oU.tg {x : Int} (h : oU σ x) : 0 ≤ x ∧ c_tg σ x.toNat = 7 := h.1
theorem oPr.tg {x : Int} (h : oPr σ x) : 0 ≤ x ∧ c_tg σ x.toNat = 7 := h.1
theorem oA.tg {x : Int} (h : oA b σ x) : 0 ≤ x ∧ c_tg σ x.toNat = 22 := h.1
theorem oN.upz {x : Int} (h : oN σ x) (e : Ext0 b σ σ') : oN σ' x := ⟨h.1, e.tg h.2 (by decide)⟩
theorem oLn.upz {x : Int} (h : oLn σ x) (e : Ext0 b σ σ') : oLn σ' x := ⟨h.1, e.tg h.2 (by decide)⟩
theorem oSn.upz {x : Int} (h : oSn σ x) (e : Ext0 b σ σ') : oSn σ' x := ⟨h.1, e.tg h.2 (by decide)⟩
theorem oHd.upz {x : Int} (h : oHd σ x) (e : Ext0 b σ σ') : oHd σ' x := ⟨h.1, e.tg h.2 (by decide)⟩
theorem oPn.upz {x : Int} (h : oPn σ x) (e : Ext0 b σ σ') : oPn σ' x := ⟨h.1, e.tg h.2.1 (by decide), (e.lk h.2.1 0).trans h.2.2⟩
theorem oB.upz {x : Int} (h : oB σ x) (e : Ext0 b σ σ') : oB σ' x := by
  obtain ⟨h1, h2, h3⟩ := h
  have k := (e.kd h1.2 h2).1
  exact ⟨h1.upz e, by rw [k]; exact h2, by rw [k]; exact h3⟩
theorem oU.upz {x : Int} (h : oU σ x) (e : Ext0 b σ σ') : oU σ' x := by
  obtain ⟨h1, h2⟩ := h
  have k := (e.kd h1.2 (by omega)).1
  exact ⟨h1.upz e, by rw [k]; exact h2⟩
theorem oPr.upz {x : Int} (h : oPr σ x) (e : Ext0 b σ σ') : oPr σ' x := by
  obtain ⟨h1, h2⟩ := h
  have k := (e.kd h1.2 (by omega)).1
  exact ⟨h1.upz e, by rw [k]; exact h2⟩
theorem oNN.upz {x : Int} (h : oNN σ x) (e : Ext0 b σ σ') : oNN σ' x := Or.imp_right (fun q => q.upz e) h
theorem oL.upz {x : Int} (h : oL σ x) (e : Ext0 b σ σ') : oL σ' x := Or.imp_right (fun q => oLn.upz q e) h
theorem oS.upz {x : Int} (h : oS σ x) (e : Ext0 b σ σ') : oS σ' x := Or.imp_right (fun q => oSn.upz q e) h
theorem oP.upz {x : Int} (h : oP σ x) (e : Ext0 b σ σ') : oP σ' x := Or.imp_right (fun q => oPn.upz q e) h
theorem oA.upz {x : Int} (h : oA b σ x) (e : Ext0 b σ σ') : oA b σ' x := by
  obtain ⟨⟨h1, h2⟩, h3, h4, h5, h6⟩ := h
  have el := e.ln h2 (by decide)
  refine ⟨⟨h1, e.tg h2 (by decide)⟩, h3, by rw [el]; exact h4, by rw [el]; exact h5, fun i hi => ?_⟩
  rw [e.ar h2 h3]
  exact (h6 i (by rw [← el]; exact hi)).upz e
theorem oN.nn {x : Int} (h : oN σ x) : oNN σ x := Or.inr h
theorem oB.n {x : Int} (h : oB σ x) : oN σ x := h.1
theorem oU.n {x : Int} (h : oU σ x) : oN σ x := h.1
theorem oPr.n {x : Int} (h : oPr σ x) : oN σ x := h.1
theorem oPr.bb {x : Int} (h : oPr σ x) : oB σ x := ⟨h.1, by rw [h.2]; decide, by rw [h.2]; decide⟩
theorem oLn.l {x : Int} (h : oLn σ x) : oL σ x := Or.inr h
theorem oPn.ln {x : Int} (h : oPn σ x) : oLn σ x := h.tg
theorem oPn.p {x : Int} (h : oPn σ x) : oP σ x := Or.inr h
theorem oSn.s {x : Int} (h : oSn σ x) : oS σ x := Or.inr h
theorem oP.l {x : Int} (h : oP σ x) : oL σ x := Or.imp_right (fun q => oPn.ln q) h
theorem oNN.pos {x : Int} (h : oNN σ x) (c : 0 ≤ x) : oN σ x := h.resolve_left (by omega)
theorem oL.pos {x : Int} (h : oL σ x) (c : 0 ≤ x) : oLn σ x := h.resolve_left (by omega)
theorem oP.pos {x : Int} (h : oP σ x) (c : 0 ≤ x) : oPn σ x := h.resolve_left (by omega)
theorem oS.pos {x : Int} (h : oS σ x) (c : 0 ≤ x) : oSn σ x := h.resolve_left (by omega)
theorem oNN.nul {x : Int} (c : x < 0) : oNN σ x := Or.inl c
theorem oL.nul {x : Int} (c : x < 0) : oL σ x := Or.inl c
theorem oP.nul {x : Int} (c : x < 0) : oP σ x := Or.inl c
theorem oS.nul {x : Int} (c : x < 0) : oS σ x := Or.inl c
theorem oK.upz {k n f s : Int} (h : oK k n f s σ) (e : Ext0 b σ σ') : oK k n f s σ' := by
  obtain ⟨h1, h2, h3, h4, h5, h6, h7⟩ := h
  exact ⟨h1, fun q => (h2 q).upz e, fun q => (h3 q).upz e, fun q => (h4 q).upz e, fun q => (h5 q).upz e, fun q => (h6 q).upz e, h7.upz e⟩
theorem oH.upz {F : Nat → Int} (h : oH σ F) (e : Ext0 b σ σ') : oH σ' F := ⟨h.1.upz e, h.2.1, h.2.2.1.upz e, h.2.2.2.upz e⟩
theorem oLk.upz {a : Nat} {F : Nat → Int} (h : oLk a σ F) (e : Ext0 b σ σ') : oLk a σ' F := ⟨h.1, h.2.1.upz e, h.2.2.1.upz e, h.2.2.2.1, h.2.2.2.2.1.upz e, h.2.2.2.2.2.1, fun q => ⟨(h.2.2.2.2.2.2 q).1.upz e, (h.2.2.2.2.2.2 q).2.upz e⟩⟩
theorem oNd.upz {F : Nat → Int} (h : oNd b σ F) (e : Ext0 b σ σ') : oNd b σ' F := ⟨h.1, h.2.1, h.2.2.1, h.2.2.2.1, h.2.2.2.2.1, fun q => (h.2.2.2.2.2.1 q).upz e, fun q r => ⟨(h.2.2.2.2.2.2.1 q r).1.upz e, (h.2.2.2.2.2.2.1 q r).2⟩, fun q => (h.2.2.2.2.2.2.2 q).upz e⟩
theorem oSc.upz {a : Nat} {F : Nat → Int} (h : oSc a σ F) (e : Ext0 b σ σ') : oSc a σ' F := ⟨h.1.upz e, h.2.1.upz e, h.2.2.1.upz e, h.2.2.2.1.upz e, h.2.2.2.2⟩
theorem oSt.upz {F : Nat → Int} (h : oSt σ F) (e : Ext0 b σ σ') : oSt σ' F := Or.imp_right (fun q => oK.upz q e) h
theorem OI.up {a : Nat} (h : OI b σ a) (e : Ext0 b σ σ') (ht : c_tg σ' a = c_tg σ a) (hp : ∀ f, c_pv σ' a f = c_pv σ a f) : OI b σ' a := by
  have hf : c_pv σ' a = c_pv σ a := funext hp
  unfold OI
  rw [ht, hf]
  exact ⟨fun q => (h.1 q).upz e, fun q => (h.2.1 q).upz e, fun q => (h.2.2.1 q).upz e, fun q => (h.2.2.2.1 q).upz e, fun q => (h.2.2.2.2 q).upz e⟩
theorem oN.up {x : Int} (h : oN σ x) (e : Ext b σ σ') : oN σ' x := h.upz e.z
theorem oLn.up {x : Int} (h : oLn σ x) (e : Ext b σ σ') : oLn σ' x := h.upz e.z
theorem oSn.up {x : Int} (h : oSn σ x) (e : Ext b σ σ') : oSn σ' x := h.upz e.z
theorem oHd.up {x : Int} (h : oHd σ x) (e : Ext b σ σ') : oHd σ' x := h.upz e.z
theorem oPn.up {x : Int} (h : oPn σ x) (e : Ext b σ σ') : oPn σ' x := h.upz e.z
theorem oB.up {x : Int} (h : oB σ x) (e : Ext b σ σ') : oB σ' x := h.upz e.z
theorem oU.up {x : Int} (h : oU σ x) (e : Ext b σ σ') : oU σ' x := h.upz e.z
theorem oPr.up {x : Int} (h : oPr σ x) (e : Ext b σ σ') : oPr σ' x := h.upz e.z
theorem oNN.up {x : Int} (h : oNN σ x) (e : Ext b σ σ') : oNN σ' x := h.upz e.z
theorem oL.up {x : Int} (h : oL σ x) (e : Ext b σ σ') : oL σ' x := h.upz e.z
theorem oS.up {x : Int} (h : oS σ x) (e : Ext b σ σ') : oS σ' x := h.upz e.z
theorem oP.up {x : Int} (h : oP σ x) (e : Ext b σ σ') : oP σ' x := h.upz e.z
theorem oA.up {x : Int} (h : oA b σ x) (e : Ext b σ σ') : oA b σ' x := h.upz e.z
theorem oK.up {k n f s : Int} (h : oK k n f s σ) (e : Ext b σ σ') : oK k n f s σ' := h.upz e.z
theorem oH.up {F : Nat → Int} (h : oH σ F) (e : Ext b σ σ') : oH σ' F := h.upz e.z
theorem oLk.up {a : Nat} {F : Nat → Int} (h : oLk a σ F) (e : Ext b σ σ') : oLk a σ' F := h.upz e.z
theorem oNd.up {F : Nat → Int} (h : oNd b σ F) (e : Ext b σ σ') : oNd b σ' F := h.upz e.z
theorem oSc.up {a : Nat} {F : Nat → Int} (h : oSc a σ F) (e : Ext b σ σ') : oSc a σ' F := h.upz e.z
theorem oSt.up {F : Nat → Int} (h : oSt σ F) (e : Ext b σ σ') : oSt σ' F := h.upz e.z
/-- numbers in the single objects and rows: by place and field -/
def gr (i f : Nat) : Option (Int × Int) := match i, f with
  | 16, 3 => some (0, 60000)
  | 16, 4 => some (1, 20000)
  | 16, 7 => some (0, 2000000000)
  | 17, _ => some (0, 60000)
  | 4, 2 => some (0, 8)
  | 9, 2 => some (0, 100)
  | 6, _ => some (0, 12)
  | 11, _ => some (0, 12)
  | 3, 10 => some (0, 20)
  | 3, 3 => some (0, 1000000000)
  | 3, 4 => some (0, 1000000000)
  | 15, _ => some (0, 100)
  | 19, 5 => some (0, 4000)
  | 19, 6 => some (0, 4001)
  | 19, 8 => some (0, 4000)
  | 19, 9 => some (0, 4000)
  | 19, 10 => some (0, 1000000000)
  | 19, 7 => some (-1000, 1000)
  | 20, _ => some (-1000, 1000)
  | 0, 9 => some (0, 1000000000)
  | 7, _ => some (-1, 100)
  | 8, _ => some (-1, 100)
  | 21, _ => some (0, 4000)
  | 22, _ => some (0, 4000)
  | 0, 6 => some (0, 4000)
  | 2, 0 => some (0, 14)
  | _, _ => none
def g_num (b : Nat) (σ : CS) : Prop := (∀ i f lo hi, i < 24 → gr i f = some (lo, hi) → lo ≤ c_pv σ (b + i) f ∧ c_pv σ (b + i) f ≤ hi) ∧ ∀ i, c_pv σ (b + 17) i ≤ c_pv σ (b + 16) 3
def g_hw (b : Nat) (σ : CS) : Prop := (∀ i, i < 100 → oNN σ (c_pv σ (b + 12) i)) ∧ (∀ i, i < 100 → oNN σ (c_pv σ (b + 13) i)) ∧ ∃ hw : Nat, hw ≤ 100 ∧ c_pv σ (b + 9) 2 ≤ (hw : Int) ∧ (∀ i, i < 20 → 0 ≤ c_pv σ (b + 15) i ∧ c_pv σ (b + 15) i ≤ (hw : Int)) ∧ ∀ i, i < hw → oN σ (c_pv σ (b + 12) i)
def g_tag (b : Nat) (σ : CS) : Prop := ∀ i, i < 24 → c_tg σ (b + i) = gT.getD i 0 ∧ c_ln σ (b + i) = gL.getD i 0
def g_fin (b : Nat) (σ : CS) : Prop := ∀ q ∈ gF, c_pv σ (b + q.1) q.2.1 = ((b + q.2.2 : Nat) : Int)
/-- the one row of statics that stands below: its signs -/
def gC : List Int := [116, 121, 112, 101, 107, 105, 110, 100]
def g_sta (bd : cBd) (b : Nat) (σ : CS) : Prop := (c_tg σ (bd.2.2 20) = 20 ∧ c_ln σ (bd.2.2 20) = 8 ∧ bd.2.2 20 < b ∧ ∀ i, i < 8 → c_pv σ (bd.2.2 20) i = gC.getD i 0) ∧ (c_tg σ (bd.2.2 21) = 23 ∧ c_ln σ (bd.2.2 21) = 0 ∧ bd.2.2 21 < b) ∧ (∀ i, bd.2.2 i < 2147483647) ∧ (∀ a, c_tg σ a ≠ 0 → a < c_hp σ) ∧ b + 24 ≤ c_hp σ ∧ bd.1 < 1000000 ∧ (bd.2.2 0 ≠ bd.2.2 1 ∧ bd.2.2 0 ≠ bd.2.2 2 ∧ bd.2.2 1 ≠ bd.2.2 2)
def GG (bd : cBd) (b : Nat) (σ : CS) : Prop := g_tag b σ ∧ g_fin b σ ∧ g_num b σ ∧ g_hw b σ ∧ (∀ a, OI b σ a) ∧ (∀ a f, inR (c_pv σ a f)) ∧ g_sta bd b σ
end CIA
