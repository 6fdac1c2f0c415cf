/-! what stands in the class's heap between its words -/
section CIA
/-- the single objects and rows of a house, by their places behind it: tags, lengths, the references that stay -/
def gT : List Nat := [12, 20, 11, 1, 6, 20, 21, 21, 21, 6, 20, 21, 22, 22, 21, 21, 5, 21, 20, 8, 21, 21, 21, 3]
def gL : List Nat := [10, 4000, 2, 11, 3, 96, 8, 8, 64, 3, 1200, 100, 100, 100, 100, 20, 8, 7, 3000, 11, 4001, 4001, 4001, 5]
def gF : List (Nat × Nat × Nat) := [(0, 0, 1), (0, 1, 2), (0, 2, 3), (0, 3, 16), (0, 4, 19), (0, 5, 23), (3, 0, 4), (3, 1, 7), (3, 2, 8), (3, 5, 9), (3, 6, 12), (3, 7, 13), (3, 8, 14), (3, 9, 15), (4, 0, 5), (4, 1, 6), (9, 0, 10), (9, 1, 11), (16, 0, 3), (16, 1, 2), (16, 2, 17), (16, 6, 18), (19, 0, 1), (19, 1, 2), (19, 2, 20), (19, 3, 21), (19, 4, 22), (23, 0, 1), (23, 1, 3), (23, 2, 16), (23, 3, 2)]
def oN (σ : CS) (x : Int) : Prop := 0 ≤ x ∧ c_tg σ x.toNat = 7
def oL (σ : CS) (x : Int) : Prop := x < 0 ∨ (0 ≤ x ∧ c_tg σ x.toNat = 4)
def oP (σ : CS) (x : Int) : Prop := x < 0 ∨ (0 ≤ x ∧ c_tg σ x.toNat = 4 ∧ c_pv σ x.toNat 0 = 0)
def oNN (σ : CS) (x : Int) : Prop := x < 0 ∨ oN σ x
def oS (σ : CS) (x : Int) : Prop := x < 0 ∨ (0 ≤ x ∧ c_tg σ x.toNat = 9)
def oA (b : Nat) (σ : CS) (x : Int) : Prop := 0 ≤ x ∧ c_tg σ x.toNat = 22 ∧ b + 24 ≤ x.toNat ∧ 1 ≤ c_ln σ x.toNat ∧ c_ln σ x.toNat ≤ 100000 ∧ ∀ i, i < c_ln σ x.toNat → oN σ (c_pv σ x.toNat i)
def oid (x : Int) : Prop := -1000000 ≤ x ∧ x ≤ 1000000000
def oK (k n f s : Int) (σ : CS) : Prop := 0 ≤ k ∧ k ≤ 8 ∧ (k = 0 → oN σ n) ∧ (k = 1 → oN σ n ∧ oN σ f) ∧ (k = 2 → oN σ n ∧ oN σ f ∧ oN σ s) ∧ (k = 3 → oN σ f) ∧ (k = 4 → oN σ f) ∧ (k = 5 → oN σ f ∧ oN σ s) ∧ (k = 6 → oN σ f) ∧ (k = 7 → oN σ n ∧ oN σ f) ∧ (k = 8 → oN σ n ∧ oN σ f) ∧ oNN σ n ∧ oNN σ f ∧ oNN σ s
/-- an object's fields, by its tag -/
def oH (σ : CS) (F : Nat → Int) : Prop := oN σ (F 0) ∧ oid (F 1) ∧ oL σ (F 2) ∧ oP σ (F 3)
def oLk (a : Nat) (σ : CS) (F : Nat → Int) : Prop := oid (F 0) ∧ oNN σ (F 1) ∧ oL σ (F 2) ∧ oid (F 3) ∧ oL σ (F 4) ∧ F 4 < (a : Int) ∧ (F 0 = 0 → oN σ (F 1) ∧ oP σ (F 4))
def oNd (b : Nat) (σ : CS) (F : Nat → Int) : Prop := (0 ≤ F 0 ∧ F 0 ≤ 7) ∧ oid (F 1) ∧ (0 ≤ F 4 ∧ F 4 ≤ 5000) ∧ (0 ≤ F 5 ∧ F 5 ≤ 5000) ∧ (F 0 ≤ 3 → F 6 < 0) ∧ (4 ≤ F 0 → oN σ (F 6)) ∧ (4 ≤ F 0 → F 0 ≤ 6 → oN σ (F 7) ∧ F 1 ≠ 0) ∧ (F 0 = 7 → oA b σ (F 8))
def oSc (a : Nat) (σ : CS) (F : Nat → Int) : Prop := oN σ (F 0) ∧ oN σ (F 1) ∧ oL σ (F 3) ∧ oS σ (F 4) ∧ F 4 < (a : Int)
def oSt (σ : CS) (F : Nat → Int) : Prop := oK (F 0) (F 2) (F 3) (F 4) σ
def OI (b : Nat) (σ : CS) (a : Nat) : Prop := (c_tg σ a = 2 → oH σ (c_pv σ a)) ∧ (c_tg σ a = 4 → oLk a σ (c_pv σ a)) ∧ (c_tg σ a = 7 → oNd b σ (c_pv σ a)) ∧ (c_tg σ a = 9 → oSc a σ (c_pv σ a)) ∧ (c_tg σ a = 10 → oSt σ (c_pv σ a))
/-- what a word leaves as it was -/
def Ext (b : Nat) (σ σ' : CS) : Prop := c_hp σ ≤ c_hp σ' ∧ (∀ a, c_tg σ a ≠ 0 → c_tg σ' a = c_tg σ a ∧ c_ln σ' a = c_ln σ a) ∧ (∀ a, c_tg σ a = 7 → ∀ f, f = 6 ∨ f = 7 ∨ f = 8 → c_pv σ' a f = c_pv σ a f) ∧ (∀ a, c_tg σ a = 22 → b + 24 ≤ a → ∀ i, c_pv σ' a i = c_pv σ a i) ∧ (∀ a, c_tg σ a = 4 → ∀ f, c_pv σ' a f = c_pv σ a f)
variable {b : Nat} {σ σ' σ'' : CS}
theorem Ext.refl : Ext b σ σ := ⟨Nat.le_refl _, fun _ _ => ⟨rfl, rfl⟩, fun _ _ _ _ => rfl, fun _ _ _ _ => rfl, fun _ _ _ => rfl⟩
theorem Ext.trans (h : Ext b σ σ') (k : Ext b σ' σ'') : Ext b σ σ'' := by
  obtain ⟨h1, h2, h3, h4, h5⟩ := h
  obtain ⟨k1, k2, k3, k4, k5⟩ := k
  refine ⟨Nat.le_trans h1 k1, fun a ha => ?_, fun a ha f hf => ?_, fun a ha hb i => ?_, fun a ha f => ?_⟩
  · have e := h2 a ha
    have e2 := k2 a (by rw [e.1]; exact ha)
    exact ⟨e2.1.trans e.1, e2.2.trans e.2⟩
  · have e := (h2 a (by rw [ha]; decide)).1
    exact (k3 a (e.trans ha) f hf).trans (h3 a ha f hf)
  · have e := (h2 a (by rw [ha]; decide)).1
    exact (k4 a (e.trans ha) hb i).trans (h4 a ha hb i)
  · have e := (h2 a (by rw [ha]; decide)).1
    exact (k5 a (e.trans ha) f).trans (h5 a ha f)
theorem Ext.tg (h : Ext b σ σ') {a t : Nat} (ha : c_tg σ a = t) (ht : t ≠ 0) : c_tg σ' a = t := (h.2.1 a (by rw [ha]; exact ht)).1.trans ha
theorem Ext.ln (h : Ext b σ σ') {a t : Nat} (ha : c_tg σ a = t) (ht : t ≠ 0) : c_ln σ' a = c_ln σ a := (h.2.1 a (by rw [ha]; exact ht)).2
theorem oN.up {x : Int} (h : oN σ x) (e : Ext b σ σ') : oN σ' x := ⟨h.1, e.tg h.2 (by decide)⟩
theorem oNN.up {x : Int} (h : oNN σ x) (e : Ext b σ σ') : oNN σ' x := by
  rcases h with h | h
  · exact Or.inl h
  · exact Or.inr (h.up e)
theorem oL.up {x : Int} (h : oL σ x) (e : Ext b σ σ') : oL σ' x := by
  rcases h with h | h
  · exact Or.inl h
  · exact Or.inr ⟨h.1, e.tg h.2 (by decide)⟩
theorem oS.up {x : Int} (h : oS σ x) (e : Ext b σ σ') : oS σ' x := by
  rcases h with h | h
  · exact Or.inl h
  · exact Or.inr ⟨h.1, e.tg h.2 (by decide)⟩
theorem oP.up {x : Int} (h : oP σ x) (e : Ext b σ σ') : oP σ' x := by
  rcases h with h | ⟨h1, h2, h3⟩
  · exact Or.inl h
  · exact Or.inr ⟨h1, e.tg h2 (by decide), by rw [e.2.2.2.2 _ h2]; exact h3⟩
theorem oA.up {x : Int} (h : oA b σ x) (e : Ext b σ σ') : oA b σ' x := by
  obtain ⟨h1, h2, h3, h4, h5, h6⟩ := h
  have el := e.ln h2 (by decide)
  refine ⟨h1, e.tg h2 (by decide), h3, by rw [el]; exact h4, by rw [el]; exact h5, fun i hi => ?_⟩
  rw [e.2.2.2.1 _ h2 h3]
  exact (h6 i (by rw [← el]; exact hi)).up e
theorem oN.nn {x : Int} (h : oN σ x) : oNN σ x := Or.inr h
theorem oP.l {x : Int} (h : oP σ x) : oL σ x := by
  rcases h with h | h
  · exact Or.inl h
  · exact Or.inr ⟨h.1, h.2.1⟩
theorem oK.up {k n f s : Int} (h : oK k n f s σ) (e : Ext b σ σ') : oK k n f s σ' := by
  obtain ⟨h1, h2, h3, h4, h5, h6, h7, h8, h9, h10, h11, h12, h13, h14⟩ := h
  exact ⟨h1, h2, fun q => (h3 q).up e, fun q => ⟨(h4 q).1.up e, (h4 q).2.up e⟩, fun q => ⟨(h5 q).1.up e, (h5 q).2.1.up e, (h5 q).2.2.up e⟩, fun q => (h6 q).up e, fun q => (h7 q).up e, fun q => ⟨(h8 q).1.up e, (h8 q).2.up e⟩, fun q => (h9 q).up e, fun q => ⟨(h10 q).1.up e, (h10 q).2.up e⟩, fun q => ⟨(h11 q).1.up e, (h11 q).2.up e⟩, h12.up e, h13.up e, h14.up e⟩
theorem oH.up {F : Nat → Int} (h : oH σ F) (e : Ext b σ σ') : oH σ' F := ⟨h.1.up e, h.2.1, h.2.2.1.up e, h.2.2.2.up e⟩
theorem oLk.up {a : Nat} {F : Nat → Int} (h : oLk a σ F) (e : Ext b σ σ') : oLk a σ' F := ⟨h.1, h.2.1.up e, h.2.2.1.up e, h.2.2.2.1, h.2.2.2.2.1.up e, h.2.2.2.2.2.1, fun q => ⟨(h.2.2.2.2.2.2 q).1.up e, (h.2.2.2.2.2.2 q).2.up e⟩⟩
theorem oNd.up {F : Nat → Int} (h : oNd b σ F) (e : Ext b σ σ') : oNd b σ' F := ⟨h.1, h.2.1, h.2.2.1, h.2.2.2.1, h.2.2.2.2.1, fun q => (h.2.2.2.2.2.1 q).up e, fun q r => ⟨(h.2.2.2.2.2.2.1 q r).1.up e, (h.2.2.2.2.2.2.1 q r).2⟩, fun q => (h.2.2.2.2.2.2.2 q).up e⟩
theorem oSc.up {a : Nat} {F : Nat → Int} (h : oSc a σ F) (e : Ext b σ σ') : oSc a σ' F := ⟨h.1.up e, h.2.1.up e, h.2.2.1.up e, h.2.2.2.1.up e, h.2.2.2.2⟩
theorem OI.up {a : Nat} (h : OI b σ a) (e : Ext b σ σ') (ht : c_tg σ' a = c_tg σ a) (hp : c_tg σ a = 2 ∨ c_tg σ a = 4 ∨ c_tg σ a = 7 ∨ c_tg σ a = 9 ∨ c_tg σ a = 10 → ∀ f, c_pv σ' a f = c_pv σ a f) : OI b σ' a := by
  have hf : c_tg σ a = 2 ∨ c_tg σ a = 4 ∨ c_tg σ a = 7 ∨ c_tg σ a = 9 ∨ c_tg σ a = 10 → c_pv σ' a = c_pv σ a := fun q => funext (hp q)
  unfold OI
  rw [ht]
  refine ⟨fun q => ?_, fun q => ?_, fun q => ?_, fun q => ?_, fun q => ?_⟩
  · rw [hf (by omega)]; exact (h.1 q).up e
  · rw [hf (by omega)]; exact (h.2.1 q).up e
  · rw [hf (by omega)]; exact (h.2.2.1 q).up e
  · rw [hf (by omega)]; exact (h.2.2.2.1 q).up e
  · rw [hf (by omega)]; exact oK.up (h.2.2.2.2 q) e
/-- numbers in the single objects and rows: by place and field -/
def gr (i f : Nat) : Option (Int × Int) := match i, f with
  | 16, 3 => some (0, 60000)
  | 16, 4 => some (1, 20000)
  | 16, 7 => some (0, 2000000000)
  | 17, _ => some (0, 60000)
  | 4, 2 => some (0, 8)
  | 9, 2 => some (0, 100)
  | 6, _ => some (0, 12)
  | 11, _ => some (0, 12)
  | 3, 10 => some (0, 20)
  | 3, 3 => some (0, 1000000000)
  | 3, 4 => some (0, 1000000000)
  | 15, _ => some (0, 100)
  | 19, 5 => some (0, 4000)
  | 19, 6 => some (0, 4001)
  | 19, 8 => some (0, 4000)
  | 19, 9 => some (0, 4000)
  | 19, 10 => some (0, 1000000000)
  | 21, _ => some (0, 4000)
  | 22, _ => some (0, 4000)
  | 0, 6 => some (0, 4000)
  | 2, 0 => some (0, 14)
  | _, _ => none
def g_num (b : Nat) (σ : CS) : Prop := (∀ i f lo hi, i < 24 → gr i f = some (lo, hi) → lo ≤ c_pv σ (b + i) f ∧ c_pv σ (b + i) f ≤ hi) ∧ ∀ i, c_pv σ (b + 17) i ≤ c_pv σ (b + 16) 3
def g_hw (b : Nat) (σ : CS) : Prop := (∀ i, i < 100 → oNN σ (c_pv σ (b + 12) i)) ∧ (∀ i, i < 100 → oNN σ (c_pv σ (b + 13) i)) ∧ ∃ hw : Nat, hw ≤ 100 ∧ c_pv σ (b + 9) 2 ≤ (hw : Int) ∧ (∀ i, i < 20 → 0 ≤ c_pv σ (b + 15) i ∧ c_pv σ (b + 15) i ≤ (hw : Int)) ∧ ∀ i, i < hw → oN σ (c_pv σ (b + 12) i)
def g_tag (b : Nat) (σ : CS) : Prop := ∀ i, i < 24 → c_tg σ (b + i) = gT.getD i 0 ∧ c_ln σ (b + i) = gL.getD i 0
def g_fin (b : Nat) (σ : CS) : Prop := ∀ q ∈ gF, c_pv σ (b + q.1) q.2.1 = ((b + q.2.2 : Nat) : Int)
def g_sta (bd : cBd) (b : Nat) (σ : CS) : Prop := (c_tg σ (bd.2.2 20) = 20 ∧ c_ln σ (bd.2.2 20) = 8 ∧ bd.2.2 20 < b) ∧ (c_tg σ (bd.2.2 21) = 23 ∧ c_ln σ (bd.2.2 21) = 0 ∧ bd.2.2 21 < b) ∧ (∀ i, bd.2.2 i < 2147483647) ∧ (∀ a, c_tg σ a ≠ 0 → a < c_hp σ) ∧ b + 24 ≤ c_hp σ ∧ bd.1 < 2147483647 ∧ (bd.2.2 0 ≠ bd.2.2 1 ∧ bd.2.2 0 ≠ bd.2.2 2 ∧ bd.2.2 1 ≠ bd.2.2 2)
def GG (bd : cBd) (b : Nat) (σ : CS) : Prop := g_tag b σ ∧ g_fin b σ ∧ g_num b σ ∧ g_hw b σ ∧ (∀ a, OI b σ a) ∧ (∀ a f, inR (c_pv σ a f)) ∧ g_sta bd b σ
end CIA
