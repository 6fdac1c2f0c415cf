section LWK
/-! the start: what the premise gives -/
def lw_fl : List Cond := flatC (Jvm.Cond.and given_1 narrow_1)
theorem lw_fa {a : Array Value} {s : State} (h : (Jvm.Cond.and given_1 narrow_1).before a s = true) (k : Nat) {w : Cond} (hk : lw_fl[k]? = some w) : w.before a s = true := flat_of_before _ h _ (List.mem_of_getElem? hk)
theorem lw_run {a : Array Value} {s : State} (h : (Jvm.Cond.and given_1 narrow_1).before a s = true) (k n : Nat) (mk : Nat → Cond) (hk : (List.range n).map (fun j => lw_fl[k + j]?) = (List.range n).map (fun j => some (mk j))) : ∀ j, j < n → (mk j).before a s = true := by
  intro j hj
  have h1 := congrArg (fun l : List (Option Cond) => l[j]?) hk
  simp [hj] at h1
  exact lw_fa h (k + j) h1
theorem lw_len31 {a : Array Value} {s : State} {t : Term} {w : Value} (h : (Term.length t).eval a s none [] s = some w) : ∃ (q : Nat) (cell : Cell), t.eval a s none [] s = some (.ref q) ∧ s.arrayAt? q = some cell ∧ w = .int cell.slots.size.toInt32 ∧ cell.slots.size < 2 ^ 31 := by
  obtain ⟨q, cell, h1, h2, h3⟩ := Term.length_spec h
  refine ⟨q, cell, h1, h2, h3, ?_⟩
  by_cases h4 : cell.slots.size < 2 ^ 31
  · exact h4
  · simp only [Term.eval, h1] at h
    have h5 : ¬ cell.slots.size < 2147483648 := h4
    simp [h2, h5] at h
theorem lw_size {n N : Nat} (hn : n < 2 ^ 31) (hN : N < 2 ^ 31) (h : Value.int n.toInt32 = .int (Int32.ofNat N)) : n = N := by
  have h1 : rI (n : Int) = rI (N : Int) := by rw [← rI_nat hn, ← rI_nat hN]; exact Value.int.inj h
  have h2 := (rI_eq ⟨by omega, by omega⟩ ⟨by omega, by omega⟩).mp h1
  omega
/-- a row that the premise tells whole -/
theorem lw_row {a : Array Value} {s : State} {t : Term} {ty : FieldType} {N : Nat} {f : Nat → Value} (hN : N < 2 ^ 31) (harr : (Cond.arrayOf t ty).before a s = true) (hlen : (Cond.eq (.length t) (.int (Int32.ofNat N))).before a s = true) (hel : ∀ j, j < N → (Term.elem t (.int (Int32.ofNat j))).eval a s none [] s = some (f j)) :
    ∃ (q : Nat) (cell : Cell), t.eval a s none [] s = some (.ref q) ∧ s.heap[q]? = some cell ∧ s.isArrayOf cell ty ∧ cw_ar cell cell.cls N f := by
  obtain ⟨q, cell, h1, h2, h3, h4⟩ := lw_len31 (va_eqt hlen)
  have hsz := lw_size h4 hN h3.symm
  obtain ⟨hc, hk, hs, -⟩ := State.arrayAt?_spec h2
  obtain ⟨hof, -⟩ := Cond.arrayOf_spec harr h1 hc
  refine ⟨q, cell, h1, hc, hof, rfl, ?_, hk, hof.1⟩
  apply Array.ext
  · rw [arrV_size, hsz]
  · intro i hi1 hi2
    have hi : i < N := by omega
    obtain ⟨q', j, cell', g1, g2, g3, g4, g5⟩ := Term.elem_spec (hel i hi)
    cases h1.symm.trans g1
    cases h2.symm.trans g3
    have hj : j = Int32.ofNat i := by cases g2; rfl
    have hj2 : j.toNatClampNeg = i := by rw [hj, rI_nat (by omega), rI_cl ⟨by omega, by omega⟩, Int.toNat_natCast]
    rw [hj2] at g5
    have g6 := arrV_read (cell.cls) f hi
    rw [Array.getElem?_eq_getElem hi1] at g5
    rw [Array.getElem?_eq_getElem hi2] at g6
    exact Option.some.inj (g5.trans g6.symm)
theorem va_Z.wide {C n d : String} {v : Value} {A A' : Nat → Prop} {U : State} {H : Heap} (h : va_Z C n d v A U H) (hA : ∀ (a : Nat) (cell : Cell), H[a]? = some cell → cell.vm.isStatics = true → ¬ A' a) : va_Z C n d v A' U H := by
  obtain ⟨cf, kf, fi, f, a, cell, h1, h2, h3, h4, h5, h6, h7, h8⟩ := h
  exact ⟨cf, kf, fi, f, a, cell, h1, h2, h3, h4, h5, h6, h7, hA a cell h5 h6⟩
theorem va_Zq.wide {C n d : String} {A A' : Nat → Prop} {U : State} {H : Heap} (h : va_Zq C n d A U H) (hA : ∀ (a : Nat) (cell : Cell), H[a]? = some cell → cell.vm.isStatics = true → ¬ A' a) : va_Zq C n d A' U H := by
  rcases h with g | ⟨t, g⟩
  · exact Or.inl (g.wide hA)
  · exact Or.inr ⟨t, g.wide hA⟩
theorem vx_Zq.wide {C n d : String} {A A' : Nat → Prop} {U : State} {H : Heap} (h : vx_Zq C n d A U H) (hA : ∀ (a : Nat) (cell : Cell), H[a]? = some cell → cell.vm.isStatics = true → ¬ A' a) : vx_Zq C n d A' U H := by
  refine ⟨va_Zq.wide h.1 hA, ?_⟩
  obtain ⟨c, k, i, f, a, cell, h1, h2, h3, h4, h5, h6, h7, h8, h9, h10⟩ := h.2
  exact ⟨c, k, i, f, a, cell, h1, h2, h3, h4, h5, h6, h7, h8, h9, hA a cell h5 h6⟩
theorem vk_S.wide {A A' : Nat → Prop} {N : Nat} {len : List Nat} {byt : List (List Int32)} {adK adV bdK bdV : Nat → Nat} {U : State} {H : Heap} (h : vk_S N len byt adK adV A U H) (eK : ∀ i, i < N → bdK i = adK i) (eV : ∀ i, i < N → bdV i = adV i)
    (h2 : ∀ (a : Nat) (cell : Cell) (k r : Nat), H[a]? = some cell → cell.slots[k]? = some (.ref r) → ¬ A' a) (h3 : ∀ i, i < N → ∀ (a : Nat) (cell : Cell), H[a]? = some cell → len.getD i 0 ≤ cell.slots.size → cell.slots.size.toInt32 = Int32.ofNat (len.getD i 0) → ¬ A' a) : vk_S N len byt bdK bdV A' U H := by
  refine ⟨fun i hi => ?_, fun i j hi hj e => h.2 i j hi hj (by rw [← eK i hi, ← eK j hj]; exact e)⟩
  rw [eK i hi, eV i hi]
  obtain ⟨⟨c1, a1, a2, a3, a4⟩, ⟨cf, k, i1, f, c2, b1, b2, b3, b4, b5, b6⟩, ⟨cf', k', i1', f', c2', b1', b2', b3', b4', b5', b6'⟩, ⟨c3, d1, d2, d3, d4, d5, d6, d7⟩⟩ := h.1 i hi
  have hn := h2 _ _ _ _ b3' b5'
  exact ⟨⟨c1, a1, a2, a3, hn⟩, ⟨cf, k, i1, f, c2, b1, b2, b3, b4, b5, hn⟩, ⟨cf', k', i1', f', c2', b1', b2', b3', b4', b5', hn⟩, ⟨c3, d1, d2, d3, d4, d5, d6, h3 i hi _ _ d1 d4 d5⟩⟩
theorem lw_arT {s : State} {c : ClassId} {k : Class} {comp : ClassId} {ty : FieldType} (h1 : s.vm.classes[c]? = some k) (h2 : k.kind = .array comp ty) : ArrOfT s c ty := fun n z => ⟨(fun q => by intro h; cases h), k, h1, comp, h2⟩
theorem lw_arC {s : State} {cell : Cell} {ty : FieldType} (h : s.isArrayOf cell ty) : ArrOfT s cell.cls ty := fun n z => ⟨(fun q => by intro h; cases h), h.2⟩
/-- what the law starts with, as a pure word's world -/
def lw_σ : CS := (fun a => if a = 20 then 20 else if a = 21 then 23 else 0, fun a f => if a = 20 then gC.getD f 0 else 0, fun a => if a = 20 then 8 else 0, 100, 0)
theorem lw_σ_tg {a : Nat} (h : c_tg lw_σ a ≠ 0) : a = 20 ∨ a = 21 := by
  by_cases h1 : a = 20
  · exact Or.inl h1
  · by_cases h2 : a = 21
    · exact Or.inr h2
    · exact absurd (show c_tg lw_σ a = 0 by show (if a = 20 then 20 else if a = 21 then 23 else 0) = 0; rw [if_neg h1, if_neg h2]) h
theorem lw_gC : ∀ i, inR (gC.getD i 0) := by
  intro i
  by_cases h : i < 8
  · exact (show ∀ i, i < 8 → inR (gC.getD i 0) from by decide +kernel) i h
  · have : gC.getD i 0 = 0 := by rw [List.getD_eq_getElem?_getD, List.getElem?_eq_none (by show gC.length ≤ i; have : gC.length = 8 := rfl; omega)]; rfl
    rw [this]; exact inR_0
end LWK
