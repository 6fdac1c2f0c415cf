section CLA
variable {bd : cBd} {b d : Nat} {σ σ1 σ2 σ3 : CS} {Q : CS → Nat → Int → Prop} {k s o z : Nat}
theorem s_has (hd : 6 ≤ d) (h : GG bd b σ) {i : Nat} (hi : i = 4 ∨ i = 9) (x : Int) : sf (RC bd d 100 σ [((b + i : Nat) : Int), x]) (fun σ' kd r => kd = 0 ∧ σ' = σ ∧ ((r = 0 ∧ ¬ (0 ≤ x ∧ x < c_pv σ (b + i) 2)) ∨ (r = 1 ∧ 0 ≤ x ∧ x < c_pv σ (b + i) 2))) := by
  have ht : c_tg σ (b + i) = 6 := by
    rcases hi with rfl | rfl
    · exact h.tg 4
    · exact h.tg 9
  obtain ⟨d, rfl⟩ : ∃ d0, d = d0 + 1 := ⟨d - 1, by omega⟩
  rw [rc_X5_has (by omega)]
  refine sf_fin ?_
  unfold pc_X5_has_0
  refine sf_if (fun c => ?_) (fun c => ?_)
  · exact sf_bo (Or.inl rfl) (sf_some ⟨⟨by decide, by decide⟩, rfl, rfl, Or.inl ⟨rfl, by omega⟩⟩)
  refine sf_gN ht ?_
  refine sf_if (fun c2 => ?_) (fun c2 => ?_)
  · exact sf_bo (Or.inl rfl) (sf_some ⟨⟨by decide, by decide⟩, rfl, rfl, Or.inl ⟨rfl, by omega⟩⟩)
  · exact sf_bo (Or.inr rfl) (sf_some ⟨⟨by decide, by decide⟩, rfl, rfl, Or.inr ⟨rfl, by omega, by omega⟩⟩)
theorem s_isFull4 (hd : 6 ≤ d) (h : GG bd b σ) : sf (RC bd d 102 σ [((b + 4 : Nat) : Int)]) (fun σ' kd r => kd = 0 ∧ σ' = σ ∧ ((r = 0 ∧ c_pv σ (b + 4) 2 < 8) ∨ (r = 1 ∧ 8 ≤ c_pv σ (b + 4) 2))) := by
  obtain ⟨d, rfl⟩ : ∃ d0, d = d0 + 1 := ⟨d - 1, by omega⟩
  rw [rc_X5_isFull (by omega)]
  refine sf_fin ?_
  unfold pc_X5_isFull_0
  refine sf_gN (h.tg 4) ?_
  refine sf_gN (h.tg 4) ?_
  rw [h.fi 15 (i := 4) (f := 1) (j := 6)]
  refine sf_lN (h.tg 6) (by rw [h.ln 6]; decide) ?_
  rw [h.ln 6 (n := 8)]
  refine sf_if (fun c => ?_) (fun c => ?_)
  · exact sf_bo (Or.inl rfl) (sf_some ⟨⟨by decide, by decide⟩, rfl, rfl, Or.inl ⟨rfl, by omega⟩⟩)
  · exact sf_bo (Or.inr rfl) (sf_some ⟨⟨by decide, by decide⟩, rfl, rfl, Or.inr ⟨rfl, by omega⟩⟩)
theorem s_isFull9 (hd : 6 ≤ d) (h : GG bd b σ) : sf (RC bd d 102 σ [((b + 9 : Nat) : Int)]) (fun σ' kd r => kd = 0 ∧ σ' = σ ∧ ((r = 0 ∧ c_pv σ (b + 9) 2 < 100) ∨ (r = 1 ∧ 100 ≤ c_pv σ (b + 9) 2))) := by
  obtain ⟨d, rfl⟩ : ∃ d0, d = d0 + 1 := ⟨d - 1, by omega⟩
  rw [rc_X5_isFull (by omega)]
  refine sf_fin ?_
  unfold pc_X5_isFull_0
  refine sf_gN (h.tg 9) ?_
  refine sf_gN (h.tg 9) ?_
  rw [h.fi 17 (i := 9) (f := 1) (j := 11)]
  refine sf_lN (h.tg 11) (by rw [h.ln 11]; decide) ?_
  rw [h.ln 11 (n := 100)]
  refine sf_if (fun c => ?_) (fun c => ?_)
  · exact sf_bo (Or.inl rfl) (sf_some ⟨⟨by decide, by decide⟩, rfl, rfl, Or.inl ⟨rfl, by omega⟩⟩)
  · exact sf_bo (Or.inr rfl) (sf_some ⟨⟨by decide, by decide⟩, rfl, rfl, Or.inr ⟨rfl, by omega⟩⟩)
/-- a fault is noted -/
theorem s_set (hd : 6 ≤ d) (h : GG bd b σ) (hr : RR bd b σ k s o z) {n w : Int} (hn : 0 ≤ n ∧ n ≤ 14) (hw : inR w) : sf (RC bd d 30 σ [((b + 2 : Nat) : Int), n, w]) (fun σ' kd r => kd = 0 ∧ GG bd b σ' ∧ Ext b σ σ' ∧ RR bd b σ' k s o z) := by
  obtain ⟨d, rfl⟩ : ∃ d0, d = d0 + 1 := ⟨d - 1, by omega⟩
  rw [rc_X10_set (by omega)]
  refine sf_fin ?_
  unfold pc_X10_set_0
  refine sf_pN (h.tg 2) ?_
  have h1 := gg_put h 2 0 (y := n) ⟨by omega, by omega⟩ (by decide) (by decide) (fun lo hi q => by cases q; exact hn) (Or.inl ⟨by decide, by decide⟩) (by decide)
  refine sf_pN (h1.1.tg 2) ?_
  have h2 := gg_put h1.1 2 1 (y := w) hw (by decide) (by decide) (fun lo hi q => by cases q) (Or.inl ⟨by decide, by decide⟩) (by decide)
  exact sf_some ⟨⟨by decide, by decide⟩, rfl, h2.1, h1.2.trans h2.2, rr_put (rr_put hr 2 0 (by decide)) 2 1 (by decide)⟩
theorem s_sclear (hd : 6 ≤ d) (h : GG bd b σ) (hr : RR bd b σ k s o z) : sf (RC bd d 28 σ [((b + 2 : Nat) : Int)]) (fun σ' kd r => kd = 0 ∧ GG bd b σ' ∧ Ext b σ σ' ∧ RR bd b σ' k s o z) := by
  obtain ⟨d, rfl⟩ : ∃ d0, d = d0 + 1 := ⟨d - 1, by omega⟩
  rw [rc_X10_clear (by omega)]
  refine sf_fin ?_
  unfold pc_X10_clear_0
  refine sf_pN (h.tg 2) ?_
  have h1 := gg_put h 2 0 (y := 0) ⟨by decide, by decide⟩ (by decide) (by decide) (fun lo hi q => by cases q; exact ⟨by decide, by decide⟩) (Or.inl ⟨by decide, by decide⟩) (by decide)
  refine sf_pN (h1.1.tg 2) ?_
  have h2 := gg_put h1.1 2 1 (y := -1) ⟨by decide, by decide⟩ (by decide) (by decide) (fun lo hi q => by cases q) (Or.inl ⟨by decide, by decide⟩) (by decide)
  exact sf_some ⟨⟨by decide, by decide⟩, rfl, h2.1, h1.2.trans h2.2, rr_put (rr_put hr 2 0 (by decide)) 2 1 (by decide)⟩
/-! constructors, behind their 'new' -/
theorem s_nlink (hd : 6 ≤ d) {x1 x2 x3 x4 : Int} (hx : inR x1 ∧ inR x2 ∧ inR x3 ∧ inR x4) : sf (RC bd d 77 (cs_n σ 4 5) [((c_hp σ : Nat) : Int), x1, x2, x3, x4]) (fun σ' kd r => kd = 0 ∧ ∃ F : Nat → Int, σ' = cs_o σ 4 5 F ∧ F 0 = x1 ∧ F 1 = x2 ∧ F 2 = x3 ∧ F 3 = 0 ∧ F 4 = x4 ∧ ∀ f, inR (F f)) := by
  obtain ⟨d, rfl⟩ : ∃ d0, d = d0 + 1 := ⟨d - 1, by omega⟩
  rw [rc_X3_init (by omega)]
  refine sf_fin ?_
  unfold pc_X3_init_0
  rw [cs_n_o]
  refine sf_tN cs_o_tg ?_
  refine sf_pN cs_o_tg ?_
  rw [cs_o_p]
  refine sf_pN cs_o_tg ?_
  rw [cs_o_p]
  refine sf_pN cs_o_tg ?_
  rw [cs_o_p]
  refine sf_pN cs_o_tg ?_
  rw [cs_o_p]
  refine sf_pN cs_o_tg ?_
  rw [cs_o_p]
  refine sf_some ⟨⟨by decide, by decide⟩, rfl, _, rfl, rfl, rfl, rfl, rfl, rfl, fun f => ?_⟩
  obtain ⟨i1, i2, i3, i4⟩ := hx
  repeat' split
  all_goals first | assumption | exact ⟨by decide, by decide⟩
theorem s_nput (hd : 6 ≤ d) {x1 x2 x3 : Int} (hx : inR x1 ∧ inR x3) (h2 : 0 ≤ x2 ∧ x2 ≤ 1000) : sf (RC bd d 78 (cs_n σ 4 5) [((c_hp σ : Nat) : Int), x1, x2, x3]) (fun σ' kd r => kd = 0 ∧ ∃ F : Nat → Int, σ' = cs_o σ 4 5 F ∧ F 0 = x1 ∧ F 1 = -1 ∧ F 2 = -1 ∧ F 3 = -1 - x2 ∧ F 4 = x3 ∧ ∀ f, inR (F f)) := by
  obtain ⟨d, rfl⟩ : ∃ d0, d = d0 + 1 := ⟨d - 1, by omega⟩
  rw [rc_X3_init_ (by omega)]
  refine sf_fin ?_
  unfold pc_X3_init__0
  rw [cs_n_o]
  refine sf_tN cs_o_tg ?_
  refine sf_pN cs_o_tg ?_
  rw [cs_o_p]
  refine sf_pN cs_o_tg ?_
  rw [cs_o_p]
  refine sf_pN cs_o_tg ?_
  rw [cs_o_p]
  refine sf_ck ⟨by omega, by omega⟩ ?_
  refine sf_pN cs_o_tg ?_
  rw [cs_o_p]
  refine sf_pN cs_o_tg ?_
  rw [cs_o_p]
  refine sf_some ⟨⟨by decide, by decide⟩, rfl, _, rfl, rfl, rfl, rfl, rfl, rfl, fun f => ?_⟩
  obtain ⟨i1, i3⟩ := hx
  have i4 : inR (-1 - x2) := ⟨by omega, by omega⟩
  repeat' split
  all_goals first | assumption | exact ⟨by decide, by decide⟩
theorem s_nhead (hd : 6 ≤ d) {x1 x2 x3 x4 : Int} (hx : inR x1 ∧ inR x2 ∧ inR x3 ∧ inR x4) : sf (RC bd d 26 (cs_n σ 2 4) [((c_hp σ : Nat) : Int), x1, x2, x3, x4]) (fun σ' kd r => kd = 0 ∧ ∃ F : Nat → Int, σ' = cs_o σ 2 4 F ∧ F 0 = x1 ∧ F 1 = x2 ∧ F 2 = x3 ∧ F 3 = x4 ∧ ∀ f, inR (F f)) := by
  obtain ⟨d, rfl⟩ : ∃ d0, d = d0 + 1 := ⟨d - 1, by omega⟩
  rw [rc_X1_init (by omega)]
  refine sf_fin ?_
  unfold pc_X1_init_0
  rw [cs_n_o]
  refine sf_tN cs_o_tg ?_
  refine sf_pN cs_o_tg ?_
  rw [cs_o_p]
  refine sf_pN cs_o_tg ?_
  rw [cs_o_p]
  refine sf_pN cs_o_tg ?_
  rw [cs_o_p]
  refine sf_pN cs_o_tg ?_
  rw [cs_o_p]
  refine sf_some ⟨⟨by decide, by decide⟩, rfl, _, rfl, rfl, rfl, rfl, rfl, fun f => ?_⟩
  obtain ⟨i1, i2, i3, i4⟩ := hx
  repeat' split
  all_goals first | assumption | exact ⟨by decide, by decide⟩
theorem s_nnode (hd : 6 ≤ d) {x1 x2 : Int} (hx : inR x1 ∧ inR x2) : sf (RC bd d 105 (cs_n σ 7 11) [((c_hp σ : Nat) : Int), x1, x2]) (fun σ' kd r => kd = 0 ∧ ∃ F : Nat → Int, σ' = cs_o σ 7 11 F ∧ F 0 = x1 ∧ F 1 = x2 ∧ F 4 = 0 ∧ F 5 = 0 ∧ F 6 = -1 ∧ F 7 = -1 ∧ F 8 = -1 ∧ ∀ f, inR (F f)) := by
  obtain ⟨d, rfl⟩ : ∃ d0, d = d0 + 1 := ⟨d - 1, by omega⟩
  rw [rc_X6_init (by omega)]
  refine sf_fin ?_
  unfold pc_X6_init_0
  rw [cs_n_o]
  refine sf_tN cs_o_tg ?_
  refine sf_pN cs_o_tg ?_
  rw [cs_o_p]
  refine sf_pN cs_o_tg ?_
  rw [cs_o_p]
  refine sf_pN cs_o_tg ?_
  rw [cs_o_p]
  refine sf_pN cs_o_tg ?_
  rw [cs_o_p]
  refine sf_pN cs_o_tg ?_
  rw [cs_o_p]
  refine sf_pN cs_o_tg ?_
  rw [cs_o_p]
  refine sf_pN cs_o_tg ?_
  rw [cs_o_p]
  refine sf_pN cs_o_tg ?_
  rw [cs_o_p]
  refine sf_pN cs_o_tg ?_
  rw [cs_o_p]
  refine sf_pN cs_o_tg ?_
  rw [cs_o_p]
  refine sf_pN cs_o_tg ?_
  rw [cs_o_p]
  refine sf_some ⟨⟨by decide, by decide⟩, rfl, _, rfl, rfl, rfl, rfl, rfl, rfl, rfl, rfl, fun f => ?_⟩
  obtain ⟨i1, i2⟩ := hx
  repeat' split
  all_goals first | assumption | exact ⟨by decide, by decide⟩
end CLA
