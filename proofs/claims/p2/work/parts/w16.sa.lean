section LWJ
variable {p : Program} {l : Launch} {e : Env} {s : State} {m : MethodId} {args : Array Value} {below : List Frame} {meth : Method} {c : Code} {H : Heap} {locs : List Loc} {cells slots : Nat} {Q : State → Prop} {pc : Nat} {ls : Array Slot} {rest : List Value}
variable {v : cwE} {vr : rfE} {σs σ σ1 : CS} {τ τ1 : RS} {cL : ClassId} {o : Nat} {y y' : Int64} {b L n j k x : Nat} {xs : Nat → Int32}
theorem lw_forget {g : JFrame} (h : ∀ (q : Nat) (cell : Cell), s.heap[q]? = some cell → ∃ cell', H[q]? = some cell' ∧ cell'.slots = cell.slots) (k : W p l e room_1 s m args below meth c H [] cells slots Q g) : W p l e room_1 s m args below meth c H locs cells slots Q g := by
  intro T hT X
  obtain ⟨e1, e2, e3, e4, e5, e6⟩ := X.same
  refine k T hT ⟨X.admits, X.cas, X.clock, X.frames, X.room, X.hears, X.method, X.code, X.here, X.tail, X.warmed, X.limits, X.bytes, e1, e2, e3, e4, e5, fun a cell hc => ?_⟩
  obtain ⟨c', h1, h2, h3, -⟩ := e6 a cell hc
  obtain ⟨c2, g1, g2⟩ := h a cell hc
  have h1' : H[a]? = some c' := by rw [← hT]; exact h1
  cases Option.some.inj (h1'.symm.trans g1)
  exact ⟨c', h1, h2, h3, fun i _ => by rw [g2]⟩
theorem lw_arrc {cA cB : ClassId} {n : Nat} {f f' : Nat → Value} (h : ∀ i, i < n → f i = f' i) : (arrV cA n f).slots = (arrV cB n f').slots := by
  unfold arrV
  dsimp only
  congr 1
  funext i
  exact h i i.2
/-- the two rows of statics, at the start -/
def lw_s0 (v : cwE) (σs : CS) (s : State) : Prop := cw_M v σs s.heap ∧ (∀ a, c_tg σs a ≠ 0 → a = 20 ∨ a = 21) ∧ (c_tg σs 20 = 20 ∧ c_ln σs 20 = 8 ∧ ∀ i, i < 8 → c_pv σs 20 i = gC.getD i 0) ∧ c_tg σs 21 = 23 ∧ c_ln σs 21 = 0
theorem lw_unch (h0 : lw_s0 v σs s) (hI : lw_I (cw_bd v) x j σ τ) (hw : lw_W v vr o cL s σs σ τ y H locs cells slots) : ∀ (q : Nat) (cell : Cell), s.heap[q]? = some cell → ∃ cell', H[q]? = some cell' ∧ cell'.slots = cell.slots := by
  intro q cell hc
  have hq : q < s.heap.size := (Array.getElem?_eq_some_iff.mp hc).1
  by_cases ht : cw_tm v σs q
  · obtain ⟨a, ha, rfl⟩ := ht
    obtain ⟨⟨g1, g2, -, g3⟩, ⟨g4, g5, -⟩, -⟩ := hI.1.st
    obtain ⟨hM, hA, ⟨k1, k2, k3⟩, k4, k5⟩ := h0
    have g1' : c_tg σ 20 = 20 := g1
    have g4' : c_tg σ 21 = 23 := g4
    have hB := hM.2.1 a ha
    rcases hA a ha with rfl | rfl
    · have hC := hw.1.1.2.1 20 (by rw [g1']; decide)
      unfold cw_at at hB hC
      rw [k1, if_neg (by decide)] at hB
      rw [g1', if_neg (by decide)] at hC
      obtain ⟨c1, a1, cA, an, a2⟩ := hB
      obtain ⟨c2, b1, cB, bn, b2⟩ := hC
      cases Option.some.inj (hc.symm.trans a1)
      refine ⟨c2, b1, ?_⟩
      rw [a2.2.1, b2.2.1, k2, show c_ln σ 20 = 8 from g2]
      refine lw_arrc (fun i hi => ?_)
      rw [k3 i hi, show c_pv σ 20 i = gC.getD i 0 from g3 i hi]
    · have hC := hw.1.1.2.1 21 (by rw [g4']; decide)
      unfold cw_at at hB hC
      rw [k4, if_neg (by decide)] at hB
      rw [g4', if_neg (by decide)] at hC
      obtain ⟨c1, a1, cA, an, a2⟩ := hB
      obtain ⟨c2, b1, cB, bn, b2⟩ := hC
      cases Option.some.inj (hc.symm.trans a1)
      refine ⟨c2, b1, ?_⟩
      rw [a2.2.1, b2.2.1, k5, show c_ln σ 21 = 0 from g5]
      exact lw_arrc (fun i hi => absurd hi (Nat.not_lt_zero i))
  · exact ⟨cell, by rw [hw.1.2.2.2.2.1 q hq ht]; exact hc, rfl⟩
theorem lw_fin (S : lw_S v vr cL σs b L xs l p s m #[Value.ref b] meth c) (h0 : lw_s0 v σs s) (hI : lw_I (cw_bd v) x j σ τ) (hw : lw_W v vr o cL s σs σ τ y H locs cells slots) : W p l e room_1 s m #[Value.ref b] below meth c H locs cells slots (lw_Z below #[Value.ref b] s) (F0 m 596 ls []) := by
  have hx := S.1.1.1
  have hb := S.1.1.2.1
  have hrm := cw_rmok hw.1
  have hroom := S.1.2.2.2.2.2
  refine lv_iconst (v := 1) hx hb dL_law_596 (by decide) ?_
  refine W.widen (k := 601024) (n := 7293034) (by omega) (by omega) ?_
  exact lw_forget (lw_unch h0 hI hw) (lw_ret hx hb S.1.1.2.2.1 S.1.1.2.2.2.2.2.2 dL_law_597)
theorem lw_head (S : lw_S v vr cL σs b L xs l p s m args meth c) (hw : lw_W v vr o cL s σs σ τ y H locs cells slots) (hn6 : 6 * n ≤ L) (hl : lv_has ls 7 (lw_lv n b x v vr o))
    (kt : L < 6 * n + 6 → W p l e room_1 s m args below meth c H locs cells slots Q (F0 m 596 ls [])) (kf : 6 * n + 6 ≤ L → W p l e room_1 s m args below meth c H locs cells slots Q (F0 m 33 ls [])) : W p l e room_1 s m args below meth c H locs cells slots Q (F0 m 23 ls []) := by
  have hx := S.1.1.1
  have hb := S.1.1.2.1
  have hL := S.2.2.2.1
  obtain ⟨scr, h1, h2, h3, h4, h5⟩ := lw_scr S hw
  refine lv_iload hx hb dL_law_23 (lv_at hl 0 rfl) ?_
  refine lv_aload_n hx hb dL_law_25 rfl (lv_at hl 1 rfl) ?_
  refine W.alen (n := rI (L : Int)) hx hb (a := b) (cell := scr) (ty := .int) h1 h2 (by rw [h4]; exact rI_nat (by omega)) rfl rfl dL_law_26 ?_
  refine lv_bipush (v := rI 6) hx hb dL_law_27 (by decide) ?_
  refine lv_isub hx hb dL_law_29 ?_
  rw [rI_sub]
  refine lv_icmp_gt hx hb dL_law_30 (tgt := 596) rfl (fun h => kt ?_) (fun h => kf ?_)
  · rw [rI_lt ⟨by omega, by omega⟩ ⟨by omega, by omega⟩] at h; omega
  · rw [rI_lt ⟨by omega, by omega⟩ ⟨by omega, by omega⟩] at h; omega
set_option maxHeartbeats 4000000 in
set_option maxRecDepth 100000 in
theorem lw_step (S : lw_S v vr cL σs b L xs l p s m args meth c) (hI : lw_I (cw_bd v) x j σ τ) (hj : j ≤ n) (hn : 6 * n + 6 ≤ L) (hw : lw_W v vr o cL s σs σ τ y H locs cells slots) (hl : lv_has ls 7 (lw_lv n b x v vr o))
    (kk : ∀ (j : Nat) (σ : CS) (τ : RS) (y : Int64) (H : Heap) (locs : List Loc) (cells slots : Nat) (ls : Array Slot), j ≤ n + 1 → lw_I (cw_bd v) x j σ τ → lw_W v vr o cL s σs σ τ y H locs cells slots → lv_has ls 7 (lw_lv n b x v vr o) → W p l e room_1 s m args below meth c H locs cells slots Q (F0 m 590 ls [])) :
    W p l e room_1 s m args below meth c H locs cells slots Q (F0 m 33 ls []) := by
  have hx := S.1.1.1
  have hb := S.1.1.2.1
  refine lv_aload_n hx hb dL_law_33 rfl (lv_at hl 1 rfl) ?_
  refine lv_iload hx hb dL_law_34 (lv_at hl 0 rfl) ?_
  refine lw_ald S hw (j := 6 * n) (by omega) rfl dL_law_36 ?_
  refine lv_bipush (v := 15) hx hb dL_law_37 (by decide) ?_
  refine lv_iand hx hb dL_law_39 ?_
  have ha := lw_and (rI (xs (6 * n)).toInt)
  generalize (rI (xs (6 * n)).toInt &&& 15) = z at ha ⊢
  have hz : z.toInt = 0 ∨ z.toInt = 1 ∨ z.toInt = 2 ∨ z.toInt = 3 ∨ z.toInt = 4 ∨ z.toInt = 5 ∨ z.toInt = 6 ∨ z.toInt = 7 ∨ z.toInt = 8 ∨ z.toInt = 9 ∨ z.toInt = 10 ∨ z.toInt = 11 ∨ z.toInt = 12 ∨ z.toInt = 13 ∨ z.toInt = 14 ∨ z.toInt = 15 := by omega
  rcases hz with h | h | h | h | h | h | h | h | h | h | h | h | h | h | h | h
  · refine lv_tableIn hx hb dL_law_40 (tgt := 116) (by rw [h]; decide) (by rw [h]; decide) (by rw [h]; rfl) rfl ?_
    exact la_feed S hI hj hn hw hl (fun σ τ y H locs cells slots ls g1 g2 g3 => kk (j + 1) σ τ y H locs cells slots ls (by omega) g1 g2 g3)
  · refine lv_tableIn hx hb dL_law_40 (tgt := 189) (by rw [h]; decide) (by rw [h]; decide) (by rw [h]; rfl) rfl ?_
    exact la_text S hI hj hn hw hl (fun σ τ y H locs cells slots ls g1 g2 g3 => kk (j + 1) σ τ y H locs cells slots ls (by omega) g1 g2 g3)
  · refine lv_tableIn hx hb dL_law_40 (tgt := 217) (by rw [h]; decide) (by rw [h]; decide) (by rw [h]; rfl) rfl ?_
    exact la_fault S hI hj hn hw hl (fun σ τ y H locs cells slots ls g1 g2 g3 => kk (j + 1) σ τ y H locs cells slots ls (by omega) g1 g2 g3)
  · refine lv_tableIn hx hb dL_law_40 (tgt := 245) (by rw [h]; decide) (by rw [h]; decide) (by rw [h]; rfl) rfl ?_
    exact la_corner S hI hj hn hw hl (fun σ τ y H locs cells slots ls g1 g2 g3 => kk (j + 1) σ τ y H locs cells slots ls (by omega) g1 g2 g3)
  · refine lv_tableIn hx hb dL_law_40 (tgt := 273) (by rw [h]; decide) (by rw [h]; decide) (by rw [h]; rfl) rfl ?_
    exact la_limit S hI hj hn hw hl (fun σ τ y H locs cells slots ls g1 g2 g3 => kk (j + 1) σ τ y H locs cells slots ls (by omega) g1 g2 g3)
  · refine lv_tableIn hx hb dL_law_40 (tgt := 301) (by rw [h]; decide) (by rw [h]; decide) (by rw [h]; rfl) rfl ?_
    exact la_outs S hI hj hn hw hl (fun σ τ y H locs cells slots ls g1 g2 g3 => kk (j + 1) σ τ y H locs cells slots ls (by omega) g1 g2 g3)
  · refine lv_tableIn hx hb dL_law_40 (tgt := 314) (by rw [h]; decide) (by rw [h]; decide) (by rw [h]; rfl) rfl ?_
    exact la_out S hI hj hn hw hl (fun σ τ y H locs cells slots ls g1 g2 g3 => kk (j + 1) σ τ y H locs cells slots ls (by omega) g1 g2 g3)
  · refine lv_tableIn hx hb dL_law_40 (tgt := 342) (by rw [h]; decide) (by rw [h]; decide) (by rw [h]; rfl) rfl ?_
    exact la_count S hI hj hn hw hl (fun σ τ y H locs cells slots ls g1 g2 g3 => kk (j + 1) σ τ y H locs cells slots ls (by omega) g1 g2 g3)
  · refine lv_tableIn hx hb dL_law_40 (tgt := 370) (by rw [h]; decide) (by rw [h]; decide) (by rw [h]; rfl) rfl ?_
    exact la_name S hI hj hn hw hl (fun σ τ y H locs cells slots ls g1 g2 g3 => kk (j + 1) σ τ y H locs cells slots ls (by omega) g1 g2 g3)
  · refine lv_tableIn hx hb dL_law_40 (tgt := 410) (by rw [h]; decide) (by rw [h]; decide) (by rw [h]; rfl) rfl ?_
    exact la_sort S hI hj hn hw hl (fun σ τ y H locs cells slots ls g1 g2 g3 => kk (j + 1) σ τ y H locs cells slots ls (by omega) g1 g2 g3)
  · refine lv_tableIn hx hb dL_law_40 (tgt := 450) (by rw [h]; decide) (by rw [h]; decide) (by rw [h]; rfl) rfl ?_
    exact la_rule S hI hj hn hw hl (fun σ τ y H locs cells slots ls g1 g2 g3 => kk (j + 1) σ τ y H locs cells slots ls (by omega) g1 g2 g3)
  · refine lv_tableIn hx hb dL_law_40 (tgt := 490) (by rw [h]; decide) (by rw [h]; decide) (by rw [h]; rfl) rfl ?_
    exact la_type S hI hj hn hw hl (fun σ τ y H locs cells slots ls g1 g2 g3 => kk (j + 1) σ τ y H locs cells slots ls (by omega) g1 g2 g3)
  · refine lv_tableIn hx hb dL_law_40 (tgt := 518) (by rw [h]; decide) (by rw [h]; decide) (by rw [h]; rfl) rfl ?_
    exact la_same S hI hj hn hw hl (fun σ τ y H locs cells slots ls g1 g2 g3 => kk (j + 1) σ τ y H locs cells slots ls (by omega) g1 g2 g3)
  · refine lv_tableIn hx hb dL_law_40 (tgt := 558) (by rw [h]; decide) (by rw [h]; decide) (by rw [h]; rfl) rfl ?_
    exact la_mark S hI hj hn hw hl (fun σ τ y H locs cells slots ls g1 g2 g3 => kk (j + 1) σ τ y H locs cells slots ls (by omega) g1 g2 g3)
  · refine lv_tableIn hx hb dL_law_40 (tgt := 574) (by rw [h]; decide) (by rw [h]; decide) (by rw [h]; rfl) rfl ?_
    exact la_back S hI hj hn hw hl (fun σ τ y H locs cells slots ls g1 g2 g3 => kk (j + 1) σ τ y H locs cells slots ls (by omega) g1 g2 g3)
  · refine lv_tableOut hx hb dL_law_40 (tgt := 590) (Or.inr (by rw [h]; decide)) rfl ?_
    exact kk j σ τ y H locs cells slots ls (by omega) hI hw hl
theorem lw_next (S : lw_S v vr cL σs b L xs l p s m args meth c) (hl : lv_has ls 7 (lw_lv n b x v vr o)) (kk : ∀ (ls : Array Slot), lv_has ls 7 (lw_lv (n + 1) b x v vr o) → W p l e room_1 s m args below meth c H locs cells slots Q (F0 m 23 ls [])) : W p l e room_1 s m args below meth c H locs cells slots Q (F0 m 590 ls []) := by
  have hx := S.1.1.1
  have hb := S.1.1.2.1
  refine lv_iinc (k := 0) (v := rI ((6 * (n + 1) : Nat) : Int)) hx hb dL_law_590 hl rfl ((rI_add _ 6).trans (by congr 1)) (by decide) rfl (fun ls hl => ?_)
  exact lv_goto hx hb (tgt := 23) dL_law_593 rfl (kk ls hl)
theorem lw_loop (S : lw_S v vr cL σs b L xs l p s m #[Value.ref b] meth c) (h0 : lw_s0 v σs s) : ∀ (f n j : Nat) (σ : CS) (τ : RS) (y : Int64) (H : Heap) (locs : List Loc) (cells slots : Nat) (ls : Array Slot), L < 6 * (n + f) + 6 → 6 * n ≤ L → j ≤ n → lw_I (cw_bd v) x j σ τ → lw_W v vr o cL s σs σ τ y H locs cells slots → lv_has ls 7 (lw_lv n b x v vr o) →
    W p l e room_1 s m #[Value.ref b] below meth c H locs cells slots (lw_Z below #[Value.ref b] s) (F0 m 23 ls []) := by
  intro f
  induction f with
  | zero =>
    intro n j σ τ y H locs cells slots ls hf hn6 hj hI hw hl
    exact lw_head S hw hn6 hl (fun _ => lw_fin S h0 hI hw) (fun h => by omega)
  | succ f ih =>
    intro n j σ τ y H locs cells slots ls hf hn6 hj hI hw hl
    refine lw_head S hw hn6 hl (fun _ => lw_fin S h0 hI hw) (fun h => ?_)
    refine lw_step S hI hj h hw hl (fun j σ τ y H locs cells slots ls hj hI hw hl => ?_)
    refine lw_next S hl (fun ls hl => ?_)
    exact ih (n + 1) j σ τ y H locs cells slots ls (by omega) (by omega) hj hI hw hl
end LWJ
