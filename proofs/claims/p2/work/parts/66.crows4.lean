section CRH
variable {p : Program} {l : Launch} {e : Env} {R : Room} {s : State} {m : MethodId} {args : Array Value} {below : List Frame} {meth : Method} {c : Code} {H : Heap} {locs : List Loc} {cells slots : Nat} {Q : State → Prop} {cc : ByteArray} {pc : Nat} {ls : Array Slot} {rest : List Value}
variable {v : cwE} {σ0 σ σ1 : CS} {nL d : Nat} {ret : Option FieldType} {own : String} {kd : Nat} {rv : Option Value}
theorem cw_sp {c1 c2 : Cell} (h : c1.slots = c2.slots) (at_ : Nat) (vs : List (Value × Nat)) : (c1.storePairs at_ vs).slots = (c2.storePairs at_ vs).slots := by
  induction vs generalizing c1 c2 with
  | nil => exact h
  | cons q r ih =>
    refine ih (c1 := c1.setSlot (at_ + q.2) q.1) (c2 := c2.setSlot (at_ + q.2) q.1) ?_
    show c1.slots.setIfInBounds _ _ = c2.slots.setIfInBounds _ _
    rw [h]
/-- System.arraycopy(x, 0, y, 0, n) of rows of Objects -/
def cs_ac (σ : CS) (a b n : Nat) : CS := (σ.1, fun q g => if q = b then (if g < n then c_pv σ a g else c_pv σ b g) else c_pv σ q g, σ.2.2)
abbrev cs_acok (σ : CS) (x y n : Int) : Prop := (0 ≤ x ∧ c_tg σ x.toNat = 23) ∧ (0 ≤ y ∧ c_tg σ y.toNat = 23) ∧ 0 ≤ n ∧ n ≤ (c_ln σ x.toNat : Int) ∧ n ≤ (c_ln σ y.toNat : Int) ∧ ∀ i, i < n.toNat → c_pv σ x.toNat i < 0 ∨ (0 ≤ c_pv σ x.toNat i ∧ (c_tg σ (c_pv σ x.toNat i).toNat = 7 ∨ c_tg σ (c_pv σ x.toNat i).toNat = 10))
theorem cw_acopy (B : cw_B v own p s m args meth c cc nL ret) (hw : cw_W v s σ0 σ H locs cells slots) {x y n : Int} {index : Nat} (hq : cs_acok σ x y n) (hnr : inR n) (h1 : σ1 = cs_ac σ x.toNat y.toNat n.toNat) (hli : Cond.methodLink own index arraycopyName ∈ cw_bw) (hnat : Cond.native arraycopyName ∈ cw_bw) (hstat : Cond.static arraycopyName ∈ cw_bw) (hini : Cond.initialized "java/lang/System" ∈ cw_bw)
    (hl : ls.size = nL) (hrest : (rest.map fun v => v.category).sum ≤ 8) (hdg : decode cc pc = .ok (.invokestatic index, 3))
    (kk : ∀ (H : Heap) (locs : List Loc), cw_W v s σ0 σ1 H locs cells slots → W p l e (cw_rm v (d + 1) σ0) s m args below meth c H locs cells slots Q (F0 m (pc + 3) ls rest)) : W p l e (cw_rm v (d + 1) σ0) s m args below meth c H locs cells slots Q (F0 m pc ls (.int (rI n) :: .int (rI 0) :: cR v y :: .int (rI 0) :: cR v x :: rest)) := by
  obtain ⟨hx, hb, hr, hml, hown, hts, hlk, hK⟩ := B
  obtain ⟨hx1, hy1, hn0, hnx, hny, hel⟩ := hq
  have hK1 := hK.1.2.2.2.2.2.2.2.2
  obtain ⟨kA, comp, k1, k2, k3, k4⟩ := id hK1.1
  obtain ⟨kO, hkO, -⟩ := Vm.findClass_spec k3
  have hcn : (rI n).toNatClampNeg = n.toNat := rI_cl hnr
  have hc0 : (rI 0).toNatClampNeg = 0 := by decide +kernel
  have hT0 : (rI n).toInt = n := rI_T hnr
  obtain ⟨ca, ha, hca⟩ := cw_arr hw hx1 (by omega)
  obtain ⟨cb, hb1, hcb⟩ := cw_arr hw hy1 (by omega)
  rw [cR_r hx1.1, cR_r hy1.1]
  intro T hT X
  obtain ⟨vm', X', step⟩ := X.arraycopy hx hown (hts _ hli) (hts _ hnat) (hts _ hstat) (hts _ hini) (src := cw_mp v x.toNat) (dst := cw_mp v y.toNat) (srcPos := rI 0) (destPos := rI 0) (n := rI n) (by rw [hT]; exact ha) (by rw [hT]; exact hb1)
    hca.2.2.2 hcb.2.2.2 hca.2.2.1 hcb.2.2.1 (by rw [hca.1]; exact k1) (by rw [hcb.1]; exact k1) k2 k2 rfl (by decide +kernel) (by decide +kernel) (fun q => by have := (rI_lt hnr inR_0).mp q; omega)
    (by rw [hT0, hca.size, show (rI 0).toInt = 0 by decide +kernel]; omega) (by rw [hT0, hcb.size, show (rI 0).toInt = 0 by decide +kernel]; omega)
    (fun vm₁ hal i hi => by
      rw [hcn] at hi
      have e : ca.slots.getD ((rI 0).toNatClampNeg + i) .null = cR v (c_pv σ x.toNat i) := by
        rw [Array.getD_eq_getD_getElem?, hc0, Nat.zero_add, hca.read (by omega)]
        rfl
      rw [e]
      rcases hel i hi with h | ⟨h0, h7⟩
      · rw [cR_n h]; exact ⟨rfl, trivial⟩
      · obtain ⟨tv, htv, ht1, hcast⟩ : ∃ tv, c_tg σ (c_pv σ x.toNat i).toNat = tv ∧ (1 ≤ tv ∧ tv ≤ 13) ∧ va_Nw (.castable (cw_tab tv).1 cRO) s := by
          rcases h7 with h7 | h7
          · exact ⟨7, h7, ⟨by omega, by omega⟩, hK1.2.2.2.2.2.2.1⟩
          · exact ⟨10, h7, ⟨by omega, by omega⟩, hK1.2.2.2.2.2.2.2.1⟩
        obtain ⟨cell, g1, g2, g3, g4⟩ := cw_obj hw ⟨h0, htv⟩ ht1
        obtain ⟨hS, hfc, kC, hkC, hkind⟩ := hK.1.1 tv ht1.1 ht1.2
        have hasg := cw_castO hcast hfc _ k3
        obtain ⟨kC', hkC', -⟩ := hal.2.2 _ _ hkC
        obtain ⟨kE', hkE', -⟩ := hal.2.2 _ _ hkO
        rw [cR_r h0]
        refine ⟨rfl, cell, (show T.heap[cw_mp v (c_pv σ x.toNat i).toNat]? = some cell by rw [hT]; exact g1), (fun q h => by rw [g3] at h; cases h), ⟨kC', by rw [g2]; exact hkC'⟩, ⟨kE', hkE'⟩, ?_⟩
        show vm₁.assignable _ _ = true
        rw [hal.assignable, g2]
        exact hasg)
    (g := F0 m pc ls (.int (rI n) :: .int (rI 0) :: .ref (cw_mp v y.toNat) :: .int (rI 0) :: .ref (cw_mp v x.toNat) :: rest)) rfl (hl.trans hml.symm) (rest := rest) rfl (by rw [hb]; exact hdg) (by show 1 ≤ d + 1; omega) (by show 2 * 0 + _ + _ ≤ 100 * (d + 1); have hw9 : nativeFrameWords "java/lang/System" "arraycopy" 5 ≤ 50 := (by decide +kernel); omega)
  have e1 : copied (arrV (v.1 23) (c_ln σ x.toNat) (fun i => cw_fv v 23 i (c_pv σ x.toNat i))) (arrV (v.1 23) (c_ln σ y.toNat) (fun i => cw_fv v 23 i (c_pv σ y.toNat i))) (rI 0) (rI 0) (rI n) = arrV (v.1 23) (c_ln σ y.toNat) (fun i => cw_fv v 23 i (if i < n.toNat then c_pv σ x.toNat i else c_pv σ y.toNat i)) := by
    have h9 := va_copied (fun z : Int => cR v z) (v.1 23) (v.1 23) (n0 := c_ln σ x.toNat) (n1 := c_ln σ y.toNat) (sp := (rI 0).toNatClampNeg) (dp := (rI 0).toNatClampNeg) (n := (rI n).toNatClampNeg) (c_pv σ x.toNat) (c_pv σ y.toNat) (by rw [hcn, hc0]; omega)
    refine h9.trans (congrArg (arrV (v.1 23) (c_ln σ y.toNat)) ?_)
    funext j
    show cR v (va_cpy (c_pv σ x.toNat) (c_pv σ y.toNat) (rI 0).toNatClampNeg (rI 0).toNatClampNeg (rI n).toNatClampNeg j) = cR v (if j < n.toNat then c_pv σ x.toNat j else c_pv σ y.toNat j)
    rw [hcn, hc0]
    unfold va_cpy
    by_cases hj : j < n.toNat
    · rw [if_pos (⟨by omega, by omega⟩ : 0 ≤ j ∧ j < 0 + n.toNat), if_pos hj]
      simp
    · rw [if_neg (by omega), if_neg hj]
  have har2 : cw_ar (copied ca cb (rI 0) (rI 0) (rI n)) (v.1 23) (c_ln σ y.toNat) (fun i => cw_fv v 23 i (if i < n.toNat then c_pv σ x.toNat i else c_pv σ y.toNat i)) := by
    obtain ⟨f1, f2, -⟩ := Cell.storeRun_facts cb (rI 0).toNatClampNeg (ca.stretch (rI 0).toNatClampNeg (rI n).toNatClampNeg)
    refine ⟨f1.trans hcb.1, ?_, by rw [show (copied ca cb (rI 0) (rI 0) (rI n)).vm = cb.vm from f2]; exact hcb.2.2.1, by rw [show (copied ca cb (rI 0) (rI 0) (rI n)).vm = cb.vm from f2]; exact hcb.2.2.2⟩
    rw [← e1]
    have hst : ca.stretch (rI 0).toNatClampNeg (rI n).toNatClampNeg = (arrV (v.1 23) (c_ln σ x.toNat) (fun i => cw_fv v 23 i (c_pv σ x.toNat i))).stretch (rI 0).toNatClampNeg (rI n).toNatClampNeg := by
      unfold Cell.stretch
      rw [hca.2.1]
    show (cb.storeRun _ (ca.stretch _ _)).slots = _
    rw [hst]
    exact cw_sp hcb.2.1 _ _
  generalize copied ca cb (rI 0) (rI 0) (rI n) = cd at X' step har2
  have hlt : cw_mp v y.toNat < H.size := (Array.getElem?_eq_some_iff.mp hb1).1
  have hwn : ∀ locs', (∀ z ∈ locs', z ∈ locs ∨ z.base = cw_mp v y.toNat) → cw_W v s σ0 σ1 (H.setIfInBounds (cw_mp v y.toNat) cd) locs' cells slots := by
    intro locs' hlo
    have hw0 := hw
    obtain ⟨⟨m1, m2, m3, m4⟩, w1, w2, w3, w4, w5, w6, w7⟩ := hw
    have hy0 : c_tg σ y.toNat ≠ 0 := by rw [hy1.2]; omega
    have ha0 := cw_tmo hw0 (w6 y.toNat hy0)
    have oq : ∀ q : Nat, q ≠ cw_mp v y.toNat → (H.setIfInBounds (cw_mp v y.toNat) cd)[q]? = H[q]? := fun q hq => by simp [Array.getElem?_setIfInBounds, Ne.symm hq]
    subst h1
    refine ⟨⟨by rw [Array.size_setIfInBounds]; exact m1, fun b hb => ?_, fun b g => ?_, m4.1, m4.2.1, by rw [Array.size_setIfInBounds]; exact m4.2.2.1, m4.2.2.2⟩, w1, w2, w3, fun q hq h0 => ?_, fun z hz => ?_, w6, w7⟩
    · have hb' : c_tg σ b ≠ 0 := hb
      have hm := m2 b hb'
      by_cases hba : b = y.toNat
      · subst hba
        unfold cw_at
        have htg : c_tg (cs_ac σ x.toNat y.toNat n.toNat) y.toNat = c_tg σ y.toNat := rfl
        have hln : c_ln (cs_ac σ x.toNat y.toNat n.toNat) y.toNat = c_ln σ y.toNat := rfl
        rw [htg, hln]
        have hpv : ∀ g, c_pv (cs_ac σ x.toNat y.toNat n.toNat) y.toNat g = if g < n.toNat then c_pv σ x.toNat g else c_pv σ y.toNat g := fun g => if_pos rfl
        simp only [hpv]
        rw [hy1.2, if_neg (by omega)]
        exact ⟨cd, by simp [Array.getElem?_setIfInBounds, hlt], _, Or.inl rfl, har2⟩
      · have hne : cw_mp v b ≠ cw_mp v y.toNat := fun q => hba (cw_inj (m4.2.2.2 b hb').2 (m4.2.2.2 _ hy0).2 q)
        have h9 := hm.kept (oq _ hne)
        unfold cw_at at h9 ⊢
        have htg : c_tg (cs_ac σ x.toNat y.toNat n.toNat) b = c_tg σ b := rfl
        have hln : c_ln (cs_ac σ x.toNat y.toNat n.toNat) b = c_ln σ b := rfl
        have hpv : ∀ g, c_pv (cs_ac σ x.toNat y.toNat n.toNat) b g = c_pv σ b g := fun g => if_neg hba
        rw [htg, hln]
        simp only [hpv]
        exact h9
    · show inR (if b = y.toNat then (if g < n.toNat then c_pv σ x.toNat g else c_pv σ y.toNat g) else c_pv σ b g)
      split
      · split
        · exact m3 _ _
        · exact m3 _ _
      · exact m3 b g
    · rw [oq q (fun hh => by rcases ha0 with z | z; exact h0 (hh ▸ z); omega)]
      exact w4 q hq h0
    · rcases hlo z hz with h | h
      · exact w5 z h
      · rw [h]; exact ha0
  obtain ⟨t2, a1, b1⟩ := kk _ _ (hwn _ (fun z hz => by
      rcases List.mem_append.mp hz with h | h
      · exact Or.inl h
      · obtain ⟨q, -, hq⟩ := List.mem_map.mp h
        rw [← hq]
        exact Or.inr rfl)) _ (by show ((T.setVm vm').setCell _ _).heap = _; rw [← hT]; rfl) X'
  exact ⟨t2, step t2 a1, b1⟩
/-- a call of a list's method by the interface (it returns) -/
theorem cw_cf (B : cw_B v own p s m args meth c cc nL ret) {x y : MethodName} {bytes : ByteArray} {maxL index count n : Nat} {ret0 : Option FieldType} {As : List Value} {b : Int}
    (hM : cw_Met l v y bytes maxL ret0 d (cR v b :: As) σ σ1 0 rv) (hb0 : 0 ≤ b ∧ c_tg σ b.toNat = 13) (h0 : GoodIn cw_bw [Cond.code y bytes maxL ret0, Cond.initialized y.cls]) (hli : Cond.methodLink own index x ∈ cw_bw) (hins : Cond.instanceMethod y ∈ cw_bw) (hsel : Cond.selects RJx4a65c x y ∈ cw_bw) (hF : va_Fw RJx4a65c x y s)
    (hd : x.cls ≠ "java/lang/invoke/MethodHandle" ∧ x.cls ≠ "java/lang/invoke/VarHandle" ∧ (parseMethodDescriptor x.desc).map (fun d => d.parameters.length) = some n) (hmax : maxL ≤ 80)
    (hn : As.length = n) (hl : ls.size = nL) (hrest : (rest.map fun v => v.category).sum ≤ 8) (hdg : decode cc pc = .ok (.invokeinterface index count, 5)) {st : List Value} (hst : st = As.reverse ++ cR v b :: rest) (hw : cw_W v s σ0 σ H locs cells slots)
    (kk : ∀ (H : Heap) (locs : List Loc) (cells slots : Nat), cw_W v s σ0 σ1 H locs cells slots → W p l e (cw_rm v (d + 1) σ0) s m args below meth c H locs cells slots Q (F0 m (pc + 5) ls (rv.toList ++ rest))) :
    W p l e (cw_rm v (d + 1) σ0) s m args below meth c H locs cells slots Q (F0 m pc ls st) := by
  obtain ⟨hx, hb, hr, hml, hown, hts, hlk, hK⟩ := B
  obtain ⟨cell, q1, q2, q3, q4⟩ := cw_obj hw hb0 ⟨by omega, by omega⟩
  obtain ⟨hS, hfc, kC, hkC, hkind⟩ := hK.1.1 13 (by omega) (by omega)
  obtain ⟨hw1, hw2⟩ := cw_words (y := y) hts h0
  have hrm := cw_rmok hw
  intro T hT X
  have hBk := cw_back (R := cw_rm v (d + 1) σ0) (p := p) (e := e) (below := below) (s := s) (sargs := args) (len := 5) (W9 := 8) hM (Nat.le_refl _) (by show 8 + (maxL + 11) + 100 * d ≤ 100 * (d + 1); omega) hw1 hw2
  have hBk2 : Back l (cw_rm v (d + 1) σ0) p e below s args y 5 8 (fun A a => A.cells + (v.2.2.1 - c_hp σ) ≤ (cw_rm v (d + 1) σ0).cells ∧ A.slots + (v.2.2.2.1 - c_sl σ) ≤ (cw_rm v (d + 1) σ0).slots ∧ cw_P v σ (cR v b :: As) a A.U) (fun A _ w B => (0 : Nat) = 0 ∧ w = rv ∧ cw_Po v σ σ1 A B) := by
    intro m' meth' c' A g ig mk a X1 h1 h2 h3 h4 h5 h6
    rcases hBk m' meth' c' A g ig mk a X1 h1 h2 h3 h4 h5 h6 with h | ⟨q, B, -, ⟨hk, -⟩, -⟩
    · exact h
    · exact absurd rfl hk
  obtain ⟨w, vm₁, B, hW₁, X', ⟨hk0, hw0, hPo⟩, st1⟩ := va_callIF X hx (C := RJx4a65c) (bytes := bytes) (maxL := maxL) (ret := ret0) hown (hts _ hli) (va_any rfl hF.1) (va_any rfl hF.2.1) (hts _ hsel) (hts _ hins) (va_any rfl hF.2.2.1) (va_any rfl hF.2.2.2.1) (va_any rfl hF.2.2.2.2) (hts _ (h0 _ (by simp)).1) ⟨hd.1, hd.2.1⟩ hBk2 (b := cw_mp v b.toNat) (cellB := cell) (kB := kC) (by rw [hT]; exact q1) (by rw [q3]; rfl) (by rw [q2]; exact hfc) (by rw [q2]; exact hkC)
    (g := F0 m pc ls st) rfl (hl.trans hml.symm) (argsL := As) (rest := rest) (cw_par hd.2.2 hn) (by rw [← cR_r hb0.1]; exact hst) (lv_room hrest) (by rw [hb]; exact hdg)
    (fun vm₁ hW₁ => ⟨hrm.1, hrm.2, by rw [cR_r hb0.1], by show cw_M v σ T.heap; rw [hT]; exact hw.1, hK.at (cw_old hw) hT hW₁⟩)
  subst hw0
  obtain ⟨t2, a1, b1⟩ := kk _ _ _ _ (cw_behind (U := T) hw hT hPo) B.U rfl X'
  exact ⟨t2, st1 t2 a1, b1⟩
theorem cw_face_add (hK : cw_K v s) : va_Fw RJx4a65c cx_add yJx4a65c_add_9ea2d s := by
  have h := hK.1.2.2.2.2.2.2.2.2
  exact h.2.2.2.2.2.2.2.2.1
theorem cw_face_get (hK : cw_K v s) : va_Fw RJx4a65c cx_get yJx4a65c_get_915e3 s := by
  have h := hK.1.2.2.2.2.2.2.2.2
  exact h.2.2.2.2.2.2.2.2.2.1
theorem cw_face_size (hK : cw_K v s) : va_Fw RJx4a65c cx_size yJx4a65c_size_8abf5 s := by
  have h := hK.1.2.2.2.2.2.2.2.2
  exact h.2.2.2.2.2.2.2.2.2.2
end CRH
