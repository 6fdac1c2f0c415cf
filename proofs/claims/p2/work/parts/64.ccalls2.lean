section CCB
variable {p : Program} {l : Launch} {e : Env} {R : Room} {s : State} {m : MethodId} {args : Array Value} {below : List Frame} {meth : Method} {c : Code} {H : Heap} {locs : List Loc} {cells slots : Nat} {Q : State → Prop} {cc : ByteArray} {pc : Nat} {ls : Array Slot} {rest : List Value}
variable {v : cwE} {σ0 σ σ1 : CS} {nL d : Nat} {ret : Option FieldType} {own : String} {kd : Nat} {rv : Option Value}
theorem cw_par {y : MethodName} {n : Nat} {As : List Value} (hd : (parseMethodDescriptor y.desc).map (fun d => d.parameters.length) = some n) (hn : As.length = n) : ∀ sig, parseMethodDescriptor y.desc = some sig → As.length = sig.parameters.length := fun sig h => by
  rw [h] at hd
  exact hn.trans (Option.some.inj hd).symm
/-- a call of a static method -/
theorem cw_cs (B : cw_B v own p s m args meth c cc nL ret) {y : MethodName} {bytes : ByteArray} {maxL index n : Nat} {ret0 : Option FieldType} {As : List Value}
    (hM : cw_Met l v y bytes maxL ret0 d As σ σ1 kd rv) (h0 : GoodIn cw_bw [Cond.code y bytes maxL ret0, Cond.initialized y.cls]) (hli : Cond.methodLink own index y ∈ cw_bw) (hsta : Cond.static y ∈ cw_bw)
    (hd : y.cls ≠ "java/lang/invoke/MethodHandle" ∧ y.cls ≠ "java/lang/invoke/VarHandle" ∧ (parseMethodDescriptor y.desc).map (fun d => d.parameters.length) = some n) (hmax : maxL ≤ 80)
    (hn : As.length = n) (hl : ls.size = nL) (hrest : (rest.map fun v => v.category).sum ≤ 8) (hdg : decode cc pc = .ok (.invokestatic index, 3)) {st : List Value} (hst : st = As.reverse ++ rest) (hw : cw_W v s σ0 σ H locs cells slots)
    (kk : kd = 0 → ∀ (H : Heap) (locs : List Loc) (cells slots : Nat), cw_W v s σ0 σ1 H locs cells slots → W p l e (cw_rm v (d + 1) σ0) s m args below meth c H locs cells slots Q (F0 m (pc + 3) ls (rv.toList ++ rest)))
    (kx : kd ≠ 0 → ∀ (H : Heap) (locs : List Loc) (cells slots : Nat) (q : Addr) (ce : Cell), cw_W v s σ0 σ1 H locs cells slots → H[q]? = some ce → ce.vm = .none → s.vm.findClass (cw_ex kd) = some ce.cls → vx_W p l e (cw_rm v (d + 1) σ0) s m args below meth c H locs cells slots Q (F0 m pc ls rest) q) :
    W p l e (cw_rm v (d + 1) σ0) s m args below meth c H locs cells slots Q (F0 m pc ls st) := by
  obtain ⟨hx, hb, hr, hml, hown, hts, hlk, hK⟩ := B
  obtain ⟨hw1, hw2⟩ := cw_words (y := y) hts h0
  have hrm := cw_rmok hw
  intro T hT X
  have hBk := cw_back (R := cw_rm v (d + 1) σ0) (p := p) (e := e) (below := below) (s := s) (sargs := args) (len := 3) (W9 := 8) hM (Nat.le_refl _) (by show 8 + (maxL + 11) + 100 * d ≤ 100 * (d + 1); omega) hw1 hw2
  rcases vx_callS X hx (bytes := bytes) (maxL := maxL) (ret := ret0) hown (hts _ hli) (hts _ hsta) (hts _ (h0 _ (by simp)).1) (hts _ (h0 _ (by simp)).1) ⟨hd.1, hd.2.1⟩ hBk
    (g := F0 m pc ls st) rfl (hl.trans hml.symm) (argsL := As) (rest := rest) (cw_par hd.2.2 hn) hst (lv_room hrest) (by rw [hb]; exact hdg)
    (fun vm₁ hW₁ => ⟨hrm.1, hrm.2, rfl, by show cw_M v σ T.heap; rw [hT]; exact hw.1, hK.at (cw_old hw) hT hW₁⟩) with ⟨w, vm₁, B, hW₁, X', ⟨hk0, rfl, hPo⟩, st1⟩ | ⟨q, vm₁, B, hW₁, X', ⟨hk0, ⟨ce, hce, hcv, hcl⟩, hPo⟩, st1⟩
  · obtain ⟨t2, a1, b1⟩ := kk hk0 _ _ _ _ (cw_behind (U := T) hw hT hPo) B.U rfl X'
    exact ⟨t2, st1 t2 a1, b1⟩
  · obtain ⟨t2, a1, b1⟩ := kx hk0 _ _ _ _ q ce (cw_behind (U := T) hw hT hPo) hce hcv (by rw [← hW₁.alike.findClass]; exact hcl) B.U rfl X'
    exact ⟨t2, st1.trans a1, b1⟩
/-- a call of a constructor (it returns) -/
theorem cw_ci (B : cw_B v own p s m args meth c cc nL ret) {y : MethodName} {bytes : ByteArray} {maxL index n : Nat} {As : List Value} {b : Int}
    (hM : cw_Met l v y bytes maxL none d (cR v b :: As) σ σ1 0 none) (hb0 : 0 ≤ b) (hy1 : y.name = "<init>") (h0 : GoodIn cw_bw [Cond.code y bytes maxL none, Cond.initialized y.cls]) (hli : Cond.methodLink own index y ∈ cw_bw) (hins : Cond.instanceMethod y ∈ cw_bw)
    (hd : y.cls ≠ "java/lang/invoke/MethodHandle" ∧ y.cls ≠ "java/lang/invoke/VarHandle" ∧ (parseMethodDescriptor y.desc).map (fun d => d.parameters.length) = some n) (hmax : maxL ≤ 80)
    (hn : As.length = n) (hl : ls.size = nL) (hrest : (rest.map fun v => v.category).sum ≤ 8) (hdg : decode cc pc = .ok (.invokespecial index, 3)) {st : List Value} (hst : st = As.reverse ++ cR v b :: rest) (hw : cw_W v s σ0 σ H locs cells slots)
    (kk : ∀ (H : Heap) (locs : List Loc) (cells slots : Nat), cw_W v s σ0 σ1 H locs cells slots → W p l e (cw_rm v (d + 1) σ0) s m args below meth c H locs cells slots Q (F0 m (pc + 3) ls rest)) :
    W p l e (cw_rm v (d + 1) σ0) s m args below meth c H locs cells slots Q (F0 m pc ls st) := by
  obtain ⟨hx, hb, hr, hml, hown, hts, hlk, hK⟩ := B
  obtain ⟨hw1, hw2⟩ := cw_words (y := y) hts h0
  have hrm := cw_rmok hw
  intro T hT X
  have hBk := cw_back (R := cw_rm v (d + 1) σ0) (p := p) (e := e) (below := below) (s := s) (sargs := args) (len := 3) (W9 := 8) hM (Nat.le_refl _) (by show 8 + (maxL + 11) + 100 * d ≤ 100 * (d + 1); omega) hw1 hw2
  have hBk2 : Back l (cw_rm v (d + 1) σ0) p e below s args y 3 8 (fun A a => A.cells + (v.2.2.1 - c_hp σ) ≤ (cw_rm v (d + 1) σ0).cells ∧ A.slots + (v.2.2.2.1 - c_sl σ) ≤ (cw_rm v (d + 1) σ0).slots ∧ cw_P v σ (cR v b :: As) a A.U) (fun A _ w B => (0 : Nat) = 0 ∧ w = none ∧ cw_Po v σ σ1 A B) := by
    intro m' meth' c' A g ig mk a X1 h1 h2 h3 h4 h5 h6
    rcases hBk m' meth' c' A g ig mk a X1 h1 h2 h3 h4 h5 h6 with h | ⟨q, B, -, ⟨hk, -⟩, -⟩
    · exact h
    · exact absurd rfl hk
  obtain ⟨w, vm₁, B, hW₁, X', ⟨hk0, hw0, hPo⟩, st1⟩ := callI X hx (bytes := bytes) (maxL := maxL) hown hy1 (hts _ hli) (hts _ hins) (hts _ (h0 _ (by simp)).1) ⟨hd.1, hd.2.1⟩ hBk2
    (g := F0 m pc ls st) rfl (hl.trans hml.symm) (a := cw_mp v b.toNat) (argsL := As) (rest := rest) (cw_par hd.2.2 hn) (by rw [← cR_r hb0]; exact hst) (lv_room hrest) (by rw [hb]; exact hdg)
    (fun vm₁ hW₁ => ⟨hrm.1, hrm.2, by rw [cR_r hb0], by show cw_M v σ T.heap; rw [hT]; exact hw.1, hK.at (cw_old hw) hT hW₁⟩)
  subst hw0
  obtain ⟨t2, a1, b1⟩ := kk _ _ _ _ (cw_behind (U := T) hw hT hPo) B.U rfl X'
  exact ⟨t2, st1 t2 a1, b1⟩
/-- .. of a private constructor of a nest mate -/
theorem cw_ciN (B : cw_B v own p s m args meth c cc nL ret) {y : MethodName} {bytes : ByteArray} {maxL index n : Nat} {As : List Value} {b : Int}
    (hM : cw_Met l v y bytes maxL none d (cR v b :: As) σ σ1 0 none) (hb0 : 0 ≤ b) (hy1 : y.name = "<init>") (h0 : GoodIn cw_bw [Cond.code y bytes maxL none, Cond.initialized y.cls]) {host : String} (hli : va_Nw (.methodLinkNest own index y host) s) (hins : Cond.instanceMethod y ∈ cw_bw)
    (hd : y.cls ≠ "java/lang/invoke/MethodHandle" ∧ y.cls ≠ "java/lang/invoke/VarHandle" ∧ (parseMethodDescriptor y.desc).map (fun d => d.parameters.length) = some n) (hmax : maxL ≤ 80)
    (hn : As.length = n) (hl : ls.size = nL) (hrest : (rest.map fun v => v.category).sum ≤ 8) (hdg : decode cc pc = .ok (.invokespecial index, 3)) {st : List Value} (hst : st = As.reverse ++ cR v b :: rest) (hw : cw_W v s σ0 σ H locs cells slots)
    (kk : ∀ (H : Heap) (locs : List Loc) (cells slots : Nat), cw_W v s σ0 σ1 H locs cells slots → W p l e (cw_rm v (d + 1) σ0) s m args below meth c H locs cells slots Q (F0 m (pc + 3) ls rest)) :
    W p l e (cw_rm v (d + 1) σ0) s m args below meth c H locs cells slots Q (F0 m pc ls st) := by
  obtain ⟨hx, hb, hr, hml, hown, hts, hlk, hK⟩ := B
  obtain ⟨hw1, hw2⟩ := cw_words (y := y) hts h0
  have hrm := cw_rmok hw
  intro T hT X
  have hBk := cw_back (R := cw_rm v (d + 1) σ0) (p := p) (e := e) (below := below) (s := s) (sargs := args) (len := 3) (W9 := 8) hM (Nat.le_refl _) (by show 8 + (maxL + 11) + 100 * d ≤ 100 * (d + 1); omega) hw1 hw2
  have hBk2 : Back l (cw_rm v (d + 1) σ0) p e below s args y 3 8 (fun A a => A.cells + (v.2.2.1 - c_hp σ) ≤ (cw_rm v (d + 1) σ0).cells ∧ A.slots + (v.2.2.2.1 - c_sl σ) ≤ (cw_rm v (d + 1) σ0).slots ∧ cw_P v σ (cR v b :: As) a A.U) (fun A _ w B => (0 : Nat) = 0 ∧ w = none ∧ cw_Po v σ σ1 A B) := by
    intro m' meth' c' A g ig mk a X1 h1 h2 h3 h4 h5 h6
    rcases hBk m' meth' c' A g ig mk a X1 h1 h2 h3 h4 h5 h6 with h | ⟨q, B, -, ⟨hk, -⟩, -⟩
    · exact h
    · exact absurd rfl hk
  obtain ⟨w, vm₁, B, hW₁, X', ⟨hk0, hw0, hPo⟩, st1⟩ := va_callIN X hx (bytes := bytes) (maxL := maxL) hown hy1 (va_Nw.use rfl hli) (hts _ hins) (hts _ (h0 _ (by simp)).1) ⟨hd.1, hd.2.1⟩ hBk2
    (g := F0 m pc ls st) rfl (hl.trans hml.symm) (a := cw_mp v b.toNat) (argsL := As) (rest := rest) (cw_par hd.2.2 hn) (by rw [← cR_r hb0]; exact hst) (lv_room hrest) (by rw [hb]; exact hdg)
    (fun vm₁ hW₁ => ⟨hrm.1, hrm.2, by rw [cR_r hb0], by show cw_M v σ T.heap; rw [hT]; exact hw.1, hK.at (cw_old hw) hT hW₁⟩)
  subst hw0
  obtain ⟨t2, a1, b1⟩ := kk _ _ _ _ (cw_behind (U := T) hw hT hPo) B.U rfl X'
  exact ⟨t2, st1 t2 a1, b1⟩
/-- a cell without a tag -/
theorem cw_x_W (hw : cw_W v s σ0 σ H locs cells slots) {n : Nat} (hhp : c_hp σ + 1 ≤ v.2.2.1 ∧ c_sl σ + n ≤ v.2.2.2.1) {H' : Heap} (e2 : H'.size = H.size + 1) (e3 : ∀ q : Nat, q < H.size → H'[q]? = H[q]?) : cw_W v s σ0 (cs_x σ n) H' locs (cells + 1) (slots + n) := by
  obtain ⟨⟨m1, m2, m3, m4⟩, w1, w2, w3, w4, w5, w6, w7⟩ := hw
  refine ⟨⟨⟨by rw [e2]; show _ = c_hp σ + 1 + _; omega, by show 100 ≤ c_hp σ + 1; omega⟩, fun b hb => ?_, m3, hhp.1, hhp.2, fun q hq => m4.2.2.1 q (by omega), m4.2.2.2⟩, w1, by show c_hp σ + 1 = _; omega, by show c_sl σ + n = _; omega, fun q hq h0 => ?_, w5, w6, w7⟩
  · have hm := m2 b hb
    exact hm.kept (e3 _ hm.here)
  · rw [e3 q (by have := m1.1; omega)]
    exact w4 q hq h0
theorem cw_vaS (hw : cw_W v s σ0 σ H locs cells slots) : va_S (cw_A v) s.heap H locs := by
  refine ⟨by have h1 := hw.1.1.1; have h2 := hw.2.1; have h3 := hw.2.2.1; omega, cw_old hw, fun z hz => ?_⟩
  rcases hw.2.2.2.2.2.1 z hz with ⟨a, ha, h⟩ | h
  · rw [← h]; exact hw.2.2.2.2.2.2.2.1 _ ha
  · exact hw.2.2.2.2.2.2.2.2.1 _ h
/-- throw new E(): the exception leaves the method -/
theorem cw_throw (B : cw_B v own p s m args meth c cc nL ret) (hnh : ∀ x ∈ c.exceptionTable.toList, False) (htr : l.stackTraces = false) (hw : cw_W v s σ0 σ H locs cells slots) (hkd : kd ≠ 0) {ik ic : Nat} (hfit : Bundle.fit (cw_ex kd) = true) (hcl : Cond.classLink own ik (cw_ex kd) ∈ cw_bw) (hini : Cond.initialized (cw_ex kd) ∈ cw_bw) (hat : ∀ w ∈ vx_at0 own ic (cw_ex kd) ["java/lang/RuntimeException", "java/lang/Exception"], w.before args s = true) (hgood : ∀ w ∈ Cond.classLink own ik (cw_ex kd) :: Cond.initialized (cw_ex kd) :: vx_at0 own ic (cw_ex kd) ["java/lang/RuntimeException", "java/lang/Exception"], vx_ot w = true)
    (hd5 : 5 ≤ d) (hm : c_hp σ + 1 ≤ v.2.2.1 ∧ c_sl σ + 6 ≤ v.2.2.2.1) (h1 : σ1 = cs_x σ 6) (hl : ls.size = nL) (hrest : (rest.map fun v => v.category).sum ≤ 8) (d0 : decode cc pc = .ok (.new ik, 3)) (d3 : decode cc (pc + 3) = .ok (.dup, 1)) (d4 : decode cc (pc + 4) = .ok (.invokespecial ic, 3)) (d7 : decode cc (pc + 7) = .ok (.athrow, 1)) :
    W p l e (cw_rm v (d + 1) σ0) s m args below meth c H locs cells slots (cw_Z below v σ0 σ1 kd rv args s) (F0 m pc ls rest) := by
  obtain ⟨hx, hb, hr, hml, hown, hts, hlk, hK⟩ := B
  have w2 := hw.2.2.1
  have w3 := hw.2.2.2.1
  have hwt := vx_throwE (A := cw_A v) (R := cw_rm v (d + 1) σ0) (e := e) (below := below) (rest := rest) hx hb htr hown hfit (by decide) (hts _ hcl) (hts _ hini) hat hgood hK.2.1.1 hK.2.1.2.1 (cw_vaS hw) (hl.trans hml.symm) d0 d3 d4 d7 (fun x hx => (hnh x hx).elim) (by show 2 + 3 < d + 1; omega) (by show _ + (13 * (2 + 1) + 42) ≤ 100 * (d + 1); omega) (by show cells + 1 ≤ v.2.2.1 - c_hp σ0; omega) (by show slots + 6 ≤ v.2.2.2.1 - c_sl σ0; omega) hlk
  refine cw_mono ?_ hwt
  rintro t ⟨ce, hrun, hend, hce, hcv, hcls, hWt, hsm, hle, hsame⟩
  have hsz : t.heap.size = H.size + 1 := by
    have h1 : H.size < t.heap.size := (Array.getElem?_eq_some_iff.mp hce).1
    have h2 : t.heap.size ≤ s.heap.size + (cells + 1) := hsm.2.2.1
    have h3 := hw.1.1.1
    have h4 := hw.2.1
    omega
  have hw' := cw_x_W hw (n := 6) hm hsz hsame
  subst h1
  exact ⟨.threw H.size, hrun, hend, cells + 1, slots + 6, locs, Or.inr ⟨hkd, H.size, ce, rfl, hce, hcv, hcls⟩, hWt, hsm, hw'.2.2.1, hw'.2.2.2.1, hw'.1, hw'.2.2.2.2.1, hw'.2.2.2.2.2.1, hw'.2.2.2.2.2.2.1⟩
/-- newarray of ints or bytes -/
theorem cw_newa (B : cw_B v own p s m args meth c cc nL ret) (hw : cw_W v s σ0 σ H locs cells slots) {t : Nat} {at9 : ArrayType} (ht : (t = 20 ∧ at9 = .byte) ∨ (t = 21 ∧ at9 = .int)) (hac : Cond.arrayClass (Op.newarray.typeOf at9) ∈ cw_bw) {i : Int} (hi : inR i) (hi0 : 0 ≤ i) (hbig : i.toNat * 4 ≤ 536870912)
    (hm1 : c_hp σ + 1 ≤ v.2.2.1 ∧ c_sl σ + i.toNat ≤ v.2.2.2.1) (h1 : σ1 = cs_n σ t i.toNat) {z : Int} (hz : z = (c_hp σ : Int)) (hdg : decode cc pc = .ok (.newarray at9, 2))
    (kk : ∀ (H : Heap), cw_W v s σ0 σ1 H locs (cells + 1) (slots + i.toNat) → W p l e (cw_rm v d σ0) s m args below meth c H locs (cells + 1) (slots + i.toNat) Q (F0 m (pc + 2) ls (cR v z :: rest))) : W p l e (cw_rm v d σ0) s m args below meth c H locs cells slots Q (F0 m pc ls (.int (rI i) :: rest)) := by
  obtain ⟨hx, hb, hr, hml, hown, hts, hlk, hK⟩ := B
  have w2 := hw.2.2.1
  have w3 := hw.2.2.2.1
  have hsz : H.size = cw_mp v (c_hp σ) := by have h7 := hw.1.1.1; have h8 := hw.1.1.2; rw [cw_mp_n h8]; omega
  have hcn : (rI i).toNatClampNeg = i.toNat := rI_cl hi
  refine va_newaK hx hb (hts _ hac) (g := F0 m pc ls (.int (rI i) :: rest)) rfl hdg (rest := rest) rfl (fun q => by have := (rI_lt hi inR_0).mp q; omega) hcn ?_ (by show cells + 1 ≤ v.2.2.1 - c_hp σ0; omega) (by show slots + i.toNat ≤ v.2.2.2.1 - c_sl σ0; omega) (h := cw_mp v (c_hp σ)) hsz ?_
  · rcases ht with ⟨-, rfl⟩ | ⟨-, rfl⟩
    · show i.toNat * 1 ≤ 536870912; omega
    · show i.toNat * 4 ≤ 536870912; omega
  · intro H' cA e1 e2 e3 hAA hf
    have hcz : cR v z = .ref (cw_mp v (c_hp σ)) := by rw [hz, cR_r (by omega)]; rfl
    subst h1
    rw [← hcz]
    rw [← hsz] at e2 e3
    refine kk H' (cw_new_W hw (by rcases ht with ⟨rfl, -⟩ | ⟨rfl, -⟩ <;> omega) hm1 ?_ e2 e3)
    unfold cw_at
    have htg : c_tg (cs_n σ t i.toNat) (c_hp σ) = t := if_pos rfl
    have hln : c_ln (cs_n σ t i.toNat) (c_hp σ) = i.toNat := if_pos rfl
    have hpv : ∀ g, c_pv (cs_n σ t i.toNat) (c_hp σ) g = (if cw_isR t g = true then -1 else 0) := fun g => if_pos rfl
    rw [htg, hln]
    simp only [hpv]
    rcases ht with ⟨rfl, rfl⟩ | ⟨rfl, rfl⟩
    · rw [if_neg (by omega), e1]
      have hc : cA = v.1 20 := Option.some.inj (hf.symm.trans hK.1.2.2.2.2.1)
      rw [hc]; exact ⟨_, rfl, _, Or.inl rfl, cw_ar_0 _ _ _⟩
    · rw [if_neg (by omega), e1]
      have hc : cA = v.1 21 := Option.some.inj (hf.symm.trans hK.1.2.2.2.2.2.1)
      rw [hc]; exact ⟨_, rfl, _, Or.inl rfl, cw_ar_0 _ _ _⟩
end CCB
