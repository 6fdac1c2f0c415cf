section CRE
variable {p : Program} {l : Launch} {e : Env} {R : Room} {s : State} {m : MethodId} {args : Array Value} {below : List Frame} {meth : Method} {c : Code} {H : Heap} {locs : List Loc} {cells slots : Nat} {Q : State → Prop} {cc : ByteArray} {pc : Nat} {ls : Array Slot} {rest : List Value}
variable {v : cwE} {σ0 σ : CS} {nL d : Nat} {ret : Option FieldType} {own : String}
theorem rI_nat {n : Nat} (h : n < 2 ^ 31) : Int32.ofNat n = rI (n : Int) := Int32.toInt_inj.1 (by rw [rI_T ⟨by omega, by omega⟩]; exact nI_toInt h)
/-- arraylength -/
theorem cw_len (B : cw_B v own p s m args meth c cc nL ret) (hw : cw_W v s σ0 σ H locs cells slots) {t : Nat} {x z : Int} (h : 0 ≤ x ∧ c_tg σ x.toNat = t) (ht : t = 20 ∨ t = 21 ∨ t = 22 ∨ t = 23) (hz : z = (c_ln σ x.toNat : Int)) (hzr : inR z) (hdg : decode cc pc = .ok (.arraylength, 1))
    (kk : W p l e R s m args below meth c H locs cells slots Q (F0 m (pc + 1) ls (.int (rI z) :: rest))) : W p l e R s m args below meth c H locs cells slots Q (F0 m pc ls (cR v x :: rest)) := by
  obtain ⟨hx, hb, hr, hml, hown, hts, hlk, hK⟩ := B
  obtain ⟨ce, ha, cA, hcn, har⟩ := cw_arx hw h (by omega)
  rw [cR_r h.1]
  have hn : c_ln σ x.toNat < 2 ^ 31 := by have := hzr.2; omega
  have hs : ∀ ty, ArrOfT s cA ty → W p l e R s m args below meth c H locs cells slots Q (F0 m pc ls (.ref (cw_mp v x.toNat) :: rest)) := fun ty hA =>
    W.alen (n := rI z) hx hb ha (har.isA hA) (by rw [har.size, hz]; exact rI_nat hn) rfl rfl hdg kk
  rcases ht with rfl | rfl | rfl | rfl
  · exact hs _ (cw_cnB hK hcn)
  · obtain rfl : cA = v.1 21 := hcn.resolve_right (by omega)
    exact hs _ hK.1.2.2.1
  · obtain rfl : cA = v.1 22 := hcn.resolve_right (by omega)
    exact hs _ hK.1.2.2.2.1
  · obtain rfl : cA = v.1 23 := hcn.resolve_right (by omega)
    exact hs _ hK.1.2.2.2.2.2.2.2.2.2.1
theorem cw_inb {x i : Int} {n : Nat} (hir : inR i) (hi : 0 ≤ i ∧ i < (n : Int)) {f : Nat → Value} {cA : ClassId} {ce : Cell} (har : cw_ar ce cA n f) : ¬ (rI i < 0 ∨ ce.slots.size ≤ (rI i).toNatClampNeg) := by
  rw [har.size]
  exact rI_in hir hi.1 hi.2
/-- iaload, baload -/
theorem cw_aldI (B : cw_B v own p s m args meth c cc nL ret) (hw : cw_W v s σ0 σ H locs cells slots) {x i z : Int} (h : 0 ≤ x ∧ c_tg σ x.toNat = 21) (hir : inR i) (hi : 0 ≤ i ∧ i < (c_ln σ x.toNat : Int)) (hz : z = c_pv σ x.toNat i.toNat) (hdg : decode cc pc = .ok (.iaload, 1))
    (kk : W p l e R s m args below meth c H locs cells slots Q (F0 m (pc + 1) ls (.int (rI z) :: rest))) : W p l e R s m args below meth c H locs cells slots Q (F0 m pc ls (.int (rI i) :: cR v x :: rest)) := by
  obtain ⟨hx, hb, hr, hml, hown, hts, hlk, hK⟩ := B
  rw [cR_r h.1]
  obtain ⟨ce, ha, har⟩ := cw_arr hw h (by omega)
  refine W.iald (v := .int (rI z)) hx hb ha (har.isA hK.1.2.2.1) har.2.2.1 (cw_inb (x := x) hir hi har) ?_ rfl rfl hdg kk
  rw [rI_cl hir, har.read (by omega), hz]; rfl
theorem cw_aldB (B : cw_B v own p s m args meth c cc nL ret) (hw : cw_W v s σ0 σ H locs cells slots) {x i z : Int} (h : 0 ≤ x ∧ c_tg σ x.toNat = 20) (hir : inR i) (hi : 0 ≤ i ∧ i < (c_ln σ x.toNat : Int)) (hz : z = c_pv σ x.toNat i.toNat) (hdg : decode cc pc = .ok (.baload, 1))
    (kk : W p l e R s m args below meth c H locs cells slots Q (F0 m (pc + 1) ls (.int (rI z) :: rest))) : W p l e R s m args below meth c H locs cells slots Q (F0 m pc ls (.int (rI i) :: cR v x :: rest)) := by
  obtain ⟨hx, hb, hr, hml, hown, hts, hlk, hK⟩ := B
  rw [cR_r h.1]
  obtain ⟨ce, ha, cA, hcn, har⟩ := cw_arx hw h (by omega)
  refine W.bald (v := .int (rI z)) hx hb ha (har.isA (cw_cnB hK hcn)) har.2.2.1 (cw_inb (x := x) hir hi har) ?_ rfl rfl hdg kk
  rw [rI_cl hir, har.read (by omega), hz]; rfl
/-- aaload of Nodes -/
theorem cw_aldR (B : cw_B v own p s m args meth c cc nL ret) (hw : cw_W v s σ0 σ H locs cells slots) {x i z : Int} (h : 0 ≤ x ∧ c_tg σ x.toNat = 22) (hir : inR i) (hi : 0 ≤ i ∧ i < (c_ln σ x.toNat : Int)) (hz : z = c_pv σ x.toNat i.toNat) (hdg : decode cc pc = .ok (.aaload, 1))
    (kk : W p l e R s m args below meth c H locs cells slots Q (F0 m (pc + 1) ls (cR v z :: rest))) : W p l e R s m args below meth c H locs cells slots Q (F0 m pc ls (.int (rI i) :: cR v x :: rest)) := by
  obtain ⟨hx, hb, hr, hml, hown, hts, hlk, hK⟩ := B
  rw [cR_r h.1]
  obtain ⟨ce, ha, har⟩ := cw_arr hw h (by omega)
  refine W.aald (v := cR v z) hx hb ha (har.isA hK.1.2.2.2.1) rfl har.2.2.1 (cw_inb (x := x) hir hi har) ?_ rfl rfl hdg kk
  rw [rI_cl hir, har.read (by omega), hz]; rfl
theorem cw_st_at {t a n : Nat} {i y : Int} (hir : inR i) (hta : c_tg σ a = t) (ht : 20 ≤ t) {H' : Heap} {w : Value} (hwv : w = cw_fv v t i.toNat y) {ce : Cell} {cA : ClassId} (hcn : cw_cn v t cA) (har : cw_ar ce cA (c_ln σ a) (fun i => cw_fv v t i (c_pv σ a i))) (e1 : H'[cw_mp v a]? = some (ce.setSlot (rI i).toNatClampNeg w)) : cw_at v (cs_p σ a i.toNat y) a H' := by
  unfold cw_at
  have htg : c_tg (cs_p σ a i.toNat y) a = t := hta
  have hln : c_ln (cs_p σ a i.toNat y) a = c_ln σ a := rfl
  rw [htg, hln, if_neg (by omega)]
  refine ⟨_, e1, cA, hcn, ?_⟩
  have h9 := har.set (rI i).toNatClampNeg w
  rw [rI_cl hir, hwv] at h9
  rw [rI_cl hir, hwv]
  refine (congrArg (cw_ar _ cA (c_ln σ a)) ?_).mp h9
  funext q
  show (if q = i.toNat then cw_fv v t i.toNat y else cw_fv v t q (c_pv σ a q)) = cw_fv v t q (if a = a then (if q = i.toNat then y else c_pv σ a q) else c_pv σ a q)
  rw [if_pos rfl]
  by_cases hq : q = i.toNat
  · rw [if_pos hq, if_pos hq, hq]
  · rw [if_neg hq, if_neg hq]
/-- iastore -/
theorem cw_astI (B : cw_B v own p s m args meth c cc nL ret) (hw : cw_W v s σ0 σ H locs cells slots) {x i y : Int} (h : 0 ≤ x ∧ c_tg σ x.toNat = 21) (hir : inR i) (hi : 0 ≤ i ∧ i < (c_ln σ x.toNat : Int)) (hy : inR y) {σ1 : CS} (h1 : σ1 = cs_p σ x.toNat i.toNat y) (hdg : decode cc pc = .ok (.iastore, 1))
    (kk : ∀ (H : Heap) (locs : List Loc), cw_W v s σ0 σ1 H locs cells slots → W p l e R s m args below meth c H locs cells slots Q (F0 m (pc + 1) ls rest)) : W p l e R s m args below meth c H locs cells slots Q (F0 m pc ls (.int (rI y) :: .int (rI i) :: cR v x :: rest)) := by
  obtain ⟨hx, hb, hr, hml, hown, hts, hlk, hK⟩ := B
  rw [cR_r h.1]
  obtain ⟨ce, ha, har⟩ := cw_arr hw h (by omega)
  refine W.iast hx hb ha (har.isA hK.1.2.2.1) har.2.2.1 (cw_inb (x := x) hir hi har) rfl rfl hdg fun H' e1 e2 e3 => ?_
  subst h1
  exact kk H' _ (cw_put_W hw h.2 (by omega) hy (cw_st_at (n := 0) hir h.2 (by omega) (by rfl) (Or.inl rfl) har e1) e2 e3)
def rn_b (y : Int) : Int := ((rI y).toInt8.toInt32).toInt
theorem rn_b_R (y : Int) : inR (rn_b y) := inR_of _
/-- bastore -/
theorem cw_astB (B : cw_B v own p s m args meth c cc nL ret) (hw : cw_W v s σ0 σ H locs cells slots) {x i y : Int} (h : 0 ≤ x ∧ c_tg σ x.toNat = 20) (hir : inR i) (hi : 0 ≤ i ∧ i < (c_ln σ x.toNat : Int)) {σ1 : CS} (h1 : σ1 = cs_p σ x.toNat i.toNat (rn_b y)) (hdg : decode cc pc = .ok (.bastore, 1))
    (kk : ∀ (H : Heap) (locs : List Loc), cw_W v s σ0 σ1 H locs cells slots → W p l e R s m args below meth c H locs cells slots Q (F0 m (pc + 1) ls rest)) : W p l e R s m args below meth c H locs cells slots Q (F0 m pc ls (.int (rI y) :: .int (rI i) :: cR v x :: rest)) := by
  obtain ⟨hx, hb, hr, hml, hown, hts, hlk, hK⟩ := B
  rw [cR_r h.1]
  obtain ⟨ce, ha, cA, hcn, har⟩ := cw_arx hw h (by omega)
  refine W.bast hx hb ha (har.isA (cw_cnB hK hcn)) har.2.2.1 (cw_inb (x := x) hir hi har) rfl rfl hdg fun H' e1 e2 e3 => ?_
  subst h1
  refine kk H' _ (cw_put_W hw h.2 (by omega) (rn_b_R y) (cw_st_at (n := 0) hir h.2 (by omega) ?_ hcn har e1) e2 e3)
  show narrow .byte (.int (rI y)) = .int (rI (rn_b y))
  unfold rn_b
  rw [rI_of]
  rfl
theorem cw_aastN (hx : p.tables.exec = Jvm.exec) (hb : c.code = cc) {a : Addr} {cell : Cell} {j : Int32} {k : Class} {comp : ClassId} {t : FieldType} (hcell : H[a]? = some cell) (hobj : ∀ q, cell.vm ≠ .statics q) (hknown : cell.vm ≠ .unknown) (hk : s.vm.classes[cell.cls]? = some k) (hkind : k.kind = .array comp t) (href : t.isReference = true) (hin : ¬ j < 0 ∧ j.toNatClampNeg < cell.slots.size) (hdg : decode cc pc = .ok (.aastore, 1))
    (kk : ∀ H' : Heap, H'[a]? = some (cell.setSlot j.toNatClampNeg .null) → H'.size = H.size → (∀ q, q ≠ a → H'[q]? = H[q]?) → W p l e R s m args below meth c H' (locs ++ [⟨a, j.toNatClampNeg⟩]) cells slots Q (F0 m (pc + 1) ls rest)) : W p l e R s m args below meth c H locs cells slots Q (F0 m pc ls (.null :: .int j :: .ref a :: rest)) := by
  intro T hT X
  have hT' : T.heap[a]? = some cell := by rw [hT]; exact hcell
  obtain ⟨X', st⟩ := X.aastoreNullIn hx hT' hobj hknown hk hkind href hin (g := F0 m pc ls (.null :: .int j :: .ref a :: rest)) rfl rfl (by rw [hb]; exact hdg)
  have hlt : a < T.heap.size := (Array.getElem?_eq_some_iff.mp hT').1
  obtain ⟨t', a1, b1⟩ := kk _ (heapAt_setCell_self _ hlt) (by rw [size_setCell, hT]) (fun q hq => by rw [heapAt_setCell_ne _ (Ne.symm hq), hT]) (T.setCell a (cell.setSlot j.toNatClampNeg .null)) rfl X'
  exact ⟨t', st t' a1, b1⟩
/-- aastore into a row of Nodes (22), of Objects (23): the value's class fits -/
theorem cw_astG (B : cw_B v own p s m args meth c cc nL ret) (hw : cw_W v s σ0 σ H locs cells slots) {t tv : Nat} {x i y : Int} (ht : t = 22 ∨ t = 23) (h : 0 ≤ x ∧ c_tg σ x.toNat = t) (hir : inR i) (hi : 0 ≤ i ∧ i < (c_ln σ x.toNat : Int)) (hy : inR y) (hyt : y < 0 ∨ (0 ≤ y ∧ c_tg σ y.toNat = tv)) (htv : 1 ≤ tv ∧ tv ≤ 13) {E : String} (hRA : va_RA s (v.1 t) (.object E)) (hasg : ∀ comp, s.vm.findClass E = some comp → s.vm.assignable (v.1 tv) comp = true) {σ1 : CS} (h1 : σ1 = cs_p σ x.toNat i.toNat y) (hdg : decode cc pc = .ok (.aastore, 1))
    (kk : ∀ (H : Heap) (locs : List Loc), cw_W v s σ0 σ1 H locs cells slots → W p l e R s m args below meth c H locs cells slots Q (F0 m (pc + 1) ls rest)) : W p l e R s m args below meth c H locs cells slots Q (F0 m pc ls (cR v y :: .int (rI i) :: cR v x :: rest)) := by
  obtain ⟨hx, hb, hr, hml, hown, hts, hlk, hK⟩ := B
  obtain ⟨kA, comp, k1, k2, k3, -⟩ := hRA
  have hisR : ∀ q, cw_fv v t q y = cR v y := fun q => by rcases ht with rfl | rfl <;> rfl
  obtain ⟨ce, ha, har⟩ := cw_arr hw h (by omega)
  have hin : ¬ rI i < 0 ∧ (rI i).toNatClampNeg < ce.slots.size := ⟨fun q => by have := (rI_lt hir inR_0).mp q; omega, by rw [har.size, rI_cl hir]; omega⟩
  rw [← har.1] at k1
  subst h1
  rw [cR_r h.1]
  rcases hyt with hyn | hyt
  · rw [cR_n hyn]
    refine cw_aastN hx hb ha har.2.2.2 har.2.2.1 k1 k2 rfl hin hdg fun H' e1 e2 e3 => ?_
    exact kk H' _ (cw_put_W hw h.2 (by omega) hy (cw_st_at (n := 0) hir h.2 (by omega) (by rw [hisR, cR_n hyn]) (Or.inl rfl) har e1) e2 e3)
  · obtain ⟨cell, g1, g2, g3, g4⟩ := cw_obj hw hyt htv
    obtain ⟨hS, hfc, kC, hkC, hkind⟩ := hK.1.1 tv htv.1 htv.2
    obtain ⟨kO, hkO, -⟩ := Vm.findClass_spec k3
    rw [cR_r hyt.1]
    refine W.aast hx hb ha har.2.2.2 har.2.2.1 k1 k2 rfl hkO hin g1 (fun q h => by rw [g3] at h; cases h) (by rw [g2]; exact hkC) (by rw [g2]; exact hasg _ k3) rfl rfl hdg fun H' e1 e2 e3 => ?_
    exact kk H' _ (cw_put_W hw h.2 (by omega) hy (cw_st_at (n := 0) hir h.2 (by omega) (by rw [hisR, cR_r hyt.1]) (Or.inl rfl) har e1) e2 e3)
theorem cw_astR (B : cw_B v own p s m args meth c cc nL ret) (hw : cw_W v s σ0 σ H locs cells slots) {x i y : Int} (h : 0 ≤ x ∧ c_tg σ x.toNat = 22) (hir : inR i) (hi : 0 ≤ i ∧ i < (c_ln σ x.toNat : Int)) (hy : inR y) (hyt : y < 0 ∨ (0 ≤ y ∧ c_tg σ y.toNat = 7)) {σ1 : CS} (h1 : σ1 = cs_p σ x.toNat i.toNat y) (hdg : decode cc pc = .ok (.aastore, 1))
    (kk : ∀ (H : Heap) (locs : List Loc), cw_W v s σ0 σ1 H locs cells slots → W p l e R s m args below meth c H locs cells slots Q (F0 m (pc + 1) ls rest)) : W p l e R s m args below meth c H locs cells slots Q (F0 m pc ls (cR v y :: .int (rI i) :: cR v x :: rest)) := by
  have hK := B.2.2.2.2.2.2.2
  refine cw_astG (tv := 7) B hw (Or.inl rfl) h hir hi hy hyt ⟨by omega, by omega⟩ hK.1.2.2.2.2.2.2.1 (fun comp hc => ?_) h1 hdg kk
  have hcomp : v.1 7 = comp := Option.some.inj ((hK.1.1 7 (by omega) (by omega)).2.1.symm.trans hc)
  rw [hcomp]
  exact va_asg _ _
theorem cw_castO {U : State} {C : String} {cC : ClassId} (h : va_Nw (.castable C cRO) U) (hc : U.vm.findClass C = some cC) : ∀ comp, U.vm.findClass cRO = some comp → U.vm.assignable cC comp = true := by
  intro comp h2
  obtain ⟨c0, t0, f1, f2, f3⟩ := Cond.castable_spec (va_Nw.use (A := #[]) rfl h)
  cases hc.symm.trans f1
  cases h2.symm.trans f2
  exact f3
/-- aastore of a Node or a Statement into a row of Objects -/
theorem cw_astO (B : cw_B v own p s m args meth c cc nL ret) (hw : cw_W v s σ0 σ H locs cells slots) {x i y : Int} (h : 0 ≤ x ∧ c_tg σ x.toNat = 23) (hir : inR i) (hi : 0 ≤ i ∧ i < (c_ln σ x.toNat : Int)) (hy : inR y) (hyt : y < 0 ∨ (0 ≤ y ∧ (c_tg σ y.toNat = 7 ∨ c_tg σ y.toNat = 10))) {σ1 : CS} (h1 : σ1 = cs_p σ x.toNat i.toNat y) (hdg : decode cc pc = .ok (.aastore, 1))
    (kk : ∀ (H : Heap) (locs : List Loc), cw_W v s σ0 σ1 H locs cells slots → W p l e R s m args below meth c H locs cells slots Q (F0 m (pc + 1) ls rest)) : W p l e R s m args below meth c H locs cells slots Q (F0 m pc ls (cR v y :: .int (rI i) :: cR v x :: rest)) := by
  have hK := B.2.2.2.2.2.2.2
  have hK1 := hK.1.2.2.2.2.2.2.2.2
  rcases hyt with hyn | ⟨hy0, h7 | h10⟩
  · exact cw_astG (tv := 7) B hw (Or.inr rfl) h hir hi hy (Or.inl hyn) ⟨by omega, by omega⟩ hK1.1 (cw_castO hK1.2.2.2.2.2.2.1 (hK.1.1 7 (by omega) (by omega)).2.1) h1 hdg kk
  · exact cw_astG (tv := 7) B hw (Or.inr rfl) h hir hi hy (Or.inr ⟨hy0, h7⟩) ⟨by omega, by omega⟩ hK1.1 (cw_castO hK1.2.2.2.2.2.2.1 (hK.1.1 7 (by omega) (by omega)).2.1) h1 hdg kk
  · exact cw_astG (tv := 10) B hw (Or.inr rfl) h hir hi hy (Or.inr ⟨hy0, h10⟩) ⟨by omega, by omega⟩ hK1.1 (cw_castO hK1.2.2.2.2.2.2.2.1 (hK.1.1 10 (by omega) (by omega)).2.1) h1 hdg kk
/-- aaload of a row of Objects -/
theorem cw_aldO (B : cw_B v own p s m args meth c cc nL ret) (hw : cw_W v s σ0 σ H locs cells slots) {x i z : Int} (h : 0 ≤ x ∧ c_tg σ x.toNat = 23) (hir : inR i) (hi : 0 ≤ i ∧ i < (c_ln σ x.toNat : Int)) (hz : z = c_pv σ x.toNat i.toNat) (hdg : decode cc pc = .ok (.aaload, 1))
    (kk : W p l e R s m args below meth c H locs cells slots Q (F0 m (pc + 1) ls (cR v z :: rest))) : W p l e R s m args below meth c H locs cells slots Q (F0 m pc ls (.int (rI i) :: cR v x :: rest)) := by
  obtain ⟨hx, hb, hr, hml, hown, hts, hlk, hK⟩ := B
  rw [cR_r h.1]
  obtain ⟨ce, ha, har⟩ := cw_arr hw h (by omega)
  refine W.aald (v := cR v z) hx hb ha (har.isA hK.1.2.2.2.2.2.2.2.2.2.1) rfl har.2.2.1 (cw_inb (x := x) hir hi har) ?_ rfl rfl hdg kk
  rw [rI_cl hir, har.read (by omega), hz]; rfl
/-- a new cell with a tag -/
theorem cw_new_W (hw : cw_W v s σ0 σ H locs cells slots) {t n : Nat} (ht : t ≠ 0) (hhp : c_hp σ + 1 ≤ v.2.2.1 ∧ c_sl σ + n ≤ v.2.2.2.1) {H' : Heap} (hat : cw_at v (cs_n σ t n) (c_hp σ) H') (e2 : H'.size = H.size + 1) (e3 : ∀ q : Nat, q < H.size → H'[q]? = H[q]?) : cw_W v s σ0 (cs_n σ t n) H' locs (cells + 1) (slots + n) := by
  obtain ⟨⟨m1, m2, m3, m4⟩, w1, w2, w3, w4, w5, w6, w7⟩ := hw
  have hsz : cw_mp v (c_hp σ) = H.size := by rw [cw_mp_n m1.2]; omega
  refine ⟨⟨⟨by rw [e2]; show _ = c_hp σ + 1 + _; omega, by show 100 ≤ c_hp σ + 1; omega⟩, fun b hb => ?_, fun b g => ?_, hhp.1, hhp.2, fun q hq => m4.2.2.1 q (by omega), fun b hb => ?_⟩, w1, by show c_hp σ + 1 = _; omega, by show c_sl σ + n = _; omega, fun q hq h0 => ?_, w5, fun q hq => ?_, w7⟩
  · by_cases hba : b = c_hp σ
    · subst hba; exact hat
    · have hb' : c_tg σ b ≠ 0 := by
        have : c_tg (cs_n σ t n) b = c_tg σ b := if_neg hba
        rw [← this]; exact hb
      have hm := m2 b hb'
      have h9 := hm.kept (e3 _ hm.here)
      unfold cw_at at h9 ⊢
      have hpv : ∀ g, c_pv (cs_n σ t n) b g = c_pv σ b g := fun g => if_neg hba
      have htg : c_tg (cs_n σ t n) b = c_tg σ b := if_neg hba
      have hln : c_ln (cs_n σ t n) b = c_ln σ b := if_neg hba
      rw [htg, hln]
      simp only [hpv]
      exact h9
  · show inR (if b = c_hp σ then (if cw_isR t g = true then -1 else 0) else c_pv σ b g)
    split
    · split
      · exact ⟨by decide, by decide⟩
      · exact ⟨by decide, by decide⟩
    · exact m3 b g
  · by_cases hba : b = c_hp σ
    · rw [hba, hsz]; exact ⟨m4.2.2.1 _ (Nat.le_refl _), Or.inl m1.2⟩
    · exact m4.2.2.2 b (by have : c_tg (cs_n σ t n) b = c_tg σ b := if_neg hba; rw [← this]; exact hb)
  · rw [e3 q (by have := m1.1; omega)]
    exact w4 q hq h0
  · by_cases hba : q = c_hp σ
    · right; rw [hba]; omega
    · exact w6 q (by have : c_tg (cs_n σ t n) q = c_tg σ q := if_neg hba; rw [← this]; exact hq)
/-- new -/
theorem cw_new (B : cw_B v own p s m args meth c cc nL ret) (hw : cw_W v s σ0 σ H locs cells slots) {t N index : Nat} (hT : cw_OKt t) (hN : (cw_tab t).2.2 = N) (hdef : ∀ f, f < (cw_tab t).2.2 → defaultValue (cw_ty t f) = cw_fv v t f (if cw_isR t f = true then -1 else 0)) (hcl : Cond.classLink own index (cw_tab t).1 ∈ cw_bw) (hin : Cond.instantiable (cw_tab t).1 N ∈ cw_bw) (hini : Cond.initialized (cw_tab t).1 ∈ cw_bw)
    (hm1 : c_hp σ + 1 ≤ v.2.2.1 ∧ c_sl σ + N ≤ v.2.2.2.1 ∧ c_hp σ < 2147483648) {σ1 : CS} (h1 : σ1 = cs_n σ t N) {z : Int} (hz : z = (c_hp σ : Int)) (hdg : decode cc pc = .ok (.new index, 3))
    (kk : ∀ (H : Heap), cw_W v s σ0 σ1 H locs (cells + 1) (slots + N) → W p l e (cw_rm v d σ0) s m args below meth c H locs (cells + 1) (slots + N) Q (F0 m (pc + 3) ls (cR v z :: rest))) : W p l e (cw_rm v d σ0) s m args below meth c H locs cells slots Q (F0 m pc ls rest) := by
  obtain ⟨hx, hb, hr, hml, hown, hts, hlk, hK⟩ := B
  have hKt := hK.1.1 t hT.1.1 hT.1.2
  have w2 := hw.2.2.1
  have w3 := hw.2.2.2.1
  refine W.newcK hx hb hown (hts _ hcl) (hts _ hin) (hts _ hini) rfl hdg (by show cells + 1 ≤ v.2.2.1 - c_hp σ0; omega) (by show slots + N ≤ v.2.2.2.1 - c_sl σ0; omega) hKt.2.1 rfl fun H1 kC hkC e1 z1 o1 => ?_
  have hsz : H.size = cw_mp v (c_hp σ) := by have h7 := hw.1.1.1; have h8 := hw.1.1.2; rw [cw_mp_n h8]; omega
  subst h1
  have hcz : cR v z = .ref H.size := by rw [hz, cR_r (by omega), Int.toNat_natCast, ← hsz]
  rw [← hcz]
  refine kk H1 (cw_new_W hw (by have := hT.1.1; omega) ⟨hm1.1, hm1.2.1⟩ ?_ z1 o1)
  unfold cw_at
  have htg : c_tg (cs_n σ t N) (c_hp σ) = t := if_pos rfl
  rw [htg, if_pos (by have := hT.1.2; omega), ← hsz]
  refine (u_born (cw_ty t) hts hT.2.1 hKt hkC e1 hT.2.2.1).to (fun j hj => ?_)
  rw [hdef j hj]
  show _ = cw_fv v t j (if c_hp σ = c_hp σ then (if cw_isR t j = true then -1 else 0) else c_pv σ (c_hp σ) j)
  rw [if_pos rfl]
end CRE
