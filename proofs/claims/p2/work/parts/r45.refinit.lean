/-! THE REFERENCE'S CONSTRUCTOR: its arrays are made one behind the other, so their addresses are known ahead -/
section RCA
/-- in which order the arrays are made -/
def rc_ord (k : Nat) : Nat := match k with
  | 0 => 0 | 2 => 1 | 4 => 2 | 16 => 3 | 17 => 4 | 18 => 5 | 19 => 6 | 21 => 7 | 22 => 8 | 23 => 9 | 24 => 10 | 25 => 11 | 26 => 12 | 28 => 13
  | 30 => 14 | 31 => 15 | 32 => 16 | 33 => 17 | 34 => 18 | 35 => 19 | 36 => 20 | 37 => 21 | 38 => 22 | 40 => 23 | 41 => 24 | 42 => 25 | 44 => 26 | 45 => 27 | 46 => 28 | 47 => 29
  | 49 => 30 | 50 => 31 | 58 => 32 | 74 => 33 | k => k
/-- the words that are laid already -/
def rc_wv (v : rfE) (wn : Nat) : Nat → Value := fun i => if i < wn then .ref (rf_aK v i) else .null
def rc_W (v : rfE) (s : State) (na wn : Nat) (cS : ClassId) (V : Nat → Value) (H : Heap) (locs : List Loc) : Prop :=
  t_OB (rf_h v) v.1 83 v.2.1 H V ∧ H.size = s.heap.size + na ∧ (∀ k, rf_len k ≠ 0 → rc_ord k < na → H[rf_ad v k]? = some (arrV v.2.2.1 (rf_len k) (fun _ => .int 0))) ∧
  (0 < na → H[rf_ad v 0]? = some (arrV cS 9 (rc_wv v wn))) ∧ (∀ q : Nat, q < s.heap.size → q ≠ rf_h v → H[q]? = s.heap[q]?) ∧ ∀ q ∈ locs, q.base = rf_h v ∨ s.heap.size ≤ q.base
/-- where the arrays will lie; the object lies below -/
def rc_A (v : rfE) (s : State) : Prop := (∀ k, k = 0 ∨ rf_len k ≠ 0 → rf_ad v k = s.heap.size + rc_ord k) ∧ rf_h v < s.heap.size
theorem rc_ord_b : ∀ j, j < 83 → ∀ k, k < 83 → (!(rf_isA j && rf_isA k && rc_ord j == rc_ord k) || j == k) = true := by decide +kernel
theorem rc_ord_inj {j k : Nat} (hj : j < 83) (hk : k < 83) (h1 : rf_len j ≠ 0) (h2 : rf_len k ≠ 0) (h : rc_ord j = rc_ord k) : j = k := by
  have := rc_ord_b j hj k hk
  simp [rf_isA, h1, h2, h] at this
  exact this
theorem rf_len83 {k : Nat} (h : rf_len k ≠ 0) : k < 83 := by
  by_cases hk : k < 83
  · exact hk
  · exfalso
    apply h
    unfold rf_len
    split <;> first | omega | rfl
end RCA
section RCB
variable {p : Program} {l : Launch} {e : Env} {R : Room} {s : State} {m : MethodId} {args : Array Value} {below : List Frame} {meth : Method} {c : Code} {H : Heap} {locs : List Loc} {cells slots : Nat} {Q : State → Prop}
variable {cc : ByteArray} {pc : Nat} {ls : Array Slot} {rest : List Value} {v : rfE} {nL na wn : Nat} {ret : Option FieldType} {cS : ClassId} {V : Nat → Value}
/-- what holds in the constructor's body -/
def rc_B (v : rfE) (p : Program) (s : State) (m : MethodId) (args : Array Value) (meth : Method) (c : Code) : Prop :=
  p.tables.exec = Jvm.exec ∧ c.code = cX12_init ∧ meth.sig.returnType = none ∧ c.maxLocals = 1 ∧ s.vm.findClass RX12 = some m.cls ∧ (∀ w ∈ rf_bw, w.before args s = true) ∧ meth.locks = false ∧ meth.name = "<init>" ∧ u_Kn s RX12 TX12 83 v.1 v.2.1 ∧ ArrOfT s v.2.2.1 .int ∧ s.vm.findClass ("[" ++ FieldType.int.toString) = some v.2.2.1 ∧ (Cond.arrayClass .int).before args s = true ∧ rc_A v s
/-- newarray int, for field k -/
theorem rc_newa (B : rc_B v p s m args meth c) (hw : rc_W v s na wn cS V H locs) (k : Nat) {N : Nat} (hN : rf_len k = N) (hN0 : N ≠ 0) (ho : rc_ord k = na) (h0 : 0 < na) {n : Int32} (hn : n = rI (N : Int)) (hNs : N ≤ 140000) (hc : cells + 1 ≤ R.cells) (hs : slots + N ≤ R.slots) (hdg : decode cX12_init pc = .ok (.newarray .int, 2))
    (kk : ∀ (H : Heap), rc_W v s (na + 1) wn cS V H locs → W p l e R s m args below meth c H locs (cells + 1) (slots + N) Q (F0 m (pc + 2) ls (.ref (rf_ad v k) :: rest))) : W p l e R s m args below meth c H locs cells slots Q (F0 m pc ls (.int n :: rest)) := by
  obtain ⟨hx, hb, hr, hml, hown, hts, hlk, hin, hK, hA, hfA, hac, hAd, hh⟩ := B
  obtain ⟨hO, hsz, hAr, hWd, hfr, hlo⟩ := hw
  have hR : inR (N : Int) := ⟨by omega, by omega⟩
  have hcl : n.toNatClampNeg = N := by rw [hn, rI_cl hR]; omega
  have hkl : rf_len k ≠ 0 := by rw [hN]; exact hN0
  have had : rf_ad v k = H.size := by rw [hAd k (Or.inr hkl), hsz, ho]
  refine va_newaK hx hb (atype := .int) hac (g := F0 m pc ls (.int n :: rest)) rfl hdg (rest := rest) rfl (by rw [hn]; intro q; have := (rI_lt hR inR_0).mp q; omega) hcl (by show N * 4 ≤ 536870912; omega) hc hs (h := rf_ad v k) had.symm ?_
  intro H' cA e1 e2 e3 hAA hf
  have hcA : cA = v.2.2.1 := Option.some.inj (hf.symm.trans hfA)
  subst hcA
  rw [had] at e2 e3
  refine kk H' ⟨hO.kept (e3 _ (by rw [hsz]; omega)), by rw [e2, hsz]; omega, ?_, ?_, ?_, hlo⟩
  · intro j hj hjo
    by_cases hjk : j = k
    · rw [hjk, hN]; exact e1
    · have h1 : rc_ord j ≠ rc_ord k := fun q => hjk (rc_ord_inj (rf_len83 hj) (rf_len83 hkl) hj hkl q)
      have h2 : rc_ord j < na := by omega
      have h3 : rf_ad v j < H.size := by rw [hAd j (Or.inr hj), hsz]; omega
      rw [e3 _ h3]
      exact hAr j hj h2
  · intro _
    have h3 : rf_ad v 0 < H.size := by rw [hAd 0 (Or.inl rfl), hsz]; show _ + 0 < _; omega
    rw [e3 _ h3]
    exact hWd h0
  · intro q hq hqh
    rw [e3 q (by omega)]
    exact hfr q hq hqh
/-- putfield of a final field, in the constructor -/
theorem rc_put (B : rc_B v p s m args meth c) (hw : rc_W v s na wn cS V H locs) (k : Nat) (hk : k < 83) (hT1 : (TX12 k).1 = RX12) (hfin : (TX12 k).2.2.2 = true) {index : Nat} (hlink : Cond.fieldLink RX12 index (TX12 k).1 (TX12 k).2.1 (TX12 k).2.2.1 ∈ rf_bw) {x : Value} (hn : narrow (tyX12 k) x = x) (hfit : fits (tyX12 k) x = true) (hdg : decode cX12_init pc = .ok (.putfield index, 3))
    (kk : ∀ (H : Heap) (locs : List Loc), rc_W v s na wn cS (updV V k x) H locs → W p l e R s m args below meth c H locs cells slots Q (F0 m (pc + 3) ls rest)) : W p l e R s m args below meth c H locs cells slots Q (F0 m pc ls (x :: .ref (rf_h v) :: rest)) := by
  obtain ⟨hx, hb, hr, hml, hown, hts, hlk, hin, ⟨hS, hfc, kC, hkC, hkind⟩, hA, hfA, hac, hAd, hh⟩ := B
  obtain ⟨⟨cell, q1, q2, q3, q4⟩, hsz, hAr, hWd, hfr, hlo⟩ := hw
  obtain ⟨cf, kf, fi, f, hi, hsl⟩ := hS k hk
  have hap : ∀ x y, x < 83 → y < 83 → x ≠ y → v.2.1 x ≠ v.2.1 y := by
    intro x y hx hy hne
    obtain ⟨_, _, _, fa, hia, ea⟩ := hS x hx
    obtain ⟨_, _, _, fb, hib, eb⟩ := hS y hy
    rw [← ea, ← eb]
    refine u_apart (u_lays hts rf_bw_in hx) (u_lays hts rf_bw_in hy) hia hib ?_
    rw [(State.fieldFound?_type hia (tyX12_ok x hx)).1, (State.fieldFound?_type hib (tyX12_ok y hy)).1]
    exact nmX12 x hx y hy hne
  have hst := (u_facts hfc hkC (u_lays hts rf_bw_in hk) hi).1
  have hcf : m.cls = cf := by
    have hlay := hts _ (rf_bw_in _ (u_in_lay hk))
    unfold u_lay at hlay
    rw [if_pos hfin, hT1] at hlay
    rw [hT1] at hi
    exact laid_decl hown hlay hi
  have h6 := u_fits hfc hkC hkind (u_lays hts rf_bw_in hk) hi (tyX12_ok k hk) hn hfit
  refine W.putFinK hx hb hown (hts _ hlink) hi hst hcf hin (by rw [q2]; exact h6) q1 q3 (by rw [hsl]; exact k2_hasslot (q4 k hk)) rfl rfl hdg fun H' e1 e2 e3 => ?_
  rw [hsl] at e1 ⊢
  refine kk H' _ ⟨⟨_, e1, q2, q3, t_set q4 hap hk _⟩, e2.trans hsz, ?_, ?_, ?_, ?_⟩
  · intro j hj hjo
    rw [e3 _ (fun h2 => by have h3 : s.heap.size + rc_ord j = rf_h v := (hAd j (Or.inr hj)).symm.trans h2; omega)]
    exact hAr j hj hjo
  · intro h
    rw [e3 _ (fun h2 => by have h3 : s.heap.size + rc_ord 0 = rf_h v := (hAd 0 (Or.inl rfl)).symm.trans h2; omega)]
    exact hWd h
  · intro q hq hqh
    rw [e3 q hqh]
    exact hfr q hq hqh
  · intro z hz
    rcases List.mem_append.mp hz with h | h
    · exact hlo z h
    · rw [List.mem_singleton.mp h]; exact Or.inl rfl
/-- putfield of a field that isn't final -/
theorem rc_puti (B : rc_B v p s m args meth c) (hw : rc_W v s na wn cS V H locs) (k : Nat) (hk : k < 83) (hfin : (TX12 k).2.2.2 = false) {index : Nat} (hlink : Cond.fieldLink RX12 index (TX12 k).1 (TX12 k).2.1 (TX12 k).2.2.1 ∈ rf_bw) {x : Value} (hn : narrow (tyX12 k) x = x) (hfit : fits (tyX12 k) x = true) (hdg : decode cX12_init pc = .ok (.putfield index, 3))
    (kk : ∀ (H : Heap) (locs : List Loc), rc_W v s na wn cS (updV V k x) H locs → W p l e R s m args below meth c H locs cells slots Q (F0 m (pc + 3) ls rest)) : W p l e R s m args below meth c H locs cells slots Q (F0 m pc ls (x :: .ref (rf_h v) :: rest)) := by
  obtain ⟨hx, hb, hr, hml, hown, hts, hlk, hin, ⟨hS, hfc, kC, hkC, hkind⟩, hA, hfA, hac, hAd, hh⟩ := B
  obtain ⟨⟨cell, q1, q2, q3, q4⟩, hsz, hAr, hWd, hfr, hlo⟩ := hw
  obtain ⟨cf, kf, fi, f, hi, hsl⟩ := hS k hk
  have hap : ∀ x y, x < 83 → y < 83 → x ≠ y → v.2.1 x ≠ v.2.1 y := by
    intro x y hx hy hne
    obtain ⟨_, _, _, fa, hia, ea⟩ := hS x hx
    obtain ⟨_, _, _, fb, hib, eb⟩ := hS y hy
    rw [← ea, ← eb]
    refine u_apart (u_lays hts rf_bw_in hx) (u_lays hts rf_bw_in hy) hia hib ?_
    rw [(State.fieldFound?_type hia (tyX12_ok x hx)).1, (State.fieldFound?_type hib (tyX12_ok y hy)).1]
    exact nmX12 x hx y hy hne
  have hst := (u_facts hfc hkC (u_lays hts rf_bw_in hk) hi).1
  have hlay := hts _ (rf_bw_in _ (u_in_lay hk))
  unfold u_lay at hlay
  rw [if_neg (by rw [hfin]; decide)] at hlay
  have h6 := u_store hfc hkC hkind hlay hi (tyX12_ok k hk) hn hfit
  refine W.putK hx hb (f := f) ⟨hown, hts _ hlink, ⟨_, _, _, hi⟩, hst⟩ (by rw [q2]; exact h6) q1 q3 (by rw [hsl]; exact k2_hasslot (q4 k hk)) rfl rfl hdg fun H' e1 e2 e3 => ?_
  rw [hsl] at e1 ⊢
  refine kk H' _ ⟨⟨_, e1, q2, q3, t_set q4 hap hk _⟩, e2.trans hsz, ?_, ?_, ?_, ?_⟩
  · intro j hj hjo
    rw [e3 _ (fun h2 => by have h3 : s.heap.size + rc_ord j = rf_h v := (hAd j (Or.inr hj)).symm.trans h2; omega)]
    exact hAr j hj hjo
  · intro h
    rw [e3 _ (fun h2 => by have h3 : s.heap.size + rc_ord 0 = rf_h v := (hAd 0 (Or.inl rfl)).symm.trans h2; omega)]
    exact hWd h
  · intro q hq hqh
    rw [e3 q hqh]
    exact hfr q hq hqh
  · intro z hz
    rcases List.mem_append.mp hz with h | h
    · exact hlo z h
    · rw [List.mem_singleton.mp h]; exact Or.inl rfl
/-- anewarray of the nine words -/
theorem rc_anew (B : rc_B v p s m args meth c) (hw : rc_W v s 0 0 cS V H locs) {index : Nat} (hcl : (Cond.classLink RX12 index RJ0).before args s = true) (hov : (Cond.arrayOver (.object RJ0)).before args s = true) (hc : cells + 1 ≤ R.cells) (hs : slots + 9 ≤ R.slots) (hdg : decode cX12_init pc = .ok (.anewarray index, 3))
    (kk : ∀ (H : Heap) (cS : ClassId) (kA : Class) (comp : ClassId), s.vm.findClass ("[" ++ (FieldType.object RJ0).toString) = some cS → s.vm.classes[cS]? = some kA → kA.kind = .array comp (.object RJ0) → s.vm.findClass RJ0 = some comp → rc_W v s 1 0 cS V H locs → W p l e R s m args below meth c H locs (cells + 1) (slots + 9) Q (F0 m (pc + 3) ls (.ref (rf_ad v 0) :: rest))) : W p l e R s m args below meth c H locs cells slots Q (F0 m pc ls (.int (rI 9) :: rest)) := by
  obtain ⟨hx, hb, hr, hml, hown, hts, hlk, hin, hK, hA, hfA, hac, hAd, hh⟩ := B
  obtain ⟨hO, hsz, hAr, hWd, hfr, hlo⟩ := hw
  have hcn : (rI 9).toNatClampNeg = 9 := by decide +kernel
  have had : rf_ad v 0 = H.size := (hAd 0 (Or.inl rfl)).trans hsz.symm
  refine W.anew hx hb hown hcl hov (g := F0 m pc ls (.int (rI 9) :: rest)) rfl hdg rfl (by decide +kernel) (by decide +kernel) hc (by rw [hcn]; exact hs) ?_
  intro cA kA comp e1 e2 e3 e4
  rw [hcn, ← had]
  have hlt : ∀ q : Nat, q < H.size → ∀ x : Cell, (H.push x)[q]? = H[q]? := fun q hq x => by rw [Array.getElem?_push_lt hq]; exact (Array.getElem?_eq_getElem hq).symm
  refine kk _ cA kA comp e1 e2 e3 e4 ⟨hO.kept (hlt _ (by rw [hsz]; omega) _), by rw [Array.size_push, hsz], fun j hj hjo => ?_, fun _ => ?_, fun q hq hqh => ?_, hlo⟩
  · exfalso
    have hj0 : rc_ord j = rc_ord 0 := by show rc_ord j = 0; omega
    have := rc_ord_b j (rf_len83 hj) 0 (by decide)
    have h0 : rf_isA 0 = true := rfl
    have h1 : rf_isA j = true := by simp [rf_isA, hj]
    simp [h0, h1, hj0] at this
    rw [this] at hj
    exact hj rfl
  · rw [had, Array.getElem?_push_size]
    unfold arrV
    refine congrArg some ?_
    refine congrArg (fun z : Array Value => ({ cls := cA, slots := z, vm := .none } : Cell)) ?_
    apply Array.ext
    · simp
    · intro i h1 h2
      simp [rc_wv]
  · rw [hlt q (by omega)]
    exact hfr q hq hqh
/-- aastore of the next word -/
theorem rc_aast (B : rc_B v p s m args meth c) (hJ : js_K (rf_F v) 11 rf_sl rf_sb (rf_aK v) (rf_aV v) s s.heap) (hlow : ∀ i, i < 11 → rf_aK v i < s.heap.size ∧ rf_aK v i ≠ rf_h v) {kA : Class} {comp : ClassId} (e2 : s.vm.classes[cS]? = some kA) (e3 : kA.kind = .array comp (.object RJ0)) (e4 : s.vm.findClass RJ0 = some comp) (hw : rc_W v s 1 wn cS V H locs) (hwn : wn < 9) (hdg : decode cX12_init pc = .ok (.aastore, 1))
    (kk : ∀ (H : Heap) (locs : List Loc), rc_W v s 1 (wn + 1) cS V H locs → W p l e R s m args below meth c H locs cells slots Q (F0 m (pc + 1) ls rest)) : W p l e R s m args below meth c H locs cells slots Q (F0 m pc ls (.ref (rf_aK v wn) :: .int (rI wn) :: .ref (rf_ad v 0) :: rest)) := by
  obtain ⟨hx, hb, hr, hml, hown, hts, hlk, hin, hK, hA, hfA, hac, hAd, hh⟩ := B
  obtain ⟨hO, hsz, hAr, hWd, hfr, hlo⟩ := hw
  obtain ⟨cv, g1, g2, g3, -⟩ := (hJ.2.2.1 wn (by omega)).1
  obtain ⟨kcomp, hkcomp⟩ := Vm.classAt_of_findClass e4
  have hcv : cv.cls = comp := Option.some.inj (g3.symm.trans e4)
  have hR : inR (wn : Int) := ⟨by omega, by omega⟩
  have hcl : (rI wn).toNatClampNeg = wn := by rw [rI_cl hR]; omega
  have hne : rf_aK v wn ≠ rf_ad v 0 := fun q => by have h1 := (hlow wn (by omega)).1; rw [q, hAd 0 (Or.inl rfl)] at h1; omega
  refine W.aast hx hb (hWd (by omega)) (fun q h => by cases h) (fun h => by cases h) e2 e3 rfl hkcomp ⟨fun q => by have := (rI_lt hR inR_0).mp q; omega, by rw [arrV_size, hcl]; exact hwn⟩ (by rw [hfr _ (hlow wn (by omega)).1 (hlow wn (by omega)).2]; exact g1) (fun q h => by rw [h] at g2; cases g2) (by rw [hcv]; exact hkcomp) (by rw [hcv]; exact va_asg _ _) rfl rfl hdg fun H' f1 f2 f3 => ?_
  refine kk H' _ ⟨hO.kept (f3 _ (fun q => by have h3 : rf_h v = s.heap.size + rc_ord 0 := q.trans (hAd 0 (Or.inl rfl)); omega)), f2.trans hsz, fun j hj hjo => ?_, fun _ => ?_, fun q hq hqh => ?_, ?_⟩
  · exfalso
    have hj0 : rc_ord j = rc_ord 0 := by show rc_ord j = 0; omega
    have := rc_ord_b j (rf_len83 hj) 0 (by decide)
    have h0 : rf_isA 0 = true := rfl
    have h1 : rf_isA j = true := by simp [rf_isA, hj]
    simp [h0, h1, hj0] at this
    rw [this] at hj
    exact hj rfl
  · rw [f1, hcl, arrV_store]
    refine congrArg some ?_
    refine congrArg (arrV cS 9) ?_
    funext i
    by_cases hi : i = wn
    · subst hi
      simp [updV, rc_wv]
    · simp only [updV, rc_wv, if_neg hi]
      by_cases h2 : i < wn
      · rw [if_pos h2, if_pos (by omega)]
      · rw [if_neg h2, if_neg (by omega)]
  · rw [f3 q (fun z => by have h3 : q = s.heap.size + rc_ord 0 := z.trans (hAd 0 (Or.inl rfl)); omega)]
    exact hfr q hq hqh
  · intro z hz
    rcases List.mem_append.mp hz with h | h
    · exact hlo z h
    · rw [List.mem_singleton.mp h]
      refine Or.inr ?_
      show s.heap.size ≤ rf_ad v 0
      rw [hAd 0 (Or.inl rfl)]; omega
end RCB
