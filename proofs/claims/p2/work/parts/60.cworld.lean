/-! THE CLASS'S WORLD: all its objects and arrays by their addresses: a tag, fields, a length each; the heap's size, the slots used -/
section CWA
abbrev CS : Type := (Nat → Nat) × (Nat → Nat → Int) × (Nat → Nat) × Nat × Nat
abbrev c_tg (σ : CS) : Nat → Nat := σ.1
abbrev c_pv (σ : CS) : Nat → Nat → Int := σ.2.1
abbrev c_ln (σ : CS) : Nat → Nat := σ.2.2.1
abbrev c_hp (σ : CS) : Nat := σ.2.2.2.1
abbrev c_sl (σ : CS) : Nat := σ.2.2.2.2
/-- class numbers and slots by the tag; the bounds of the heap and of the slots; where the law began -/
abbrev cwE : Type := (Nat → ClassId) × (Nat → Nat → Nat) × Nat × Nat × (Nat → Prop) × (Nat → Nat)
/-- where the class may write: what is made since the law began, and two rows of statics that it reads -/
abbrev cw_A (v : cwE) : Nat → Prop := v.2.2.2.2.1
/-- the places of what was there: strings, statics; 99: where the law's own cells begin -/
abbrev cw_ad (v : cwE) : Nat → Nat := v.2.2.2.2.2
/-- the pure words' numbers of what was there -/
def cw_pa (i : Nat) : Nat := i % 100
/-- the machine's address of a pure word's -/
def cw_mp (v : cwE) (a : Nat) : Nat := if a < 100 then cw_ad v a else a - 100 + cw_ad v 99
theorem cw_mp_o {v : cwE} {a : Nat} (h : a < 100) : cw_mp v a = cw_ad v a := if_pos h
theorem cw_mp_n {v : cwE} {a : Nat} (h : 100 ≤ a) : cw_mp v a = a - 100 + cw_ad v 99 := if_neg (by omega)
/-- a place that may bear a tag -/
def cw_pl (v : cwE) (a : Nat) : Prop := 100 ≤ a ∨ ((a = 20 ∨ a = 21) ∧ cw_ad v a < cw_ad v 99 ∧ cw_ad v 20 ≠ cw_ad v 21)
theorem cw_inj {v : cwE} {a b : Nat} (ha : cw_pl v a) (hb : cw_pl v b) (h : cw_mp v a = cw_mp v b) : a = b := by
  rcases ha with ha | ⟨ha, h1, h2⟩
  · rw [cw_mp_n ha] at h
    rcases hb with hb | ⟨hb, g1, g2⟩
    · rw [cw_mp_n hb] at h; omega
    · rw [cw_mp_o (by omega)] at h; omega
  · rw [cw_mp_o (by omega)] at h
    rcases hb with hb | ⟨hb, g1, g2⟩
    · rw [cw_mp_n hb] at h; omega
    · rw [cw_mp_o (by omega)] at h
      rcases ha with rfl | rfl <;> rcases hb with rfl | rfl <;> first | rfl | (exact absurd h h2) | (exact absurd h.symm h2)
/-- a reference as a number: below 0 there is none -/
def cR (v : cwE) (x : Int) : Value := if x < 0 then .null else .ref (cw_mp v x.toNat)
theorem cR_n {v : cwE} {x : Int} (h : x < 0) : cR v x = .null := if_pos h
theorem cR_r {v : cwE} {x : Int} (h : 0 ≤ x) : cR v x = .ref (cw_mp v x.toNat) := if_neg (by omega)
theorem cR_cat {v : cwE} (x : Int) : (cR v x).category = 1 := by unfold cR; split <;> rfl
/-- .. of what was there -/
theorem cR_o {v : cwE} {x : Int} {i : Nat} (h : x = (cw_pa i : Int)) (hi : cw_pa i = i := by rfl) : cR v x = .ref (cw_ad v i) := by
  have h9 : i < 100 := by rw [← hi]; exact Nat.mod_lt _ (by decide)
  rw [h, cR_r (by omega), Int.toNat_natCast, hi, cw_mp_o h9]
def cw_isR (t f : Nat) : Bool := match t with
  | 20 => false
  | 21 => false
  | 22 => true
  | 23 => true
  | t => match cw_ty t f with
    | .int => false
    | .boolean => false
    | _ => true
def cw_fv (v : cwE) (t f : Nat) (x : Int) : Value := if cw_isR t f = true then cR v x else .int (rI x)
theorem cw_fv_cat (v : cwE) (t f : Nat) (x : Int) : (cw_fv v t f x).category = 1 := by
  unfold cw_fv
  split
  · exact cR_cat x
  · rfl
/-- a row's cell, by what it holds: its monitor and its hash are its own -/
def cw_ar (cell : Cell) (cA : ClassId) (n : Nat) (f : Nat → Value) : Prop := cell.cls = cA ∧ cell.slots = (arrV cA n f).slots ∧ cell.vm ≠ .unknown ∧ ∀ k, cell.vm ≠ .statics k
theorem cw_ar_0 (cA : ClassId) (n : Nat) (f : Nat → Value) : cw_ar (arrV cA n f) cA n f := ⟨rfl, rfl, (fun q => by cases q), fun k q => by cases q⟩
theorem cw_ar.isA {cell : Cell} {cA : ClassId} {n : Nat} {f : Nat → Value} {s : State} {ty : FieldType} (h : cw_ar cell cA n f) (hA : ArrOfT s cA ty) : s.isArrayOf cell ty := ⟨h.2.2.2, by rw [h.1]; exact (hA n f).2⟩
theorem cw_ar.size {cell : Cell} {cA : ClassId} {n : Nat} {f : Nat → Value} (h : cw_ar cell cA n f) : cell.slots.size = n := by rw [h.2.1, arrV_size]
theorem cw_ar.read {cell : Cell} {cA : ClassId} {n j : Nat} {f : Nat → Value} (h : cw_ar cell cA n f) (hj : j < n) : cell.slots[j]? = some (f j) := by rw [h.2.1]; exact arrV_read _ _ hj
theorem cw_ar.set {cell : Cell} {cA : ClassId} {n : Nat} {f : Nat → Value} (h : cw_ar cell cA n f) (j : Nat) (w : Value) : cw_ar (cell.setSlot j w) cA n (updV f j w) := by
  refine ⟨h.1, ?_, h.2.2.1, h.2.2.2⟩
  rw [← arrV_store]
  show cell.slots.setIfInBounds j w = (arrV cA n f).slots.setIfInBounds j w
  rw [h.2.1]
/-- the class numbers of a row with a tag: byte rows may have two -/
def cw_cn (v : cwE) (t : Nat) (cA : ClassId) : Prop := cA = v.1 t ∨ (t = 20 ∧ cA = v.1 40)
def cw_at (v : cwE) (σ : CS) (a : Nat) (H : Heap) : Prop :=
  if c_tg σ a < 20 then t_OB (cw_mp v a) (v.1 (c_tg σ a)) (cw_tab (c_tg σ a)).2.2 (v.2.1 (c_tg σ a)) H (fun f => cw_fv v (c_tg σ a) f (c_pv σ a f))
  else ∃ cell, H[cw_mp v a]? = some cell ∧ ∃ cA, cw_cn v (c_tg σ a) cA ∧ cw_ar cell cA (c_ln σ a) (fun i => cw_fv v (c_tg σ a) i (c_pv σ a i))
theorem cw_at.kept {v : cwE} {σ : CS} {a : Nat} {H H' : Heap} (h : cw_at v σ a H) (hq : H'[cw_mp v a]? = H[cw_mp v a]?) : cw_at v σ a H' := by
  unfold cw_at at h ⊢
  split
  · next c => rw [if_pos c] at h; exact h.kept hq
  · next c => rw [if_neg c] at h; rw [hq]; exact h
theorem cw_at.here {v : cwE} {σ : CS} {a : Nat} {H : Heap} (h : cw_at v σ a H) : cw_mp v a < H.size := by
  unfold cw_at at h
  split at h
  · obtain ⟨cell, g1, -⟩ := h; exact (Array.getElem?_eq_some_iff.mp g1).1
  · obtain ⟨cell, g1, -⟩ := h; exact (Array.getElem?_eq_some_iff.mp g1).1
/-- the machine's places that bear a tag -/
def cw_tm (v : cwE) (σ : CS) (q : Nat) : Prop := ∃ a, c_tg σ a ≠ 0 ∧ cw_mp v a = q
def cw_M (v : cwE) (σ : CS) (H : Heap) : Prop := (H.size + 100 = c_hp σ + cw_ad v 99 ∧ 100 ≤ c_hp σ) ∧ (∀ a, c_tg σ a ≠ 0 → cw_at v σ a H) ∧ (∀ a f, inR (c_pv σ a f)) ∧ c_hp σ ≤ v.2.2.1 ∧ c_sl σ ≤ v.2.2.2.1 ∧ (∀ q, H.size ≤ q → cw_A v q) ∧ ∀ a, c_tg σ a ≠ 0 → cw_A v (cw_mp v a) ∧ cw_pl v a
/-- words on classes that aren't among the good ones, but stay -/
def cw_cd (w : Cond) : Bool := match w with
  | .castable .. => true
  | .declares _ => true
  | _ => false
theorem cw_Nw {w : Cond} (hc : cw_cd w = true) {u U : State} (hvm : u.vm.Alike U.vm) (h : va_Nw w u) : va_Nw w U := by
  cases w <;> first | (exact va_tabs rfl (rfl : (u.setVm U.vm).vm = U.vm) (by rw [Cond.castable_setVm hvm]; exact h)) | (exact va_tabs rfl (rfl : (u.setVm U.vm).vm = U.vm) (by rw [Cond.declares_setVm hvm]; exact h)) | (cases hc)
abbrev cRO : String := "java/lang/Object"
def cx_add : MethodName := ⟨"java/util/List", "add", "(Ljava/lang/Object;)Z"⟩
def cx_get : MethodName := ⟨"java/util/List", "get", "(I)Ljava/lang/Object;"⟩
def cx_size : MethodName := ⟨"java/util/List", "size", "()I"⟩
/-- rows of Objects, and what a list of the JDK needs -/
def cw_K1 (v : cwE) (U : State) : Prop := va_RA U (v.1 23) (.object cRO) ∧ ArrOfT U (v.1 23) (.object cRO) ∧ va_AO RX6 U ∧ va_AO cRO U ∧ va_Mi "[Ljava/lang/Object;" (cw_ad v 22) U ∧ va_Dc U ∧ va_Nw (.castable RX6 cRO) U ∧ va_Nw (.castable RX9 cRO) U ∧
  va_Fw RJx4a65c cx_add yJx4a65c_add_9ea2d U ∧ va_Fw RJx4a65c cx_get yJx4a65c_get_915e3 U ∧ va_Fw RJx4a65c cx_size yJx4a65c_size_8abf5 U
theorem cw_K1.moved {v : cwE} {u U : State} (hvm : u.vm.Alike U.vm) (h : cw_K1 v u) : cw_K1 v U :=
  ⟨h.1.moved hvm, arrOfT_moved hvm h.2.1, h.2.2.1.moved hvm, h.2.2.2.1.moved hvm, h.2.2.2.2.1.moved hvm, h.2.2.2.2.2.1.moved hvm, cw_Nw rfl hvm h.2.2.2.2.2.2.1, cw_Nw rfl hvm h.2.2.2.2.2.2.2.1, va_Fw.moved (by decide) hvm h.2.2.2.2.2.2.2.2.1, va_Fw.moved (by decide) hvm h.2.2.2.2.2.2.2.2.2.1, va_Fw.moved (by decide) hvm h.2.2.2.2.2.2.2.2.2.2⟩
def cw_K0 (v : cwE) (U : State) : Prop := (∀ t, 1 ≤ t → t ≤ 13 → u_Kn U (cw_tab t).1 (cw_tab t).2.1 (cw_tab t).2.2 (v.1 t) (v.2.1 t)) ∧ (ArrOfT U (v.1 20) .byte ∧ ArrOfT U (v.1 40) .byte) ∧ ArrOfT U (v.1 21) .int ∧ ArrOfT U (v.1 22) (.object RX6) ∧
  U.vm.findClass ("[" ++ FieldType.byte.toString) = some (v.1 20) ∧ U.vm.findClass ("[" ++ FieldType.int.toString) = some (v.1 21) ∧ va_RA U (v.1 22) (.object RX6) ∧ (∀ w ∈ cw_xw, va_Nw w U) ∧ cw_K1 v U
theorem cw_K0.moved {v : cwE} {u U : State} (hvm : u.vm.Alike U.vm) (h : cw_K0 v u) : cw_K0 v U :=
  ⟨fun t h1 h2 => u_Kn_moved hvm (h.1 t h1 h2), ⟨arrOfT_moved hvm h.2.1.1, arrOfT_moved hvm h.2.1.2⟩, arrOfT_moved hvm h.2.2.1, arrOfT_moved hvm h.2.2.2.1, by rw [hvm.findClass]; exact h.2.2.2.2.1, by rw [hvm.findClass]; exact h.2.2.2.2.2.1, h.2.2.2.2.2.2.1.moved hvm, fun w hw => cw_Nw (List.all_eq_true.mp cw_xw_cd w hw) hvm (h.2.2.2.2.2.2.2.1 w hw), h.2.2.2.2.2.2.2.2.moved hvm⟩
theorem cw_hat {v : cwE} {s : State} {args : Array Value} {L : List Cond} (h1 : ∀ w ∈ L.filter goodWord, w ∈ cw_bw) (h2 : L.all (fun w => goodWord w || decide (w ∈ cw_xw)) = true) (hts : ∀ w ∈ cw_bw, w.before args s = true) (hK : cw_K0 v s) : ∀ w ∈ L, w.before args s = true := by
  intro w hw
  have h3 := List.all_eq_true.mp h2 w hw
  by_cases hg : goodWord w = true
  · exact hts w (h1 w (List.mem_filter.mpr ⟨hw, hg⟩))
  · have h4 : w ∈ cw_xw := by
      simp [hg] at h3
      exact h3
    have hc := List.all_eq_true.mp cw_xw_cd w h4
    have h5 := hK.2.2.2.2.2.2.2.1 w h4
    cases w <;> first | exact va_any rfl h5 | (cases hc)
/-- what the old heap holds: statics that nobody writes -/
def cw_sl : List Nat := [54, 3, 2]
def cw_sb : List (List Int32) := [[115, 111, 114, 116, 32, 32, 97, 120, 105, 111, 109, 32, 114, 117, 108, 101, 32, 32, 99, 104, 101, 99, 107, 32, 110, 111, 114, 109, 32, 32, 115, 97, 109, 101, 32, 32, 104, 101, 97, 100, 32, 32, 108, 101, 116, 32, 32, 32, 105, 110, 32, 32, 32, 32], [121, 101, 115], [110, 111]]
def cw_KH (v : cwE) (U : State) (H : Heap) : Prop := vx_Zq Bundle.tN "UNASSIGNED_STACK" Bundle.steD (cw_A v) U H ∧ vx_Zq Bundle.tN "SUPPRESSED_SENTINEL" Bundle.listD (cw_A v) U H ∧
  js_K (cw_A v) 3 cw_sl cw_sb (cw_ad v) (fun i => cw_ad v (10 + i)) U H ∧ va_Z RX0 "CORNER_SIGNS" "[B" (.ref (cw_ad v 20)) (cw_A v) U H ∧ va_Z RJx4a65c "DEFAULTCAPACITY_EMPTY_ELEMENTDATA" "[Ljava/lang/Object;" (.ref (cw_ad v 21)) (cw_A v) U H
theorem cw_KH.moved {v : cwE} {u U : State} {H : Heap} (hvm : u.vm.Alike U.vm) (h : cw_KH v u H) : cw_KH v U H := ⟨vx_Zq.moved hvm h.1, vx_Zq.moved hvm h.2.1, h.2.2.1.moved hvm, va_Z.moved hvm h.2.2.2.1, va_Z.moved hvm h.2.2.2.2⟩
theorem cw_KH.kept {v : cwE} {U : State} {H H1 : Heap} (h : cw_KH v U H) (hq : ∀ a : Nat, a < H.size → ¬ cw_A v a → H1[a]? = H[a]?) : cw_KH v U H1 := ⟨h.1.kept hq, h.2.1.kept hq, h.2.2.1.kept hq, h.2.2.2.1.kept hq, h.2.2.2.2.kept hq⟩
def cw_K (v : cwE) (U : State) : Prop := cw_K0 v U ∧ cw_KH v U U.heap ∧ cw_KS (cw_ad v) U
theorem cw_K.at {v : cwE} {s U : State} {H : Heap} (h : cw_K v s) (hq : ∀ a : Nat, a < s.heap.size → ¬ cw_A v a → H[a]? = s.heap[a]?) (hU : U.heap = H) (hW : s.WarmedH U.vm) : cw_K v U := ⟨h.1.moved hW.alike, by rw [hU]; exact (h.2.1.kept hq).moved hW.alike, h.2.2.warm hW⟩
def cw_W (v : cwE) (s : State) (σ0 σ : CS) (H : Heap) (locs : List Loc) (cells slots : Nat) : Prop :=
  cw_M v σ H ∧ s.heap.size + 100 = c_hp σ0 + cw_ad v 99 ∧ c_hp σ = c_hp σ0 + cells ∧ c_sl σ = c_sl σ0 + slots ∧ (∀ q : Nat, q < s.heap.size → ¬ cw_tm v σ0 q → H[q]? = s.heap[q]?) ∧
  (∀ z ∈ locs, cw_tm v σ0 z.base ∨ s.heap.size ≤ z.base) ∧ (∀ q : Nat, c_tg σ q ≠ 0 → c_tg σ0 q ≠ 0 ∨ c_hp σ0 ≤ q) ∧ (∀ q : Nat, c_tg σ0 q ≠ 0 → cw_A v (cw_mp v q)) ∧ (∀ q : Nat, s.heap.size ≤ q → cw_A v q) ∧ 100 ≤ c_hp σ0
def cw_P (v : cwE) (σ : CS) (as : List Value) : Array Value → State → Prop := va_Pc as (fun U => cw_M v σ U.heap ∧ cw_K v U)
def cw_ex (kd : Nat) : String := match kd with
  | 1 => "java/lang/IllegalStateException"
  | 2 => "java/lang/IllegalArgumentException"
  | _ => "java/util/NoSuchElementException"
def cw_out (kd : Nat) (rv : Option Value) (st : State) (o : Outcome) (t : State) : Prop :=
  (kd = 0 ∧ o = .returned rv) ∨ (kd ≠ 0 ∧ ∃ (q : Addr) (ce : Cell), o = .threw q ∧ t.heap[q]? = some ce ∧ ce.vm = .none ∧ st.vm.findClass (cw_ex kd) = some ce.cls)
def cw_Qc (v : cwE) (σ σ' : CS) (kd : Nat) (rv : Option Value) : Array Value → State → Outcome → State → Prop := fun _ st o t =>
  ∃ (k n : Nat) (L : List Loc), cw_out kd rv st o t ∧ st.WarmedH t.vm ∧ st.sameButNew ({ t with vm := st.vm } : State) L k n ∧ c_hp σ' = c_hp σ + k ∧ c_sl σ' = c_sl σ + n ∧ cw_M v σ' t.heap ∧
    (∀ q : Nat, q < st.heap.size → ¬ cw_tm v σ q → t.heap[q]? = st.heap[q]?) ∧ (∀ z ∈ L, cw_tm v σ z.base ∨ st.heap.size ≤ z.base) ∧ ∀ q : Nat, c_tg σ' q ≠ 0 → c_tg σ q ≠ 0 ∨ c_hp σ ≤ q
def cw_rm (v : cwE) (d : Nat) (σ : CS) : Room := { frames := d, cells := v.2.2.1 - c_hp σ, slots := v.2.2.2.1 - c_sl σ, locals := 100 * d }
abbrev cw_Met (l : Launch) (v : cwE) (y : MethodName) (bytes : ByteArray) (maxL : Nat) (ret : Option FieldType) (d : Nat) (as : List Value) (σ σ' : CS) (kd : Nat) (rv : Option Value) : Prop :=
  MetFree l y (headSpec (Cond.code y bytes maxL ret :: cw_bw) (cw_rm v d σ)) (cw_P v σ as) (fun _ _ _ _ _ => True) (cw_Qc v σ σ' kd rv)
def cw_Z (below : List Frame) (v : cwE) (σ σ' : CS) (kd : Nat) (rv : Option Value) (a : Array Value) (s : State) : State → Prop := fun t => ∃ o, t.status = .running ∧ Ended t below o ∧ cw_Qc v σ σ' kd rv a s o t
theorem cw_blind {v : cwE} {σ : CS} {as : List Value} : FrameBlind (cw_P v σ as) := fun a U g mk q => ⟨q.1, q.2.1, cw_K0.moved (u := U) (U := U.calling g mk a) (Vm.Alike.refl U.vm) q.2.2.1, cw_KH.moved (u := U) (U := U.calling g mk a) (Vm.Alike.refl U.vm) q.2.2.2.1, q.2.2.2.2.same rfl⟩
/-- from a walk of the body -/
theorem cw_ofW {l : Launch} {v : cwE} {y : MethodName} {bytes : ByteArray} {maxL : Nat} {ret : Option FieldType} {d : Nat} {as : List Value} {σ σ' : CS} {kd : Nat} {rv : Option Value} (hy : plainName y.cls = true)
    (body : ∀ p e s m args below meth c s₁, BodyLoose p l y (headSpec (Cond.code y bytes maxL ret :: cw_bw) (cw_rm v d σ)) bytes maxL ret e s m args below meth c s₁ → c.maxLocals = maxL → cw_P v σ as args s →
      W p l e (cw_rm v d σ) s m args below meth c s.heap [] 0 0 (cw_Z below v σ σ' kd rv args s) (entryFrame m args maxL)) : cw_Met l v y bytes maxL ret d as σ σ' kd rv := by
  refine MetFree.of_bodyS (code := bytes) (maxLocals := maxL) (ret := ret) hy ?_ ?_
  · intro args s m h hn
    obtain ⟨meth, c, h1, h2, h3, h4, h5, h6, -, -⟩ := Cond.code_spec hn (atoms_spec (ws := Cond.code y bytes maxL ret :: cw_bw) h _ List.mem_cons_self)
    exact ⟨meth, c, h1, h2, h3, h4, h5, h6⟩
  · intro p e s m args below meth c s₁ B hml hP _
    have hh0 : s₁.heap = s.heap := by rw [B.state]; rfl
    obtain ⟨t, a1, o, b1, b2, b3⟩ := body p e s m args below meth c s₁ B hml hP s₁ hh0 (Stand.of_body B)
    exact ⟨t, o, a1, b1, b2, b3⟩
end CWA
section CWB
variable {l : Launch} {R : Room} {p : Program} {e : Env} {below : List Frame} {s : State} {sargs : Array Value} {y : MethodName} {len W9 : Nat}
/-- what a call leaves, as told at the point B -/
def cw_Po (v : cwE) (σ σ' : CS) (A B : Pt) : Prop := ∃ (k n : Nat) (L : List Loc), c_hp σ' = c_hp σ + k ∧ c_sl σ' = c_sl σ + n ∧ cw_M v σ' B.U.heap ∧
  (∀ q : Nat, q < A.U.heap.size → ¬ cw_tm v σ q → B.U.heap[q]? = A.U.heap[q]?) ∧ (∀ z ∈ L, cw_tm v σ z.base ∨ A.U.heap.size ≤ z.base) ∧ (∀ q : Nat, c_tg σ' q ≠ 0 → c_tg σ q ≠ 0 ∨ c_hp σ ≤ q) ∧ B.locs = A.locs ++ L ∧ B.cells = A.cells + k ∧ B.slots = A.slots + n
/-- the payer: a callee's contract for any walk -/
theorem cw_backG {hd9 : Cond} {v : cwE} {σ σ' : CS} {kd : Nat} {rv : Option Value} {maxL : Nat} {d : Nat} {as : List Value}
    (hM : MetFree l y (headSpec (hd9 :: cw_bw) (cw_rm v d σ)) (cw_P v σ as) (fun _ _ _ _ _ => True) (cw_Qc v σ σ' kd rv)) (hdx : ∀ (a' : Array Value) (U : State) (mk : MethodId), U.methodNamed? y = some mk → hd9.before a' U = true → ∃ (methY : Method) (cY : Code), U.vm.method? mk = some methY ∧ methY.code = some cY ∧ cY.maxLocals = maxL) (hframes : d + 1 ≤ R.frames) (hlocals : W9 + (maxL + 11) + 100 * d ≤ R.locals)
    (hws : ∀ w ∈ (hd9 :: cw_bw), ∀ a' U, s.WarmedH U.vm → w.before a' U = true) (hinit : ∀ a' U, s.WarmedH U.vm → (Cond.initialized y.cls).before a' U = true) :
    vx_Back l R p e below s sargs y len W9 (fun A a => A.cells + (v.2.2.1 - c_hp σ) ≤ R.cells ∧ A.slots + (v.2.2.2.1 - c_sl σ) ≤ R.slots ∧ cw_P v σ as a A.U)
      (fun A _ w B => kd = 0 ∧ w = rv ∧ cw_Po v σ σ' A B) (fun A _ q B => kd ≠ 0 ∧ (∃ ce : Cell, B.U.heap[q]? = some ce ∧ ce.vm = .none ∧ A.U.vm.findClass (cw_ex kd) = some ce.cls) ∧ cw_Po v σ σ' A B) := by
  intro m meth c A g ig mk a X hg hsize hdg hW hn hp
  have h1 : (headSpec (hd9 :: cw_bw) (cw_rm v d σ)).pre.before a A.U = true := atoms_intro fun w hw => hws w hw _ _ X.warmed
  have h2 : hd9.before a A.U = true := hws _ List.mem_cons_self _ _ X.warmed
  have h3 : (Cond.initialized y.cls).before a A.U = true := hinit _ _ X.warmed
  have hPc : cw_P v σ as a (A.U.calling g mk a) := cw_blind _ _ _ _ hp.2.2
  obtain ⟨U, Ls, c0, s0⟩ := A
  dsimp only [Pt.U, Pt.locs, Pt.cells, Pt.slots] at h1 h2 h3 X hn hPc hp ⊢
  obtain ⟨methY, cY, hmY, hcY, hlY⟩ := hdx _ _ _ hn h2
  obtain ⟨kY, hkY, -⟩ := className_of_methodNamed hn
  have hinitY : kY.init = .initialized := Cond.initialized_spec (findClass_of_methodNamed hn) hkY h3
  have h : At U g.method c below := by rw [hg]; exact X.here
  have happ : (headSpec (hd9 :: cw_bw) (cw_rm v d σ)).appliesLoose y e.platform (U.calling g mk a) = true :=
    Spec.appliesLoose_calling (g := g) h hdg hn hkY hinitY
      (X.room_calling (g := g) (R' := cw_rm v d σ) hsize hmY hcY hframes (by rw [hlY]; show _ + 100 * d ≤ _; omega) hp.1 hp.2.1) h1
  obtain ⟨mid, hmid⟩ := h.above
  have hfr : (U.setTop g).frames = (.java g :: mid) ++ below := by rw [State.frames_setTop' g h.top, hmid]; rfl
  obtain ⟨o, s₂, hsteps, -, hend, hq⟩ := Steps.callFree hM p X.admits X.cas X.clock (acts := []) hfr happ hPc trivial
  have hq' : cw_Qc v σ σ' kd rv a (U.calling g mk a) o s₂ := hq
  rw [State.frames_setTop' g h.top] at hend
  obtain ⟨g₀, hg0⟩ := Option.isSome_iff_exists.mp h.top
  obtain ⟨r, hr⟩ := State.topJava?_eq_some.mp hg0
  have hr' : (({ U with heap := s₂.heap, slotsUsed := s₂.slotsUsed } : State).setVm s₂.vm).frames = .java g₀ :: r := hr
  obtain ⟨k, n, L, hout, hW₂, hsm, hhp, hsl, hM2, hfr2, hL2, htg2⟩ := hq'
  obtain ⟨e2, q2, q3, q4, q5, q6⟩ := id hsm
  have e3 : s₂ = ({ (U.calling g mk a).setFrames s₂.frames with heap := s₂.heap, slotsUsed := s₂.slotsUsed } : State).setVm s₂.vm := by
    have : s₂ = ({ s₂ with vm := (U.calling g mk a).vm } : State).setVm s₂.vm := rfl
    rw [e2] at this
    exact this
  have hW' : U.WarmedH s₂.vm := hW₂
  have hsame : U.sameButNew ({ U with heap := s₂.heap, slotsUsed := s₂.slotsUsed } : State) L k n := by
    refine ⟨?_, q2, q3, q4, q5, q6⟩
    obtain ⟨t, ht, -⟩ := State.frames_cons hr
    show ({ U with heap := s₂.heap, slotsUsed := s₂.slotsUsed } : State) = { U.setFrames U.frames with heap := s₂.heap, slotsUsed := s₂.slotsUsed }
    rw [State.setFrames_self ht]
  have hStand : Stand p l e R s m sargs below meth c (({ U with heap := s₂.heap, slotsUsed := s₂.slotsUsed } : State).setVm s₂.vm) (Ls ++ L) (c0 + k) (s0 + n) :=
    ⟨X.admits, X.cas, X.clock, X.frames, X.room, X.hears, X.method, X.code, (X.here.setHeapUsed s₂.heap s₂.slotsUsed).setVm hW'.alike, X.tail, State.WarmedH.trans X.warmed hW', X.limits, X.bytes, X.same.trans (hsame.setVm s.vm)⟩
  have hPo : cw_Po v σ σ' ⟨U, Ls, c0, s0⟩ ⟨(({ U with heap := s₂.heap, slotsUsed := s₂.slotsUsed } : State).setVm s₂.vm), Ls ++ L, c0 + k, s0 + n⟩ := ⟨k, n, L, hhp, hsl, hM2, hfr2, hL2, htg2, rfl, rfl, rfl⟩
  rcases hout with ⟨hk0, rfl⟩ | ⟨hk0, q, ce, rfl, hce, hcv, hcl⟩
  · obtain ⟨c₂, i₂, len₂, hc₂, hd₂, hf₂⟩ := hend
    have hcc : c₂ = c := by
      have h1 : s₂.code? g.method = U.code? g.method := by
        rw [State.code?_eq, State.code?_eq, hW'.alike.method?]
      exact Option.some.inj (hc₂.symm.trans (h1.trans h.code))
    subst hcc
    have hlen : len₂ = len := by rw [hdg] at hd₂; cases hd₂; rfl
    subst hlen
    have hs₂ : s₂ = (({ U with heap := s₂.heap, slotsUsed := s₂.slotsUsed } : State).setVm s₂.vm).setTop { g with pc := g.pc + len₂, stack := rv.toList ++ g.stack } := by
      refine e3.trans ?_
      rw [hf₂, State.calling_eq h.top, State.setFrames_setFrames, State.setTop_of_frames _ hr', hr]
      rfl
    refine Or.inl ⟨rv, ⟨(({ U with heap := s₂.heap, slotsUsed := s₂.slotsUsed } : State).setVm s₂.vm), Ls ++ L, c0 + k, s0 + n⟩, hStand, ⟨hk0, rfl, hPo⟩, ?_⟩
    show Steps p.tables e below _ ((({ U with heap := s₂.heap, slotsUsed := s₂.slotsUsed } : State).setVm s₂.vm).setTop { g with pc := g.pc + len₂, stack := rv.toList ++ g.stack })
    rw [← hs₂]
    exact hsteps
  · have hf₂ : s₂.frames = .throwing q :: .java g :: U.frames.tail := hend
    have hs₂ : s₂ = ((({ U with heap := s₂.heap, slotsUsed := s₂.slotsUsed } : State).setVm s₂.vm).setTop g).pushFrame (.throwing q) := by
      refine e3.trans ?_
      rw [hf₂, State.calling_eq h.top, State.setFrames_setFrames, State.pushFrame, State.frames_setTop _ hr', State.setTop_of_frames _ hr', State.setFrames_setFrames, hr]
      rfl
    refine Or.inr ⟨q, ⟨(({ U with heap := s₂.heap, slotsUsed := s₂.slotsUsed } : State).setVm s₂.vm), Ls ++ L, c0 + k, s0 + n⟩, hStand, ⟨hk0, ⟨ce, hce, hcv, hcl⟩, hPo⟩, ?_⟩
    show Steps p.tables e below _ (((({ U with heap := s₂.heap, slotsUsed := s₂.slotsUsed } : State).setVm s₂.vm).setTop g).pushFrame (.throwing q))
    rw [← hs₂]
    exact hsteps
theorem cw_back {v : cwE} {σ σ' : CS} {kd : Nat} {rv : Option Value} {bytes : ByteArray} {maxL : Nat} {ret : Option FieldType} {d : Nat} {as : List Value}
    (hM : cw_Met l v y bytes maxL ret d as σ σ' kd rv) (hframes : d + 1 ≤ R.frames) (hlocals : W9 + (maxL + 11) + 100 * d ≤ R.locals)
    (hws : ∀ w ∈ (Cond.code y bytes maxL ret :: cw_bw), ∀ a' U, s.WarmedH U.vm → w.before a' U = true) (hinit : ∀ a' U, s.WarmedH U.vm → (Cond.initialized y.cls).before a' U = true) :
    vx_Back l R p e below s sargs y len W9 (fun A a => A.cells + (v.2.2.1 - c_hp σ) ≤ R.cells ∧ A.slots + (v.2.2.2.1 - c_sl σ) ≤ R.slots ∧ cw_P v σ as a A.U)
      (fun A _ w B => kd = 0 ∧ w = rv ∧ cw_Po v σ σ' A B) (fun A _ q B => kd ≠ 0 ∧ (∃ ce : Cell, B.U.heap[q]? = some ce ∧ ce.vm = .none ∧ A.U.vm.findClass (cw_ex kd) = some ce.cls) ∧ cw_Po v σ σ' A B) :=
  cw_backG hM (fun _ _ _ hn h2 => by obtain ⟨methY, cY, hmY, hcY, -, hlY, -⟩ := Cond.code_spec hn h2; exact ⟨methY, cY, hmY, hcY, hlY⟩) hframes hlocals hws hinit
end CWB
