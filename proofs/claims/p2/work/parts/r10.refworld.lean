/-! THE REFERENCE'S WORLD: its object and its int arrays as a pair of functions; rows that walk over it -/
section RFA
abbrev RS : Type := (Nat → Int) × (Nat → Nat → Int)
def rs_i (σ : RS) (k : Nat) (x : Int) : RS := (fun j => if j = k then x else σ.1 j, σ.2)
def rs_a (σ : RS) (k : Nat) (i x : Int) : RS := (σ.1, fun j q => if j = k then (if q = i.toNat then x else σ.2 j q) else σ.2 j q)
def rf_len (k : Nat) : Nat := match k with
  | 2 => 4000 | 4 => 4000 | 16 => 96 | 17 => 8 | 18 => 8 | 19 => 64 | 21 => 1200 | 22 => 100 | 23 => 100 | 24 => 100 | 25 => 100 | 26 => 100 | 28 => 20
  | 30 => 140000 | 31 => 140000 | 32 => 140000 | 33 => 140000 | 34 => 140000 | 35 => 140000 | 36 => 140000 | 37 => 140000 | 38 => 140000 | 40 => 140000 | 41 => 140000
  | 42 => 50 | 44 => 80000 | 45 => 80000 | 46 => 80000 | 47 => 80000 | 49 => 21000 | 50 => 21000 | 58 => 4000 | 74 => 3000 | _ => 0
def rf_isA (k : Nat) : Bool := k == 0 || rf_len k != 0
/-- class number, slots, number of int[], the object, the arrays -/
abbrev rfE : Type := ClassId × (Nat → Nat) × ClassId × Nat × (Nat → Nat)
abbrev rf_h (v : rfE) : Nat := v.2.2.2.1
abbrev rf_ad (v : rfE) : Nat → Nat := v.2.2.2.2
def rf_fv (v : rfE) (σ : RS) (k : Nat) : Value := if rf_isA k = true then .ref (rf_ad v k) else .int (rI (σ.1 k))
def rf_M (v : rfE) (σ : RS) (H : Heap) : Prop :=
  t_OB (rf_h v) v.1 83 v.2.1 H (rf_fv v σ) ∧ (∀ k, rf_len k ≠ 0 → H[rf_ad v k]? = some (arrV v.2.2.1 (rf_len k) (fun i => .int (rI (σ.2 k i))))) ∧ (∀ k, inR (σ.1 k)) ∧ ∀ k i, inR (σ.2 k i)
def rf_D (v : rfE) : Prop := (∀ k, rf_len k ≠ 0 → rf_ad v k ≠ rf_h v) ∧ ∀ j k, rf_len j ≠ 0 → rf_len k ≠ 0 → rf_ad v j = rf_ad v k → j = k
def rf_F (v : rfE) (q : Nat) : Prop := q = rf_h v ∨ ∃ k, rf_len k ≠ 0 ∧ q = rf_ad v k
def rf_sl : List Nat := [4, 5, 4, 5, 4, 4, 4, 3, 2, 4, 4]
def rf_sb : List (List Int32) := [[115, 111, 114, 116], [97, 120, 105, 111, 109], [114, 117, 108, 101], [99, 104, 101, 99, 107], [110, 111, 114, 109], [115, 97, 109, 101], [104, 101, 97, 100], [108, 101, 116], [105, 110], [116, 121, 112, 101], [107, 105, 110, 100]]
def rf_sn (i : Nat) : Int := ((rf_sl.getD i 0 : Nat) : Int)
def rf_sc (i k : Nat) : Int := (((rf_sb.getD i []).getD k 0 : Int32)).toInt
abbrev rf_aK (v : rfE) : Nat → Nat := fun i => rf_ad v (100 + i)
abbrev rf_aV (v : rfE) : Nat → Nat := fun i => rf_ad v (200 + i)
/-- the Strings of the reference: nine words in an array, two names of sorts -/
def rf_ST (v : rfE) (U : State) (H : Heap) : Prop :=
  js_K (rf_F v) 11 rf_sl rf_sb (rf_aK v) (rf_aV v) U H ∧ va_T (.object "java/lang/String") (rf_ad v 0) 9 (fun i => .ref (rf_aK v i)) (rf_F v) U H ∧ vk_R RX12 rf_ldT "type" (rf_aK v 9) U ∧ vk_R RX12 rf_ldK "kind" (rf_aK v 10) U
def rf_K (v : rfE) (U : State) : Prop := u_Kn U RX12 TX12 83 v.1 v.2.1 ∧ ArrOfT U v.2.2.1 .int ∧ rf_ST v U U.heap
def rf_W (v : rfE) (s : State) (σ : RS) (H : Heap) (locs : List Loc) : Prop :=
  rf_M v σ H ∧ H.size = s.heap.size ∧ (∀ q : Nat, ¬ rf_F v q → H[q]? = s.heap[q]?) ∧ ∀ q ∈ locs, rf_F v q.base
theorem rf_K.at {v : rfE} {s U : State} {H : Heap} (h : rf_K v s) (hfr : ∀ q : Nat, ¬ rf_F v q → H[q]? = s.heap[q]?) (hU : U.heap = H) (hW : s.WarmedH U.vm) : rf_K v U :=
  ⟨u_Kn_moved hW.alike h.1, arrOfT_moved hW.alike h.2.1, by
    rw [hU]
    exact ⟨(h.2.2.1.kept (fun a _ hA => hfr a hA)).moved hW.alike, va_T.moved hW.alike (h.2.2.2.1.kept (fun a _ hA => hfr a hA)), h.2.2.2.2.1.warm hW, h.2.2.2.2.2.warm hW⟩⟩
theorem rf_K.call {v : rfE} {U : State} {g : JFrame} {mk : MethodId} {a : Array Value} (h : rf_K v U) : rf_K v (U.calling g mk a) :=
  ⟨u_Kn_moved (u := U) (U := U.calling g mk a) (Vm.Alike.refl U.vm) h.1, arrOfT_moved (u := U) (E := U.calling g mk a) (Vm.Alike.refl U.vm) h.2.1,
    js_K.moved (u := U) (U := U.calling g mk a) (Vm.Alike.refl U.vm) h.2.2.1, va_T.moved (u := U) (U := U.calling g mk a) (Vm.Alike.refl U.vm) h.2.2.2.1, h.2.2.2.2.1.same rfl, h.2.2.2.2.2.same rfl⟩
def rf_P (v : rfE) (σ : RS) (as : List Value) : Array Value → State → Prop := va_Pc as (fun U => rf_M v σ U.heap ∧ rf_K v U)
def rf_Q (v : rfE) (σ' : RS) (rv : Option Value) : Array Value → State → Outcome → State → Prop := fun _ st o t =>
  o = .returned rv ∧ rf_M v σ' t.heap ∧ t.heap.size = st.heap.size ∧ ∀ q : Nat, ¬ rf_F v q → t.heap[q]? = st.heap[q]?
def rf_rm (d : Nat) : Room := { frames := d, cells := 0, slots := 0, locals := 60 * d }
abbrev rf_Met (l : Launch) (v : rfE) (y : MethodName) (bytes : ByteArray) (maxL : Nat) (ret : Option FieldType) (d : Nat) (as : List Value) (σ σ' : RS) (rv : Option Value) : Prop :=
  Met l y (Cond.code y bytes maxL ret :: rf_bw) (rf_rm d) (rf_P v σ as) (rf_Q v σ' rv) 0 0 (rf_F v)
def rf_B (v : rfE) (p : Program) (s : State) (m : MethodId) (args : Array Value) (meth : Method) (c : Code) (cc : ByteArray) (nL : Nat) (ret : Option FieldType) : Prop :=
  p.tables.exec = Jvm.exec ∧ c.code = cc ∧ meth.sig.returnType = ret ∧ c.maxLocals = nL ∧ s.vm.findClass RX12 = some m.cls ∧ (∀ w ∈ rf_bw, w.before args s = true) ∧ meth.locks = false ∧ rf_K v s ∧ rf_D v
theorem rf_blind {v : rfE} {σ : RS} {as : List Value} : FrameBlind (rf_P v σ as) := fun a U g mk q => by
  obtain ⟨q0, q1, q2⟩ := q
  exact ⟨q0, q1, q2.call⟩
/-! pure words: what a method does, as a function that may fail -/
def rf_ck (x : Int) (f : Int → Option (RS × Int)) : Option (RS × Int) := if -2147483648 ≤ x ∧ x ≤ 2147483647 then f x else none
def rf_bo (x : Int) (f : Option (RS × Int)) : Option (RS × Int) := if x = 0 ∨ x = 1 then f else none
def rf_nm (x : Int) (f : Int → Option (RS × Int)) : Option (RS × Int) := f x
def rf_gi (σ : RS) (k : Nat) (f : Int → Option (RS × Int)) : Option (RS × Int) := f (σ.1 k)
def rf_pi (σ : RS) (k : Nat) (x : Int) (f : RS → Option (RS × Int)) : Option (RS × Int) := f (rs_i σ k x)
def rf_rd (σ : RS) (k : Nat) (i : Int) (f : Int → Option (RS × Int)) : Option (RS × Int) := if 0 ≤ i ∧ i < (rf_len k : Int) then f (σ.2 k i.toNat) else none
def rf_wr (σ : RS) (k : Nat) (i x : Int) (f : RS → Option (RS × Int)) : Option (RS × Int) := if 0 ≤ i ∧ i < (rf_len k : Int) then f (rs_a σ k i x) else none
def rf_ws (i : Int) (f : Int → Option (RS × Int)) : Option (RS × Int) := if 0 ≤ i ∧ i < 9 then f i else none
def rf_sL (j : Int) (f : Int → Option (RS × Int)) : Option (RS × Int) := if 0 ≤ j ∧ j < 11 then f (rf_sn j.toNat) else none
def rf_sC (j k : Int) (f : Int → Option (RS × Int)) : Option (RS × Int) := if (0 ≤ j ∧ j < 11) ∧ 0 ≤ k ∧ k < rf_sn j.toNat then f (rf_sc j.toNat k.toNat) else none
theorem rf_ws_s {i : Int} {f : Int → Option (RS × Int)} {y : RS × Int} (h : rf_ws i f = some y) : (0 ≤ i ∧ i < 9) ∧ f i = some y := by
  unfold rf_ws at h
  split at h
  · next c => exact ⟨c, h⟩
  · cases h
theorem rf_sn_R : ∀ i, i < 11 → (0 ≤ rf_sn i ∧ rf_sn i ≤ 5) ∧ Int32.ofNat (rf_sl.getD i 0) = rI (rf_sn i) := by decide +kernel
theorem rf_sc_R : ∀ i, i < 11 → ∀ k, k < rf_sl.getD i 0 → (0 ≤ rf_sc i k ∧ rf_sc i k ≤ 255) ∧ ((((rf_sb.getD i []).getD k 0) &&& 255).toUInt32 % 65536).toInt32 = rI (rf_sc i k) ∧ narrow .char (.int (rI (rf_sc i k))) = .int (rI (rf_sc i k)) := by decide +kernel
theorem rf_sL_s {j : Int} {f : Int → Option (RS × Int)} {y : RS × Int} (h : rf_sL j f = some y) : ∃ z, z = rf_sn j.toNat ∧ inR z ∧ (0 ≤ j ∧ j < 11) ∧ f z = some y := by
  unfold rf_sL at h
  split at h
  · next c =>
    have := (rf_sn_R j.toNat (by omega)).1
    exact ⟨_, rfl, ⟨by omega, by omega⟩, c, h⟩
  · cases h
theorem rf_sC_s {j k : Int} {f : Int → Option (RS × Int)} {y : RS × Int} (h : rf_sC j k f = some y) : ∃ z, z = rf_sc j.toNat k.toNat ∧ inR z ∧ ((0 ≤ j ∧ j < 11) ∧ 0 ≤ k ∧ k < rf_sn j.toNat) ∧ f z = some y := by
  unfold rf_sC at h
  split at h
  · next c =>
    have hk : k.toNat < rf_sl.getD j.toNat 0 := by have := c.2.2; unfold rf_sn at this; omega
    have := (rf_sc_R j.toNat (by omega) k.toNat hk).1
    exact ⟨_, rfl, ⟨by omega, by omega⟩, c, h⟩
  · cases h
def rf_cl (o : Option (RS × Int)) (f : RS → Int → Option (RS × Int)) : Option (RS × Int) := match o with
  | none => none
  | some q => f q.1 q.2
def rf_fin (o : Option (RS × Int)) : Option (RS × Int) := match o with
  | none => none
  | some q => if -2147483648 ≤ q.2 ∧ q.2 ≤ 2147483647 then some q else none
theorem rf_ck_s {x : Int} {f : Int → Option (RS × Int)} {y : RS × Int} (h : rf_ck x f = some y) : ∃ z, z = x ∧ inR z ∧ f z = some y := by
  unfold rf_ck at h
  by_cases c : -2147483648 ≤ x ∧ x ≤ 2147483647
  · rw [if_pos c] at h; exact ⟨x, rfl, c, h⟩
  · rw [if_neg c] at h; cases h
theorem rf_bo_s {x : Int} {f : Option (RS × Int)} {y : RS × Int} (h : rf_bo x f = some y) : (x = 0 ∨ x = 1) ∧ f = some y := by
  unfold rf_bo at h
  by_cases c : x = 0 ∨ x = 1
  · rw [if_pos c] at h; exact ⟨c, h⟩
  · rw [if_neg c] at h; cases h
theorem rf_gi_s {v : rfE} {s : State} {σ : RS} {H : Heap} {locs : List Loc} (hw : rf_W v s σ H locs) {k : Nat} {f : Int → Option (RS × Int)} {y : RS × Int} (h : rf_gi σ k f = some y) : ∃ z, z = σ.1 k ∧ inR z ∧ f z = some y := ⟨_, rfl, hw.1.2.2.1 k, h⟩
theorem rf_nm_s {x : Int32} {f : Int → Option (RS × Int)} {y : RS × Int} (h : rf_nm x.toInt f = some y) : ∃ z, z = x.toInt ∧ inR z ∧ f z = some y := ⟨_, rfl, inR_of x, h⟩
theorem rf_pi_s {σ : RS} {k : Nat} {x : Int} {f : RS → Option (RS × Int)} {y : RS × Int} (h : rf_pi σ k x f = some y) : ∃ z, z = rs_i σ k x ∧ f z = some y := ⟨_, rfl, h⟩
theorem rf_rd_s {v : rfE} {s : State} {σ : RS} {H : Heap} {locs : List Loc} (hw : rf_W v s σ H locs) {k : Nat} {i : Int} {f : Int → Option (RS × Int)} {y : RS × Int} (h : rf_rd σ k i f = some y) : ∃ z, z = σ.2 k i.toNat ∧ inR z ∧ (0 ≤ i ∧ i < (rf_len k : Int)) ∧ f z = some y := by
  unfold rf_rd at h
  by_cases c : 0 ≤ i ∧ i < (rf_len k : Int)
  · rw [if_pos c] at h; exact ⟨_, rfl, hw.1.2.2.2 k _, c, h⟩
  · rw [if_neg c] at h; cases h
theorem rf_wr_s {σ : RS} {k : Nat} {i x : Int} {f : RS → Option (RS × Int)} {y : RS × Int} (h : rf_wr σ k i x f = some y) : ∃ z, z = rs_a σ k i x ∧ (0 ≤ i ∧ i < (rf_len k : Int)) ∧ f z = some y := by
  unfold rf_wr at h
  by_cases c : 0 ≤ i ∧ i < (rf_len k : Int)
  · rw [if_pos c] at h; exact ⟨_, rfl, c, h⟩
  · rw [if_neg c] at h; cases h
theorem rf_cl_s {o : Option (RS × Int)} {f : RS → Int → Option (RS × Int)} {y : RS × Int} (h : rf_cl o f = some y) : ∃ σ1 z, o = some (σ1, z) ∧ f σ1 z = some y := by
  cases o with
  | none => cases h
  | some q => exact ⟨q.1, q.2, rfl, h⟩
theorem rf_if_t {c : Prop} [Decidable c] {a b : Option (RS × Int)} {y : RS × Int} (h : (if c then a else b) = some y) (hc : c) : a = some y := by rw [if_pos hc] at h; exact h
theorem rf_if_f {c : Prop} [Decidable c] {a b : Option (RS × Int)} {y : RS × Int} (h : (if c then a else b) = some y) (hc : ¬ c) : b = some y := by rw [if_neg hc] at h; exact h
theorem rf_so {a b σ' : RS × Int} (h : some a = some b) : a = b := Option.some.inj h
end RFA
section RFB
variable {p : Program} {l : Launch} {e : Env} {R : Room} {s : State} {m : MethodId} {args : Array Value} {below : List Frame} {meth : Method} {c : Code} {H : Heap} {locs : List Loc} {Q : State → Prop}
variable {cc : ByteArray} {pc : Nat} {ls : Array Slot} {rest : List Value} {v : rfE} {σ : RS} {nL : Nat} {ret : Option FieldType}
theorem rf_lenN {i : Int} {k : Nat} (h : 0 ≤ i ∧ i < (rf_len k : Int)) : rf_len k ≠ 0 := by omega
/-- getfield -/
theorem rf_get (B : rf_B v p s m args meth c cc nL ret) (hw : rf_W v s σ H locs) (k : Nat) (hk : k < 83) {index : Nat} (hlink : Cond.fieldLink RX12 index (TX12 k).1 (TX12 k).2.1 (TX12 k).2.2.1 ∈ rf_bw) {val : Value} (hv : rf_fv v σ k = val) (hdg : decode cc pc = .ok (.getfield index, 3))
    (kk : W p l e R s m args below meth c H locs 0 0 Q (F0 m (pc + 3) ls (val :: rest))) : W p l e R s m args below meth c H locs 0 0 Q (F0 m pc ls (.ref (rf_h v) :: rest)) := by
  obtain ⟨hx, hb, hr, hml, hown, hts, hlk, ⟨⟨hS, hfc, kC, hkC, hkind⟩, hA, hST⟩, hD⟩ := B
  obtain ⟨cell, q1, q2, q3, q4⟩ := hw.1.1
  obtain ⟨cf, kf, fi, f, hi, hsl⟩ := hS k hk
  refine W.getf hx hb hown (hts _ hlink) hi (u_facts hfc hkC (u_lays hts rf_bw_in hk) hi).1 q1 (by rw [q3]; exact fun h => by cases h) (v := val) ?_ rfl rfl hdg kk
  rw [hsl, q4 k hk, hv]
/-- getfield of an int, by its name in the pure words -/
theorem rf_geti (B : rf_B v p s m args meth c cc nL ret) (hw : rf_W v s σ H locs) (k : Nat) (hk : k < 83) (ha : rf_isA k = false) {index : Nat} (hlink : Cond.fieldLink RX12 index (TX12 k).1 (TX12 k).2.1 (TX12 k).2.2.1 ∈ rf_bw) {z : Int} (hz : z = σ.1 k) (hdg : decode cc pc = .ok (.getfield index, 3))
    (kk : W p l e R s m args below meth c H locs 0 0 Q (F0 m (pc + 3) ls (.int (rI z) :: rest))) : W p l e R s m args below meth c H locs 0 0 Q (F0 m pc ls (.ref (rf_h v) :: rest)) :=
  rf_get B hw k hk hlink (by unfold rf_fv; rw [ha, hz]; rfl) hdg kk
theorem rf_apart (B : rf_B v p s m args meth c cc nL ret) : ∀ x y, x < 83 → y < 83 → x ≠ y → v.2.1 x ≠ v.2.1 y := by
  obtain ⟨hx, hb, hr, hml, hown, hts, hlk, ⟨⟨hS, hfc, kC, hkC, hkind⟩, hA, hST⟩, hD⟩ := B
  intro x y hx hy hne
  obtain ⟨_, _, _, fa, hia, ea⟩ := hS x hx
  obtain ⟨_, _, _, fb, hib, eb⟩ := hS y hy
  rw [← ea, ← eb]
  refine u_apart (u_lays hts rf_bw_in hx) (u_lays hts rf_bw_in hy) hia hib ?_
  rw [(State.fieldFound?_type hia (tyX12_ok x hx)).1, (State.fieldFound?_type hib (tyX12_ok y hy)).1]
  exact nmX12 x hx y hy hne
/-- putfield of an int or a boolean -/
theorem rf_put (B : rf_B v p s m args meth c cc nL ret) (hw : rf_W v s σ H locs) (k : Nat) (hk : k < 83) (ha : rf_isA k = false) (hfin : (TX12 k).2.2.2 = false) {index : Nat} (hlink : Cond.fieldLink RX12 index (TX12 k).1 (TX12 k).2.1 (TX12 k).2.2.1 ∈ rf_bw) {x : Int} (hxr : inR x) {σ1 : RS} (h1 : σ1 = rs_i σ k x)
    (hn : narrow (tyX12 k) (.int (rI x)) = .int (rI x)) (hfit : fits (tyX12 k) (.int (rI x)) = true) (hdg : decode cc pc = .ok (.putfield index, 3))
    (kk : ∀ (H : Heap) (locs : List Loc), rf_W v s σ1 H locs → W p l e R s m args below meth c H locs 0 0 Q (F0 m (pc + 3) ls rest)) : W p l e R s m args below meth c H locs 0 0 Q (F0 m pc ls (.int (rI x) :: .ref (rf_h v) :: rest)) := by
  have hap := rf_apart B
  obtain ⟨hx, hb, hr, hml, hown, hts, hlk, ⟨⟨hS, hfc, kC, hkC, hkind⟩, hA, hST⟩, hD⟩ := B
  obtain ⟨⟨⟨cell, q1, q2, q3, q4⟩, hAr, hI1, hI2⟩, hsz, hfr, hlo⟩ := hw
  obtain ⟨cf, kf, fi, f, hi, hsl⟩ := hS k hk
  have hlay := hts _ (rf_bw_in _ (u_in_lay hk))
  unfold u_lay at hlay
  rw [if_neg (by rw [hfin]; decide)] at hlay
  have hst := (u_facts hfc hkC (u_lays hts rf_bw_in hk) hi).1
  have h6 := u_store hfc hkC hkind hlay hi (tyX12_ok k hk) hn hfit
  refine W.putK hx hb (f := f) ⟨hown, hts _ hlink, ⟨_, _, _, hi⟩, hst⟩ (by rw [q2]; exact h6) q1 q3 (by rw [hsl]; exact k2_hasslot (q4 k hk)) rfl rfl hdg fun H' e1 e2 e3 => ?_
  rw [hsl] at e1 ⊢
  refine kk H' _ ⟨⟨?_, ?_, ?_, ?_⟩, e2.trans hsz, ?_, ?_⟩
  · refine t_OB.to (V := updV (rf_fv v σ) k (.int (rI x))) ⟨_, e1, q2, q3, t_set q4 hap hk _⟩ (fun j _ => ?_)
    subst h1
    by_cases hj : j = k
    · subst hj
      simp [updV, rf_fv, ha, rs_i]
    · simp [updV, rf_fv, rs_i, hj]
  · intro j hj
    rw [e3 _ (hD.1 j hj), hAr j hj, h1]
    rfl
  · intro j
    subst h1
    show inR (if j = k then x else σ.1 j)
    by_cases hj : j = k
    · rw [if_pos hj]; exact hxr
    · rw [if_neg hj]; exact hI1 j
  · intro j i
    subst h1
    exact hI2 j i
  · intro q hq
    rw [e3 q (fun hh => hq (Or.inl hh))]
    exact hfr q hq
  · exact t_lc hlo (Or.inl rfl)
/-- iaload -/
theorem rf_ald (B : rf_B v p s m args meth c cc nL ret) (hw : rf_W v s σ H locs) {k : Nat} {i z : Int} (hir : inR i) (hi : 0 ≤ i ∧ i < (rf_len k : Int)) (hz : z = σ.2 k i.toNat) (hdg : decode cc pc = .ok (.iaload, 1))
    (kk : W p l e R s m args below meth c H locs 0 0 Q (F0 m (pc + 1) ls (.int (rI z) :: rest))) : W p l e R s m args below meth c H locs 0 0 Q (F0 m pc ls (.int (rI i) :: .ref (rf_ad v k) :: rest)) := by
  obtain ⟨hx, hb, hr, hml, hown, hts, hlk, ⟨-, hA, hST⟩, hD⟩ := B
  have hlt : i.toNat < rf_len k := by omega
  refine W.iald (v := .int (rI z)) hx hb (hw.1.2.1 k (rf_lenN hi)) (hA (rf_len k) _) (fun q => by cases q) (by rw [arrV_size]; exact rI_in hir hi.1 hi.2) ?_ rfl rfl hdg kk
  rw [rI_cl hir, arrV_read _ _ hlt, hz]
/-- iastore -/
theorem rf_ast (B : rf_B v p s m args meth c cc nL ret) (hw : rf_W v s σ H locs) {k : Nat} {i x : Int} (hir : inR i) (hxr : inR x) (hi : 0 ≤ i ∧ i < (rf_len k : Int)) {σ1 : RS} (h1 : σ1 = rs_a σ k i x) (hdg : decode cc pc = .ok (.iastore, 1))
    (kk : ∀ (H : Heap) (locs : List Loc), rf_W v s σ1 H locs → W p l e R s m args below meth c H locs 0 0 Q (F0 m (pc + 1) ls rest)) : W p l e R s m args below meth c H locs 0 0 Q (F0 m pc ls (.int (rI x) :: .int (rI i) :: .ref (rf_ad v k) :: rest)) := by
  obtain ⟨hx, hb, hr, hml, hown, hts, hlk, ⟨-, hA, hST⟩, hD⟩ := B
  obtain ⟨⟨hO, hAr, hI1, hI2⟩, hsz, hfr, hlo⟩ := hw
  have hk := rf_lenN hi
  refine W.iast hx hb (hAr k hk) (hA (rf_len k) _) (fun q => by cases q) (by rw [arrV_size]; exact rI_in hir hi.1 hi.2) rfl rfl hdg fun H' e1 e2 e3 => ?_
  refine kk H' _ ⟨⟨?_, ?_, ?_, ?_⟩, e2.trans hsz, ?_, ?_⟩
  · subst h1
    exact hO.kept (e3 _ (fun hh => hD.1 k hk hh.symm))
  · intro j hj
    by_cases hjk : j = k
    · subst hjk
      rw [e1, arrV_store, rI_cl hir, h1]
      congr 2
      funext q
      by_cases hq : q = i.toNat
      · subst hq
        simp [updV, rs_a]
      · simp [updV, rs_a, hq]
    · rw [e3 _ (fun hh => hjk (hD.2 j k hj hk hh)), hAr j hj, h1]
      simp [rs_a, hjk]
  · intro j
    subst h1
    exact hI1 j
  · intro j q
    subst h1
    show inR (if j = k then (if q = i.toNat then x else σ.2 j q) else σ.2 j q)
    split
    · split
      · exact hxr
      · exact hI2 j q
    · exact hI2 j q
  · intro q hq
    rw [e3 q (fun hh => hq (Or.inr ⟨k, hk, hh⟩))]
    exact hfr q hq
  · exact t_lc hlo (Or.inr ⟨k, hk, rfl⟩)
end RFB
section RFC
variable {p : Program} {l : Launch} {e : Env} {s : State} {m : MethodId} {args : Array Value} {below : List Frame} {meth : Method} {c : Code} {H : Heap} {locs : List Loc} {Q : State → Prop}
variable {cc : ByteArray} {pc : Nat} {ls : Array Slot} {rest : List Value} {v : rfE} {σ σ1 : RS} {nL : Nat} {ret : Option FieldType} {d : Nat}
/-- the five words of a call, and all the others -/
theorem rf_good {own : List Cond} {y : MethodName} {index : Nat} {bytes : ByteArray} {maxL : Nat} {ret0 : Option FieldType} (h0 : GoodIn rf_bw (Cond.code y bytes maxL ret0 :: own)) : GoodIn rf_bw (own ++ (Cond.code y bytes maxL ret0 :: rf_bw)) := by
  intro w hw
  rcases List.mem_append.mp hw with h | h
  · exact h0 w (List.mem_cons_of_mem _ h)
  · rcases List.mem_cons.mp h with h | h
    · exact h0 w (by rw [h]; exact List.mem_cons_self)
    · exact ⟨h, good_of_word (List.all_eq_true.mp rf_bw_good w h)⟩
theorem rf_after {y : MethodName} {rv : Option Value} {g : JFrame} {As : Array Value}
    (hr : CallRun p l e (rf_rm (d + 1)) s m args below meth c H locs 0 0 0 0 g rest (rf_Q v σ1 rv As) (rf_F v)) (hw : rf_W v s σ H locs)
    (kk : ∀ (H : Heap) (locs : List Loc), rf_W v s σ1 H locs → W p l e (rf_rm (d + 1)) s m args below meth c H locs 0 0 Q { g with pc := g.pc + 3, stack := rv.toList ++ rest }) : W p l e (rf_rm (d + 1)) s m args below meth c H locs 0 0 Q g := by
  intro T hT X
  obtain ⟨v1, st₀, t, T', L, h0, X', hL, e1, ⟨hv, hM, hz, hfr⟩, st⟩ := hr T hT X
  obtain rfl : v1 = rv := Outcome.returned.inj hv
  obtain ⟨t2, a1, b1⟩ := kk T'.heap (locs ++ L) ⟨by rw [e1]; exact hM, by rw [e1, hz, h0]; exact hw.2.1, fun q hq => by rw [e1, hfr q hq, h0]; exact hw.2.2.1 q hq, t_lL hw.2.2.2 hL⟩ T' rfl X'
  exact ⟨t2, st t2 a1, b1⟩
/-- invokevirtual of the reference's own method -/
theorem rf_cv (B : rf_B v p s m args meth c cc nL ret) {y : MethodName} {bytes : ByteArray} {maxL index n : Nat} {ret0 : Option FieldType} {As : List Value} {rv : Option Value}
    (hM : rf_Met l v y bytes maxL ret0 d (.ref (rf_h v) :: As) σ σ1 rv) (h0 : GoodIn rf_bw [Cond.code y bytes maxL ret0, .methodLink RX12 index y, .instanceMethod y, .selects RX12 y y, .initialized RX12])
    (hd : y.cls = RX12 ∧ y.cls ≠ "java/lang/invoke/MethodHandle" ∧ y.cls ≠ "java/lang/invoke/VarHandle" ∧ (parseMethodDescriptor y.desc).map (fun d => d.parameters.length) = some n) (hmax : maxL ≤ 41)
    (hn : As.length = n) (hl : ls.size = nL) (hrest : (rest.map fun v => v.category).sum ≤ 8) (hdg : decode cc pc = .ok (.invokevirtual index, 3)) {st : List Value} (hst : st = As.reverse ++ .ref (rf_h v) :: rest) (hw : rf_W v s σ H locs)
    (kk : ∀ (H : Heap) (locs : List Loc), rf_W v s σ1 H locs → W p l e (rf_rm (d + 1)) s m args below meth c H locs 0 0 Q (F0 m (pc + 3) ls (rv.toList ++ rest))) : W p l e (rf_rm (d + 1)) s m args below meth c H locs 0 0 Q (F0 m pc ls st) := by
  obtain ⟨hx, hb, hr, hml, hown, hts, hlk, hK, hD⟩ := B
  obtain ⟨cell, q1, q2, q3, q4⟩ := hw.1.1
  refine rf_after (y := y) (v := v) (σ := σ) (σ1 := σ1) (rv := rv) (W.runV (C := RX12) (own := RX12) (Ts := rf_bw) ⟨hx, hb, hml, hown, hts⟩ hM (cwV n hts (rf_good (index := index) h0) rfl rfl rfl hd ⟨Nat.le_refl _, ?_⟩)
    ⟨rf_blind, ⟨cell, q1, by rw [q3]; rfl, by rw [q2]; exact hK.1.2.1⟩, fun U hU hW => ⟨rfl, by rw [hU]; exact hw.1, hK.at hw.2.2.1 hU hW⟩⟩ rfl hn hl hst (lv_room hrest) hdg ⟨Nat.le_refl _, Nat.le_refl _⟩) hw kk
  show 8 + (maxL + 11) + 60 * d ≤ 60 * (d + 1)
  omega
/-- invokestatic of the reference's own method -/
theorem rf_cs (B : rf_B v p s m args meth c cc nL ret) {y : MethodName} {bytes : ByteArray} {maxL index n : Nat} {ret0 : Option FieldType} {As : List Value} {rv : Option Value}
    (hM : rf_Met l v y bytes maxL ret0 d As σ σ1 rv) (h0 : GoodIn rf_bw [Cond.code y bytes maxL ret0, .methodLink RX12 index y, .static y, .initialized RX12])
    (hd : y.cls = RX12 ∧ y.cls ≠ "java/lang/invoke/MethodHandle" ∧ y.cls ≠ "java/lang/invoke/VarHandle" ∧ (parseMethodDescriptor y.desc).map (fun d => d.parameters.length) = some n) (hmax : maxL ≤ 41)
    (hn : As.length = n) (hl : ls.size = nL) (hrest : (rest.map fun v => v.category).sum ≤ 8) (hdg : decode cc pc = .ok (.invokestatic index, 3)) {st : List Value} (hst : st = As.reverse ++ rest) (hw : rf_W v s σ H locs)
    (kk : ∀ (H : Heap) (locs : List Loc), rf_W v s σ1 H locs → W p l e (rf_rm (d + 1)) s m args below meth c H locs 0 0 Q (F0 m (pc + 3) ls (rv.toList ++ rest))) : W p l e (rf_rm (d + 1)) s m args below meth c H locs 0 0 Q (F0 m pc ls st) := by
  obtain ⟨hx, hb, hr, hml, hown, hts, hlk, hK, hD⟩ := B
  refine rf_after (y := y) (v := v) (σ := σ) (σ1 := σ1) (rv := rv) (W.runS (own := RX12) (Ts := rf_bw) ⟨hx, hb, hml, hown, hts⟩ hM (cwS n hts (rf_good (index := index) h0) rfl rfl rfl hd ⟨Nat.le_refl _, ?_⟩)
    ⟨rf_blind, fun U hU hW => ⟨rfl, by rw [hU]; exact hw.1, hK.at hw.2.2.1 hU hW⟩⟩ rfl hn hl hst (lv_room hrest) hdg ⟨Nat.le_refl _, Nat.le_refl _⟩) hw kk
  show 8 + (maxL + 11) + 60 * d ≤ 60 * (d + 1)
  omega
/-- aaload of the words -/
theorem rf_aald (B : rf_B v p s m args meth c cc nL ret) {R : Room} (hw : rf_W v s σ H locs) {i : Int} (hir : inR i) (hi : 0 ≤ i ∧ i < 9) (hdg : decode cc pc = .ok (.aaload, 1))
    (kk : W p l e R s m args below meth c H locs 0 0 Q (F0 m (pc + 1) ls (.ref (rf_ad v (100 + Int.toNat i)) :: rest))) : W p l e R s m args below meth c H locs 0 0 Q (F0 m pc ls (.int (rI i) :: .ref (rf_ad v 0) :: rest)) := by
  obtain ⟨hx, hb, hr, hml, hown, hts, hlk, ⟨-, hA, hST⟩, hD⟩ := B
  obtain ⟨cell, h1, h2, h3, h4, h5, h6, h7⟩ := hST.2.1.kept (H1 := H) (fun a _ hA => hw.2.2.1 a hA)
  refine W.aald hx hb h1 h2 rfl h3 ?_ ?_ rfl rfl hdg kk
  · rw [rI_cl hir]
    rintro (q | q)
    · have := (rI_lt hir inR_0).mp q; omega
    · omega
  · rw [rI_cl hir]; exact h6 i.toNat (by omega)
/-- a call of a String's own method -/
theorem rf_cj (B : rf_B v p s m args meth c cc nL ret) {y : MethodName} {bytes : ByteArray} {maxL index n i : Nat} {ret0 : Option FieldType} {As : List Value} {rv : Option Value} (hi : i < 11)
    (hM : js_Met l (rf_F v) 11 rf_sl rf_sb (rf_aK v) (rf_aV v) y bytes maxL ret0 d (.ref (rf_aK v i) :: As) rv) (h0 : GoodIn rf_bw [Cond.code y bytes maxL ret0, .methodLink RX12 index y, .instanceMethod y, .selects RJ0 y y, .initialized RJ0])
    (hd : y.cls = RJ0 ∧ y.cls ≠ "java/lang/invoke/MethodHandle" ∧ y.cls ≠ "java/lang/invoke/VarHandle" ∧ (parseMethodDescriptor y.desc).map (fun d => d.parameters.length) = some n) (hmax : maxL ≤ 41)
    (hn : As.length = n) (hl : ls.size = nL) (hrest : (rest.map fun v => v.category).sum ≤ 8) (hdg : decode cc pc = .ok (.invokevirtual index, 3)) {st : List Value} (hst : st = As.reverse ++ .ref (rf_aK v i) :: rest) (hw : rf_W v s σ H locs)
    (kk : W p l e (rf_rm (d + 1)) s m args below meth c H locs 0 0 Q (F0 m (pc + 3) ls (rv.toList ++ rest))) : W p l e (rf_rm (d + 1)) s m args below meth c H locs 0 0 Q (F0 m pc ls st) := by
  obtain ⟨hx, hb, hr, hml, hown, hts, hlk, hK, hD⟩ := B
  have hJ := hK.2.2.1.kept (H1 := H) (fun a _ hA => hw.2.2.1 a hA)
  obtain ⟨cellS, g1, g2, g3, -⟩ := (hJ.2.2.1 i hi).1
  refine js_after (rv := rv) (W.runV (C := RJ0) (own := RX12) (Ts := rf_bw) ⟨hx, hb, hml, hown, hts⟩ hM (cwV n hts ?_ rfl rfl rfl hd ⟨Nat.le_refl _, ?_⟩)
    ⟨js_blind, ⟨cellS, g1, g2, g3⟩, fun U hU hW => ⟨rfl, js_at hJ hU hW⟩⟩ rfl hn hl hst (lv_room hrest) hdg ⟨Nat.le_refl _, Nat.le_refl _⟩) kk
  · intro w hw
    rcases List.mem_append.mp hw with h | h
    · exact h0 w (List.mem_cons_of_mem _ h)
    · rcases List.mem_cons.mp h with h | h
      · exact h0 w (by rw [h]; exact List.mem_cons_self)
      · exact ⟨rf_bw_js w h, good_of_word (List.all_eq_true.mp js_bw_good w h)⟩
  · show 8 + (maxL + 11) + 60 * d ≤ 60 * (d + 1)
    omega
theorem rf_slen (hd1 : 3 ≤ d) {j z : Int} (hj : 0 ≤ j ∧ j < 11) (hz : z = rf_sn j.toNat) : js_Met l (rf_F v) 11 rf_sl rf_sb (rf_aK v) (rf_aV v) yJ0_length_8abf5 cJ0_length_8abf5 1 (some .int) d [.ref (rf_aK v j.toNat)] (some (.int (rI z))) := by
  obtain ⟨d0, rfl⟩ : ∃ d0, d = d0 + 1 := ⟨d - 1, by omega⟩
  have h := js_length (l := l) (A := rf_F v) (N := 11) (len := rf_sl) (byt := rf_sb) (adK := rf_aK v) (adV := rf_aV v) (i := j.toNat) (by omega) d0
  rw [(rf_sn_R j.toNat (by omega)).2, ← hz] at h
  exact h
theorem rf_schr (hd1 : 3 ≤ d) {j k z : Int} (hj : (0 ≤ j ∧ j < 11) ∧ 0 ≤ k ∧ k < rf_sn j.toNat) (hz : z = rf_sc j.toNat k.toNat) : js_Met l (rf_F v) 11 rf_sl rf_sb (rf_aK v) (rf_aV v) yJ0_charAt_5068e cJ0_charAt_5068e 2 (some .char) d [.ref (rf_aK v j.toNat), .int (rI k)] (some (.int (rI z))) := by
  obtain ⟨d0, rfl⟩ : ∃ d0, d = d0 + 3 := ⟨d - 3, by omega⟩
  have hs := (rf_sn_R j.toNat (by omega)).1
  have hk : k.toNat < rf_sl.getD j.toNat 0 := by have := hj.2.2; unfold rf_sn at this; omega
  have hL : rf_sl.getD j.toNat 0 < 2 ^ 31 := by unfold rf_sn at hs; omega
  obtain ⟨-, h2, h3⟩ := rf_sc_R j.toNat (by omega) k.toNat hk
  have h := js_char0 (l := l) (A := rf_F v) (N := 11) (len := rf_sl) (byt := rf_sb) (adK := rf_aK v) (adV := rf_aV v) (i := j.toNat) (k := k.toNat) (by omega) hk hL h2 h3 d0
  have hkr : inR k := ⟨by omega, by omega⟩
  have hk2 : nI k.toNat = rI k := Int32.toInt_inj.1 (by rw [rI_T hkr, nI_toInt (by omega)]; omega)
  rw [hk2, ← hz] at h
  exact h
theorem rf_end {rv : Option Value} (hw : rf_W v s σ H locs) : ∀ t : State, t.heap = H → s.WarmedH t.vm → rf_Q v σ rv args s (.returned rv) t := fun t ht _ =>
  ⟨rfl, by rw [ht]; exact hw.1, by rw [ht]; exact hw.2.1, fun q hq => by rw [ht]; exact hw.2.2.1 q hq⟩
theorem rf_reti (B : rf_B v p s m args meth c cc nL (some .int)) {R : Room} {z r : Int} (hf : some (σ, z) = some (σ1, r)) (hw : rf_W v s σ H locs) (hdg : decode cc pc = .ok (.ireturn, 1)) :
    W p l e R s m args below meth c H locs 0 0 (MQ below (rf_Q v σ1 (some (.int (rI r)))) args s 0 0 (rf_F v)) (F0 m pc ls [.int (rI z)]) := by
  obtain ⟨hx, hb, hr, hml, hown, hts, hlk, hK, hD⟩ := B
  obtain ⟨rfl, rfl⟩ := Prod.mk.inj (Option.some.inj hf)
  exact W.iret hx hb hr (rf_end hw) hw.2.2.2 hdg hlk
theorem rf_narZ {z : Int} (h : z = 0 ∨ z = 1) : narrow .boolean (.int (rI z)) = .int (rI z) := by
  rcases h with rfl | rfl <;> rfl
theorem rf_fitZ {z : Int} (h : z = 0 ∨ z = 1) : fits .boolean (.int (rI z)) = true := by
  rcases h with rfl | rfl <;> rfl
theorem rf_retz (B : rf_B v p s m args meth c cc nL (some .boolean)) {R : Room} {z r : Int} (h01 : z = 0 ∨ z = 1) (hf : some (σ, z) = some (σ1, r)) (hw : rf_W v s σ H locs) (hdg : decode cc pc = .ok (.ireturn, 1)) :
    W p l e R s m args below meth c H locs 0 0 (MQ below (rf_Q v σ1 (some (.int (rI r)))) args s 0 0 (rf_F v)) (F0 m pc ls [.int (rI z)]) := by
  obtain ⟨hx, hb, hr, hml, hown, hts, hlk, hK, hD⟩ := B
  obtain ⟨rfl, rfl⟩ := Prod.mk.inj (Option.some.inj hf)
  exact W.zret hx hb hr (rf_narZ h01) (rf_end hw) hw.2.2.2 hdg hlk
theorem rf_retv (B : rf_B v p s m args meth c cc nL none) {R : Room} {r : Int} (hf : some (σ, (0 : Int)) = some (σ1, r)) (hw : rf_W v s σ H locs) (hdg : decode cc pc = .ok (.return_, 1)) :
    W p l e R s m args below meth c H locs 0 0 (MQ below (rf_Q v σ1 none) args s 0 0 (rf_F v)) (F0 m pc ls []) := by
  obtain ⟨hx, hb, hr, hml, hown, hts, hlk, hK, hD⟩ := B
  obtain ⟨rfl, rfl⟩ := Prod.mk.inj (Option.some.inj hf)
  exact W.vret hx hb hr (rf_end hw) hw.2.2.2 hdg hlk
end RFC
