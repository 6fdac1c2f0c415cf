section CRA
def cRef (w : Value) : Prop := w = .null ∨ ∃ a, w = .ref a
theorem cRef_R {v : cwE} (x : Int) : cRef (cR v x) := by
  unfold cR
  split
  · exact Or.inl rfl
  · exact Or.inr ⟨_, rfl⟩
def cl_has (ls : Array Slot) (nL : Nat) (lv : List (Nat × Value)) : Prop := lv_has ls nL lv ∧ ∀ q ∈ lv, q.2.category = 1
theorem cl_sub {ls : Array Slot} {nL : Nat} {lv lv' : List (Nat × Value)} (h : cl_has ls nL lv) (ks : List Nat) (hl : lv_pick lv ks = lv') : cl_has ls nL lv' := by
  refine ⟨lv_sub h.1 ks hl, fun q hq => ?_⟩
  rw [← hl] at hq
  obtain ⟨k, -, hk⟩ := List.mem_filterMap.mp hq
  exact h.2 q (List.mem_of_getElem? hk)
theorem cl_filt {ls : Array Slot} {nL : Nat} {lv : List (Nat × Value)} (h : cl_has ls nL lv) (i : Nat) : lv.filter (fun q => !(q.1 == i) && !(q.1 + 1 == i && q.2.category == 2)) = lv.filter (fun q => !(q.1 == i)) := by
  apply List.filter_congr
  intro q hq
  rw [h.2 q hq]
  simp
theorem cl_new {ls : Array Slot} {nL i : Nat} {lv lv' : List (Nat × Value)} {w : Value} (h : ∀ q ∈ lv, q.2.category = 1) (hw : w.category = 1) (hl : (i, w) :: lv.filter (fun q => !(q.1 == i)) = lv') (h' : lv_has ls nL lv') : cl_has ls nL lv' := by
  refine ⟨h', fun q hq => ?_⟩
  rw [← hl] at hq
  rcases List.mem_cons.mp hq with rfl | hq
  · exact hw
  · exact h q (List.mem_filter.mp hq).1
end CRA
section CRB
variable {p : Program} {l : Launch} {e : Env} {R : Room} {s : State} {m : MethodId} {args : Array Value} {below : List Frame} {meth : Method} {c : Code} {H : Heap} {locs : List Loc} {cells slots : Nat} {Q : State → Prop} {cc : ByteArray} {pc : Nat} {ls : Array Slot} {rest : List Value}
variable {v : cwE}
theorem cl_istore_n (hx : p.tables.exec = Jvm.exec) (hb : c.code = cc) {k : Fin 4} {i nL : Nat} {x : Int32} {lv lv' : List (Nat × Value)} (hdg : decode cc pc = .ok (.istore_n k, 1)) (hi : (k : Nat) = i) (h : cl_has ls nL lv) (hn : i < nL) (hl : (i, Value.int x) :: lv.filter (fun q => !(q.1 == i)) = lv')
    (kk : ∀ ls, cl_has ls nL lv' → W p l e R s m args below meth c H locs cells slots Q (F0 m (pc + 1) ls rest)) : W p l e R s m args below meth c H locs cells slots Q (F0 m pc ls (.int x :: rest)) :=
  lv_istore_n hx hb hdg hi h.1 hn (by rw [cl_filt h]; exact hl) (fun ls' h' => kk ls' (cl_new h.2 rfl hl h'))
theorem cl_istore (hx : p.tables.exec = Jvm.exec) (hb : c.code = cc) {i nL : Nat} {x : Int32} {lv lv' : List (Nat × Value)} (hdg : decode cc pc = .ok (.istore i, 2)) (h : cl_has ls nL lv) (hn : i < nL) (hl : (i, Value.int x) :: lv.filter (fun q => !(q.1 == i)) = lv')
    (kk : ∀ ls, cl_has ls nL lv' → W p l e R s m args below meth c H locs cells slots Q (F0 m (pc + 2) ls rest)) : W p l e R s m args below meth c H locs cells slots Q (F0 m pc ls (.int x :: rest)) :=
  lv_istore hx hb hdg h.1 hn (by rw [cl_filt h]; exact hl) (fun ls' h' => kk ls' (cl_new h.2 rfl hl h'))
theorem cl_iinc (hx : p.tables.exec = Jvm.exec) (hb : c.code = cc) {i nL k : Nat} {n : Int} {x v : Int32} {lv lv' : List (Nat × Value)} (hdg : decode cc pc = .ok (.iinc i n, 3)) (h : cl_has ls nL lv) (hk : lv[k]? = some (i, .int x)) (hv : x + Int32.ofInt n = v) (hn : i < nL) (hl : (i, Value.int v) :: lv.filter (fun q => !(q.1 == i)) = lv')
    (kk : ∀ ls, cl_has ls nL lv' → W p l e R s m args below meth c H locs cells slots Q (F0 m (pc + 3) ls rest)) : W p l e R s m args below meth c H locs cells slots Q (F0 m pc ls rest) :=
  lv_iinc hx hb hdg h.1 hk hv hn (by rw [cl_filt h]; exact hl) (fun ls' h' => kk ls' (cl_new h.2 rfl hl h'))
theorem cl_astore_n (hx : p.tables.exec = Jvm.exec) (hb : c.code = cc) {k : Fin 4} {i nL : Nat} {x : Int} {lv lv' : List (Nat × Value)} (hdg : decode cc pc = .ok (.astore_n k, 1)) (hi : (k : Nat) = i) (h : cl_has ls nL lv) (hn : i < nL) (hl : (i, cR v x) :: lv.filter (fun q => !(q.1 == i)) = lv')
    (kk : ∀ ls, cl_has ls nL lv' → W p l e R s m args below meth c H locs cells slots Q (F0 m (pc + 1) ls rest)) : W p l e R s m args below meth c H locs cells slots Q (F0 m pc ls (cR v x :: rest)) := by
  by_cases hs : x < 0
  · rw [cR_n hs] at hl ⊢
    exact lv_astore_nN hx hb hdg hi h.1 hn (by rw [cl_filt h]; exact hl) (fun ls' h' => kk ls' (cl_new h.2 rfl hl h'))
  · rw [cR_r (by omega)] at hl ⊢
    exact lv_astore_n hx hb hdg hi h.1 hn (by rw [cl_filt h]; exact hl) (fun ls' h' => kk ls' (cl_new h.2 rfl hl h'))
theorem cl_astore (hx : p.tables.exec = Jvm.exec) (hb : c.code = cc) {i nL : Nat} {x : Int} {lv lv' : List (Nat × Value)} (hdg : decode cc pc = .ok (.astore i, 2)) (h : cl_has ls nL lv) (hn : i < nL) (hl : (i, cR v x) :: lv.filter (fun q => !(q.1 == i)) = lv')
    (kk : ∀ ls, cl_has ls nL lv' → W p l e R s m args below meth c H locs cells slots Q (F0 m (pc + 2) ls rest)) : W p l e R s m args below meth c H locs cells slots Q (F0 m pc ls (cR v x :: rest)) := by
  by_cases hs : x < 0
  · rw [cR_n hs] at hl ⊢
    exact lv_astoreN hx hb hdg h.1 hn (by rw [cl_filt h]; exact hl) (fun ls' h' => kk ls' (cl_new h.2 rfl hl h'))
  · rw [cR_r (by omega)] at hl ⊢
    exact lv_astore hx hb hdg h.1 hn (by rw [cl_filt h]; exact hl) (fun ls' h' => kk ls' (cl_new h.2 rfl hl h'))
theorem cl_aload_n (hx : p.tables.exec = Jvm.exec) (hb : c.code = cc) {k : Fin 4} {i : Nat} {x : Int} (hdg : decode cc pc = .ok (.aload_n k, 1)) (hi : (k : Nat) = i) (hl : ls[i]? = some (.val (cR v x)))
    (kk : W p l e R s m args below meth c H locs cells slots Q (F0 m (pc + 1) ls (cR v x :: rest))) : W p l e R s m args below meth c H locs cells slots Q (F0 m pc ls rest) := by
  by_cases hs : x < 0
  · rw [cR_n hs] at hl kk
    exact lv_aload_nN hx hb hdg hi hl kk
  · rw [cR_r (by omega)] at hl kk
    exact lv_aload_n hx hb hdg hi hl kk
theorem cl_aload (hx : p.tables.exec = Jvm.exec) (hb : c.code = cc) {i : Nat} {x : Int} (hdg : decode cc pc = .ok (.aload i, 2)) (hl : ls[i]? = some (.val (cR v x)))
    (kk : W p l e R s m args below meth c H locs cells slots Q (F0 m (pc + 2) ls (cR v x :: rest))) : W p l e R s m args below meth c H locs cells slots Q (F0 m pc ls rest) := by
  by_cases hs : x < 0
  · rw [cR_n hs] at hl kk
    exact lv_aloadN hx hb hdg hl kk
  · rw [cR_r (by omega)] at hl kk
    exact lv_aload hx hb hdg hl kk
theorem cl_null (hx : p.tables.exec = Jvm.exec) (hb : c.code = cc) (hdg : decode cc pc = .ok (.aconst_null, 1)) (kk : W p l e R s m args below meth c H locs cells slots Q (F0 m (pc + 1) ls (cR v (-1) :: rest))) : W p l e R s m args below meth c H locs cells slots Q (F0 m pc ls rest) := lv_null hx hb hdg kk
theorem cl_ifnull (hx : p.tables.exec = Jvm.exec) (hb : c.code = cc) {x : Int} {off : Int} {tgt : Nat} (hdg : decode cc pc = .ok (.ifnull off, 3)) (ht : (pc : Int) + off = (tgt : Int)) (kt : x < 0 → W p l e R s m args below meth c H locs cells slots Q (F0 m tgt ls rest)) (kf : ¬ (x < 0) → W p l e R s m args below meth c H locs cells slots Q (F0 m (pc + 3) ls rest)) : W p l e R s m args below meth c H locs cells slots Q (F0 m pc ls (cR v x :: rest)) := by
  by_cases hs : x < 0
  · rw [cR_n hs]
    exact lv_ifnullN hx hb hdg ht (kt hs)
  · rw [cR_r (by omega)]
    exact lv_ifnull hx hb hdg (kf hs)
theorem cl_ifnonnull (hx : p.tables.exec = Jvm.exec) (hb : c.code = cc) {x : Int} {off : Int} {tgt : Nat} (hdg : decode cc pc = .ok (.ifnonnull off, 3)) (ht : (pc : Int) + off = (tgt : Int)) (kt : 0 ≤ x → W p l e R s m args below meth c H locs cells slots Q (F0 m tgt ls rest)) (kf : ¬ (0 ≤ x) → W p l e R s m args below meth c H locs cells slots Q (F0 m (pc + 3) ls rest)) : W p l e R s m args below meth c H locs cells slots Q (F0 m pc ls (cR v x :: rest)) := by
  by_cases hs : x < 0
  · rw [cR_n hs]
    exact lv_ifnonnullN hx hb hdg (kf (by omega))
  · rw [cR_r (by omega)]
    exact lv_ifnonnull hx hb hdg ht (kt (by omega))
end CRB
section CRC
/-! what the pure words do to the state -/
def cs_p (σ : CS) (a f : Nat) (x : Int) : CS := (σ.1, fun b g => if b = a then (if g = f then x else c_pv σ b g) else c_pv σ b g, σ.2.2)
def cs_n (σ : CS) (t n : Nat) : CS := (fun b => if b = c_hp σ then t else c_tg σ b, fun b g => if b = c_hp σ then (if cw_isR t g = true then -1 else 0) else c_pv σ b g, fun b => if b = c_hp σ then n else c_ln σ b, c_hp σ + 1, c_sl σ + n)
/-- an object that nobody asks for again (an exception): a cell of n slots without a tag -/
def cs_x (σ : CS) (n : Nat) : CS := (σ.1, σ.2.1, σ.2.2.1, c_hp σ + 1, c_sl σ + n)
variable {p : Program} {l : Launch} {e : Env} {R : Room} {s : State} {m : MethodId} {args : Array Value} {below : List Frame} {meth : Method} {c : Code} {H : Heap} {locs : List Loc} {cells slots : Nat} {Q : State → Prop} {cc : ByteArray} {pc : Nat} {ls : Array Slot} {rest : List Value}
variable {v : cwE} {σ0 σ : CS} {nL d : Nat} {ret : Option FieldType} {own : String}
def cw_B (v : cwE) (own : String) (p : Program) (s : State) (m : MethodId) (args : Array Value) (meth : Method) (c : Code) (cc : ByteArray) (nL : Nat) (ret : Option FieldType) : Prop :=
  p.tables.exec = Jvm.exec ∧ c.code = cc ∧ meth.sig.returnType = ret ∧ c.maxLocals = nL ∧ s.vm.findClass own = some m.cls ∧ (∀ w ∈ cw_bw, w.before args s = true) ∧ meth.locks = false ∧ cw_K v s
theorem cw_obj (hw : cw_W v s σ0 σ H locs cells slots) {x : Int} {t : Nat} (h : 0 ≤ x ∧ c_tg σ x.toNat = t) (ht : 1 ≤ t ∧ t ≤ 13) : t_OB (cw_mp v x.toNat) (v.1 t) (cw_tab t).2.2 (v.2.1 t) H (fun f => cw_fv v t f (c_pv σ x.toNat f)) := by
  have h1 := hw.1.2.1 x.toNat (by rw [h.2]; omega)
  unfold cw_at at h1
  rw [h.2, if_pos (by omega)] at h1
  exact h1
theorem cw_arx (hw : cw_W v s σ0 σ H locs cells slots) {x : Int} {t : Nat} (h : 0 ≤ x ∧ c_tg σ x.toNat = t) (ht : 20 ≤ t) : ∃ cell, H[cw_mp v x.toNat]? = some cell ∧ ∃ cA, cw_cn v t cA ∧ cw_ar cell cA (c_ln σ x.toNat) (fun i => cw_fv v t i (c_pv σ x.toNat i)) := by
  have h1 := hw.1.2.1 x.toNat (by rw [h.2]; omega)
  unfold cw_at at h1
  rw [h.2, if_neg (by omega)] at h1
  exact h1
theorem cw_arr (hw : cw_W v s σ0 σ H locs cells slots) {x : Int} {t : Nat} (h : 0 ≤ x ∧ c_tg σ x.toNat = t) (ht : 21 ≤ t) : ∃ cell, H[cw_mp v x.toNat]? = some cell ∧ cw_ar cell (v.1 t) (c_ln σ x.toNat) (fun i => cw_fv v t i (c_pv σ x.toNat i)) := by
  obtain ⟨cell, h1, cA, h2, h3⟩ := cw_arx hw h (by omega)
  rcases h2 with rfl | h2
  · exact ⟨cell, h1, h3⟩
  · omega
theorem cw_cnB (hK : cw_K v s) {cA : ClassId} (h : cw_cn v 20 cA) : ArrOfT s cA .byte := by
  rcases h with rfl | ⟨-, rfl⟩
  · exact hK.1.2.1.1
  · exact hK.1.2.1.2
/-- getfield -/
theorem cw_get (B : cw_B v own p s m args meth c cc nL ret) (hw : cw_W v s σ0 σ H locs cells slots) {t f : Nat} {x z : Int} (h : 0 ≤ x ∧ c_tg σ x.toNat = t) (ht : 1 ≤ t ∧ t ≤ 13) (hf : f < (cw_tab t).2.2) (hin : ∀ w ∈ u_ws (cw_tab t).1 (cw_tab t).2.1 (cw_tab t).2.2, w ∈ cw_bw) {index : Nat} (hlink : Cond.fieldLink own index ((cw_tab t).2.1 f).1 ((cw_tab t).2.1 f).2.1 ((cw_tab t).2.1 f).2.2.1 ∈ cw_bw) (hz : z = c_pv σ x.toNat f) {val : Value} (hv : cw_fv v t f z = val) (hdg : decode cc pc = .ok (.getfield index, 3))
    (kk : W p l e R s m args below meth c H locs cells slots Q (F0 m (pc + 3) ls (val :: rest))) : W p l e R s m args below meth c H locs cells slots Q (F0 m pc ls (cR v x :: rest)) := by
  obtain ⟨hx, hb, hr, hml, hown, hts, hlk, hK⟩ := B
  obtain ⟨cell, q1, q2, q3, q4⟩ := cw_obj hw h ht
  obtain ⟨hS, hfc, kC, hkC, hkind⟩ := hK.1.1 t ht.1 ht.2
  obtain ⟨cf, kf, fi, fd, hi, hsl⟩ := hS f hf
  rw [cR_r h.1]
  refine W.getf hx hb hown (hts _ hlink) hi (u_facts hfc hkC (u_lays hts hin hf) hi).1 q1 (by rw [q3]; exact fun h => by cases h) (v := val) ?_ rfl rfl hdg kk
  rw [hsl, q4 f hf]
  show some (cw_fv v t f (c_pv σ x.toNat f)) = some val
  rw [← hz, hv]
theorem cw_tmo (hw : cw_W v s σ0 σ H locs cells slots) {a : Nat} (h : c_tg σ0 a ≠ 0 ∨ c_hp σ0 ≤ a) : cw_tm v σ0 (cw_mp v a) ∨ s.heap.size ≤ cw_mp v a := by
  obtain ⟨-, w1, -, -, -, -, -, -, -, w9⟩ := hw
  rcases h with h | h
  · exact Or.inl ⟨a, h, rfl⟩
  · right; rw [cw_mp_n (by omega)]; omega
theorem cw_put_W (hw : cw_W v s σ0 σ H locs cells slots) {t f : Nat} {a : Nat} {y : Int} (hta : c_tg σ a = t) (ht0 : t ≠ 0) (hy : inR y) {H' : Heap} {i : Nat} (hat : cw_at v (cs_p σ a f y) a H') (e2 : H'.size = H.size) (e3 : ∀ q : Nat, q ≠ cw_mp v a → H'[q]? = H[q]?) : cw_W v s σ0 (cs_p σ a f y) H' (locs ++ [⟨cw_mp v a, i⟩]) cells slots := by
  have hw0 := hw
  obtain ⟨⟨m1, m2, m3, m4⟩, w1, w2, w3, w4, w5, w6, w7⟩ := hw
  have hta0 : c_tg σ a ≠ 0 := by rw [hta]; exact ht0
  have ha0 := cw_tmo hw0 (w6 a hta0)
  refine ⟨⟨by rw [e2]; exact m1, fun b hb => ?_, fun b g => ?_, m4.1, m4.2.1, by rw [e2]; exact m4.2.2.1, m4.2.2.2⟩, w1, w2, w3, fun q hq h0 => ?_, fun z hz => ?_, w6, w7⟩
  · by_cases hba : b = a
    · subst hba; exact hat
    · have hb' : c_tg σ b ≠ 0 := hb
      have hm := m2 b hb'
      have hne : cw_mp v b ≠ cw_mp v a := fun q => hba (cw_inj (m4.2.2.2 b hb').2 (m4.2.2.2 a hta0).2 q)
      have hpv : ∀ g, c_pv (cs_p σ a f y) b g = c_pv σ b g := fun g => if_neg hba
      have h9 := hm.kept (e3 _ hne)
      unfold cw_at at h9 ⊢
      have htg : c_tg (cs_p σ a f y) b = c_tg σ b := rfl
      have hln : c_ln (cs_p σ a f y) b = c_ln σ b := rfl
      rw [htg, hln]
      simp only [hpv]
      exact h9
  · show inR (if b = a then (if g = f then y else c_pv σ b g) else c_pv σ b g)
    split
    · split
      · exact hy
      · exact m3 b g
    · exact m3 b g
  · rw [e3 q (fun hh => by rcases ha0 with z | z; exact h0 (hh ▸ z); omega)]
    exact w4 q hq h0
  · rcases List.mem_append.mp hz with h1 | h1
    · exact w5 z h1
    · rw [List.mem_singleton.mp h1]; exact ha0
theorem cw_apart (B : cw_B v own p s m args meth c cc nL ret) {t : Nat} (ht : 1 ≤ t ∧ t ≤ 13) (hin : ∀ w ∈ u_ws (cw_tab t).1 (cw_tab t).2.1 (cw_tab t).2.2, w ∈ cw_bw) (hty : ∀ k, k < (cw_tab t).2.2 → parseFieldDescriptor ((cw_tab t).2.1 k).2.2.1 = some (cw_ty t k)) (hnm : ∀ a, a < (cw_tab t).2.2 → ∀ b, b < (cw_tab t).2.2 → a ≠ b → ((cw_tab t).2.1 a).2.1 ≠ ((cw_tab t).2.1 b).2.1) : ∀ x y, x < (cw_tab t).2.2 → y < (cw_tab t).2.2 → x ≠ y → v.2.1 t x ≠ v.2.1 t y := by
  obtain ⟨hx, hb, hr, hml, hown, hts, hlk, hK⟩ := B
  obtain ⟨hS, hfc, kC, hkC, hkind⟩ := hK.1.1 t ht.1 ht.2
  intro x y hx hy hne
  obtain ⟨_, _, _, fa, hia, ea⟩ := hS x hx
  obtain ⟨_, _, _, fb, hib, eb⟩ := hS y hy
  rw [← ea, ← eb]
  refine u_apart (u_lays hts hin hx) (u_lays hts hin hy) hia hib ?_
  rw [(State.fieldFound?_type hia (hty x hx)).1, (State.fieldFound?_type hib (hty y hy)).1]
  exact hnm x hx y hy hne
/-- what a tag's table must be, decided by program -/
def cw_OKt (t : Nat) : Prop := (1 ≤ t ∧ t ≤ 13) ∧ (∀ w ∈ u_ws (cw_tab t).1 (cw_tab t).2.1 (cw_tab t).2.2, w ∈ cw_bw) ∧ (∀ k, k < (cw_tab t).2.2 → parseFieldDescriptor ((cw_tab t).2.1 k).2.2.1 = some (cw_ty t k)) ∧ ∀ a, a < (cw_tab t).2.2 → ∀ b, b < (cw_tab t).2.2 → a ≠ b → ((cw_tab t).2.1 a).2.1 ≠ ((cw_tab t).2.1 b).2.1
theorem cw_fv_n {v : cwE} {t f : Nat} {y : Int} (h : cw_isR t f = false) (hi : cw_ty t f = .int) : narrow (cw_ty t f) (cw_fv v t f y) = cw_fv v t f y ∧ fits (cw_ty t f) (cw_fv v t f y) = true := by
  unfold cw_fv
  rw [h, hi]
  exact ⟨rfl, rfl⟩
theorem cw_fv_r {v : cwE} {t f : Nat} {y : Int} (h : cw_isR t f = true) (hi : (∃ n, cw_ty t f = .object n) ∨ ∃ n, cw_ty t f = .array n) : narrow (cw_ty t f) (cw_fv v t f y) = cw_fv v t f y ∧ fits (cw_ty t f) (cw_fv v t f y) = true := by
  unfold cw_fv
  rw [if_pos h]
  unfold cR
  rcases hi with ⟨n, hn⟩ | ⟨n, hn⟩ <;> rw [hn] <;> split <;> exact ⟨rfl, rfl⟩
/-- the object's cells behind a store -/
theorem cw_put_at {t f a : Nat} (hap : ∀ x y, x < (cw_tab t).2.2 → y < (cw_tab t).2.2 → x ≠ y → v.2.1 t x ≠ v.2.1 t y) {y : Int} (hta : c_tg σ a = t) (ht : t < 20) (hf : f < (cw_tab t).2.2) {cell : Cell} {H' : Heap} (q2 : cell.cls = v.1 t) (q3 : cell.vm = .none) (q4 : ∀ k, k < (cw_tab t).2.2 → cell.slots[v.2.1 t k]? = some (cw_fv v t k (c_pv σ a k))) (e1 : H'[cw_mp v a]? = some (cell.setSlot (v.2.1 t f) (cw_fv v t f y))) : cw_at v (cs_p σ a f y) a H' := by
  unfold cw_at
  have htg : c_tg (cs_p σ a f y) a = t := hta
  rw [htg, if_pos ht]
  refine t_OB.to (V := updV (fun k => cw_fv v t k (c_pv σ a k)) f (cw_fv v t f y)) ⟨_, e1, q2, q3, t_set q4 hap hf _⟩ (fun j _ => ?_)
  show (if j = f then cw_fv v t f y else cw_fv v t j (c_pv σ a j)) = cw_fv v t j (if a = a then (if j = f then y else c_pv σ a j) else c_pv σ a j)
  rw [if_pos rfl]
  by_cases hj : j = f
  · rw [if_pos hj, if_pos hj, hj]
  · rw [if_neg hj, if_neg hj]
/-- putfield, a field that isn't final -/
theorem cw_put (B : cw_B v own p s m args meth c cc nL ret) (hw : cw_W v s σ0 σ H locs cells slots) {t f : Nat} {x y : Int} (h : 0 ≤ x ∧ c_tg σ x.toNat = t) (hT : cw_OKt t) (hf : f < (cw_tab t).2.2) (hfin : ((cw_tab t).2.1 f).2.2.2 = false) {index : Nat} (hlink : Cond.fieldLink own index ((cw_tab t).2.1 f).1 ((cw_tab t).2.1 f).2.1 ((cw_tab t).2.1 f).2.2.1 ∈ cw_bw) (hy : inR y) {σ1 : CS} (h1 : σ1 = cs_p σ x.toNat f y) {val : Value} (hv : cw_fv v t f y = val) (hn : narrow (cw_ty t f) (cw_fv v t f y) = cw_fv v t f y ∧ fits (cw_ty t f) (cw_fv v t f y) = true) (hdg : decode cc pc = .ok (.putfield index, 3))
    (kk : ∀ (H : Heap) (locs : List Loc), cw_W v s σ0 σ1 H locs cells slots → W p l e R s m args below meth c H locs cells slots Q (F0 m (pc + 3) ls rest)) : W p l e R s m args below meth c H locs cells slots Q (F0 m pc ls (val :: cR v x :: rest)) := by
  have hap := cw_apart B hT.1 hT.2.1 hT.2.2.1 hT.2.2.2
  obtain ⟨hx, hb, hr, hml, hown, hts, hlk, hK⟩ := B
  obtain ⟨cell, q1, q2, q3, q4⟩ := cw_obj hw h hT.1
  obtain ⟨hS, hfc, kC, hkC, hkind⟩ := hK.1.1 t hT.1.1 hT.1.2
  obtain ⟨cf, kf, fi, fd, hi, hsl⟩ := hS f hf
  have hlay := hts _ (hT.2.1 _ (u_in_lay hf))
  unfold u_lay at hlay
  rw [if_neg (by rw [hfin]; decide)] at hlay
  have hst := (u_facts hfc hkC (u_lays hts hT.2.1 hf) hi).1
  have h6 := u_store hfc hkC hkind hlay hi (hT.2.2.1 f hf) hn.1 hn.2
  rw [cR_r h.1, ← hv]
  refine W.putK hx hb (f := fd) ⟨hown, hts _ hlink, ⟨_, _, _, hi⟩, hst⟩ (by rw [q2]; exact h6) q1 q3 (by rw [hsl]; exact k2_hasslot (q4 f hf)) rfl rfl hdg fun H' e1 e2 e3 => ?_
  rw [hsl] at e1 ⊢
  subst h1
  exact kk H' _ (cw_put_W hw h.2 (by have := hT.1.1; omega) hy (cw_put_at hap h.2 (by have := hT.1.2; omega) hf q2 q3 q4 e1) e2 e3)
/-- putfield of a final field, in its class's constructor -/
theorem cw_putF (B : cw_B v own p s m args meth c cc nL ret) (hin : meth.name = "<init>") (hw : cw_W v s σ0 σ H locs cells slots) {t f : Nat} {x y : Int} (h : 0 ≤ x ∧ c_tg σ x.toNat = t) (hT : cw_OKt t) (hf : f < (cw_tab t).2.2) (hfin : ((cw_tab t).2.1 f).2.2.2 = true) (ho1 : ((cw_tab t).2.1 f).1 = own) (ho2 : (cw_tab t).1 = own) {index : Nat} (hlink : Cond.fieldLink own index ((cw_tab t).2.1 f).1 ((cw_tab t).2.1 f).2.1 ((cw_tab t).2.1 f).2.2.1 ∈ cw_bw) (hy : inR y) {σ1 : CS} (h1 : σ1 = cs_p σ x.toNat f y) {val : Value} (hv : cw_fv v t f y = val) (hn : narrow (cw_ty t f) (cw_fv v t f y) = cw_fv v t f y ∧ fits (cw_ty t f) (cw_fv v t f y) = true) (hdg : decode cc pc = .ok (.putfield index, 3))
    (kk : ∀ (H : Heap) (locs : List Loc), cw_W v s σ0 σ1 H locs cells slots → W p l e R s m args below meth c H locs cells slots Q (F0 m (pc + 3) ls rest)) : W p l e R s m args below meth c H locs cells slots Q (F0 m pc ls (val :: cR v x :: rest)) := by
  have hap := cw_apart B hT.1 hT.2.1 hT.2.2.1 hT.2.2.2
  obtain ⟨hx, hb, hr, hml, hown, hts, hlk, hK⟩ := B
  obtain ⟨cell, q1, q2, q3, q4⟩ := cw_obj hw h hT.1
  obtain ⟨hS, hfc, kC, hkC, hkind⟩ := hK.1.1 t hT.1.1 hT.1.2
  obtain ⟨cf, kf, fi, fd, hi, hsl⟩ := hS f hf
  have hst := (u_facts hfc hkC (u_lays hts hT.2.1 hf) hi).1
  have hcf : m.cls = cf := by
    have hlay := hts _ (hT.2.1 _ (u_in_lay hf))
    unfold u_lay at hlay
    rw [if_pos hfin, ho1, ho2] at hlay
    have hi2 := hi
    rw [ho1] at hi2
    exact laid_decl hown hlay hi2
  have h6 := u_fits hfc hkC hkind (u_lays hts hT.2.1 hf) hi (hT.2.2.1 f hf) hn.1 hn.2
  rw [cR_r h.1, ← hv]
  refine W.putFinK hx hb hown (hts _ hlink) hi hst hcf hin (by rw [q2]; exact h6) q1 q3 (by rw [hsl]; exact k2_hasslot (q4 f hf)) rfl rfl hdg fun H' e1 e2 e3 => ?_
  rw [hsl] at e1 ⊢
  subst h1
  exact kk H' _ (cw_put_W hw h.2 (by have := hT.1.1; omega) hy (cw_put_at hap h.2 (by have := hT.1.2; omega) hf q2 q3 q4 e1) e2 e3)
end CRC
