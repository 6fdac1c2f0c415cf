section CRK
variable {p : Program} {l : Launch} {e : Env} {R : Room} {s : State} {m : MethodId} {args : Array Value} {below : List Frame} {meth : Method} {c : Code} {H : Heap} {locs : List Loc} {cells slots : Nat} {Q : State → Prop} {cc : ByteArray} {pc : Nat} {ls : Array Slot} {rest : List Value}
variable {v : cwE} {σ0 σ σ1 : CS} {nL d : Nat} {ret : Option FieldType} {own : String} {kd : Nat} {rv : Option Value}
abbrev cw_MetW (l : Launch) (v : cwE) (y : MethodName) (bytes : ByteArray) (maxL : Nat) (ret : Option FieldType) (hh : List (Nat × Nat × Nat × Nat)) (d : Nat) (as : List Value) (σ σ' : CS) (kd : Nat) (rv : Option Value) : Prop :=
  MetFree l y (headSpec (Cond.codeWith y bytes maxL ret hh :: cw_bw) (cw_rm v d σ)) (cw_P v σ as) (fun _ _ _ _ _ => True) (cw_Qc v σ σ' kd rv)
theorem cw_wordsW {y : MethodName} {bytes : ByteArray} {maxL : Nat} {ret0 : Option FieldType} {hh : List (Nat × Nat × Nat × Nat)} (hts : ∀ w ∈ cw_bw, w.before args s = true) (h0 : GoodIn cw_bw [Cond.codeWith y bytes maxL ret0 hh, Cond.initialized y.cls]) :
    (∀ w ∈ (Cond.codeWith y bytes maxL ret0 hh :: cw_bw), ∀ a' U, s.WarmedH U.vm → w.before a' U = true) ∧ ∀ a' U, s.WarmedH U.vm → (Cond.initialized y.cls).before a' U = true := by
  refine ⟨fun w hw a' U hW => ?_, fun a' U hW => word_at hW (h0 _ (by simp)).2 (hts _ (h0 _ (by simp)).1)⟩
  rcases List.mem_cons.mp hw with rfl | h
  · exact word_at hW (h0 _ (by simp)).2 (hts _ (h0 _ (by simp)).1)
  · exact word_at hW (good_of_word (List.all_eq_true.mp cw_bw_good w h)) (hts w h)
theorem cw_backW {sargs : Array Value} {y : MethodName} {len W9 : Nat} {v : cwE} {σ σ' : CS} {kd : Nat} {rv : Option Value} {bytes : ByteArray} {hh : List (Nat × Nat × Nat × Nat)} {maxL : Nat} {ret : Option FieldType} {d : Nat} {as : List Value}
    (hM : cw_MetW l v y bytes maxL ret hh d as σ σ' kd rv) (hframes : d + 1 ≤ R.frames) (hlocals : W9 + (maxL + 11) + 100 * d ≤ R.locals)
    (hws : ∀ w ∈ (Cond.codeWith y bytes maxL ret hh :: cw_bw), ∀ a' U, s.WarmedH U.vm → w.before a' U = true) (hinit : ∀ a' U, s.WarmedH U.vm → (Cond.initialized y.cls).before a' U = true) :
    vx_Back l R p e below s sargs y len W9 (fun A a => A.cells + (v.2.2.1 - c_hp σ) ≤ R.cells ∧ A.slots + (v.2.2.2.1 - c_sl σ) ≤ R.slots ∧ cw_P v σ as a A.U)
      (fun A _ w B => kd = 0 ∧ w = rv ∧ cw_Po v σ σ' A B) (fun A _ q B => kd ≠ 0 ∧ (∃ ce : Cell, B.U.heap[q]? = some ce ∧ ce.vm = .none ∧ A.U.vm.findClass (cw_ex kd) = some ce.cls) ∧ cw_Po v σ σ' A B) :=
  cw_backG hM (fun _ _ _ hn h2 => by
    obtain ⟨m9, methY, cY, hn9, hmY, hcY, -, hlY, -⟩ := Cond.codeWith_spec h2
    cases Option.some.inj (hn9.symm.trans hn)
    exact ⟨methY, cY, hmY, hcY, hlY⟩) hframes hlocals hws hinit
theorem cw_ofWW {y : MethodName} {bytes : ByteArray} {hh : List (Nat × Nat × Nat × Nat)} {maxL : Nat} {ret : Option FieldType} {d : Nat} {as : List Value} {σ σ' : CS} (hy : plainName y.cls = true)
    (body : ∀ p e s m args below meth c s₁, BodyLoose p l y (headSpec (Cond.codeWith y bytes maxL ret hh :: cw_bw) (cw_rm v d σ)) bytes maxL ret e s m args below meth c s₁ → c.maxLocals = maxL → cw_P v σ as args s →
      W p l e (cw_rm v d σ) s m args below meth c s.heap [] 0 0 (cw_Z below v σ σ' kd rv args s) (entryFrame m args maxL)) : cw_MetW l v y bytes maxL ret hh d as σ σ' kd rv := by
  refine MetFree.of_bodyS (code := bytes) (maxLocals := maxL) (ret := ret) hy ?_ ?_
  · intro args s m h hn
    obtain ⟨m9, meth, c, hn9, h1, h2, h3, h4, -, h5, h6, -⟩ := Cond.codeWith_spec (atoms_spec (ws := Cond.codeWith y bytes maxL ret hh :: cw_bw) h _ List.mem_cons_self)
    cases Option.some.inj (hn9.symm.trans hn)
    exact ⟨meth, c, h1, h2, h3, h4, h5, h6⟩
  · intro p e s m args below meth c s₁ B hml hP _
    have hh0 : s₁.heap = s.heap := by rw [B.state]; rfl
    obtain ⟨t, a1, o, b1, b2, b3⟩ := body p e s m args below meth c s₁ B hml hP s₁ hh0 (Stand.of_body B)
    exact ⟨t, o, a1, b1, b2, b3⟩
/-- a call of an instance method: it returns, or throws -/
theorem cw_cvW (B : cw_B v own p s m args meth c cc nL ret) {t : Nat} {y : MethodName} {bytes : ByteArray} {hh : List (Nat × Nat × Nat × Nat)} {maxL index n : Nat} {ret0 : Option FieldType} {As : List Value} {b : Int}
    (hM : cw_MetW l v y bytes maxL ret0 hh d (cR v b :: As) σ σ1 kd rv) (hb0 : 0 ≤ b ∧ c_tg σ b.toNat = t) (ht : 1 ≤ t ∧ t ≤ 13) (h0 : GoodIn cw_bw [Cond.codeWith y bytes maxL ret0 hh, Cond.initialized y.cls]) (hli : Cond.methodLink own index y ∈ cw_bw) (hins : Cond.instanceMethod y ∈ cw_bw) (hsel : Cond.selects (cw_tab t).1 y y ∈ cw_bw)
    (hd : y.cls ≠ "java/lang/invoke/MethodHandle" ∧ y.cls ≠ "java/lang/invoke/VarHandle" ∧ (parseMethodDescriptor y.desc).map (fun d => d.parameters.length) = some n) (hmax : maxL ≤ 80)
    (hn : As.length = n) (hl : ls.size = nL) (hrest : (rest.map fun v => v.category).sum ≤ 8) (hdg : decode cc pc = .ok (.invokevirtual index, 3)) {st : List Value} (hst : st = As.reverse ++ cR v b :: rest) (hw : cw_W v s σ0 σ H locs cells slots)
    (kk : kd = 0 → ∀ (H : Heap) (locs : List Loc) (cells slots : Nat), cw_W v s σ0 σ1 H locs cells slots → W p l e (cw_rm v (d + 1) σ0) s m args below meth c H locs cells slots Q (F0 m (pc + 3) ls (rv.toList ++ rest)))
    (kx : kd ≠ 0 → ∀ (H : Heap) (locs : List Loc) (cells slots : Nat) (q : Addr) (ce : Cell), cw_W v s σ0 σ1 H locs cells slots → H[q]? = some ce → ce.vm = .none → s.vm.findClass (cw_ex kd) = some ce.cls → vx_W p l e (cw_rm v (d + 1) σ0) s m args below meth c H locs cells slots Q (F0 m pc ls rest) q) :
    W p l e (cw_rm v (d + 1) σ0) s m args below meth c H locs cells slots Q (F0 m pc ls st) := by
  obtain ⟨hx, hb, hr, hml, hown, hts, hlk, hK⟩ := B
  obtain ⟨cell, q1, q2, q3, q4⟩ := cw_obj hw hb0 ht
  obtain ⟨hw1, hw2⟩ := cw_wordsW (y := y) hts h0
  have hrm := cw_rmok hw
  have hlen : ∀ sig, parseMethodDescriptor y.desc = some sig → As.length = sig.parameters.length := fun sig h => by
    have h2 := hd.2.2
    rw [h] at h2
    exact hn.trans (Option.some.inj h2).symm
  intro T hT X
  have hBk := cw_backW (R := cw_rm v (d + 1) σ0) (p := p) (e := e) (below := below) (s := s) (sargs := args) (len := 3) (W9 := 8) hM (Nat.le_refl _) (by show 8 + (maxL + 11) + 100 * d ≤ 100 * (d + 1); omega) hw1 hw2
  rcases vx_callVX X hx (hh := hh) (C := (cw_tab t).1) (bytes := bytes) (maxL := maxL) (ret := ret0) hown (hts _ hli) (hts _ hins) (hts _ hsel) (hts _ (h0 _ (by simp)).1) ⟨hd.1, hd.2.1⟩ hBk (b := cw_mp v b.toNat) (cellB := cell) (by rw [hT]; exact q1) (by rw [q3]; rfl) (by rw [q2]; exact (hK.1.1 t ht.1 ht.2).2.1)
    (g := F0 m pc ls st) rfl (hl.trans hml.symm) (argsL := As) (rest := rest) hlen (by rw [← cR_r hb0.1]; exact hst) (lv_room hrest) (by rw [hb]; exact hdg)
    (fun vm₁ hW₁ => ⟨hrm.1, hrm.2, by rw [cR_r hb0.1], by show cw_M v σ T.heap; rw [hT]; exact hw.1, hK.at (cw_old hw) hT hW₁⟩) with ⟨w, vm₁, B, hW₁, X', ⟨hk0, rfl, hPo⟩, st1⟩ | ⟨q, vm₁, B, hW₁, X', ⟨hk0, ⟨ce, hce, hcv, hcl⟩, hPo⟩, st1⟩
  · obtain ⟨t2, a1, b1⟩ := kk hk0 _ _ _ _ (cw_behind (U := T) hw hT hPo) B.U rfl X'
    exact ⟨t2, st1 t2 a1, b1⟩
  · obtain ⟨t2, a1, b1⟩ := kx hk0 _ _ _ _ q ce (cw_behind (U := T) hw hT hPo) hce hcv (by rw [← hW₁.alike.findClass]; exact hcl) B.U rfl X'
    exact ⟨t2, st1.trans a1, b1⟩
end CRK
