section CCA
variable {p : Program} {l : Launch} {e : Env} {R : Room} {s : State} {m : MethodId} {args : Array Value} {below : List Frame} {meth : Method} {c : Code} {H : Heap} {locs : List Loc} {cells slots : Nat} {Q : State → Prop} {cc : ByteArray} {pc : Nat} {ls : Array Slot} {rest : List Value}
variable {v : cwE} {σ0 σ σ1 : CS} {nL d : Nat} {ret : Option FieldType} {own : String} {kd : Nat} {rv : Option Value}
theorem cw_mono {Q' : State → Prop} {g : JFrame} (h : ∀ t, Q t → Q' t) (k : W p l e R s m args below meth c H locs cells slots Q g) : W p l e R s m args below meth c H locs cells slots Q' g := fun T hT X => by
  obtain ⟨t, a, b⟩ := k T hT X
  exact ⟨t, a, h t b⟩
theorem cw_zofMQ (hw : cw_W v s σ0 σ H locs cells slots) : ∀ t, MQ below (fun _ _ o t => o = .returned rv ∧ t.heap = H) args s cells slots (fun q => cw_tm v σ0 q ∨ s.heap.size ≤ q) t → cw_Z below v σ0 σ 0 rv args s t := by
  rintro t ⟨o, hr, he, ⟨ho, hh⟩, L, ⟨-, hW, hS⟩, hL⟩
  exact ⟨o, hr, he, cells, slots, L, Or.inl ⟨rfl, ho⟩, hW, hS, hw.2.2.1, hw.2.2.2.1, by rw [hh]; exact hw.1, by rw [hh]; exact hw.2.2.2.2.1, hL, hw.2.2.2.2.2.2.1⟩
theorem cw_reti (B : cw_B v own p s m args meth c cc nL (some .int)) {z r : Int} (hf : some (σ, (0 : Nat), z) = some (σ1, kd, r)) (hw : cw_W v s σ0 σ H locs cells slots) (hdg : decode cc pc = .ok (.ireturn, 1)) :
    W p l e R s m args below meth c H locs cells slots (cw_Z below v σ0 σ1 kd (some (.int (rI r))) args s) (F0 m pc ls [.int (rI z)]) := by
  obtain ⟨hx, hb, hr, hml, hown, hts, hlk, hK⟩ := B
  cases hf
  exact cw_mono (cw_zofMQ hw) (W.iret hx hb hr (fun t ht _ => ⟨rfl, ht⟩) hw.2.2.2.2.2.1 hdg hlk)
theorem cw_retz (B : cw_B v own p s m args meth c cc nL (some .boolean)) {z r : Int} (h01 : z = 0 ∨ z = 1) (hf : some (σ, (0 : Nat), z) = some (σ1, kd, r)) (hw : cw_W v s σ0 σ H locs cells slots) (hdg : decode cc pc = .ok (.ireturn, 1)) :
    W p l e R s m args below meth c H locs cells slots (cw_Z below v σ0 σ1 kd (some (.int (rI r))) args s) (F0 m pc ls [.int (rI z)]) := by
  obtain ⟨hx, hb, hr, hml, hown, hts, hlk, hK⟩ := B
  cases hf
  exact cw_mono (cw_zofMQ hw) (W.zret hx hb hr (by rcases h01 with rfl | rfl <;> rfl) (fun t ht _ => ⟨rfl, ht⟩) hw.2.2.2.2.2.1 hdg hlk)
theorem cw_reta {C : String} (B : cw_B v own p s m args meth c cc nL (some (.object C))) {z r : Int} (hf : some (σ, (0 : Nat), z) = some (σ1, kd, r)) (hw : cw_W v s σ0 σ H locs cells slots) (hdg : decode cc pc = .ok (.areturn, 1)) :
    W p l e R s m args below meth c H locs cells slots (cw_Z below v σ0 σ1 kd (some (cR v r)) args s) (F0 m pc ls [cR v z]) := by
  obtain ⟨hx, hb, hr, hml, hown, hts, hlk, hK⟩ := B
  cases hf
  exact cw_mono (cw_zofMQ hw) (W.aret hx hb hr (Or.inl ⟨_, rfl⟩) (cRef_R z) (fun t ht _ => ⟨rfl, ht⟩) hw.2.2.2.2.2.1 hdg hlk)
theorem cw_retv (B : cw_B v own p s m args meth c cc nL none) {r : Int} (hf : some (σ, (0 : Nat), (0 : Int)) = some (σ1, kd, r)) (hw : cw_W v s σ0 σ H locs cells slots) (hdg : decode cc pc = .ok (.return_, 1)) :
    W p l e R s m args below meth c H locs cells slots (cw_Z below v σ0 σ1 kd none args s) (F0 m pc ls []) := by
  obtain ⟨hx, hb, hr, hml, hown, hts, hlk, hK⟩ := B
  cases hf
  exact cw_mono (cw_zofMQ hw) (W.vret hx hb hr (fun t ht _ => ⟨rfl, ht⟩) hw.2.2.2.2.2.1 hdg hlk)
/-- the world behind a call -/
theorem cw_behind {T U : State} {B : Pt} {vm₁ : Vm} (hw : cw_W v s σ0 σ H locs cells slots) (hT : T.heap = H) (hPo : cw_Po v σ σ1 ⟨T.setVm vm₁, locs, cells, slots⟩ B) : cw_W v s σ0 σ1 B.U.heap B.locs B.cells B.slots := by
  obtain ⟨k, n, L, h1, h2, h3, h4, h5, h6, h7, h8, h9⟩ := hPo
  have hw0 := hw
  obtain ⟨hm, w1, w2, w3, w4, w5, w6, w7⟩ := hw
  have hTs : (T.setVm vm₁).heap = H := hT
  dsimp only [Pt.U, Pt.locs, Pt.cells, Pt.slots] at h3 h4 h5 h6 h7 h8 h9 ⊢
  rw [hTs] at h4 h5
  have hm1 := hm.1.1
  have hsz : s.heap.size ≤ H.size := by omega
  refine ⟨h3, w1, by rw [h8]; omega, by rw [h9]; omega, fun q hq h0 => ?_, fun z hz => ?_, fun q hq => ?_, w7⟩
  · have ht : ¬ cw_tm v σ q := by
      rintro ⟨a, ha, rfl⟩
      rcases cw_tmo hw0 (w6 a ha) with z | z
      · exact h0 z
      · omega
    rw [h4 q (by omega) ht]
    exact w4 q hq h0
  · rw [h7] at hz
    rcases List.mem_append.mp hz with h | h
    · exact w5 z h
    · rcases h5 z h with ⟨a, ha, e⟩ | q
      · rw [← e]; exact cw_tmo hw0 (w6 a ha)
      · right; omega
  · rcases h6 q hq with z | z
    · exact w6 q z
    · right; omega
theorem cw_words {y : MethodName} {bytes : ByteArray} {maxL : Nat} {ret0 : Option FieldType} (hts : ∀ w ∈ cw_bw, w.before args s = true) (h0 : GoodIn cw_bw [Cond.code y bytes maxL ret0, Cond.initialized y.cls]) :
    (∀ w ∈ (Cond.code y bytes maxL ret0 :: cw_bw), ∀ a' U, s.WarmedH U.vm → w.before a' U = true) ∧ ∀ a' U, s.WarmedH U.vm → (Cond.initialized y.cls).before a' U = true := by
  refine ⟨fun w hw a' U hW => ?_, fun a' U hW => word_at hW (h0 _ (by simp)).2 (hts _ (h0 _ (by simp)).1)⟩
  rcases List.mem_cons.mp hw with rfl | h
  · exact word_at hW (h0 _ (by simp)).2 (hts _ (h0 _ (by simp)).1)
  · exact word_at hW (good_of_word (List.all_eq_true.mp cw_bw_good w h)) (hts w h)
theorem cw_rmok (hw : cw_W v s σ0 σ H locs cells slots) : cells + (v.2.2.1 - c_hp σ) ≤ v.2.2.1 - c_hp σ0 ∧ slots + (v.2.2.2.1 - c_sl σ) ≤ v.2.2.2.1 - c_sl σ0 := by
  obtain ⟨⟨m1, m2, m3, m4, m5, -⟩, w1, w2, w3, -⟩ := hw
  omega
/-- what was there when the law began is as it was -/
theorem cw_old (hw : cw_W v s σ0 σ H locs cells slots) : ∀ a : Nat, a < s.heap.size → ¬ cw_A v a → H[a]? = s.heap[a]? := by
  intro a ha hA
  refine hw.2.2.2.2.1 a ha ?_
  rintro ⟨b, hb, rfl⟩
  exact hA (hw.2.2.2.2.2.2.2.1 b hb)
/-- a call of an instance method: it returns, or throws -/
theorem cw_cv (B : cw_B v own p s m args meth c cc nL ret) {t : Nat} {y : MethodName} {bytes : ByteArray} {maxL index n : Nat} {ret0 : Option FieldType} {As : List Value} {b : Int}
    (hM : cw_Met l v y bytes maxL ret0 d (cR v b :: As) σ σ1 kd rv) (hb0 : 0 ≤ b ∧ c_tg σ b.toNat = t) (ht : 1 ≤ t ∧ t ≤ 13) (h0 : GoodIn cw_bw [Cond.code y bytes maxL ret0, Cond.initialized y.cls]) (hli : Cond.methodLink own index y ∈ cw_bw) (hins : Cond.instanceMethod y ∈ cw_bw) (hsel : Cond.selects (cw_tab t).1 y y ∈ cw_bw)
    (hd : y.cls ≠ "java/lang/invoke/MethodHandle" ∧ y.cls ≠ "java/lang/invoke/VarHandle" ∧ (parseMethodDescriptor y.desc).map (fun d => d.parameters.length) = some n) (hmax : maxL ≤ 80)
    (hn : As.length = n) (hl : ls.size = nL) (hrest : (rest.map fun v => v.category).sum ≤ 8) (hdg : decode cc pc = .ok (.invokevirtual index, 3)) {st : List Value} (hst : st = As.reverse ++ cR v b :: rest) (hw : cw_W v s σ0 σ H locs cells slots)
    (kk : kd = 0 → ∀ (H : Heap) (locs : List Loc) (cells slots : Nat), cw_W v s σ0 σ1 H locs cells slots → W p l e (cw_rm v (d + 1) σ0) s m args below meth c H locs cells slots Q (F0 m (pc + 3) ls (rv.toList ++ rest)))
    (kx : kd ≠ 0 → ∀ (H : Heap) (locs : List Loc) (cells slots : Nat) (q : Addr) (ce : Cell), cw_W v s σ0 σ1 H locs cells slots → H[q]? = some ce → ce.vm = .none → s.vm.findClass (cw_ex kd) = some ce.cls → vx_W p l e (cw_rm v (d + 1) σ0) s m args below meth c H locs cells slots Q (F0 m pc ls rest) q) :
    W p l e (cw_rm v (d + 1) σ0) s m args below meth c H locs cells slots Q (F0 m pc ls st) := by
  obtain ⟨hx, hb, hr, hml, hown, hts, hlk, hK⟩ := B
  obtain ⟨cell, q1, q2, q3, q4⟩ := cw_obj hw hb0 ht
  obtain ⟨hw1, hw2⟩ := cw_words (y := y) hts h0
  have hrm := cw_rmok hw
  have hlen : ∀ sig, parseMethodDescriptor y.desc = some sig → As.length = sig.parameters.length := fun sig h => by
    have h2 := hd.2.2
    rw [h] at h2
    exact hn.trans (Option.some.inj h2).symm
  intro T hT X
  have hBk := cw_back (R := cw_rm v (d + 1) σ0) (p := p) (e := e) (below := below) (s := s) (sargs := args) (len := 3) (W9 := 8) hM (Nat.le_refl _) (by show 8 + (maxL + 11) + 100 * d ≤ 100 * (d + 1); omega) hw1 hw2
  rcases vx_callV X hx (C := (cw_tab t).1) (bytes := bytes) (maxL := maxL) (ret := ret0) hown (hts _ hli) (hts _ hins) (hts _ hsel) (hts _ (h0 _ (by simp)).1) ⟨hd.1, hd.2.1⟩ hBk (b := cw_mp v b.toNat) (cellB := cell) (by rw [hT]; exact q1) (by rw [q3]; rfl) (by rw [q2]; exact (hK.1.1 t ht.1 ht.2).2.1)
    (g := F0 m pc ls st) rfl (hl.trans hml.symm) (argsL := As) (rest := rest) hlen (by rw [← cR_r hb0.1]; exact hst) (lv_room hrest) (by rw [hb]; exact hdg)
    (fun vm₁ hW₁ => ⟨hrm.1, hrm.2, by rw [cR_r hb0.1], by show cw_M v σ T.heap; rw [hT]; exact hw.1, hK.at (cw_old hw) hT hW₁⟩) with ⟨w, vm₁, B, hW₁, X', ⟨hk0, rfl, hPo⟩, st1⟩ | ⟨q, vm₁, B, hW₁, X', ⟨hk0, ⟨ce, hce, hcv, hcl⟩, hPo⟩, st1⟩
  · obtain ⟨t2, a1, b1⟩ := kk hk0 _ _ _ _ (cw_behind (U := T) hw hT hPo) B.U rfl X'
    exact ⟨t2, st1 t2 a1, b1⟩
  · obtain ⟨t2, a1, b1⟩ := kx hk0 _ _ _ _ q ce (cw_behind (U := T) hw hT hPo) hce hcv (by rw [← hW₁.alike.findClass]; exact hcl) B.U rfl X'
    exact ⟨t2, st1.trans a1, b1⟩
/-- not caught here: it goes on to the caller -/
theorem cw_xout (B : cw_B v own p s m args meth c cc nL ret) (hnh : ∀ x ∈ c.exceptionTable.toList, False) (hkd : kd ≠ 0) (hw : cw_W v s σ0 σ H locs cells slots) {q : Addr} {ce : Cell} (hce : H[q]? = some ce) (hcv : ce.vm = .none) (hcl : s.vm.findClass (cw_ex kd) = some ce.cls) :
    vx_W p l e R s m args below meth c H locs cells slots (cw_Z below v σ0 σ kd rv args s) (F0 m pc ls rest) q := by
  obtain ⟨hx, hb, hr, hml, hown, hts, hlk, hK⟩ := B
  intro T hT X
  obtain ⟨st1, hrun, hend, hW, hsm⟩ := X.leaveThrown q (g := F0 m pc ls rest) rfl rfl rfl (fun x hx => (hnh x hx).elim) hlk
  have hh : (T.setFrames (.throwing q :: below)).heap = H := hT
  exact ⟨_, st1, .threw q, hrun, hend, cells, slots, locs, Or.inr ⟨hkd, q, ce, rfl, by rw [hh]; exact hce, hcv, hcl⟩, hW, hsm, hw.2.2.1, hw.2.2.2.1, by rw [hh]; exact hw.1, by rw [hh]; exact hw.2.2.2.2.1, hw.2.2.2.2.2.1, hw.2.2.2.2.2.2.1⟩
end CCA
