section LWD
/-! the wrappers: a call in a try, its answer in a row of one long -/
def lw_oc (cL : ClassId) (y : Int64) : Cell := arrV cL 1 (fun _ => .long y)
theorem lw_oc_set (cL : ClassId) (y x : Int64) : (lw_oc cL y).setSlot (0 : Int32).toNatClampNeg (.long x) = lw_oc cL x := by
  show (lw_oc cL y).setSlot 0 (.long x) = lw_oc cL x
  unfold lw_oc
  rw [arrV_store]
  unfold arrV
  congr 2
  funext i
  have : (i : Nat) = 0 := by omega
  simp [updV, this]
theorem cw_M.kept {v : cwE} {σ : CS} {H H' : Heap} (h : cw_M v σ H) (hz : H'.size = H.size) (hq : ∀ a, c_tg σ a ≠ 0 → H'[cw_mp v a]? = H[cw_mp v a]?) : cw_M v σ H' :=
  ⟨by rw [hz]; exact h.1, fun a ha => (h.2.1 a ha).kept (hq a ha), h.2.2.1, h.2.2.2.1, h.2.2.2.2.1, by rw [hz]; exact h.2.2.2.2.2.1, h.2.2.2.2.2.2⟩
/-- what bears a tag behind a call -/
theorem lw_tmn {v : cwE} {σ σ1 : CS} {H : Heap} (hM : cw_M v σ H) (ht : ∀ q : Nat, c_tg σ1 q ≠ 0 → c_tg σ q ≠ 0 ∨ c_hp σ ≤ q) {q : Nat} (h : cw_tm v σ1 q) : cw_tm v σ q ∨ H.size ≤ q := by
  obtain ⟨a, ha, rfl⟩ := h
  rcases ht a ha with h | h
  · exact Or.inl ⟨a, h, rfl⟩
  · right
    have h1 := hM.1
    rw [cw_mp_n (by omega)]
    omega
def lw_X (v : cwE) (σ σ' : CS) (o : Nat) (cL : ClassId) (y' : Int64) : Heap → Heap → Nat → Nat → List Loc → Prop := fun H H' k n L =>
  c_hp σ' = c_hp σ + k ∧ c_sl σ' = c_sl σ + n ∧ cw_M v σ' H' ∧ (∀ q : Nat, q < H.size → ¬ cw_tm v σ q → q ≠ o → H'[q]? = H[q]?) ∧ (∀ z ∈ L, cw_tm v σ z.base ∨ H.size ≤ z.base ∨ z.base = o) ∧ (∀ q : Nat, c_tg σ' q ≠ 0 → c_tg σ q ≠ 0 ∨ c_hp σ ≤ q) ∧ H'[o]? = some (lw_oc cL y')
def lw_Pw (v : cwE) (σ : CS) (as : List Value) (o : Nat) (cL : ClassId) (y : Int64) : Array Value → State → Prop := va_Pc as (fun U => cw_M v σ U.heap ∧ cw_K v U ∧ U.heap[o]? = some (lw_oc cL y) ∧ ArrOfT U cL .long)
abbrev lw_Met (l : Launch) (v : cwE) (yw : MethodName) (bw : ByteArray) (maxL : Nat) (hh : List (Nat × Nat × Nat × Nat)) (d : Nat) (as : List Value) (σ σ' : CS) (o : Nat) (cL : ClassId) (y y' : Int64) (k : Int32) : Prop :=
  MetFree l yw (headSpec (Cond.codeWith yw bw maxL (some .int) hh :: lw_gw) (cw_rm v (d + 1) σ)) (lw_Pw v σ as o cL y) (fun _ _ _ _ _ => True) (lw_Q0 (some (.int k)) (lw_X v σ σ' o cL y'))
theorem lw_blind {v : cwE} {σ : CS} {as : List Value} {o : Nat} {cL : ClassId} {y : Int64} : FrameBlind (lw_Pw v σ as o cL y) := fun a U g mk q => ⟨q.1, q.2.1, ⟨cw_K0.moved (u := U) (U := U.calling g mk a) (Vm.Alike.refl U.vm) q.2.2.1.1, cw_KH.moved (u := U) (U := U.calling g mk a) (Vm.Alike.refl U.vm) q.2.2.1.2.1, q.2.2.1.2.2.same rfl⟩, q.2.2.2.1, arrOfT_moved (E := U.calling g mk a) (Vm.Alike.refl U.vm) q.2.2.2.2⟩
def lw_Zw (below : List Frame) (v : cwE) (σ σ' : CS) (o : Nat) (cL : ClassId) (y' : Int64) (k : Int32) (a : Array Value) (s : State) : State → Prop := fun t => ∃ o', t.status = .running ∧ Ended t below o' ∧ lw_Q0 (some (.int k)) (lw_X v σ σ' o cL y') a s o' t
theorem lw_ofW {l : Launch} {v : cwE} {y : MethodName} {bytes : ByteArray} {hh : List (Nat × Nat × Nat × Nat)} {maxL : Nat} {d : Nat} {as : List Value} {σ σ' : CS} {o : Nat} {cL : ClassId} {y0 y' : Int64} {k : Int32} (hy : plainName y.cls = true)
    (body : ∀ p e s m args below meth c s₁, BodyLoose p l y (headSpec (Cond.codeWith y bytes maxL (some .int) hh :: lw_gw) (cw_rm v (d + 1) σ)) bytes maxL (some .int) e s m args below meth c s₁ → c.maxLocals = maxL → lw_Pw v σ as o cL y0 args s →
      W p l e (cw_rm v (d + 1) σ) s m args below meth c s.heap [] 0 0 (lw_Zw below v σ σ' o cL y' k args s) (entryFrame m args maxL)) : lw_Met l v y bytes maxL hh d as σ σ' o cL y0 y' k := by
  refine MetFree.of_bodyS (code := bytes) (maxLocals := maxL) (ret := some .int) hy ?_ ?_
  · intro args s m h hn
    obtain ⟨m9, meth, c, hn9, h1, h2, h3, h4, -, h5, h6, -⟩ := Cond.codeWith_spec (atoms_spec (ws := Cond.codeWith y bytes maxL (some .int) hh :: lw_gw) h _ List.mem_cons_self)
    cases Option.some.inj (hn9.symm.trans hn)
    exact ⟨meth, c, h1, h2, h3, h4, h5, h6⟩
  · intro p e s m args below meth c s₁ B hml hP _
    have hh0 : s₁.heap = s.heap := by rw [B.state]; rfl
    obtain ⟨t, a1, o, b1, b2, b3⟩ := body p e s m args below meth c s₁ B hml hP s₁ hh0 (Stand.of_body B)
    exact ⟨t, o, a1, b1, b2, b3⟩
end LWD
section LWD2
variable {p : Program} {l : Launch} {e : Env} {s : State} {m : MethodId} {args : Array Value} {below : List Frame} {meth : Method} {c : Code} {H : Heap} {locs : List Loc} {cells slots : Nat} {Q : State → Prop} {cc : ByteArray} {pc : Nat} {ls : Array Slot}
variable {v : cwE} {σ σ1 : CS} {nL d : Nat} {own : String} {kd o : Nat} {cL : ClassId} {y y' : Int64} {k : Int32}
theorem lw_zofMQ {H' : Heap} (hM0 : cw_M v σ s.heap) (hw : cw_W v s σ σ1 H locs cells slots) (ht : ¬ cw_tm v σ o) (hos : o < s.heap.size) (hz : H'.size = H.size) (hq : ∀ q : Nat, q ≠ o → H'[q]? = H[q]?) (ho : H'[o]? = some (lw_oc cL y')) :
    ∀ t, MQ below (fun _ _ o' t => o' = .returned (some (.int k)) ∧ t.heap = H') args s cells slots (fun q => cw_tm v σ q ∨ s.heap.size ≤ q ∨ q = o) t → lw_Zw below v σ σ1 o cL y' k args s t := by
  rintro t ⟨o', hr, he, ⟨ho', hh⟩, L, ⟨-, hW, hS⟩, hL⟩
  refine ⟨o', hr, he, ho', cells, slots, L, hW, hS, hw.2.2.1, hw.2.2.2.1, ?_, fun q h1 h2 h3 => ?_, hL, hw.2.2.2.2.2.2.1, by rw [hh]; exact ho⟩
  · rw [hh]
    refine hw.1.kept hz (fun a ha => hq _ ?_)
    intro h
    rcases lw_tmn hM0 hw.2.2.2.2.2.2.1 ⟨a, ha, rfl⟩ with g | g
    · rw [h] at g; exact ht g
    · rw [h] at g; omega
  · rw [hh, hq q h3]
    exact hw.2.2.2.2.1 q h1 h2
theorem lw_core (B : cw_B v own p s m args meth c cc nL (some .int)) {lo hi hpc h1 ix tgt index n : Nat} {yc : MethodName} {bc : ByteArray} {mc : Nat} {As st : List Value} {b r off : Int}
    (hM : cw_Met l v yc bc mc (some .int) d (cR v b :: As) σ σ1 kd (some (.int (rI r)))) (hb0 : 0 ≤ b ∧ c_tg σ b.toNat = 12)
    (hco : (Cond.code yc bc mc (some .int)).before args s = true) (hini : (Cond.initialized yc.cls).before args s = true) (hli : (Cond.methodLink own index yc).before args s = true) (hins : (Cond.instanceMethod yc).before args s = true) (hsel : (Cond.selects RX11 yc yc).before args s = true)
    (hd : yc.cls ≠ "java/lang/invoke/MethodHandle" ∧ yc.cls ≠ "java/lang/invoke/VarHandle" ∧ (parseMethodDescriptor yc.desc).map (fun d => d.parameters.length) = some n) (hmax : mc ≤ 80) (hn : As.length = n) (hl : ls.size = nL)
    (htab : c.exceptionTable.toList = tableOf [(lo, hi, hpc, ix)]) (hin : (decide (lo ≤ pc) && decide (pc < hi) && decide (ix ≠ 0)) = true) (hlx : kd ≠ 0 → (Cond.classLink own ix (cw_ex kd)).before args s = true)
    (hM0 : cw_M v σ s.heap) (ho : s.heap[o]? = some (lw_oc cL y)) (hto : ¬ cw_tm v σ o) (hcL : ArrOfT s cL .long)
    (hst1 : ∀ (H : Heap) (locs : List Loc) (cells slots : Nat) (Q : State → Prop) (q : Addr), (∀ ls, W p l e (cw_rm v (d + 1) σ) s m args below meth c H locs cells slots Q (F0 m h1 ls [])) → W p l e (cw_rm v (d + 1) σ) s m args below meth c H locs cells slots Q (F0 m hpc ls [.ref q]))
    (d0 : decode cc pc = .ok (.invokevirtual index, 3)) (d3 : decode cc (pc + 3) = .ok (.i2l, 1)) (d4 : decode cc (pc + 3 + 1) = .ok (.lastore, 1)) (d5 : decode cc (pc + 3 + 1 + 1) = .ok (.goto off, 3)) (ht : ((pc + 3 + 1 + 1 : Nat) : Int) + off = (tgt : Int))
    (d6 : decode cc tgt = .ok (.iconst 0, 1)) (d7 : decode cc (tgt + 1) = .ok (.ireturn, 1)) (d8 : decode cc h1 = .ok (.iconst 1, 1)) (d9 : decode cc (h1 + 1) = .ok (.ireturn, 1)) (hst : st = As.reverse ++ cR v b :: [.int 0, .ref o]) :
    W p l e (cw_rm v (d + 1) σ) s m args below meth c s.heap [] 0 0 (lw_Zw below v σ σ1 o cL (if kd = 0 then (rI r).toInt64 else y) (if kd = 0 then 0 else 1) args s) (F0 m pc ls st) := by
  have hos : o < s.heap.size := (Array.getElem?_eq_some_iff.mp ho).1
  have hx := B.1
  have hb := B.2.1
  have hr := B.2.2.1
  have hlk : meth.locks = false := B.2.2.2.2.2.2.1
  have hw0 := cw_W0 (s := s) hM0
  refine lw_cv (rest := [.int 0, .ref o]) (R := cw_rm v (d + 1) σ) (t := 12) (n := n) B hM hb0 (by decide) hco hini hli hins hsel hd hmax ⟨Nat.le_refl _, Nat.le_refl _, Nat.le_refl _, Nat.le_refl _⟩ hn hl (Nat.le_of_ble_eq_true rfl) d0 hst hw0 (fun hk T B1 hT hPo hw1 => ?_) (fun hk H locs cells slots q ce hw1 hce hcv hcl => ?_)
  · have ho1 : B1.U.heap[o]? = some (lw_oc cL y) := by rw [hw1.2.2.2.2.1 o hos hto]; exact ho
    rw [if_pos hk, if_pos hk]
    refine lv_i2l hx hb d3 rfl ?_
    refine W.last hx hb ho1 (hcL 1 _) (fun q => by cases q) (by unfold lw_oc; rw [arrV_size]; decide) rfl rfl d4 (fun H' e1 e2 e3 => ?_)
    refine lv_goto hx hb d5 ht ?_
    refine lv_iconst (v := 0) hx hb d6 (by decide) ?_
    rw [lw_oc_set] at e1
    refine cw_mono (lw_zofMQ hM0 hw1 hto hos e2 e3 e1) (W.iret hx hb hr (fun t ht _ => ⟨rfl, ht⟩) (fun z hz => ?_) d7 hlk)
    rcases List.mem_append.mp hz with h | h
    · rcases hw1.2.2.2.2.2.1 z h with g | g
      · exact Or.inl g
      · exact Or.inr (Or.inl g)
    · rw [List.mem_singleton] at h
      rw [h]; exact Or.inr (Or.inr rfl)
  · rw [if_neg hk, if_neg hk]
    refine lw_catch B htab hin (hlx hk) hce hcv hcl ?_
    refine hst1 _ _ _ _ _ q (fun ls => ?_)
    refine lv_iconst (v := 1) hx hb d8 (by decide) ?_
    refine cw_mono (lw_zofMQ (H' := H) hM0 hw1 hto hos rfl (fun _ _ => rfl) (by rw [hw1.2.2.2.2.1 o hos hto]; exact ho)) (W.iret hx hb hr (fun t ht _ => ⟨rfl, ht⟩) (fun z h => ?_) d9 hlk)
    rcases hw1.2.2.2.2.2.1 z h with g | g
    · exact Or.inl g
    · exact Or.inr (Or.inl g)
end LWD2
