section LWB
variable {l : Launch} {R : Room} {p : Program} {e : Env} {below : List Frame} {s : State} {sargs : Array Value} {y : MethodName} {len W9 : Nat}
def lw_Q0 (rv : Option Value) (X : Heap → Heap → Nat → Nat → List Loc → Prop) : Array Value → State → Outcome → State → Prop := fun _ st o t =>
  o = .returned rv ∧ ∃ (k n : Nat) (L : List Loc), st.WarmedH t.vm ∧ st.sameButNew ({ t with vm := st.vm } : State) L k n ∧ X st.heap t.heap k n L
/-- the payer, for a contract that always returns -/
theorem lw_back {ws : List Cond} {rm : Room} {Pc : Array Value → State → Prop} {rv : Option Value} {X : Heap → Heap → Nat → Nat → List Loc → Prop} {maxL : Nat}
    (hM : MetFree l y (headSpec ws rm) Pc (fun _ _ _ _ _ => True) (lw_Q0 rv X)) (hblind : FrameBlind Pc) (hdx : ∀ (a' : Array Value) (U : State) (mk : MethodId), U.methodNamed? y = some mk → (∀ w ∈ ws, w.before a' U = true) → ∃ (methY : Method) (cY : Code), U.vm.method? mk = some methY ∧ methY.code = some cY ∧ cY.maxLocals = maxL) (hframes : rm.frames + 1 ≤ R.frames) (hlocals : W9 + (maxL + 11) + rm.locals ≤ R.locals)
    (hws : ∀ w ∈ ws, ∀ a' U, s.WarmedH U.vm → w.before a' U = true) (hinit : ∀ a' U, s.WarmedH U.vm → (Cond.initialized y.cls).before a' U = true) :
    Back l R p e below s sargs y len W9 (fun A a => A.cells + rm.cells ≤ R.cells ∧ A.slots + rm.slots ≤ R.slots ∧ Pc a A.U)
      (fun A _ w B => w = rv ∧ ∃ (k n : Nat) (L : List Loc), X A.U.heap B.U.heap k n L ∧ B.locs = A.locs ++ L ∧ B.cells = A.cells + k ∧ B.slots = A.slots + n) := by
  intro m meth c A g ig mk a X0 hg hsize hdg hW hn hp
  have h1 : (headSpec ws rm).pre.before a A.U = true := atoms_intro fun w hw => hws w hw _ _ X0.warmed
  have h2 := hdx a A.U mk hn (fun w hw => hws w hw _ _ X0.warmed)
  have h3 : (Cond.initialized y.cls).before a A.U = true := hinit _ _ X0.warmed
  have hPc : Pc a (A.U.calling g mk a) := hblind _ _ _ _ hp.2.2
  obtain ⟨U, Ls, c0, s0⟩ := A
  dsimp only [Pt.U, Pt.locs, Pt.cells, Pt.slots] at h1 h2 h3 X0 hn hPc hp ⊢
  obtain ⟨methY, cY, hmY, hcY, hlY⟩ := h2
  obtain ⟨kY, hkY, -⟩ := className_of_methodNamed hn
  have hinitY : kY.init = .initialized := Cond.initialized_spec (findClass_of_methodNamed hn) hkY h3
  have h : At U g.method c below := by rw [hg]; exact X0.here
  have happ : (headSpec ws rm).appliesLoose y e.platform (U.calling g mk a) = true :=
    Spec.appliesLoose_calling (g := g) h hdg hn hkY hinitY
      (X0.room_calling (g := g) (R' := rm) hsize hmY hcY hframes (by rw [hlY]; omega) hp.1 hp.2.1) h1
  obtain ⟨mid, hmid⟩ := h.above
  have hfr : (U.setTop g).frames = (.java g :: mid) ++ below := by rw [State.frames_setTop' g h.top, hmid]; rfl
  obtain ⟨o, s₂, hsteps, -, hend, hq⟩ := Steps.callFree hM p X0.admits X0.cas X0.clock (acts := []) hfr happ hPc trivial
  have hq' : lw_Q0 rv X a (U.calling g mk a) o s₂ := hq
  rw [State.frames_setTop' g h.top] at hend
  obtain ⟨g₀, hg0⟩ := Option.isSome_iff_exists.mp h.top
  obtain ⟨r, hr⟩ := State.topJava?_eq_some.mp hg0
  have hr' : (({ U with heap := s₂.heap, slotsUsed := s₂.slotsUsed } : State).setVm s₂.vm).frames = .java g₀ :: r := hr
  obtain ⟨hout, k, n, L, hW₂, hsm, hX⟩ := hq'
  obtain ⟨e2, q2, q3, q4, q5, q6⟩ := id hsm
  have e3 : s₂ = ({ (U.calling g mk a).setFrames s₂.frames with heap := s₂.heap, slotsUsed := s₂.slotsUsed } : State).setVm s₂.vm := by
    have : s₂ = ({ s₂ with vm := (U.calling g mk a).vm } : State).setVm s₂.vm := rfl
    rw [e2] at this
    exact this
  have hW' : U.WarmedH s₂.vm := hW₂
  have hsame : U.sameButNew ({ U with heap := s₂.heap, slotsUsed := s₂.slotsUsed } : State) L k n := by
    refine ⟨?_, q2, q3, q4, q5, q6⟩
    obtain ⟨t, ht, -⟩ := State.frames_cons hr
    show ({ U with heap := s₂.heap, slotsUsed := s₂.slotsUsed } : State) = { U.setFrames U.frames with heap := s₂.heap, slotsUsed := s₂.slotsUsed }
    rw [State.setFrames_self ht]
  have hStand : Stand p l e R s m sargs below meth c (({ U with heap := s₂.heap, slotsUsed := s₂.slotsUsed } : State).setVm s₂.vm) (Ls ++ L) (c0 + k) (s0 + n) :=
    ⟨X0.admits, X0.cas, X0.clock, X0.frames, X0.room, X0.hears, X0.method, X0.code, (X0.here.setHeapUsed s₂.heap s₂.slotsUsed).setVm hW'.alike, X0.tail, State.WarmedH.trans X0.warmed hW', X0.limits, X0.bytes, X0.same.trans (hsame.setVm s.vm)⟩
  subst hout
  obtain ⟨c₂, i₂, len₂, hc₂, hd₂, hf₂⟩ := hend
  have hcc : c₂ = c := by
    have h1 : s₂.code? g.method = U.code? g.method := by
      rw [State.code?_eq, State.code?_eq, hW'.alike.method?]
    exact Option.some.inj (hc₂.symm.trans (h1.trans h.code))
  subst hcc
  have hlen : len₂ = len := by rw [hdg] at hd₂; cases hd₂; rfl
  subst hlen
  have hs₂ : s₂ = (({ U with heap := s₂.heap, slotsUsed := s₂.slotsUsed } : State).setVm s₂.vm).setTop { g with pc := g.pc + len₂, stack := rv.toList ++ g.stack } := by
    refine e3.trans ?_
    rw [hf₂, State.calling_eq h.top, State.setFrames_setFrames, State.setTop_of_frames _ hr', hr]
    rfl
  refine ⟨rv, ⟨(({ U with heap := s₂.heap, slotsUsed := s₂.slotsUsed } : State).setVm s₂.vm), Ls ++ L, c0 + k, s0 + n⟩, hStand, ⟨rfl, k, n, L, hX, rfl, rfl, rfl⟩, ?_⟩
  show Steps p.tables e below _ ((({ U with heap := s₂.heap, slotsUsed := s₂.slotsUsed } : State).setVm s₂.vm).setTop { g with pc := g.pc + len₂, stack := rv.toList ++ g.stack })
  rw [← hs₂]
  exact hsteps
end LWB
section LWC
variable {p : Program} {l : Launch} {e : Env} {R : Room} {s : State} {m : MethodId} {args : Array Value} {below : List Frame} {meth : Method} {c : Code} {H : Heap} {locs : List Loc} {cells slots : Nat} {Q : State → Prop} {cc : ByteArray} {pc : Nat} {ls : Array Slot} {rest : List Value}
variable {v : cwE} {σ0 σ σ1 : CS} {nL d : Nat} {ret : Option FieldType} {own : String} {kd : Nat} {rv : Option Value}
/-- a call of an instance method, from a frame of any room -/
theorem lw_cv (B : cw_B v own p s m args meth c cc nL ret) {t : Nat} {y : MethodName} {bytes : ByteArray} {maxL index n : Nat} {ret0 : Option FieldType} {As : List Value} {b : Int}
    (hM : cw_Met l v y bytes maxL ret0 d (cR v b :: As) σ σ1 kd rv) (hb0 : 0 ≤ b ∧ c_tg σ b.toNat = t) (ht : 1 ≤ t ∧ t ≤ 13) (hco : (Cond.code y bytes maxL ret0).before args s = true) (hini : (Cond.initialized y.cls).before args s = true) (hli : (Cond.methodLink own index y).before args s = true) (hins : (Cond.instanceMethod y).before args s = true) (hsel : (Cond.selects (cw_tab t).1 y y).before args s = true)
    (hd : y.cls ≠ "java/lang/invoke/MethodHandle" ∧ y.cls ≠ "java/lang/invoke/VarHandle" ∧ (parseMethodDescriptor y.desc).map (fun d => d.parameters.length) = some n) (hmax : maxL ≤ 80) (hR : d + 1 ≤ R.frames ∧ 100 * (d + 1) ≤ R.locals ∧ v.2.2.1 - c_hp σ0 ≤ R.cells ∧ v.2.2.2.1 - c_sl σ0 ≤ R.slots)
    (hn : As.length = n) (hl : ls.size = nL) (hrest : (rest.map fun v => v.category).sum ≤ 8) (hdg : decode cc pc = .ok (.invokevirtual index, 3)) {st : List Value} (hst : st = As.reverse ++ cR v b :: rest) (hw : cw_W v s σ0 σ H locs cells slots)
    (kk : kd = 0 → ∀ (T : State) (B : Pt), T.heap = H → cw_Po v σ σ1 ⟨T, locs, cells, slots⟩ B → cw_W v s σ0 σ1 B.U.heap B.locs B.cells B.slots → W p l e R s m args below meth c B.U.heap B.locs B.cells B.slots Q (F0 m (pc + 3) ls (rv.toList ++ rest)))
    (kx : kd ≠ 0 → ∀ (H : Heap) (locs : List Loc) (cells slots : Nat) (q : Addr) (ce : Cell), cw_W v s σ0 σ1 H locs cells slots → H[q]? = some ce → ce.vm = .none → s.vm.findClass (cw_ex kd) = some ce.cls → vx_W p l e R s m args below meth c H locs cells slots Q (F0 m pc ls rest) q) :
    W p l e R s m args below meth c H locs cells slots Q (F0 m pc ls st) := by
  obtain ⟨hx, hb, hr, hml, hown, hts, hlk, hK⟩ := B
  obtain ⟨cell, q1, q2, q3, q4⟩ := cw_obj hw hb0 ht
  have hw1 : ∀ w ∈ (Cond.code y bytes maxL ret0 :: cw_bw), ∀ a' U, s.WarmedH U.vm → w.before a' U = true := fun w hw a' U hW => by
    rcases List.mem_cons.mp hw with rfl | h
    · exact word_at hW (good_of_word rfl) hco
    · exact word_at hW (good_of_word (List.all_eq_true.mp cw_bw_good w h)) (hts w h)
  have hw2 : ∀ a' U, s.WarmedH U.vm → (Cond.initialized y.cls).before a' U = true := fun a' U hW => word_at hW (good_of_word rfl) hini
  have hrm := cw_rmok hw
  have hlen : ∀ sig, parseMethodDescriptor y.desc = some sig → As.length = sig.parameters.length := fun sig h => by
    have h2 := hd.2.2
    rw [h] at h2
    exact hn.trans (Option.some.inj h2).symm
  intro T hT X
  have hBk := cw_back (R := R) (p := p) (e := e) (below := below) (s := s) (sargs := args) (len := 3) (W9 := 8) hM hR.1 (by have := hR.2.1; omega) hw1 hw2
  rcases vx_callV X hx (C := (cw_tab t).1) (bytes := bytes) (maxL := maxL) (ret := ret0) hown hli hins hsel hco ⟨hd.1, hd.2.1⟩ hBk (b := cw_mp v b.toNat) (cellB := cell) (by rw [hT]; exact q1) (by rw [q3]; rfl) (by rw [q2]; exact (hK.1.1 t ht.1 ht.2).2.1)
    (g := F0 m pc ls st) rfl (hl.trans hml.symm) (argsL := As) (rest := rest) hlen (by rw [← cR_r hb0.1]; exact hst) (lv_room hrest) (by rw [hb]; exact hdg)
    (fun vm₁ hW₁ => ⟨by show cells + _ ≤ _; omega, by show slots + _ ≤ _; omega, by rw [cR_r hb0.1], by show cw_M v σ T.heap; rw [hT]; exact hw.1, hK.at (cw_old hw) hT hW₁⟩) with ⟨w, vm₁, B, hW₁, X', ⟨hk0, rfl, hPo⟩, st1⟩ | ⟨q, vm₁, B, hW₁, X', ⟨hk0, ⟨ce, hce, hcv, hcl⟩, hPo⟩, st1⟩
  · obtain ⟨t2, a1, b1⟩ := kk hk0 (T.setVm vm₁) B hT hPo (cw_behind (U := T) hw hT hPo) B.U rfl X'
    exact ⟨t2, st1 t2 a1, b1⟩
  · obtain ⟨t2, a1, b1⟩ := kx hk0 _ _ _ _ q ce (cw_behind (U := T) hw hT hPo) hce hcv (by rw [← hW₁.alike.findClass]; exact hcl) B.U rfl X'
    exact ⟨t2, st1.trans a1, b1⟩
/-- the one row of the method's table takes it -/
theorem lw_catch (B : cw_B v own p s m args meth c cc nL ret) {lo hi hpc ix : Nat} (htab : c.exceptionTable.toList = tableOf [(lo, hi, hpc, ix)]) (hin : (decide (lo ≤ pc) && decide (pc < hi) && decide (ix ≠ 0)) = true) (hli : (Cond.classLink own ix (cw_ex kd)).before args s = true) {q : Addr} {ce : Cell} (hce : H[q]? = some ce) (hcv : ce.vm = .none) (hcl : s.vm.findClass (cw_ex kd) = some ce.cls)
    (kk : W p l e R s m args below meth c H locs cells slots Q (F0 m hpc ls [.ref q])) : vx_W p l e R s m args below meth c H locs cells slots Q (F0 m pc ls rest) q := by
  obtain ⟨hx, hb, hr, hml, hown, hts, hlk, hK⟩ := B
  intro T hT X
  simp only [Bool.and_eq_true, decide_eq_true_eq] at hin
  have hpl : e.platform.magicAccessors = ({} : Platform).magicAccessors := by rw [X.admits.platform]
  obtain ⟨c5, hc5, hcl5⟩ := Cond.classLink_spec hown hli e.platform hpl
  cases Option.some.inj (hcl.symm.trans hc5)
  obtain ⟨dk, _, _, kt, hd9, _, _, _, _, hkt, _, hopen⟩ := hcl5.here
  have hW' : s.WarmedH (T.vm.noted m.cls ix (.cls ce.cls)) := X.warmed.noted hd9 hopen (State.rightAt_cls hcl5)
  obtain ⟨kt', hkt', -⟩ := X.warmed.alike.2.2 _ _ hkt
  have hcell : ((T.setTop (F0 m pc ls rest)).pushFrame (.throwing q)).heap[q]? = some ce := by rw [Stand.throwing_heap, hT]; exact hce
  have hvm : ((T.setTop (F0 m pc ls rest)).pushFrame (.throwing q)).vm = T.vm := Stand.throwing_vm T _ q
  obtain ⟨t, a1, b1⟩ := kk (T.setVm (T.vm.noted m.cls ix (.cls ce.cls))) hT (X.noted hW')
  refine ⟨t, ?_, b1⟩
  have hfd := cw_find (e := e) (S := (T.setTop (F0 m pc ls rest)).pushFrame (.throwing q)) (f := F0 m pc ls rest) (a := q) (meth := meth) (code := c) (by rw [hvm]; exact X.method') X.code (x := { startPc := lo, endPc := hi, handlerPc := hpc, catchType := ix }) htab (by simp only [covers, Bool.and_eq_true, decide_eq_true_eq]; exact ⟨hin.1.1, hin.1.2⟩) hin.2 (k := ce.cls) (cell := ce) (by rw [hvm]; exact X.warmed.classLinks hcl5) hcell (fun z h => by rw [hcv] at h; cases h) (by rw [hvm]; exact ⟨kt', hkt'⟩) (by rw [hvm]; exact ⟨kt', hkt'⟩) (va_asg _ _)
  rw [hvm] at hfd
  exact cw_intoH X.here hfd a1
end LWC
