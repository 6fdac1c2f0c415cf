section CRI
variable {p : Program} {l : Launch} {e : Env} {R : Room} {s : State} {m : MethodId} {args : Array Value} {below : List Frame} {meth : Method} {c : Code} {H : Heap} {locs : List Loc} {cells slots : Nat} {Q : State → Prop} {cc : ByteArray} {pc : Nat} {ls : Array Slot} {rest : List Value}
variable {v : cwE} {σ0 σ σ1 : CS} {nL d : Nat} {ret : Option FieldType} {own : String} {kd : Nat} {rv : Option Value}
abbrev cj_Met (l : Launch) (v : cwE) (y : MethodName) (bytes : ByteArray) (maxL : Nat) (ret : Option FieldType) (d : Nat) (as : List Value) (rv : Option Value) : Prop := js_Met l (cw_A v) 3 cw_sl cw_sb (cw_ad v) (fun i => cw_ad v (10 + i)) y bytes maxL ret d as rv
/-- a call of a String's own method -/
theorem cw_cstr (B : cw_B v own p s m args meth c cc nL ret) {y : MethodName} {bytes : ByteArray} {maxL index n : Nat} {ret0 : Option FieldType} {As : List Value} {x : Int} (hM : (∃ i, i < 3 ∧ x = (cw_pa i : Int)) ∧ cj_Met l v y bytes maxL ret0 d (cR v x :: As) rv) (h0 : GoodIn cw_bw [Cond.code y bytes maxL ret0, Cond.initialized RJ0]) (hli : Cond.methodLink own index y ∈ cw_bw) (hins : Cond.instanceMethod y ∈ cw_bw) (hsel : Cond.selects RJ0 y y ∈ cw_bw)
    (hd : y.cls = RJ0 ∧ y.cls ≠ "java/lang/invoke/MethodHandle" ∧ y.cls ≠ "java/lang/invoke/VarHandle" ∧ (parseMethodDescriptor y.desc).map (fun d => d.parameters.length) = some n) (hmax : maxL ≤ 41)
    (hn : As.length = n) (hl : ls.size = nL) (hrest : (rest.map fun v => v.category).sum ≤ 8) (hdg : decode cc pc = .ok (.invokevirtual index, 3)) {st : List Value} (hst : st = As.reverse ++ cR v x :: rest) (hw : cw_W v s σ0 σ H locs cells slots)
    (kk : W p l e (cw_rm v (d + 1) σ0) s m args below meth c H locs cells slots Q (F0 m (pc + 3) ls (rv.toList ++ rest))) : W p l e (cw_rm v (d + 1) σ0) s m args below meth c H locs cells slots Q (F0 m pc ls st) := by
  obtain ⟨hx, hb, hr, hml, hown, hts, hlk, hK⟩ := B
  obtain ⟨⟨i, hi, hxi⟩, hM⟩ := hM
  have hp3 : cw_pa i = i := Nat.mod_eq_of_lt (by omega)
  rw [cR_o hxi hp3] at hM hst
  have hJ := hK.2.1.2.2.1.kept (H1 := H) (cw_old hw)
  obtain ⟨cellS, g1, g2, g3, -⟩ := (hJ.2.2.1 i hi).1
  have hgw : ∀ w : Cond, w ∈ cw_bw → ∃ _ : w ∈ cw_bw, True := fun w h => ⟨h, trivial⟩
  have hrm := cw_rmok hw
  have hM' : cj_Met l v y bytes maxL ret0 d (.ref (cw_ad v i) :: As) rv := hM
  refine js_after (rv := rv) (W.runV (C := RJ0) (own := own) (Ts := cw_bw) ⟨hx, hb, hml, hown, hts⟩ hM' (cwV n hts ?_ rfl rfl rfl hd ⟨?_, ?_⟩)
    ⟨js_blind, ⟨cellS, g1, g2, g3⟩, fun U hU hW => ⟨rfl, js_at hJ hU hW⟩⟩ rfl hn hl hst (lv_room hrest) hdg ⟨?_, ?_⟩) kk
  · intro w hw
    rcases List.mem_append.mp hw with h | h
    · simp only [List.mem_cons, List.mem_nil_iff, or_false] at h
      rcases h with rfl | rfl | rfl | rfl
      · exact ⟨hli, good_of_word (List.all_eq_true.mp cw_bw_good _ hli)⟩
      · exact ⟨hins, good_of_word (List.all_eq_true.mp cw_bw_good _ hins)⟩
      · exact ⟨hsel, good_of_word (List.all_eq_true.mp cw_bw_good _ hsel)⟩
      · exact h0 _ (by simp)
    · rcases List.mem_cons.mp h with h | h
      · exact h0 w (by rw [h]; simp)
      · exact ⟨cw_bw_js w h, good_of_word (List.all_eq_true.mp js_bw_good w h)⟩
  · show d + 1 ≤ d + 1; exact Nat.le_refl _
  · show 8 + (maxL + 11) + 60 * d ≤ 100 * (d + 1); omega
  · show cells + 0 ≤ v.2.2.1 - c_hp σ0; omega
  · show slots + 0 ≤ v.2.2.2.1 - c_sl σ0; omega
/-! an exception that a call let out, caught by this method's own row -/
theorem cw_find {e : Env} {S : State} {f : JFrame} {a : Addr} {meth : Method} {code : Code} (hm : S.vm.method? f.method = some meth) (hc : meth.code = some code) {x : ExceptionTableEntry} (htab : code.exceptionTable.toList = [x]) (hx : covers x f.pc = true) (h0 : x.catchType ≠ 0) {k : ClassId} {cell : Cell}
    (hln : S.vm.ClassLinks e.platform f.method.cls x.catchType k) (hcell : S.heap[a]? = some cell) (hobj : ∀ q, cell.vm ≠ .statics q) (hk1 : ∃ z, S.vm.classes[cell.cls]? = some z) (hk2 : ∃ z, S.vm.classes[k]? = some z) (hfit : S.vm.assignable cell.cls k = true) (Q : Handler → Jvm.Pre) (E : Jvm.CtlPost) (d : Bool) (acts : List Action) :
    Jvm.Sem.wp (findHandler f a) Q E e d acts S ↔ Q (.found x.handlerPc) d acts (S.setVm (S.vm.noted f.method.cls x.catchType (.cls k))) := by
  rw [W.findHandler_eq hm hc, htab]
  obtain ⟨r1, r2⟩ := (resolveClass_links e.toSetting hln).op (op := VmOp.resolveClass f.method.cls x.catchType) rfl
  have hal : S.vm.Alike (S.vm.noted f.method.cls x.catchType (.cls k)) := (Vm.Alike.refl S.vm).noted _ _ _
  obtain ⟨z1, hz1⟩ := hk1
  obtain ⟨z2, hz2⟩ := hk2
  obtain ⟨y1, hy1, -⟩ := hal.2.2 _ _ hz1
  obtain ⟨y2, hy2, -⟩ := hal.2.2 _ _ hz2
  have hfit2 : (S.vm.noted f.method.cls x.catchType (.cls k)).assignable cell.cls k = true := by rw [hal.assignable]; exact hfit
  simp only [covers] at hx
  simp [findHandler.go, hx, h0, r1, r2, hcell, hobj, hy1, hy2, hfit2, VmOp.dirties, VmOp.acts]
end CRI
section CRJ
variable {p : Program} {l : Launch} {e : Env} {R : Room} {s : State} {m : MethodId} {args : Array Value} {below : List Frame} {meth : Method} {c : Code} {H : Heap} {locs : List Loc} {cells slots : Nat} {Q : State → Prop} {cc : ByteArray} {pc : Nat} {ls : Array Slot} {rest : List Value}
variable {v : cwE} {σ0 σ σ1 : CS} {nL d : Nat} {ret : Option FieldType} {own : String} {kd : Nat} {rv : Option Value}
theorem cw_found {S : State} {a : Addr} {f : JFrame} {r : List Frame} {hpc : Nat} {vm' : Vm} (hfind : ∀ (Q : Handler → Jvm.Pre) (E : Jvm.CtlPost) (d : Bool) (acts : List Action), Jvm.Sem.wp (findHandler f a) Q E e d acts S ↔ Q (.found hpc) d acts (S.setVm vm')) :
    (stepThrowing e S a (.java f :: r)).Is ((S.setVm vm').setFrames (.java { f with pc := hpc, stack := [.ref a] } :: r)) [] := by
  simp only [stepThrowing, searchFrame, vmDo]
  generalize hr : Sem.go _ e false [] S = res
  obtain ⟨as, rfl, ha⟩ := Sem.eq_ok_of hr (a := Handler.found hpc) (s' := S.setVm vm') (acts' := []) (by simp [hfind _ _ _ _])
  exact ⟨rfl, ha⟩
theorem cw_intoH {tb : Tables} {S target : State} {g : JFrame} {c : Code} {a : Addr} (h : At S g.method c below) {hpc : Nat} {vm' : Vm}
    (hfind : ∀ (Q : Handler → Jvm.Pre) (E : Jvm.CtlPost) (d : Bool) (acts : List Action), Jvm.Sem.wp (findHandler g a) Q E e d acts ((S.setTop g).pushFrame (.throwing a)) ↔ Q (.found hpc) d acts (((S.setTop g).pushFrame (.throwing a)).setVm vm'))
    (hrest : Steps tb e below ((S.setVm vm').setTop { g with pc := hpc, stack := [.ref a] }) target) : Steps tb e below ((S.setTop g).pushFrame (.throwing a)) target := by
  obtain ⟨hgo, hw⟩ := h.throwing a
  refine Steps.head hgo hw ?_
  rw [stepThread_throwing (frames_entered h.top _), (cw_found (S := (S.setTop g).pushFrame (.throwing a)) hfind).1]
  obtain ⟨g₀, hg⟩ := Option.isSome_iff_exists.mp h.top
  obtain ⟨r, hr⟩ := State.topJava?_eq_some.mp hg
  have hr2 : (S.setVm vm').frames = .java g₀ :: r := hr
  have key : ∀ (u : State) (F G : List Frame), ((u.setFrames F).setVm vm').setFrames G = (u.setVm vm').setFrames G := fun u F G => by
    rw [show (u.setFrames F).setVm vm' = (u.setVm vm').setFrames F from rfl, State.setFrames_setFrames]
  rw [State.setTop_of_frames _ hr2] at hrest
  rw [hr, List.tail_cons, State.pushFrame, key, State.setTop_of_frames _ hr, key]
  exact hrest
/-- the one row of the method's table takes it: an IllegalStateException -/
theorem cw_catch (B : cw_B v own p s m args meth c cc nL ret) {lo hi hpc ix : Nat} (htab : c.exceptionTable.toList = tableOf [(lo, hi, hpc, ix)]) (hin : (decide (lo ≤ pc) && decide (pc < hi) && decide (ix ≠ 0)) = true) (hli : Cond.classLink own ix (cw_ex 1) ∈ cw_bw) {q : Addr} {ce : Cell} (hce : H[q]? = some ce) (hcv : ce.vm = .none) (hcl : s.vm.findClass (cw_ex 1) = some ce.cls)
    (kk : W p l e R s m args below meth c H locs cells slots Q (F0 m hpc ls [.ref q])) : vx_W p l e R s m args below meth c H locs cells slots Q (F0 m pc ls rest) q := by
  obtain ⟨hx, hb, hr, hml, hown, hts, hlk, hK⟩ := B
  intro T hT X
  simp only [Bool.and_eq_true, decide_eq_true_eq] at hin
  have hpl : e.platform.magicAccessors = ({} : Platform).magicAccessors := by rw [X.admits.platform]
  obtain ⟨c5, hc5, hcl5⟩ := Cond.classLink_spec hown (hts _ hli) e.platform hpl
  cases Option.some.inj (hcl.symm.trans hc5)
  obtain ⟨dk, _, _, kt, hd9, _, _, _, _, hkt, _, hopen⟩ := hcl5.here
  have hW' : s.WarmedH (T.vm.noted m.cls ix (.cls ce.cls)) := X.warmed.noted hd9 hopen (State.rightAt_cls hcl5)
  obtain ⟨kt', hkt', -⟩ := X.warmed.alike.2.2 _ _ hkt
  have hcell : ((T.setTop (F0 m pc ls rest)).pushFrame (.throwing q)).heap[q]? = some ce := by rw [Stand.throwing_heap, hT]; exact hce
  have hvm : ((T.setTop (F0 m pc ls rest)).pushFrame (.throwing q)).vm = T.vm := Stand.throwing_vm T _ q
  obtain ⟨t, a1, b1⟩ := kk (T.setVm (T.vm.noted m.cls ix (.cls ce.cls))) hT (X.noted hW')
  refine ⟨t, ?_, b1⟩
  have hfd := cw_find (e := e) (S := (T.setTop (F0 m pc ls rest)).pushFrame (.throwing q)) (f := F0 m pc ls rest) (a := q) (meth := meth) (code := c) (by rw [hvm]; exact X.method') X.code (x := { startPc := lo, endPc := hi, handlerPc := hpc, catchType := ix }) htab (by simp only [covers, Bool.and_eq_true, decide_eq_true_eq]; exact ⟨hin.1.1, hin.1.2⟩) hin.2 (k := ce.cls) (cell := ce) (by rw [hvm]; exact X.warmed.classLinks hcl5) hcell (fun z h => by rw [hcv] at h; cases h) (by rw [hvm]; exact ⟨kt', hkt'⟩) (by rw [hvm]; exact ⟨kt', hkt'⟩) (va_asg _ _)
  rw [hvm] at hfd
  exact cw_intoH X.here hfd a1
theorem cl_xstore_n (hx : p.tables.exec = Jvm.exec) (hb : c.code = cc) {k : Fin 4} {i nL : Nat} {q : Addr} {lv lv' : List (Nat × Value)} (hdg : decode cc pc = .ok (.astore_n k, 1)) (hi : (k : Nat) = i) (h : cl_has ls nL lv) (hn : i < nL) (_h0 : True) (hl : lv.filter (fun q => !(q.1 == i)) = lv')
    (kk : ∀ ls, cl_has ls nL lv' → W p l e R s m args below meth c H locs cells slots Q (F0 m (pc + 1) ls rest)) : W p l e R s m args below meth c H locs cells slots Q (F0 m pc ls (.ref q :: rest)) :=
  lv_astore_n hx hb hdg hi h.1 hn rfl (fun ls' h' => kk ls' ⟨by rw [cl_filt h, hl] at h'; exact ⟨h'.1, h'.2.1, fun z hz => h'.2.2 z (List.mem_cons_of_mem _ hz)⟩, fun z hz => h.2 z (List.mem_filter.mp (hl ▸ hz)).1⟩)
theorem cl_xstore (hx : p.tables.exec = Jvm.exec) (hb : c.code = cc) {i nL : Nat} {q : Addr} {lv lv' : List (Nat × Value)} (hdg : decode cc pc = .ok (.astore i, 2)) (h : cl_has ls nL lv) (hn : i < nL) (_h0 : True) (hl : lv.filter (fun q => !(q.1 == i)) = lv')
    (kk : ∀ ls, cl_has ls nL lv' → W p l e R s m args below meth c H locs cells slots Q (F0 m (pc + 2) ls rest)) : W p l e R s m args below meth c H locs cells slots Q (F0 m pc ls (.ref q :: rest)) :=
  lv_astore hx hb hdg h.1 hn rfl (fun ls' h' => kk ls' ⟨by rw [cl_filt h, hl] at h'; exact ⟨h'.1, h'.2.1, fun z hz => h'.2.2 z (List.mem_cons_of_mem _ hz)⟩, fun z hz => h.2 z (List.mem_filter.mp (hl ▸ hz)).1⟩)
end CRJ
