set_option maxHeartbeats 4000000 in
set_option maxRecDepth 100000 in
theorem pm_X9_init {v : cwE} {bd : Nat × Nat} {l : Launch} {d : Nat} {rec : Nat → CS → List Int → CO} (hbd : bd = (v.2.2.1, v.2.2.2.1)) (hR : cw_Rec l v d rec) (htr : l.stackTraces = false) (hd5 : 5 ≤ d) (σ σ' : CS) (x0 x1 x2 x3 x4 x5 : Int) (kd : Nat) (r : Int) (ix0 : inR x0) (ix1 : inR x1) (ix2 : inR x2) (ix3 : inR x3) (ix4 : inR x4) (ix5 : inR x5) (hf : pc_X9_init_0 rec bd σ x0 x1 x2 x3 x4 x5 = some (σ', kd, r)) : cw_Met l v yX9_init cX9_init 6 none (d + 1) [cR x0, .int (rI x1), .int (rI x2), cR x3, cR x4, cR x5] σ σ' kd none := by
  refine cw_ofW (by decide +kernel) ?_
  intro p e s m args below meth c s₁ B hml hv
  obtain ⟨rfl, hM, hK⟩ := hv
  have hts := atoms_spec (ws := Cond.code yX9_init cX9_init 6 none :: cw_bw) B.pre
  have hB : cw_B v RX9 p s m _ meth c cX9_init 6 none := ⟨B.exec, B.bytes, B.returns, hml, findClass_of_methodNamed B.named, fun w h => hts w (List.mem_cons_of_mem _ h), B.notSynchronized, hK⟩
  have hnh := cc_nh B (hts _ List.mem_cons_self)
  rw [lg_entry_eq]
  obtain ⟨ls, hls, hl⟩ := cl_ent [cR x0, .int (rI x1), .int (rI x2), cR x3, cR x4, cR x5] 6 (cl_1r (cl_1i (cl_1i (cl_1r (cl_1r (cl_1r cl_10)))))) (Nat.le_of_ble_eq_true rfl)
  rw [hls]
  exact pw_X9_init_0 hbd hR htr hd5 hB (name_of_methodNamed B.named B.method).1 hnh σ x0 x1 x2 x3 x4 x5 ix0 ix1 ix2 ix3 ix4 ix5 hf _ _ _ _ _ (cw_W0 hM) (cl_sub hl [0, 1, 2, 3, 4, 5] rfl)

set_option maxHeartbeats 4000000 in
set_option maxRecDepth 100000 in
theorem pw_X10_clear_0 {v : cwE} {bd : Nat × Nat} {p : Program} {l : Launch} {e : Env} {s : State} {m : MethodId} {args : Array Value} {below : List Frame} {meth : Method} {c : Code} {d : Nat} {rec : Nat → CS → List Int → CO} {σ0 σ' : CS} {kd : Nat} {r : Int} (hbd : bd = (v.2.2.1, v.2.2.2.1)) (hR : cw_Rec l v d rec) (htr : l.stackTraces = false) (hd5 : 5 ≤ d) (B : cw_B v RX10 p s m args meth c cX10_clear 1 none) (hnh : ∀ x ∈ c.exceptionTable.toList, False) : ∀ (σ : CS) (x0 : Int), inR x0 → pc_X10_clear_0 rec bd σ x0 = some (σ', kd, r) → ∀ (H : Heap) (locs : List Loc) (cells slots : Nat) (ls : Array Slot), cw_W v s σ0 σ H locs cells slots → cl_has ls 1 [(0, cR x0)] → W p l e (cw_rm v (d + 1) σ0) s m args below meth c H locs cells slots (cw_Z below v σ0 σ' kd none args s) (F0 m 0 ls []) := by
  subst hbd
  obtain ⟨hx, hb, hr, hml, hown, hts, hlk, hK⟩ := id B
  intro σ x0 ix0 hf H locs cells slots ls hw hl
  unfold pc_X10_clear_0 at hf
  refine cl_aload_n hx hb dX10_clear_0 rfl (lv_at hl.1 0 rfl) ?_
  refine lv_iconst (v := rI 0) hx hb dX10_clear_1 rfl ?_
  obtain ⟨σ1, eσ1, rσ1, hf⟩ := cc_p_s hf
  refine cw_put B hw rσ1 cwt_11 (by decide) rfl cfl_10_9 ⟨by decide, by decide⟩ eσ1 rfl (cw_fv_n rfl rfl) dX10_clear_2 (fun H locs hw => ?_)
  refine cl_aload_n hx hb dX10_clear_5 rfl (lv_at hl.1 0 rfl) ?_
  refine lv_iconst (v := rI (-1)) hx hb dX10_clear_6 rfl ?_
  obtain ⟨σ2, eσ2, rσ2, hf⟩ := cc_p_s hf
  refine cw_put B hw rσ2 cwt_11 (by decide) rfl cfl_10_15 ⟨by decide, by decide⟩ eσ2 rfl (cw_fv_n rfl rfl) dX10_clear_7 (fun H locs hw => ?_)
  exact cw_retv B hf hw dX10_clear_10

set_option maxHeartbeats 4000000 in
set_option maxRecDepth 100000 in
theorem pm_X10_clear {v : cwE} {bd : Nat × Nat} {l : Launch} {d : Nat} {rec : Nat → CS → List Int → CO} (hbd : bd = (v.2.2.1, v.2.2.2.1)) (hR : cw_Rec l v d rec) (htr : l.stackTraces = false) (hd5 : 5 ≤ d) (σ σ' : CS) (x0 : Int) (kd : Nat) (r : Int) (ix0 : inR x0) (hf : pc_X10_clear_0 rec bd σ x0 = some (σ', kd, r)) : cw_Met l v yX10_clear cX10_clear 1 none (d + 1) [cR x0] σ σ' kd none := by
  refine cw_ofW (by decide +kernel) ?_
  intro p e s m args below meth c s₁ B hml hv
  obtain ⟨rfl, hM, hK⟩ := hv
  have hts := atoms_spec (ws := Cond.code yX10_clear cX10_clear 1 none :: cw_bw) B.pre
  have hB : cw_B v RX10 p s m _ meth c cX10_clear 1 none := ⟨B.exec, B.bytes, B.returns, hml, findClass_of_methodNamed B.named, fun w h => hts w (List.mem_cons_of_mem _ h), B.notSynchronized, hK⟩
  have hnh := cc_nh B (hts _ List.mem_cons_self)
  rw [lg_entry_eq]
  obtain ⟨ls, hls, hl⟩ := cl_ent [cR x0] 1 (cl_1r cl_10) (Nat.le_of_ble_eq_true rfl)
  rw [hls]
  exact pw_X10_clear_0 hbd hR htr hd5 hB hnh σ x0 ix0 hf _ _ _ _ _ (cw_W0 hM) (cl_sub hl [0] rfl)

set_option maxHeartbeats 4000000 in
set_option maxRecDepth 100000 in
theorem pw_X10_init_0 {v : cwE} {bd : Nat × Nat} {p : Program} {l : Launch} {e : Env} {s : State} {m : MethodId} {args : Array Value} {below : List Frame} {meth : Method} {c : Code} {d : Nat} {rec : Nat → CS → List Int → CO} {σ0 σ' : CS} {kd : Nat} {r : Int} (hbd : bd = (v.2.2.1, v.2.2.2.1)) (hR : cw_Rec l v d rec) (htr : l.stackTraces = false) (hd5 : 5 ≤ d) (B : cw_B v RX10 p s m args meth c cX10_init 1 none) (hin : meth.name = "<init>") (hnh : ∀ x ∈ c.exceptionTable.toList, False) : ∀ (σ : CS) (x0 : Int), inR x0 → pc_X10_init_0 rec bd σ x0 = some (σ', kd, r) → ∀ (H : Heap) (locs : List Loc) (cells slots : Nat) (ls : Array Slot), cw_W v s σ0 σ H locs cells slots → cl_has ls 1 [(0, cR x0)] → W p l e (cw_rm v (d + 1) σ0) s m args below meth c H locs cells slots (cw_Z below v σ0 σ' kd none args s) (F0 m 0 ls []) := by
  subst hbd
  obtain ⟨hx, hb, hr, hml, hown, hts, hlk, hK⟩ := id B
  intro σ x0 ix0 hf H locs cells slots ls hw hl
  unfold pc_X10_init_0 at hf
  refine cl_aload_n hx hb dX10_init_0 rfl (lv_at hl.1 0 rfl) ?_
  obtain ⟨q0, hf⟩ := cc_t_s hf
  rw [cR_r q0.1]
  refine W.objInit hx hb hown (hts _ coi_10_3) (hts _ coi2) (hts _ coi3) rfl (hl.1.1.trans hml.symm) rfl dX10_init_1 (by show 1 ≤ d + 1; omega) (by show _ + 12 ≤ 100 * (d + 1); simp [JFrame.monitorRoom]; omega) ?_
  refine cl_aload_n hx hb dX10_init_4 rfl (lv_at hl.1 0 rfl) ?_
  refine lv_iconst (v := rI 0) hx hb dX10_init_5 rfl ?_
  obtain ⟨σ1, eσ1, rσ1, hf⟩ := cc_p_s hf
  refine cw_put B hw rσ1 cwt_11 (by decide) rfl cfl_10_9 ⟨by decide, by decide⟩ eσ1 rfl (cw_fv_n rfl rfl) dX10_init_6 (fun H locs hw => ?_)
  refine cl_aload_n hx hb dX10_init_9 rfl (lv_at hl.1 0 rfl) ?_
  refine lv_iconst (v := rI (-1)) hx hb dX10_init_10 rfl ?_
  obtain ⟨σ2, eσ2, rσ2, hf⟩ := cc_p_s hf
  refine cw_put B hw rσ2 cwt_11 (by decide) rfl cfl_10_15 ⟨by decide, by decide⟩ eσ2 rfl (cw_fv_n rfl rfl) dX10_init_11 (fun H locs hw => ?_)
  exact cw_retv B hf hw dX10_init_14

set_option maxHeartbeats 4000000 in
set_option maxRecDepth 100000 in
theorem pm_X10_init {v : cwE} {bd : Nat × Nat} {l : Launch} {d : Nat} {rec : Nat → CS → List Int → CO} (hbd : bd = (v.2.2.1, v.2.2.2.1)) (hR : cw_Rec l v d rec) (htr : l.stackTraces = false) (hd5 : 5 ≤ d) (σ σ' : CS) (x0 : Int) (kd : Nat) (r : Int) (ix0 : inR x0) (hf : pc_X10_init_0 rec bd σ x0 = some (σ', kd, r)) : cw_Met l v yX10_init cX10_init 1 none (d + 1) [cR x0] σ σ' kd none := by
  refine cw_ofW (by decide +kernel) ?_
  intro p e s m args below meth c s₁ B hml hv
  obtain ⟨rfl, hM, hK⟩ := hv
  have hts := atoms_spec (ws := Cond.code yX10_init cX10_init 1 none :: cw_bw) B.pre
  have hB : cw_B v RX10 p s m _ meth c cX10_init 1 none := ⟨B.exec, B.bytes, B.returns, hml, findClass_of_methodNamed B.named, fun w h => hts w (List.mem_cons_of_mem _ h), B.notSynchronized, hK⟩
  have hnh := cc_nh B (hts _ List.mem_cons_self)
  rw [lg_entry_eq]
  obtain ⟨ls, hls, hl⟩ := cl_ent [cR x0] 1 (cl_1r cl_10) (Nat.le_of_ble_eq_true rfl)
  rw [hls]
  exact pw_X10_init_0 hbd hR htr hd5 hB (name_of_methodNamed B.named B.method).1 hnh σ x0 ix0 hf _ _ _ _ _ (cw_W0 hM) (cl_sub hl [0] rfl)

set_option maxHeartbeats 4000000 in
set_option maxRecDepth 100000 in
theorem pw_X10_set_0 {v : cwE} {bd : Nat × Nat} {p : Program} {l : Launch} {e : Env} {s : State} {m : MethodId} {args : Array Value} {below : List Frame} {meth : Method} {c : Code} {d : Nat} {rec : Nat → CS → List Int → CO} {σ0 σ' : CS} {kd : Nat} {r : Int} (hbd : bd = (v.2.2.1, v.2.2.2.1)) (hR : cw_Rec l v d rec) (htr : l.stackTraces = false) (hd5 : 5 ≤ d) (B : cw_B v RX10 p s m args meth c cX10_set 3 none) (hnh : ∀ x ∈ c.exceptionTable.toList, False) : ∀ (σ : CS) (x0 x1 x2 : Int), inR x0 → inR x1 → inR x2 → pc_X10_set_0 rec bd σ x0 x1 x2 = some (σ', kd, r) → ∀ (H : Heap) (locs : List Loc) (cells slots : Nat) (ls : Array Slot), cw_W v s σ0 σ H locs cells slots → cl_has ls 3 [(0, cR x0), (1, .int (rI x1)), (2, .int (rI x2))] → W p l e (cw_rm v (d + 1) σ0) s m args below meth c H locs cells slots (cw_Z below v σ0 σ' kd none args s) (F0 m 0 ls []) := by
  subst hbd
  obtain ⟨hx, hb, hr, hml, hown, hts, hlk, hK⟩ := id B
  intro σ x0 x1 x2 ix0 ix1 ix2 hf H locs cells slots ls hw hl
  unfold pc_X10_set_0 at hf
  refine cl_aload_n hx hb dX10_set_0 rfl (lv_at hl.1 0 rfl) ?_
  refine lv_iload_n hx hb dX10_set_1 rfl (lv_at hl.1 1 rfl) ?_
  obtain ⟨σ1, eσ1, rσ1, hf⟩ := cc_p_s hf
  refine cw_put B hw rσ1 cwt_11 (by decide) rfl cfl_10_9 ix1 eσ1 rfl (cw_fv_n rfl rfl) dX10_set_2 (fun H locs hw => ?_)
  refine cl_aload_n hx hb dX10_set_5 rfl (lv_at hl.1 0 rfl) ?_
  refine lv_iload_n hx hb dX10_set_6 rfl (lv_at hl.1 2 rfl) ?_
  obtain ⟨σ2, eσ2, rσ2, hf⟩ := cc_p_s hf
  refine cw_put B hw rσ2 cwt_11 (by decide) rfl cfl_10_15 ix2 eσ2 rfl (cw_fv_n rfl rfl) dX10_set_7 (fun H locs hw => ?_)
  exact cw_retv B hf hw dX10_set_10

set_option maxHeartbeats 4000000 in
set_option maxRecDepth 100000 in
theorem pm_X10_set {v : cwE} {bd : Nat × Nat} {l : Launch} {d : Nat} {rec : Nat → CS → List Int → CO} (hbd : bd = (v.2.2.1, v.2.2.2.1)) (hR : cw_Rec l v d rec) (htr : l.stackTraces = false) (hd5 : 5 ≤ d) (σ σ' : CS) (x0 x1 x2 : Int) (kd : Nat) (r : Int) (ix0 : inR x0) (ix1 : inR x1) (ix2 : inR x2) (hf : pc_X10_set_0 rec bd σ x0 x1 x2 = some (σ', kd, r)) : cw_Met l v yX10_set cX10_set 3 none (d + 1) [cR x0, .int (rI x1), .int (rI x2)] σ σ' kd none := by
  refine cw_ofW (by decide +kernel) ?_
  intro p e s m args below meth c s₁ B hml hv
  obtain ⟨rfl, hM, hK⟩ := hv
  have hts := atoms_spec (ws := Cond.code yX10_set cX10_set 3 none :: cw_bw) B.pre
  have hB : cw_B v RX10 p s m _ meth c cX10_set 3 none := ⟨B.exec, B.bytes, B.returns, hml, findClass_of_methodNamed B.named, fun w h => hts w (List.mem_cons_of_mem _ h), B.notSynchronized, hK⟩
  have hnh := cc_nh B (hts _ List.mem_cons_self)
  rw [lg_entry_eq]
  obtain ⟨ls, hls, hl⟩ := cl_ent [cR x0, .int (rI x1), .int (rI x2)] 3 (cl_1r (cl_1i (cl_1i cl_10))) (Nat.le_of_ble_eq_true rfl)
  rw [hls]
  exact pw_X10_set_0 hbd hR htr hd5 hB hnh σ x0 x1 x2 ix0 ix1 ix2 hf _ _ _ _ _ (cw_W0 hM) (cl_sub hl [0, 1, 2] rfl)

set_option maxHeartbeats 4000000 in
set_option maxRecDepth 100000 in
theorem pw_X11_addAxiom_0 {v : cwE} {bd : Nat × Nat} {p : Program} {l : Launch} {e : Env} {s : State} {m : MethodId} {args : Array Value} {below : List Frame} {meth : Method} {c : Code} {d : Nat} {rec : Nat → CS → List Int → CO} {σ0 σ' : CS} {kd : Nat} {r : Int} (hbd : bd = (v.2.2.1, v.2.2.2.1)) (hR : cw_Rec l v d rec) (htr : l.stackTraces = false) (hd5 : 5 ≤ d) (B : cw_B v RX11 p s m args meth c cX11_addAxiom 4 none) (hnh : ∀ x ∈ c.exceptionTable.toList, False) : ∀ (σ : CS) (x0 x1 : Int), inR x0 → inR x1 → pc_X11_addAxiom_0 rec bd σ x0 x1 = some (σ', kd, r) → ∀ (H : Heap) (locs : List Loc) (cells slots : Nat) (ls : Array Slot), cw_W v s σ0 σ H locs cells slots → cl_has ls 4 [(0, cR x0), (1, cR x1)] → W p l e (cw_rm v (d + 1) σ0) s m args below meth c H locs cells slots (cw_Z below v σ0 σ' kd none args s) (F0 m 0 ls []) := by
  subst hbd
  obtain ⟨hx, hb, hr, hml, hown, hts, hlk, hK⟩ := id B
  intro σ x0 x1 ix0 ix1 hf H locs cells slots ls hw hl
  unfold pc_X11_addAxiom_0 at hf
  refine cl_aload_n hx hb dX11_addAxiom_0 rfl (lv_at hl.1 0 rfl) ?_
  refine cl_aload_n hx hb dX11_addAxiom_1 rfl (lv_at hl.1 1 rfl) ?_
  obtain ⟨qσ1, hf⟩ := cc_t_s hf
  obtain ⟨σ1, kv2, z3, hσ1, hf⟩ := cc_cl_s hf
  obtain ⟨iz3, mσ1⟩ := hR 119 σ [x0, x1] σ1 kv2 z3 hσ1
  have mσ1 : cw_Met l v yX11_refuseBesideNames cX11_refuseBesideNames 2 none d [cR x0, cR x1] σ σ1 kv2 none := mσ1 ix0 ix1
  refine cw_cv (b := x0) (t := 12) (n := 1) (rest := []) (As := [cR x1]) B mσ1 qσ1 ⟨by decide, by decide⟩ cgo_yX11_refuseBesideNames cml_11_247 cin_yX11_refuseBesideNames cse_yX11_refuseBesideNames (by decide +kernel) (by decide) rfl hl.1.1 (Nat.le_of_ble_eq_true rfl) dX11_addAxiom_2 rfl hw (fun h0 H locs cells slots hw => ?_) (fun h0 H locs cells slots q ce hw h1 h2 h3 => ?_)
  · rcases hf with ⟨-, hf⟩ | ⟨hk, -⟩
    · skip
      refine cl_aload_n hx hb dX11_addAxiom_5 rfl (lv_at hl.1 0 rfl) ?_
      refine cl_aload_n hx hb dX11_addAxiom_6 rfl (lv_at hl.1 1 rfl) ?_
      obtain ⟨z4, ez4, iz4, rz4, hf⟩ := cc_g_s hw hf
      refine cw_get (val := cR z4) B hw rz4 ⟨by decide, by decide⟩ (by decide) cwi_10 cfl_11_250 ez4 rfl dX11_addAxiom_7 ?_
      obtain ⟨qσ5, hf⟩ := cc_t_s hf
      obtain ⟨σ5, kv6, z7, hσ5, hf⟩ := cc_cl_s hf
      obtain ⟨iz7, mσ5⟩ := hR 115 σ1 [x0, z4] σ5 kv6 z7 hσ5
      have mσ5 : cw_Met l v yX11_neededSort cX11_neededSort 3 (some .int) d [cR x0, cR z4] σ1 σ5 kv6 (some (.int (rI z7))) := mσ5 ix0 iz4
      refine cw_cv (b := x0) (t := 12) (n := 1) (rest := []) (As := [cR z4]) B mσ5 qσ5 ⟨by decide, by decide⟩ cgo_yX11_neededSort cml_11_275 cin_yX11_neededSort cse_yX11_neededSort (by decide +kernel) (by decide) rfl hl.1.1 (Nat.le_of_ble_eq_true rfl) dX11_addAxiom_10 rfl hw (fun h0 H locs cells slots hw => ?_) (fun h0 H locs cells slots q ce hw h1 h2 h3 => ?_)
      · rcases hf with ⟨-, hf⟩ | ⟨hk, -⟩
        · skip
          refine cl_istore_n (lv' := [(2, .int (rI z7)), (0, cR x0), (1, cR x1)]) hx hb dX11_addAxiom_13 rfl hl (by decide) rfl (fun ls hl => ?_)
          refine cl_aload_n hx hb dX11_addAxiom_14 rfl (lv_at hl.1 1 rfl) ?_
          refine cl_aload_n hx hb dX11_addAxiom_15 rfl (lv_at hl.1 2 rfl) ?_
          obtain ⟨z8, ez8, iz8, rz8, hf⟩ := cc_g_s hw hf
          refine cw_get (val := cR z8) B hw rz8 ⟨by decide, by decide⟩ (by decide) cwi_10 cfl_11_230 ez8 rfl dX11_addAxiom_16 ?_
          obtain ⟨qσ9, hf⟩ := cc_t_s hf
          obtain ⟨σ9, kv10, z11, hσ9, hf⟩ := cc_cl_s hf
          obtain ⟨iz11, mσ9⟩ := hR 115 σ5 [x0, z8] σ9 kv10 z11 hσ9
          have mσ9 : cw_Met l v yX11_neededSort cX11_neededSort 3 (some .int) d [cR x0, cR z8] σ5 σ9 kv10 (some (.int (rI z11))) := mσ9 ix0 iz8
          refine cw_cv (b := x0) (t := 12) (n := 1) (rest := []) (As := [cR z8]) B mσ9 qσ9 ⟨by decide, by decide⟩ cgo_yX11_neededSort cml_11_275 cin_yX11_neededSort cse_yX11_neededSort (by decide +kernel) (by decide) rfl hl.1.1 (Nat.le_of_ble_eq_true rfl) dX11_addAxiom_19 rfl hw (fun h0 H locs cells slots hw => ?_) (fun h0 H locs cells slots q ce hw h1 h2 h3 => ?_)
          · rcases hf with ⟨-, hf⟩ | ⟨hk, -⟩
            · skip
              refine cl_istore_n (lv' := [(3, .int (rI z11)), (2, .int (rI z7)), (0, cR x0), (1, cR x1)]) hx hb dX11_addAxiom_22 rfl hl (by decide) rfl (fun ls hl => ?_)
              refine cl_aload_n hx hb dX11_addAxiom_23 rfl (lv_at hl.1 2 rfl) ?_
              obtain ⟨z12, ez12, iz12, rz12, hf⟩ := cc_g_s hw hf
              refine cw_get (val := cR z12) B hw rz12 ⟨by decide, by decide⟩ (by decide) cwi_12 cfl_11_23 ez12 rfl dX11_addAxiom_24 ?_
              refine lv_iload_n hx hb dX11_addAxiom_27 rfl (lv_at hl.1 1 rfl) ?_
              obtain ⟨qσ13, hf⟩ := cc_t_s hf
              obtain ⟨σ13, kv14, z15, hσ13, hf⟩ := cc_cl_s hf
              obtain ⟨iz15, mσ13⟩ := hR 1 σ9 [z12, z7] σ13 kv14 z15 hσ13
              have mσ13 : cw_Met l v yX0_axiomOf cX0_axiomOf 2 (some .int) d [cR z12, .int (rI z7)] σ9 σ13 kv14 (some (.int (rI z15))) := mσ13 iz12 iz7
              refine cw_cv (b := z12) (t := 1) (n := 1) (rest := []) (As := [.int (rI z7)]) B mσ13 qσ13 ⟨by decide, by decide⟩ cgo_yX0_axiomOf cml_11_139 cin_yX0_axiomOf cse_yX0_axiomOf (by decide +kernel) (by decide) rfl hl.1.1 (Nat.le_of_ble_eq_true rfl) dX11_addAxiom_28 rfl hw (fun h0 H locs cells slots hw => ?_) (fun h0 H locs cells slots q ce hw h1 h2 h3 => ?_)
              · rcases hf with ⟨-, hf⟩ | ⟨hk, -⟩
                · skip
                  refine lv_iconst (v := rI (-1)) hx hb dX11_addAxiom_31 rfl ?_
                  refine rn_icmp_eq (a := z15) (b := (-1)) (tgt := 58) hx hb iz15 ⟨by decide, by decide⟩ dX11_addAxiom_32 (by decide) (fun c16 => ?_) (fun c16 => ?_)
                  · replace hf := cc_if_t hf c16
                    refine cl_aload_n hx hb dX11_addAxiom_58 rfl (lv_at hl.1 2 rfl) ?_
                    obtain ⟨z17, ez17, iz17, rz17, hf⟩ := cc_g_s hw hf
                    refine cw_get (val := cR z17) B hw rz17 ⟨by decide, by decide⟩ (by decide) cwi_12 cfl_11_23 ez17 rfl dX11_addAxiom_59 ?_
                    refine lv_iload_n hx hb dX11_addAxiom_62 rfl (lv_at hl.1 1 rfl) ?_
                    refine lv_iload_n hx hb dX11_addAxiom_63 rfl (lv_at hl.1 0 rfl) ?_
                    obtain ⟨qσ18, hf⟩ := cc_t_s hf
                    obtain ⟨σ18, kv19, z20, hσ18, hf⟩ := cc_cl_s hf
                    obtain ⟨iz20, mσ18⟩ := hR 6 σ13 [z17, z7, z11] σ18 kv19 z20 hσ18
                    have mσ18 : cw_Met l v yX0_setAxiom cX0_setAxiom 3 none d [cR z17, .int (rI z7), .int (rI z11)] σ13 σ18 kv19 none := mσ18 iz17 iz7 iz11
                    refine cw_cv (b := z17) (t := 1) (n := 2) (rest := []) (As := [.int (rI z7), .int (rI z11)]) B mσ18 qσ18 ⟨by decide, by decide⟩ cgo_yX0_setAxiom cml_11_278 cin_yX0_setAxiom cse_yX0_setAxiom (by decide +kernel) (by decide) rfl hl.1.1 (Nat.le_of_ble_eq_true rfl) dX11_addAxiom_64 rfl hw (fun h0 H locs cells slots hw => ?_) (fun h0 H locs cells slots q ce hw h1 h2 h3 => ?_)
                    · rcases hf with ⟨-, hf⟩ | ⟨hk, -⟩
                      · skip
                        exact cw_retv B hf hw dX11_addAxiom_67
                      · exact absurd h0 hk
                    · rcases hf with ⟨hk, -⟩ | ⟨-, hf⟩
                      · exact absurd hk h0
                      · cases hf
                        exact cw_xout B hnh h0 hw h1 h2 h3
                  · replace hf := cc_if_f hf c16
                    refine cl_aload_n hx hb dX11_addAxiom_35 rfl (lv_at hl.1 2 rfl) ?_
                    obtain ⟨z21, ez21, iz21, rz21, hf⟩ := cc_g_s hw hf
                    refine cw_get (val := cR z21) B hw rz21 ⟨by decide, by decide⟩ (by decide) cwi_12 cfl_11_16 ez21 rfl dX11_addAxiom_36 ?_
                    refine lv_iconst (v := rI 4) hx hb dX11_addAxiom_39 rfl ?_
                    refine cl_aload_n hx hb dX11_addAxiom_40 rfl (lv_at hl.1 3 rfl) ?_
                    obtain ⟨z22, ez22, iz22, rz22, hf⟩ := cc_g_s hw hf
                    refine cw_get (val := cR z22) B hw rz22 ⟨by decide, by decide⟩ (by decide) cwi_10 cfl_11_250 ez22 rfl dX11_addAxiom_41 ?_
                    obtain ⟨z23, ez23, iz23, rz23, hf⟩ := cc_g_s hw hf
                    refine cw_get (val := .int (rI z23)) B hw rz23 ⟨by decide, by decide⟩ (by decide) cwi_7 cfl_11_256 ez23 rfl dX11_addAxiom_44 ?_
                    obtain ⟨qσ24, hf⟩ := cc_t_s hf
                    obtain ⟨σ24, kv25, z26, hσ24, hf⟩ := cc_cl_s hf
                    obtain ⟨iz26, mσ24⟩ := hR 95 σ13 [z21, 4, z23] σ24 kv25 z26 hσ24
                    have mσ24 : cw_Met l v yX10_set cX10_set 3 none d [cR z21, .int (rI 4), .int (rI z23)] σ13 σ24 kv25 none := mσ24 iz21 ⟨by decide, by decide⟩ iz23
                    refine cw_cv (b := z21) (t := 11) (n := 2) (rest := []) (As := [.int (rI 4), .int (rI z23)]) B mσ24 qσ24 ⟨by decide, by decide⟩ cgo_yX10_set cml_11_257 cin_yX10_set cse_yX10_set (by decide +kernel) (by decide) rfl hl.1.1 (Nat.le_of_ble_eq_true rfl) dX11_addAxiom_47 rfl hw (fun h0 H locs cells slots hw => ?_) (fun h0 H locs cells slots q ce hw h1 h2 h3 => ?_)
                    · rcases hf with ⟨-, hf⟩ | ⟨hk, -⟩
                      · skip
                        obtain ⟨hy, hm⟩ := cc_x_s hf
                        obtain ⟨hy1, hy2⟩ := Prod.mk.inj hy
                        obtain ⟨hy2, hy3⟩ := Prod.mk.inj hy2
                        subst hy2
                        refine cw_throw (rest := []) B hnh htr hw (by decide) (by decide +kernel) cxc_11_158 cxi_1 (cw_hat cxa_11_160 (by decide +kernel) hts hK.1) (List.all_eq_true.mp cxg_11_160) hd5 hm hy1 hl.1.1 (Nat.le_of_ble_eq_true rfl) dX11_addAxiom_50 dX11_addAxiom_53 dX11_addAxiom_54 dX11_addAxiom_57
                      · exact absurd h0 hk
                    · rcases hf with ⟨hk, -⟩ | ⟨-, hf⟩
                      · exact absurd hk h0
                      · cases hf
                        exact cw_xout B hnh h0 hw h1 h2 h3
                · exact absurd h0 hk
              · rcases hf with ⟨hk, -⟩ | ⟨-, hf⟩
                · exact absurd hk h0
                · cases hf
                  exact cw_xout B hnh h0 hw h1 h2 h3
            · exact absurd h0 hk
          · rcases hf with ⟨hk, -⟩ | ⟨-, hf⟩
            · exact absurd hk h0
            · cases hf
              exact cw_xout B hnh h0 hw h1 h2 h3
        · exact absurd h0 hk
      · rcases hf with ⟨hk, -⟩ | ⟨-, hf⟩
        · exact absurd hk h0
        · cases hf
          exact cw_xout B hnh h0 hw h1 h2 h3
    · exact absurd h0 hk
  · rcases hf with ⟨hk, -⟩ | ⟨-, hf⟩
    · exact absurd hk h0
    · cases hf
      exact cw_xout B hnh h0 hw h1 h2 h3

set_option maxHeartbeats 4000000 in
set_option maxRecDepth 100000 in
theorem pm_X11_addAxiom {v : cwE} {bd : Nat × Nat} {l : Launch} {d : Nat} {rec : Nat → CS → List Int → CO} (hbd : bd = (v.2.2.1, v.2.2.2.1)) (hR : cw_Rec l v d rec) (htr : l.stackTraces = false) (hd5 : 5 ≤ d) (σ σ' : CS) (x0 x1 : Int) (kd : Nat) (r : Int) (ix0 : inR x0) (ix1 : inR x1) (hf : pc_X11_addAxiom_0 rec bd σ x0 x1 = some (σ', kd, r)) : cw_Met l v yX11_addAxiom cX11_addAxiom 4 none (d + 1) [cR x0, cR x1] σ σ' kd none := by
  refine cw_ofW (by decide +kernel) ?_
  intro p e s m args below meth c s₁ B hml hv
  obtain ⟨rfl, hM, hK⟩ := hv
  have hts := atoms_spec (ws := Cond.code yX11_addAxiom cX11_addAxiom 4 none :: cw_bw) B.pre
  have hB : cw_B v RX11 p s m _ meth c cX11_addAxiom 4 none := ⟨B.exec, B.bytes, B.returns, hml, findClass_of_methodNamed B.named, fun w h => hts w (List.mem_cons_of_mem _ h), B.notSynchronized, hK⟩
  have hnh := cc_nh B (hts _ List.mem_cons_self)
  rw [lg_entry_eq]
  obtain ⟨ls, hls, hl⟩ := cl_ent [cR x0, cR x1] 4 (cl_1r (cl_1r cl_10)) (Nat.le_of_ble_eq_true rfl)
  rw [hls]
  exact pw_X11_addAxiom_0 hbd hR htr hd5 hB hnh σ x0 x1 ix0 ix1 hf _ _ _ _ _ (cw_W0 hM) (cl_sub hl [0, 1] rfl)

set_option maxHeartbeats 4000000 in
set_option maxRecDepth 100000 in
theorem pw_X11_addRule_0 {v : cwE} {bd : Nat × Nat} {p : Program} {l : Launch} {e : Env} {s : State} {m : MethodId} {args : Array Value} {below : List Frame} {meth : Method} {c : Code} {d : Nat} {rec : Nat → CS → List Int → CO} {σ0 σ' : CS} {kd : Nat} {r : Int} (hbd : bd = (v.2.2.1, v.2.2.2.1)) (hR : cw_Rec l v d rec) (htr : l.stackTraces = false) (hd5 : 5 ≤ d) (B : cw_B v RX11 p s m args meth c cX11_addRule 5 none) (hnh : ∀ x ∈ c.exceptionTable.toList, False) : ∀ (σ : CS) (x0 x1 : Int), inR x0 → inR x1 → pc_X11_addRule_0 rec bd σ x0 x1 = some (σ', kd, r) → ∀ (H : Heap) (locs : List Loc) (cells slots : Nat) (ls : Array Slot), cw_W v s σ0 σ H locs cells slots → cl_has ls 5 [(0, cR x0), (1, cR x1)] → W p l e (cw_rm v (d + 1) σ0) s m args below meth c H locs cells slots (cw_Z below v σ0 σ' kd none args s) (F0 m 0 ls []) := by
  subst hbd
  obtain ⟨hx, hb, hr, hml, hown, hts, hlk, hK⟩ := id B
  intro σ x0 x1 ix0 ix1 hf H locs cells slots ls hw hl
  unfold pc_X11_addRule_0 at hf
  refine cl_aload_n hx hb dX11_addRule_0 rfl (lv_at hl.1 0 rfl) ?_
  refine cl_aload_n hx hb dX11_addRule_1 rfl (lv_at hl.1 1 rfl) ?_
  obtain ⟨qσ1, hf⟩ := cc_t_s hf
  obtain ⟨σ1, kv2, z3, hσ1, hf⟩ := cc_cl_s hf
  obtain ⟨iz3, mσ1⟩ := hR 119 σ [x0, x1] σ1 kv2 z3 hσ1
  have mσ1 : cw_Met l v yX11_refuseBesideNames cX11_refuseBesideNames 2 none d [cR x0, cR x1] σ σ1 kv2 none := mσ1 ix0 ix1
  refine cw_cv (b := x0) (t := 12) (n := 1) (rest := []) (As := [cR x1]) B mσ1 qσ1 ⟨by decide, by decide⟩ cgo_yX11_refuseBesideNames cml_11_247 cin_yX11_refuseBesideNames cse_yX11_refuseBesideNames (by decide +kernel) (by decide) rfl hl.1.1 (Nat.le_of_ble_eq_true rfl) dX11_addRule_2 rfl hw (fun h0 H locs cells slots hw => ?_) (fun h0 H locs cells slots q ce hw h1 h2 h3 => ?_)
  · rcases hf with ⟨-, hf⟩ | ⟨hk, -⟩
    · skip
      refine cl_aload_n hx hb dX11_addRule_5 rfl (lv_at hl.1 0 rfl) ?_
      refine cl_aload_n hx hb dX11_addRule_6 rfl (lv_at hl.1 1 rfl) ?_
      obtain ⟨z4, ez4, iz4, rz4, hf⟩ := cc_g_s hw hf
      refine cw_get (val := cR z4) B hw rz4 ⟨by decide, by decide⟩ (by decide) cwi_10 cfl_11_250 ez4 rfl dX11_addRule_7 ?_
      obtain ⟨qσ5, hf⟩ := cc_t_s hf
      obtain ⟨σ5, kv6, z7, hσ5, hf⟩ := cc_cl_s hf
      obtain ⟨iz7, mσ5⟩ := hR 115 σ1 [x0, z4] σ5 kv6 z7 hσ5
      have mσ5 : cw_Met l v yX11_neededSort cX11_neededSort 3 (some .int) d [cR x0, cR z4] σ1 σ5 kv6 (some (.int (rI z7))) := mσ5 ix0 iz4
      refine cw_cv (b := x0) (t := 12) (n := 1) (rest := []) (As := [cR z4]) B mσ5 qσ5 ⟨by decide, by decide⟩ cgo_yX11_neededSort cml_11_275 cin_yX11_neededSort cse_yX11_neededSort (by decide +kernel) (by decide) rfl hl.1.1 (Nat.le_of_ble_eq_true rfl) dX11_addRule_10 rfl hw (fun h0 H locs cells slots hw => ?_) (fun h0 H locs cells slots q ce hw h1 h2 h3 => ?_)
      · rcases hf with ⟨-, hf⟩ | ⟨hk, -⟩
        · skip
          refine cl_istore_n (lv' := [(2, .int (rI z7)), (0, cR x0), (1, cR x1)]) hx hb dX11_addRule_13 rfl hl (by decide) rfl (fun ls hl => ?_)
          refine cl_aload_n hx hb dX11_addRule_14 rfl (lv_at hl.1 1 rfl) ?_
          refine cl_aload_n hx hb dX11_addRule_15 rfl (lv_at hl.1 2 rfl) ?_
          obtain ⟨z8, ez8, iz8, rz8, hf⟩ := cc_g_s hw hf
          refine cw_get (val := cR z8) B hw rz8 ⟨by decide, by decide⟩ (by decide) cwi_10 cfl_11_230 ez8 rfl dX11_addRule_16 ?_
          obtain ⟨qσ9, hf⟩ := cc_t_s hf
          obtain ⟨σ9, kv10, z11, hσ9, hf⟩ := cc_cl_s hf
          obtain ⟨iz11, mσ9⟩ := hR 115 σ5 [x0, z8] σ9 kv10 z11 hσ9
          have mσ9 : cw_Met l v yX11_neededSort cX11_neededSort 3 (some .int) d [cR x0, cR z8] σ5 σ9 kv10 (some (.int (rI z11))) := mσ9 ix0 iz8
          refine cw_cv (b := x0) (t := 12) (n := 1) (rest := []) (As := [cR z8]) B mσ9 qσ9 ⟨by decide, by decide⟩ cgo_yX11_neededSort cml_11_275 cin_yX11_neededSort cse_yX11_neededSort (by decide +kernel) (by decide) rfl hl.1.1 (Nat.le_of_ble_eq_true rfl) dX11_addRule_19 rfl hw (fun h0 H locs cells slots hw => ?_) (fun h0 H locs cells slots q ce hw h1 h2 h3 => ?_)
          · rcases hf with ⟨-, hf⟩ | ⟨hk, -⟩
            · skip
              refine cl_istore_n (lv' := [(3, .int (rI z11)), (2, .int (rI z7)), (0, cR x0), (1, cR x1)]) hx hb dX11_addRule_22 rfl hl (by decide) rfl (fun ls hl => ?_)
              refine cl_aload_n hx hb dX11_addRule_23 rfl (lv_at hl.1 2 rfl) ?_
              refine cl_aload_n hx hb dX11_addRule_24 rfl (lv_at hl.1 3 rfl) ?_
              obtain ⟨z12, ez12, iz12, rz12, hf⟩ := cc_g_s hw hf
              refine cw_get (val := cR z12) B hw rz12 ⟨by decide, by decide⟩ (by decide) cwi_10 cfl_11_281 ez12 rfl dX11_addRule_25 ?_
              obtain ⟨qσ13, hf⟩ := cc_t_s hf
              obtain ⟨σ13, kv14, z15, hσ13, hf⟩ := cc_cl_s hf
              obtain ⟨iz15, mσ13⟩ := hR 115 σ9 [x0, z12] σ13 kv14 z15 hσ13
              have mσ13 : cw_Met l v yX11_neededSort cX11_neededSort 3 (some .int) d [cR x0, cR z12] σ9 σ13 kv14 (some (.int (rI z15))) := mσ13 ix0 iz12
              refine cw_cv (b := x0) (t := 12) (n := 1) (rest := []) (As := [cR z12]) B mσ13 qσ13 ⟨by decide, by decide⟩ cgo_yX11_neededSort cml_11_275 cin_yX11_neededSort cse_yX11_neededSort (by decide +kernel) (by decide) rfl hl.1.1 (Nat.le_of_ble_eq_true rfl) dX11_addRule_28 rfl hw (fun h0 H locs cells slots hw => ?_) (fun h0 H locs cells slots q ce hw h1 h2 h3 => ?_)
              · rcases hf with ⟨-, hf⟩ | ⟨hk, -⟩
                · skip
                  refine cl_istore (lv' := [(4, .int (rI z15)), (3, .int (rI z11)), (2, .int (rI z7)), (0, cR x0), (1, cR x1)]) hx hb dX11_addRule_31 hl (by decide) rfl (fun ls hl => ?_)
                  refine cl_aload_n hx hb dX11_addRule_33 rfl (lv_at hl.1 3 rfl) ?_
                  obtain ⟨z16, ez16, iz16, rz16, hf⟩ := cc_g_s hw hf
                  refine cw_get (val := cR z16) B hw rz16 ⟨by decide, by decide⟩ (by decide) cwi_12 cfl_11_23 ez16 rfl dX11_addRule_34 ?_
                  refine lv_iload_n hx hb dX11_addRule_37 rfl (lv_at hl.1 2 rfl) ?_
                  refine lv_iload_n hx hb dX11_addRule_38 rfl (lv_at hl.1 1 rfl) ?_
                  obtain ⟨qσ17, hf⟩ := cc_t_s hf
                  obtain ⟨σ17, kv18, z19, hσ17, hf⟩ := cc_cl_s hf
                  obtain ⟨iz19, mσ17⟩ := hR 5 σ13 [z16, z7, z11] σ17 kv18 z19 hσ17
                  have mσ17 : cw_Met l v yX0_ruleOf cX0_ruleOf 3 (some .int) d [cR z16, .int (rI z7), .int (rI z11)] σ13 σ17 kv18 (some (.int (rI z19))) := mσ17 iz16 iz7 iz11
                  refine cw_cv (b := z16) (t := 1) (n := 2) (rest := []) (As := [.int (rI z7), .int (rI z11)]) B mσ17 qσ17 ⟨by decide, by decide⟩ cgo_yX0_ruleOf cml_11_142 cin_yX0_ruleOf cse_yX0_ruleOf (by decide +kernel) (by decide) rfl hl.1.1 (Nat.le_of_ble_eq_true rfl) dX11_addRule_39 rfl hw (fun h0 H locs cells slots hw => ?_) (fun h0 H locs cells slots q ce hw h1 h2 h3 => ?_)
                  · rcases hf with ⟨-, hf⟩ | ⟨hk, -⟩
                    · skip
                      refine lv_iconst (v := rI (-1)) hx hb dX11_addRule_42 rfl ?_
                      refine rn_icmp_eq (a := z19) (b := (-1)) (tgt := 69) hx hb iz19 ⟨by decide, by decide⟩ dX11_addRule_43 (by decide) (fun c20 => ?_) (fun c20 => ?_)
                      · replace hf := cc_if_t hf c20
                        refine cl_aload_n hx hb dX11_addRule_69 rfl (lv_at hl.1 3 rfl) ?_
                        obtain ⟨z21, ez21, iz21, rz21, hf⟩ := cc_g_s hw hf
                        refine cw_get (val := cR z21) B hw rz21 ⟨by decide, by decide⟩ (by decide) cwi_12 cfl_11_23 ez21 rfl dX11_addRule_70 ?_
                        refine lv_iload_n hx hb dX11_addRule_73 rfl (lv_at hl.1 2 rfl) ?_
                        refine lv_iload_n hx hb dX11_addRule_74 rfl (lv_at hl.1 1 rfl) ?_
                        refine lv_iload hx hb dX11_addRule_75 (lv_at hl.1 0 rfl) ?_
                        obtain ⟨qσ22, hf⟩ := cc_t_s hf
                        obtain ⟨σ22, kv23, z24, hσ22, hf⟩ := cc_cl_s hf
                        obtain ⟨iz24, mσ22⟩ := hR 7 σ17 [z21, z7, z11, z15] σ22 kv23 z24 hσ22
                        have mσ22 : cw_Met l v yX0_setRule cX0_setRule 4 none d [cR z21, .int (rI z7), .int (rI z11), .int (rI z15)] σ17 σ22 kv23 none := mσ22 iz21 iz7 iz11 iz15
                        refine cw_cv (b := z21) (t := 1) (n := 3) (rest := []) (As := [.int (rI z7), .int (rI z11), .int (rI z15)]) B mσ22 qσ22 ⟨by decide, by decide⟩ cgo_yX0_setRule cml_11_284 cin_yX0_setRule cse_yX0_setRule (by decide +kernel) (by decide) rfl hl.1.1 (Nat.le_of_ble_eq_true rfl) dX11_addRule_77 rfl hw (fun h0 H locs cells slots hw => ?_) (fun h0 H locs cells slots q ce hw h1 h2 h3 => ?_)
                        · rcases hf with ⟨-, hf⟩ | ⟨hk, -⟩
                          · skip
                            exact cw_retv B hf hw dX11_addRule_80
                          · exact absurd h0 hk
                        · rcases hf with ⟨hk, -⟩ | ⟨-, hf⟩
                          · exact absurd hk h0
                          · cases hf
                            exact cw_xout B hnh h0 hw h1 h2 h3
                      · replace hf := cc_if_f hf c20
                        refine cl_aload_n hx hb dX11_addRule_46 rfl (lv_at hl.1 3 rfl) ?_
                        obtain ⟨z25, ez25, iz25, rz25, hf⟩ := cc_g_s hw hf
                        refine cw_get (val := cR z25) B hw rz25 ⟨by decide, by decide⟩ (by decide) cwi_12 cfl_11_16 ez25 rfl dX11_addRule_47 ?_
                        refine lv_iconst (v := rI 4) hx hb dX11_addRule_50 rfl ?_
                        refine cl_aload_n hx hb dX11_addRule_51 rfl (lv_at hl.1 4 rfl) ?_
                        obtain ⟨z26, ez26, iz26, rz26, hf⟩ := cc_g_s hw hf
                        refine cw_get (val := cR z26) B hw rz26 ⟨by decide, by decide⟩ (by decide) cwi_10 cfl_11_250 ez26 rfl dX11_addRule_52 ?_
                        obtain ⟨z27, ez27, iz27, rz27, hf⟩ := cc_g_s hw hf
                        refine cw_get (val := .int (rI z27)) B hw rz27 ⟨by decide, by decide⟩ (by decide) cwi_7 cfl_11_256 ez27 rfl dX11_addRule_55 ?_
                        obtain ⟨qσ28, hf⟩ := cc_t_s hf
                        obtain ⟨σ28, kv29, z30, hσ28, hf⟩ := cc_cl_s hf
                        obtain ⟨iz30, mσ28⟩ := hR 95 σ17 [z25, 4, z27] σ28 kv29 z30 hσ28
                        have mσ28 : cw_Met l v yX10_set cX10_set 3 none d [cR z25, .int (rI 4), .int (rI z27)] σ17 σ28 kv29 none := mσ28 iz25 ⟨by decide, by decide⟩ iz27
                        refine cw_cv (b := z25) (t := 11) (n := 2) (rest := []) (As := [.int (rI 4), .int (rI z27)]) B mσ28 qσ28 ⟨by decide, by decide⟩ cgo_yX10_set cml_11_257 cin_yX10_set cse_yX10_set (by decide +kernel) (by decide) rfl hl.1.1 (Nat.le_of_ble_eq_true rfl) dX11_addRule_58 rfl hw (fun h0 H locs cells slots hw => ?_) (fun h0 H locs cells slots q ce hw h1 h2 h3 => ?_)
                        · rcases hf with ⟨-, hf⟩ | ⟨hk, -⟩
                          · skip
                            obtain ⟨hy, hm⟩ := cc_x_s hf
                            obtain ⟨hy1, hy2⟩ := Prod.mk.inj hy
                            obtain ⟨hy2, hy3⟩ := Prod.mk.inj hy2
                            subst hy2
                            refine cw_throw (rest := []) B hnh htr hw (by decide) (by decide +kernel) cxc_11_158 cxi_1 (cw_hat cxa_11_160 (by decide +kernel) hts hK.1) (List.all_eq_true.mp cxg_11_160) hd5 hm hy1 hl.1.1 (Nat.le_of_ble_eq_true rfl) dX11_addRule_61 dX11_addRule_64 dX11_addRule_65 dX11_addRule_68
                          · exact absurd h0 hk
                        · rcases hf with ⟨hk, -⟩ | ⟨-, hf⟩
                          · exact absurd hk h0
                          · cases hf
                            exact cw_xout B hnh h0 hw h1 h2 h3
                    · exact absurd h0 hk
                  · rcases hf with ⟨hk, -⟩ | ⟨-, hf⟩
                    · exact absurd hk h0
                    · cases hf
                      exact cw_xout B hnh h0 hw h1 h2 h3
                · exact absurd h0 hk
              · rcases hf with ⟨hk, -⟩ | ⟨-, hf⟩
                · exact absurd hk h0
                · cases hf
                  exact cw_xout B hnh h0 hw h1 h2 h3
            · exact absurd h0 hk
          · rcases hf with ⟨hk, -⟩ | ⟨-, hf⟩
            · exact absurd hk h0
            · cases hf
              exact cw_xout B hnh h0 hw h1 h2 h3
        · exact absurd h0 hk
      · rcases hf with ⟨hk, -⟩ | ⟨-, hf⟩
        · exact absurd hk h0
        · cases hf
          exact cw_xout B hnh h0 hw h1 h2 h3
    · exact absurd h0 hk
  · rcases hf with ⟨hk, -⟩ | ⟨-, hf⟩
    · exact absurd hk h0
    · cases hf
      exact cw_xout B hnh h0 hw h1 h2 h3

set_option maxHeartbeats 4000000 in
set_option maxRecDepth 100000 in
theorem pm_X11_addRule {v : cwE} {bd : Nat × Nat} {l : Launch} {d : Nat} {rec : Nat → CS → List Int → CO} (hbd : bd = (v.2.2.1, v.2.2.2.1)) (hR : cw_Rec l v d rec) (htr : l.stackTraces = false) (hd5 : 5 ≤ d) (σ σ' : CS) (x0 x1 : Int) (kd : Nat) (r : Int) (ix0 : inR x0) (ix1 : inR x1) (hf : pc_X11_addRule_0 rec bd σ x0 x1 = some (σ', kd, r)) : cw_Met l v yX11_addRule cX11_addRule 5 none (d + 1) [cR x0, cR x1] σ σ' kd none := by
  refine cw_ofW (by decide +kernel) ?_
  intro p e s m args below meth c s₁ B hml hv
  obtain ⟨rfl, hM, hK⟩ := hv
  have hts := atoms_spec (ws := Cond.code yX11_addRule cX11_addRule 5 none :: cw_bw) B.pre
  have hB : cw_B v RX11 p s m _ meth c cX11_addRule 5 none := ⟨B.exec, B.bytes, B.returns, hml, findClass_of_methodNamed B.named, fun w h => hts w (List.mem_cons_of_mem _ h), B.notSynchronized, hK⟩
  have hnh := cc_nh B (hts _ List.mem_cons_self)
  rw [lg_entry_eq]
  obtain ⟨ls, hls, hl⟩ := cl_ent [cR x0, cR x1] 5 (cl_1r (cl_1r cl_10)) (Nat.le_of_ble_eq_true rfl)
  rw [hls]
  exact pw_X11_addRule_0 hbd hR htr hd5 hB hnh σ x0 x1 ix0 ix1 hf _ _ _ _ _ (cw_W0 hM) (cl_sub hl [0, 1] rfl)

set_option maxHeartbeats 4000000 in
set_option maxRecDepth 100000 in
theorem pw_X11_addSort_0 {v : cwE} {bd : Nat × Nat} {p : Program} {l : Launch} {e : Env} {s : State} {m : MethodId} {args : Array Value} {below : List Frame} {meth : Method} {c : Code} {d : Nat} {rec : Nat → CS → List Int → CO} {σ0 σ' : CS} {kd : Nat} {r : Int} (hbd : bd = (v.2.2.1, v.2.2.2.1)) (hR : cw_Rec l v d rec) (htr : l.stackTraces = false) (hd5 : 5 ≤ d) (B : cw_B v RX11 p s m args meth c cX11_addSort 2 none) (hnh : ∀ x ∈ c.exceptionTable.toList, False) : ∀ (σ : CS) (x0 x1 : Int), inR x0 → inR x1 → pc_X11_addSort_0 rec bd σ x0 x1 = some (σ', kd, r) → ∀ (H : Heap) (locs : List Loc) (cells slots : Nat) (ls : Array Slot), cw_W v s σ0 σ H locs cells slots → cl_has ls 2 [(0, cR x0), (1, cR x1)] → W p l e (cw_rm v (d + 1) σ0) s m args below meth c H locs cells slots (cw_Z below v σ0 σ' kd none args s) (F0 m 0 ls []) := by
  subst hbd
  obtain ⟨hx, hb, hr, hml, hown, hts, hlk, hK⟩ := id B
  intro σ x0 x1 ix0 ix1 hf H locs cells slots ls hw hl
  unfold pc_X11_addSort_0 at hf
  refine cl_aload_n hx hb dX11_addSort_0 rfl (lv_at hl.1 0 rfl) ?_
  refine cl_aload_n hx hb dX11_addSort_1 rfl (lv_at hl.1 1 rfl) ?_
  obtain ⟨qσ1, hf⟩ := cc_t_s hf
  obtain ⟨σ1, kv2, z3, hσ1, hf⟩ := cc_cl_s hf
  obtain ⟨iz3, mσ1⟩ := hR 119 σ [x0, x1] σ1 kv2 z3 hσ1
  have mσ1 : cw_Met l v yX11_refuseBesideNames cX11_refuseBesideNames 2 none d [cR x0, cR x1] σ σ1 kv2 none := mσ1 ix0 ix1
  refine cw_cv (b := x0) (t := 12) (n := 1) (rest := []) (As := [cR x1]) B mσ1 qσ1 ⟨by decide, by decide⟩ cgo_yX11_refuseBesideNames cml_11_247 cin_yX11_refuseBesideNames cse_yX11_refuseBesideNames (by decide +kernel) (by decide) rfl hl.1.1 (Nat.le_of_ble_eq_true rfl) dX11_addSort_2 rfl hw (fun h0 H locs cells slots hw => ?_) (fun h0 H locs cells slots q ce hw h1 h2 h3 => ?_)
  · rcases hf with ⟨-, hf⟩ | ⟨hk, -⟩
    · skip
      refine cl_aload_n hx hb dX11_addSort_5 rfl (lv_at hl.1 0 rfl) ?_
      refine cl_aload_n hx hb dX11_addSort_6 rfl (lv_at hl.1 1 rfl) ?_
      obtain ⟨z4, ez4, iz4, rz4, hf⟩ := cc_g_s hw hf
      refine cw_get (val := cR z4) B hw rz4 ⟨by decide, by decide⟩ (by decide) cwi_10 cfl_11_250 ez4 rfl dX11_addSort_7 ?_
      obtain ⟨qσ5, hf⟩ := cc_t_s hf
      obtain ⟨σ5, kv6, z7, hσ5, hf⟩ := cc_cl_s hf
      obtain ⟨iz7, mσ5⟩ := hR 123 σ1 [x0, z4] σ5 kv6 z7 hσ5
      have mσ5 : cw_Met l v yX11_sortNumber cX11_sortNumber 2 (some .int) d [cR x0, cR z4] σ1 σ5 kv6 (some (.int (rI z7))) := mσ5 ix0 iz4
      refine cw_cv (b := x0) (t := 12) (n := 1) (rest := []) (As := [cR z4]) B mσ5 qσ5 ⟨by decide, by decide⟩ cgo_yX11_sortNumber cml_11_253 cin_yX11_sortNumber cse_yX11_sortNumber (by decide +kernel) (by decide) rfl hl.1.1 (Nat.le_of_ble_eq_true rfl) dX11_addSort_10 rfl hw (fun h0 H locs cells slots hw => ?_) (fun h0 H locs cells slots q ce hw h1 h2 h3 => ?_)
      · rcases hf with ⟨-, hf⟩ | ⟨hk, -⟩
        · skip
          refine lv_iconst (v := rI (-1)) hx hb dX11_addSort_13 rfl ?_
          refine rn_icmp_eq (a := z7) (b := (-1)) (tgt := 40) hx hb iz7 ⟨by decide, by decide⟩ dX11_addSort_14 (by decide) (fun c8 => ?_) (fun c8 => ?_)
          · replace hf := cc_if_t hf c8
            refine cl_aload_n hx hb dX11_addSort_40 rfl (lv_at hl.1 0 rfl) ?_
            obtain ⟨z9, ez9, iz9, rz9, hf⟩ := cc_g_s hw hf
            refine cw_get (val := cR z9) B hw rz9 ⟨by decide, by decide⟩ (by decide) cwi_12 cfl_11_23 ez9 rfl dX11_addSort_41 ?_
            obtain ⟨z10, ez10, iz10, rz10, hf⟩ := cc_g_s hw hf
            refine cw_get (val := cR z10) B hw rz10 ⟨by decide, by decide⟩ (by decide) cwi_1 cfl_11_109 ez10 rfl dX11_addSort_44 ?_
            obtain ⟨qσ11, hf⟩ := cc_t_s hf
            obtain ⟨σ11, kv12, z13, hσ11, hf⟩ := cc_cl_s hf
            obtain ⟨iz13, mσ11⟩ := hR 57 σ5 [z10] σ11 kv12 z13 hσ11
            have mσ11 : cw_Met l v yX5_isFull cX5_isFull 1 (some .boolean) d [cR z10] σ5 σ11 kv12 (some (.int (rI z13))) := mσ11 iz10
            refine cw_cv (b := z10) (t := 6) (n := 0) (rest := []) (As := []) B mσ11 qσ11 ⟨by decide, by decide⟩ cgo_yX5_isFull cml_11_261 cin_yX5_isFull cse_yX5_isFull (by decide +kernel) (by decide) rfl hl.1.1 (Nat.le_of_ble_eq_true rfl) dX11_addSort_47 rfl hw (fun h0 H locs cells slots hw => ?_) (fun h0 H locs cells slots q ce hw h1 h2 h3 => ?_)
            · rcases hf with ⟨-, hf⟩ | ⟨hk, -⟩
              · skip
                refine rn_if_eq (a := z13) (tgt := 76) hx hb iz13 dX11_addSort_50 (by decide) (fun c14 => ?_) (fun c14 => ?_)
                · replace hf := cc_if_t hf c14
                  refine cl_aload_n hx hb dX11_addSort_76 rfl (lv_at hl.1 0 rfl) ?_
                  obtain ⟨z15, ez15, iz15, rz15, hf⟩ := cc_g_s hw hf
                  refine cw_get (val := cR z15) B hw rz15 ⟨by decide, by decide⟩ (by decide) cwi_12 cfl_11_23 ez15 rfl dX11_addSort_77 ?_
                  obtain ⟨z16, ez16, iz16, rz16, hf⟩ := cc_g_s hw hf
                  refine cw_get (val := cR z16) B hw rz16 ⟨by decide, by decide⟩ (by decide) cwi_1 cfl_11_109 ez16 rfl dX11_addSort_80 ?_
                  refine cl_aload_n hx hb dX11_addSort_83 rfl (lv_at hl.1 0 rfl) ?_
                  obtain ⟨z17, ez17, iz17, rz17, hf⟩ := cc_g_s hw hf
                  refine cw_get (val := cR z17) B hw rz17 ⟨by decide, by decide⟩ (by decide) cwi_12 cfl_11_9 ez17 rfl dX11_addSort_84 ?_
                  refine cl_aload_n hx hb dX11_addSort_87 rfl (lv_at hl.1 1 rfl) ?_
                  obtain ⟨z18, ez18, iz18, rz18, hf⟩ := cc_g_s hw hf
                  refine cw_get (val := cR z18) B hw rz18 ⟨by decide, by decide⟩ (by decide) cwi_10 cfl_11_250 ez18 rfl dX11_addSort_88 ?_
                  obtain ⟨z19, ez19, iz19, rz19, hf⟩ := cc_g_s hw hf
                  refine cw_get (val := .int (rI z19)) B hw rz19 ⟨by decide, by decide⟩ (by decide) cwi_7 cfl_11_265 ez19 rfl dX11_addSort_91 ?_
                  refine cl_aload_n hx hb dX11_addSort_94 rfl (lv_at hl.1 1 rfl) ?_
                  obtain ⟨z20, ez20, iz20, rz20, hf⟩ := cc_g_s hw hf
                  refine cw_get (val := cR z20) B hw rz20 ⟨by decide, by decide⟩ (by decide) cwi_10 cfl_11_250 ez20 rfl dX11_addSort_95 ?_
                  obtain ⟨z21, ez21, iz21, rz21, hf⟩ := cc_g_s hw hf
                  refine cw_get (val := .int (rI z21)) B hw rz21 ⟨by decide, by decide⟩ (by decide) cwi_7 cfl_11_268 ez21 rfl dX11_addSort_98 ?_
                  obtain ⟨qσ22, hf⟩ := cc_t_s hf
                  obtain ⟨σ22, kv23, z24, hσ22, hf⟩ := cc_cl_s hf
                  obtain ⟨iz24, mσ22⟩ := hR 52 σ11 [z16, z17, z19, z21] σ22 kv23 z24 hσ22
                  have mσ22 : cw_Met l v yX5_add cX5_add 5 none d [cR z16, cR z17, .int (rI z19), .int (rI z21)] σ11 σ22 kv23 none := mσ22 iz16 iz17 iz19 iz21
                  refine cw_cv (b := z16) (t := 6) (n := 3) (rest := []) (As := [cR z17, .int (rI z19), .int (rI z21)]) B mσ22 qσ22 ⟨by decide, by decide⟩ cgo_yX5_add cml_11_271 cin_yX5_add cse_yX5_add (by decide +kernel) (by decide) rfl hl.1.1 (Nat.le_of_ble_eq_true rfl) dX11_addSort_101 rfl hw (fun h0 H locs cells slots hw => ?_) (fun h0 H locs cells slots q ce hw h1 h2 h3 => ?_)
                  · rcases hf with ⟨-, hf⟩ | ⟨hk, -⟩
                    · skip
                      exact cw_retv B hf hw dX11_addSort_104
                    · exact absurd h0 hk
                  · rcases hf with ⟨hk, -⟩ | ⟨-, hf⟩
                    · exact absurd hk h0
                    · cases hf
                      exact cw_xout B hnh h0 hw h1 h2 h3
                · replace hf := cc_if_f hf c14
                  refine cl_aload_n hx hb dX11_addSort_53 rfl (lv_at hl.1 0 rfl) ?_
                  obtain ⟨z25, ez25, iz25, rz25, hf⟩ := cc_g_s hw hf
                  refine cw_get (val := cR z25) B hw rz25 ⟨by decide, by decide⟩ (by decide) cwi_12 cfl_11_16 ez25 rfl dX11_addSort_54 ?_
                  refine lv_iconst (v := rI 5) hx hb dX11_addSort_57 rfl ?_
                  refine cl_aload_n hx hb dX11_addSort_58 rfl (lv_at hl.1 1 rfl) ?_
                  obtain ⟨z26, ez26, iz26, rz26, hf⟩ := cc_g_s hw hf
                  refine cw_get (val := cR z26) B hw rz26 ⟨by decide, by decide⟩ (by decide) cwi_10 cfl_11_250 ez26 rfl dX11_addSort_59 ?_
                  obtain ⟨z27, ez27, iz27, rz27, hf⟩ := cc_g_s hw hf
                  refine cw_get (val := .int (rI z27)) B hw rz27 ⟨by decide, by decide⟩ (by decide) cwi_7 cfl_11_256 ez27 rfl dX11_addSort_62 ?_
                  obtain ⟨qσ28, hf⟩ := cc_t_s hf
                  obtain ⟨σ28, kv29, z30, hσ28, hf⟩ := cc_cl_s hf
                  obtain ⟨iz30, mσ28⟩ := hR 95 σ11 [z25, 5, z27] σ28 kv29 z30 hσ28
                  have mσ28 : cw_Met l v yX10_set cX10_set 3 none d [cR z25, .int (rI 5), .int (rI z27)] σ11 σ28 kv29 none := mσ28 iz25 ⟨by decide, by decide⟩ iz27
                  refine cw_cv (b := z25) (t := 11) (n := 2) (rest := []) (As := [.int (rI 5), .int (rI z27)]) B mσ28 qσ28 ⟨by decide, by decide⟩ cgo_yX10_set cml_11_257 cin_yX10_set cse_yX10_set (by decide +kernel) (by decide) rfl hl.1.1 (Nat.le_of_ble_eq_true rfl) dX11_addSort_65 rfl hw (fun h0 H locs cells slots hw => ?_) (fun h0 H locs cells slots q ce hw h1 h2 h3 => ?_)
                  · rcases hf with ⟨-, hf⟩ | ⟨hk, -⟩
                    · skip
                      obtain ⟨hy, hm⟩ := cc_x_s hf
                      obtain ⟨hy1, hy2⟩ := Prod.mk.inj hy
                      obtain ⟨hy2, hy3⟩ := Prod.mk.inj hy2
                      subst hy2
                      refine cw_throw (rest := []) B hnh htr hw (by decide) (by decide +kernel) cxc_11_158 cxi_1 (cw_hat cxa_11_160 (by decide +kernel) hts hK.1) (List.all_eq_true.mp cxg_11_160) hd5 hm hy1 hl.1.1 (Nat.le_of_ble_eq_true rfl) dX11_addSort_68 dX11_addSort_71 dX11_addSort_72 dX11_addSort_75
                    · exact absurd h0 hk
                  · rcases hf with ⟨hk, -⟩ | ⟨-, hf⟩
                    · exact absurd hk h0
                    · cases hf
                      exact cw_xout B hnh h0 hw h1 h2 h3
              · exact absurd h0 hk
            · rcases hf with ⟨hk, -⟩ | ⟨-, hf⟩
              · exact absurd hk h0
              · cases hf
                exact cw_xout B hnh h0 hw h1 h2 h3
          · replace hf := cc_if_f hf c8
            refine cl_aload_n hx hb dX11_addSort_17 rfl (lv_at hl.1 0 rfl) ?_
            obtain ⟨z31, ez31, iz31, rz31, hf⟩ := cc_g_s hw hf
            refine cw_get (val := cR z31) B hw rz31 ⟨by decide, by decide⟩ (by decide) cwi_12 cfl_11_16 ez31 rfl dX11_addSort_18 ?_
            refine lv_iconst (v := rI 4) hx hb dX11_addSort_21 rfl ?_
            refine cl_aload_n hx hb dX11_addSort_22 rfl (lv_at hl.1 1 rfl) ?_
            obtain ⟨z32, ez32, iz32, rz32, hf⟩ := cc_g_s hw hf
            refine cw_get (val := cR z32) B hw rz32 ⟨by decide, by decide⟩ (by decide) cwi_10 cfl_11_250 ez32 rfl dX11_addSort_23 ?_
            obtain ⟨z33, ez33, iz33, rz33, hf⟩ := cc_g_s hw hf
            refine cw_get (val := .int (rI z33)) B hw rz33 ⟨by decide, by decide⟩ (by decide) cwi_7 cfl_11_256 ez33 rfl dX11_addSort_26 ?_
            obtain ⟨qσ34, hf⟩ := cc_t_s hf
            obtain ⟨σ34, kv35, z36, hσ34, hf⟩ := cc_cl_s hf
            obtain ⟨iz36, mσ34⟩ := hR 95 σ5 [z31, 4, z33] σ34 kv35 z36 hσ34
            have mσ34 : cw_Met l v yX10_set cX10_set 3 none d [cR z31, .int (rI 4), .int (rI z33)] σ5 σ34 kv35 none := mσ34 iz31 ⟨by decide, by decide⟩ iz33
            refine cw_cv (b := z31) (t := 11) (n := 2) (rest := []) (As := [.int (rI 4), .int (rI z33)]) B mσ34 qσ34 ⟨by decide, by decide⟩ cgo_yX10_set cml_11_257 cin_yX10_set cse_yX10_set (by decide +kernel) (by decide) rfl hl.1.1 (Nat.le_of_ble_eq_true rfl) dX11_addSort_29 rfl hw (fun h0 H locs cells slots hw => ?_) (fun h0 H locs cells slots q ce hw h1 h2 h3 => ?_)
            · rcases hf with ⟨-, hf⟩ | ⟨hk, -⟩
              · skip
                obtain ⟨hy, hm⟩ := cc_x_s hf
                obtain ⟨hy1, hy2⟩ := Prod.mk.inj hy
                obtain ⟨hy2, hy3⟩ := Prod.mk.inj hy2
                subst hy2
                refine cw_throw (rest := []) B hnh htr hw (by decide) (by decide +kernel) cxc_11_158 cxi_1 (cw_hat cxa_11_160 (by decide +kernel) hts hK.1) (List.all_eq_true.mp cxg_11_160) hd5 hm hy1 hl.1.1 (Nat.le_of_ble_eq_true rfl) dX11_addSort_32 dX11_addSort_35 dX11_addSort_36 dX11_addSort_39
              · exact absurd h0 hk
            · rcases hf with ⟨hk, -⟩ | ⟨-, hf⟩
              · exact absurd hk h0
              · cases hf
                exact cw_xout B hnh h0 hw h1 h2 h3
        · exact absurd h0 hk
      · rcases hf with ⟨hk, -⟩ | ⟨-, hf⟩
        · exact absurd hk h0
        · cases hf
          exact cw_xout B hnh h0 hw h1 h2 h3
    · exact absurd h0 hk
  · rcases hf with ⟨hk, -⟩ | ⟨-, hf⟩
    · exact absurd hk h0
    · cases hf
      exact cw_xout B hnh h0 hw h1 h2 h3

set_option maxHeartbeats 4000000 in
set_option maxRecDepth 100000 in
theorem pm_X11_addSort {v : cwE} {bd : Nat × Nat} {l : Launch} {d : Nat} {rec : Nat → CS → List Int → CO} (hbd : bd = (v.2.2.1, v.2.2.2.1)) (hR : cw_Rec l v d rec) (htr : l.stackTraces = false) (hd5 : 5 ≤ d) (σ σ' : CS) (x0 x1 : Int) (kd : Nat) (r : Int) (ix0 : inR x0) (ix1 : inR x1) (hf : pc_X11_addSort_0 rec bd σ x0 x1 = some (σ', kd, r)) : cw_Met l v yX11_addSort cX11_addSort 2 none (d + 1) [cR x0, cR x1] σ σ' kd none := by
  refine cw_ofW (by decide +kernel) ?_
  intro p e s m args below meth c s₁ B hml hv
  obtain ⟨rfl, hM, hK⟩ := hv
  have hts := atoms_spec (ws := Cond.code yX11_addSort cX11_addSort 2 none :: cw_bw) B.pre
  have hB : cw_B v RX11 p s m _ meth c cX11_addSort 2 none := ⟨B.exec, B.bytes, B.returns, hml, findClass_of_methodNamed B.named, fun w h => hts w (List.mem_cons_of_mem _ h), B.notSynchronized, hK⟩
  have hnh := cc_nh B (hts _ List.mem_cons_self)
  rw [lg_entry_eq]
  obtain ⟨ls, hls, hl⟩ := cl_ent [cR x0, cR x1] 2 (cl_1r (cl_1r cl_10)) (Nat.le_of_ble_eq_true rfl)
  rw [hls]
  exact pw_X11_addSort_0 hbd hR htr hd5 hB hnh σ x0 x1 ix0 ix1 hf _ _ _ _ _ (cw_W0 hM) (cl_sub hl [0, 1] rfl)

set_option maxHeartbeats 4000000 in
set_option maxRecDepth 100000 in
theorem pw_X11_back_28 {v : cwE} {bd : Nat × Nat} {p : Program} {l : Launch} {e : Env} {s : State} {m : MethodId} {args : Array Value} {below : List Frame} {meth : Method} {c : Code} {d : Nat} {rec : Nat → CS → List Int → CO} {σ0 σ' : CS} {kd : Nat} {r : Int} (hbd : bd = (v.2.2.1, v.2.2.2.1)) (hR : cw_Rec l v d rec) (htr : l.stackTraces = false) (hd5 : 5 ≤ d) (B : cw_B v RX11 p s m args meth c cX11_back 1 (some .int)) (hnh : ∀ x ∈ c.exceptionTable.toList, False) : ∀ (σ : CS), pc_X11_back_28 rec bd σ = some (σ', kd, r) → ∀ (H : Heap) (locs : List Loc) (cells slots : Nat) (ls : Array Slot), cw_W v s σ0 σ H locs cells slots → cl_has ls 1 [] → W p l e (cw_rm v (d + 1) σ0) s m args below meth c H locs cells slots (cw_Z below v σ0 σ' kd (some (.int (rI r))) args s) (F0 m 28 ls []) := by
  subst hbd
  obtain ⟨hx, hb, hr, hml, hown, hts, hlk, hK⟩ := id B
  intro σ hf H locs cells slots ls hw hl
  unfold pc_X11_back_28 at hf
  obtain ⟨hy, hm⟩ := cc_x_s hf
  obtain ⟨hy1, hy2⟩ := Prod.mk.inj hy
  obtain ⟨hy2, hy3⟩ := Prod.mk.inj hy2
  subst hy2
  refine cw_throw (rest := []) B hnh htr hw (by decide) (by decide +kernel) cxc_11_158 cxi_1 (cw_hat cxa_11_160 (by decide +kernel) hts hK.1) (List.all_eq_true.mp cxg_11_160) hd5 hm hy1 hl.1.1 (Nat.le_of_ble_eq_true rfl) dX11_back_28 dX11_back_31 dX11_back_32 dX11_back_35

set_option maxHeartbeats 4000000 in
set_option maxRecDepth 100000 in
theorem pw_X11_back_0 {v : cwE} {bd : Nat × Nat} {p : Program} {l : Launch} {e : Env} {s : State} {m : MethodId} {args : Array Value} {below : List Frame} {meth : Method} {c : Code} {d : Nat} {rec : Nat → CS → List Int → CO} {σ0 σ' : CS} {kd : Nat} {r : Int} (hbd : bd = (v.2.2.1, v.2.2.2.1)) (hR : cw_Rec l v d rec) (htr : l.stackTraces = false) (hd5 : 5 ≤ d) (B : cw_B v RX11 p s m args meth c cX11_back 1 (some .int)) (hnh : ∀ x ∈ c.exceptionTable.toList, False) : ∀ (σ : CS) (x0 : Int), inR x0 → pc_X11_back_0 rec bd σ x0 = some (σ', kd, r) → ∀ (H : Heap) (locs : List Loc) (cells slots : Nat) (ls : Array Slot), cw_W v s σ0 σ H locs cells slots → cl_has ls 1 [(0, cR x0)] → W p l e (cw_rm v (d + 1) σ0) s m args below meth c H locs cells slots (cw_Z below v σ0 σ' kd (some (.int (rI r))) args s) (F0 m 0 ls []) := by
  subst hbd
  obtain ⟨hx, hb, hr, hml, hown, hts, hlk, hK⟩ := id B
  intro σ x0 ix0 hf H locs cells slots ls hw hl
  unfold pc_X11_back_0 at hf
  refine cl_aload_n hx hb dX11_back_0 rfl (lv_at hl.1 0 rfl) ?_
  obtain ⟨z1, ez1, iz1, rz1, hf⟩ := cc_g_s hw hf
  refine cw_get (val := cR z1) B hw rz1 ⟨by decide, by decide⟩ (by decide) cwi_12 cfl_11_23 ez1 rfl dX11_back_1 ?_
  obtain ⟨z2, ez2, iz2, rz2, hf⟩ := cc_g_s hw hf
  refine cw_get (val := .int (rI z2)) B hw rz2 ⟨by decide, by decide⟩ (by decide) cwi_1 cfl_11_118 ez2 rfl dX11_back_4 ?_
  refine rn_if_le (a := z2) (tgt := 28) hx hb iz2 dX11_back_7 (by decide) (fun c3 => ?_) (fun c3 => ?_)
  · replace hf := cc_if_t hf c3
    exact pw_X11_back_28 rfl hR htr hd5 B hnh σ hf _ _ _ _ _ hw (cl_sub hl [] rfl)
  · replace hf := cc_if_f hf c3
    refine cl_aload_n hx hb dX11_back_10 rfl (lv_at hl.1 0 rfl) ?_
    obtain ⟨z4, ez4, iz4, rz4, hf⟩ := cc_g_s hw hf
    refine cw_get (val := cR z4) B hw rz4 ⟨by decide, by decide⟩ (by decide) cwi_12 cfl_11_23 ez4 rfl dX11_back_11 ?_
    obtain ⟨z5, ez5, iz5, rz5, hf⟩ := cc_g_s hw hf
    refine cw_get (val := .int (rI z5)) B hw rz5 ⟨by decide, by decide⟩ (by decide) cwi_1 cfl_11_118 ez5 rfl dX11_back_14 ?_
    refine cl_aload_n hx hb dX11_back_17 rfl (lv_at hl.1 0 rfl) ?_
    obtain ⟨z6, ez6, iz6, rz6, hf⟩ := cc_g_s hw hf
    refine cw_get (val := cR z6) B hw rz6 ⟨by decide, by decide⟩ (by decide) cwi_12 cfl_11_23 ez6 rfl dX11_back_18 ?_
    obtain ⟨z7, ez7, iz7, rz7, hf⟩ := cc_g_s hw hf
    refine cw_get (val := cR z7) B hw rz7 ⟨by decide, by decide⟩ (by decide) cwi_1 cfl_11_155 ez7 rfl dX11_back_21 ?_
    obtain ⟨z8, ez8, iz8, rz8, hf⟩ := cc_l_s hf
    refine cw_len B hw rz8 (by decide) ez8 iz8 dX11_back_24 ?_
    refine rn_icmp_le (a := z5) (b := z8) (tgt := 36) hx hb iz5 iz8 dX11_back_25 (by decide) (fun c9 => ?_) (fun c9 => ?_)
    · replace hf := cc_if_t hf c9
      refine cl_aload_n hx hb dX11_back_36 rfl (lv_at hl.1 0 rfl) ?_
      obtain ⟨z10, ez10, iz10, rz10, hf⟩ := cc_g_s hw hf
      refine cw_get (val := cR z10) B hw rz10 ⟨by decide, by decide⟩ (by decide) cwi_12 cfl_11_23 ez10 rfl dX11_back_37 ?_
      refine lv_dup hx hb dX11_back_40 (cR_cat _) ?_
      obtain ⟨z11, ez11, iz11, rz11, hf⟩ := cc_g_s hw hf
      refine cw_get (val := .int (rI z11)) B hw rz11 ⟨by decide, by decide⟩ (by decide) cwi_1 cfl_11_118 ez11 rfl dX11_back_41 ?_
      refine lv_iconst (v := rI 1) hx hb dX11_back_44 rfl ?_
      obtain ⟨z12, ez12, iz12, hf⟩ := cc_ck_s hf
      refine rn_sub hx hb ez12 dX11_back_45 ?_
      obtain ⟨σ13, eσ13, rσ13, hf⟩ := cc_p_s hf
      refine cw_put B hw rσ13 cwt_1 (by decide) rfl cfl_11_118 iz12 eσ13 rfl (cw_fv_n rfl rfl) dX11_back_46 (fun H locs hw => ?_)
      refine cl_aload_n hx hb dX11_back_49 rfl (lv_at hl.1 0 rfl) ?_
      obtain ⟨z14, ez14, iz14, rz14, hf⟩ := cc_g_s hw hf
      refine cw_get (val := cR z14) B hw rz14 ⟨by decide, by decide⟩ (by decide) cwi_12 cfl_11_23 ez14 rfl dX11_back_50 ?_
      obtain ⟨z15, ez15, iz15, rz15, hf⟩ := cc_g_s hw hf
      refine cw_get (val := cR z15) B hw rz15 ⟨by decide, by decide⟩ (by decide) cwi_1 cfl_11_84 ez15 rfl dX11_back_53 ?_
      refine cl_aload_n hx hb dX11_back_56 rfl (lv_at hl.1 0 rfl) ?_
      obtain ⟨z16, ez16, iz16, rz16, hf⟩ := cc_g_s hw hf
      refine cw_get (val := cR z16) B hw rz16 ⟨by decide, by decide⟩ (by decide) cwi_12 cfl_11_23 ez16 rfl dX11_back_57 ?_
      obtain ⟨z17, ez17, iz17, rz17, hf⟩ := cc_g_s hw hf
      refine cw_get (val := cR z17) B hw rz17 ⟨by decide, by decide⟩ (by decide) cwi_1 cfl_11_155 ez17 rfl dX11_back_60 ?_
      refine cl_aload_n hx hb dX11_back_63 rfl (lv_at hl.1 0 rfl) ?_
      obtain ⟨z18, ez18, iz18, rz18, hf⟩ := cc_g_s hw hf
      refine cw_get (val := cR z18) B hw rz18 ⟨by decide, by decide⟩ (by decide) cwi_12 cfl_11_23 ez18 rfl dX11_back_64 ?_
      obtain ⟨z19, ez19, iz19, rz19, hf⟩ := cc_g_s hw hf
      refine cw_get (val := .int (rI z19)) B hw rz19 ⟨by decide, by decide⟩ (by decide) cwi_1 cfl_11_118 ez19 rfl dX11_back_67 ?_
      obtain ⟨z20, ez20, iz20, rz20, bz20, hf⟩ := cc_r_s hw hf
      refine cw_aldI B hw rz20 iz19 bz20 ez20 dX11_back_70 ?_
      obtain ⟨σ21, eσ21, rσ21, hf⟩ := cc_p_s hf
      refine cw_put B hw rσ21 cwt_6 (by decide) rfl cfl_11_88 iz20 eσ21 rfl (cw_fv_n rfl rfl) dX11_back_71 (fun H locs hw => ?_)
      refine cl_aload_n hx hb dX11_back_74 rfl (lv_at hl.1 0 rfl) ?_
      obtain ⟨z22, ez22, iz22, rz22, hf⟩ := cc_g_s hw hf
      refine cw_get (val := cR z22) B hw rz22 ⟨by decide, by decide⟩ (by decide) cwi_12 cfl_11_23 ez22 rfl dX11_back_75 ?_
      obtain ⟨z23, ez23, iz23, rz23, hf⟩ := cc_g_s hw hf
      refine cw_get (val := cR z23) B hw rz23 ⟨by decide, by decide⟩ (by decide) cwi_1 cfl_11_84 ez23 rfl dX11_back_78 ?_
      obtain ⟨z24, ez24, iz24, rz24, hf⟩ := cc_g_s hw hf
      refine cw_get (val := .int (rI z24)) B hw rz24 ⟨by decide, by decide⟩ (by decide) cwi_6 cfl_11_88 ez24 rfl dX11_back_81 ?_
      exact cw_reti B hf hw dX11_back_84
    · replace hf := cc_if_f hf c9
      exact pw_X11_back_28 rfl hR htr hd5 B hnh σ hf _ _ _ _ _ hw (cl_sub hl [] rfl)

set_option maxHeartbeats 4000000 in
set_option maxRecDepth 100000 in
theorem pm_X11_back {v : cwE} {bd : Nat × Nat} {l : Launch} {d : Nat} {rec : Nat → CS → List Int → CO} (hbd : bd = (v.2.2.1, v.2.2.2.1)) (hR : cw_Rec l v d rec) (htr : l.stackTraces = false) (hd5 : 5 ≤ d) (σ σ' : CS) (x0 : Int) (kd : Nat) (r : Int) (ix0 : inR x0) (hf : pc_X11_back_0 rec bd σ x0 = some (σ', kd, r)) : cw_Met l v yX11_back cX11_back 1 (some .int) (d + 1) [cR x0] σ σ' kd (some (.int (rI r))) := by
  refine cw_ofW (by decide +kernel) ?_
  intro p e s m args below meth c s₁ B hml hv
  obtain ⟨rfl, hM, hK⟩ := hv
  have hts := atoms_spec (ws := Cond.code yX11_back cX11_back 1 (some .int) :: cw_bw) B.pre
  have hB : cw_B v RX11 p s m _ meth c cX11_back 1 (some .int) := ⟨B.exec, B.bytes, B.returns, hml, findClass_of_methodNamed B.named, fun w h => hts w (List.mem_cons_of_mem _ h), B.notSynchronized, hK⟩
  have hnh := cc_nh B (hts _ List.mem_cons_self)
  rw [lg_entry_eq]
  obtain ⟨ls, hls, hl⟩ := cl_ent [cR x0] 1 (cl_1r cl_10) (Nat.le_of_ble_eq_true rfl)
  rw [hls]
  exact pw_X11_back_0 hbd hR htr hd5 hB hnh σ x0 ix0 hf _ _ _ _ _ (cw_W0 hM) (cl_sub hl [0] rfl)

set_option maxHeartbeats 4000000 in
set_option maxRecDepth 100000 in
theorem pw_X11_count_26 {v : cwE} {bd : Nat × Nat} {p : Program} {l : Launch} {e : Env} {s : State} {m : MethodId} {args : Array Value} {below : List Frame} {meth : Method} {c : Code} {d : Nat} {rec : Nat → CS → List Int → CO} {σ0 σ' : CS} {kd : Nat} {r : Int} (hbd : bd = (v.2.2.1, v.2.2.2.1)) (hR : cw_Rec l v d rec) (htr : l.stackTraces = false) (hd5 : 5 ≤ d) (B : cw_B v RX11 p s m args meth c cX11_count 2 (some .int)) (hnh : ∀ x ∈ c.exceptionTable.toList, False) : ∀ (σ : CS) (x0 x1 : Int), inR x0 → inR x1 → pc_X11_count_26 rec bd σ x0 x1 = some (σ', kd, r) → ∀ (H : Heap) (locs : List Loc) (cells slots : Nat) (ls : Array Slot), cw_W v s σ0 σ H locs cells slots → cl_has ls 2 [(0, cR x0), (1, .int (rI x1))] → W p l e (cw_rm v (d + 1) σ0) s m args below meth c H locs cells slots (cw_Z below v σ0 σ' kd (some (.int (rI r))) args s) (F0 m 26 ls []) := by
  subst hbd
  obtain ⟨hx, hb, hr, hml, hown, hts, hlk, hK⟩ := id B
  intro σ x0 x1 ix0 ix1 hf H locs cells slots ls hw hl
  unfold pc_X11_count_26 at hf
  refine lv_iload_n hx hb dX11_count_26 rfl (lv_at hl.1 1 rfl) ?_
  by_cases c1 : x1 = 7
  · replace hf := cc_if_t hf c1
    refine rn_tab (n := 7) (tgt := 68) hx hb ix1 c1 dX11_count_27 (by decide) (by decide) rfl (by decide) ?_
    refine cl_aload_n hx hb dX11_count_68 rfl (lv_at hl.1 0 rfl) ?_
    obtain ⟨z2, ez2, iz2, rz2, hf⟩ := cc_g_s hw hf
    refine cw_get (val := cR z2) B hw rz2 ⟨by decide, by decide⟩ (by decide) cwi_12 cfl_11_32 ez2 rfl dX11_count_69 ?_
    obtain ⟨z3, ez3, iz3, rz3, hf⟩ := cc_g_s hw hf
    refine cw_get (val := .int (rI z3)) B hw rz3 ⟨by decide, by decide⟩ (by decide) cwi_5 cfl_11_106 ez3 rfl dX11_count_72 ?_
    exact cw_reti B hf hw dX11_count_75
  · replace hf := cc_if_f hf c1
    by_cases c4 : x1 = 8
    · replace hf := cc_if_t hf c4
      refine rn_tab (n := 8) (tgt := 76) hx hb ix1 c4 dX11_count_27 (by decide) (by decide) rfl (by decide) ?_
      refine cl_aload_n hx hb dX11_count_76 rfl (lv_at hl.1 0 rfl) ?_
      obtain ⟨z5, ez5, iz5, rz5, hf⟩ := cc_g_s hw hf
      refine cw_get (val := cR z5) B hw rz5 ⟨by decide, by decide⟩ (by decide) cwi_12 cfl_11_23 ez5 rfl dX11_count_77 ?_
      obtain ⟨z6, ez6, iz6, rz6, hf⟩ := cc_g_s hw hf
      refine cw_get (val := cR z6) B hw rz6 ⟨by decide, by decide⟩ (by decide) cwi_1 cfl_11_84 ez6 rfl dX11_count_80 ?_
      obtain ⟨z7, ez7, iz7, rz7, hf⟩ := cc_g_s hw hf
      refine cw_get (val := .int (rI z7)) B hw rz7 ⟨by decide, by decide⟩ (by decide) cwi_6 cfl_11_88 ez7 rfl dX11_count_83 ?_
      exact cw_reti B hf hw dX11_count_86
    · replace hf := cc_if_f hf c4
      by_cases c8 : x1 = 9
      · replace hf := cc_if_t hf c8
        refine rn_tab (n := 9) (tgt := 87) hx hb ix1 c8 dX11_count_27 (by decide) (by decide) rfl (by decide) ?_
        refine cl_aload_n hx hb dX11_count_87 rfl (lv_at hl.1 0 rfl) ?_
        obtain ⟨z9, ez9, iz9, rz9, hf⟩ := cc_g_s hw hf
        refine cw_get (val := cR z9) B hw rz9 ⟨by decide, by decide⟩ (by decide) cwi_12 cfl_11_23 ez9 rfl dX11_count_88 ?_
        obtain ⟨z10, ez10, iz10, rz10, hf⟩ := cc_g_s hw hf
        refine cw_get (val := cR z10) B hw rz10 ⟨by decide, by decide⟩ (by decide) cwi_1 cfl_11_109 ez10 rfl dX11_count_91 ?_
        obtain ⟨z11, ez11, iz11, rz11, hf⟩ := cc_g_s hw hf
        refine cw_get (val := .int (rI z11)) B hw rz11 ⟨by decide, by decide⟩ (by decide) cwi_6 cfl_11_88 ez11 rfl dX11_count_94 ?_
        exact cw_reti B hf hw dX11_count_97
      · replace hf := cc_if_f hf c8
        by_cases c12 : x1 = 10
        · replace hf := cc_if_t hf c12
          refine rn_tab (n := 10) (tgt := 98) hx hb ix1 c12 dX11_count_27 (by decide) (by decide) rfl (by decide) ?_
          refine cl_aload_n hx hb dX11_count_98 rfl (lv_at hl.1 0 rfl) ?_
          obtain ⟨z13, ez13, iz13, rz13, hf⟩ := cc_g_s hw hf
          refine cw_get (val := cR z13) B hw rz13 ⟨by decide, by decide⟩ (by decide) cwi_12 cfl_11_23 ez13 rfl dX11_count_99 ?_
          obtain ⟨z14, ez14, iz14, rz14, hf⟩ := cc_g_s hw hf
          refine cw_get (val := .int (rI z14)) B hw rz14 ⟨by decide, by decide⟩ (by decide) cwi_1 cfl_11_112 ez14 rfl dX11_count_102 ?_
          exact cw_reti B hf hw dX11_count_105
        · replace hf := cc_if_f hf c12
          by_cases c15 : x1 = 11
          · replace hf := cc_if_t hf c15
            refine rn_tab (n := 11) (tgt := 106) hx hb ix1 c15 dX11_count_27 (by decide) (by decide) rfl (by decide) ?_
            refine cl_aload_n hx hb dX11_count_106 rfl (lv_at hl.1 0 rfl) ?_
            obtain ⟨z16, ez16, iz16, rz16, hf⟩ := cc_g_s hw hf
            refine cw_get (val := cR z16) B hw rz16 ⟨by decide, by decide⟩ (by decide) cwi_12 cfl_11_23 ez16 rfl dX11_count_107 ?_
            obtain ⟨z17, ez17, iz17, rz17, hf⟩ := cc_g_s hw hf
            refine cw_get (val := .int (rI z17)) B hw rz17 ⟨by decide, by decide⟩ (by decide) cwi_1 cfl_11_115 ez17 rfl dX11_count_110 ?_
            exact cw_reti B hf hw dX11_count_113
          · replace hf := cc_if_f hf c15
            by_cases c18 : x1 = 12
            · replace hf := cc_if_t hf c18
              refine rn_tab (n := 12) (tgt := 114) hx hb ix1 c18 dX11_count_27 (by decide) (by decide) rfl (by decide) ?_
              refine cl_aload_n hx hb dX11_count_114 rfl (lv_at hl.1 0 rfl) ?_
              obtain ⟨z19, ez19, iz19, rz19, hf⟩ := cc_g_s hw hf
              refine cw_get (val := cR z19) B hw rz19 ⟨by decide, by decide⟩ (by decide) cwi_12 cfl_11_23 ez19 rfl dX11_count_115 ?_
              obtain ⟨z20, ez20, iz20, rz20, hf⟩ := cc_g_s hw hf
              refine cw_get (val := .int (rI z20)) B hw rz20 ⟨by decide, by decide⟩ (by decide) cwi_1 cfl_11_118 ez20 rfl dX11_count_118 ?_
              exact cw_reti B hf hw dX11_count_121
            · replace hf := cc_if_f hf c18
              by_cases c21 : x1 = 13
              · replace hf := cc_if_t hf c21
                refine rn_tab (n := 13) (tgt := 122) hx hb ix1 c21 dX11_count_27 (by decide) (by decide) rfl (by decide) ?_
                refine cl_aload_n hx hb dX11_count_122 rfl (lv_at hl.1 0 rfl) ?_
                obtain ⟨z22, ez22, iz22, rz22, hf⟩ := cc_g_s hw hf
                refine cw_get (val := .int (rI z22)) B hw rz22 ⟨by decide, by decide⟩ (by decide) cwi_12 cfl_11_54 ez22 rfl dX11_count_123 ?_
                exact cw_reti B hf hw dX11_count_126
              · replace hf := cc_if_f hf c21
                refine rn_tabO (tgt := 127) hx hb ix1 dX11_count_27 (by omega) (by decide) ?_
                obtain ⟨hy, hm⟩ := cc_x_s hf
                obtain ⟨hy1, hy2⟩ := Prod.mk.inj hy
                obtain ⟨hy2, hy3⟩ := Prod.mk.inj hy2
                subst hy2
                refine cw_throw (rest := []) B hnh htr hw (by decide) (by decide +kernel) cxc_11_81 cxi_3 (cw_hat cxa_11_83 (by decide +kernel) hts hK.1) (List.all_eq_true.mp cxg_11_83) hd5 hm hy1 hl.1.1 (Nat.le_of_ble_eq_true rfl) dX11_count_127 dX11_count_130 dX11_count_131 dX11_count_134

set_option maxHeartbeats 4000000 in
set_option maxRecDepth 100000 in
theorem pw_X11_count_0 {v : cwE} {bd : Nat × Nat} {p : Program} {l : Launch} {e : Env} {s : State} {m : MethodId} {args : Array Value} {below : List Frame} {meth : Method} {c : Code} {d : Nat} {rec : Nat → CS → List Int → CO} {σ0 σ' : CS} {kd : Nat} {r : Int} (hbd : bd = (v.2.2.1, v.2.2.2.1)) (hR : cw_Rec l v d rec) (htr : l.stackTraces = false) (hd5 : 5 ≤ d) (B : cw_B v RX11 p s m args meth c cX11_count 2 (some .int)) (hnh : ∀ x ∈ c.exceptionTable.toList, False) : ∀ (σ : CS) (x0 x1 : Int), inR x0 → inR x1 → pc_X11_count_0 rec bd σ x0 x1 = some (σ', kd, r) → ∀ (H : Heap) (locs : List Loc) (cells slots : Nat) (ls : Array Slot), cw_W v s σ0 σ H locs cells slots → cl_has ls 2 [(0, cR x0), (1, .int (rI x1))] → W p l e (cw_rm v (d + 1) σ0) s m args below meth c H locs cells slots (cw_Z below v σ0 σ' kd (some (.int (rI r))) args s) (F0 m 0 ls []) := by
  subst hbd
  obtain ⟨hx, hb, hr, hml, hown, hts, hlk, hK⟩ := id B
  intro σ x0 x1 ix0 ix1 hf H locs cells slots ls hw hl
  unfold pc_X11_count_0 at hf
  refine lv_iload_n hx hb dX11_count_0 rfl (lv_at hl.1 1 rfl) ?_
  refine rn_if_lt (a := x1) (tgt := 26) hx hb ix1 dX11_count_1 (by decide) (fun c1 => ?_) (fun c1 => ?_)
  · replace hf := cc_if_t hf c1
    exact pw_X11_count_26 rfl hR htr hd5 B hnh σ x0 x1 ix0 ix1 hf _ _ _ _ _ hw (cl_sub hl [0, 1] rfl)
  · replace hf := cc_if_f hf c1
    refine lv_iload_n hx hb dX11_count_4 rfl (lv_at hl.1 1 rfl) ?_
    refine cl_aload_n hx hb dX11_count_5 rfl (lv_at hl.1 0 rfl) ?_
    obtain ⟨z2, ez2, iz2, rz2, hf⟩ := cc_g_s hw hf
    refine cw_get (val := cR z2) B hw rz2 ⟨by decide, by decide⟩ (by decide) cwi_12 cfl_11_32 ez2 rfl dX11_count_6 ?_
    obtain ⟨z3, ez3, iz3, rz3, hf⟩ := cc_g_s hw hf
    refine cw_get (val := cR z3) B hw rz3 ⟨by decide, by decide⟩ (by decide) cwi_5 cfl_11_102 ez3 rfl dX11_count_9 ?_
    obtain ⟨z4, ez4, iz4, rz4, hf⟩ := cc_l_s hf
    refine cw_len B hw rz4 (by decide) ez4 iz4 dX11_count_12 ?_
    refine rn_icmp_ge (a := x1) (b := z4) (tgt := 26) hx hb ix1 iz4 dX11_count_13 (by decide) (fun c5 => ?_) (fun c5 => ?_)
    · replace hf := cc_if_t hf c5
      exact pw_X11_count_26 rfl hR htr hd5 B hnh σ x0 x1 ix0 ix1 hf _ _ _ _ _ hw (cl_sub hl [0, 1] rfl)
    · replace hf := cc_if_f hf c5
      refine cl_aload_n hx hb dX11_count_16 rfl (lv_at hl.1 0 rfl) ?_
      obtain ⟨z6, ez6, iz6, rz6, hf⟩ := cc_g_s hw hf
      refine cw_get (val := cR z6) B hw rz6 ⟨by decide, by decide⟩ (by decide) cwi_12 cfl_11_32 ez6 rfl dX11_count_17 ?_
      obtain ⟨z7, ez7, iz7, rz7, hf⟩ := cc_g_s hw hf
      refine cw_get (val := cR z7) B hw rz7 ⟨by decide, by decide⟩ (by decide) cwi_5 cfl_11_102 ez7 rfl dX11_count_20 ?_
      refine lv_iload_n hx hb dX11_count_23 rfl (lv_at hl.1 1 rfl) ?_
      obtain ⟨z8, ez8, iz8, rz8, bz8, hf⟩ := cc_r_s hw hf
      refine cw_aldI B hw rz8 ix1 bz8 ez8 dX11_count_24 ?_
      exact cw_reti B hf hw dX11_count_25

set_option maxHeartbeats 4000000 in
set_option maxRecDepth 100000 in
theorem pm_X11_count {v : cwE} {bd : Nat × Nat} {l : Launch} {d : Nat} {rec : Nat → CS → List Int → CO} (hbd : bd = (v.2.2.1, v.2.2.2.1)) (hR : cw_Rec l v d rec) (htr : l.stackTraces = false) (hd5 : 5 ≤ d) (σ σ' : CS) (x0 x1 : Int) (kd : Nat) (r : Int) (ix0 : inR x0) (ix1 : inR x1) (hf : pc_X11_count_0 rec bd σ x0 x1 = some (σ', kd, r)) : cw_Met l v yX11_count cX11_count 2 (some .int) (d + 1) [cR x0, .int (rI x1)] σ σ' kd (some (.int (rI r))) := by
  refine cw_ofW (by decide +kernel) ?_
  intro p e s m args below meth c s₁ B hml hv
  obtain ⟨rfl, hM, hK⟩ := hv
  have hts := atoms_spec (ws := Cond.code yX11_count cX11_count 2 (some .int) :: cw_bw) B.pre
  have hB : cw_B v RX11 p s m _ meth c cX11_count 2 (some .int) := ⟨B.exec, B.bytes, B.returns, hml, findClass_of_methodNamed B.named, fun w h => hts w (List.mem_cons_of_mem _ h), B.notSynchronized, hK⟩
  have hnh := cc_nh B (hts _ List.mem_cons_self)
  rw [lg_entry_eq]
  obtain ⟨ls, hls, hl⟩ := cl_ent [cR x0, .int (rI x1)] 2 (cl_1r (cl_1i cl_10)) (Nat.le_of_ble_eq_true rfl)
  rw [hls]
  exact pw_X11_count_0 hbd hR htr hd5 hB hnh σ x0 x1 ix0 ix1 hf _ _ _ _ _ (cw_W0 hM) (cl_sub hl [0, 1] rfl)

set_option maxHeartbeats 4000000 in
set_option maxRecDepth 100000 in
theorem pw_X11_fault_0 {v : cwE} {bd : Nat × Nat} {p : Program} {l : Launch} {e : Env} {s : State} {m : MethodId} {args : Array Value} {below : List Frame} {meth : Method} {c : Code} {d : Nat} {rec : Nat → CS → List Int → CO} {σ0 σ' : CS} {kd : Nat} {r : Int} (hbd : bd = (v.2.2.1, v.2.2.2.1)) (hR : cw_Rec l v d rec) (htr : l.stackTraces = false) (hd5 : 5 ≤ d) (B : cw_B v RX11 p s m args meth c cX11_fault 2 (some .int)) (hnh : ∀ x ∈ c.exceptionTable.toList, False) : ∀ (σ : CS) (x0 x1 : Int), inR x0 → inR x1 → pc_X11_fault_0 rec bd σ x0 x1 = some (σ', kd, r) → ∀ (H : Heap) (locs : List Loc) (cells slots : Nat) (ls : Array Slot), cw_W v s σ0 σ H locs cells slots → cl_has ls 2 [(0, cR x0), (1, .int (rI x1))] → W p l e (cw_rm v (d + 1) σ0) s m args below meth c H locs cells slots (cw_Z below v σ0 σ' kd (some (.int (rI r))) args s) (F0 m 0 ls []) := by
  subst hbd
  obtain ⟨hx, hb, hr, hml, hown, hts, hlk, hK⟩ := id B
  intro σ x0 x1 ix0 ix1 hf H locs cells slots ls hw hl
  unfold pc_X11_fault_0 at hf
  refine lv_iload_n hx hb dX11_fault_0 rfl (lv_at hl.1 1 rfl) ?_
  by_cases c1 : x1 = 0
  · replace hf := cc_if_t hf c1
    refine rn_tab (n := 0) (tgt := 28) hx hb ix1 c1 dX11_fault_1 (by decide) (by decide) rfl (by decide) ?_
    refine cl_aload_n hx hb dX11_fault_28 rfl (lv_at hl.1 0 rfl) ?_
    obtain ⟨z2, ez2, iz2, rz2, hf⟩ := cc_g_s hw hf
    refine cw_get (val := .int (rI z2)) B hw rz2 ⟨by decide, by decide⟩ (by decide) cwi_12 cfl_11_58 ez2 rfl dX11_fault_29 ?_
    exact cw_reti B hf hw dX11_fault_32
  · replace hf := cc_if_f hf c1
    by_cases c3 : x1 = 1
    · replace hf := cc_if_t hf c3
      refine rn_tab (n := 1) (tgt := 33) hx hb ix1 c3 dX11_fault_1 (by decide) (by decide) rfl (by decide) ?_
      refine cl_aload_n hx hb dX11_fault_33 rfl (lv_at hl.1 0 rfl) ?_
      obtain ⟨z4, ez4, iz4, rz4, hf⟩ := cc_g_s hw hf
      refine cw_get (val := .int (rI z4)) B hw rz4 ⟨by decide, by decide⟩ (by decide) cwi_12 cfl_11_61 ez4 rfl dX11_fault_34 ?_
      exact cw_reti B hf hw dX11_fault_37
    · replace hf := cc_if_f hf c3
      by_cases c5 : x1 = 2
      · replace hf := cc_if_t hf c5
        refine rn_tab (n := 2) (tgt := 38) hx hb ix1 c5 dX11_fault_1 (by decide) (by decide) rfl (by decide) ?_
        refine cl_aload_n hx hb dX11_fault_38 rfl (lv_at hl.1 0 rfl) ?_
        obtain ⟨z6, ez6, iz6, rz6, hf⟩ := cc_g_s hw hf
        refine cw_get (val := .int (rI z6)) B hw rz6 ⟨by decide, by decide⟩ (by decide) cwi_12 cfl_11_64 ez6 rfl dX11_fault_39 ?_
        exact cw_reti B hf hw dX11_fault_42
      · replace hf := cc_if_f hf c5
        refine rn_tabO (tgt := 43) hx hb ix1 dX11_fault_1 (by omega) (by decide) ?_
        obtain ⟨hy, hm⟩ := cc_x_s hf
        obtain ⟨hy1, hy2⟩ := Prod.mk.inj hy
        obtain ⟨hy2, hy3⟩ := Prod.mk.inj hy2
        subst hy2
        refine cw_throw (rest := []) B hnh htr hw (by decide) (by decide +kernel) cxc_11_81 cxi_3 (cw_hat cxa_11_83 (by decide +kernel) hts hK.1) (List.all_eq_true.mp cxg_11_83) hd5 hm hy1 hl.1.1 (Nat.le_of_ble_eq_true rfl) dX11_fault_43 dX11_fault_46 dX11_fault_47 dX11_fault_50

set_option maxHeartbeats 4000000 in
set_option maxRecDepth 100000 in
theorem pm_X11_fault {v : cwE} {bd : Nat × Nat} {l : Launch} {d : Nat} {rec : Nat → CS → List Int → CO} (hbd : bd = (v.2.2.1, v.2.2.2.1)) (hR : cw_Rec l v d rec) (htr : l.stackTraces = false) (hd5 : 5 ≤ d) (σ σ' : CS) (x0 x1 : Int) (kd : Nat) (r : Int) (ix0 : inR x0) (ix1 : inR x1) (hf : pc_X11_fault_0 rec bd σ x0 x1 = some (σ', kd, r)) : cw_Met l v yX11_fault cX11_fault 2 (some .int) (d + 1) [cR x0, .int (rI x1)] σ σ' kd (some (.int (rI r))) := by
  refine cw_ofW (by decide +kernel) ?_
  intro p e s m args below meth c s₁ B hml hv
  obtain ⟨rfl, hM, hK⟩ := hv
  have hts := atoms_spec (ws := Cond.code yX11_fault cX11_fault 2 (some .int) :: cw_bw) B.pre
  have hB : cw_B v RX11 p s m _ meth c cX11_fault 2 (some .int) := ⟨B.exec, B.bytes, B.returns, hml, findClass_of_methodNamed B.named, fun w h => hts w (List.mem_cons_of_mem _ h), B.notSynchronized, hK⟩
  have hnh := cc_nh B (hts _ List.mem_cons_self)
  rw [lg_entry_eq]
  obtain ⟨ls, hls, hl⟩ := cl_ent [cR x0, .int (rI x1)] 2 (cl_1r (cl_1i cl_10)) (Nat.le_of_ble_eq_true rfl)
  rw [hls]
  exact pw_X11_fault_0 hbd hR htr hd5 hB hnh σ x0 x1 ix0 ix1 hf _ _ _ _ _ (cw_W0 hM) (cl_sub hl [0, 1] rfl)

set_option maxHeartbeats 4000000 in
set_option maxRecDepth 100000 in
theorem pw_X11_feed_0 {v : cwE} {bd : Nat × Nat} {p : Program} {l : Launch} {e : Env} {s : State} {m : MethodId} {args : Array Value} {below : List Frame} {meth : Method} {c : Code} {d : Nat} {rec : Nat → CS → List Int → CO} {σ0 σ' : CS} {kd : Nat} {r : Int} (hbd : bd = (v.2.2.1, v.2.2.2.1)) (hR : cw_Rec l v d rec) (htr : l.stackTraces = false) (hd5 : 5 ≤ d) (B : cw_B v RX11 p s m args meth c cX11_feed 6 (some .int)) (hnh : ∀ x ∈ c.exceptionTable.toList, False) : ∀ (σ : CS) (x0 x1 x2 x3 x4 x5 : Int), inR x0 → inR x1 → inR x2 → inR x3 → inR x4 → inR x5 → pc_X11_feed_0 rec bd σ x0 x1 x2 x3 x4 x5 = some (σ', kd, r) → ∀ (H : Heap) (locs : List Loc) (cells slots : Nat) (ls : Array Slot), cw_W v s σ0 σ H locs cells slots → cl_has ls 6 [(0, cR x0), (1, .int (rI x1)), (2, .int (rI x2)), (3, .int (rI x3)), (4, .int (rI x4)), (5, .int (rI x5))] → W p l e (cw_rm v (d + 1) σ0) s m args below meth c H locs cells slots (cw_Z below v σ0 σ' kd (some (.int (rI r))) args s) (F0 m 0 ls []) := by
  subst hbd
  obtain ⟨hx, hb, hr, hml, hown, hts, hlk, hK⟩ := id B
  intro σ x0 x1 x2 x3 x4 x5 ix0 ix1 ix2 ix3 ix4 ix5 hf H locs cells slots ls hw hl
  unfold pc_X11_feed_0 at hf
  refine cl_aload_n hx hb dX11_feed_0 rfl (lv_at hl.1 0 rfl) ?_
  obtain ⟨z1, ez1, iz1, rz1, hf⟩ := cc_g_s hw hf
  refine cw_get (val := .int (rI z1)) B hw rz1 ⟨by decide, by decide⟩ (by decide) cwi_12 cfl_11_54 ez1 rfl dX11_feed_1 ?_
  refine lv_bipush (v := rI 20) hx hb dX11_feed_4 (by decide +kernel) ?_
  obtain ⟨z2, ez2, iz2, hf⟩ := cc_ck_s hf
  refine rn_add hx hb ez2 dX11_feed_6 ?_
  refine lv_sipush (v := rI 4000) hx hb dX11_feed_7 (by decide +kernel) ?_
  refine rn_icmp_le (a := z2) (b := 4000) (tgt := 15) hx hb iz2 ⟨by decide, by decide⟩ dX11_feed_10 (by decide) (fun c3 => ?_) (fun c3 => ?_)
  · replace hf := cc_if_t hf c3
    refine cl_aload_n hx hb dX11_feed_15 rfl (lv_at hl.1 0 rfl) ?_
    refine lv_iload_n hx hb dX11_feed_16 rfl (lv_at hl.1 1 rfl) ?_
    obtain ⟨qσ4, hf⟩ := cc_t_s hf
    obtain ⟨σ4, kv5, z6, hσ4, hf⟩ := cc_cl_s hf
    obtain ⟨iz6, mσ4⟩ := hR 108 σ [x0, x1] σ4 kv5 z6 hσ4
    have mσ4 : cw_Met l v yX11_feedFour cX11_feedFour 3 none d [cR x0, .int (rI x1)] σ σ4 kv5 none := mσ4 ix0 ix1
    refine cw_cv (b := x0) (t := 12) (n := 1) (rest := []) (As := [.int (rI x1)]) B mσ4 qσ4 ⟨by decide, by decide⟩ cgo_yX11_feedFour cml_11_71 cin_yX11_feedFour cse_yX11_feedFour (by decide +kernel) (by decide) rfl hl.1.1 (Nat.le_of_ble_eq_true rfl) dX11_feed_17 rfl hw (fun h0 H locs cells slots hw => ?_) (fun h0 H locs cells slots q ce hw h1 h2 h3 => ?_)
    · rcases hf with ⟨-, hf⟩ | ⟨hk, -⟩
      · skip
        refine cl_aload_n hx hb dX11_feed_20 rfl (lv_at hl.1 0 rfl) ?_
        refine lv_iload_n hx hb dX11_feed_21 rfl (lv_at hl.1 2 rfl) ?_
        obtain ⟨qσ7, hf⟩ := cc_t_s hf
        obtain ⟨σ7, kv8, z9, hσ7, hf⟩ := cc_cl_s hf
        obtain ⟨iz9, mσ7⟩ := hR 108 σ4 [x0, x2] σ7 kv8 z9 hσ7
        have mσ7 : cw_Met l v yX11_feedFour cX11_feedFour 3 none d [cR x0, .int (rI x2)] σ4 σ7 kv8 none := mσ7 ix0 ix2
        refine cw_cv (b := x0) (t := 12) (n := 1) (rest := []) (As := [.int (rI x2)]) B mσ7 qσ7 ⟨by decide, by decide⟩ cgo_yX11_feedFour cml_11_71 cin_yX11_feedFour cse_yX11_feedFour (by decide +kernel) (by decide) rfl hl.1.1 (Nat.le_of_ble_eq_true rfl) dX11_feed_22 rfl hw (fun h0 H locs cells slots hw => ?_) (fun h0 H locs cells slots q ce hw h1 h2 h3 => ?_)
        · rcases hf with ⟨-, hf⟩ | ⟨hk, -⟩
          · skip
            refine cl_aload_n hx hb dX11_feed_25 rfl (lv_at hl.1 0 rfl) ?_
            refine lv_iload_n hx hb dX11_feed_26 rfl (lv_at hl.1 3 rfl) ?_
            obtain ⟨qσ10, hf⟩ := cc_t_s hf
            obtain ⟨σ10, kv11, z12, hσ10, hf⟩ := cc_cl_s hf
            obtain ⟨iz12, mσ10⟩ := hR 108 σ7 [x0, x3] σ10 kv11 z12 hσ10
            have mσ10 : cw_Met l v yX11_feedFour cX11_feedFour 3 none d [cR x0, .int (rI x3)] σ7 σ10 kv11 none := mσ10 ix0 ix3
            refine cw_cv (b := x0) (t := 12) (n := 1) (rest := []) (As := [.int (rI x3)]) B mσ10 qσ10 ⟨by decide, by decide⟩ cgo_yX11_feedFour cml_11_71 cin_yX11_feedFour cse_yX11_feedFour (by decide +kernel) (by decide) rfl hl.1.1 (Nat.le_of_ble_eq_true rfl) dX11_feed_27 rfl hw (fun h0 H locs cells slots hw => ?_) (fun h0 H locs cells slots q ce hw h1 h2 h3 => ?_)
            · rcases hf with ⟨-, hf⟩ | ⟨hk, -⟩
              · skip
                refine cl_aload_n hx hb dX11_feed_30 rfl (lv_at hl.1 0 rfl) ?_
                refine lv_iload hx hb dX11_feed_31 (lv_at hl.1 4 rfl) ?_
                obtain ⟨qσ13, hf⟩ := cc_t_s hf
                obtain ⟨σ13, kv14, z15, hσ13, hf⟩ := cc_cl_s hf
                obtain ⟨iz15, mσ13⟩ := hR 108 σ10 [x0, x4] σ13 kv14 z15 hσ13
                have mσ13 : cw_Met l v yX11_feedFour cX11_feedFour 3 none d [cR x0, .int (rI x4)] σ10 σ13 kv14 none := mσ13 ix0 ix4
                refine cw_cv (b := x0) (t := 12) (n := 1) (rest := []) (As := [.int (rI x4)]) B mσ13 qσ13 ⟨by decide, by decide⟩ cgo_yX11_feedFour cml_11_71 cin_yX11_feedFour cse_yX11_feedFour (by decide +kernel) (by decide) rfl hl.1.1 (Nat.le_of_ble_eq_true rfl) dX11_feed_33 rfl hw (fun h0 H locs cells slots hw => ?_) (fun h0 H locs cells slots q ce hw h1 h2 h3 => ?_)
                · rcases hf with ⟨-, hf⟩ | ⟨hk, -⟩
                  · skip
                    refine cl_aload_n hx hb dX11_feed_36 rfl (lv_at hl.1 0 rfl) ?_
                    refine lv_iload hx hb dX11_feed_37 (lv_at hl.1 5 rfl) ?_
                    obtain ⟨qσ16, hf⟩ := cc_t_s hf
                    obtain ⟨σ16, kv17, z18, hσ16, hf⟩ := cc_cl_s hf
                    obtain ⟨iz18, mσ16⟩ := hR 108 σ13 [x0, x5] σ16 kv17 z18 hσ16
                    have mσ16 : cw_Met l v yX11_feedFour cX11_feedFour 3 none d [cR x0, .int (rI x5)] σ13 σ16 kv17 none := mσ16 ix0 ix5
                    refine cw_cv (b := x0) (t := 12) (n := 1) (rest := []) (As := [.int (rI x5)]) B mσ16 qσ16 ⟨by decide, by decide⟩ cgo_yX11_feedFour cml_11_71 cin_yX11_feedFour cse_yX11_feedFour (by decide +kernel) (by decide) rfl hl.1.1 (Nat.le_of_ble_eq_true rfl) dX11_feed_39 rfl hw (fun h0 H locs cells slots hw => ?_) (fun h0 H locs cells slots q ce hw h1 h2 h3 => ?_)
                    · rcases hf with ⟨-, hf⟩ | ⟨hk, -⟩
                      · skip
                        refine cl_aload_n hx hb dX11_feed_42 rfl (lv_at hl.1 0 rfl) ?_
                        obtain ⟨z19, ez19, iz19, rz19, hf⟩ := cc_g_s hw hf
                        refine cw_get (val := .int (rI z19)) B hw rz19 ⟨by decide, by decide⟩ (by decide) cwi_12 cfl_11_54 ez19 rfl dX11_feed_43 ?_
                        exact cw_reti B hf hw dX11_feed_46
                      · exact absurd h0 hk
                    · rcases hf with ⟨hk, -⟩ | ⟨-, hf⟩
                      · exact absurd hk h0
                      · cases hf
                        exact cw_xout B hnh h0 hw h1 h2 h3
                  · exact absurd h0 hk
                · rcases hf with ⟨hk, -⟩ | ⟨-, hf⟩
                  · exact absurd hk h0
                  · cases hf
                    exact cw_xout B hnh h0 hw h1 h2 h3
              · exact absurd h0 hk
            · rcases hf with ⟨hk, -⟩ | ⟨-, hf⟩
              · exact absurd hk h0
              · cases hf
                exact cw_xout B hnh h0 hw h1 h2 h3
          · exact absurd h0 hk
        · rcases hf with ⟨hk, -⟩ | ⟨-, hf⟩
          · exact absurd hk h0
          · cases hf
            exact cw_xout B hnh h0 hw h1 h2 h3
      · exact absurd h0 hk
    · rcases hf with ⟨hk, -⟩ | ⟨-, hf⟩
      · exact absurd hk h0
      · cases hf
        exact cw_xout B hnh h0 hw h1 h2 h3
  · replace hf := cc_if_f hf c3
    refine lv_iconst (v := rI (-1)) hx hb dX11_feed_13 rfl ?_
    exact cw_reti B hf hw dX11_feed_14

set_option maxHeartbeats 4000000 in
set_option maxRecDepth 100000 in
theorem pm_X11_feed {v : cwE} {bd : Nat × Nat} {l : Launch} {d : Nat} {rec : Nat → CS → List Int → CO} (hbd : bd = (v.2.2.1, v.2.2.2.1)) (hR : cw_Rec l v d rec) (htr : l.stackTraces = false) (hd5 : 5 ≤ d) (σ σ' : CS) (x0 x1 x2 x3 x4 x5 : Int) (kd : Nat) (r : Int) (ix0 : inR x0) (ix1 : inR x1) (ix2 : inR x2) (ix3 : inR x3) (ix4 : inR x4) (ix5 : inR x5) (hf : pc_X11_feed_0 rec bd σ x0 x1 x2 x3 x4 x5 = some (σ', kd, r)) : cw_Met l v yX11_feed cX11_feed 6 (some .int) (d + 1) [cR x0, .int (rI x1), .int (rI x2), .int (rI x3), .int (rI x4), .int (rI x5)] σ σ' kd (some (.int (rI r))) := by
  refine cw_ofW (by decide +kernel) ?_
  intro p e s m args below meth c s₁ B hml hv
  obtain ⟨rfl, hM, hK⟩ := hv
  have hts := atoms_spec (ws := Cond.code yX11_feed cX11_feed 6 (some .int) :: cw_bw) B.pre
  have hB : cw_B v RX11 p s m _ meth c cX11_feed 6 (some .int) := ⟨B.exec, B.bytes, B.returns, hml, findClass_of_methodNamed B.named, fun w h => hts w (List.mem_cons_of_mem _ h), B.notSynchronized, hK⟩
  have hnh := cc_nh B (hts _ List.mem_cons_self)
  rw [lg_entry_eq]
  obtain ⟨ls, hls, hl⟩ := cl_ent [cR x0, .int (rI x1), .int (rI x2), .int (rI x3), .int (rI x4), .int (rI x5)] 6 (cl_1r (cl_1i (cl_1i (cl_1i (cl_1i (cl_1i cl_10)))))) (Nat.le_of_ble_eq_true rfl)
  rw [hls]
  exact pw_X11_feed_0 hbd hR htr hd5 hB hnh σ x0 x1 x2 x3 x4 x5 ix0 ix1 ix2 ix3 ix4 ix5 hf _ _ _ _ _ (cw_W0 hM) (cl_sub hl [0, 1, 2, 3, 4, 5] rfl)

set_option maxHeartbeats 4000000 in
set_option maxRecDepth 100000 in
theorem pw_X11_feedFour_3 {v : cwE} {bd : Nat × Nat} {p : Program} {l : Launch} {e : Env} {s : State} {m : MethodId} {args : Array Value} {below : List Frame} {meth : Method} {c : Code} {d : Nat} {rec : Nat → CS → List Int → CO} {σ0 σ' : CS} {kd : Nat} {r : Int} (hbd : bd = (v.2.2.1, v.2.2.2.1)) (hR : cw_Rec l v d rec) (htr : l.stackTraces = false) (hd5 : 5 ≤ d) (B : cw_B v RX11 p s m args meth c cX11_feedFour 3 none) (hnh : ∀ x ∈ c.exceptionTable.toList, False) : ∀ (n : Nat) (σ : CS) (x0 x1 x2 : Int), inR x0 → inR x1 → inR x2 → pc_X11_feedFour_3 rec bd n σ x0 x1 x2 = some (σ', kd, r) → ∀ (H : Heap) (locs : List Loc) (cells slots : Nat) (ls : Array Slot), cw_W v s σ0 σ H locs cells slots → cl_has ls 3 [(0, cR x0), (1, .int (rI x1)), (2, .int (rI x2))] → W p l e (cw_rm v (d + 1) σ0) s m args below meth c H locs cells slots (cw_Z below v σ0 σ' kd none args s) (F0 m 3 ls []) := by
  subst hbd
  obtain ⟨hx, hb, hr, hml, hown, hts, hlk, hK⟩ := id B
  intro n
  induction n with
  | zero => intro σ x0 x1 x2 ix0 ix1 ix2 hf; cases hf
  | succ n ih =>
    intro σ x0 x1 x2 ix0 ix1 ix2 hf H locs cells slots ls hw hl
    unfold pc_X11_feedFour_3 at hf
    refine lv_iload_n hx hb dX11_feedFour_3 rfl (lv_at hl.1 2 rfl) ?_
    refine rn_if_lt (a := x2) (tgt := 46) hx hb ix2 dX11_feedFour_4 (by decide) (fun c1 => ?_) (fun c1 => ?_)
    · replace hf := cc_if_t hf c1
      exact cw_retv B hf hw dX11_feedFour_46
    · replace hf := cc_if_f hf c1
      refine cl_aload_n hx hb dX11_feedFour_7 rfl (lv_at hl.1 0 rfl) ?_
      obtain ⟨z2, ez2, iz2, rz2, hf⟩ := cc_g_s hw hf
      refine cw_get (val := .int (rI z2)) B hw rz2 ⟨by decide, by decide⟩ (by decide) cwi_12 cfl_11_54 ez2 rfl dX11_feedFour_8 ?_
      refine lv_sipush (v := rI 4000) hx hb dX11_feedFour_11 (by decide +kernel) ?_
      refine rn_icmp_ge (a := z2) (b := 4000) (tgt := 46) hx hb iz2 ⟨by decide, by decide⟩ dX11_feedFour_14 (by decide) (fun c3 => ?_) (fun c3 => ?_)
      · replace hf := cc_if_t hf c3
        exact cw_retv B hf hw dX11_feedFour_46
      · replace hf := cc_if_f hf c3
        refine cl_aload_n hx hb dX11_feedFour_17 rfl (lv_at hl.1 0 rfl) ?_
        obtain ⟨z4, ez4, iz4, rz4, hf⟩ := cc_g_s hw hf
        refine cw_get (val := cR z4) B hw rz4 ⟨by decide, by decide⟩ (by decide) cwi_12 cfl_11_9 ez4 rfl dX11_feedFour_18 ?_
        refine cl_aload_n hx hb dX11_feedFour_21 rfl (lv_at hl.1 0 rfl) ?_
        obtain ⟨z5, ez5, iz5, rz5, hf⟩ := cc_g_s hw hf
        refine cw_get (val := .int (rI z5)) B hw rz5 ⟨by decide, by decide⟩ (by decide) cwi_12 cfl_11_54 ez5 rfl dX11_feedFour_22 ?_
        refine lv_iload_n hx hb dX11_feedFour_25 rfl (lv_at hl.1 1 rfl) ?_
        refine lv_iload_n hx hb dX11_feedFour_26 rfl (lv_at hl.1 2 rfl) ?_
        obtain ⟨z6, ez6, iz6, hf⟩ := cc_nm_s hf
        refine lv_ishr hx hb dX11_feedFour_27 ?_
        refine rn_top ez6 ?_
        obtain ⟨z7, ez7, iz7, hf⟩ := cc_nm_s hf
        refine lv_i2b hx hb dX11_feedFour_28 rfl ?_
        refine rn_top ez7 ?_
        obtain ⟨σ8, eσ8, rσ8, bσ8, hf⟩ := cc_w_s hf
        refine cw_astB B hw rσ8 iz5 bσ8 eσ8 dX11_feedFour_29 (fun H locs hw => ?_)
        refine cl_aload_n hx hb dX11_feedFour_30 rfl (lv_at hl.1 0 rfl) ?_
        refine lv_dup hx hb dX11_feedFour_31 (cR_cat _) ?_
        obtain ⟨z9, ez9, iz9, rz9, hf⟩ := cc_g_s hw hf
        refine cw_get (val := .int (rI z9)) B hw rz9 ⟨by decide, by decide⟩ (by decide) cwi_12 cfl_11_54 ez9 rfl dX11_feedFour_32 ?_
        refine lv_iconst (v := rI 1) hx hb dX11_feedFour_35 rfl ?_
        obtain ⟨z10, ez10, iz10, hf⟩ := cc_ck_s hf
        refine rn_add hx hb ez10 dX11_feedFour_36 ?_
        obtain ⟨σ11, eσ11, rσ11, hf⟩ := cc_p_s hf
        refine cw_put B hw rσ11 cwt_12 (by decide) rfl cfl_11_54 iz10 eσ11 rfl (cw_fv_n rfl rfl) dX11_feedFour_37 (fun H locs hw => ?_)
        obtain ⟨z12, ez12, iz12, hf⟩ := cc_ck_s hf
        refine cl_iinc (v := rI z12) (lv' := [(2, .int (rI z12)), (0, cR x0), (1, .int (rI x1))]) hx hb dX11_feedFour_40 hl (k := 2) rfl (by rw [ez12]; exact rI_add _ _) (by decide) rfl (fun ls hl => ?_)
        refine lv_goto (tgt := 3) hx hb dX11_feedFour_43 (by decide) ?_
        exact ih σ11 x0 x1 z12 ix0 ix1 iz12 hf _ _ _ _ _ hw (cl_sub hl [1, 2, 0] rfl)

