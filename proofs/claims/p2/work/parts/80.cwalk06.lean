set_option maxHeartbeats 4000000 in
set_option maxRecDepth 100000 in
theorem pm_X6_init {v : cwE} {bd : cBd} {l : Launch} {d : Nat} {rec : Nat → CS → List Int → CO} (hbd : bd = cw_bd v) (hR : cw_Rec l v d rec) (htr : l.stackTraces = false) (hd5 : 5 ≤ d) (σ σ' : CS) (x0 x1 x2 : Int) (kd : Nat) (r : Int) (ix0 : inR x0) (ix1 : inR x1) (ix2 : inR x2) (hf : pc_X6_init_0 rec bd σ x0 x1 x2 = some (σ', kd, r)) : cw_Met l v yX6_init cX6_init 3 none (d + 1) [cR v x0, .int (rI x1), .int (rI x2)] σ σ' kd none := by
  refine cw_ofW (by decide +kernel) ?_
  intro p e s m args below meth c s₁ B hml hv
  obtain ⟨rfl, hM, hK⟩ := hv
  have hts := atoms_spec (ws := Cond.code yX6_init cX6_init 3 none :: cw_bw) B.pre
  have hB : cw_B v RX6 p s m _ meth c cX6_init 3 none := ⟨B.exec, B.bytes, B.returns, hml, findClass_of_methodNamed B.named, fun w h => hts w (List.mem_cons_of_mem _ h), B.notSynchronized, hK⟩
  have hnh := cc_nh B (hts _ List.mem_cons_self)
  rw [lg_entry_eq]
  obtain ⟨ls, hls, hl⟩ := cl_ent [cR v x0, .int (rI x1), .int (rI x2)] 3 (cl_1r (cl_1i (cl_1i cl_10))) (Nat.le_of_ble_eq_true rfl)
  rw [hls]
  exact pw_X6_init_0 hbd hR htr hd5 hB (name_of_methodNamed B.named B.method).1 hnh σ x0 x1 x2 ix0 ix1 ix2 hf _ _ _ _ _ (cw_W0 hM) (cl_sub hl [0, 1, 2] rfl)

set_option maxHeartbeats 4000000 in
set_option maxRecDepth 100000 in
theorem pw_X6_keepSorts_0 {v : cwE} {bd : cBd} {p : Program} {l : Launch} {e : Env} {s : State} {m : MethodId} {args : Array Value} {below : List Frame} {meth : Method} {c : Code} {d : Nat} {rec : Nat → CS → List Int → CO} {σ0 σ' : CS} {kd : Nat} {r : Int} (hbd : bd = cw_bd v) (hR : cw_Rec l v d rec) (htr : l.stackTraces = false) (hd5 : 5 ≤ d) (B : cw_B v RX6 p s m args meth c cX6_keepSorts 3 none) (hnh : ∀ x ∈ c.exceptionTable.toList, False) : ∀ (σ : CS) (x0 x1 x2 : Int), inR x0 → inR x1 → inR x2 → pc_X6_keepSorts_0 rec bd σ x0 x1 x2 = some (σ', kd, r) → ∀ (H : Heap) (locs : List Loc) (cells slots : Nat) (ls : Array Slot), cw_W v s σ0 σ H locs cells slots → cl_has ls 3 [(0, cR v x0), (1, .int (rI x1)), (2, .int (rI x2))] → W p l e (cw_rm v (d + 1) σ0) s m args below meth c H locs cells slots (cw_Z below v σ0 σ' kd none args s) (F0 m 0 ls []) := by
  subst hbd
  obtain ⟨hx, hb, hr, hml, hown, hts, hlk, hK⟩ := id B
  intro σ x0 x1 x2 ix0 ix1 ix2 hf H locs cells slots ls hw hl
  unfold pc_X6_keepSorts_0 at hf
  refine cl_aload_n hx hb dX6_keepSorts_0 rfl (lv_at hl.1 0 rfl) ?_
  refine lv_iload_n hx hb dX6_keepSorts_1 rfl (lv_at hl.1 1 rfl) ?_
  obtain ⟨σ1, eσ1, rσ1, hf⟩ := cc_p_s hf
  refine cw_put B hw rσ1 cwt_7 (by decide) rfl cfl_X6_35 ix1 eσ1 rfl (cw_fv_n rfl rfl) dX6_keepSorts_2 (fun H locs hw => ?_)
  refine cl_aload_n hx hb dX6_keepSorts_5 rfl (lv_at hl.1 0 rfl) ?_
  refine lv_iload_n hx hb dX6_keepSorts_6 rfl (lv_at hl.1 2 rfl) ?_
  obtain ⟨σ2, eσ2, rσ2, hf⟩ := cc_p_s hf
  refine cw_put B hw rσ2 cwt_7 (by decide) rfl cfl_X6_38 ix2 eσ2 rfl (cw_fv_n rfl rfl) dX6_keepSorts_7 (fun H locs hw => ?_)
  exact cw_retv B hf hw dX6_keepSorts_10

set_option maxHeartbeats 4000000 in
set_option maxRecDepth 100000 in
theorem pm_X6_keepSorts {v : cwE} {bd : cBd} {l : Launch} {d : Nat} {rec : Nat → CS → List Int → CO} (hbd : bd = cw_bd v) (hR : cw_Rec l v d rec) (htr : l.stackTraces = false) (hd5 : 5 ≤ d) (σ σ' : CS) (x0 x1 x2 : Int) (kd : Nat) (r : Int) (ix0 : inR x0) (ix1 : inR x1) (ix2 : inR x2) (hf : pc_X6_keepSorts_0 rec bd σ x0 x1 x2 = some (σ', kd, r)) : cw_Met l v yX6_keepSorts cX6_keepSorts 3 none (d + 1) [cR v x0, .int (rI x1), .int (rI x2)] σ σ' kd none := by
  refine cw_ofW (by decide +kernel) ?_
  intro p e s m args below meth c s₁ B hml hv
  obtain ⟨rfl, hM, hK⟩ := hv
  have hts := atoms_spec (ws := Cond.code yX6_keepSorts cX6_keepSorts 3 none :: cw_bw) B.pre
  have hB : cw_B v RX6 p s m _ meth c cX6_keepSorts 3 none := ⟨B.exec, B.bytes, B.returns, hml, findClass_of_methodNamed B.named, fun w h => hts w (List.mem_cons_of_mem _ h), B.notSynchronized, hK⟩
  have hnh := cc_nh B (hts _ List.mem_cons_self)
  rw [lg_entry_eq]
  obtain ⟨ls, hls, hl⟩ := cl_ent [cR v x0, .int (rI x1), .int (rI x2)] 3 (cl_1r (cl_1i (cl_1i cl_10))) (Nat.le_of_ble_eq_true rfl)
  rw [hls]
  exact pw_X6_keepSorts_0 hbd hR htr hd5 hB hnh σ x0 x1 x2 ix0 ix1 ix2 hf _ _ _ _ _ (cw_W0 hM) (cl_sub hl [0, 1, 2] rfl)

set_option maxHeartbeats 4000000 in
set_option maxRecDepth 100000 in
theorem pw_X6_named_0 {v : cwE} {bd : cBd} {p : Program} {l : Launch} {e : Env} {s : State} {m : MethodId} {args : Array Value} {below : List Frame} {meth : Method} {c : Code} {d : Nat} {rec : Nat → CS → List Int → CO} {σ0 σ' : CS} {kd : Nat} {r : Int} (hbd : bd = cw_bd v) (hR : cw_Rec l v d rec) (htr : l.stackTraces = false) (hd5 : 5 ≤ d) (B : cw_B v RX6 p s m args meth c cX6_named 3 (some (.object "PureHouse$Node"))) (hnh : ∀ x ∈ c.exceptionTable.toList, False) : ∀ (σ : CS) (x0 x1 : Int), inR x0 → inR x1 → pc_X6_named_0 rec bd σ x0 x1 = some (σ', kd, r) → ∀ (H : Heap) (locs : List Loc) (cells slots : Nat) (ls : Array Slot), cw_W v s σ0 σ H locs cells slots → cl_has ls 3 [(0, .int (rI x0)), (1, .int (rI x1))] → W p l e (cw_rm v (d + 1) σ0) s m args below meth c H locs cells slots (cw_Z below v σ0 σ' kd (some (cR v r)) args s) (F0 m 0 ls []) := by
  subst hbd
  obtain ⟨hx, hb, hr, hml, hown, hts, hlk, hK⟩ := id B
  intro σ x0 x1 ix0 ix1 hf H locs cells slots ls hw hl
  unfold pc_X6_named_0 at hf
  obtain ⟨σ1, z2, eσ1, ez2, iz2, rσ1, hf⟩ := cc_n_s hf
  refine cw_new B hw cwt_7 rfl cwd_7 cnl_X6_10 cni_7 cnz_7 rσ1 eσ1 ez2 dX6_named_0 (fun H hw => ?_)
  refine lv_dup hx hb dX6_named_3 (cR_cat _) ?_
  refine lv_iconst (v := rI 0) hx hb dX6_named_4 rfl ?_
  refine lv_iconst (v := rI 0) hx hb dX6_named_5 rfl ?_
  obtain ⟨qσ3, hf⟩ := cc_t_s hf
  obtain ⟨σ3, z5, hσ3, hf⟩ := cc_ci_s hf
  obtain ⟨iz5, mσ3⟩ := hR 105 σ1 [z2, 0, 0] σ3 0 z5 hσ3
  have mσ3 : cw_Met l v yX6_init cX6_init 3 none d [cR v z2, .int (rI 0), .int (rI 0)] σ1 σ3 0 none := mσ3 iz2 ⟨by decide, by decide⟩ ⟨by decide, by decide⟩
  refine cw_ci (b := z2) (n := 2) (rest := [cR v z2]) (As := [.int (rI 0), .int (rI 0)]) B mσ3 qσ3.1 rfl cgo_yX6_init cml_X6_47 cin_yX6_init (by decide +kernel) (by decide) rfl hl.1.1 (cl_cs (cl_1r cl_10) (Nat.le_of_ble_eq_true rfl)) dX6_named_6 rfl hw (fun H locs cells slots hw => ?_)
  refine cl_astore_n (lv' := [(2, cR v z2), (0, .int (rI x0)), (1, .int (rI x1))]) hx hb dX6_named_9 rfl hl (by decide) rfl (fun ls hl => ?_)
  refine cl_aload_n hx hb dX6_named_10 rfl (lv_at hl.1 0 rfl) ?_
  refine lv_iload_n hx hb dX6_named_11 rfl (lv_at hl.1 1 rfl) ?_
  obtain ⟨σ6, eσ6, rσ6, hf⟩ := cc_p_s hf
  refine cw_put B hw rσ6 cwt_7 (by decide) rfl cfl_X6_9 ix0 eσ6 rfl (cw_fv_n rfl rfl) dX6_named_12 (fun H locs hw => ?_)
  refine cl_aload_n hx hb dX6_named_15 rfl (lv_at hl.1 0 rfl) ?_
  refine lv_iload_n hx hb dX6_named_16 rfl (lv_at hl.1 1 rfl) ?_
  obtain ⟨σ7, eσ7, rσ7, hf⟩ := cc_p_s hf
  refine cw_put B hw rσ7 cwt_7 (by decide) rfl cfl_X6_15 ix0 eσ7 rfl (cw_fv_n rfl rfl) dX6_named_17 (fun H locs hw => ?_)
  refine cl_aload_n hx hb dX6_named_20 rfl (lv_at hl.1 0 rfl) ?_
  refine lv_iload_n hx hb dX6_named_21 rfl (lv_at hl.1 1 rfl) ?_
  obtain ⟨σ8, eσ8, rσ8, hf⟩ := cc_p_s hf
  refine cw_put B hw rσ8 cwt_7 (by decide) rfl cfl_X6_18 ix0 eσ8 rfl (cw_fv_n rfl rfl) dX6_named_22 (fun H locs hw => ?_)
  refine cl_aload_n hx hb dX6_named_25 rfl (lv_at hl.1 0 rfl) ?_
  refine lv_iload_n hx hb dX6_named_26 rfl (lv_at hl.1 2 rfl) ?_
  obtain ⟨σ9, eσ9, rσ9, hf⟩ := cc_p_s hf
  refine cw_put B hw rσ9 cwt_7 (by decide) rfl cfl_X6_21 ix1 eσ9 rfl (cw_fv_n rfl rfl) dX6_named_27 (fun H locs hw => ?_)
  refine cl_aload_n hx hb dX6_named_30 rfl (lv_at hl.1 0 rfl) ?_
  exact cw_reta B hf hw dX6_named_31

set_option maxHeartbeats 4000000 in
set_option maxRecDepth 100000 in
theorem pm_X6_named {v : cwE} {bd : cBd} {l : Launch} {d : Nat} {rec : Nat → CS → List Int → CO} (hbd : bd = cw_bd v) (hR : cw_Rec l v d rec) (htr : l.stackTraces = false) (hd5 : 5 ≤ d) (σ σ' : CS) (x0 x1 : Int) (kd : Nat) (r : Int) (ix0 : inR x0) (ix1 : inR x1) (hf : pc_X6_named_0 rec bd σ x0 x1 = some (σ', kd, r)) : cw_Met l v yX6_named cX6_named 3 (some (.object "PureHouse$Node")) (d + 1) [.int (rI x0), .int (rI x1)] σ σ' kd (some (cR v r)) := by
  refine cw_ofW (by decide +kernel) ?_
  intro p e s m args below meth c s₁ B hml hv
  obtain ⟨rfl, hM, hK⟩ := hv
  have hts := atoms_spec (ws := Cond.code yX6_named cX6_named 3 (some (.object "PureHouse$Node")) :: cw_bw) B.pre
  have hB : cw_B v RX6 p s m _ meth c cX6_named 3 (some (.object "PureHouse$Node")) := ⟨B.exec, B.bytes, B.returns, hml, findClass_of_methodNamed B.named, fun w h => hts w (List.mem_cons_of_mem _ h), B.notSynchronized, hK⟩
  have hnh := cc_nh B (hts _ List.mem_cons_self)
  rw [lg_entry_eq]
  obtain ⟨ls, hls, hl⟩ := cl_ent [.int (rI x0), .int (rI x1)] 3 (cl_1i (cl_1i cl_10)) (Nat.le_of_ble_eq_true rfl)
  rw [hls]
  exact pw_X6_named_0 hbd hR htr hd5 hB hnh σ x0 x1 ix0 ix1 hf _ _ _ _ _ (cw_W0 hM) (cl_sub hl [0, 1] rfl)

set_option maxHeartbeats 4000000 in
set_option maxRecDepth 100000 in
theorem pw_X6_use_0 {v : cwE} {bd : cBd} {p : Program} {l : Launch} {e : Env} {s : State} {m : MethodId} {args : Array Value} {below : List Frame} {meth : Method} {c : Code} {d : Nat} {rec : Nat → CS → List Int → CO} {σ0 σ' : CS} {kd : Nat} {r : Int} (hbd : bd = cw_bd v) (hR : cw_Rec l v d rec) (htr : l.stackTraces = false) (hd5 : 5 ≤ d) (B : cw_B v RX6 p s m args meth c cX6_use 3 (some (.object "PureHouse$Node"))) (hnh : ∀ x ∈ c.exceptionTable.toList, False) : ∀ (σ : CS) (x0 x1 : Int), inR x0 → inR x1 → pc_X6_use_0 rec bd σ x0 x1 = some (σ', kd, r) → ∀ (H : Heap) (locs : List Loc) (cells slots : Nat) (ls : Array Slot), cw_W v s σ0 σ H locs cells slots → cl_has ls 3 [(0, cR v x0), (1, cR v x1)] → W p l e (cw_rm v (d + 1) σ0) s m args below meth c H locs cells slots (cw_Z below v σ0 σ' kd (some (cR v r)) args s) (F0 m 0 ls []) := by
  subst hbd
  obtain ⟨hx, hb, hr, hml, hown, hts, hlk, hK⟩ := id B
  intro σ x0 x1 ix0 ix1 hf H locs cells slots ls hw hl
  unfold pc_X6_use_0 at hf
  obtain ⟨σ1, z2, eσ1, ez2, iz2, rσ1, hf⟩ := cc_n_s hf
  refine cw_new B hw cwt_7 rfl cwd_7 cnl_X6_10 cni_7 cnz_7 rσ1 eσ1 ez2 dX6_use_0 (fun H hw => ?_)
  refine lv_dup hx hb dX6_use_3 (cR_cat _) ?_
  refine lv_bipush (v := rI 7) hx hb dX6_use_4 (by decide +kernel) ?_
  refine lv_iconst (v := rI 0) hx hb dX6_use_6 rfl ?_
  obtain ⟨qσ3, hf⟩ := cc_t_s hf
  obtain ⟨σ3, z5, hσ3, hf⟩ := cc_ci_s hf
  obtain ⟨iz5, mσ3⟩ := hR 105 σ1 [z2, 7, 0] σ3 0 z5 hσ3
  have mσ3 : cw_Met l v yX6_init cX6_init 3 none d [cR v z2, .int (rI 7), .int (rI 0)] σ1 σ3 0 none := mσ3 iz2 ⟨by decide, by decide⟩ ⟨by decide, by decide⟩
  refine cw_ci (b := z2) (n := 2) (rest := [cR v z2]) (As := [.int (rI 7), .int (rI 0)]) B mσ3 qσ3.1 rfl cgo_yX6_init cml_X6_47 cin_yX6_init (by decide +kernel) (by decide) rfl hl.1.1 (cl_cs (cl_1r cl_10) (Nat.le_of_ble_eq_true rfl)) dX6_use_7 rfl hw (fun H locs cells slots hw => ?_)
  refine cl_astore_n (lv' := [(2, cR v z2), (0, cR v x0), (1, cR v x1)]) hx hb dX6_use_10 rfl hl (by decide) rfl (fun ls hl => ?_)
  refine cl_aload_n hx hb dX6_use_11 rfl (lv_at hl.1 0 rfl) ?_
  refine cl_aload_n hx hb dX6_use_12 rfl (lv_at hl.1 1 rfl) ?_
  obtain ⟨σ6, eσ6, rσ6, hf⟩ := cc_p_s hf
  refine cw_put B hw rσ6 cwt_7 (by decide) rfl cfl_X6_24 ix0 eσ6 rfl (cw_fv_r rfl (Or.inl ⟨_, rfl⟩)) dX6_use_13 (fun H locs hw => ?_)
  refine cl_aload_n hx hb dX6_use_16 rfl (lv_at hl.1 0 rfl) ?_
  refine cl_aload_n hx hb dX6_use_17 rfl (lv_at hl.1 2 rfl) ?_
  obtain ⟨σ7, eσ7, rσ7, hf⟩ := cc_p_s hf
  refine cw_put B hw rσ7 cwt_7 (by decide) rfl cfl_X6_31 ix1 eσ7 rfl (cw_fv_r rfl (Or.inr ⟨_, rfl⟩)) dX6_use_18 (fun H locs hw => ?_)
  refine cl_aload_n hx hb dX6_use_21 rfl (lv_at hl.1 0 rfl) ?_
  refine cl_aload_n hx hb dX6_use_22 rfl (lv_at hl.1 1 rfl) ?_
  obtain ⟨z8, ez8, iz8, rz8, hf⟩ := cc_g_s hw hf
  refine cw_get (val := .int (rI z8)) B hw rz8 ⟨by decide, by decide⟩ (by decide) cwi_7 cfl_X6_9 ez8 rfl dX6_use_23 ?_
  obtain ⟨σ9, eσ9, rσ9, hf⟩ := cc_p_s hf
  refine cw_put B hw rσ9 cwt_7 (by decide) rfl cfl_X6_9 iz8 eσ9 rfl (cw_fv_n rfl rfl) dX6_use_26 (fun H locs hw => ?_)
  refine cl_aload_n hx hb dX6_use_29 rfl (lv_at hl.1 0 rfl) ?_
  refine cl_aload_n hx hb dX6_use_30 rfl (lv_at hl.1 1 rfl) ?_
  obtain ⟨z10, ez10, iz10, rz10, hf⟩ := cc_g_s hw hf
  refine cw_get (val := .int (rI z10)) B hw rz10 ⟨by decide, by decide⟩ (by decide) cwi_7 cfl_X6_15 ez10 rfl dX6_use_31 ?_
  obtain ⟨σ11, eσ11, rσ11, hf⟩ := cc_p_s hf
  refine cw_put B hw rσ11 cwt_7 (by decide) rfl cfl_X6_15 iz10 eσ11 rfl (cw_fv_n rfl rfl) dX6_use_34 (fun H locs hw => ?_)
  refine cl_aload_n hx hb dX6_use_37 rfl (lv_at hl.1 0 rfl) ?_
  exact cw_reta B hf hw dX6_use_38

set_option maxHeartbeats 4000000 in
set_option maxRecDepth 100000 in
theorem pm_X6_use {v : cwE} {bd : cBd} {l : Launch} {d : Nat} {rec : Nat → CS → List Int → CO} (hbd : bd = cw_bd v) (hR : cw_Rec l v d rec) (htr : l.stackTraces = false) (hd5 : 5 ≤ d) (σ σ' : CS) (x0 x1 : Int) (kd : Nat) (r : Int) (ix0 : inR x0) (ix1 : inR x1) (hf : pc_X6_use_0 rec bd σ x0 x1 = some (σ', kd, r)) : cw_Met l v yX6_use cX6_use 3 (some (.object "PureHouse$Node")) (d + 1) [cR v x0, cR v x1] σ σ' kd (some (cR v r)) := by
  refine cw_ofW (by decide +kernel) ?_
  intro p e s m args below meth c s₁ B hml hv
  obtain ⟨rfl, hM, hK⟩ := hv
  have hts := atoms_spec (ws := Cond.code yX6_use cX6_use 3 (some (.object "PureHouse$Node")) :: cw_bw) B.pre
  have hB : cw_B v RX6 p s m _ meth c cX6_use 3 (some (.object "PureHouse$Node")) := ⟨B.exec, B.bytes, B.returns, hml, findClass_of_methodNamed B.named, fun w h => hts w (List.mem_cons_of_mem _ h), B.notSynchronized, hK⟩
  have hnh := cc_nh B (hts _ List.mem_cons_self)
  rw [lg_entry_eq]
  obtain ⟨ls, hls, hl⟩ := cl_ent [cR v x0, cR v x1] 3 (cl_1r (cl_1r cl_10)) (Nat.le_of_ble_eq_true rfl)
  rw [hls]
  exact pw_X6_use_0 hbd hR htr hd5 hB hnh σ x0 x1 ix0 ix1 hf _ _ _ _ _ (cw_W0 hM) (cl_sub hl [0, 1] rfl)

set_option maxHeartbeats 4000000 in
set_option maxRecDepth 100000 in
theorem pw_X7_advance_0 {v : cwE} {bd : cBd} {p : Program} {l : Launch} {e : Env} {s : State} {m : MethodId} {args : Array Value} {below : List Frame} {meth : Method} {c : Code} {d : Nat} {rec : Nat → CS → List Int → CO} {σ0 σ' : CS} {kd : Nat} {r : Int} (hbd : bd = cw_bd v) (hR : cw_Rec l v d rec) (htr : l.stackTraces = false) (hd5 : 5 ≤ d) (B : cw_B v RX7 p s m args meth c cX7_advance 1 none) (hnh : ∀ x ∈ c.exceptionTable.toList, False) : ∀ (σ : CS) (x0 : Int), inR x0 → pc_X7_advance_0 rec bd σ x0 = some (σ', kd, r) → ∀ (H : Heap) (locs : List Loc) (cells slots : Nat) (ls : Array Slot), cw_W v s σ0 σ H locs cells slots → cl_has ls 1 [(0, cR v x0)] → W p l e (cw_rm v (d + 1) σ0) s m args below meth c H locs cells slots (cw_Z below v σ0 σ' kd none args s) (F0 m 0 ls []) := by
  subst hbd
  obtain ⟨hx, hb, hr, hml, hown, hts, hlk, hK⟩ := id B
  intro σ x0 ix0 hf H locs cells slots ls hw hl
  unfold pc_X7_advance_0 at hf
  refine cl_aload_n hx hb dX7_advance_0 rfl (lv_at hl.1 0 rfl) ?_
  obtain ⟨z1, ez1, iz1, rz1, hf⟩ := cc_g_s hw hf
  refine cw_get (val := .int (rI z1)) B hw rz1 ⟨by decide, by decide⟩ (by decide) cwi_8 cfl_X7_15 ez1 rfl dX7_advance_1 ?_
  refine cl_aload_n hx hb dX7_advance_4 rfl (lv_at hl.1 0 rfl) ?_
  obtain ⟨z2, ez2, iz2, rz2, hf⟩ := cc_g_s hw hf
  refine cw_get (val := cR v z2) B hw rz2 ⟨by decide, by decide⟩ (by decide) cwi_8 cfl_X7_38 ez2 rfl dX7_advance_5 ?_
  obtain ⟨z3, ez3, iz3, rz3, hf⟩ := cc_l_s hf
  refine cw_len B hw rz3 (by decide) ez3 iz3 dX7_advance_8 ?_
  refine rn_icmp_lt (a := z1) (b := z3) (tgt := 13) hx hb iz1 iz3 dX7_advance_9 (by decide) (fun c4 => ?_) (fun c4 => ?_)
  · replace hf := cc_if_t hf c4
    refine cl_aload_n hx hb dX7_advance_13 rfl (lv_at hl.1 0 rfl) ?_
    refine cl_aload_n hx hb dX7_advance_14 rfl (lv_at hl.1 0 rfl) ?_
    obtain ⟨z5, ez5, iz5, rz5, hf⟩ := cc_g_s hw hf
    refine cw_get (val := cR v z5) B hw rz5 ⟨by decide, by decide⟩ (by decide) cwi_8 cfl_X7_38 ez5 rfl dX7_advance_15 ?_
    refine cl_aload_n hx hb dX7_advance_18 rfl (lv_at hl.1 0 rfl) ?_
    obtain ⟨z6, ez6, iz6, rz6, hf⟩ := cc_g_s hw hf
    refine cw_get (val := .int (rI z6)) B hw rz6 ⟨by decide, by decide⟩ (by decide) cwi_8 cfl_X7_15 ez6 rfl dX7_advance_19 ?_
    obtain ⟨z7, ez7, iz7, rz7, bz7, hf⟩ := cc_r_s hw hf
    refine cw_aldI B hw rz7 iz6 bz7 ez7 dX7_advance_22 ?_
    obtain ⟨σ8, eσ8, rσ8, hf⟩ := cc_p_s hf
    refine cw_put B hw rσ8 cwt_8 (by decide) rfl cfl_X7_18 iz7 eσ8 rfl (cw_fv_n rfl rfl) dX7_advance_23 (fun H locs hw => ?_)
    refine cl_aload_n hx hb dX7_advance_26 rfl (lv_at hl.1 0 rfl) ?_
    refine cl_aload_n hx hb dX7_advance_27 rfl (lv_at hl.1 0 rfl) ?_
    obtain ⟨z9, ez9, iz9, rz9, hf⟩ := cc_g_s hw hf
    refine cw_get (val := cR v z9) B hw rz9 ⟨by decide, by decide⟩ (by decide) cwi_8 cfl_X7_42 ez9 rfl dX7_advance_28 ?_
    refine cl_aload_n hx hb dX7_advance_31 rfl (lv_at hl.1 0 rfl) ?_
    obtain ⟨z10, ez10, iz10, rz10, hf⟩ := cc_g_s hw hf
    refine cw_get (val := .int (rI z10)) B hw rz10 ⟨by decide, by decide⟩ (by decide) cwi_8 cfl_X7_15 ez10 rfl dX7_advance_32 ?_
    obtain ⟨z11, ez11, iz11, rz11, bz11, hf⟩ := cc_r_s hw hf
    refine cw_aldI B hw rz11 iz10 bz11 ez11 dX7_advance_35 ?_
    obtain ⟨σ12, eσ12, rσ12, hf⟩ := cc_p_s hf
    refine cw_put B hw rσ12 cwt_8 (by decide) rfl cfl_X7_21 iz11 eσ12 rfl (cw_fv_n rfl rfl) dX7_advance_36 (fun H locs hw => ?_)
    refine cl_aload_n hx hb dX7_advance_39 rfl (lv_at hl.1 0 rfl) ?_
    refine cl_aload_n hx hb dX7_advance_40 rfl (lv_at hl.1 0 rfl) ?_
    obtain ⟨z13, ez13, iz13, rz13, hf⟩ := cc_g_s hw hf
    refine cw_get (val := cR v z13) B hw rz13 ⟨by decide, by decide⟩ (by decide) cwi_8 cfl_X7_45 ez13 rfl dX7_advance_41 ?_
    refine cl_aload_n hx hb dX7_advance_44 rfl (lv_at hl.1 0 rfl) ?_
    obtain ⟨z14, ez14, iz14, rz14, hf⟩ := cc_g_s hw hf
    refine cw_get (val := .int (rI z14)) B hw rz14 ⟨by decide, by decide⟩ (by decide) cwi_8 cfl_X7_15 ez14 rfl dX7_advance_45 ?_
    obtain ⟨z15, ez15, iz15, rz15, bz15, hf⟩ := cc_r_s hw hf
    refine cw_aldI B hw rz15 iz14 bz15 ez15 dX7_advance_48 ?_
    obtain ⟨σ16, eσ16, rσ16, hf⟩ := cc_p_s hf
    refine cw_put B hw rσ16 cwt_8 (by decide) rfl cfl_X7_24 iz15 eσ16 rfl (cw_fv_n rfl rfl) dX7_advance_49 (fun H locs hw => ?_)
    refine cl_aload_n hx hb dX7_advance_52 rfl (lv_at hl.1 0 rfl) ?_
    refine lv_dup hx hb dX7_advance_53 (cR_cat _) ?_
    obtain ⟨z17, ez17, iz17, rz17, hf⟩ := cc_g_s hw hf
    refine cw_get (val := .int (rI z17)) B hw rz17 ⟨by decide, by decide⟩ (by decide) cwi_8 cfl_X7_15 ez17 rfl dX7_advance_54 ?_
    refine lv_iconst (v := rI 1) hx hb dX7_advance_57 rfl ?_
    obtain ⟨z18, ez18, iz18, hf⟩ := cc_ck_s hf
    refine rn_add hx hb ez18 dX7_advance_58 ?_
    obtain ⟨σ19, eσ19, rσ19, hf⟩ := cc_p_s hf
    refine cw_put B hw rσ19 cwt_8 (by decide) rfl cfl_X7_15 iz18 eσ19 rfl (cw_fv_n rfl rfl) dX7_advance_59 (fun H locs hw => ?_)
    exact cw_retv B hf hw dX7_advance_62
  · replace hf := cc_if_f hf c4
    exact cw_retv B hf hw dX7_advance_12

set_option maxHeartbeats 4000000 in
set_option maxRecDepth 100000 in
theorem pm_X7_advance {v : cwE} {bd : cBd} {l : Launch} {d : Nat} {rec : Nat → CS → List Int → CO} (hbd : bd = cw_bd v) (hR : cw_Rec l v d rec) (htr : l.stackTraces = false) (hd5 : 5 ≤ d) (σ σ' : CS) (x0 : Int) (kd : Nat) (r : Int) (ix0 : inR x0) (hf : pc_X7_advance_0 rec bd σ x0 = some (σ', kd, r)) : cw_Met l v yX7_advance cX7_advance 1 none (d + 1) [cR v x0] σ σ' kd none := by
  refine cw_ofW (by decide +kernel) ?_
  intro p e s m args below meth c s₁ B hml hv
  obtain ⟨rfl, hM, hK⟩ := hv
  have hts := atoms_spec (ws := Cond.code yX7_advance cX7_advance 1 none :: cw_bw) B.pre
  have hB : cw_B v RX7 p s m _ meth c cX7_advance 1 none := ⟨B.exec, B.bytes, B.returns, hml, findClass_of_methodNamed B.named, fun w h => hts w (List.mem_cons_of_mem _ h), B.notSynchronized, hK⟩
  have hnh := cc_nh B (hts _ List.mem_cons_self)
  rw [lg_entry_eq]
  obtain ⟨ls, hls, hl⟩ := cl_ent [cR v x0] 1 (cl_1r cl_10) (Nat.le_of_ble_eq_true rfl)
  rw [hls]
  exact pw_X7_advance_0 hbd hR htr hd5 hB hnh σ x0 ix0 hf _ _ _ _ _ (cw_W0 hM) (cl_sub hl [0] rfl)

set_option maxHeartbeats 4000000 in
set_option maxRecDepth 100000 in
theorem pw_X7_atom_0 {v : cwE} {bd : cBd} {p : Program} {l : Launch} {e : Env} {s : State} {m : MethodId} {args : Array Value} {below : List Frame} {meth : Method} {c : Code} {d : Nat} {rec : Nat → CS → List Int → CO} {σ0 σ' : CS} {kd : Nat} {r : Int} (hbd : bd = cw_bd v) (hR : cw_Rec l v d rec) (htr : l.stackTraces = false) (hd5 : 5 ≤ d) (B : cw_B v RX7 p s m args meth c cX7_atom 4 (some (.object "PureHouse$Node"))) (hnh : ∀ x ∈ c.exceptionTable.toList, False) : ∀ (σ : CS) (x0 x1 : Int), inR x0 → inR x1 → pc_X7_atom_0 rec bd σ x0 x1 = some (σ', kd, r) → ∀ (H : Heap) (locs : List Loc) (cells slots : Nat) (ls : Array Slot), cw_W v s σ0 σ H locs cells slots → cl_has ls 4 [(0, cR v x0), (1, .int (rI x1))] → W p l e (cw_rm v (d + 1) σ0) s m args below meth c H locs cells slots (cw_Z below v σ0 σ' kd (some (cR v r)) args s) (F0 m 0 ls []) := by
  subst hbd
  obtain ⟨hx, hb, hr, hml, hown, hts, hlk, hK⟩ := id B
  intro σ x0 x1 ix0 ix1 hf H locs cells slots ls hw hl
  unfold pc_X7_atom_0 at hf
  refine cl_aload_n hx hb dX7_atom_0 rfl (lv_at hl.1 0 rfl) ?_
  obtain ⟨z1, ez1, iz1, rz1, hf⟩ := cc_g_s hw hf
  refine cw_get (val := .int (rI z1)) B hw rz1 ⟨by decide, by decide⟩ (by decide) cwi_8 cfl_X7_18 ez1 rfl dX7_atom_1 ?_
  refine lv_bipush (v := rI 40) hx hb dX7_atom_4 (by decide +kernel) ?_
  refine rn_icmp_eq (a := z1) (b := 40) (tgt := 14) hx hb iz1 ⟨by decide, by decide⟩ dX7_atom_6 (by decide) (fun c2 => ?_) (fun c2 => ?_)
  · replace hf := cc_if_t hf c2
    refine cl_aload_n hx hb dX7_atom_14 rfl (lv_at hl.1 0 rfl) ?_
    obtain ⟨z3, ez3, iz3, rz3, hf⟩ := cc_g_s hw hf
    refine cw_get (val := .int (rI z3)) B hw rz3 ⟨by decide, by decide⟩ (by decide) cwi_8 cfl_X7_21 ez3 rfl dX7_atom_15 ?_
    refine cl_istore_n (lv' := [(2, .int (rI z3)), (0, cR v x0), (1, .int (rI x1))]) hx hb dX7_atom_18 rfl hl (by decide) rfl (fun ls hl => ?_)
    refine cl_aload_n hx hb dX7_atom_19 rfl (lv_at hl.1 1 rfl) ?_
    obtain ⟨qσ4, hf⟩ := cc_t_s hf
    obtain ⟨σ4, kv5, z6, hσ4, hf⟩ := cc_cl_s hf
    obtain ⟨iz6, mσ4⟩ := hR 109 σ [x0] σ4 kv5 z6 hσ4
    have mσ4 : cw_Met l v yX7_advance cX7_advance 1 none d [cR v x0] σ σ4 kv5 none := mσ4 ix0
    refine cw_cv (b := x0) (t := 8) (n := 0) (rest := []) (As := []) B mσ4 qσ4 ⟨by decide, by decide⟩ cgo_yX7_advance cml_X7_60 cin_yX7_advance cse_yX7_advance (by decide +kernel) (by decide) rfl hl.1.1 (Nat.le_of_ble_eq_true rfl) dX7_atom_20 rfl hw (fun h0 H locs cells slots hw => ?_) (fun h0 H locs cells slots q ce hw h1 h2 h3 => ?_)
    · rcases hf with ⟨-, hf⟩ | ⟨hk, -⟩
      · skip
        refine cl_aload_n hx hb dX7_atom_23 rfl (lv_at hl.1 1 rfl) ?_
        refine lv_iload_n hx hb dX7_atom_24 rfl (lv_at hl.1 2 rfl) ?_
        refine lv_iconst (v := rI 1) hx hb dX7_atom_25 rfl ?_
        obtain ⟨z7, ez7, iz7, hf⟩ := cc_ck_s hf
        refine rn_add hx hb ez7 dX7_atom_26 ?_
        obtain ⟨qσ8, hf⟩ := cc_t_s hf
        obtain ⟨σ8, kv9, z10, hσ8, hf⟩ := cc_cl_s hf
        obtain ⟨iz10, mσ8⟩ := hR 131 σ4 [x0, z7] σ8 kv9 z10 hσ8
        have mσ8 : cw_Met l v yX7_term cX7_term 5 (some (.object "PureHouse$Node")) d [cR v x0, .int (rI z7)] σ4 σ8 kv9 (some (cR v z10)) := mσ8 ix0 iz7
        refine cw_cv (b := x0) (t := 8) (n := 1) (rest := []) (As := [.int (rI z7)]) B mσ8 qσ8 ⟨by decide, by decide⟩ cgo_yX7_term cml_X7_103 cin_yX7_term cse_yX7_term (by decide +kernel) (by decide) rfl hl.1.1 (Nat.le_of_ble_eq_true rfl) dX7_atom_27 rfl hw (fun h0 H locs cells slots hw => ?_) (fun h0 H locs cells slots q ce hw h1 h2 h3 => ?_)
        · rcases hf with ⟨-, hf⟩ | ⟨hk, -⟩
          · skip
            refine cl_astore_n (lv' := [(3, cR v z10), (2, .int (rI z3)), (0, cR v x0), (1, .int (rI x1))]) hx hb dX7_atom_30 rfl hl (by decide) rfl (fun ls hl => ?_)
            refine cl_aload_n hx hb dX7_atom_31 rfl (lv_at hl.1 2 rfl) ?_
            refine lv_bipush (v := rI 41) hx hb dX7_atom_32 (by decide +kernel) ?_
            obtain ⟨qσ11, hf⟩ := cc_t_s hf
            obtain ⟨σ11, kv12, z13, hσ11, hf⟩ := cc_cl_s hf
            obtain ⟨iz13, mσ11⟩ := hR 116 σ8 [x0, 41] σ11 kv12 z13 hσ11
            have mσ11 : cw_Met l v yX7_expect cX7_expect 2 none d [cR v x0, .int (rI 41)] σ8 σ11 kv12 none := mσ11 ix0 ⟨by decide, by decide⟩
            refine cw_cv (b := x0) (t := 8) (n := 1) (rest := []) (As := [.int (rI 41)]) B mσ11 qσ11 ⟨by decide, by decide⟩ cgo_yX7_expect cml_X7_73 cin_yX7_expect cse_yX7_expect (by decide +kernel) (by decide) rfl hl.1.1 (Nat.le_of_ble_eq_true rfl) dX7_atom_34 rfl hw (fun h0 H locs cells slots hw => ?_) (fun h0 H locs cells slots q ce hw h1 h2 h3 => ?_)
            · rcases hf with ⟨-, hf⟩ | ⟨hk, -⟩
              · skip
                refine cl_aload_n hx hb dX7_atom_37 rfl (lv_at hl.1 0 rfl) ?_
                refine lv_iload_n hx hb dX7_atom_38 rfl (lv_at hl.1 1 rfl) ?_
                obtain ⟨σ14, eσ14, rσ14, hf⟩ := cc_p_s hf
                refine cw_put B hw rσ14 cwt_7 (by decide) rfl cfl_X7_134 iz3 eσ14 rfl (cw_fv_n rfl rfl) dX7_atom_39 (fun H locs hw => ?_)
                refine cl_aload_n hx hb dX7_atom_42 rfl (lv_at hl.1 0 rfl) ?_
                exact cw_reta B hf hw dX7_atom_43
              · exact absurd h0 hk
            · rcases hf with ⟨hk, -⟩ | ⟨-, hf⟩
              · exact absurd hk h0
              · cases hf
                exact cw_xout B hnh h0 hw h1 h2 h3
          · exact absurd h0 hk
        · rcases hf with ⟨hk, -⟩ | ⟨-, hf⟩
          · exact absurd hk h0
          · cases hf
            exact cw_xout B hnh h0 hw h1 h2 h3
      · exact absurd h0 hk
    · rcases hf with ⟨hk, -⟩ | ⟨-, hf⟩
      · exact absurd hk h0
      · cases hf
        exact cw_xout B hnh h0 hw h1 h2 h3
  · replace hf := cc_if_f hf c2
    refine cl_aload_n hx hb dX7_atom_9 rfl (lv_at hl.1 0 rfl) ?_
    obtain ⟨qσ15, hf⟩ := cc_t_s hf
    obtain ⟨σ15, kv16, z17, hσ15, hf⟩ := cc_cl_s hf
    obtain ⟨iz17, mσ15⟩ := hR 130 σ [x0] σ15 kv16 z17 hσ15
    have mσ15 : cw_Met l v yX7_takeName cX7_takeName 2 (some (.object "PureHouse$Node")) d [cR v x0] σ σ15 kv16 (some (cR v z17)) := mσ15 ix0
    refine cw_cv (b := x0) (t := 8) (n := 0) (rest := []) (As := []) B mσ15 qσ15 ⟨by decide, by decide⟩ cgo_yX7_takeName cml_X7_86 cin_yX7_takeName cse_yX7_takeName (by decide +kernel) (by decide) rfl hl.1.1 (Nat.le_of_ble_eq_true rfl) dX7_atom_10 rfl hw (fun h0 H locs cells slots hw => ?_) (fun h0 H locs cells slots q ce hw h1 h2 h3 => ?_)
    · rcases hf with ⟨-, hf⟩ | ⟨hk, -⟩
      · skip
        exact cw_reta B hf hw dX7_atom_13
      · exact absurd h0 hk
    · rcases hf with ⟨hk, -⟩ | ⟨-, hf⟩
      · exact absurd hk h0
      · cases hf
        exact cw_xout B hnh h0 hw h1 h2 h3

set_option maxHeartbeats 4000000 in
set_option maxRecDepth 100000 in
theorem pm_X7_atom {v : cwE} {bd : cBd} {l : Launch} {d : Nat} {rec : Nat → CS → List Int → CO} (hbd : bd = cw_bd v) (hR : cw_Rec l v d rec) (htr : l.stackTraces = false) (hd5 : 5 ≤ d) (σ σ' : CS) (x0 x1 : Int) (kd : Nat) (r : Int) (ix0 : inR x0) (ix1 : inR x1) (hf : pc_X7_atom_0 rec bd σ x0 x1 = some (σ', kd, r)) : cw_Met l v yX7_atom cX7_atom 4 (some (.object "PureHouse$Node")) (d + 1) [cR v x0, .int (rI x1)] σ σ' kd (some (cR v r)) := by
  refine cw_ofW (by decide +kernel) ?_
  intro p e s m args below meth c s₁ B hml hv
  obtain ⟨rfl, hM, hK⟩ := hv
  have hts := atoms_spec (ws := Cond.code yX7_atom cX7_atom 4 (some (.object "PureHouse$Node")) :: cw_bw) B.pre
  have hB : cw_B v RX7 p s m _ meth c cX7_atom 4 (some (.object "PureHouse$Node")) := ⟨B.exec, B.bytes, B.returns, hml, findClass_of_methodNamed B.named, fun w h => hts w (List.mem_cons_of_mem _ h), B.notSynchronized, hK⟩
  have hnh := cc_nh B (hts _ List.mem_cons_self)
  rw [lg_entry_eq]
  obtain ⟨ls, hls, hl⟩ := cl_ent [cR v x0, .int (rI x1)] 4 (cl_1r (cl_1i cl_10)) (Nat.le_of_ble_eq_true rfl)
  rw [hls]
  exact pw_X7_atom_0 hbd hR htr hd5 hB hnh σ x0 x1 ix0 ix1 hf _ _ _ _ _ (cw_W0 hM) (cl_sub hl [0, 1] rfl)

set_option maxHeartbeats 4000000 in
set_option maxRecDepth 100000 in
theorem pw_X7_atomBegins_0 {v : cwE} {bd : cBd} {p : Program} {l : Launch} {e : Env} {s : State} {m : MethodId} {args : Array Value} {below : List Frame} {meth : Method} {c : Code} {d : Nat} {rec : Nat → CS → List Int → CO} {σ0 σ' : CS} {kd : Nat} {r : Int} (hbd : bd = cw_bd v) (hR : cw_Rec l v d rec) (htr : l.stackTraces = false) (hd5 : 5 ≤ d) (B : cw_B v RX7 p s m args meth c cX7_atomBegins 1 (some .boolean)) (hnh : ∀ x ∈ c.exceptionTable.toList, False) : ∀ (σ : CS) (x0 : Int), inR x0 → pc_X7_atomBegins_0 rec bd σ x0 = some (σ', kd, r) → ∀ (H : Heap) (locs : List Loc) (cells slots : Nat) (ls : Array Slot), cw_W v s σ0 σ H locs cells slots → cl_has ls 1 [(0, cR v x0)] → W p l e (cw_rm v (d + 1) σ0) s m args below meth c H locs cells slots (cw_Z below v σ0 σ' kd (some (.int (rI r))) args s) (F0 m 0 ls []) := by
  subst hbd
  obtain ⟨hx, hb, hr, hml, hown, hts, hlk, hK⟩ := id B
  intro σ x0 ix0 hf H locs cells slots ls hw hl
  unfold pc_X7_atomBegins_0 at hf
  refine cl_aload_n hx hb dX7_atomBegins_0 rfl (lv_at hl.1 0 rfl) ?_
  obtain ⟨z1, ez1, iz1, rz1, hf⟩ := cc_g_s hw hf
  refine cw_get (val := .int (rI z1)) B hw rz1 ⟨by decide, by decide⟩ (by decide) cwi_8 cfl_X7_18 ez1 rfl dX7_atomBegins_1 ?_
  refine lv_sipush (v := rI 256) hx hb dX7_atomBegins_4 (by decide +kernel) ?_
  refine rn_icmp_eq (a := z1) (b := 256) (tgt := 19) hx hb iz1 ⟨by decide, by decide⟩ dX7_atomBegins_7 (by decide) (fun c2 => ?_) (fun c2 => ?_)
  · replace hf := cc_if_t hf c2
    refine lv_iconst (v := rI 1) hx hb dX7_atomBegins_19 rfl ?_
    refine lv_goto (tgt := 24) hx hb dX7_atomBegins_20 (by decide) ?_
    obtain ⟨h01, hf⟩ := cc_bo_s hf
    exact cw_retz B h01 hf hw dX7_atomBegins_24
  · replace hf := cc_if_f hf c2
    refine cl_aload_n hx hb dX7_atomBegins_10 rfl (lv_at hl.1 0 rfl) ?_
    obtain ⟨z3, ez3, iz3, rz3, hf⟩ := cc_g_s hw hf
    refine cw_get (val := .int (rI z3)) B hw rz3 ⟨by decide, by decide⟩ (by decide) cwi_8 cfl_X7_18 ez3 rfl dX7_atomBegins_11 ?_
    refine lv_bipush (v := rI 40) hx hb dX7_atomBegins_14 (by decide +kernel) ?_
    refine rn_icmp_ne (a := z3) (b := 40) (tgt := 23) hx hb iz3 ⟨by decide, by decide⟩ dX7_atomBegins_16 (by decide) (fun c4 => ?_) (fun c4 => ?_)
    · replace hf := cc_if_t hf c4
      refine lv_iconst (v := rI 0) hx hb dX7_atomBegins_23 rfl ?_
      obtain ⟨h01, hf⟩ := cc_bo_s hf
      exact cw_retz B h01 hf hw dX7_atomBegins_24
    · replace hf := cc_if_f hf c4
      refine lv_iconst (v := rI 1) hx hb dX7_atomBegins_19 rfl ?_
      refine lv_goto (tgt := 24) hx hb dX7_atomBegins_20 (by decide) ?_
      obtain ⟨h01, hf⟩ := cc_bo_s hf
      exact cw_retz B h01 hf hw dX7_atomBegins_24

set_option maxHeartbeats 4000000 in
set_option maxRecDepth 100000 in
theorem pm_X7_atomBegins {v : cwE} {bd : cBd} {l : Launch} {d : Nat} {rec : Nat → CS → List Int → CO} (hbd : bd = cw_bd v) (hR : cw_Rec l v d rec) (htr : l.stackTraces = false) (hd5 : 5 ≤ d) (σ σ' : CS) (x0 : Int) (kd : Nat) (r : Int) (ix0 : inR x0) (hf : pc_X7_atomBegins_0 rec bd σ x0 = some (σ', kd, r)) : cw_Met l v yX7_atomBegins cX7_atomBegins 1 (some .boolean) (d + 1) [cR v x0] σ σ' kd (some (.int (rI r))) := by
  refine cw_ofW (by decide +kernel) ?_
  intro p e s m args below meth c s₁ B hml hv
  obtain ⟨rfl, hM, hK⟩ := hv
  have hts := atoms_spec (ws := Cond.code yX7_atomBegins cX7_atomBegins 1 (some .boolean) :: cw_bw) B.pre
  have hB : cw_B v RX7 p s m _ meth c cX7_atomBegins 1 (some .boolean) := ⟨B.exec, B.bytes, B.returns, hml, findClass_of_methodNamed B.named, fun w h => hts w (List.mem_cons_of_mem _ h), B.notSynchronized, hK⟩
  have hnh := cc_nh B (hts _ List.mem_cons_self)
  rw [lg_entry_eq]
  obtain ⟨ls, hls, hl⟩ := cl_ent [cR v x0] 1 (cl_1r cl_10) (Nat.le_of_ble_eq_true rfl)
  rw [hls]
  exact pw_X7_atomBegins_0 hbd hR htr hd5 hB hnh σ x0 ix0 hf _ _ _ _ _ (cw_W0 hM) (cl_sub hl [0] rfl)

set_option maxHeartbeats 4000000 in
set_option maxRecDepth 100000 in
theorem pw_X7_axiom_0 {v : cwE} {bd : cBd} {p : Program} {l : Launch} {e : Env} {s : State} {m : MethodId} {args : Array Value} {below : List Frame} {meth : Method} {c : Code} {d : Nat} {rec : Nat → CS → List Int → CO} {σ0 σ' : CS} {kd : Nat} {r : Int} (hbd : bd = cw_bd v) (hR : cw_Rec l v d rec) (htr : l.stackTraces = false) (hd5 : 5 ≤ d) (B : cw_B v RX7 p s m args meth c cX7_axiom 3 (some (.object "PureHouse$Statement"))) (hnh : ∀ x ∈ c.exceptionTable.toList, False) : ∀ (σ : CS) (x0 x1 : Int), inR x0 → inR x1 → pc_X7_axiom_0 rec bd σ x0 x1 = some (σ', kd, r) → ∀ (H : Heap) (locs : List Loc) (cells slots : Nat) (ls : Array Slot), cw_W v s σ0 σ H locs cells slots → cl_has ls 3 [(0, cR v x0), (1, .int (rI x1))] → W p l e (cw_rm v (d + 1) σ0) s m args below meth c H locs cells slots (cw_Z below v σ0 σ' kd (some (cR v r)) args s) (F0 m 0 ls []) := by
  subst hbd
  obtain ⟨hx, hb, hr, hml, hown, hts, hlk, hK⟩ := id B
  intro σ x0 x1 ix0 ix1 hf H locs cells slots ls hw hl
  unfold pc_X7_axiom_0 at hf
  refine cl_aload_n hx hb dX7_axiom_0 rfl (lv_at hl.1 0 rfl) ?_
  obtain ⟨qσ1, hf⟩ := cc_t_s hf
  obtain ⟨σ1, kv2, z3, hσ1, hf⟩ := cc_cl_s hf
  obtain ⟨iz3, mσ1⟩ := hR 130 σ [x0] σ1 kv2 z3 hσ1
  have mσ1 : cw_Met l v yX7_takeName cX7_takeName 2 (some (.object "PureHouse$Node")) d [cR v x0] σ σ1 kv2 (some (cR v z3)) := mσ1 ix0
  refine cw_cv (b := x0) (t := 8) (n := 0) (rest := []) (As := []) B mσ1 qσ1 ⟨by decide, by decide⟩ cgo_yX7_takeName cml_X7_86 cin_yX7_takeName cse_yX7_takeName (by decide +kernel) (by decide) rfl hl.1.1 (Nat.le_of_ble_eq_true rfl) dX7_axiom_1 rfl hw (fun h0 H locs cells slots hw => ?_) (fun h0 H locs cells slots q ce hw h1 h2 h3 => ?_)
  · rcases hf with ⟨-, hf⟩ | ⟨hk, -⟩
    · skip
      refine cl_astore_n (lv' := [(2, cR v z3), (0, cR v x0), (1, .int (rI x1))]) hx hb dX7_axiom_4 rfl hl (by decide) rfl (fun ls hl => ?_)
      refine cl_aload_n hx hb dX7_axiom_5 rfl (lv_at hl.1 1 rfl) ?_
      refine lv_bipush (v := rI 58) hx hb dX7_axiom_6 (by decide +kernel) ?_
      obtain ⟨qσ4, hf⟩ := cc_t_s hf
      obtain ⟨σ4, kv5, z6, hσ4, hf⟩ := cc_cl_s hf
      obtain ⟨iz6, mσ4⟩ := hR 116 σ1 [x0, 58] σ4 kv5 z6 hσ4
      have mσ4 : cw_Met l v yX7_expect cX7_expect 2 none d [cR v x0, .int (rI 58)] σ1 σ4 kv5 none := mσ4 ix0 ⟨by decide, by decide⟩
      refine cw_cv (b := x0) (t := 8) (n := 1) (rest := []) (As := [.int (rI 58)]) B mσ4 qσ4 ⟨by decide, by decide⟩ cgo_yX7_expect cml_X7_73 cin_yX7_expect cse_yX7_expect (by decide +kernel) (by decide) rfl hl.1.1 (Nat.le_of_ble_eq_true rfl) dX7_axiom_8 rfl hw (fun h0 H locs cells slots hw => ?_) (fun h0 H locs cells slots q ce hw h1 h2 h3 => ?_)
      · rcases hf with ⟨-, hf⟩ | ⟨hk, -⟩
        · skip
          obtain ⟨σ7, z8, eσ7, ez8, iz8, rσ7, hf⟩ := cc_n_s hf
          refine cw_new B hw cwt_10 rfl cwd_10 cnl_X7_81 cni_10 cnz_10 rσ7 eσ7 ez8 dX7_axiom_11 (fun H hw => ?_)
          refine lv_dup hx hb dX7_axiom_14 (cR_cat _) ?_
          refine lv_iconst (v := rI 1) hx hb dX7_axiom_15 rfl ?_
          refine lv_iload_n hx hb dX7_axiom_16 rfl (lv_at hl.1 2 rfl) ?_
          refine cl_aload_n hx hb dX7_axiom_17 rfl (lv_at hl.1 0 rfl) ?_
          refine cl_aload_n hx hb dX7_axiom_18 rfl (lv_at hl.1 1 rfl) ?_
          obtain ⟨qσ9, hf⟩ := cc_t_s hf
          obtain ⟨σ9, kv10, z11, hσ9, hf⟩ := cc_cl_s hf
          obtain ⟨iz11, mσ9⟩ := hR 130 σ7 [x0] σ9 kv10 z11 hσ9
          have mσ9 : cw_Met l v yX7_takeName cX7_takeName 2 (some (.object "PureHouse$Node")) d [cR v x0] σ7 σ9 kv10 (some (cR v z11)) := mσ9 ix0
          refine cw_cv (b := x0) (t := 8) (n := 0) (rest := [cR v z3, .int (rI x1), .int (rI 1), cR v z8, cR v z8]) (As := []) B mσ9 qσ9 ⟨by decide, by decide⟩ cgo_yX7_takeName cml_X7_86 cin_yX7_takeName cse_yX7_takeName (by decide +kernel) (by decide) rfl hl.1.1 (cl_cs (cl_1r (cl_1i (cl_1i (cl_1r (cl_1r cl_10))))) (Nat.le_of_ble_eq_true rfl)) dX7_axiom_19 rfl hw (fun h0 H locs cells slots hw => ?_) (fun h0 H locs cells slots q ce hw h1 h2 h3 => ?_)
          · rcases hf with ⟨-, hf⟩ | ⟨hk, -⟩
            · skip
              refine cl_null (v := v) hx hb dX7_axiom_22 ?_
              obtain ⟨qσ12, hf⟩ := cc_t_s hf
              obtain ⟨σ12, z14, hσ12, hf⟩ := cc_ci_s hf
              obtain ⟨iz14, mσ12⟩ := hR 137 σ9 [z8, 1, x1, z3, z11, (-1)] σ12 0 z14 hσ12
              have mσ12 : cw_Met l v yX9_init cX9_init 6 none d [cR v z8, .int (rI 1), .int (rI x1), cR v z3, cR v z11, cR v (-1)] σ9 σ12 0 none := mσ12 iz8 ⟨by decide, by decide⟩ ix1 iz3 iz11 ⟨by decide, by decide⟩
              refine cw_ci (b := z8) (n := 5) (rest := [cR v z8]) (As := [.int (rI 1), .int (rI x1), cR v z3, cR v z11, cR v (-1)]) B mσ12 qσ12.1 rfl cgo_yX9_init cml_X7_90 cin_yX9_init (by decide +kernel) (by decide) rfl hl.1.1 (cl_cs (cl_1r cl_10) (Nat.le_of_ble_eq_true rfl)) dX7_axiom_23 rfl hw (fun H locs cells slots hw => ?_)
              exact cw_reta B hf hw dX7_axiom_26
            · exact absurd h0 hk
          · rcases hf with ⟨hk, -⟩ | ⟨-, hf⟩
            · exact absurd hk h0
            · cases hf
              exact cw_xout B hnh h0 hw h1 h2 h3
        · exact absurd h0 hk
      · rcases hf with ⟨hk, -⟩ | ⟨-, hf⟩
        · exact absurd hk h0
        · cases hf
          exact cw_xout B hnh h0 hw h1 h2 h3
    · exact absurd h0 hk
  · rcases hf with ⟨hk, -⟩ | ⟨-, hf⟩
    · exact absurd hk h0
    · cases hf
      exact cw_xout B hnh h0 hw h1 h2 h3

set_option maxHeartbeats 4000000 in
set_option maxRecDepth 100000 in
theorem pm_X7_axiom {v : cwE} {bd : cBd} {l : Launch} {d : Nat} {rec : Nat → CS → List Int → CO} (hbd : bd = cw_bd v) (hR : cw_Rec l v d rec) (htr : l.stackTraces = false) (hd5 : 5 ≤ d) (σ σ' : CS) (x0 x1 : Int) (kd : Nat) (r : Int) (ix0 : inR x0) (ix1 : inR x1) (hf : pc_X7_axiom_0 rec bd σ x0 x1 = some (σ', kd, r)) : cw_Met l v yX7_axiom cX7_axiom 3 (some (.object "PureHouse$Statement")) (d + 1) [cR v x0, .int (rI x1)] σ σ' kd (some (cR v r)) := by
  refine cw_ofW (by decide +kernel) ?_
  intro p e s m args below meth c s₁ B hml hv
  obtain ⟨rfl, hM, hK⟩ := hv
  have hts := atoms_spec (ws := Cond.code yX7_axiom cX7_axiom 3 (some (.object "PureHouse$Statement")) :: cw_bw) B.pre
  have hB : cw_B v RX7 p s m _ meth c cX7_axiom 3 (some (.object "PureHouse$Statement")) := ⟨B.exec, B.bytes, B.returns, hml, findClass_of_methodNamed B.named, fun w h => hts w (List.mem_cons_of_mem _ h), B.notSynchronized, hK⟩
  have hnh := cc_nh B (hts _ List.mem_cons_self)
  rw [lg_entry_eq]
  obtain ⟨ls, hls, hl⟩ := cl_ent [cR v x0, .int (rI x1)] 3 (cl_1r (cl_1i cl_10)) (Nat.le_of_ble_eq_true rfl)
  rw [hls]
  exact pw_X7_axiom_0 hbd hR htr hd5 hB hnh σ x0 x1 ix0 ix1 hf _ _ _ _ _ (cw_W0 hM) (cl_sub hl [0, 1] rfl)

set_option maxHeartbeats 4000000 in
set_option maxRecDepth 100000 in
theorem pw_X7_behindBlanks_58 {v : cwE} {bd : cBd} {p : Program} {l : Launch} {e : Env} {s : State} {m : MethodId} {args : Array Value} {below : List Frame} {meth : Method} {c : Code} {d : Nat} {rec : Nat → CS → List Int → CO} {σ0 σ' : CS} {kd : Nat} {r : Int} (hbd : bd = cw_bd v) (hR : cw_Rec l v d rec) (htr : l.stackTraces = false) (hd5 : 5 ≤ d) (B : cw_B v RX7 p s m args meth c cX7_behindBlanks 5 (some .int)) (hnh : ∀ x ∈ c.exceptionTable.toList, False) (k2 : CS → Int → Int → CO) (hk2 : ∀ (σ : CS) (x0 x2 : Int), inR x0 → inR x2 → k2 σ x0 x2 = some (σ', kd, r) → ∀ (H : Heap) (locs : List Loc) (cells slots : Nat) (ls : Array Slot), cw_W v s σ0 σ H locs cells slots → cl_has ls 5 [(0, cR v x0), (2, .int (rI x2))] → W p l e (cw_rm v (d + 1) σ0) s m args below meth c H locs cells slots (cw_Z below v σ0 σ' kd (some (.int (rI r))) args s) (F0 m 2 ls [])) : ∀ (σ : CS) (x0 x2 : Int), inR x0 → inR x2 → pc_X7_behindBlanks_58 rec bd k2 σ x0 x2 = some (σ', kd, r) → ∀ (H : Heap) (locs : List Loc) (cells slots : Nat) (ls : Array Slot), cw_W v s σ0 σ H locs cells slots → cl_has ls 5 [(0, cR v x0), (2, .int (rI x2))] → W p l e (cw_rm v (d + 1) σ0) s m args below meth c H locs cells slots (cw_Z below v σ0 σ' kd (some (.int (rI r))) args s) (F0 m 58 ls []) := by
  subst hbd
  obtain ⟨hx, hb, hr, hml, hown, hts, hlk, hK⟩ := id B
  intro σ x0 x2 ix0 ix2 hf H locs cells slots ls hw hl
  unfold pc_X7_behindBlanks_58 at hf
  obtain ⟨z1, ez1, iz1, hf⟩ := cc_ck_s hf
  refine cl_iinc (v := rI z1) (lv' := [(2, .int (rI z1)), (0, cR v x0)]) hx hb dX7_behindBlanks_58 hl (k := 1) rfl (by rw [ez1]; exact rI_add _ _) (by decide) rfl (fun ls hl => ?_)
  refine lv_goto (tgt := 2) hx hb dX7_behindBlanks_61 (by decide) ?_
  exact hk2 σ x0 z1 ix0 iz1 hf _ _ _ _ _ hw (cl_sub hl [1, 0] rfl)

set_option maxHeartbeats 4000000 in
set_option maxRecDepth 100000 in
theorem pw_X7_behindBlanks_2 {v : cwE} {bd : cBd} {p : Program} {l : Launch} {e : Env} {s : State} {m : MethodId} {args : Array Value} {below : List Frame} {meth : Method} {c : Code} {d : Nat} {rec : Nat → CS → List Int → CO} {σ0 σ' : CS} {kd : Nat} {r : Int} (hbd : bd = cw_bd v) (hR : cw_Rec l v d rec) (htr : l.stackTraces = false) (hd5 : 5 ≤ d) (B : cw_B v RX7 p s m args meth c cX7_behindBlanks 5 (some .int)) (hnh : ∀ x ∈ c.exceptionTable.toList, False) : ∀ (n : Nat) (σ : CS) (x0 x2 : Int), inR x0 → inR x2 → pc_X7_behindBlanks_2 rec bd n σ x0 x2 = some (σ', kd, r) → ∀ (H : Heap) (locs : List Loc) (cells slots : Nat) (ls : Array Slot), cw_W v s σ0 σ H locs cells slots → cl_has ls 5 [(0, cR v x0), (2, .int (rI x2))] → W p l e (cw_rm v (d + 1) σ0) s m args below meth c H locs cells slots (cw_Z below v σ0 σ' kd (some (.int (rI r))) args s) (F0 m 2 ls []) := by
  subst hbd
  obtain ⟨hx, hb, hr, hml, hown, hts, hlk, hK⟩ := id B
  intro n
  induction n with
  | zero => intro σ x0 x2 ix0 ix2 hf; cases hf
  | succ n ih =>
    intro σ x0 x2 ix0 ix2 hf H locs cells slots ls hw hl
    unfold pc_X7_behindBlanks_2 at hf
    refine lv_iload_n hx hb dX7_behindBlanks_2 rfl (lv_at hl.1 1 rfl) ?_
    refine cl_aload_n hx hb dX7_behindBlanks_3 rfl (lv_at hl.1 0 rfl) ?_
    obtain ⟨z1, ez1, iz1, rz1, hf⟩ := cc_g_s hw hf
    refine cw_get (val := .int (rI z1)) B hw rz1 ⟨by decide, by decide⟩ (by decide) cwi_8 cfl_X7_9 ez1 rfl dX7_behindBlanks_4 ?_
    refine rn_icmp_ge (a := x2) (b := z1) (tgt := 64) hx hb ix2 iz1 dX7_behindBlanks_7 (by decide) (fun c2 => ?_) (fun c2 => ?_)
    · replace hf := cc_if_t hf c2
      refine lv_iload_n hx hb dX7_behindBlanks_64 rfl (lv_at hl.1 1 rfl) ?_
      exact cw_reti B hf hw dX7_behindBlanks_65
    · replace hf := cc_if_f hf c2
      refine cl_aload_n hx hb dX7_behindBlanks_10 rfl (lv_at hl.1 0 rfl) ?_
      obtain ⟨z3, ez3, iz3, rz3, hf⟩ := cc_g_s hw hf
      refine cw_get (val := cR v z3) B hw rz3 ⟨by decide, by decide⟩ (by decide) cwi_8 cfl_X7_30 ez3 rfl dX7_behindBlanks_11 ?_
      refine lv_iload_n hx hb dX7_behindBlanks_14 rfl (lv_at hl.1 1 rfl) ?_
      obtain ⟨z4, ez4, iz4, rz4, bz4, hf⟩ := cc_r_s hw hf
      refine cw_aldB B hw rz4 ix2 bz4 ez4 dX7_behindBlanks_15 ?_
      refine cl_istore_n (lv' := [(3, .int (rI z4)), (0, cR v x0), (2, .int (rI x2))]) hx hb dX7_behindBlanks_16 rfl hl (by decide) rfl (fun ls hl => ?_)
      refine lv_iload_n hx hb dX7_behindBlanks_17 rfl (lv_at hl.1 0 rfl) ?_
      refine lv_bipush (v := rI 123) hx hb dX7_behindBlanks_18 (by decide +kernel) ?_
      refine rn_icmp_ne (a := z4) (b := 123) (tgt := 44) hx hb iz4 ⟨by decide, by decide⟩ dX7_behindBlanks_20 (by decide) (fun c5 => ?_) (fun c5 => ?_)
      · replace hf := cc_if_t hf c5
        refine lv_iload_n hx hb dX7_behindBlanks_44 rfl (lv_at hl.1 0 rfl) ?_
        refine lv_bipush (v := rI 10) hx hb dX7_behindBlanks_45 (by decide +kernel) ?_
        refine rn_icmp_eq (a := z4) (b := 10) (tgt := 58) hx hb iz4 ⟨by decide, by decide⟩ dX7_behindBlanks_47 (by decide) (fun c6 => ?_) (fun c6 => ?_)
        · replace hf := cc_if_t hf c6
          exact pw_X7_behindBlanks_58 rfl hR htr hd5 B hnh (pc_X7_behindBlanks_2 rec (cw_bd v) n) ih σ x0 x2 ix0 ix2 hf _ _ _ _ _ hw (cl_sub hl [1, 2] rfl)
        · replace hf := cc_if_f hf c6
          refine lv_iload_n hx hb dX7_behindBlanks_50 rfl (lv_at hl.1 0 rfl) ?_
          refine lv_bipush (v := rI 32) hx hb dX7_behindBlanks_51 (by decide +kernel) ?_
          refine rn_icmp_eq (a := z4) (b := 32) (tgt := 58) hx hb iz4 ⟨by decide, by decide⟩ dX7_behindBlanks_53 (by decide) (fun c7 => ?_) (fun c7 => ?_)
          · replace hf := cc_if_t hf c7
            exact pw_X7_behindBlanks_58 rfl hR htr hd5 B hnh (pc_X7_behindBlanks_2 rec (cw_bd v) n) ih σ x0 x2 ix0 ix2 hf _ _ _ _ _ hw (cl_sub hl [1, 2] rfl)
          · replace hf := cc_if_f hf c7
            refine lv_iload_n hx hb dX7_behindBlanks_56 rfl (lv_at hl.1 2 rfl) ?_
            exact cw_reti B hf hw dX7_behindBlanks_57
      · replace hf := cc_if_f hf c5
        refine cl_aload_n hx hb dX7_behindBlanks_23 rfl (lv_at hl.1 1 rfl) ?_
        refine lv_iload_n hx hb dX7_behindBlanks_24 rfl (lv_at hl.1 2 rfl) ?_
        obtain ⟨qσ8, hf⟩ := cc_t_s hf
        obtain ⟨σ8, kv9, z10, hσ8, hf⟩ := cc_cl_s hf
        obtain ⟨iz10, mσ8⟩ := hR 115 σ [x0, x2] σ8 kv9 z10 hσ8
        have mσ8 : cw_Met l v yX7_closeOf cX7_closeOf 3 (some .int) d [cR v x0, .int (rI x2)] σ σ8 kv9 (some (.int (rI z10))) := mσ8 ix0 ix2
        refine cw_cv (b := x0) (t := 8) (n := 1) (rest := []) (As := [.int (rI x2)]) B mσ8 qσ8 ⟨by decide, by decide⟩ cgo_yX7_closeOf cml_X7_178 cin_yX7_closeOf cse_yX7_closeOf (by decide +kernel) (by decide) rfl hl.1.1 (Nat.le_of_ble_eq_true rfl) dX7_behindBlanks_25 rfl hw (fun h0 H locs cells slots hw => ?_) (fun h0 H locs cells slots q ce hw h1 h2 h3 => ?_)
        · rcases hf with ⟨-, hf⟩ | ⟨hk, -⟩
          · skip
            refine cl_istore (lv' := [(4, .int (rI z10)), (3, .int (rI z4)), (0, cR v x0), (2, .int (rI x2))]) hx hb dX7_behindBlanks_28 hl (by decide) rfl (fun ls hl => ?_)
            refine lv_iload hx hb dX7_behindBlanks_30 (lv_at hl.1 0 rfl) ?_
            refine lv_iconst (v := rI (-1)) hx hb dX7_behindBlanks_32 rfl ?_
            refine rn_icmp_ne (a := z10) (b := (-1)) (tgt := 38) hx hb iz10 ⟨by decide, by decide⟩ dX7_behindBlanks_33 (by decide) (fun c11 => ?_) (fun c11 => ?_)
            · replace hf := cc_if_t hf c11
              refine lv_iload hx hb dX7_behindBlanks_38 (lv_at hl.1 0 rfl) ?_
              refine cl_istore_n (lv' := [(2, .int (rI z10)), (4, .int (rI z10)), (3, .int (rI z4)), (0, cR v x0)]) hx hb dX7_behindBlanks_40 rfl hl (by decide) rfl (fun ls hl => ?_)
              refine lv_goto (tgt := 58) hx hb dX7_behindBlanks_41 (by decide) ?_
              exact pw_X7_behindBlanks_58 rfl hR htr hd5 B hnh (pc_X7_behindBlanks_2 rec (cw_bd v) n) ih σ8 x0 z10 ix0 iz10 hf _ _ _ _ _ hw (cl_sub hl [3, 0] rfl)
            · replace hf := cc_if_f hf c11
              refine lv_iload_n hx hb dX7_behindBlanks_36 rfl (lv_at hl.1 3 rfl) ?_
              exact cw_reti B hf hw dX7_behindBlanks_37
          · exact absurd h0 hk
        · rcases hf with ⟨hk, -⟩ | ⟨-, hf⟩
          · exact absurd hk h0
          · cases hf
            exact cw_xout B hnh h0 hw h1 h2 h3

set_option maxHeartbeats 4000000 in
set_option maxRecDepth 100000 in
theorem pw_X7_behindBlanks_0 {v : cwE} {bd : cBd} {p : Program} {l : Launch} {e : Env} {s : State} {m : MethodId} {args : Array Value} {below : List Frame} {meth : Method} {c : Code} {d : Nat} {rec : Nat → CS → List Int → CO} {σ0 σ' : CS} {kd : Nat} {r : Int} (hbd : bd = cw_bd v) (hR : cw_Rec l v d rec) (htr : l.stackTraces = false) (hd5 : 5 ≤ d) (B : cw_B v RX7 p s m args meth c cX7_behindBlanks 5 (some .int)) (hnh : ∀ x ∈ c.exceptionTable.toList, False) : ∀ (σ : CS) (x0 x1 : Int), inR x0 → inR x1 → pc_X7_behindBlanks_0 rec bd σ x0 x1 = some (σ', kd, r) → ∀ (H : Heap) (locs : List Loc) (cells slots : Nat) (ls : Array Slot), cw_W v s σ0 σ H locs cells slots → cl_has ls 5 [(0, cR v x0), (1, .int (rI x1))] → W p l e (cw_rm v (d + 1) σ0) s m args below meth c H locs cells slots (cw_Z below v σ0 σ' kd (some (.int (rI r))) args s) (F0 m 0 ls []) := by
  subst hbd
  obtain ⟨hx, hb, hr, hml, hown, hts, hlk, hK⟩ := id B
  intro σ x0 x1 ix0 ix1 hf H locs cells slots ls hw hl
  unfold pc_X7_behindBlanks_0 at hf
  refine lv_iload_n hx hb dX7_behindBlanks_0 rfl (lv_at hl.1 1 rfl) ?_
  refine cl_istore_n (lv' := [(2, .int (rI x1)), (0, cR v x0), (1, .int (rI x1))]) hx hb dX7_behindBlanks_1 rfl hl (by decide) rfl (fun ls hl => ?_)
  exact pw_X7_behindBlanks_2 rfl hR htr hd5 B hnh 2000000 σ x0 x1 ix0 ix1 hf _ _ _ _ _ hw (cl_sub hl [1, 0] rfl)

set_option maxHeartbeats 4000000 in
set_option maxRecDepth 100000 in
theorem pm_X7_behindBlanks {v : cwE} {bd : cBd} {l : Launch} {d : Nat} {rec : Nat → CS → List Int → CO} (hbd : bd = cw_bd v) (hR : cw_Rec l v d rec) (htr : l.stackTraces = false) (hd5 : 5 ≤ d) (σ σ' : CS) (x0 x1 : Int) (kd : Nat) (r : Int) (ix0 : inR x0) (ix1 : inR x1) (hf : pc_X7_behindBlanks_0 rec bd σ x0 x1 = some (σ', kd, r)) : cw_Met l v yX7_behindBlanks cX7_behindBlanks 5 (some .int) (d + 1) [cR v x0, .int (rI x1)] σ σ' kd (some (.int (rI r))) := by
  refine cw_ofW (by decide +kernel) ?_
  intro p e s m args below meth c s₁ B hml hv
  obtain ⟨rfl, hM, hK⟩ := hv
  have hts := atoms_spec (ws := Cond.code yX7_behindBlanks cX7_behindBlanks 5 (some .int) :: cw_bw) B.pre
  have hB : cw_B v RX7 p s m _ meth c cX7_behindBlanks 5 (some .int) := ⟨B.exec, B.bytes, B.returns, hml, findClass_of_methodNamed B.named, fun w h => hts w (List.mem_cons_of_mem _ h), B.notSynchronized, hK⟩
  have hnh := cc_nh B (hts _ List.mem_cons_self)
  rw [lg_entry_eq]
  obtain ⟨ls, hls, hl⟩ := cl_ent [cR v x0, .int (rI x1)] 5 (cl_1r (cl_1i cl_10)) (Nat.le_of_ble_eq_true rfl)
  rw [hls]
  exact pw_X7_behindBlanks_0 hbd hR htr hd5 hB hnh σ x0 x1 ix0 ix1 hf _ _ _ _ _ (cw_W0 hM) (cl_sub hl [0, 1] rfl)

set_option maxHeartbeats 4000000 in
set_option maxRecDepth 100000 in
theorem pw_X7_binder_85 {v : cwE} {bd : cBd} {p : Program} {l : Launch} {e : Env} {s : State} {m : MethodId} {args : Array Value} {below : List Frame} {meth : Method} {c : Code} {d : Nat} {rec : Nat → CS → List Int → CO} {σ0 σ' : CS} {kd : Nat} {r : Int} (hbd : bd = cw_bd v) (hR : cw_Rec l v d rec) (htr : l.stackTraces = false) (hd5 : 5 ≤ d) (B : cw_B v RX7 p s m args meth c cX7_binder 8 (some (.object "PureHouse$Node"))) (hnh : ∀ x ∈ c.exceptionTable.toList, False) : ∀ (σ : CS) (x0 x1 x2 x4 x5 x6 t0 t1 : Int), inR x0 → inR x1 → inR x2 → inR x4 → inR x5 → inR x6 → inR t0 → inR t1 → pc_X7_binder_85 rec bd σ x0 x1 x2 x4 x5 x6 t0 t1 = some (σ', kd, r) → ∀ (H : Heap) (locs : List Loc) (cells slots : Nat) (ls : Array Slot), cw_W v s σ0 σ H locs cells slots → cl_has ls 8 [(0, cR v x0), (1, .int (rI x1)), (2, .int (rI x2)), (4, .int (rI x4)), (5, cR v x5), (6, cR v x6)] → W p l e (cw_rm v (d + 1) σ0) s m args below meth c H locs cells slots (cw_Z below v σ0 σ' kd (some (cR v r)) args s) (F0 m 85 ls [.int (rI t0), cR v t1]) := by
  subst hbd
  obtain ⟨hx, hb, hr, hml, hown, hts, hlk, hK⟩ := id B
  intro σ x0 x1 x2 x4 x5 x6 t0 t1 ix0 ix1 ix2 ix4 ix5 ix6 it0 it1 hf H locs cells slots ls hw hl
  unfold pc_X7_binder_85 at hf
  obtain ⟨qσ1, hf⟩ := cc_t_s hf
  obtain ⟨σ1, kv2, z3, hσ1, hf⟩ := cc_cl_s hf
  obtain ⟨iz3, mσ1⟩ := hR 116 σ [t1, t0] σ1 kv2 z3 hσ1
  have mσ1 : cw_Met l v yX7_expect cX7_expect 2 none d [cR v t1, .int (rI t0)] σ σ1 kv2 none := mσ1 it1 it0
  refine cw_cv (b := t1) (t := 8) (n := 1) (rest := []) (As := [.int (rI t0)]) B mσ1 qσ1 ⟨by decide, by decide⟩ cgo_yX7_expect cml_X7_73 cin_yX7_expect cse_yX7_expect (by decide +kernel) (by decide) rfl hl.1.1 (Nat.le_of_ble_eq_true rfl) dX7_binder_85 rfl hw (fun h0 H locs cells slots hw => ?_) (fun h0 H locs cells slots q ce hw h1 h2 h3 => ?_)
  · rcases hf with ⟨-, hf⟩ | ⟨hk, -⟩
    · skip
      refine lv_iload hx hb dX7_binder_88 (lv_at hl.1 3 rfl) ?_
      refine cl_aload_n hx hb dX7_binder_90 rfl (lv_at hl.1 0 rfl) ?_
      obtain ⟨qσ4, hf⟩ := cc_t_s hf
      obtain ⟨σ4, kv5, z6, hσ4, hf⟩ := cc_cl_s hf
      obtain ⟨iz6, mσ4⟩ := hR 123 σ1 [x0] σ4 kv5 z6 hσ4
      have mσ4 : cw_Met l v yX7_newId cX7_newId 1 (some .int) d [cR v x0] σ1 σ4 kv5 (some (.int (rI z6))) := mσ4 ix0
      refine cw_cv (b := x0) (t := 8) (n := 0) (rest := [.int (rI x4)]) (As := []) B mσ4 qσ4 ⟨by decide, by decide⟩ cgo_yX7_newId cml_X7_124 cin_yX7_newId cse_yX7_newId (by decide +kernel) (by decide) rfl hl.1.1 (Nat.le_of_ble_eq_true rfl) dX7_binder_91 rfl hw (fun h0 H locs cells slots hw => ?_) (fun h0 H locs cells slots q ce hw h1 h2 h3 => ?_)
      · rcases hf with ⟨-, hf⟩ | ⟨hk, -⟩
        · skip
          refine cl_aload hx hb dX7_binder_94 (lv_at hl.1 5 rfl) ?_
          refine cl_aload_n hx hb dX7_binder_96 rfl (lv_at hl.1 0 rfl) ?_
          refine lv_iload_n hx hb dX7_binder_97 rfl (lv_at hl.1 1 rfl) ?_
          refine lv_iconst (v := rI 1) hx hb dX7_binder_98 rfl ?_
          obtain ⟨z7, ez7, iz7, hf⟩ := cc_ck_s hf
          refine rn_add hx hb ez7 dX7_binder_99 ?_
          obtain ⟨qσ8, hf⟩ := cc_t_s hf
          obtain ⟨σ8, kv9, z10, hσ8, hf⟩ := cc_cl_s hf
          obtain ⟨iz10, mσ8⟩ := hR 131 σ4 [x0, z7] σ8 kv9 z10 hσ8
          have mσ8 : cw_Met l v yX7_term cX7_term 5 (some (.object "PureHouse$Node")) d [cR v x0, .int (rI z7)] σ4 σ8 kv9 (some (cR v z10)) := mσ8 ix0 iz7
          refine cw_cv (b := x0) (t := 8) (n := 1) (rest := [cR v x6, .int (rI z6), .int (rI x4)]) (As := [.int (rI z7)]) B mσ8 qσ8 ⟨by decide, by decide⟩ cgo_yX7_term cml_X7_103 cin_yX7_term cse_yX7_term (by decide +kernel) (by decide) rfl hl.1.1 (cl_cs (cl_1r (cl_1i (cl_1i cl_10))) (Nat.le_of_ble_eq_true rfl)) dX7_binder_100 rfl hw (fun h0 H locs cells slots hw => ?_) (fun h0 H locs cells slots q ce hw h1 h2 h3 => ?_)
          · rcases hf with ⟨-, hf⟩ | ⟨hk, -⟩
            · skip
              obtain ⟨σ11, kv12, z13, hσ11, hf⟩ := cc_cl_s hf
              obtain ⟨iz13, mσ11⟩ := hR 104 σ8 [x4, z6, x6, z10] σ11 kv12 z13 hσ11
              have mσ11 : cw_Met l v yX6_binder cX6_binder 5 (some (.object "PureHouse$Node")) d [.int (rI x4), .int (rI z6), cR v x6, cR v z10] σ8 σ11 kv12 (some (cR v z13)) := mσ11 ix4 iz6 ix6 iz10
              refine cw_cs (n := 4) (rest := []) (As := [.int (rI x4), .int (rI z6), cR v x6, cR v z10]) B mσ11 cgo_yX6_binder cml_X7_128 cst_yX6_binder (by decide +kernel) (by decide) rfl hl.1.1 (Nat.le_of_ble_eq_true rfl) dX7_binder_103 rfl hw (fun h0 H locs cells slots hw => ?_) (fun h0 H locs cells slots q ce hw h1 h2 h3 => ?_)
              · rcases hf with ⟨-, hf⟩ | ⟨hk, -⟩
                · skip
                  refine cl_astore (lv' := [(7, cR v z13), (0, cR v x0), (1, .int (rI x1)), (2, .int (rI x2)), (4, .int (rI x4)), (5, cR v x5), (6, cR v x6)]) hx hb dX7_binder_106 hl (by decide) rfl (fun ls hl => ?_)
                  refine cl_aload hx hb dX7_binder_108 (lv_at hl.1 0 rfl) ?_
                  refine lv_iload_n hx hb dX7_binder_110 rfl (lv_at hl.1 3 rfl) ?_
                  obtain ⟨σ14, eσ14, rσ14, hf⟩ := cc_p_s hf
                  refine cw_put B hw rσ14 cwt_7 (by decide) rfl cfl_X7_131 ix2 eσ14 rfl (cw_fv_n rfl rfl) dX7_binder_111 (fun H locs hw => ?_)
                  refine cl_aload hx hb dX7_binder_114 (lv_at hl.1 0 rfl) ?_
                  refine lv_iload_n hx hb dX7_binder_116 rfl (lv_at hl.1 3 rfl) ?_
                  obtain ⟨σ15, eσ15, rσ15, hf⟩ := cc_p_s hf
                  refine cw_put B hw rσ15 cwt_7 (by decide) rfl cfl_X7_134 ix2 eσ15 rfl (cw_fv_n rfl rfl) dX7_binder_117 (fun H locs hw => ?_)
                  refine cl_aload hx hb dX7_binder_120 (lv_at hl.1 0 rfl) ?_
                  refine cl_aload hx hb dX7_binder_122 (lv_at hl.1 5 rfl) ?_
                  obtain ⟨z16, ez16, iz16, rz16, hf⟩ := cc_g_s hw hf
                  refine cw_get (val := .int (rI z16)) B hw rz16 ⟨by decide, by decide⟩ (by decide) cwi_7 cfl_X7_137 ez16 rfl dX7_binder_124 ?_
                  obtain ⟨σ17, eσ17, rσ17, hf⟩ := cc_p_s hf
                  refine cw_put B hw rσ17 cwt_7 (by decide) rfl cfl_X7_137 iz16 eσ17 rfl (cw_fv_n rfl rfl) dX7_binder_127 (fun H locs hw => ?_)
                  refine cl_aload hx hb dX7_binder_130 (lv_at hl.1 0 rfl) ?_
                  refine cl_aload hx hb dX7_binder_132 (lv_at hl.1 5 rfl) ?_
                  obtain ⟨z18, ez18, iz18, rz18, hf⟩ := cc_g_s hw hf
                  refine cw_get (val := .int (rI z18)) B hw rz18 ⟨by decide, by decide⟩ (by decide) cwi_7 cfl_X7_140 ez18 rfl dX7_binder_134 ?_
                  obtain ⟨σ19, eσ19, rσ19, hf⟩ := cc_p_s hf
                  refine cw_put B hw rσ19 cwt_7 (by decide) rfl cfl_X7_140 iz18 eσ19 rfl (cw_fv_n rfl rfl) dX7_binder_137 (fun H locs hw => ?_)
                  refine cl_aload hx hb dX7_binder_140 (lv_at hl.1 0 rfl) ?_
                  exact cw_reta B hf hw dX7_binder_142
                · exact absurd h0 hk
              · rcases hf with ⟨hk, -⟩ | ⟨-, hf⟩
                · exact absurd hk h0
                · cases hf
                  exact cw_xout B hnh h0 hw h1 h2 h3
            · exact absurd h0 hk
          · rcases hf with ⟨hk, -⟩ | ⟨-, hf⟩
            · exact absurd hk h0
            · cases hf
              exact cw_xout B hnh h0 hw h1 h2 h3
        · exact absurd h0 hk
      · rcases hf with ⟨hk, -⟩ | ⟨-, hf⟩
        · exact absurd hk h0
        · cases hf
          exact cw_xout B hnh h0 hw h1 h2 h3
    · exact absurd h0 hk
  · rcases hf with ⟨hk, -⟩ | ⟨-, hf⟩
    · exact absurd hk h0
    · cases hf
      exact cw_xout B hnh h0 hw h1 h2 h3

set_option maxHeartbeats 4000000 in
set_option maxRecDepth 100000 in
theorem pw_X7_binder_59 {v : cwE} {bd : cBd} {p : Program} {l : Launch} {e : Env} {s : State} {m : MethodId} {args : Array Value} {below : List Frame} {meth : Method} {c : Code} {d : Nat} {rec : Nat → CS → List Int → CO} {σ0 σ' : CS} {kd : Nat} {r : Int} (hbd : bd = cw_bd v) (hR : cw_Rec l v d rec) (htr : l.stackTraces = false) (hd5 : 5 ≤ d) (B : cw_B v RX7 p s m args meth c cX7_binder 8 (some (.object "PureHouse$Node"))) (hnh : ∀ x ∈ c.exceptionTable.toList, False) : ∀ (σ : CS) (x0 x1 x2 x3 x4 x5 t0 t1 : Int), inR x0 → inR x1 → inR x2 → inR x3 → inR x4 → inR x5 → inR t0 → inR t1 → pc_X7_binder_59 rec bd σ x0 x1 x2 x3 x4 x5 t0 t1 = some (σ', kd, r) → ∀ (H : Heap) (locs : List Loc) (cells slots : Nat) (ls : Array Slot), cw_W v s σ0 σ H locs cells slots → cl_has ls 8 [(0, cR v x0), (1, .int (rI x1)), (2, .int (rI x2)), (3, .int (rI x3)), (4, .int (rI x4)), (5, cR v x5)] → W p l e (cw_rm v (d + 1) σ0) s m args below meth c H locs cells slots (cw_Z below v σ0 σ' kd (some (cR v r)) args s) (F0 m 59 ls [.int (rI t0), cR v t1]) := by
  subst hbd
  obtain ⟨hx, hb, hr, hml, hown, hts, hlk, hK⟩ := id B
  intro σ x0 x1 x2 x3 x4 x5 t0 t1 ix0 ix1 ix2 ix3 ix4 ix5 it0 it1 hf H locs cells slots ls hw hl
  unfold pc_X7_binder_59 at hf
  obtain ⟨qσ1, hf⟩ := cc_t_s hf
  obtain ⟨σ1, kv2, z3, hσ1, hf⟩ := cc_cl_s hf
  obtain ⟨iz3, mσ1⟩ := hR 116 σ [t1, t0] σ1 kv2 z3 hσ1
  have mσ1 : cw_Met l v yX7_expect cX7_expect 2 none d [cR v t1, .int (rI t0)] σ σ1 kv2 none := mσ1 it1 it0
  refine cw_cv (b := t1) (t := 8) (n := 1) (rest := []) (As := [.int (rI t0)]) B mσ1 qσ1 ⟨by decide, by decide⟩ cgo_yX7_expect cml_X7_73 cin_yX7_expect cse_yX7_expect (by decide +kernel) (by decide) rfl hl.1.1 (Nat.le_of_ble_eq_true rfl) dX7_binder_59 rfl hw (fun h0 H locs cells slots hw => ?_) (fun h0 H locs cells slots q ce hw h1 h2 h3 => ?_)
  · rcases hf with ⟨-, hf⟩ | ⟨hk, -⟩
    · skip
      refine cl_aload_n hx hb dX7_binder_62 rfl (lv_at hl.1 0 rfl) ?_
      refine lv_iload_n hx hb dX7_binder_63 rfl (lv_at hl.1 1 rfl) ?_
      refine lv_iconst (v := rI 1) hx hb dX7_binder_64 rfl ?_
      obtain ⟨z4, ez4, iz4, hf⟩ := cc_ck_s hf
      refine rn_add hx hb ez4 dX7_binder_65 ?_
      obtain ⟨qσ5, hf⟩ := cc_t_s hf
      obtain ⟨σ5, kv6, z7, hσ5, hf⟩ := cc_cl_s hf
      obtain ⟨iz7, mσ5⟩ := hR 131 σ1 [x0, z4] σ5 kv6 z7 hσ5
      have mσ5 : cw_Met l v yX7_term cX7_term 5 (some (.object "PureHouse$Node")) d [cR v x0, .int (rI z4)] σ1 σ5 kv6 (some (cR v z7)) := mσ5 ix0 iz4
      refine cw_cv (b := x0) (t := 8) (n := 1) (rest := []) (As := [.int (rI z4)]) B mσ5 qσ5 ⟨by decide, by decide⟩ cgo_yX7_term cml_X7_103 cin_yX7_term cse_yX7_term (by decide +kernel) (by decide) rfl hl.1.1 (Nat.le_of_ble_eq_true rfl) dX7_binder_66 rfl hw (fun h0 H locs cells slots hw => ?_) (fun h0 H locs cells slots q ce hw h1 h2 h3 => ?_)
      · rcases hf with ⟨-, hf⟩ | ⟨hk, -⟩
        · skip
          refine cl_astore (lv' := [(6, cR v z7), (0, cR v x0), (1, .int (rI x1)), (2, .int (rI x2)), (3, .int (rI x3)), (4, .int (rI x4)), (5, cR v x5)]) hx hb dX7_binder_69 hl (by decide) rfl (fun ls hl => ?_)
          refine cl_aload_n hx hb dX7_binder_71 rfl (lv_at hl.1 1 rfl) ?_
          refine lv_iload_n hx hb dX7_binder_72 rfl (lv_at hl.1 4 rfl) ?_
          refine lv_bipush (v := rI 7) hx hb dX7_binder_73 (by decide +kernel) ?_
          refine rn_icmp_ne (a := x3) (b := 7) (tgt := 83) hx hb ix3 ⟨by decide, by decide⟩ dX7_binder_75 (by decide) (fun c8 => ?_) (fun c8 => ?_)
          · replace hf := cc_if_t hf c8
            refine lv_bipush (v := rI 46) hx hb dX7_binder_83 (by decide +kernel) ?_
            exact pw_X7_binder_85 rfl hR htr hd5 B hnh σ5 x0 x1 x2 x4 x5 z7 46 x0 ix0 ix1 ix2 ix4 ix5 iz7 ⟨by decide, by decide⟩ ix0 hf _ _ _ _ _ hw (cl_sub hl [1, 2, 3, 5, 6, 0] rfl)
          · replace hf := cc_if_f hf c8
            refine lv_bipush (v := rI 8) hx hb dX7_binder_78 (by decide +kernel) ?_
            refine lv_goto (tgt := 85) hx hb dX7_binder_80 (by decide) ?_
            exact pw_X7_binder_85 rfl hR htr hd5 B hnh σ5 x0 x1 x2 x4 x5 z7 8 x0 ix0 ix1 ix2 ix4 ix5 iz7 ⟨by decide, by decide⟩ ix0 hf _ _ _ _ _ hw (cl_sub hl [1, 2, 3, 5, 6, 0] rfl)
        · exact absurd h0 hk
      · rcases hf with ⟨hk, -⟩ | ⟨-, hf⟩
        · exact absurd hk h0
        · cases hf
          exact cw_xout B hnh h0 hw h1 h2 h3
    · exact absurd h0 hk
  · rcases hf with ⟨hk, -⟩ | ⟨-, hf⟩
    · exact absurd hk h0
    · cases hf
      exact cw_xout B hnh h0 hw h1 h2 h3

set_option maxHeartbeats 4000000 in
set_option maxRecDepth 100000 in
theorem pw_X7_binder_32 {v : cwE} {bd : cBd} {p : Program} {l : Launch} {e : Env} {s : State} {m : MethodId} {args : Array Value} {below : List Frame} {meth : Method} {c : Code} {d : Nat} {rec : Nat → CS → List Int → CO} {σ0 σ' : CS} {kd : Nat} {r : Int} (hbd : bd = cw_bd v) (hR : cw_Rec l v d rec) (htr : l.stackTraces = false) (hd5 : 5 ≤ d) (B : cw_B v RX7 p s m args meth c cX7_binder 8 (some (.object "PureHouse$Node"))) (hnh : ∀ x ∈ c.exceptionTable.toList, False) : ∀ (σ : CS) (x0 x1 x2 x3 t0 : Int), inR x0 → inR x1 → inR x2 → inR x3 → inR t0 → pc_X7_binder_32 rec bd σ x0 x1 x2 x3 t0 = some (σ', kd, r) → ∀ (H : Heap) (locs : List Loc) (cells slots : Nat) (ls : Array Slot), cw_W v s σ0 σ H locs cells slots → cl_has ls 8 [(0, cR v x0), (1, .int (rI x1)), (2, .int (rI x2)), (3, .int (rI x3))] → W p l e (cw_rm v (d + 1) σ0) s m args below meth c H locs cells slots (cw_Z below v σ0 σ' kd (some (cR v r)) args s) (F0 m 32 ls [.int (rI t0)]) := by
  subst hbd
  obtain ⟨hx, hb, hr, hml, hown, hts, hlk, hK⟩ := id B
  intro σ x0 x1 x2 x3 t0 ix0 ix1 ix2 ix3 it0 hf H locs cells slots ls hw hl
  unfold pc_X7_binder_32 at hf
  refine cl_istore (lv' := [(4, .int (rI t0)), (0, cR v x0), (1, .int (rI x1)), (2, .int (rI x2)), (3, .int (rI x3))]) hx hb dX7_binder_32 hl (by decide) rfl (fun ls hl => ?_)
  refine cl_aload_n hx hb dX7_binder_34 rfl (lv_at hl.1 1 rfl) ?_
  obtain ⟨qσ1, hf⟩ := cc_t_s hf
  obtain ⟨σ1, kv2, z3, hσ1, hf⟩ := cc_cl_s hf
  obtain ⟨iz3, mσ1⟩ := hR 109 σ [x0] σ1 kv2 z3 hσ1
  have mσ1 : cw_Met l v yX7_advance cX7_advance 1 none d [cR v x0] σ σ1 kv2 none := mσ1 ix0
  refine cw_cv (b := x0) (t := 8) (n := 0) (rest := []) (As := []) B mσ1 qσ1 ⟨by decide, by decide⟩ cgo_yX7_advance cml_X7_60 cin_yX7_advance cse_yX7_advance (by decide +kernel) (by decide) rfl hl.1.1 (Nat.le_of_ble_eq_true rfl) dX7_binder_35 rfl hw (fun h0 H locs cells slots hw => ?_) (fun h0 H locs cells slots q ce hw h1 h2 h3 => ?_)
  · rcases hf with ⟨-, hf⟩ | ⟨hk, -⟩
    · skip
      refine cl_aload_n hx hb dX7_binder_38 rfl (lv_at hl.1 1 rfl) ?_
      obtain ⟨qσ4, hf⟩ := cc_t_s hf
      obtain ⟨σ4, kv5, z6, hσ4, hf⟩ := cc_cl_s hf
      obtain ⟨iz6, mσ4⟩ := hR 130 σ1 [x0] σ4 kv5 z6 hσ4
      have mσ4 : cw_Met l v yX7_takeName cX7_takeName 2 (some (.object "PureHouse$Node")) d [cR v x0] σ1 σ4 kv5 (some (cR v z6)) := mσ4 ix0
      refine cw_cv (b := x0) (t := 8) (n := 0) (rest := []) (As := []) B mσ4 qσ4 ⟨by decide, by decide⟩ cgo_yX7_takeName cml_X7_86 cin_yX7_takeName cse_yX7_takeName (by decide +kernel) (by decide) rfl hl.1.1 (Nat.le_of_ble_eq_true rfl) dX7_binder_39 rfl hw (fun h0 H locs cells slots hw => ?_) (fun h0 H locs cells slots q ce hw h1 h2 h3 => ?_)
      · rcases hf with ⟨-, hf⟩ | ⟨hk, -⟩
        · skip
          refine cl_astore (lv' := [(5, cR v z6), (4, .int (rI t0)), (0, cR v x0), (1, .int (rI x1)), (2, .int (rI x2)), (3, .int (rI x3))]) hx hb dX7_binder_42 hl (by decide) rfl (fun ls hl => ?_)
          refine cl_aload_n hx hb dX7_binder_44 rfl (lv_at hl.1 2 rfl) ?_
          refine lv_iload_n hx hb dX7_binder_45 rfl (lv_at hl.1 5 rfl) ?_
          refine lv_bipush (v := rI 7) hx hb dX7_binder_46 (by decide +kernel) ?_
          refine rn_icmp_ne (a := x3) (b := 7) (tgt := 57) hx hb ix3 ⟨by decide, by decide⟩ dX7_binder_48 (by decide) (fun c7 => ?_) (fun c7 => ?_)
          · replace hf := cc_if_t hf c7
            refine lv_bipush (v := rI 58) hx hb dX7_binder_57 (by decide +kernel) ?_
            exact pw_X7_binder_59 rfl hR htr hd5 B hnh σ4 x0 x1 x2 x3 t0 z6 58 x0 ix0 ix1 ix2 ix3 it0 iz6 ⟨by decide, by decide⟩ ix0 hf _ _ _ _ _ hw (cl_sub hl [2, 3, 4, 5, 1, 0] rfl)
          · replace hf := cc_if_f hf c7
            refine lv_sipush (v := rI 258) hx hb dX7_binder_51 (by decide +kernel) ?_
            refine lv_goto (tgt := 59) hx hb dX7_binder_54 (by decide) ?_
            exact pw_X7_binder_59 rfl hR htr hd5 B hnh σ4 x0 x1 x2 x3 t0 z6 258 x0 ix0 ix1 ix2 ix3 it0 iz6 ⟨by decide, by decide⟩ ix0 hf _ _ _ _ _ hw (cl_sub hl [2, 3, 4, 5, 1, 0] rfl)
        · exact absurd h0 hk
      · rcases hf with ⟨hk, -⟩ | ⟨-, hf⟩
        · exact absurd hk h0
        · cases hf
          exact cw_xout B hnh h0 hw h1 h2 h3
    · exact absurd h0 hk
  · rcases hf with ⟨hk, -⟩ | ⟨-, hf⟩
    · exact absurd hk h0
    · cases hf
      exact cw_xout B hnh h0 hw h1 h2 h3

set_option maxHeartbeats 4000000 in
set_option maxRecDepth 100000 in
theorem pw_X7_binder_0 {v : cwE} {bd : cBd} {p : Program} {l : Launch} {e : Env} {s : State} {m : MethodId} {args : Array Value} {below : List Frame} {meth : Method} {c : Code} {d : Nat} {rec : Nat → CS → List Int → CO} {σ0 σ' : CS} {kd : Nat} {r : Int} (hbd : bd = cw_bd v) (hR : cw_Rec l v d rec) (htr : l.stackTraces = false) (hd5 : 5 ≤ d) (B : cw_B v RX7 p s m args meth c cX7_binder 8 (some (.object "PureHouse$Node"))) (hnh : ∀ x ∈ c.exceptionTable.toList, False) : ∀ (σ : CS) (x0 x1 : Int), inR x0 → inR x1 → pc_X7_binder_0 rec bd σ x0 x1 = some (σ', kd, r) → ∀ (H : Heap) (locs : List Loc) (cells slots : Nat) (ls : Array Slot), cw_W v s σ0 σ H locs cells slots → cl_has ls 8 [(0, cR v x0), (1, .int (rI x1))] → W p l e (cw_rm v (d + 1) σ0) s m args below meth c H locs cells slots (cw_Z below v σ0 σ' kd (some (cR v r)) args s) (F0 m 0 ls []) := by
  subst hbd
  obtain ⟨hx, hb, hr, hml, hown, hts, hlk, hK⟩ := id B
  intro σ x0 x1 ix0 ix1 hf H locs cells slots ls hw hl
  unfold pc_X7_binder_0 at hf
  refine cl_aload_n hx hb dX7_binder_0 rfl (lv_at hl.1 0 rfl) ?_
  obtain ⟨z1, ez1, iz1, rz1, hf⟩ := cc_g_s hw hf
  refine cw_get (val := .int (rI z1)) B hw rz1 ⟨by decide, by decide⟩ (by decide) cwi_8 cfl_X7_21 ez1 rfl dX7_binder_1 ?_
  refine cl_istore_n (lv' := [(2, .int (rI z1)), (0, cR v x0), (1, .int (rI x1))]) hx hb dX7_binder_4 rfl hl (by decide) rfl (fun ls hl => ?_)
  refine cl_aload_n hx hb dX7_binder_5 rfl (lv_at hl.1 1 rfl) ?_
  obtain ⟨z2, ez2, iz2, rz2, hf⟩ := cc_g_s hw hf
  refine cw_get (val := .int (rI z2)) B hw rz2 ⟨by decide, by decide⟩ (by decide) cwi_8 cfl_X7_18 ez2 rfl dX7_binder_6 ?_
  refine cl_istore_n (lv' := [(3, .int (rI z2)), (2, .int (rI z1)), (0, cR v x0), (1, .int (rI x1))]) hx hb dX7_binder_9 rfl hl (by decide) rfl (fun ls hl => ?_)
  refine lv_iload_n hx hb dX7_binder_10 rfl (lv_at hl.1 0 rfl) ?_
  refine lv_bipush (v := rI 7) hx hb dX7_binder_11 (by decide +kernel) ?_
  refine rn_icmp_ne (a := z2) (b := 7) (tgt := 21) hx hb iz2 ⟨by decide, by decide⟩ dX7_binder_13 (by decide) (fun c3 => ?_) (fun c3 => ?_)
  · replace hf := cc_if_t hf c3
    refine lv_iload_n hx hb dX7_binder_21 rfl (lv_at hl.1 0 rfl) ?_
    refine lv_bipush (v := rI 33) hx hb dX7_binder_22 (by decide +kernel) ?_
    refine rn_icmp_ne (a := z2) (b := 33) (tgt := 31) hx hb iz2 ⟨by decide, by decide⟩ dX7_binder_24 (by decide) (fun c4 => ?_) (fun c4 => ?_)
    · replace hf := cc_if_t hf c4
      refine lv_iconst (v := rI 4) hx hb dX7_binder_31 rfl ?_
      exact pw_X7_binder_32 rfl hR htr hd5 B hnh σ x0 x1 z1 z2 4 ix0 ix1 iz1 iz2 ⟨by decide, by decide⟩ hf _ _ _ _ _ hw (cl_sub hl [2, 3, 1, 0] rfl)
    · replace hf := cc_if_f hf c4
      refine lv_iconst (v := rI 5) hx hb dX7_binder_27 rfl ?_
      refine lv_goto (tgt := 32) hx hb dX7_binder_28 (by decide) ?_
      exact pw_X7_binder_32 rfl hR htr hd5 B hnh σ x0 x1 z1 z2 5 ix0 ix1 iz1 iz2 ⟨by decide, by decide⟩ hf _ _ _ _ _ hw (cl_sub hl [2, 3, 1, 0] rfl)
  · replace hf := cc_if_f hf c3
    refine lv_bipush (v := rI 6) hx hb dX7_binder_16 (by decide +kernel) ?_
    refine lv_goto (tgt := 32) hx hb dX7_binder_18 (by decide) ?_
    exact pw_X7_binder_32 rfl hR htr hd5 B hnh σ x0 x1 z1 z2 6 ix0 ix1 iz1 iz2 ⟨by decide, by decide⟩ hf _ _ _ _ _ hw (cl_sub hl [2, 3, 1, 0] rfl)

set_option maxHeartbeats 4000000 in
set_option maxRecDepth 100000 in
theorem pm_X7_binder {v : cwE} {bd : cBd} {l : Launch} {d : Nat} {rec : Nat → CS → List Int → CO} (hbd : bd = cw_bd v) (hR : cw_Rec l v d rec) (htr : l.stackTraces = false) (hd5 : 5 ≤ d) (σ σ' : CS) (x0 x1 : Int) (kd : Nat) (r : Int) (ix0 : inR x0) (ix1 : inR x1) (hf : pc_X7_binder_0 rec bd σ x0 x1 = some (σ', kd, r)) : cw_Met l v yX7_binder cX7_binder 8 (some (.object "PureHouse$Node")) (d + 1) [cR v x0, .int (rI x1)] σ σ' kd (some (cR v r)) := by
  refine cw_ofW (by decide +kernel) ?_
  intro p e s m args below meth c s₁ B hml hv
  obtain ⟨rfl, hM, hK⟩ := hv
  have hts := atoms_spec (ws := Cond.code yX7_binder cX7_binder 8 (some (.object "PureHouse$Node")) :: cw_bw) B.pre
  have hB : cw_B v RX7 p s m _ meth c cX7_binder 8 (some (.object "PureHouse$Node")) := ⟨B.exec, B.bytes, B.returns, hml, findClass_of_methodNamed B.named, fun w h => hts w (List.mem_cons_of_mem _ h), B.notSynchronized, hK⟩
  have hnh := cc_nh B (hts _ List.mem_cons_self)
  rw [lg_entry_eq]
  obtain ⟨ls, hls, hl⟩ := cl_ent [cR v x0, .int (rI x1)] 8 (cl_1r (cl_1i cl_10)) (Nat.le_of_ble_eq_true rfl)
  rw [hls]
  exact pw_X7_binder_0 hbd hR htr hd5 hB hnh σ x0 x1 ix0 ix1 hf _ _ _ _ _ (cw_W0 hM) (cl_sub hl [0, 1] rfl)

set_option maxHeartbeats 4000000 in
set_option maxRecDepth 100000 in
theorem pw_X7_closeOf_4 {v : cwE} {bd : cBd} {p : Program} {l : Launch} {e : Env} {s : State} {m : MethodId} {args : Array Value} {below : List Frame} {meth : Method} {c : Code} {d : Nat} {rec : Nat → CS → List Int → CO} {σ0 σ' : CS} {kd : Nat} {r : Int} (hbd : bd = cw_bd v) (hR : cw_Rec l v d rec) (htr : l.stackTraces = false) (hd5 : 5 ≤ d) (B : cw_B v RX7 p s m args meth c cX7_closeOf 3 (some .int)) (hnh : ∀ x ∈ c.exceptionTable.toList, False) : ∀ (n : Nat) (σ : CS) (x0 x2 : Int), inR x0 → inR x2 → pc_X7_closeOf_4 rec bd n σ x0 x2 = some (σ', kd, r) → ∀ (H : Heap) (locs : List Loc) (cells slots : Nat) (ls : Array Slot), cw_W v s σ0 σ H locs cells slots → cl_has ls 3 [(0, cR v x0), (2, .int (rI x2))] → W p l e (cw_rm v (d + 1) σ0) s m args below meth c H locs cells slots (cw_Z below v σ0 σ' kd (some (.int (rI r))) args s) (F0 m 4 ls []) := by
  subst hbd
  obtain ⟨hx, hb, hr, hml, hown, hts, hlk, hK⟩ := id B
  intro n
  induction n with
  | zero => intro σ x0 x2 ix0 ix2 hf; cases hf
  | succ n ih =>
    intro σ x0 x2 ix0 ix2 hf H locs cells slots ls hw hl
    unfold pc_X7_closeOf_4 at hf
    refine lv_iload_n hx hb dX7_closeOf_4 rfl (lv_at hl.1 1 rfl) ?_
    refine cl_aload_n hx hb dX7_closeOf_5 rfl (lv_at hl.1 0 rfl) ?_
    obtain ⟨z1, ez1, iz1, rz1, hf⟩ := cc_g_s hw hf
    refine cw_get (val := .int (rI z1)) B hw rz1 ⟨by decide, by decide⟩ (by decide) cwi_8 cfl_X7_9 ez1 rfl dX7_closeOf_6 ?_
    refine rn_icmp_ge (a := x2) (b := z1) (tgt := 31) hx hb ix2 iz1 dX7_closeOf_9 (by decide) (fun c2 => ?_) (fun c2 => ?_)
    · replace hf := cc_if_t hf c2
      refine lv_iconst (v := rI (-1)) hx hb dX7_closeOf_31 rfl ?_
      exact cw_reti B hf hw dX7_closeOf_32
    · replace hf := cc_if_f hf c2
      refine cl_aload_n hx hb dX7_closeOf_12 rfl (lv_at hl.1 0 rfl) ?_
      obtain ⟨z3, ez3, iz3, rz3, hf⟩ := cc_g_s hw hf
      refine cw_get (val := cR v z3) B hw rz3 ⟨by decide, by decide⟩ (by decide) cwi_8 cfl_X7_30 ez3 rfl dX7_closeOf_13 ?_
      refine lv_iload_n hx hb dX7_closeOf_16 rfl (lv_at hl.1 1 rfl) ?_
      obtain ⟨z4, ez4, iz4, rz4, bz4, hf⟩ := cc_r_s hw hf
      refine cw_aldB B hw rz4 ix2 bz4 ez4 dX7_closeOf_17 ?_
      refine lv_bipush (v := rI 125) hx hb dX7_closeOf_18 (by decide +kernel) ?_
      refine rn_icmp_ne (a := z4) (b := 125) (tgt := 25) hx hb iz4 ⟨by decide, by decide⟩ dX7_closeOf_20 (by decide) (fun c5 => ?_) (fun c5 => ?_)
      · replace hf := cc_if_t hf c5
        obtain ⟨z6, ez6, iz6, hf⟩ := cc_ck_s hf
        refine cl_iinc (v := rI z6) (lv' := [(2, .int (rI z6)), (0, cR v x0)]) hx hb dX7_closeOf_25 hl (k := 1) rfl (by rw [ez6]; exact rI_add _ _) (by decide) rfl (fun ls hl => ?_)
        refine lv_goto (tgt := 4) hx hb dX7_closeOf_28 (by decide) ?_
        exact ih σ x0 z6 ix0 iz6 hf _ _ _ _ _ hw (cl_sub hl [1, 0] rfl)
      · replace hf := cc_if_f hf c5
        refine lv_iload_n hx hb dX7_closeOf_23 rfl (lv_at hl.1 1 rfl) ?_
        exact cw_reti B hf hw dX7_closeOf_24

set_option maxHeartbeats 4000000 in
set_option maxRecDepth 100000 in
theorem pw_X7_closeOf_0 {v : cwE} {bd : cBd} {p : Program} {l : Launch} {e : Env} {s : State} {m : MethodId} {args : Array Value} {below : List Frame} {meth : Method} {c : Code} {d : Nat} {rec : Nat → CS → List Int → CO} {σ0 σ' : CS} {kd : Nat} {r : Int} (hbd : bd = cw_bd v) (hR : cw_Rec l v d rec) (htr : l.stackTraces = false) (hd5 : 5 ≤ d) (B : cw_B v RX7 p s m args meth c cX7_closeOf 3 (some .int)) (hnh : ∀ x ∈ c.exceptionTable.toList, False) : ∀ (σ : CS) (x0 x1 : Int), inR x0 → inR x1 → pc_X7_closeOf_0 rec bd σ x0 x1 = some (σ', kd, r) → ∀ (H : Heap) (locs : List Loc) (cells slots : Nat) (ls : Array Slot), cw_W v s σ0 σ H locs cells slots → cl_has ls 3 [(0, cR v x0), (1, .int (rI x1))] → W p l e (cw_rm v (d + 1) σ0) s m args below meth c H locs cells slots (cw_Z below v σ0 σ' kd (some (.int (rI r))) args s) (F0 m 0 ls []) := by
  subst hbd
  obtain ⟨hx, hb, hr, hml, hown, hts, hlk, hK⟩ := id B
  intro σ x0 x1 ix0 ix1 hf H locs cells slots ls hw hl
  unfold pc_X7_closeOf_0 at hf
  refine lv_iload_n hx hb dX7_closeOf_0 rfl (lv_at hl.1 1 rfl) ?_
  refine lv_iconst (v := rI 1) hx hb dX7_closeOf_1 rfl ?_
  obtain ⟨z1, ez1, iz1, hf⟩ := cc_ck_s hf
  refine rn_add hx hb ez1 dX7_closeOf_2 ?_
  refine cl_istore_n (lv' := [(2, .int (rI z1)), (0, cR v x0), (1, .int (rI x1))]) hx hb dX7_closeOf_3 rfl hl (by decide) rfl (fun ls hl => ?_)
  exact pw_X7_closeOf_4 rfl hR htr hd5 B hnh 2000000 σ x0 z1 ix0 iz1 hf _ _ _ _ _ hw (cl_sub hl [1, 0] rfl)

set_option maxHeartbeats 4000000 in
set_option maxRecDepth 100000 in
theorem pm_X7_closeOf {v : cwE} {bd : cBd} {l : Launch} {d : Nat} {rec : Nat → CS → List Int → CO} (hbd : bd = cw_bd v) (hR : cw_Rec l v d rec) (htr : l.stackTraces = false) (hd5 : 5 ≤ d) (σ σ' : CS) (x0 x1 : Int) (kd : Nat) (r : Int) (ix0 : inR x0) (ix1 : inR x1) (hf : pc_X7_closeOf_0 rec bd σ x0 x1 = some (σ', kd, r)) : cw_Met l v yX7_closeOf cX7_closeOf 3 (some .int) (d + 1) [cR v x0, .int (rI x1)] σ σ' kd (some (.int (rI r))) := by
  refine cw_ofW (by decide +kernel) ?_
  intro p e s m args below meth c s₁ B hml hv
  obtain ⟨rfl, hM, hK⟩ := hv
  have hts := atoms_spec (ws := Cond.code yX7_closeOf cX7_closeOf 3 (some .int) :: cw_bw) B.pre
  have hB : cw_B v RX7 p s m _ meth c cX7_closeOf 3 (some .int) := ⟨B.exec, B.bytes, B.returns, hml, findClass_of_methodNamed B.named, fun w h => hts w (List.mem_cons_of_mem _ h), B.notSynchronized, hK⟩
  have hnh := cc_nh B (hts _ List.mem_cons_self)
  rw [lg_entry_eq]
  obtain ⟨ls, hls, hl⟩ := cl_ent [cR v x0, .int (rI x1)] 3 (cl_1r (cl_1i cl_10)) (Nat.le_of_ble_eq_true rfl)
  rw [hls]
  exact pw_X7_closeOf_0 hbd hR htr hd5 hB hnh σ x0 x1 ix0 ix1 hf _ _ _ _ _ (cw_W0 hM) (cl_sub hl [0, 1] rfl)

set_option maxHeartbeats 4000000 in
set_option maxRecDepth 100000 in
theorem pw_X7_expect_12 {v : cwE} {bd : cBd} {p : Program} {l : Launch} {e : Env} {s : State} {m : MethodId} {args : Array Value} {below : List Frame} {meth : Method} {c : Code} {d : Nat} {rec : Nat → CS → List Int → CO} {σ0 σ' : CS} {kd : Nat} {r : Int} (hbd : bd = cw_bd v) (hR : cw_Rec l v d rec) (htr : l.stackTraces = false) (hd5 : 5 ≤ d) (B : cw_B v RX7 p s m args meth c cX7_expect 2 none) (hnh : ∀ x ∈ c.exceptionTable.toList, False) : ∀ (σ : CS) (x0 : Int), inR x0 → pc_X7_expect_12 rec bd σ x0 = some (σ', kd, r) → ∀ (H : Heap) (locs : List Loc) (cells slots : Nat) (ls : Array Slot), cw_W v s σ0 σ H locs cells slots → cl_has ls 2 [(0, cR v x0)] → W p l e (cw_rm v (d + 1) σ0) s m args below meth c H locs cells slots (cw_Z below v σ0 σ' kd none args s) (F0 m 12 ls []) := by
  subst hbd
  obtain ⟨hx, hb, hr, hml, hown, hts, hlk, hK⟩ := id B
  intro σ x0 ix0 hf H locs cells slots ls hw hl
  unfold pc_X7_expect_12 at hf
  refine cl_aload_n hx hb dX7_expect_12 rfl (lv_at hl.1 0 rfl) ?_
  obtain ⟨qσ1, hf⟩ := cc_t_s hf
  obtain ⟨σ1, kv2, z3, hσ1, hf⟩ := cc_cl_s hf
  obtain ⟨iz3, mσ1⟩ := hR 109 σ [x0] σ1 kv2 z3 hσ1
  have mσ1 : cw_Met l v yX7_advance cX7_advance 1 none d [cR v x0] σ σ1 kv2 none := mσ1 ix0
  refine cw_cv (b := x0) (t := 8) (n := 0) (rest := []) (As := []) B mσ1 qσ1 ⟨by decide, by decide⟩ cgo_yX7_advance cml_X7_60 cin_yX7_advance cse_yX7_advance (by decide +kernel) (by decide) rfl hl.1.1 (Nat.le_of_ble_eq_true rfl) dX7_expect_13 rfl hw (fun h0 H locs cells slots hw => ?_) (fun h0 H locs cells slots q ce hw h1 h2 h3 => ?_)
  · rcases hf with ⟨-, hf⟩ | ⟨hk, -⟩
    · skip
      exact cw_retv B hf hw dX7_expect_16
    · exact absurd h0 hk
  · rcases hf with ⟨hk, -⟩ | ⟨-, hf⟩
    · exact absurd hk h0
    · cases hf
      exact cw_xout B hnh h0 hw h1 h2 h3

set_option maxHeartbeats 4000000 in
set_option maxRecDepth 100000 in
theorem pw_X7_expect_0 {v : cwE} {bd : cBd} {p : Program} {l : Launch} {e : Env} {s : State} {m : MethodId} {args : Array Value} {below : List Frame} {meth : Method} {c : Code} {d : Nat} {rec : Nat → CS → List Int → CO} {σ0 σ' : CS} {kd : Nat} {r : Int} (hbd : bd = cw_bd v) (hR : cw_Rec l v d rec) (htr : l.stackTraces = false) (hd5 : 5 ≤ d) (B : cw_B v RX7 p s m args meth c cX7_expect 2 none) (hnh : ∀ x ∈ c.exceptionTable.toList, False) : ∀ (σ : CS) (x0 x1 : Int), inR x0 → inR x1 → pc_X7_expect_0 rec bd σ x0 x1 = some (σ', kd, r) → ∀ (H : Heap) (locs : List Loc) (cells slots : Nat) (ls : Array Slot), cw_W v s σ0 σ H locs cells slots → cl_has ls 2 [(0, cR v x0), (1, .int (rI x1))] → W p l e (cw_rm v (d + 1) σ0) s m args below meth c H locs cells slots (cw_Z below v σ0 σ' kd none args s) (F0 m 0 ls []) := by
  subst hbd
  obtain ⟨hx, hb, hr, hml, hown, hts, hlk, hK⟩ := id B
  intro σ x0 x1 ix0 ix1 hf H locs cells slots ls hw hl
  unfold pc_X7_expect_0 at hf
  refine cl_aload_n hx hb dX7_expect_0 rfl (lv_at hl.1 0 rfl) ?_
  obtain ⟨z1, ez1, iz1, rz1, hf⟩ := cc_g_s hw hf
  refine cw_get (val := .int (rI z1)) B hw rz1 ⟨by decide, by decide⟩ (by decide) cwi_8 cfl_X7_18 ez1 rfl dX7_expect_1 ?_
  refine lv_iload_n hx hb dX7_expect_4 rfl (lv_at hl.1 1 rfl) ?_
  refine rn_icmp_eq (a := z1) (b := x1) (tgt := 12) hx hb iz1 ix1 dX7_expect_5 (by decide) (fun c2 => ?_) (fun c2 => ?_)
  · replace hf := cc_if_t hf c2
    exact pw_X7_expect_12 rfl hR htr hd5 B hnh σ x0 ix0 hf _ _ _ _ _ hw (cl_sub hl [0] rfl)
  · replace hf := cc_if_f hf c2
    refine cl_aload_n hx hb dX7_expect_8 rfl (lv_at hl.1 0 rfl) ?_
    obtain ⟨qσ3, hf⟩ := cc_t_s hf
    obtain ⟨σ3, kv4, z5, hσ3, hf⟩ := cc_cl_s hf
    obtain ⟨iz5, mσ3⟩ := hR 125 σ [x0] σ3 kv4 z5 hσ3
    have mσ3 : cw_Met l v yX7_refuse cX7_refuse 1 none d [cR v x0] σ σ3 kv4 none := mσ3 ix0
    refine cw_cv (b := x0) (t := 8) (n := 0) (rest := []) (As := []) B mσ3 qσ3 ⟨by decide, by decide⟩ cgo_yX7_refuse cml_X7_83 cin_yX7_refuse cse_yX7_refuse (by decide +kernel) (by decide) rfl hl.1.1 (Nat.le_of_ble_eq_true rfl) dX7_expect_9 rfl hw (fun h0 H locs cells slots hw => ?_) (fun h0 H locs cells slots q ce hw h1 h2 h3 => ?_)
    · rcases hf with ⟨-, hf⟩ | ⟨hk, -⟩
      · skip
        exact pw_X7_expect_12 rfl hR htr hd5 B hnh σ3 x0 ix0 hf _ _ _ _ _ hw (cl_sub hl [0] rfl)
      · exact absurd h0 hk
    · rcases hf with ⟨hk, -⟩ | ⟨-, hf⟩
      · exact absurd hk h0
      · cases hf
        exact cw_xout B hnh h0 hw h1 h2 h3

set_option maxHeartbeats 4000000 in
set_option maxRecDepth 100000 in
theorem pm_X7_expect {v : cwE} {bd : cBd} {l : Launch} {d : Nat} {rec : Nat → CS → List Int → CO} (hbd : bd = cw_bd v) (hR : cw_Rec l v d rec) (htr : l.stackTraces = false) (hd5 : 5 ≤ d) (σ σ' : CS) (x0 x1 : Int) (kd : Nat) (r : Int) (ix0 : inR x0) (ix1 : inR x1) (hf : pc_X7_expect_0 rec bd σ x0 x1 = some (σ', kd, r)) : cw_Met l v yX7_expect cX7_expect 2 none (d + 1) [cR v x0, .int (rI x1)] σ σ' kd none := by
  refine cw_ofW (by decide +kernel) ?_
  intro p e s m args below meth c s₁ B hml hv
  obtain ⟨rfl, hM, hK⟩ := hv
  have hts := atoms_spec (ws := Cond.code yX7_expect cX7_expect 2 none :: cw_bw) B.pre
  have hB : cw_B v RX7 p s m _ meth c cX7_expect 2 none := ⟨B.exec, B.bytes, B.returns, hml, findClass_of_methodNamed B.named, fun w h => hts w (List.mem_cons_of_mem _ h), B.notSynchronized, hK⟩
  have hnh := cc_nh B (hts _ List.mem_cons_self)
  rw [lg_entry_eq]
  obtain ⟨ls, hls, hl⟩ := cl_ent [cR v x0, .int (rI x1)] 2 (cl_1r (cl_1i cl_10)) (Nat.le_of_ble_eq_true rfl)
  rw [hls]
  exact pw_X7_expect_0 hbd hR htr hd5 hB hnh σ x0 x1 ix0 ix1 hf _ _ _ _ _ (cw_W0 hM) (cl_sub hl [0, 1] rfl)

set_option maxHeartbeats 4000000 in
set_option maxRecDepth 100000 in
theorem pw_X7_init_0 {v : cwE} {bd : cBd} {p : Program} {l : Launch} {e : Env} {s : State} {m : MethodId} {args : Array Value} {below : List Frame} {meth : Method} {c : Code} {d : Nat} {rec : Nat → CS → List Int → CO} {σ0 σ' : CS} {kd : Nat} {r : Int} (hbd : bd = cw_bd v) (hR : cw_Rec l v d rec) (htr : l.stackTraces = false) (hd5 : 5 ≤ d) (B : cw_B v RX7 p s m args meth c cX7_init 3 none) (hin : meth.name = "<init>") (hnh : ∀ x ∈ c.exceptionTable.toList, False) : ∀ (σ : CS) (x0 x1 x2 : Int), inR x0 → inR x1 → inR x2 → pc_X7_init_0 rec bd σ x0 x1 x2 = some (σ', kd, r) → ∀ (H : Heap) (locs : List Loc) (cells slots : Nat) (ls : Array Slot), cw_W v s σ0 σ H locs cells slots → cl_has ls 3 [(0, cR v x0), (1, cR v x1), (2, cR v x2)] → W p l e (cw_rm v (d + 1) σ0) s m args below meth c H locs cells slots (cw_Z below v σ0 σ' kd none args s) (F0 m 0 ls []) := by
  subst hbd
  obtain ⟨hx, hb, hr, hml, hown, hts, hlk, hK⟩ := id B
  intro σ x0 x1 x2 ix0 ix1 ix2 hf H locs cells slots ls hw hl
  unfold pc_X7_init_0 at hf
  refine cl_aload_n hx hb dX7_init_0 rfl (lv_at hl.1 0 rfl) ?_
  obtain ⟨q0, hf⟩ := cc_t_s hf
  rw [cR_r q0.1]
  refine W.objInit hx hb hown (hts _ coi_X7_3) (hts _ coi2) (hts _ coi3) rfl (hl.1.1.trans hml.symm) rfl dX7_init_1 (by show 1 ≤ d + 1; omega) (by show _ + 12 ≤ 100 * (d + 1); simp [JFrame.monitorRoom]; omega) ?_
  refine cl_aload_n hx hb dX7_init_4 rfl (lv_at hl.1 0 rfl) ?_
  refine lv_iconst (v := rI 0) hx hb dX7_init_5 rfl ?_
  obtain ⟨σ1, eσ1, rσ1, hf⟩ := cc_p_s hf
  refine cw_put B hw rσ1 cwt_8 (by decide) rfl cfl_X7_9 ⟨by decide, by decide⟩ eσ1 rfl (cw_fv_n rfl rfl) dX7_init_6 (fun H locs hw => ?_)
  refine cl_aload_n hx hb dX7_init_9 rfl (lv_at hl.1 0 rfl) ?_
  refine lv_iconst (v := rI 0) hx hb dX7_init_10 rfl ?_
  obtain ⟨σ2, eσ2, rσ2, hf⟩ := cc_p_s hf
  refine cw_put B hw rσ2 cwt_8 (by decide) rfl cfl_X7_15 ⟨by decide, by decide⟩ eσ2 rfl (cw_fv_n rfl rfl) dX7_init_11 (fun H locs hw => ?_)
  refine cl_aload_n hx hb dX7_init_14 rfl (lv_at hl.1 0 rfl) ?_
  refine lv_sipush (v := rI 261) hx hb dX7_init_15 (by decide +kernel) ?_
  obtain ⟨σ3, eσ3, rσ3, hf⟩ := cc_p_s hf
  refine cw_put B hw rσ3 cwt_8 (by decide) rfl cfl_X7_18 ⟨by decide, by decide⟩ eσ3 rfl (cw_fv_n rfl rfl) dX7_init_18 (fun H locs hw => ?_)
  refine cl_aload_n hx hb dX7_init_21 rfl (lv_at hl.1 0 rfl) ?_
  refine lv_iconst (v := rI 0) hx hb dX7_init_22 rfl ?_
  obtain ⟨σ4, eσ4, rσ4, hf⟩ := cc_p_s hf
  refine cw_put B hw rσ4 cwt_8 (by decide) rfl cfl_X7_21 ⟨by decide, by decide⟩ eσ4 rfl (cw_fv_n rfl rfl) dX7_init_23 (fun H locs hw => ?_)
  refine cl_aload_n hx hb dX7_init_26 rfl (lv_at hl.1 0 rfl) ?_
  refine lv_iconst (v := rI 0) hx hb dX7_init_27 rfl ?_
  obtain ⟨σ5, eσ5, rσ5, hf⟩ := cc_p_s hf
  refine cw_put B hw rσ5 cwt_8 (by decide) rfl cfl_X7_24 ⟨by decide, by decide⟩ eσ5 rfl (cw_fv_n rfl rfl) dX7_init_28 (fun H locs hw => ?_)
  refine cl_aload_n hx hb dX7_init_31 rfl (lv_at hl.1 0 rfl) ?_
  refine lv_iconst (v := rI 0) hx hb dX7_init_32 rfl ?_
  obtain ⟨σ6, eσ6, rσ6, hf⟩ := cc_p_s hf
  refine cw_put B hw rσ6 cwt_8 (by decide) rfl cfl_X7_27 ⟨by decide, by decide⟩ eσ6 rfl (cw_fv_n rfl rfl) dX7_init_33 (fun H locs hw => ?_)
  refine cl_aload_n hx hb dX7_init_36 rfl (lv_at hl.1 0 rfl) ?_
  refine cl_aload_n hx hb dX7_init_37 rfl (lv_at hl.1 1 rfl) ?_
  obtain ⟨σ7, eσ7, rσ7, hf⟩ := cc_p_s hf
  refine cw_putF B hin hw rσ7 cwt_8 (by decide) rfl rfl rfl cfl_X7_30 ix1 eσ7 rfl (cw_fv_r rfl (Or.inr ⟨_, rfl⟩)) dX7_init_38 (fun H locs hw => ?_)
  refine cl_aload_n hx hb dX7_init_41 rfl (lv_at hl.1 0 rfl) ?_
  refine cl_aload_n hx hb dX7_init_42 rfl (lv_at hl.1 2 rfl) ?_
  obtain ⟨σ8, eσ8, rσ8, hf⟩ := cc_p_s hf
  refine cw_putF B hin hw rσ8 cwt_8 (by decide) rfl rfl rfl cfl_X7_34 ix2 eσ8 rfl (cw_fv_r rfl (Or.inl ⟨_, rfl⟩)) dX7_init_43 (fun H locs hw => ?_)
  refine cl_aload_n hx hb dX7_init_46 rfl (lv_at hl.1 0 rfl) ?_
  refine cl_aload_n hx hb dX7_init_47 rfl (lv_at hl.1 1 rfl) ?_
  obtain ⟨z9, ez9, iz9, rz9, hf⟩ := cc_l_s hf
  refine cw_len B hw rz9 (by decide) ez9 iz9 dX7_init_48 ?_
  refine lv_iconst (v := rI 1) hx hb dX7_init_49 rfl ?_
  obtain ⟨z10, ez10, iz10, hf⟩ := cc_ck_s hf
  refine rn_add hx hb ez10 dX7_init_50 ?_
  obtain ⟨σ11, z12, eσ11, ez12, iz12, qσ11, rσ11, hf⟩ := cc_na_s hf
  refine cw_newa (t := 21) B hw (Or.inr ⟨rfl, rfl⟩) cac_int iz10 qσ11.1 qσ11.2 rσ11 eσ11 ez12 dX7_init_51 (fun H hw => ?_)
  obtain ⟨σ13, eσ13, rσ13, hf⟩ := cc_p_s hf
  refine cw_putF B hin hw rσ13 cwt_8 (by decide) rfl rfl rfl cfl_X7_38 iz12 eσ13 rfl (cw_fv_r rfl (Or.inr ⟨_, rfl⟩)) dX7_init_53 (fun H locs hw => ?_)
  refine cl_aload_n hx hb dX7_init_56 rfl (lv_at hl.1 0 rfl) ?_
  refine cl_aload_n hx hb dX7_init_57 rfl (lv_at hl.1 1 rfl) ?_
  obtain ⟨z14, ez14, iz14, rz14, hf⟩ := cc_l_s hf
  refine cw_len B hw rz14 (by decide) ez14 iz14 dX7_init_58 ?_
  refine lv_iconst (v := rI 1) hx hb dX7_init_59 rfl ?_
  obtain ⟨z15, ez15, iz15, hf⟩ := cc_ck_s hf
  refine rn_add hx hb ez15 dX7_init_60 ?_
  obtain ⟨σ16, z17, eσ16, ez17, iz17, qσ16, rσ16, hf⟩ := cc_na_s hf
  refine cw_newa (t := 21) B hw (Or.inr ⟨rfl, rfl⟩) cac_int iz15 qσ16.1 qσ16.2 rσ16 eσ16 ez17 dX7_init_61 (fun H hw => ?_)
  obtain ⟨σ18, eσ18, rσ18, hf⟩ := cc_p_s hf
  refine cw_putF B hin hw rσ18 cwt_8 (by decide) rfl rfl rfl cfl_X7_42 iz17 eσ18 rfl (cw_fv_r rfl (Or.inr ⟨_, rfl⟩)) dX7_init_63 (fun H locs hw => ?_)
  refine cl_aload_n hx hb dX7_init_66 rfl (lv_at hl.1 0 rfl) ?_
  refine cl_aload_n hx hb dX7_init_67 rfl (lv_at hl.1 1 rfl) ?_
  obtain ⟨z19, ez19, iz19, rz19, hf⟩ := cc_l_s hf
  refine cw_len B hw rz19 (by decide) ez19 iz19 dX7_init_68 ?_
  refine lv_iconst (v := rI 1) hx hb dX7_init_69 rfl ?_
  obtain ⟨z20, ez20, iz20, hf⟩ := cc_ck_s hf
  refine rn_add hx hb ez20 dX7_init_70 ?_
  obtain ⟨σ21, z22, eσ21, ez22, iz22, qσ21, rσ21, hf⟩ := cc_na_s hf
  refine cw_newa (t := 21) B hw (Or.inr ⟨rfl, rfl⟩) cac_int iz20 qσ21.1 qσ21.2 rσ21 eσ21 ez22 dX7_init_71 (fun H hw => ?_)
  obtain ⟨σ23, eσ23, rσ23, hf⟩ := cc_p_s hf
  refine cw_putF B hin hw rσ23 cwt_8 (by decide) rfl rfl rfl cfl_X7_45 iz22 eσ23 rfl (cw_fv_r rfl (Or.inr ⟨_, rfl⟩)) dX7_init_73 (fun H locs hw => ?_)
  exact cw_retv B hf hw dX7_init_76

set_option maxHeartbeats 4000000 in
set_option maxRecDepth 100000 in
theorem pm_X7_init {v : cwE} {bd : cBd} {l : Launch} {d : Nat} {rec : Nat → CS → List Int → CO} (hbd : bd = cw_bd v) (hR : cw_Rec l v d rec) (htr : l.stackTraces = false) (hd5 : 5 ≤ d) (σ σ' : CS) (x0 x1 x2 : Int) (kd : Nat) (r : Int) (ix0 : inR x0) (ix1 : inR x1) (ix2 : inR x2) (hf : pc_X7_init_0 rec bd σ x0 x1 x2 = some (σ', kd, r)) : cw_Met l v yX7_init cX7_init 3 none (d + 1) [cR v x0, cR v x1, cR v x2] σ σ' kd none := by
  refine cw_ofW (by decide +kernel) ?_
  intro p e s m args below meth c s₁ B hml hv
  obtain ⟨rfl, hM, hK⟩ := hv
  have hts := atoms_spec (ws := Cond.code yX7_init cX7_init 3 none :: cw_bw) B.pre
  have hB : cw_B v RX7 p s m _ meth c cX7_init 3 none := ⟨B.exec, B.bytes, B.returns, hml, findClass_of_methodNamed B.named, fun w h => hts w (List.mem_cons_of_mem _ h), B.notSynchronized, hK⟩
  have hnh := cc_nh B (hts _ List.mem_cons_self)
  rw [lg_entry_eq]
  obtain ⟨ls, hls, hl⟩ := cl_ent [cR v x0, cR v x1, cR v x2] 3 (cl_1r (cl_1r (cl_1r cl_10))) (Nat.le_of_ble_eq_true rfl)
  rw [hls]
  exact pw_X7_init_0 hbd hR htr hd5 hB (name_of_methodNamed B.named B.method).1 hnh σ x0 x1 x2 ix0 ix1 ix2 hf _ _ _ _ _ (cw_W0 hM) (cl_sub hl [0, 1, 2] rfl)

set_option maxHeartbeats 4000000 in
set_option maxRecDepth 100000 in
theorem pw_X7_isLetter_12 {v : cwE} {bd : cBd} {p : Program} {l : Launch} {e : Env} {s : State} {m : MethodId} {args : Array Value} {below : List Frame} {meth : Method} {c : Code} {d : Nat} {rec : Nat → CS → List Int → CO} {σ0 σ' : CS} {kd : Nat} {r : Int} (hbd : bd = cw_bd v) (hR : cw_Rec l v d rec) (htr : l.stackTraces = false) (hd5 : 5 ≤ d) (B : cw_B v RX7 p s m args meth c cX7_isLetter 1 (some .boolean)) (hnh : ∀ x ∈ c.exceptionTable.toList, False) : ∀ (σ : CS) (x0 : Int), inR x0 → pc_X7_isLetter_12 rec bd σ x0 = some (σ', kd, r) → ∀ (H : Heap) (locs : List Loc) (cells slots : Nat) (ls : Array Slot), cw_W v s σ0 σ H locs cells slots → cl_has ls 1 [(0, .int (rI x0))] → W p l e (cw_rm v (d + 1) σ0) s m args below meth c H locs cells slots (cw_Z below v σ0 σ' kd (some (.int (rI r))) args s) (F0 m 12 ls []) := by
  subst hbd
  obtain ⟨hx, hb, hr, hml, hown, hts, hlk, hK⟩ := id B
  intro σ x0 ix0 hf H locs cells slots ls hw hl
  unfold pc_X7_isLetter_12 at hf
  refine lv_iload_n hx hb dX7_isLetter_12 rfl (lv_at hl.1 0 rfl) ?_
  refine lv_bipush (v := rI 65) hx hb dX7_isLetter_13 (by decide +kernel) ?_
  refine rn_icmp_lt (a := x0) (b := 65) (tgt := 28) hx hb ix0 ⟨by decide, by decide⟩ dX7_isLetter_15 (by decide) (fun c1 => ?_) (fun c1 => ?_)
  · replace hf := cc_if_t hf c1
    refine lv_iconst (v := rI 0) hx hb dX7_isLetter_28 rfl ?_
    obtain ⟨h01, hf⟩ := cc_bo_s hf
    exact cw_retz B h01 hf hw dX7_isLetter_29
  · replace hf := cc_if_f hf c1
    refine lv_iload_n hx hb dX7_isLetter_18 rfl (lv_at hl.1 0 rfl) ?_
    refine lv_bipush (v := rI 90) hx hb dX7_isLetter_19 (by decide +kernel) ?_
    refine rn_icmp_gt (a := x0) (b := 90) (tgt := 28) hx hb ix0 ⟨by decide, by decide⟩ dX7_isLetter_21 (by decide) (fun c2 => ?_) (fun c2 => ?_)
    · replace hf := cc_if_t hf c2
      refine lv_iconst (v := rI 0) hx hb dX7_isLetter_28 rfl ?_
      obtain ⟨h01, hf⟩ := cc_bo_s hf
      exact cw_retz B h01 hf hw dX7_isLetter_29
    · replace hf := cc_if_f hf c2
      refine lv_iconst (v := rI 1) hx hb dX7_isLetter_24 rfl ?_
      refine lv_goto (tgt := 29) hx hb dX7_isLetter_25 (by decide) ?_
      obtain ⟨h01, hf⟩ := cc_bo_s hf
      exact cw_retz B h01 hf hw dX7_isLetter_29

set_option maxHeartbeats 4000000 in
set_option maxRecDepth 100000 in
theorem pw_X7_isLetter_0 {v : cwE} {bd : cBd} {p : Program} {l : Launch} {e : Env} {s : State} {m : MethodId} {args : Array Value} {below : List Frame} {meth : Method} {c : Code} {d : Nat} {rec : Nat → CS → List Int → CO} {σ0 σ' : CS} {kd : Nat} {r : Int} (hbd : bd = cw_bd v) (hR : cw_Rec l v d rec) (htr : l.stackTraces = false) (hd5 : 5 ≤ d) (B : cw_B v RX7 p s m args meth c cX7_isLetter 1 (some .boolean)) (hnh : ∀ x ∈ c.exceptionTable.toList, False) : ∀ (σ : CS) (x0 : Int), inR x0 → pc_X7_isLetter_0 rec bd σ x0 = some (σ', kd, r) → ∀ (H : Heap) (locs : List Loc) (cells slots : Nat) (ls : Array Slot), cw_W v s σ0 σ H locs cells slots → cl_has ls 1 [(0, .int (rI x0))] → W p l e (cw_rm v (d + 1) σ0) s m args below meth c H locs cells slots (cw_Z below v σ0 σ' kd (some (.int (rI r))) args s) (F0 m 0 ls []) := by
  subst hbd
  obtain ⟨hx, hb, hr, hml, hown, hts, hlk, hK⟩ := id B
  intro σ x0 ix0 hf H locs cells slots ls hw hl
  unfold pc_X7_isLetter_0 at hf
  refine lv_iload_n hx hb dX7_isLetter_0 rfl (lv_at hl.1 0 rfl) ?_
  refine lv_bipush (v := rI 97) hx hb dX7_isLetter_1 (by decide +kernel) ?_
  refine rn_icmp_lt (a := x0) (b := 97) (tgt := 12) hx hb ix0 ⟨by decide, by decide⟩ dX7_isLetter_3 (by decide) (fun c1 => ?_) (fun c1 => ?_)
  · replace hf := cc_if_t hf c1
    exact pw_X7_isLetter_12 rfl hR htr hd5 B hnh σ x0 ix0 hf _ _ _ _ _ hw (cl_sub hl [0] rfl)
  · replace hf := cc_if_f hf c1
    refine lv_iload_n hx hb dX7_isLetter_6 rfl (lv_at hl.1 0 rfl) ?_
    refine lv_bipush (v := rI 122) hx hb dX7_isLetter_7 (by decide +kernel) ?_
    refine rn_icmp_le (a := x0) (b := 122) (tgt := 24) hx hb ix0 ⟨by decide, by decide⟩ dX7_isLetter_9 (by decide) (fun c2 => ?_) (fun c2 => ?_)
    · replace hf := cc_if_t hf c2
      refine lv_iconst (v := rI 1) hx hb dX7_isLetter_24 rfl ?_
      refine lv_goto (tgt := 29) hx hb dX7_isLetter_25 (by decide) ?_
      obtain ⟨h01, hf⟩ := cc_bo_s hf
      exact cw_retz B h01 hf hw dX7_isLetter_29
    · replace hf := cc_if_f hf c2
      exact pw_X7_isLetter_12 rfl hR htr hd5 B hnh σ x0 ix0 hf _ _ _ _ _ hw (cl_sub hl [0] rfl)

set_option maxHeartbeats 4000000 in
set_option maxRecDepth 100000 in
theorem pm_X7_isLetter {v : cwE} {bd : cBd} {l : Launch} {d : Nat} {rec : Nat → CS → List Int → CO} (hbd : bd = cw_bd v) (hR : cw_Rec l v d rec) (htr : l.stackTraces = false) (hd5 : 5 ≤ d) (σ σ' : CS) (x0 : Int) (kd : Nat) (r : Int) (ix0 : inR x0) (hf : pc_X7_isLetter_0 rec bd σ x0 = some (σ', kd, r)) : cw_Met l v yX7_isLetter cX7_isLetter 1 (some .boolean) (d + 1) [.int (rI x0)] σ σ' kd (some (.int (rI r))) := by
  refine cw_ofW (by decide +kernel) ?_
  intro p e s m args below meth c s₁ B hml hv
  obtain ⟨rfl, hM, hK⟩ := hv
  have hts := atoms_spec (ws := Cond.code yX7_isLetter cX7_isLetter 1 (some .boolean) :: cw_bw) B.pre
  have hB : cw_B v RX7 p s m _ meth c cX7_isLetter 1 (some .boolean) := ⟨B.exec, B.bytes, B.returns, hml, findClass_of_methodNamed B.named, fun w h => hts w (List.mem_cons_of_mem _ h), B.notSynchronized, hK⟩
  have hnh := cc_nh B (hts _ List.mem_cons_self)
  rw [lg_entry_eq]
  obtain ⟨ls, hls, hl⟩ := cl_ent [.int (rI x0)] 1 (cl_1i cl_10) (Nat.le_of_ble_eq_true rfl)
  rw [hls]
  exact pw_X7_isLetter_0 hbd hR htr hd5 hB hnh σ x0 ix0 hf _ _ _ _ _ (cw_W0 hM) (cl_sub hl [0] rfl)

set_option maxHeartbeats 4000000 in
set_option maxRecDepth 100000 in
theorem pw_X7_isNameSign_19 {v : cwE} {bd : cBd} {p : Program} {l : Launch} {e : Env} {s : State} {m : MethodId} {args : Array Value} {below : List Frame} {meth : Method} {c : Code} {d : Nat} {rec : Nat → CS → List Int → CO} {σ0 σ' : CS} {kd : Nat} {r : Int} (hbd : bd = cw_bd v) (hR : cw_Rec l v d rec) (htr : l.stackTraces = false) (hd5 : 5 ≤ d) (B : cw_B v RX7 p s m args meth c cX7_isNameSign 1 (some .boolean)) (hnh : ∀ x ∈ c.exceptionTable.toList, False) : ∀ (σ : CS) (x0 : Int), inR x0 → pc_X7_isNameSign_19 rec bd σ x0 = some (σ', kd, r) → ∀ (H : Heap) (locs : List Loc) (cells slots : Nat) (ls : Array Slot), cw_W v s σ0 σ H locs cells slots → cl_has ls 1 [(0, .int (rI x0))] → W p l e (cw_rm v (d + 1) σ0) s m args below meth c H locs cells slots (cw_Z below v σ0 σ' kd (some (.int (rI r))) args s) (F0 m 19 ls []) := by
  subst hbd
  obtain ⟨hx, hb, hr, hml, hown, hts, hlk, hK⟩ := id B
  intro σ x0 ix0 hf H locs cells slots ls hw hl
  unfold pc_X7_isNameSign_19 at hf
  refine lv_iload_n hx hb dX7_isNameSign_19 rfl (lv_at hl.1 0 rfl) ?_
  refine lv_bipush (v := rI 39) hx hb dX7_isNameSign_20 (by decide +kernel) ?_
  refine rn_icmp_ne (a := x0) (b := 39) (tgt := 29) hx hb ix0 ⟨by decide, by decide⟩ dX7_isNameSign_22 (by decide) (fun c1 => ?_) (fun c1 => ?_)
  · replace hf := cc_if_t hf c1
    refine lv_iconst (v := rI 0) hx hb dX7_isNameSign_29 rfl ?_
    obtain ⟨h01, hf⟩ := cc_bo_s hf
    exact cw_retz B h01 hf hw dX7_isNameSign_30
  · replace hf := cc_if_f hf c1
    refine lv_iconst (v := rI 1) hx hb dX7_isNameSign_25 rfl ?_
    refine lv_goto (tgt := 30) hx hb dX7_isNameSign_26 (by decide) ?_
    obtain ⟨h01, hf⟩ := cc_bo_s hf
    exact cw_retz B h01 hf hw dX7_isNameSign_30

set_option maxHeartbeats 4000000 in
set_option maxRecDepth 100000 in
theorem pw_X7_isNameSign_0 {v : cwE} {bd : cBd} {p : Program} {l : Launch} {e : Env} {s : State} {m : MethodId} {args : Array Value} {below : List Frame} {meth : Method} {c : Code} {d : Nat} {rec : Nat → CS → List Int → CO} {σ0 σ' : CS} {kd : Nat} {r : Int} (hbd : bd = cw_bd v) (hR : cw_Rec l v d rec) (htr : l.stackTraces = false) (hd5 : 5 ≤ d) (B : cw_B v RX7 p s m args meth c cX7_isNameSign 1 (some .boolean)) (hnh : ∀ x ∈ c.exceptionTable.toList, False) : ∀ (σ : CS) (x0 : Int), inR x0 → pc_X7_isNameSign_0 rec bd σ x0 = some (σ', kd, r) → ∀ (H : Heap) (locs : List Loc) (cells slots : Nat) (ls : Array Slot), cw_W v s σ0 σ H locs cells slots → cl_has ls 1 [(0, .int (rI x0))] → W p l e (cw_rm v (d + 1) σ0) s m args below meth c H locs cells slots (cw_Z below v σ0 σ' kd (some (.int (rI r))) args s) (F0 m 0 ls []) := by
  subst hbd
  obtain ⟨hx, hb, hr, hml, hown, hts, hlk, hK⟩ := id B
  intro σ x0 ix0 hf H locs cells slots ls hw hl
  unfold pc_X7_isNameSign_0 at hf
  refine lv_iload_n hx hb dX7_isNameSign_0 rfl (lv_at hl.1 0 rfl) ?_
  obtain ⟨σ1, kv2, z3, hσ1, hf⟩ := cc_cl_s hf
  obtain ⟨iz3, mσ1⟩ := hR 118 σ [x0] σ1 kv2 z3 hσ1
  have mσ1 : cw_Met l v yX7_isLetter cX7_isLetter 1 (some .boolean) d [.int (rI x0)] σ σ1 kv2 (some (.int (rI z3))) := mσ1 ix0
  refine cw_cs (n := 1) (rest := []) (As := [.int (rI x0)]) B mσ1 cgo_yX7_isLetter cml_X7_168 cst_yX7_isLetter (by decide +kernel) (by decide) rfl hl.1.1 (Nat.le_of_ble_eq_true rfl) dX7_isNameSign_1 rfl hw (fun h0 H locs cells slots hw => ?_) (fun h0 H locs cells slots q ce hw h1 h2 h3 => ?_)
  · rcases hf with ⟨-, hf⟩ | ⟨hk, -⟩
    · skip
      refine rn_if_ne (a := z3) (tgt := 25) hx hb iz3 dX7_isNameSign_4 (by decide) (fun c4 => ?_) (fun c4 => ?_)
      · replace hf := cc_if_t hf c4
        refine lv_iconst (v := rI 1) hx hb dX7_isNameSign_25 rfl ?_
        refine lv_goto (tgt := 30) hx hb dX7_isNameSign_26 (by decide) ?_
        obtain ⟨h01, hf⟩ := cc_bo_s hf
        exact cw_retz B h01 hf hw dX7_isNameSign_30
      · replace hf := cc_if_f hf c4
        refine lv_iload_n hx hb dX7_isNameSign_7 rfl (lv_at hl.1 0 rfl) ?_
        refine lv_bipush (v := rI 48) hx hb dX7_isNameSign_8 (by decide +kernel) ?_
        refine rn_icmp_lt (a := x0) (b := 48) (tgt := 19) hx hb ix0 ⟨by decide, by decide⟩ dX7_isNameSign_10 (by decide) (fun c5 => ?_) (fun c5 => ?_)
        · replace hf := cc_if_t hf c5
          exact pw_X7_isNameSign_19 rfl hR htr hd5 B hnh σ1 x0 ix0 hf _ _ _ _ _ hw (cl_sub hl [0] rfl)
        · replace hf := cc_if_f hf c5
          refine lv_iload_n hx hb dX7_isNameSign_13 rfl (lv_at hl.1 0 rfl) ?_
          refine lv_bipush (v := rI 57) hx hb dX7_isNameSign_14 (by decide +kernel) ?_
          refine rn_icmp_le (a := x0) (b := 57) (tgt := 25) hx hb ix0 ⟨by decide, by decide⟩ dX7_isNameSign_16 (by decide) (fun c6 => ?_) (fun c6 => ?_)
          · replace hf := cc_if_t hf c6
            refine lv_iconst (v := rI 1) hx hb dX7_isNameSign_25 rfl ?_
            refine lv_goto (tgt := 30) hx hb dX7_isNameSign_26 (by decide) ?_
            obtain ⟨h01, hf⟩ := cc_bo_s hf
            exact cw_retz B h01 hf hw dX7_isNameSign_30
          · replace hf := cc_if_f hf c6
            exact pw_X7_isNameSign_19 rfl hR htr hd5 B hnh σ1 x0 ix0 hf _ _ _ _ _ hw (cl_sub hl [0] rfl)
    · exact absurd h0 hk
  · rcases hf with ⟨hk, -⟩ | ⟨-, hf⟩
    · exact absurd hk h0
    · cases hf
      exact cw_xout B hnh h0 hw h1 h2 h3

set_option maxHeartbeats 4000000 in
set_option maxRecDepth 100000 in
theorem pm_X7_isNameSign {v : cwE} {bd : cBd} {l : Launch} {d : Nat} {rec : Nat → CS → List Int → CO} (hbd : bd = cw_bd v) (hR : cw_Rec l v d rec) (htr : l.stackTraces = false) (hd5 : 5 ≤ d) (σ σ' : CS) (x0 : Int) (kd : Nat) (r : Int) (ix0 : inR x0) (hf : pc_X7_isNameSign_0 rec bd σ x0 = some (σ', kd, r)) : cw_Met l v yX7_isNameSign cX7_isNameSign 1 (some .boolean) (d + 1) [.int (rI x0)] σ σ' kd (some (.int (rI r))) := by
  refine cw_ofW (by decide +kernel) ?_
  intro p e s m args below meth c s₁ B hml hv
  obtain ⟨rfl, hM, hK⟩ := hv
  have hts := atoms_spec (ws := Cond.code yX7_isNameSign cX7_isNameSign 1 (some .boolean) :: cw_bw) B.pre
  have hB : cw_B v RX7 p s m _ meth c cX7_isNameSign 1 (some .boolean) := ⟨B.exec, B.bytes, B.returns, hml, findClass_of_methodNamed B.named, fun w h => hts w (List.mem_cons_of_mem _ h), B.notSynchronized, hK⟩
  have hnh := cc_nh B (hts _ List.mem_cons_self)
  rw [lg_entry_eq]
  obtain ⟨ls, hls, hl⟩ := cl_ent [.int (rI x0)] 1 (cl_1i cl_10) (Nat.le_of_ble_eq_true rfl)
  rw [hls]
  exact pw_X7_isNameSign_0 hbd hR htr hd5 hB hnh σ x0 ix0 hf _ _ _ _ _ (cw_W0 hM) (cl_sub hl [0] rfl)

set_option maxHeartbeats 4000000 in
set_option maxRecDepth 100000 in
theorem pw_X7_isWord_2 {v : cwE} {bd : cBd} {p : Program} {l : Launch} {e : Env} {s : State} {m : MethodId} {args : Array Value} {below : List Frame} {meth : Method} {c : Code} {d : Nat} {rec : Nat → CS → List Int → CO} {σ0 σ' : CS} {kd : Nat} {r : Int} (hbd : bd = cw_bd v) (hR : cw_Rec l v d rec) (htr : l.stackTraces = false) (hd5 : 5 ≤ d) (B : cw_B v RX7 p s m args meth c cX7_isWord 3 (some .boolean)) (hnh : ∀ x ∈ c.exceptionTable.toList, False) : ∀ (n : Nat) (σ : CS) (x0 x1 x2 : Int), inR x0 → inR x1 → inR x2 → pc_X7_isWord_2 rec bd n σ x0 x1 x2 = some (σ', kd, r) → ∀ (H : Heap) (locs : List Loc) (cells slots : Nat) (ls : Array Slot), cw_W v s σ0 σ H locs cells slots → cl_has ls 3 [(0, cR v x0), (1, .int (rI x1)), (2, .int (rI x2))] → W p l e (cw_rm v (d + 1) σ0) s m args below meth c H locs cells slots (cw_Z below v σ0 σ' kd (some (.int (rI r))) args s) (F0 m 2 ls []) := by
  subst hbd
  obtain ⟨hx, hb, hr, hml, hown, hts, hlk, hK⟩ := id B
  intro n
  induction n with
  | zero => intro σ x0 x1 x2 ix0 ix1 ix2 hf; cases hf
  | succ n ih =>
    intro σ x0 x1 x2 ix0 ix1 ix2 hf H locs cells slots ls hw hl
    unfold pc_X7_isWord_2 at hf
    refine lv_iload_n hx hb dX7_isWord_2 rfl (lv_at hl.1 2 rfl) ?_
    refine cl_aload_n hx hb dX7_isWord_3 rfl (lv_at hl.1 0 rfl) ?_
    obtain ⟨z1, ez1, iz1, rz1, hf⟩ := cc_g_s hw hf
    refine cw_get (val := .int (rI z1)) B hw rz1 ⟨by decide, by decide⟩ (by decide) cwi_8 cfl_X7_24 ez1 rfl dX7_isWord_4 ?_
    refine rn_icmp_ge (a := x2) (b := z1) (tgt := 40) hx hb ix2 iz1 dX7_isWord_7 (by decide) (fun c2 => ?_) (fun c2 => ?_)
    · replace hf := cc_if_t hf c2
      obtain ⟨z3, ez3, iz3, hf⟩ := cc_gs_s hf
      refine cw_ldcs B (cw_str_X7_192 hK) ez3 rfl dX7_isWord_40 ?_
      refine lv_iload_n hx hb dX7_isWord_42 rfl (lv_at hl.1 1 rfl) ?_
      refine cl_aload_n hx hb dX7_isWord_43 rfl (lv_at hl.1 0 rfl) ?_
      obtain ⟨z4, ez4, iz4, rz4, hf⟩ := cc_g_s hw hf
      refine cw_get (val := .int (rI z4)) B hw rz4 ⟨by decide, by decide⟩ (by decide) cwi_8 cfl_X7_24 ez4 rfl dX7_isWord_44 ?_
      obtain ⟨z5, ez5, iz5, hf⟩ := cc_ck_s hf
      refine rn_add hx hb ez5 dX7_isWord_47 ?_
      obtain ⟨z6, iz6, mz6, hf⟩ := cc_sc_s (l := l) (d := d) hd5 hK hf
      refine cw_cstr (n := 1) (rest := []) (As := [.int (rI z5)]) B mz6 cgj_charAt cjl_X7_194 cji_charAt cjs_charAt (by decide +kernel) (by decide) rfl hl.1.1 (Nat.le_of_ble_eq_true rfl) dX7_isWord_48 rfl hw ?_
      refine lv_bipush (v := rI 32) hx hb dX7_isWord_51 (by decide +kernel) ?_
      refine rn_icmp_ne (a := z6) (b := 32) (tgt := 60) hx hb iz6 ⟨by decide, by decide⟩ dX7_isWord_53 (by decide) (fun c7 => ?_) (fun c7 => ?_)
      · replace hf := cc_if_t hf c7
        refine lv_iconst (v := rI 0) hx hb dX7_isWord_60 rfl ?_
        obtain ⟨h01, hf⟩ := cc_bo_s hf
        exact cw_retz B h01 hf hw dX7_isWord_61
      · replace hf := cc_if_f hf c7
        refine lv_iconst (v := rI 1) hx hb dX7_isWord_56 rfl ?_
        refine lv_goto (tgt := 61) hx hb dX7_isWord_57 (by decide) ?_
        obtain ⟨h01, hf⟩ := cc_bo_s hf
        exact cw_retz B h01 hf hw dX7_isWord_61
    · replace hf := cc_if_f hf c2
      obtain ⟨z8, ez8, iz8, hf⟩ := cc_gs_s hf
      refine cw_ldcs B (cw_str_X7_192 hK) ez8 rfl dX7_isWord_10 ?_
      refine lv_iload_n hx hb dX7_isWord_12 rfl (lv_at hl.1 1 rfl) ?_
      refine lv_iload_n hx hb dX7_isWord_13 rfl (lv_at hl.1 2 rfl) ?_
      obtain ⟨z9, ez9, iz9, hf⟩ := cc_ck_s hf
      refine rn_add hx hb ez9 dX7_isWord_14 ?_
      obtain ⟨z10, iz10, mz10, hf⟩ := cc_sc_s (l := l) (d := d) hd5 hK hf
      refine cw_cstr (n := 1) (rest := []) (As := [.int (rI z9)]) B mz10 cgj_charAt cjl_X7_194 cji_charAt cjs_charAt (by decide +kernel) (by decide) rfl hl.1.1 (Nat.le_of_ble_eq_true rfl) dX7_isWord_15 rfl hw ?_
      refine cl_aload_n hx hb dX7_isWord_18 rfl (lv_at hl.1 0 rfl) ?_
      obtain ⟨z11, ez11, iz11, rz11, hf⟩ := cc_g_s hw hf
      refine cw_get (val := cR v z11) B hw rz11 ⟨by decide, by decide⟩ (by decide) cwi_8 cfl_X7_30 ez11 rfl dX7_isWord_19 ?_
      refine cl_aload_n hx hb dX7_isWord_22 rfl (lv_at hl.1 0 rfl) ?_
      obtain ⟨z12, ez12, iz12, rz12, hf⟩ := cc_g_s hw hf
      refine cw_get (val := .int (rI z12)) B hw rz12 ⟨by decide, by decide⟩ (by decide) cwi_8 cfl_X7_21 ez12 rfl dX7_isWord_23 ?_
      refine lv_iload_n hx hb dX7_isWord_26 rfl (lv_at hl.1 2 rfl) ?_
      obtain ⟨z13, ez13, iz13, hf⟩ := cc_ck_s hf
      refine rn_add hx hb ez13 dX7_isWord_27 ?_
      obtain ⟨z14, ez14, iz14, rz14, bz14, hf⟩ := cc_r_s hw hf
      refine cw_aldB B hw rz14 iz13 bz14 ez14 dX7_isWord_28 ?_
      refine rn_icmp_eq (a := z10) (b := z14) (tgt := 34) hx hb iz10 iz14 dX7_isWord_29 (by decide) (fun c15 => ?_) (fun c15 => ?_)
      · replace hf := cc_if_t hf c15
        obtain ⟨z16, ez16, iz16, hf⟩ := cc_ck_s hf
        refine cl_iinc (v := rI z16) (lv' := [(2, .int (rI z16)), (0, cR v x0), (1, .int (rI x1))]) hx hb dX7_isWord_34 hl (k := 2) rfl (by rw [ez16]; exact rI_add _ _) (by decide) rfl (fun ls hl => ?_)
        refine lv_goto (tgt := 2) hx hb dX7_isWord_37 (by decide) ?_
        exact ih σ x0 x1 z16 ix0 ix1 iz16 hf _ _ _ _ _ hw (cl_sub hl [1, 2, 0] rfl)
      · replace hf := cc_if_f hf c15
        refine lv_iconst (v := rI 0) hx hb dX7_isWord_32 rfl ?_
        obtain ⟨h01, hf⟩ := cc_bo_s hf
        exact cw_retz B h01 hf hw dX7_isWord_33

set_option maxHeartbeats 4000000 in
set_option maxRecDepth 100000 in
theorem pw_X7_isWord_0 {v : cwE} {bd : cBd} {p : Program} {l : Launch} {e : Env} {s : State} {m : MethodId} {args : Array Value} {below : List Frame} {meth : Method} {c : Code} {d : Nat} {rec : Nat → CS → List Int → CO} {σ0 σ' : CS} {kd : Nat} {r : Int} (hbd : bd = cw_bd v) (hR : cw_Rec l v d rec) (htr : l.stackTraces = false) (hd5 : 5 ≤ d) (B : cw_B v RX7 p s m args meth c cX7_isWord 3 (some .boolean)) (hnh : ∀ x ∈ c.exceptionTable.toList, False) : ∀ (σ : CS) (x0 x1 : Int), inR x0 → inR x1 → pc_X7_isWord_0 rec bd σ x0 x1 = some (σ', kd, r) → ∀ (H : Heap) (locs : List Loc) (cells slots : Nat) (ls : Array Slot), cw_W v s σ0 σ H locs cells slots → cl_has ls 3 [(0, cR v x0), (1, .int (rI x1))] → W p l e (cw_rm v (d + 1) σ0) s m args below meth c H locs cells slots (cw_Z below v σ0 σ' kd (some (.int (rI r))) args s) (F0 m 0 ls []) := by
  subst hbd
  obtain ⟨hx, hb, hr, hml, hown, hts, hlk, hK⟩ := id B
  intro σ x0 x1 ix0 ix1 hf H locs cells slots ls hw hl
  unfold pc_X7_isWord_0 at hf
  refine lv_iconst (v := rI 0) hx hb dX7_isWord_0 rfl ?_
  refine cl_istore_n (lv' := [(2, .int (rI 0)), (0, cR v x0), (1, .int (rI x1))]) hx hb dX7_isWord_1 rfl hl (by decide) rfl (fun ls hl => ?_)
  exact pw_X7_isWord_2 rfl hR htr hd5 B hnh 2000000 σ x0 x1 0 ix0 ix1 ⟨by decide, by decide⟩ hf _ _ _ _ _ hw (cl_sub hl [1, 2, 0] rfl)

set_option maxHeartbeats 4000000 in
set_option maxRecDepth 100000 in
theorem pm_X7_isWord {v : cwE} {bd : cBd} {l : Launch} {d : Nat} {rec : Nat → CS → List Int → CO} (hbd : bd = cw_bd v) (hR : cw_Rec l v d rec) (htr : l.stackTraces = false) (hd5 : 5 ≤ d) (σ σ' : CS) (x0 x1 : Int) (kd : Nat) (r : Int) (ix0 : inR x0) (ix1 : inR x1) (hf : pc_X7_isWord_0 rec bd σ x0 x1 = some (σ', kd, r)) : cw_Met l v yX7_isWord cX7_isWord 3 (some .boolean) (d + 1) [cR v x0, .int (rI x1)] σ σ' kd (some (.int (rI r))) := by
  refine cw_ofW (by decide +kernel) ?_
  intro p e s m args below meth c s₁ B hml hv
  obtain ⟨rfl, hM, hK⟩ := hv
  have hts := atoms_spec (ws := Cond.code yX7_isWord cX7_isWord 3 (some .boolean) :: cw_bw) B.pre
  have hB : cw_B v RX7 p s m _ meth c cX7_isWord 3 (some .boolean) := ⟨B.exec, B.bytes, B.returns, hml, findClass_of_methodNamed B.named, fun w h => hts w (List.mem_cons_of_mem _ h), B.notSynchronized, hK⟩
  have hnh := cc_nh B (hts _ List.mem_cons_self)
  rw [lg_entry_eq]
  obtain ⟨ls, hls, hl⟩ := cl_ent [cR v x0, .int (rI x1)] 3 (cl_1r (cl_1i cl_10)) (Nat.le_of_ble_eq_true rfl)
  rw [hls]
  exact pw_X7_isWord_0 hbd hR htr hd5 hB hnh σ x0 x1 ix0 ix1 hf _ _ _ _ _ (cw_W0 hM) (cl_sub hl [0, 1] rfl)

set_option maxHeartbeats 4000000 in
set_option maxRecDepth 100000 in
theorem pw_X7_nameStatement_73 {v : cwE} {bd : cBd} {p : Program} {l : Launch} {e : Env} {s : State} {m : MethodId} {args : Array Value} {below : List Frame} {meth : Method} {c : Code} {d : Nat} {rec : Nat → CS → List Int → CO} {σ0 σ' : CS} {kd : Nat} {r : Int} (hbd : bd = cw_bd v) (hR : cw_Rec l v d rec) (htr : l.stackTraces = false) (hd5 : 5 ≤ d) (B : cw_B v RX7 p s m args meth c cX7_nameStatement 5 (some (.object "PureHouse$Statement"))) (hnh : ∀ x ∈ c.exceptionTable.toList, False) : ∀ (σ : CS) (x1 x2 x3 x4 : Int), inR x1 → inR x2 → inR x3 → inR x4 → pc_X7_nameStatement_73 rec bd σ x1 x2 x3 x4 = some (σ', kd, r) → ∀ (H : Heap) (locs : List Loc) (cells slots : Nat) (ls : Array Slot), cw_W v s σ0 σ H locs cells slots → cl_has ls 5 [(1, .int (rI x1)), (2, cR v x2), (3, cR v x3), (4, cR v x4)] → W p l e (cw_rm v (d + 1) σ0) s m args below meth c H locs cells slots (cw_Z below v σ0 σ' kd (some (cR v r)) args s) (F0 m 73 ls []) := by
  subst hbd
  obtain ⟨hx, hb, hr, hml, hown, hts, hlk, hK⟩ := id B
  intro σ x1 x2 x3 x4 ix1 ix2 ix3 ix4 hf H locs cells slots ls hw hl
  unfold pc_X7_nameStatement_73 at hf
  obtain ⟨σ1, z2, eσ1, ez2, iz2, rσ1, hf⟩ := cc_n_s hf
  refine cw_new B hw cwt_10 rfl cwd_10 cnl_X7_81 cni_10 cnz_10 rσ1 eσ1 ez2 dX7_nameStatement_73 (fun H hw => ?_)
  refine lv_dup hx hb dX7_nameStatement_76 (cR_cat _) ?_
  refine lv_bipush (v := rI 7) hx hb dX7_nameStatement_77 (by decide +kernel) ?_
  refine lv_iload_n hx hb dX7_nameStatement_79 rfl (lv_at hl.1 0 rfl) ?_
  refine cl_aload_n hx hb dX7_nameStatement_80 rfl (lv_at hl.1 1 rfl) ?_
  refine cl_aload_n hx hb dX7_nameStatement_81 rfl (lv_at hl.1 2 rfl) ?_
  refine cl_aload hx hb dX7_nameStatement_82 (lv_at hl.1 3 rfl) ?_
  obtain ⟨qσ3, hf⟩ := cc_t_s hf
  obtain ⟨σ3, z5, hσ3, hf⟩ := cc_ci_s hf
  obtain ⟨iz5, mσ3⟩ := hR 137 σ1 [z2, 7, x1, x2, x3, x4] σ3 0 z5 hσ3
  have mσ3 : cw_Met l v yX9_init cX9_init 6 none d [cR v z2, .int (rI 7), .int (rI x1), cR v x2, cR v x3, cR v x4] σ1 σ3 0 none := mσ3 iz2 ⟨by decide, by decide⟩ ix1 ix2 ix3 ix4
  refine cw_ci (b := z2) (n := 5) (rest := [cR v z2]) (As := [.int (rI 7), .int (rI x1), cR v x2, cR v x3, cR v x4]) B mσ3 qσ3.1 rfl cgo_yX9_init cml_X7_90 cin_yX9_init (by decide +kernel) (by decide) rfl hl.1.1 (cl_cs (cl_1r cl_10) (Nat.le_of_ble_eq_true rfl)) dX7_nameStatement_84 rfl hw (fun H locs cells slots hw => ?_)
  exact cw_reta B hf hw dX7_nameStatement_87

set_option maxHeartbeats 4000000 in
set_option maxRecDepth 100000 in
theorem pw_X7_nameStatement_0 {v : cwE} {bd : cBd} {p : Program} {l : Launch} {e : Env} {s : State} {m : MethodId} {args : Array Value} {below : List Frame} {meth : Method} {c : Code} {d : Nat} {rec : Nat → CS → List Int → CO} {σ0 σ' : CS} {kd : Nat} {r : Int} (hbd : bd = cw_bd v) (hR : cw_Rec l v d rec) (htr : l.stackTraces = false) (hd5 : 5 ≤ d) (B : cw_B v RX7 p s m args meth c cX7_nameStatement 5 (some (.object "PureHouse$Statement"))) (hnh : ∀ x ∈ c.exceptionTable.toList, False) : ∀ (σ : CS) (x0 x1 : Int), inR x0 → inR x1 → pc_X7_nameStatement_0 rec bd σ x0 x1 = some (σ', kd, r) → ∀ (H : Heap) (locs : List Loc) (cells slots : Nat) (ls : Array Slot), cw_W v s σ0 σ H locs cells slots → cl_has ls 5 [(0, cR v x0), (1, .int (rI x1))] → W p l e (cw_rm v (d + 1) σ0) s m args below meth c H locs cells slots (cw_Z below v σ0 σ' kd (some (cR v r)) args s) (F0 m 0 ls []) := by
  subst hbd
  obtain ⟨hx, hb, hr, hml, hown, hts, hlk, hK⟩ := id B
  intro σ x0 x1 ix0 ix1 hf H locs cells slots ls hw hl
  unfold pc_X7_nameStatement_0 at hf
  refine cl_aload_n hx hb dX7_nameStatement_0 rfl (lv_at hl.1 0 rfl) ?_
  obtain ⟨qσ1, hf⟩ := cc_t_s hf
  obtain ⟨σ1, kv2, z3, hσ1, hf⟩ := cc_cl_s hf
  obtain ⟨iz3, mσ1⟩ := hR 130 σ [x0] σ1 kv2 z3 hσ1
  have mσ1 : cw_Met l v yX7_takeName cX7_takeName 2 (some (.object "PureHouse$Node")) d [cR v x0] σ σ1 kv2 (some (cR v z3)) := mσ1 ix0
  refine cw_cv (b := x0) (t := 8) (n := 0) (rest := []) (As := []) B mσ1 qσ1 ⟨by decide, by decide⟩ cgo_yX7_takeName cml_X7_86 cin_yX7_takeName cse_yX7_takeName (by decide +kernel) (by decide) rfl hl.1.1 (Nat.le_of_ble_eq_true rfl) dX7_nameStatement_1 rfl hw (fun h0 H locs cells slots hw => ?_) (fun h0 H locs cells slots q ce hw h1 h2 h3 => ?_)
  · rcases hf with ⟨-, hf⟩ | ⟨hk, -⟩
    · skip
      refine cl_astore_n (lv' := [(2, cR v z3), (0, cR v x0), (1, .int (rI x1))]) hx hb dX7_nameStatement_4 rfl hl (by decide) rfl (fun ls hl => ?_)
      refine cl_aload_n hx hb dX7_nameStatement_5 rfl (lv_at hl.1 1 rfl) ?_
      obtain ⟨z4, ez4, iz4, rz4, hf⟩ := cc_g_s hw hf
      refine cw_get (val := .int (rI z4)) B hw rz4 ⟨by decide, by decide⟩ (by decide) cwi_8 cfl_X7_18 ez4 rfl dX7_nameStatement_6 ?_
      refine lv_sipush (v := rI 258) hx hb dX7_nameStatement_9 (by decide +kernel) ?_
      refine rn_icmp_ne (a := z4) (b := 258) (tgt := 37) hx hb iz4 ⟨by decide, by decide⟩ dX7_nameStatement_12 (by decide) (fun c5 => ?_) (fun c5 => ?_)
      · replace hf := cc_if_t hf c5
        refine cl_aload_n hx hb dX7_nameStatement_37 rfl (lv_at hl.1 1 rfl) ?_
        refine lv_bipush (v := rI 58) hx hb dX7_nameStatement_38 (by decide +kernel) ?_
        obtain ⟨qσ6, hf⟩ := cc_t_s hf
        obtain ⟨σ6, kv7, z8, hσ6, hf⟩ := cc_cl_s hf
        obtain ⟨iz8, mσ6⟩ := hR 116 σ1 [x0, 58] σ6 kv7 z8 hσ6
        have mσ6 : cw_Met l v yX7_expect cX7_expect 2 none d [cR v x0, .int (rI 58)] σ1 σ6 kv7 none := mσ6 ix0 ⟨by decide, by decide⟩
        refine cw_cv (b := x0) (t := 8) (n := 1) (rest := []) (As := [.int (rI 58)]) B mσ6 qσ6 ⟨by decide, by decide⟩ cgo_yX7_expect cml_X7_73 cin_yX7_expect cse_yX7_expect (by decide +kernel) (by decide) rfl hl.1.1 (Nat.le_of_ble_eq_true rfl) dX7_nameStatement_40 rfl hw (fun h0 H locs cells slots hw => ?_) (fun h0 H locs cells slots q ce hw h1 h2 h3 => ?_)
        · rcases hf with ⟨-, hf⟩ | ⟨hk, -⟩
          · skip
            refine cl_aload_n hx hb dX7_nameStatement_43 rfl (lv_at hl.1 1 rfl) ?_
            refine lv_iconst (v := rI 0) hx hb dX7_nameStatement_44 rfl ?_
            obtain ⟨qσ9, hf⟩ := cc_t_s hf
            obtain ⟨σ9, kv10, z11, hσ9, hf⟩ := cc_cl_s hf
            obtain ⟨iz11, mσ9⟩ := hR 131 σ6 [x0, 0] σ9 kv10 z11 hσ9
            have mσ9 : cw_Met l v yX7_term cX7_term 5 (some (.object "PureHouse$Node")) d [cR v x0, .int (rI 0)] σ6 σ9 kv10 (some (cR v z11)) := mσ9 ix0 ⟨by decide, by decide⟩
            refine cw_cv (b := x0) (t := 8) (n := 1) (rest := []) (As := [.int (rI 0)]) B mσ9 qσ9 ⟨by decide, by decide⟩ cgo_yX7_term cml_X7_103 cin_yX7_term cse_yX7_term (by decide +kernel) (by decide) rfl hl.1.1 (Nat.le_of_ble_eq_true rfl) dX7_nameStatement_45 rfl hw (fun h0 H locs cells slots hw => ?_) (fun h0 H locs cells slots q ce hw h1 h2 h3 => ?_)
            · rcases hf with ⟨-, hf⟩ | ⟨hk, -⟩
              · skip
                refine cl_astore_n (lv' := [(3, cR v z11), (2, cR v z3), (0, cR v x0), (1, .int (rI x1))]) hx hb dX7_nameStatement_48 rfl hl (by decide) rfl (fun ls hl => ?_)
                refine cl_null (v := v) hx hb dX7_nameStatement_49 ?_
                refine cl_astore (lv' := [(4, cR v (-1)), (3, cR v z11), (2, cR v z3), (0, cR v x0), (1, .int (rI x1))]) hx hb dX7_nameStatement_50 hl (by decide) rfl (fun ls hl => ?_)
                refine cl_aload_n hx hb dX7_nameStatement_52 rfl (lv_at hl.1 3 rfl) ?_
                obtain ⟨z12, ez12, iz12, rz12, hf⟩ := cc_g_s hw hf
                refine cw_get (val := .int (rI z12)) B hw rz12 ⟨by decide, by decide⟩ (by decide) cwi_8 cfl_X7_18 ez12 rfl dX7_nameStatement_53 ?_
                refine lv_sipush (v := rI 258) hx hb dX7_nameStatement_56 (by decide +kernel) ?_
                refine rn_icmp_ne (a := z12) (b := 258) (tgt := 73) hx hb iz12 ⟨by decide, by decide⟩ dX7_nameStatement_59 (by decide) (fun c13 => ?_) (fun c13 => ?_)
                · replace hf := cc_if_t hf c13
                  exact pw_X7_nameStatement_73 rfl hR htr hd5 B hnh σ9 x1 z3 z11 (-1) ix1 iz3 iz11 ⟨by decide, by decide⟩ hf _ _ _ _ _ hw (cl_sub hl [4, 2, 1, 0] rfl)
                · replace hf := cc_if_f hf c13
                  refine cl_aload_n hx hb dX7_nameStatement_62 rfl (lv_at hl.1 3 rfl) ?_
                  obtain ⟨qσ14, hf⟩ := cc_t_s hf
                  obtain ⟨σ14, kv15, z16, hσ14, hf⟩ := cc_cl_s hf
                  obtain ⟨iz16, mσ14⟩ := hR 109 σ9 [x0] σ14 kv15 z16 hσ14
                  have mσ14 : cw_Met l v yX7_advance cX7_advance 1 none d [cR v x0] σ9 σ14 kv15 none := mσ14 ix0
                  refine cw_cv (b := x0) (t := 8) (n := 0) (rest := []) (As := []) B mσ14 qσ14 ⟨by decide, by decide⟩ cgo_yX7_advance cml_X7_60 cin_yX7_advance cse_yX7_advance (by decide +kernel) (by decide) rfl hl.1.1 (Nat.le_of_ble_eq_true rfl) dX7_nameStatement_63 rfl hw (fun h0 H locs cells slots hw => ?_) (fun h0 H locs cells slots q ce hw h1 h2 h3 => ?_)
                  · rcases hf with ⟨-, hf⟩ | ⟨hk, -⟩
                    · skip
                      refine cl_aload_n hx hb dX7_nameStatement_66 rfl (lv_at hl.1 3 rfl) ?_
                      refine lv_iconst (v := rI 0) hx hb dX7_nameStatement_67 rfl ?_
                      obtain ⟨qσ17, hf⟩ := cc_t_s hf
                      obtain ⟨σ17, kv18, z19, hσ17, hf⟩ := cc_cl_s hf
                      obtain ⟨iz19, mσ17⟩ := hR 131 σ14 [x0, 0] σ17 kv18 z19 hσ17
                      have mσ17 : cw_Met l v yX7_term cX7_term 5 (some (.object "PureHouse$Node")) d [cR v x0, .int (rI 0)] σ14 σ17 kv18 (some (cR v z19)) := mσ17 ix0 ⟨by decide, by decide⟩
                      refine cw_cv (b := x0) (t := 8) (n := 1) (rest := []) (As := [.int (rI 0)]) B mσ17 qσ17 ⟨by decide, by decide⟩ cgo_yX7_term cml_X7_103 cin_yX7_term cse_yX7_term (by decide +kernel) (by decide) rfl hl.1.1 (Nat.le_of_ble_eq_true rfl) dX7_nameStatement_68 rfl hw (fun h0 H locs cells slots hw => ?_) (fun h0 H locs cells slots q ce hw h1 h2 h3 => ?_)
                      · rcases hf with ⟨-, hf⟩ | ⟨hk, -⟩
                        · skip
                          refine cl_astore (lv' := [(4, cR v z19), (3, cR v z11), (2, cR v z3), (0, cR v x0), (1, .int (rI x1))]) hx hb dX7_nameStatement_71 hl (by decide) rfl (fun ls hl => ?_)
                          exact pw_X7_nameStatement_73 rfl hR htr hd5 B hnh σ17 x1 z3 z11 z19 ix1 iz3 iz11 iz19 hf _ _ _ _ _ hw (cl_sub hl [4, 2, 1, 0] rfl)
                        · exact absurd h0 hk
                      · rcases hf with ⟨hk, -⟩ | ⟨-, hf⟩
                        · exact absurd hk h0
                        · cases hf
                          exact cw_xout B hnh h0 hw h1 h2 h3
                    · exact absurd h0 hk
                  · rcases hf with ⟨hk, -⟩ | ⟨-, hf⟩
                    · exact absurd hk h0
                    · cases hf
                      exact cw_xout B hnh h0 hw h1 h2 h3
              · exact absurd h0 hk
            · rcases hf with ⟨hk, -⟩ | ⟨-, hf⟩
              · exact absurd hk h0
              · cases hf
                exact cw_xout B hnh h0 hw h1 h2 h3
          · exact absurd h0 hk
        · rcases hf with ⟨hk, -⟩ | ⟨-, hf⟩
          · exact absurd hk h0
          · cases hf
            exact cw_xout B hnh h0 hw h1 h2 h3
      · replace hf := cc_if_f hf c5
        refine cl_aload_n hx hb dX7_nameStatement_15 rfl (lv_at hl.1 1 rfl) ?_
        obtain ⟨qσ20, hf⟩ := cc_t_s hf
        obtain ⟨σ20, kv21, z22, hσ20, hf⟩ := cc_cl_s hf
        obtain ⟨iz22, mσ20⟩ := hR 109 σ1 [x0] σ20 kv21 z22 hσ20
        have mσ20 : cw_Met l v yX7_advance cX7_advance 1 none d [cR v x0] σ1 σ20 kv21 none := mσ20 ix0
        refine cw_cv (b := x0) (t := 8) (n := 0) (rest := []) (As := []) B mσ20 qσ20 ⟨by decide, by decide⟩ cgo_yX7_advance cml_X7_60 cin_yX7_advance cse_yX7_advance (by decide +kernel) (by decide) rfl hl.1.1 (Nat.le_of_ble_eq_true rfl) dX7_nameStatement_16 rfl hw (fun h0 H locs cells slots hw => ?_) (fun h0 H locs cells slots q ce hw h1 h2 h3 => ?_)
        · rcases hf with ⟨-, hf⟩ | ⟨hk, -⟩
          · skip
            obtain ⟨σ23, z24, eσ23, ez24, iz24, rσ23, hf⟩ := cc_n_s hf
            refine cw_new B hw cwt_10 rfl cwd_10 cnl_X7_81 cni_10 cnz_10 rσ23 eσ23 ez24 dX7_nameStatement_19 (fun H hw => ?_)
            refine lv_dup hx hb dX7_nameStatement_22 (cR_cat _) ?_
            refine lv_bipush (v := rI 8) hx hb dX7_nameStatement_23 (by decide +kernel) ?_
            refine lv_iload_n hx hb dX7_nameStatement_25 rfl (lv_at hl.1 2 rfl) ?_
            refine cl_aload_n hx hb dX7_nameStatement_26 rfl (lv_at hl.1 0 rfl) ?_
            refine cl_aload_n hx hb dX7_nameStatement_27 rfl (lv_at hl.1 1 rfl) ?_
            refine lv_iconst (v := rI 0) hx hb dX7_nameStatement_28 rfl ?_
            obtain ⟨qσ25, hf⟩ := cc_t_s hf
            obtain ⟨σ25, kv26, z27, hσ25, hf⟩ := cc_cl_s hf
            obtain ⟨iz27, mσ25⟩ := hR 131 σ23 [x0, 0] σ25 kv26 z27 hσ25
            have mσ25 : cw_Met l v yX7_term cX7_term 5 (some (.object "PureHouse$Node")) d [cR v x0, .int (rI 0)] σ23 σ25 kv26 (some (cR v z27)) := mσ25 ix0 ⟨by decide, by decide⟩
            refine cw_cv (b := x0) (t := 8) (n := 1) (rest := [cR v z3, .int (rI x1), .int (rI 8), cR v z24, cR v z24]) (As := [.int (rI 0)]) B mσ25 qσ25 ⟨by decide, by decide⟩ cgo_yX7_term cml_X7_103 cin_yX7_term cse_yX7_term (by decide +kernel) (by decide) rfl hl.1.1 (cl_cs (cl_1r (cl_1i (cl_1i (cl_1r (cl_1r cl_10))))) (Nat.le_of_ble_eq_true rfl)) dX7_nameStatement_29 rfl hw (fun h0 H locs cells slots hw => ?_) (fun h0 H locs cells slots q ce hw h1 h2 h3 => ?_)
            · rcases hf with ⟨-, hf⟩ | ⟨hk, -⟩
              · skip
                refine cl_null (v := v) hx hb dX7_nameStatement_32 ?_
                obtain ⟨qσ28, hf⟩ := cc_t_s hf
                obtain ⟨σ28, z30, hσ28, hf⟩ := cc_ci_s hf
                obtain ⟨iz30, mσ28⟩ := hR 137 σ25 [z24, 8, x1, z3, z27, (-1)] σ28 0 z30 hσ28
                have mσ28 : cw_Met l v yX9_init cX9_init 6 none d [cR v z24, .int (rI 8), .int (rI x1), cR v z3, cR v z27, cR v (-1)] σ25 σ28 0 none := mσ28 iz24 ⟨by decide, by decide⟩ ix1 iz3 iz27 ⟨by decide, by decide⟩
                refine cw_ci (b := z24) (n := 5) (rest := [cR v z24]) (As := [.int (rI 8), .int (rI x1), cR v z3, cR v z27, cR v (-1)]) B mσ28 qσ28.1 rfl cgo_yX9_init cml_X7_90 cin_yX9_init (by decide +kernel) (by decide) rfl hl.1.1 (cl_cs (cl_1r cl_10) (Nat.le_of_ble_eq_true rfl)) dX7_nameStatement_33 rfl hw (fun H locs cells slots hw => ?_)
                exact cw_reta B hf hw dX7_nameStatement_36
              · exact absurd h0 hk
            · rcases hf with ⟨hk, -⟩ | ⟨-, hf⟩
              · exact absurd hk h0
              · cases hf
                exact cw_xout B hnh h0 hw h1 h2 h3
          · exact absurd h0 hk
        · rcases hf with ⟨hk, -⟩ | ⟨-, hf⟩
          · exact absurd hk h0
          · cases hf
            exact cw_xout B hnh h0 hw h1 h2 h3
    · exact absurd h0 hk
  · rcases hf with ⟨hk, -⟩ | ⟨-, hf⟩
    · exact absurd hk h0
    · cases hf
      exact cw_xout B hnh h0 hw h1 h2 h3

set_option maxHeartbeats 4000000 in
set_option maxRecDepth 100000 in
theorem pm_X7_nameStatement {v : cwE} {bd : cBd} {l : Launch} {d : Nat} {rec : Nat → CS → List Int → CO} (hbd : bd = cw_bd v) (hR : cw_Rec l v d rec) (htr : l.stackTraces = false) (hd5 : 5 ≤ d) (σ σ' : CS) (x0 x1 : Int) (kd : Nat) (r : Int) (ix0 : inR x0) (ix1 : inR x1) (hf : pc_X7_nameStatement_0 rec bd σ x0 x1 = some (σ', kd, r)) : cw_Met l v yX7_nameStatement cX7_nameStatement 5 (some (.object "PureHouse$Statement")) (d + 1) [cR v x0, .int (rI x1)] σ σ' kd (some (cR v r)) := by
  refine cw_ofW (by decide +kernel) ?_
  intro p e s m args below meth c s₁ B hml hv
  obtain ⟨rfl, hM, hK⟩ := hv
  have hts := atoms_spec (ws := Cond.code yX7_nameStatement cX7_nameStatement 5 (some (.object "PureHouse$Statement")) :: cw_bw) B.pre
  have hB : cw_B v RX7 p s m _ meth c cX7_nameStatement 5 (some (.object "PureHouse$Statement")) := ⟨B.exec, B.bytes, B.returns, hml, findClass_of_methodNamed B.named, fun w h => hts w (List.mem_cons_of_mem _ h), B.notSynchronized, hK⟩
  have hnh := cc_nh B (hts _ List.mem_cons_self)
  rw [lg_entry_eq]
  obtain ⟨ls, hls, hl⟩ := cl_ent [cR v x0, .int (rI x1)] 5 (cl_1r (cl_1i cl_10)) (Nat.le_of_ble_eq_true rfl)
  rw [hls]
  exact pw_X7_nameStatement_0 hbd hR htr hd5 hB hnh σ x0 x1 ix0 ix1 hf _ _ _ _ _ (cw_W0 hM) (cl_sub hl [0, 1] rfl)

set_option maxHeartbeats 4000000 in
set_option maxRecDepth 100000 in
theorem pw_X7_nameToken_33 {v : cwE} {bd : cBd} {p : Program} {l : Launch} {e : Env} {s : State} {m : MethodId} {args : Array Value} {below : List Frame} {meth : Method} {c : Code} {d : Nat} {rec : Nat → CS → List Int → CO} {σ0 σ' : CS} {kd : Nat} {r : Int} (hbd : bd = cw_bd v) (hR : cw_Rec l v d rec) (htr : l.stackTraces = false) (hd5 : 5 ≤ d) (B : cw_B v RX7 p s m args meth c cX7_nameToken 3 (some .int)) (hnh : ∀ x ∈ c.exceptionTable.toList, False) : ∀ (σ : CS) (x0 x1 : Int), inR x0 → inR x1 → pc_X7_nameToken_33 rec bd σ x0 x1 = some (σ', kd, r) → ∀ (H : Heap) (locs : List Loc) (cells slots : Nat) (ls : Array Slot), cw_W v s σ0 σ H locs cells slots → cl_has ls 3 [(0, cR v x0), (1, .int (rI x1))] → W p l e (cw_rm v (d + 1) σ0) s m args below meth c H locs cells slots (cw_Z below v σ0 σ' kd (some (.int (rI r))) args s) (F0 m 33 ls []) := by
  subst hbd
  obtain ⟨hx, hb, hr, hml, hown, hts, hlk, hK⟩ := id B
  intro σ x0 x1 ix0 ix1 hf H locs cells slots ls hw hl
  unfold pc_X7_nameToken_33 at hf
  refine cl_aload_n hx hb dX7_nameToken_33 rfl (lv_at hl.1 0 rfl) ?_
  refine lv_iload_n hx hb dX7_nameToken_34 rfl (lv_at hl.1 1 rfl) ?_
  refine cl_aload_n hx hb dX7_nameToken_35 rfl (lv_at hl.1 0 rfl) ?_
  obtain ⟨z1, ez1, iz1, rz1, hf⟩ := cc_g_s hw hf
  refine cw_get (val := .int (rI z1)) B hw rz1 ⟨by decide, by decide⟩ (by decide) cwi_8 cfl_X7_21 ez1 rfl dX7_nameToken_36 ?_
  obtain ⟨z2, ez2, iz2, hf⟩ := cc_ck_s hf
  refine rn_sub hx hb ez2 dX7_nameToken_39 ?_
  obtain ⟨σ3, eσ3, rσ3, hf⟩ := cc_p_s hf
  refine cw_put B hw rσ3 cwt_8 (by decide) rfl cfl_X7_24 iz2 eσ3 rfl (cw_fv_n rfl rfl) dX7_nameToken_40 (fun H locs hw => ?_)
  refine cl_aload_n hx hb dX7_nameToken_43 rfl (lv_at hl.1 0 rfl) ?_
  obtain ⟨qσ4, hf⟩ := cc_t_s hf
  obtain ⟨σ4, kv5, z6, hσ4, hf⟩ := cc_cl_s hf
  obtain ⟨iz6, mσ4⟩ := hR 134 σ3 [x0] σ4 kv5 z6 hσ4
  have mσ4 : cw_Met l v yX7_wordNumber cX7_wordNumber 2 (some .int) d [cR v x0] σ3 σ4 kv5 (some (.int (rI z6))) := mσ4 ix0
  refine cw_cv (b := x0) (t := 8) (n := 0) (rest := []) (As := []) B mσ4 qσ4 ⟨by decide, by decide⟩ cgo_yX7_wordNumber cml_X7_184 cin_yX7_wordNumber cse_yX7_wordNumber (by decide +kernel) (by decide) rfl hl.1.1 (Nat.le_of_ble_eq_true rfl) dX7_nameToken_44 rfl hw (fun h0 H locs cells slots hw => ?_) (fun h0 H locs cells slots q ce hw h1 h2 h3 => ?_)
  · rcases hf with ⟨-, hf⟩ | ⟨hk, -⟩
    · skip
      refine cl_istore_n (lv' := [(2, .int (rI z6)), (0, cR v x0), (1, .int (rI x1))]) hx hb dX7_nameToken_47 rfl hl (by decide) rfl (fun ls hl => ?_)
      refine lv_iload_n hx hb dX7_nameToken_48 rfl (lv_at hl.1 0 rfl) ?_
      refine lv_iconst (v := rI (-1)) hx hb dX7_nameToken_49 rfl ?_
      refine rn_icmp_eq (a := z6) (b := (-1)) (tgt := 55) hx hb iz6 ⟨by decide, by decide⟩ dX7_nameToken_50 (by decide) (fun c7 => ?_) (fun c7 => ?_)
      · replace hf := cc_if_t hf c7
        refine cl_aload_n hx hb dX7_nameToken_55 rfl (lv_at hl.1 1 rfl) ?_
        obtain ⟨z8, ez8, iz8, rz8, hf⟩ := cc_g_s hw hf
        refine cw_get (val := .int (rI z8)) B hw rz8 ⟨by decide, by decide⟩ (by decide) cwi_8 cfl_X7_24 ez8 rfl dX7_nameToken_56 ?_
        refine lv_bipush (v := rI 12) hx hb dX7_nameToken_59 (by decide +kernel) ?_
        refine rn_icmp_le (a := z8) (b := 12) (tgt := 70) hx hb iz8 ⟨by decide, by decide⟩ dX7_nameToken_61 (by decide) (fun c9 => ?_) (fun c9 => ?_)
        · replace hf := cc_if_t hf c9
          refine lv_sipush (v := rI 256) hx hb dX7_nameToken_70 (by decide +kernel) ?_
          exact cw_reti B hf hw dX7_nameToken_73
        · replace hf := cc_if_f hf c9
          refine lv_sipush (v := rI 257) hx hb dX7_nameToken_64 (by decide +kernel) ?_
          refine lv_goto (tgt := 73) hx hb dX7_nameToken_67 (by decide) ?_
          exact cw_reti B hf hw dX7_nameToken_73
      · replace hf := cc_if_f hf c7
        refine lv_iload_n hx hb dX7_nameToken_53 rfl (lv_at hl.1 0 rfl) ?_
        exact cw_reti B hf hw dX7_nameToken_54
    · exact absurd h0 hk
  · rcases hf with ⟨hk, -⟩ | ⟨-, hf⟩
    · exact absurd hk h0
    · cases hf
      exact cw_xout B hnh h0 hw h1 h2 h3

set_option maxHeartbeats 4000000 in
set_option maxRecDepth 100000 in
theorem pw_X7_nameToken_7 {v : cwE} {bd : cBd} {p : Program} {l : Launch} {e : Env} {s : State} {m : MethodId} {args : Array Value} {below : List Frame} {meth : Method} {c : Code} {d : Nat} {rec : Nat → CS → List Int → CO} {σ0 σ' : CS} {kd : Nat} {r : Int} (hbd : bd = cw_bd v) (hR : cw_Rec l v d rec) (htr : l.stackTraces = false) (hd5 : 5 ≤ d) (B : cw_B v RX7 p s m args meth c cX7_nameToken 3 (some .int)) (hnh : ∀ x ∈ c.exceptionTable.toList, False) : ∀ (n : Nat) (σ : CS) (x0 x1 : Int), inR x0 → inR x1 → pc_X7_nameToken_7 rec bd n σ x0 x1 = some (σ', kd, r) → ∀ (H : Heap) (locs : List Loc) (cells slots : Nat) (ls : Array Slot), cw_W v s σ0 σ H locs cells slots → cl_has ls 3 [(0, cR v x0), (1, .int (rI x1))] → W p l e (cw_rm v (d + 1) σ0) s m args below meth c H locs cells slots (cw_Z below v σ0 σ' kd (some (.int (rI r))) args s) (F0 m 7 ls []) := by
  subst hbd
  obtain ⟨hx, hb, hr, hml, hown, hts, hlk, hK⟩ := id B
  intro n
  induction n with
  | zero => intro σ x0 x1 ix0 ix1 hf; cases hf
  | succ n ih =>
    intro σ x0 x1 ix0 ix1 hf H locs cells slots ls hw hl
    unfold pc_X7_nameToken_7 at hf
    refine lv_iload_n hx hb dX7_nameToken_7 rfl (lv_at hl.1 1 rfl) ?_
    refine cl_aload_n hx hb dX7_nameToken_8 rfl (lv_at hl.1 0 rfl) ?_
    obtain ⟨z1, ez1, iz1, rz1, hf⟩ := cc_g_s hw hf
    refine cw_get (val := .int (rI z1)) B hw rz1 ⟨by decide, by decide⟩ (by decide) cwi_8 cfl_X7_9 ez1 rfl dX7_nameToken_9 ?_
    refine rn_icmp_ge (a := x1) (b := z1) (tgt := 33) hx hb ix1 iz1 dX7_nameToken_12 (by decide) (fun c2 => ?_) (fun c2 => ?_)
    · replace hf := cc_if_t hf c2
      exact pw_X7_nameToken_33 rfl hR htr hd5 B hnh σ x0 x1 ix0 ix1 hf _ _ _ _ _ hw (cl_sub hl [0, 1] rfl)
    · replace hf := cc_if_f hf c2
      refine cl_aload_n hx hb dX7_nameToken_15 rfl (lv_at hl.1 0 rfl) ?_
      obtain ⟨z3, ez3, iz3, rz3, hf⟩ := cc_g_s hw hf
      refine cw_get (val := cR v z3) B hw rz3 ⟨by decide, by decide⟩ (by decide) cwi_8 cfl_X7_30 ez3 rfl dX7_nameToken_16 ?_
      refine lv_iload_n hx hb dX7_nameToken_19 rfl (lv_at hl.1 1 rfl) ?_
      obtain ⟨z4, ez4, iz4, rz4, bz4, hf⟩ := cc_r_s hw hf
      refine cw_aldB B hw rz4 ix1 bz4 ez4 dX7_nameToken_20 ?_
      obtain ⟨σ5, kv6, z7, hσ5, hf⟩ := cc_cl_s hf
      obtain ⟨iz7, mσ5⟩ := hR 119 σ [z4] σ5 kv6 z7 hσ5
      have mσ5 : cw_Met l v yX7_isNameSign cX7_isNameSign 1 (some .boolean) d [.int (rI z4)] σ σ5 kv6 (some (.int (rI z7))) := mσ5 iz4
      refine cw_cs (n := 1) (rest := []) (As := [.int (rI z4)]) B mσ5 cgo_yX7_isNameSign cml_X7_181 cst_yX7_isNameSign (by decide +kernel) (by decide) rfl hl.1.1 (Nat.le_of_ble_eq_true rfl) dX7_nameToken_21 rfl hw (fun h0 H locs cells slots hw => ?_) (fun h0 H locs cells slots q ce hw h1 h2 h3 => ?_)
      · rcases hf with ⟨-, hf⟩ | ⟨hk, -⟩
        · skip
          refine rn_if_eq (a := z7) (tgt := 33) hx hb iz7 dX7_nameToken_24 (by decide) (fun c8 => ?_) (fun c8 => ?_)
          · replace hf := cc_if_t hf c8
            exact pw_X7_nameToken_33 rfl hR htr hd5 B hnh σ5 x0 x1 ix0 ix1 hf _ _ _ _ _ hw (cl_sub hl [0, 1] rfl)
          · replace hf := cc_if_f hf c8
            obtain ⟨z9, ez9, iz9, hf⟩ := cc_ck_s hf
            refine cl_iinc (v := rI z9) (lv' := [(1, .int (rI z9)), (0, cR v x0)]) hx hb dX7_nameToken_27 hl (k := 1) rfl (by rw [ez9]; exact rI_add _ _) (by decide) rfl (fun ls hl => ?_)
            refine lv_goto (tgt := 7) hx hb dX7_nameToken_30 (by decide) ?_
            exact ih σ5 x0 z9 ix0 iz9 hf _ _ _ _ _ hw (cl_sub hl [1, 0] rfl)
        · exact absurd h0 hk
      · rcases hf with ⟨hk, -⟩ | ⟨-, hf⟩
        · exact absurd hk h0
        · cases hf
          exact cw_xout B hnh h0 hw h1 h2 h3

set_option maxHeartbeats 4000000 in
set_option maxRecDepth 100000 in
theorem pw_X7_nameToken_0 {v : cwE} {bd : cBd} {p : Program} {l : Launch} {e : Env} {s : State} {m : MethodId} {args : Array Value} {below : List Frame} {meth : Method} {c : Code} {d : Nat} {rec : Nat → CS → List Int → CO} {σ0 σ' : CS} {kd : Nat} {r : Int} (hbd : bd = cw_bd v) (hR : cw_Rec l v d rec) (htr : l.stackTraces = false) (hd5 : 5 ≤ d) (B : cw_B v RX7 p s m args meth c cX7_nameToken 3 (some .int)) (hnh : ∀ x ∈ c.exceptionTable.toList, False) : ∀ (σ : CS) (x0 : Int), inR x0 → pc_X7_nameToken_0 rec bd σ x0 = some (σ', kd, r) → ∀ (H : Heap) (locs : List Loc) (cells slots : Nat) (ls : Array Slot), cw_W v s σ0 σ H locs cells slots → cl_has ls 3 [(0, cR v x0)] → W p l e (cw_rm v (d + 1) σ0) s m args below meth c H locs cells slots (cw_Z below v σ0 σ' kd (some (.int (rI r))) args s) (F0 m 0 ls []) := by
  subst hbd
  obtain ⟨hx, hb, hr, hml, hown, hts, hlk, hK⟩ := id B
  intro σ x0 ix0 hf H locs cells slots ls hw hl
  unfold pc_X7_nameToken_0 at hf
  refine cl_aload_n hx hb dX7_nameToken_0 rfl (lv_at hl.1 0 rfl) ?_
  obtain ⟨z1, ez1, iz1, rz1, hf⟩ := cc_g_s hw hf
  refine cw_get (val := .int (rI z1)) B hw rz1 ⟨by decide, by decide⟩ (by decide) cwi_8 cfl_X7_21 ez1 rfl dX7_nameToken_1 ?_
  refine lv_iconst (v := rI 1) hx hb dX7_nameToken_4 rfl ?_
  obtain ⟨z2, ez2, iz2, hf⟩ := cc_ck_s hf
  refine rn_add hx hb ez2 dX7_nameToken_5 ?_
  refine cl_istore_n (lv' := [(1, .int (rI z2)), (0, cR v x0)]) hx hb dX7_nameToken_6 rfl hl (by decide) rfl (fun ls hl => ?_)
  exact pw_X7_nameToken_7 rfl hR htr hd5 B hnh 2000000 σ x0 z2 ix0 iz2 hf _ _ _ _ _ hw (cl_sub hl [1, 0] rfl)

set_option maxHeartbeats 4000000 in
set_option maxRecDepth 100000 in
theorem pm_X7_nameToken {v : cwE} {bd : cBd} {l : Launch} {d : Nat} {rec : Nat → CS → List Int → CO} (hbd : bd = cw_bd v) (hR : cw_Rec l v d rec) (htr : l.stackTraces = false) (hd5 : 5 ≤ d) (σ σ' : CS) (x0 : Int) (kd : Nat) (r : Int) (ix0 : inR x0) (hf : pc_X7_nameToken_0 rec bd σ x0 = some (σ', kd, r)) : cw_Met l v yX7_nameToken cX7_nameToken 3 (some .int) (d + 1) [cR v x0] σ σ' kd (some (.int (rI r))) := by
  refine cw_ofW (by decide +kernel) ?_
  intro p e s m args below meth c s₁ B hml hv
  obtain ⟨rfl, hM, hK⟩ := hv
  have hts := atoms_spec (ws := Cond.code yX7_nameToken cX7_nameToken 3 (some .int) :: cw_bw) B.pre
  have hB : cw_B v RX7 p s m _ meth c cX7_nameToken 3 (some .int) := ⟨B.exec, B.bytes, B.returns, hml, findClass_of_methodNamed B.named, fun w h => hts w (List.mem_cons_of_mem _ h), B.notSynchronized, hK⟩
  have hnh := cc_nh B (hts _ List.mem_cons_self)
  rw [lg_entry_eq]
  obtain ⟨ls, hls, hl⟩ := cl_ent [cR v x0] 3 (cl_1r cl_10) (Nat.le_of_ble_eq_true rfl)
  rw [hls]
  exact pw_X7_nameToken_0 hbd hR htr hd5 hB hnh σ x0 ix0 hf _ _ _ _ _ (cw_W0 hM) (cl_sub hl [0] rfl)

set_option maxHeartbeats 4000000 in
set_option maxRecDepth 100000 in
theorem pw_X7_newId_0 {v : cwE} {bd : cBd} {p : Program} {l : Launch} {e : Env} {s : State} {m : MethodId} {args : Array Value} {below : List Frame} {meth : Method} {c : Code} {d : Nat} {rec : Nat → CS → List Int → CO} {σ0 σ' : CS} {kd : Nat} {r : Int} (hbd : bd = cw_bd v) (hR : cw_Rec l v d rec) (htr : l.stackTraces = false) (hd5 : 5 ≤ d) (B : cw_B v RX7 p s m args meth c cX7_newId 1 (some .int)) (hnh : ∀ x ∈ c.exceptionTable.toList, False) : ∀ (σ : CS) (x0 : Int), inR x0 → pc_X7_newId_0 rec bd σ x0 = some (σ', kd, r) → ∀ (H : Heap) (locs : List Loc) (cells slots : Nat) (ls : Array Slot), cw_W v s σ0 σ H locs cells slots → cl_has ls 1 [(0, cR v x0)] → W p l e (cw_rm v (d + 1) σ0) s m args below meth c H locs cells slots (cw_Z below v σ0 σ' kd (some (.int (rI r))) args s) (F0 m 0 ls []) := by
  subst hbd
  obtain ⟨hx, hb, hr, hml, hown, hts, hlk, hK⟩ := id B
  intro σ x0 ix0 hf H locs cells slots ls hw hl
  unfold pc_X7_newId_0 at hf
  refine cl_aload_n hx hb dX7_newId_0 rfl (lv_at hl.1 0 rfl) ?_
  refine lv_dup hx hb dX7_newId_1 (cR_cat _) ?_
  obtain ⟨z1, ez1, iz1, rz1, hf⟩ := cc_g_s hw hf
  refine cw_get (val := .int (rI z1)) B hw rz1 ⟨by decide, by decide⟩ (by decide) cwi_8 cfl_X7_27 ez1 rfl dX7_newId_2 ?_
  refine lv_iconst (v := rI 1) hx hb dX7_newId_5 rfl ?_
  obtain ⟨z2, ez2, iz2, hf⟩ := cc_ck_s hf
  refine rn_add hx hb ez2 dX7_newId_6 ?_
  obtain ⟨σ3, eσ3, rσ3, hf⟩ := cc_p_s hf
  refine cw_put B hw rσ3 cwt_8 (by decide) rfl cfl_X7_27 iz2 eσ3 rfl (cw_fv_n rfl rfl) dX7_newId_7 (fun H locs hw => ?_)
  refine cl_aload_n hx hb dX7_newId_10 rfl (lv_at hl.1 0 rfl) ?_
  obtain ⟨z4, ez4, iz4, rz4, hf⟩ := cc_g_s hw hf
  refine cw_get (val := .int (rI z4)) B hw rz4 ⟨by decide, by decide⟩ (by decide) cwi_8 cfl_X7_27 ez4 rfl dX7_newId_11 ?_
  exact cw_reti B hf hw dX7_newId_14

set_option maxHeartbeats 4000000 in
set_option maxRecDepth 100000 in
theorem pm_X7_newId {v : cwE} {bd : cBd} {l : Launch} {d : Nat} {rec : Nat → CS → List Int → CO} (hbd : bd = cw_bd v) (hR : cw_Rec l v d rec) (htr : l.stackTraces = false) (hd5 : 5 ≤ d) (σ σ' : CS) (x0 : Int) (kd : Nat) (r : Int) (ix0 : inR x0) (hf : pc_X7_newId_0 rec bd σ x0 = some (σ', kd, r)) : cw_Met l v yX7_newId cX7_newId 1 (some .int) (d + 1) [cR v x0] σ σ' kd (some (.int (rI r))) := by
  refine cw_ofW (by decide +kernel) ?_
  intro p e s m args below meth c s₁ B hml hv
  obtain ⟨rfl, hM, hK⟩ := hv
  have hts := atoms_spec (ws := Cond.code yX7_newId cX7_newId 1 (some .int) :: cw_bw) B.pre
  have hB : cw_B v RX7 p s m _ meth c cX7_newId 1 (some .int) := ⟨B.exec, B.bytes, B.returns, hml, findClass_of_methodNamed B.named, fun w h => hts w (List.mem_cons_of_mem _ h), B.notSynchronized, hK⟩
  have hnh := cc_nh B (hts _ List.mem_cons_self)
  rw [lg_entry_eq]
  obtain ⟨ls, hls, hl⟩ := cl_ent [cR v x0] 1 (cl_1r cl_10) (Nat.le_of_ble_eq_true rfl)
  rw [hls]
  exact pw_X7_newId_0 hbd hR htr hd5 hB hnh σ x0 ix0 hf _ _ _ _ _ (cw_W0 hM) (cl_sub hl [0] rfl)

set_option maxHeartbeats 4000000 in
set_option maxRecDepth 100000 in
theorem pw_X7_readText_36 {v : cwE} {bd : cBd} {p : Program} {l : Launch} {e : Env} {s : State} {m : MethodId} {args : Array Value} {below : List Frame} {meth : Method} {c : Code} {d : Nat} {rec : Nat → CS → List Int → CO} {σ0 σ' : CS} {kd : Nat} {r : Int} (hbd : bd = cw_bd v) (hR : cw_Rec l v d rec) (htr : l.stackTraces = false) (hd5 : 5 ≤ d) (B : cw_B v RX7 p s m args meth c cX7_readText 4 (some (.object "java/util/List"))) (hnh : ∀ x ∈ c.exceptionTable.toList, False) : ∀ (n : Nat) (σ : CS) (x0 x2 x3 : Int), inR x0 → inR x2 → inR x3 → pc_X7_readText_36 rec bd n σ x0 x2 x3 = some (σ', kd, r) → ∀ (H : Heap) (locs : List Loc) (cells slots : Nat) (ls : Array Slot), cw_W v s σ0 σ H locs cells slots → cl_has ls 4 [(0, cR v x0), (2, cR v x2), (3, .int (rI x3))] → W p l e (cw_rm v (d + 1) σ0) s m args below meth c H locs cells slots (cw_Z below v σ0 σ' kd (some (cR v r)) args s) (F0 m 36 ls []) := by
  subst hbd
  obtain ⟨hx, hb, hr, hml, hown, hts, hlk, hK⟩ := id B
  intro n
  induction n with
  | zero => intro σ x0 x2 x3 ix0 ix2 ix3 hf; cases hf
  | succ n ih =>
    intro σ x0 x2 x3 ix0 ix2 ix3 hf H locs cells slots ls hw hl
    unfold pc_X7_readText_36 at hf
    refine lv_iload_n hx hb dX7_readText_36 rfl (lv_at hl.1 2 rfl) ?_
    refine cl_aload_n hx hb dX7_readText_37 rfl (lv_at hl.1 0 rfl) ?_
    obtain ⟨z1, ez1, iz1, rz1, hf⟩ := cc_g_s hw hf
    refine cw_get (val := .int (rI z1)) B hw rz1 ⟨by decide, by decide⟩ (by decide) cwi_8 cfl_X7_9 ez1 rfl dX7_readText_38 ?_
    refine rn_icmp_ge (a := x3) (b := z1) (tgt := 77) hx hb ix3 iz1 dX7_readText_41 (by decide) (fun c2 => ?_) (fun c2 => ?_)
    · replace hf := cc_if_t hf c2
      refine cl_aload_n hx hb dX7_readText_77 rfl (lv_at hl.1 1 rfl) ?_
      exact cw_reta B hf hw dX7_readText_78
    · replace hf := cc_if_f hf c2
      refine cl_aload_n hx hb dX7_readText_44 rfl (lv_at hl.1 0 rfl) ?_
      obtain ⟨z3, ez3, iz3, rz3, hf⟩ := cc_g_s hw hf
      refine cw_get (val := .int (rI z3)) B hw rz3 ⟨by decide, by decide⟩ (by decide) cwi_8 cfl_X7_18 ez3 rfl dX7_readText_45 ?_
      refine lv_sipush (v := rI 261) hx hb dX7_readText_48 (by decide +kernel) ?_
      refine rn_icmp_eq (a := z3) (b := 261) (tgt := 77) hx hb iz3 ⟨by decide, by decide⟩ dX7_readText_51 (by decide) (fun c4 => ?_) (fun c4 => ?_)
      · replace hf := cc_if_t hf c4
        refine cl_aload_n hx hb dX7_readText_77 rfl (lv_at hl.1 1 rfl) ?_
        exact cw_reta B hf hw dX7_readText_78
      · replace hf := cc_if_f hf c4
        refine cl_aload_n hx hb dX7_readText_54 rfl (lv_at hl.1 1 rfl) ?_
        refine cl_aload_n hx hb dX7_readText_55 rfl (lv_at hl.1 0 rfl) ?_
        obtain ⟨qσ5, hf⟩ := cc_t_s hf
        obtain ⟨σ5, kv6, z7, hσ5, hf⟩ := cc_cl_s hf
        obtain ⟨iz7, mσ5⟩ := hR 129 σ [x0] σ5 kv6 z7 hσ5
        have mσ5 : cw_Met l v yX7_statement cX7_statement 3 (some (.object "PureHouse$Statement")) d [cR v x0] σ σ5 kv6 (some (cR v z7)) := mσ5 ix0
        refine cw_cv (b := x0) (t := 8) (n := 0) (rest := [cR v x2]) (As := []) B mσ5 qσ5 ⟨by decide, by decide⟩ cgo_yX7_statement cml_X7_63 cin_yX7_statement cse_yX7_statement (by decide +kernel) (by decide) rfl hl.1.1 (cl_cs (cl_1r cl_10) (Nat.le_of_ble_eq_true rfl)) dX7_readText_56 rfl hw (fun h0 H locs cells slots hw => ?_) (fun h0 H locs cells slots q ce hw h1 h2 h3 => ?_)
        · rcases hf with ⟨-, hf⟩ | ⟨hk, -⟩
          · skip
            obtain ⟨qσ8, hf⟩ := cc_t_s hf
            obtain ⟨σ8, z10, hσ8, hf⟩ := cc_cn_s hf
            obtain ⟨iz10, mσ8⟩ := hR 7 σ5 [x2, z7] σ8 0 z10 hσ8
            have mσ8 : cw_Met l v yJx4a65c_add_9ea2d cJx4a65c_add_9ea2d 2 (some .boolean) d [cR v x2, cR v z7] σ5 σ8 0 (some (.int (rI z10))) := mσ8 ix2 iz7
            refine cw_cf (b := x2) (n := 1) (rest := []) (As := [cR v z7]) B mσ8 qσ8 cgo_yJx4a65c_add_9ea2d cfm_X7_67 cin_yJx4a65c_add_9ea2d cfs_yJx4a65c_add_9ea2d (cw_face_add hK) (by decide +kernel) (by decide) rfl hl.1.1 (Nat.le_of_ble_eq_true rfl) dX7_readText_59 rfl hw (fun H locs cells slots hw => ?_)
            refine lv_pop hx hb dX7_readText_64 rfl ?_
            refine cl_aload_n hx hb dX7_readText_65 rfl (lv_at hl.1 0 rfl) ?_
            refine lv_bipush (v := rI 59) hx hb dX7_readText_66 (by decide +kernel) ?_
            obtain ⟨qσ11, hf⟩ := cc_t_s hf
            obtain ⟨σ11, kv12, z13, hσ11, hf⟩ := cc_cl_s hf
            obtain ⟨iz13, mσ11⟩ := hR 116 σ8 [x0, 59] σ11 kv12 z13 hσ11
            have mσ11 : cw_Met l v yX7_expect cX7_expect 2 none d [cR v x0, .int (rI 59)] σ8 σ11 kv12 none := mσ11 ix0 ⟨by decide, by decide⟩
            refine cw_cv (b := x0) (t := 8) (n := 1) (rest := []) (As := [.int (rI 59)]) B mσ11 qσ11 ⟨by decide, by decide⟩ cgo_yX7_expect cml_X7_73 cin_yX7_expect cse_yX7_expect (by decide +kernel) (by decide) rfl hl.1.1 (Nat.le_of_ble_eq_true rfl) dX7_readText_68 rfl hw (fun h0 H locs cells slots hw => ?_) (fun h0 H locs cells slots q ce hw h1 h2 h3 => ?_)
            · rcases hf with ⟨-, hf⟩ | ⟨hk, -⟩
              · skip
                obtain ⟨z14, ez14, iz14, hf⟩ := cc_ck_s hf
                refine cl_iinc (v := rI z14) (lv' := [(3, .int (rI z14)), (0, cR v x0), (2, cR v x2)]) hx hb dX7_readText_71 hl (k := 2) rfl (by rw [ez14]; exact rI_add _ _) (by decide) rfl (fun ls hl => ?_)
                refine lv_goto (tgt := 36) hx hb dX7_readText_74 (by decide) ?_
                exact ih σ11 x0 x2 z14 ix0 ix2 iz14 hf _ _ _ _ _ hw (cl_sub hl [1, 2, 0] rfl)
              · exact absurd h0 hk
            · rcases hf with ⟨hk, -⟩ | ⟨-, hf⟩
              · exact absurd hk h0
              · cases hf
                exact cw_xout B hnh h0 hw h1 h2 h3
          · exact absurd h0 hk
        · rcases hf with ⟨hk, -⟩ | ⟨-, hf⟩
          · exact absurd hk h0
          · cases hf
            exact cw_xout B hnh h0 hw h1 h2 h3

set_option maxHeartbeats 4000000 in
set_option maxRecDepth 100000 in
theorem pw_X7_readText_0 {v : cwE} {bd : cBd} {p : Program} {l : Launch} {e : Env} {s : State} {m : MethodId} {args : Array Value} {below : List Frame} {meth : Method} {c : Code} {d : Nat} {rec : Nat → CS → List Int → CO} {σ0 σ' : CS} {kd : Nat} {r : Int} (hbd : bd = cw_bd v) (hR : cw_Rec l v d rec) (htr : l.stackTraces = false) (hd5 : 5 ≤ d) (B : cw_B v RX7 p s m args meth c cX7_readText 4 (some (.object "java/util/List"))) (hnh : ∀ x ∈ c.exceptionTable.toList, False) : ∀ (σ : CS) (x0 x1 : Int), inR x0 → inR x1 → pc_X7_readText_0 rec bd σ x0 x1 = some (σ', kd, r) → ∀ (H : Heap) (locs : List Loc) (cells slots : Nat) (ls : Array Slot), cw_W v s σ0 σ H locs cells slots → cl_has ls 4 [(0, cR v x0), (1, .int (rI x1))] → W p l e (cw_rm v (d + 1) σ0) s m args below meth c H locs cells slots (cw_Z below v σ0 σ' kd (some (cR v r)) args s) (F0 m 0 ls []) := by
  subst hbd
  obtain ⟨hx, hb, hr, hml, hown, hts, hlk, hK⟩ := id B
  intro σ x0 x1 ix0 ix1 hf H locs cells slots ls hw hl
  unfold pc_X7_readText_0 at hf
  refine cl_aload_n hx hb dX7_readText_0 rfl (lv_at hl.1 0 rfl) ?_
  refine lv_iload_n hx hb dX7_readText_1 rfl (lv_at hl.1 1 rfl) ?_
  refine cl_aload_n hx hb dX7_readText_2 rfl (lv_at hl.1 0 rfl) ?_
  obtain ⟨z1, ez1, iz1, rz1, hf⟩ := cc_g_s hw hf
  refine cw_get (val := cR v z1) B hw rz1 ⟨by decide, by decide⟩ (by decide) cwi_8 cfl_X7_30 ez1 rfl dX7_readText_3 ?_
  obtain ⟨z2, ez2, iz2, rz2, hf⟩ := cc_l_s hf
  refine cw_len B hw rz2 (by decide) ez2 iz2 dX7_readText_6 ?_
  obtain ⟨z3, ez3, iz3, hf⟩ := cc_mn_s ix1 iz2 hf
  refine cw_mmin B hw ix1 iz2 ez3 cml_X7_48 cma_min_s cma_i cma_min_c hl.1.1 (cl_cs (cl_1r cl_10) (Nat.le_of_ble_eq_true rfl)) dX7_readText_7 ?_
  obtain ⟨σ4, eσ4, rσ4, hf⟩ := cc_p_s hf
  refine cw_put B hw rσ4 cwt_8 (by decide) rfl cfl_X7_9 iz3 eσ4 rfl (cw_fv_n rfl rfl) dX7_readText_10 (fun H locs hw => ?_)
  refine cl_aload_n hx hb dX7_readText_13 rfl (lv_at hl.1 0 rfl) ?_
  obtain ⟨qσ5, hf⟩ := cc_t_s hf
  obtain ⟨σ5, kv6, z7, hσ5, hf⟩ := cc_cl_s hf
  obtain ⟨iz7, mσ5⟩ := hR 127 σ4 [x0] σ5 kv6 z7 hσ5
  have mσ5 : cw_Met l v yX7_scan cX7_scan 3 none d [cR v x0] σ4 σ5 kv6 none := mσ5 ix0
  refine cw_cv (b := x0) (t := 8) (n := 0) (rest := []) (As := []) B mσ5 qσ5 ⟨by decide, by decide⟩ cgo_yX7_scan cml_X7_54 cin_yX7_scan cse_yX7_scan (by decide +kernel) (by decide) rfl hl.1.1 (Nat.le_of_ble_eq_true rfl) dX7_readText_14 rfl hw (fun h0 H locs cells slots hw => ?_) (fun h0 H locs cells slots q ce hw h1 h2 h3 => ?_)
  · rcases hf with ⟨-, hf⟩ | ⟨hk, -⟩
    · skip
      refine cl_aload_n hx hb dX7_readText_17 rfl (lv_at hl.1 0 rfl) ?_
      refine lv_iconst (v := rI 0) hx hb dX7_readText_18 rfl ?_
      obtain ⟨σ8, eσ8, rσ8, hf⟩ := cc_p_s hf
      refine cw_put B hw rσ8 cwt_8 (by decide) rfl cfl_X7_15 ⟨by decide, by decide⟩ eσ8 rfl (cw_fv_n rfl rfl) dX7_readText_19 (fun H locs hw => ?_)
      obtain ⟨σ9, z10, eσ9, ez10, iz10, rσ9, hf⟩ := cc_n_s hf
      refine cw_new B hw cwt_13 rfl cwd_13 cnl_X7_57 cni_13 cnz_13 rσ9 eσ9 ez10 dX7_readText_22 (fun H hw => ?_)
      refine lv_dup hx hb dX7_readText_25 (cR_cat _) ?_
      obtain ⟨qσ11, hf⟩ := cc_t_s hf
      obtain ⟨σ11, z13, hσ11, hf⟩ := cc_ci_s hf
      obtain ⟨iz13, mσ11⟩ := hR 12 σ9 [z10] σ11 0 z13 hσ11
      have mσ11 : cw_Met l v yJx4a65c_init_da8c8 cJx4a65c_init_da8c8 1 none d [cR v z10] σ9 σ11 0 none := mσ11 iz10
      refine cw_ci (b := z10) (n := 0) (rest := [cR v z10]) (As := []) B mσ11 qσ11.1 rfl cgo_yJx4a65c_init_da8c8 cml_X7_59 cin_yJx4a65c_init_da8c8 (by decide +kernel) (by decide) rfl hl.1.1 (cl_cs (cl_1r cl_10) (Nat.le_of_ble_eq_true rfl)) dX7_readText_26 rfl hw (fun H locs cells slots hw => ?_)
      refine cl_astore_n (lv' := [(2, cR v z10), (0, cR v x0), (1, .int (rI x1))]) hx hb dX7_readText_29 rfl hl (by decide) rfl (fun ls hl => ?_)
      refine cl_aload_n hx hb dX7_readText_30 rfl (lv_at hl.1 1 rfl) ?_
      obtain ⟨qσ14, hf⟩ := cc_t_s hf
      obtain ⟨σ14, kv15, z16, hσ14, hf⟩ := cc_cl_s hf
      obtain ⟨iz16, mσ14⟩ := hR 109 σ11 [x0] σ14 kv15 z16 hσ14
      have mσ14 : cw_Met l v yX7_advance cX7_advance 1 none d [cR v x0] σ11 σ14 kv15 none := mσ14 ix0
      refine cw_cv (b := x0) (t := 8) (n := 0) (rest := []) (As := []) B mσ14 qσ14 ⟨by decide, by decide⟩ cgo_yX7_advance cml_X7_60 cin_yX7_advance cse_yX7_advance (by decide +kernel) (by decide) rfl hl.1.1 (Nat.le_of_ble_eq_true rfl) dX7_readText_31 rfl hw (fun h0 H locs cells slots hw => ?_) (fun h0 H locs cells slots q ce hw h1 h2 h3 => ?_)
      · rcases hf with ⟨-, hf⟩ | ⟨hk, -⟩
        · skip
          refine lv_iconst (v := rI 0) hx hb dX7_readText_34 rfl ?_
          refine cl_istore_n (lv' := [(3, .int (rI 0)), (2, cR v z10), (0, cR v x0), (1, .int (rI x1))]) hx hb dX7_readText_35 rfl hl (by decide) rfl (fun ls hl => ?_)
          exact pw_X7_readText_36 rfl hR htr hd5 B hnh 2000000 σ14 x0 z10 0 ix0 iz10 ⟨by decide, by decide⟩ hf _ _ _ _ _ hw (cl_sub hl [2, 1, 0] rfl)
        · exact absurd h0 hk
      · rcases hf with ⟨hk, -⟩ | ⟨-, hf⟩
        · exact absurd hk h0
        · cases hf
          exact cw_xout B hnh h0 hw h1 h2 h3
    · exact absurd h0 hk
  · rcases hf with ⟨hk, -⟩ | ⟨-, hf⟩
    · exact absurd hk h0
    · cases hf
      exact cw_xout B hnh h0 hw h1 h2 h3

