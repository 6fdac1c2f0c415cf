set_option maxHeartbeats 4000000 in
set_option maxRecDepth 100000 in
theorem pm_X0_addName {v : cwE} {bd : cBd} {l : Launch} {d : Nat} {rec : Nat → CS → List Int → CO} (hbd : bd = cw_bd v) (hR : cw_Rec l v d rec) (htr : l.stackTraces = false) (hd5 : 5 ≤ d) (σ σ' : CS) (x0 x1 x2 x3 x4 x5 : Int) (kd : Nat) (r : Int) (ix0 : inR x0) (ix1 : inR x1) (ix2 : inR x2) (ix3 : inR x3) (ix4 : inR x4) (ix5 : inR x5) (hf : pc_X0_addName_0 rec bd σ x0 x1 x2 x3 x4 x5 = some (σ', kd, r)) : cw_Met l v yX0_addName cX0_addName 7 none (d + 1) [cR x0, cR x1, cR x2, cR x3, .int (rI x4), cR x5] σ σ' kd none := by
  refine cw_ofW (by decide +kernel) ?_
  intro p e s m args below meth c s₁ B hml hv
  obtain ⟨rfl, hM, hK⟩ := hv
  have hts := atoms_spec (ws := Cond.code yX0_addName cX0_addName 7 none :: cw_bw) B.pre
  have hB : cw_B v RX0 p s m _ meth c cX0_addName 7 none := ⟨B.exec, B.bytes, B.returns, hml, findClass_of_methodNamed B.named, fun w h => hts w (List.mem_cons_of_mem _ h), B.notSynchronized, hK⟩
  have hnh := cc_nh B (hts _ List.mem_cons_self)
  rw [lg_entry_eq]
  obtain ⟨ls, hls, hl⟩ := cl_ent [cR x0, cR x1, cR x2, cR x3, .int (rI x4), cR x5] 7 (cl_1r (cl_1r (cl_1r (cl_1r (cl_1i (cl_1r cl_10)))))) (Nat.le_of_ble_eq_true rfl)
  rw [hls]
  exact pw_X0_addName_0 hbd hR htr hd5 hB hnh σ x0 x1 x2 x3 x4 x5 ix0 ix1 ix2 ix3 ix4 ix5 hf _ _ _ _ _ (cw_W0 hM) (cl_sub hl [0, 1, 2, 3, 4, 5] rfl)

set_option maxHeartbeats 4000000 in
set_option maxRecDepth 100000 in
theorem pw_X0_init_0 {v : cwE} {bd : cBd} {p : Program} {l : Launch} {e : Env} {s : State} {m : MethodId} {args : Array Value} {below : List Frame} {meth : Method} {c : Code} {d : Nat} {rec : Nat → CS → List Int → CO} {σ0 σ' : CS} {kd : Nat} {r : Int} (hbd : bd = cw_bd v) (hR : cw_Rec l v d rec) (htr : l.stackTraces = false) (hd5 : 5 ≤ d) (B : cw_B v RX0 p s m args meth c cX0_init 1 none) (hin : meth.name = "<init>") (hnh : ∀ x ∈ c.exceptionTable.toList, False) : ∀ (σ : CS) (x0 : Int), inR x0 → pc_X0_init_0 rec bd σ x0 = some (σ', kd, r) → ∀ (H : Heap) (locs : List Loc) (cells slots : Nat) (ls : Array Slot), cw_W v s σ0 σ H locs cells slots → cl_has ls 1 [(0, cR x0)] → W p l e (cw_rm v (d + 1) σ0) s m args below meth c H locs cells slots (cw_Z below v σ0 σ' kd none args s) (F0 m 0 ls []) := by
  subst hbd
  obtain ⟨hx, hb, hr, hml, hown, hts, hlk, hK⟩ := id B
  intro σ x0 ix0 hf H locs cells slots ls hw hl
  unfold pc_X0_init_0 at hf
  refine cl_aload_n hx hb dX0_init_0 rfl (lv_at hl.1 0 rfl) ?_
  obtain ⟨q0, hf⟩ := cc_t_s hf
  rw [cR_r q0.1]
  refine W.objInit hx hb hown (hts _ coi_X0_3) (hts _ coi2) (hts _ coi3) rfl (hl.1.1.trans hml.symm) rfl dX0_init_1 (by show 1 ≤ d + 1; omega) (by show _ + 12 ≤ 100 * (d + 1); simp [JFrame.monitorRoom]; omega) ?_
  refine cl_aload_n hx hb dX0_init_4 rfl (lv_at hl.1 0 rfl) ?_
  obtain ⟨σ1, z2, eσ1, ez2, iz2, rσ1, hf⟩ := cc_n_s hf
  refine cw_new B hw cwt_6 rfl cwd_6 cnl_X0_9 cni_6 cnz_6 rσ1 eσ1 ez2 dX0_init_5 (fun H hw => ?_)
  refine lv_dup hx hb dX0_init_8 (cR_cat _) ?_
  refine lv_bipush (v := rI 8) hx hb dX0_init_9 (by decide +kernel) ?_
  obtain ⟨qσ3, hf⟩ := cc_t_s hf
  obtain ⟨σ3, z5, hσ3, hf⟩ := cc_ci_s hf
  obtain ⟨iz5, mσ3⟩ := hR 103 σ1 [z2, 8] σ3 0 z5 hσ3
  have mσ3 : cw_Met l v yX5_init cX5_init 2 none d [cR z2, .int (rI 8)] σ1 σ3 0 none := mσ3 iz2 ⟨by decide, by decide⟩
  refine cw_ci (b := z2) (n := 1) (rest := [cR z2, cR x0]) (As := [.int (rI 8)]) B mσ3 qσ3.1 rfl cgo_yX5_init cml_X0_13 cin_yX5_init (by decide +kernel) (by decide) rfl hl.1.1 (cl_cs (cl_1r (cl_1r cl_10)) (Nat.le_of_ble_eq_true rfl)) dX0_init_11 rfl hw (fun H locs cells slots hw => ?_)
  obtain ⟨σ6, eσ6, rσ6, hf⟩ := cc_p_s hf
  refine cw_putF B hin hw rσ6 cwt_1 (by decide) rfl rfl rfl cfl_X0_16 iz2 eσ6 rfl (cw_fv_r rfl (Or.inl ⟨_, rfl⟩)) dX0_init_14 (fun H locs hw => ?_)
  refine cl_aload_n hx hb dX0_init_17 rfl (lv_at hl.1 0 rfl) ?_
  refine lv_bipush (v := rI 8) hx hb dX0_init_18 (by decide +kernel) ?_
  obtain ⟨σ7, z8, eσ7, ez8, iz8, qσ7, rσ7, hf⟩ := cc_na_s hf
  refine cw_newa (t := 21) B hw (Or.inr ⟨rfl, rfl⟩) cac_int ⟨by decide, by decide⟩ qσ7.1 qσ7.2 rσ7 eσ7 ez8 dX0_init_20 (fun H hw => ?_)
  obtain ⟨σ9, eσ9, rσ9, hf⟩ := cc_p_s hf
  refine cw_putF B hin hw rσ9 cwt_1 (by decide) rfl rfl rfl cfl_X0_20 iz8 eσ9 rfl (cw_fv_r rfl (Or.inr ⟨_, rfl⟩)) dX0_init_22 (fun H locs hw => ?_)
  refine cl_aload_n hx hb dX0_init_25 rfl (lv_at hl.1 0 rfl) ?_
  refine lv_bipush (v := rI 64) hx hb dX0_init_26 (by decide +kernel) ?_
  obtain ⟨σ10, z11, eσ10, ez11, iz11, qσ10, rσ10, hf⟩ := cc_na_s hf
  refine cw_newa (t := 21) B hw (Or.inr ⟨rfl, rfl⟩) cac_int ⟨by decide, by decide⟩ qσ10.1 qσ10.2 rσ10 eσ10 ez11 dX0_init_28 (fun H hw => ?_)
  obtain ⟨σ12, eσ12, rσ12, hf⟩ := cc_p_s hf
  refine cw_putF B hin hw rσ12 cwt_1 (by decide) rfl rfl rfl cfl_X0_24 iz11 eσ12 rfl (cw_fv_r rfl (Or.inr ⟨_, rfl⟩)) dX0_init_30 (fun H locs hw => ?_)
  refine cl_aload_n hx hb dX0_init_33 rfl (lv_at hl.1 0 rfl) ?_
  refine lv_iconst (v := rI 0) hx hb dX0_init_34 rfl ?_
  obtain ⟨σ13, eσ13, rσ13, hf⟩ := cc_p_s hf
  refine cw_put B hw rσ13 cwt_1 (by decide) rfl cfl_X0_27 ⟨by decide, by decide⟩ eσ13 rfl (cw_fv_n rfl rfl) dX0_init_35 (fun H locs hw => ?_)
  refine cl_aload_n hx hb dX0_init_38 rfl (lv_at hl.1 0 rfl) ?_
  refine lv_iconst (v := rI 0) hx hb dX0_init_39 rfl ?_
  obtain ⟨σ14, eσ14, rσ14, hf⟩ := cc_p_s hf
  refine cw_put B hw rσ14 cwt_1 (by decide) rfl cfl_X0_31 ⟨by decide, by decide⟩ eσ14 rfl (cw_fv_n rfl rfl) dX0_init_40 (fun H locs hw => ?_)
  refine cl_aload_n hx hb dX0_init_43 rfl (lv_at hl.1 0 rfl) ?_
  obtain ⟨σ15, z16, eσ15, ez16, iz16, rσ15, hf⟩ := cc_n_s hf
  refine cw_new B hw cwt_6 rfl cwd_6 cnl_X0_9 cni_6 cnz_6 rσ15 eσ15 ez16 dX0_init_44 (fun H hw => ?_)
  refine lv_dup hx hb dX0_init_47 (cR_cat _) ?_
  refine lv_bipush (v := rI 100) hx hb dX0_init_48 (by decide +kernel) ?_
  obtain ⟨qσ17, hf⟩ := cc_t_s hf
  obtain ⟨σ17, z19, hσ17, hf⟩ := cc_ci_s hf
  obtain ⟨iz19, mσ17⟩ := hR 103 σ15 [z16, 100] σ17 0 z19 hσ17
  have mσ17 : cw_Met l v yX5_init cX5_init 2 none d [cR z16, .int (rI 100)] σ15 σ17 0 none := mσ17 iz16 ⟨by decide, by decide⟩
  refine cw_ci (b := z16) (n := 1) (rest := [cR z16, cR x0]) (As := [.int (rI 100)]) B mσ17 qσ17.1 rfl cgo_yX5_init cml_X0_13 cin_yX5_init (by decide +kernel) (by decide) rfl hl.1.1 (cl_cs (cl_1r (cl_1r cl_10)) (Nat.le_of_ble_eq_true rfl)) dX0_init_50 rfl hw (fun H locs cells slots hw => ?_)
  obtain ⟨σ20, eσ20, rσ20, hf⟩ := cc_p_s hf
  refine cw_putF B hin hw rσ20 cwt_1 (by decide) rfl rfl rfl cfl_X0_34 iz16 eσ20 rfl (cw_fv_r rfl (Or.inl ⟨_, rfl⟩)) dX0_init_53 (fun H locs hw => ?_)
  refine cl_aload_n hx hb dX0_init_56 rfl (lv_at hl.1 0 rfl) ?_
  refine lv_bipush (v := rI 100) hx hb dX0_init_57 (by decide +kernel) ?_
  obtain ⟨σ21, z22, eσ21, ez22, iz22, qσ21, rσ21, hf⟩ := cc_na_s hf
  refine cw_anew (t := 22) B hw (Or.inl ⟨rfl, rfl⟩) ccl_X0_37 ⟨by decide, by decide⟩ qσ21.1 qσ21.2 rσ21 eσ21 ez22 dX0_init_59 (fun H hw => ?_)
  obtain ⟨σ23, eσ23, rσ23, hf⟩ := cc_p_s hf
  refine cw_putF B hin hw rσ23 cwt_1 (by decide) rfl rfl rfl cfl_X0_39 iz22 eσ23 rfl (cw_fv_r rfl (Or.inr ⟨_, rfl⟩)) dX0_init_62 (fun H locs hw => ?_)
  refine cl_aload_n hx hb dX0_init_65 rfl (lv_at hl.1 0 rfl) ?_
  refine lv_bipush (v := rI 100) hx hb dX0_init_66 (by decide +kernel) ?_
  obtain ⟨σ24, z25, eσ24, ez25, iz25, qσ24, rσ24, hf⟩ := cc_na_s hf
  refine cw_anew (t := 22) B hw (Or.inl ⟨rfl, rfl⟩) ccl_X0_37 ⟨by decide, by decide⟩ qσ24.1 qσ24.2 rσ24 eσ24 ez25 dX0_init_68 (fun H hw => ?_)
  obtain ⟨σ26, eσ26, rσ26, hf⟩ := cc_p_s hf
  refine cw_putF B hin hw rσ26 cwt_1 (by decide) rfl rfl rfl cfl_X0_43 iz25 eσ26 rfl (cw_fv_r rfl (Or.inr ⟨_, rfl⟩)) dX0_init_71 (fun H locs hw => ?_)
  refine cl_aload_n hx hb dX0_init_74 rfl (lv_at hl.1 0 rfl) ?_
  refine lv_bipush (v := rI 100) hx hb dX0_init_75 (by decide +kernel) ?_
  obtain ⟨σ27, z28, eσ27, ez28, iz28, qσ27, rσ27, hf⟩ := cc_na_s hf
  refine cw_newa (t := 21) B hw (Or.inr ⟨rfl, rfl⟩) cac_int ⟨by decide, by decide⟩ qσ27.1 qσ27.2 rσ27 eσ27 ez28 dX0_init_77 (fun H hw => ?_)
  obtain ⟨σ29, eσ29, rσ29, hf⟩ := cc_p_s hf
  refine cw_putF B hin hw rσ29 cwt_1 (by decide) rfl rfl rfl cfl_X0_46 iz28 eσ29 rfl (cw_fv_r rfl (Or.inr ⟨_, rfl⟩)) dX0_init_79 (fun H locs hw => ?_)
  refine cl_aload_n hx hb dX0_init_82 rfl (lv_at hl.1 0 rfl) ?_
  refine lv_bipush (v := rI 20) hx hb dX0_init_83 (by decide +kernel) ?_
  obtain ⟨σ30, z31, eσ30, ez31, iz31, qσ30, rσ30, hf⟩ := cc_na_s hf
  refine cw_newa (t := 21) B hw (Or.inr ⟨rfl, rfl⟩) cac_int ⟨by decide, by decide⟩ qσ30.1 qσ30.2 rσ30 eσ30 ez31 dX0_init_85 (fun H hw => ?_)
  obtain ⟨σ32, eσ32, rσ32, hf⟩ := cc_p_s hf
  refine cw_putF B hin hw rσ32 cwt_1 (by decide) rfl rfl rfl cfl_X0_49 iz31 eσ32 rfl (cw_fv_r rfl (Or.inr ⟨_, rfl⟩)) dX0_init_87 (fun H locs hw => ?_)
  refine cl_aload_n hx hb dX0_init_90 rfl (lv_at hl.1 0 rfl) ?_
  refine lv_iconst (v := rI 0) hx hb dX0_init_91 rfl ?_
  obtain ⟨σ33, eσ33, rσ33, hf⟩ := cc_p_s hf
  refine cw_put B hw rσ33 cwt_1 (by decide) rfl cfl_X0_52 ⟨by decide, by decide⟩ eσ33 rfl (cw_fv_n rfl rfl) dX0_init_92 (fun H locs hw => ?_)
  exact cw_retv B hf hw dX0_init_95

set_option maxHeartbeats 4000000 in
set_option maxRecDepth 100000 in
theorem pm_X0_init {v : cwE} {bd : cBd} {l : Launch} {d : Nat} {rec : Nat → CS → List Int → CO} (hbd : bd = cw_bd v) (hR : cw_Rec l v d rec) (htr : l.stackTraces = false) (hd5 : 5 ≤ d) (σ σ' : CS) (x0 : Int) (kd : Nat) (r : Int) (ix0 : inR x0) (hf : pc_X0_init_0 rec bd σ x0 = some (σ', kd, r)) : cw_Met l v yX0_init cX0_init 1 none (d + 1) [cR x0] σ σ' kd none := by
  refine cw_ofW (by decide +kernel) ?_
  intro p e s m args below meth c s₁ B hml hv
  obtain ⟨rfl, hM, hK⟩ := hv
  have hts := atoms_spec (ws := Cond.code yX0_init cX0_init 1 none :: cw_bw) B.pre
  have hB : cw_B v RX0 p s m _ meth c cX0_init 1 none := ⟨B.exec, B.bytes, B.returns, hml, findClass_of_methodNamed B.named, fun w h => hts w (List.mem_cons_of_mem _ h), B.notSynchronized, hK⟩
  have hnh := cc_nh B (hts _ List.mem_cons_self)
  rw [lg_entry_eq]
  obtain ⟨ls, hls, hl⟩ := cl_ent [cR x0] 1 (cl_1r cl_10) (Nat.le_of_ble_eq_true rfl)
  rw [hls]
  exact pw_X0_init_0 hbd hR htr hd5 hB (name_of_methodNamed B.named B.method).1 hnh σ x0 ix0 hf _ _ _ _ _ (cw_W0 hM) (cl_sub hl [0] rfl)

set_option maxHeartbeats 4000000 in
set_option maxRecDepth 100000 in
theorem pw_X0_loadCorner_74 {v : cwE} {bd : cBd} {p : Program} {l : Launch} {e : Env} {s : State} {m : MethodId} {args : Array Value} {below : List Frame} {meth : Method} {c : Code} {d : Nat} {rec : Nat → CS → List Int → CO} {σ0 σ' : CS} {kd : Nat} {r : Int} (hbd : bd = cw_bd v) (hR : cw_Rec l v d rec) (htr : l.stackTraces = false) (hd5 : 5 ≤ d) (B : cw_B v RX0 p s m args meth c cX0_loadCorner 2 none) (hnh : ∀ x ∈ c.exceptionTable.toList, False) : ∀ (σ : CS) (x0 x1 : Int), inR x0 → inR x1 → pc_X0_loadCorner_74 rec bd σ x0 x1 = some (σ', kd, r) → ∀ (H : Heap) (locs : List Loc) (cells slots : Nat) (ls : Array Slot), cw_W v s σ0 σ H locs cells slots → cl_has ls 2 [(0, cR x0), (1, .int (rI x1))] → W p l e (cw_rm v (d + 1) σ0) s m args below meth c H locs cells slots (cw_Z below v σ0 σ' kd none args s) (F0 m 74 ls []) := by
  subst hbd
  obtain ⟨hx, hb, hr, hml, hown, hts, hlk, hK⟩ := id B
  intro σ x0 x1 ix0 ix1 hf H locs cells slots ls hw hl
  unfold pc_X0_loadCorner_74 at hf
  refine lv_iload_n hx hb dX0_loadCorner_74 rfl (lv_at hl.1 1 rfl) ?_
  refine lv_iconst (v := rI 4) hx hb dX0_loadCorner_75 rfl ?_
  obtain ⟨z1, ez1, iz1, hf⟩ := cc_nm_s hf
  refine lv_iand hx hb dX0_loadCorner_76 ?_
  refine rn_top ez1 ?_
  refine rn_if_eq (a := z1) (tgt := 87) hx hb iz1 dX0_loadCorner_77 (by decide) (fun c2 => ?_) (fun c2 => ?_)
  · replace hf := cc_if_t hf c2
    exact cw_retv B hf hw dX0_loadCorner_87
  · replace hf := cc_if_f hf c2
    refine cl_aload_n hx hb dX0_loadCorner_80 rfl (lv_at hl.1 0 rfl) ?_
    refine lv_iconst (v := rI 0) hx hb dX0_loadCorner_81 rfl ?_
    refine lv_iconst (v := rI 1) hx hb dX0_loadCorner_82 rfl ?_
    refine lv_iconst (v := rI 1) hx hb dX0_loadCorner_83 rfl ?_
    obtain ⟨qσ3, hf⟩ := cc_t_s hf
    obtain ⟨σ3, kv4, z5, hσ3, hf⟩ := cc_cl_s hf
    obtain ⟨iz5, mσ3⟩ := hR 25 σ [x0, 0, 1, 1] σ3 kv4 z5 hσ3
    have mσ3 : cw_Met l v yX0_setRule cX0_setRule 4 none d [cR x0, .int (rI 0), .int (rI 1), .int (rI 1)] σ σ3 kv4 none := mσ3 ix0 ⟨by decide, by decide⟩ ⟨by decide, by decide⟩ ⟨by decide, by decide⟩
    refine cw_cv (b := x0) (t := 1) (n := 3) (rest := []) (As := [.int (rI 0), .int (rI 1), .int (rI 1)]) B mσ3 qσ3 ⟨by decide, by decide⟩ cgo_yX0_setRule cml_X0_70 cin_yX0_setRule cse_yX0_setRule (by decide +kernel) (by decide) rfl hl.1.1 (Nat.le_of_ble_eq_true rfl) dX0_loadCorner_84 rfl hw (fun h0 H locs cells slots hw => ?_) (fun h0 H locs cells slots q ce hw h1 h2 h3 => ?_)
    · rcases hf with ⟨-, hf⟩ | ⟨hk, -⟩
      · skip
        exact cw_retv B hf hw dX0_loadCorner_87
      · exact absurd h0 hk
    · rcases hf with ⟨hk, -⟩ | ⟨-, hf⟩
      · exact absurd hk h0
      · cases hf
        exact cw_xout B hnh h0 hw h1 h2 h3

set_option maxHeartbeats 4000000 in
set_option maxRecDepth 100000 in
theorem pw_X0_loadCorner_61 {v : cwE} {bd : cBd} {p : Program} {l : Launch} {e : Env} {s : State} {m : MethodId} {args : Array Value} {below : List Frame} {meth : Method} {c : Code} {d : Nat} {rec : Nat → CS → List Int → CO} {σ0 σ' : CS} {kd : Nat} {r : Int} (hbd : bd = cw_bd v) (hR : cw_Rec l v d rec) (htr : l.stackTraces = false) (hd5 : 5 ≤ d) (B : cw_B v RX0 p s m args meth c cX0_loadCorner 2 none) (hnh : ∀ x ∈ c.exceptionTable.toList, False) : ∀ (σ : CS) (x0 x1 : Int), inR x0 → inR x1 → pc_X0_loadCorner_61 rec bd σ x0 x1 = some (σ', kd, r) → ∀ (H : Heap) (locs : List Loc) (cells slots : Nat) (ls : Array Slot), cw_W v s σ0 σ H locs cells slots → cl_has ls 2 [(0, cR x0), (1, .int (rI x1))] → W p l e (cw_rm v (d + 1) σ0) s m args below meth c H locs cells slots (cw_Z below v σ0 σ' kd none args s) (F0 m 61 ls []) := by
  subst hbd
  obtain ⟨hx, hb, hr, hml, hown, hts, hlk, hK⟩ := id B
  intro σ x0 x1 ix0 ix1 hf H locs cells slots ls hw hl
  unfold pc_X0_loadCorner_61 at hf
  refine lv_iload_n hx hb dX0_loadCorner_61 rfl (lv_at hl.1 1 rfl) ?_
  refine lv_iconst (v := rI 2) hx hb dX0_loadCorner_62 rfl ?_
  obtain ⟨z1, ez1, iz1, hf⟩ := cc_nm_s hf
  refine lv_iand hx hb dX0_loadCorner_63 ?_
  refine rn_top ez1 ?_
  refine rn_if_eq (a := z1) (tgt := 74) hx hb iz1 dX0_loadCorner_64 (by decide) (fun c2 => ?_) (fun c2 => ?_)
  · replace hf := cc_if_t hf c2
    exact pw_X0_loadCorner_74 rfl hR htr hd5 B hnh σ x0 x1 ix0 ix1 hf _ _ _ _ _ hw (cl_sub hl [0, 1] rfl)
  · replace hf := cc_if_f hf c2
    refine cl_aload_n hx hb dX0_loadCorner_67 rfl (lv_at hl.1 0 rfl) ?_
    refine lv_iconst (v := rI 1) hx hb dX0_loadCorner_68 rfl ?_
    refine lv_iconst (v := rI 1) hx hb dX0_loadCorner_69 rfl ?_
    refine lv_iconst (v := rI 1) hx hb dX0_loadCorner_70 rfl ?_
    obtain ⟨qσ3, hf⟩ := cc_t_s hf
    obtain ⟨σ3, kv4, z5, hσ3, hf⟩ := cc_cl_s hf
    obtain ⟨iz5, mσ3⟩ := hR 25 σ [x0, 1, 1, 1] σ3 kv4 z5 hσ3
    have mσ3 : cw_Met l v yX0_setRule cX0_setRule 4 none d [cR x0, .int (rI 1), .int (rI 1), .int (rI 1)] σ σ3 kv4 none := mσ3 ix0 ⟨by decide, by decide⟩ ⟨by decide, by decide⟩ ⟨by decide, by decide⟩
    refine cw_cv (b := x0) (t := 1) (n := 3) (rest := []) (As := [.int (rI 1), .int (rI 1), .int (rI 1)]) B mσ3 qσ3 ⟨by decide, by decide⟩ cgo_yX0_setRule cml_X0_70 cin_yX0_setRule cse_yX0_setRule (by decide +kernel) (by decide) rfl hl.1.1 (Nat.le_of_ble_eq_true rfl) dX0_loadCorner_71 rfl hw (fun h0 H locs cells slots hw => ?_) (fun h0 H locs cells slots q ce hw h1 h2 h3 => ?_)
    · rcases hf with ⟨-, hf⟩ | ⟨hk, -⟩
      · skip
        exact pw_X0_loadCorner_74 rfl hR htr hd5 B hnh σ3 x0 x1 ix0 ix1 hf _ _ _ _ _ hw (cl_sub hl [0, 1] rfl)
      · exact absurd h0 hk
    · rcases hf with ⟨hk, -⟩ | ⟨-, hf⟩
      · exact absurd hk h0
      · cases hf
        exact cw_xout B hnh h0 hw h1 h2 h3

set_option maxHeartbeats 4000000 in
set_option maxRecDepth 100000 in
theorem pw_X0_loadCorner_0 {v : cwE} {bd : cBd} {p : Program} {l : Launch} {e : Env} {s : State} {m : MethodId} {args : Array Value} {below : List Frame} {meth : Method} {c : Code} {d : Nat} {rec : Nat → CS → List Int → CO} {σ0 σ' : CS} {kd : Nat} {r : Int} (hbd : bd = cw_bd v) (hR : cw_Rec l v d rec) (htr : l.stackTraces = false) (hd5 : 5 ≤ d) (B : cw_B v RX0 p s m args meth c cX0_loadCorner 2 none) (hnh : ∀ x ∈ c.exceptionTable.toList, False) : ∀ (σ : CS) (x0 x1 : Int), inR x0 → inR x1 → pc_X0_loadCorner_0 rec bd σ x0 x1 = some (σ', kd, r) → ∀ (H : Heap) (locs : List Loc) (cells slots : Nat) (ls : Array Slot), cw_W v s σ0 σ H locs cells slots → cl_has ls 2 [(0, cR x0), (1, .int (rI x1))] → W p l e (cw_rm v (d + 1) σ0) s m args below meth c H locs cells slots (cw_Z below v σ0 σ' kd none args s) (F0 m 0 ls []) := by
  subst hbd
  obtain ⟨hx, hb, hr, hml, hown, hts, hlk, hK⟩ := id B
  intro σ x0 x1 ix0 ix1 hf H locs cells slots ls hw hl
  unfold pc_X0_loadCorner_0 at hf
  refine cl_aload_n hx hb dX0_loadCorner_0 rfl (lv_at hl.1 0 rfl) ?_
  obtain ⟨qσ1, hf⟩ := cc_t_s hf
  obtain ⟨σ1, kv2, z3, hσ1, hf⟩ := cc_cl_s hf
  obtain ⟨iz3, mσ1⟩ := hR 20 σ [x0] σ1 kv2 z3 hσ1
  have mσ1 : cw_Met l v yX0_clear cX0_clear 2 none d [cR x0] σ σ1 kv2 none := mσ1 ix0
  refine cw_cv (b := x0) (t := 1) (n := 0) (rest := []) (As := []) B mσ1 qσ1 ⟨by decide, by decide⟩ cgo_yX0_clear cml_X0_55 cin_yX0_clear cse_yX0_clear (by decide +kernel) (by decide) rfl hl.1.1 (Nat.le_of_ble_eq_true rfl) dX0_loadCorner_1 rfl hw (fun h0 H locs cells slots hw => ?_) (fun h0 H locs cells slots q ce hw h1 h2 h3 => ?_)
  · rcases hf with ⟨-, hf⟩ | ⟨hk, -⟩
    · skip
      refine lv_iload_n hx hb dX0_loadCorner_4 rfl (lv_at hl.1 1 rfl) ?_
      refine lv_bipush (v := rI 8) hx hb dX0_loadCorner_5 (by decide +kernel) ?_
      refine rn_icmp_ne (a := x1) (b := 8) (tgt := 11) hx hb ix1 ⟨by decide, by decide⟩ dX0_loadCorner_7 (by decide) (fun c4 => ?_) (fun c4 => ?_)
      · replace hf := cc_if_t hf c4
        refine cl_aload_n hx hb dX0_loadCorner_11 rfl (lv_at hl.1 0 rfl) ?_
        obtain ⟨z5, ez5, iz5, rz5, hf⟩ := cc_g_s hw hf
        refine cw_get (val := cR z5) B hw rz5 ⟨by decide, by decide⟩ (by decide) cwi_1 cfl_X0_16 ez5 rfl dX0_loadCorner_12 ?_
        obtain ⟨z6, ez6, iz6, hf⟩ := cc_gs_s hf
        refine cw_gets B hw (cw_sta_20 hK) csl_X0_58 ez6 dX0_loadCorner_15 ?_
        refine lv_iconst (v := rI 0) hx hb dX0_loadCorner_18 rfl ?_
        refine lv_iconst (v := rI 4) hx hb dX0_loadCorner_19 rfl ?_
        obtain ⟨qσ7, hf⟩ := cc_t_s hf
        obtain ⟨σ7, kv8, z9, hσ7, hf⟩ := cc_cl_s hf
        obtain ⟨iz9, mσ7⟩ := hR 99 σ1 [z5, z6, 0, 4] σ7 kv8 z9 hσ7
        have mσ7 : cw_Met l v yX5_add cX5_add 5 none d [cR z5, cR z6, .int (rI 0), .int (rI 4)] σ1 σ7 kv8 none := mσ7 iz5 iz6 ⟨by decide, by decide⟩ ⟨by decide, by decide⟩
        refine cw_cv (b := z5) (t := 6) (n := 3) (rest := []) (As := [cR z6, .int (rI 0), .int (rI 4)]) B mσ7 qσ7 ⟨by decide, by decide⟩ cgo_yX5_add cml_X0_62 cin_yX5_add cse_yX5_add (by decide +kernel) (by decide) rfl hl.1.1 (Nat.le_of_ble_eq_true rfl) dX0_loadCorner_20 rfl hw (fun h0 H locs cells slots hw => ?_) (fun h0 H locs cells slots q ce hw h1 h2 h3 => ?_)
        · rcases hf with ⟨-, hf⟩ | ⟨hk, -⟩
          · skip
            refine cl_aload_n hx hb dX0_loadCorner_23 rfl (lv_at hl.1 0 rfl) ?_
            obtain ⟨z10, ez10, iz10, rz10, hf⟩ := cc_g_s hw hf
            refine cw_get (val := cR z10) B hw rz10 ⟨by decide, by decide⟩ (by decide) cwi_1 cfl_X0_16 ez10 rfl dX0_loadCorner_24 ?_
            obtain ⟨z11, ez11, iz11, hf⟩ := cc_gs_s hf
            refine cw_gets B hw (cw_sta_20 hK) csl_X0_58 ez11 dX0_loadCorner_27 ?_
            refine lv_iconst (v := rI 4) hx hb dX0_loadCorner_30 rfl ?_
            refine lv_iconst (v := rI 4) hx hb dX0_loadCorner_31 rfl ?_
            obtain ⟨qσ12, hf⟩ := cc_t_s hf
            obtain ⟨σ12, kv13, z14, hσ12, hf⟩ := cc_cl_s hf
            obtain ⟨iz14, mσ12⟩ := hR 99 σ7 [z10, z11, 4, 4] σ12 kv13 z14 hσ12
            have mσ12 : cw_Met l v yX5_add cX5_add 5 none d [cR z10, cR z11, .int (rI 4), .int (rI 4)] σ7 σ12 kv13 none := mσ12 iz10 iz11 ⟨by decide, by decide⟩ ⟨by decide, by decide⟩
            refine cw_cv (b := z10) (t := 6) (n := 3) (rest := []) (As := [cR z11, .int (rI 4), .int (rI 4)]) B mσ12 qσ12 ⟨by decide, by decide⟩ cgo_yX5_add cml_X0_62 cin_yX5_add cse_yX5_add (by decide +kernel) (by decide) rfl hl.1.1 (Nat.le_of_ble_eq_true rfl) dX0_loadCorner_32 rfl hw (fun h0 H locs cells slots hw => ?_) (fun h0 H locs cells slots q ce hw h1 h2 h3 => ?_)
            · rcases hf with ⟨-, hf⟩ | ⟨hk, -⟩
              · skip
                refine cl_aload_n hx hb dX0_loadCorner_35 rfl (lv_at hl.1 0 rfl) ?_
                refine lv_iconst (v := rI 0) hx hb dX0_loadCorner_36 rfl ?_
                refine lv_iconst (v := rI 1) hx hb dX0_loadCorner_37 rfl ?_
                obtain ⟨qσ15, hf⟩ := cc_t_s hf
                obtain ⟨σ15, kv16, z17, hσ15, hf⟩ := cc_cl_s hf
                obtain ⟨iz17, mσ15⟩ := hR 24 σ12 [x0, 0, 1] σ15 kv16 z17 hσ15
                have mσ15 : cw_Met l v yX0_setAxiom cX0_setAxiom 3 none d [cR x0, .int (rI 0), .int (rI 1)] σ12 σ15 kv16 none := mσ15 ix0 ⟨by decide, by decide⟩ ⟨by decide, by decide⟩
                refine cw_cv (b := x0) (t := 1) (n := 2) (rest := []) (As := [.int (rI 0), .int (rI 1)]) B mσ15 qσ15 ⟨by decide, by decide⟩ cgo_yX0_setAxiom cml_X0_66 cin_yX0_setAxiom cse_yX0_setAxiom (by decide +kernel) (by decide) rfl hl.1.1 (Nat.le_of_ble_eq_true rfl) dX0_loadCorner_38 rfl hw (fun h0 H locs cells slots hw => ?_) (fun h0 H locs cells slots q ce hw h1 h2 h3 => ?_)
                · rcases hf with ⟨-, hf⟩ | ⟨hk, -⟩
                  · skip
                    refine cl_aload_n hx hb dX0_loadCorner_41 rfl (lv_at hl.1 0 rfl) ?_
                    refine lv_iconst (v := rI 0) hx hb dX0_loadCorner_42 rfl ?_
                    refine lv_iconst (v := rI 0) hx hb dX0_loadCorner_43 rfl ?_
                    refine lv_iconst (v := rI 0) hx hb dX0_loadCorner_44 rfl ?_
                    obtain ⟨qσ18, hf⟩ := cc_t_s hf
                    obtain ⟨σ18, kv19, z20, hσ18, hf⟩ := cc_cl_s hf
                    obtain ⟨iz20, mσ18⟩ := hR 25 σ15 [x0, 0, 0, 0] σ18 kv19 z20 hσ18
                    have mσ18 : cw_Met l v yX0_setRule cX0_setRule 4 none d [cR x0, .int (rI 0), .int (rI 0), .int (rI 0)] σ15 σ18 kv19 none := mσ18 ix0 ⟨by decide, by decide⟩ ⟨by decide, by decide⟩ ⟨by decide, by decide⟩
                    refine cw_cv (b := x0) (t := 1) (n := 3) (rest := []) (As := [.int (rI 0), .int (rI 0), .int (rI 0)]) B mσ18 qσ18 ⟨by decide, by decide⟩ cgo_yX0_setRule cml_X0_70 cin_yX0_setRule cse_yX0_setRule (by decide +kernel) (by decide) rfl hl.1.1 (Nat.le_of_ble_eq_true rfl) dX0_loadCorner_45 rfl hw (fun h0 H locs cells slots hw => ?_) (fun h0 H locs cells slots q ce hw h1 h2 h3 => ?_)
                    · rcases hf with ⟨-, hf⟩ | ⟨hk, -⟩
                      · skip
                        refine lv_iload_n hx hb dX0_loadCorner_48 rfl (lv_at hl.1 1 rfl) ?_
                        refine lv_iconst (v := rI 1) hx hb dX0_loadCorner_49 rfl ?_
                        obtain ⟨z21, ez21, iz21, hf⟩ := cc_nm_s hf
                        refine lv_iand hx hb dX0_loadCorner_50 ?_
                        refine rn_top ez21 ?_
                        refine rn_if_eq (a := z21) (tgt := 61) hx hb iz21 dX0_loadCorner_51 (by decide) (fun c22 => ?_) (fun c22 => ?_)
                        · replace hf := cc_if_t hf c22
                          exact pw_X0_loadCorner_61 rfl hR htr hd5 B hnh σ18 x0 x1 ix0 ix1 hf _ _ _ _ _ hw (cl_sub hl [0, 1] rfl)
                        · replace hf := cc_if_f hf c22
                          refine cl_aload_n hx hb dX0_loadCorner_54 rfl (lv_at hl.1 0 rfl) ?_
                          refine lv_iconst (v := rI 1) hx hb dX0_loadCorner_55 rfl ?_
                          refine lv_iconst (v := rI 0) hx hb dX0_loadCorner_56 rfl ?_
                          refine lv_iconst (v := rI 0) hx hb dX0_loadCorner_57 rfl ?_
                          obtain ⟨qσ23, hf⟩ := cc_t_s hf
                          obtain ⟨σ23, kv24, z25, hσ23, hf⟩ := cc_cl_s hf
                          obtain ⟨iz25, mσ23⟩ := hR 25 σ18 [x0, 1, 0, 0] σ23 kv24 z25 hσ23
                          have mσ23 : cw_Met l v yX0_setRule cX0_setRule 4 none d [cR x0, .int (rI 1), .int (rI 0), .int (rI 0)] σ18 σ23 kv24 none := mσ23 ix0 ⟨by decide, by decide⟩ ⟨by decide, by decide⟩ ⟨by decide, by decide⟩
                          refine cw_cv (b := x0) (t := 1) (n := 3) (rest := []) (As := [.int (rI 1), .int (rI 0), .int (rI 0)]) B mσ23 qσ23 ⟨by decide, by decide⟩ cgo_yX0_setRule cml_X0_70 cin_yX0_setRule cse_yX0_setRule (by decide +kernel) (by decide) rfl hl.1.1 (Nat.le_of_ble_eq_true rfl) dX0_loadCorner_58 rfl hw (fun h0 H locs cells slots hw => ?_) (fun h0 H locs cells slots q ce hw h1 h2 h3 => ?_)
                          · rcases hf with ⟨-, hf⟩ | ⟨hk, -⟩
                            · skip
                              exact pw_X0_loadCorner_61 rfl hR htr hd5 B hnh σ23 x0 x1 ix0 ix1 hf _ _ _ _ _ hw (cl_sub hl [0, 1] rfl)
                            · exact absurd h0 hk
                          · rcases hf with ⟨hk, -⟩ | ⟨-, hf⟩
                            · exact absurd hk h0
                            · cases hf
                              exact cw_xout B hnh h0 hw h1 h2 h3
                      · exact absurd h0 hk
                    · rcases hf with ⟨hk, -⟩ | ⟨-, hf⟩
                      · exact absurd hk h0
                      · cases hf
                        exact cw_xout B hnh h0 hw h1 h2 h3
                  · exact absurd h0 hk
                · rcases hf with ⟨hk, -⟩ | ⟨-, hf⟩
                  · exact absurd hk h0
                  · cases hf
                    exact cw_xout B hnh h0 hw h1 h2 h3
              · exact absurd h0 hk
            · rcases hf with ⟨hk, -⟩ | ⟨-, hf⟩
              · exact absurd hk h0
              · cases hf
                exact cw_xout B hnh h0 hw h1 h2 h3
          · exact absurd h0 hk
        · rcases hf with ⟨hk, -⟩ | ⟨-, hf⟩
          · exact absurd hk h0
          · cases hf
            exact cw_xout B hnh h0 hw h1 h2 h3
      · replace hf := cc_if_f hf c4
        exact cw_retv B hf hw dX0_loadCorner_10
    · exact absurd h0 hk
  · rcases hf with ⟨hk, -⟩ | ⟨-, hf⟩
    · exact absurd hk h0
    · cases hf
      exact cw_xout B hnh h0 hw h1 h2 h3

