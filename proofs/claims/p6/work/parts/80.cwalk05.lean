set_option maxHeartbeats 4000000 in
set_option maxRecDepth 100000 in
theorem pm_X6_leaf {v : cwE} {bd : Nat × Nat} {l : Launch} {d : Nat} {rec : Nat → CS → List Int → CO} (hbd : bd = (v.2.2.1, v.2.2.2.1)) (hR : cw_Rec l v d rec) (htr : l.stackTraces = false) (hd5 : 5 ≤ d) (σ σ' : CS) (x0 x1 : Int) (kd : Nat) (r : Int) (ix0 : inR x0) (ix1 : inR x1) (hf : pc_X6_leaf_0 rec bd σ x0 x1 = some (σ', kd, r)) : cw_Met l v yX6_leaf cX6_leaf 2 (some (.object "PureHouse$Node")) (d + 1) [.int (rI x0), .int (rI x1)] σ σ' kd (some (cR r)) := by
  refine cw_ofW (by decide +kernel) ?_
  intro p e s m args below meth c s₁ B hml hv
  obtain ⟨rfl, hM, hK⟩ := hv
  have hts := atoms_spec (ws := Cond.code yX6_leaf cX6_leaf 2 (some (.object "PureHouse$Node")) :: cw_bw) B.pre
  have hB : cw_B v RX6 p s m _ meth c cX6_leaf 2 (some (.object "PureHouse$Node")) := ⟨B.exec, B.bytes, B.returns, hml, findClass_of_methodNamed B.named, fun w h => hts w (List.mem_cons_of_mem _ h), B.notSynchronized, hK⟩
  have hnh := cc_nh B (hts _ List.mem_cons_self)
  rw [lg_entry_eq]
  obtain ⟨ls, hls, hl⟩ := cl_ent [.int (rI x0), .int (rI x1)] 2 (cl_1i (cl_1i cl_10)) (Nat.le_of_ble_eq_true rfl)
  rw [hls]
  exact pw_X6_leaf_0 hbd hR htr hd5 hB hnh σ x0 x1 ix0 ix1 hf _ _ _ _ _ (cw_W0 hM) (cl_sub hl [0, 1] rfl)

set_option maxHeartbeats 4000000 in
set_option maxRecDepth 100000 in
theorem pw_X6_named_0 {v : cwE} {bd : Nat × Nat} {p : Program} {l : Launch} {e : Env} {s : State} {m : MethodId} {args : Array Value} {below : List Frame} {meth : Method} {c : Code} {d : Nat} {rec : Nat → CS → List Int → CO} {σ0 σ' : CS} {kd : Nat} {r : Int} (hbd : bd = (v.2.2.1, v.2.2.2.1)) (hR : cw_Rec l v d rec) (htr : l.stackTraces = false) (hd5 : 5 ≤ d) (B : cw_B v RX6 p s m args meth c cX6_named 3 (some (.object "PureHouse$Node"))) (hnh : ∀ x ∈ c.exceptionTable.toList, False) : ∀ (σ : CS) (x0 x1 : Int), inR x0 → inR x1 → pc_X6_named_0 rec bd σ x0 x1 = some (σ', kd, r) → ∀ (H : Heap) (locs : List Loc) (cells slots : Nat) (ls : Array Slot), cw_W v s σ0 σ H locs cells slots → cl_has ls 3 [(0, .int (rI x0)), (1, .int (rI x1))] → W p l e (cw_rm v (d + 1) σ0) s m args below meth c H locs cells slots (cw_Z below v σ0 σ' kd (some (cR r)) args s) (F0 m 0 ls []) := by
  subst hbd
  obtain ⟨hx, hb, hr, hml, hown, hts, hlk, hK⟩ := id B
  intro σ x0 x1 ix0 ix1 hf H locs cells slots ls hw hl
  unfold pc_X6_named_0 at hf
  obtain ⟨σ1, z2, eσ1, ez2, iz2, rσ1, hf⟩ := cc_n_s hf
  refine cw_new B hw cwt_7 rfl cwd_7 cnl_6_10 cni_7 cnz_7 rσ1 eσ1 ez2 dX6_named_0 (fun H hw => ?_)
  refine lv_dup hx hb dX6_named_3 (cR_cat _) ?_
  refine lv_iconst (v := rI 0) hx hb dX6_named_4 rfl ?_
  refine lv_iconst (v := rI 0) hx hb dX6_named_5 rfl ?_
  obtain ⟨qσ3, hf⟩ := cc_t_s hf
  obtain ⟨σ3, z5, hσ3, hf⟩ := cc_ci_s hf
  obtain ⟨iz5, mσ3⟩ := hR 60 σ1 [z2, 0, 0] σ3 0 z5 hσ3
  have mσ3 : cw_Met l v yX6_init cX6_init 3 none d [cR z2, .int (rI 0), .int (rI 0)] σ1 σ3 0 none := mσ3 iz2 ⟨by decide, by decide⟩ ⟨by decide, by decide⟩
  refine cw_ci (b := z2) (n := 2) (rest := [cR z2]) (As := [.int (rI 0), .int (rI 0)]) B mσ3 qσ3.1 rfl cgo_yX6_init cml_6_47 cin_yX6_init (by decide +kernel) (by decide) rfl hl.1.1 (cl_cs (cl_1r cl_10) (Nat.le_of_ble_eq_true rfl)) dX6_named_6 rfl hw (fun H locs cells slots hw => ?_)
  refine cl_astore_n (lv' := [(2, cR z2), (0, .int (rI x0)), (1, .int (rI x1))]) hx hb dX6_named_9 rfl hl (by decide) rfl (fun ls hl => ?_)
  refine cl_aload_n hx hb dX6_named_10 rfl (lv_at hl.1 0 rfl) ?_
  refine lv_iload_n hx hb dX6_named_11 rfl (lv_at hl.1 1 rfl) ?_
  obtain ⟨σ6, eσ6, rσ6, hf⟩ := cc_p_s hf
  refine cw_put B hw rσ6 cwt_7 (by decide) rfl cfl_6_9 ix0 eσ6 rfl (cw_fv_n rfl rfl) dX6_named_12 (fun H locs hw => ?_)
  refine cl_aload_n hx hb dX6_named_15 rfl (lv_at hl.1 0 rfl) ?_
  refine lv_iload_n hx hb dX6_named_16 rfl (lv_at hl.1 1 rfl) ?_
  obtain ⟨σ7, eσ7, rσ7, hf⟩ := cc_p_s hf
  refine cw_put B hw rσ7 cwt_7 (by decide) rfl cfl_6_15 ix0 eσ7 rfl (cw_fv_n rfl rfl) dX6_named_17 (fun H locs hw => ?_)
  refine cl_aload_n hx hb dX6_named_20 rfl (lv_at hl.1 0 rfl) ?_
  refine lv_iload_n hx hb dX6_named_21 rfl (lv_at hl.1 1 rfl) ?_
  obtain ⟨σ8, eσ8, rσ8, hf⟩ := cc_p_s hf
  refine cw_put B hw rσ8 cwt_7 (by decide) rfl cfl_6_18 ix0 eσ8 rfl (cw_fv_n rfl rfl) dX6_named_22 (fun H locs hw => ?_)
  refine cl_aload_n hx hb dX6_named_25 rfl (lv_at hl.1 0 rfl) ?_
  refine lv_iload_n hx hb dX6_named_26 rfl (lv_at hl.1 2 rfl) ?_
  obtain ⟨σ9, eσ9, rσ9, hf⟩ := cc_p_s hf
  refine cw_put B hw rσ9 cwt_7 (by decide) rfl cfl_6_21 ix1 eσ9 rfl (cw_fv_n rfl rfl) dX6_named_27 (fun H locs hw => ?_)
  refine cl_aload_n hx hb dX6_named_30 rfl (lv_at hl.1 0 rfl) ?_
  exact cw_reta B hf hw dX6_named_31

set_option maxHeartbeats 4000000 in
set_option maxRecDepth 100000 in
theorem pm_X6_named {v : cwE} {bd : Nat × Nat} {l : Launch} {d : Nat} {rec : Nat → CS → List Int → CO} (hbd : bd = (v.2.2.1, v.2.2.2.1)) (hR : cw_Rec l v d rec) (htr : l.stackTraces = false) (hd5 : 5 ≤ d) (σ σ' : CS) (x0 x1 : Int) (kd : Nat) (r : Int) (ix0 : inR x0) (ix1 : inR x1) (hf : pc_X6_named_0 rec bd σ x0 x1 = some (σ', kd, r)) : cw_Met l v yX6_named cX6_named 3 (some (.object "PureHouse$Node")) (d + 1) [.int (rI x0), .int (rI x1)] σ σ' kd (some (cR r)) := by
  refine cw_ofW (by decide +kernel) ?_
  intro p e s m args below meth c s₁ B hml hv
  obtain ⟨rfl, hM, hK⟩ := hv
  have hts := atoms_spec (ws := Cond.code yX6_named cX6_named 3 (some (.object "PureHouse$Node")) :: cw_bw) B.pre
  have hB : cw_B v RX6 p s m _ meth c cX6_named 3 (some (.object "PureHouse$Node")) := ⟨B.exec, B.bytes, B.returns, hml, findClass_of_methodNamed B.named, fun w h => hts w (List.mem_cons_of_mem _ h), B.notSynchronized, hK⟩
  have hnh := cc_nh B (hts _ List.mem_cons_self)
  rw [lg_entry_eq]
  obtain ⟨ls, hls, hl⟩ := cl_ent [.int (rI x0), .int (rI x1)] 3 (cl_1i (cl_1i cl_10)) (Nat.le_of_ble_eq_true rfl)
  rw [hls]
  exact pw_X6_named_0 hbd hR htr hd5 hB hnh σ x0 x1 ix0 ix1 hf _ _ _ _ _ (cw_W0 hM) (cl_sub hl [0, 1] rfl)

set_option maxHeartbeats 4000000 in
set_option maxRecDepth 100000 in
theorem pw_X6_use_0 {v : cwE} {bd : Nat × Nat} {p : Program} {l : Launch} {e : Env} {s : State} {m : MethodId} {args : Array Value} {below : List Frame} {meth : Method} {c : Code} {d : Nat} {rec : Nat → CS → List Int → CO} {σ0 σ' : CS} {kd : Nat} {r : Int} (hbd : bd = (v.2.2.1, v.2.2.2.1)) (hR : cw_Rec l v d rec) (htr : l.stackTraces = false) (hd5 : 5 ≤ d) (B : cw_B v RX6 p s m args meth c cX6_use 3 (some (.object "PureHouse$Node"))) (hnh : ∀ x ∈ c.exceptionTable.toList, False) : ∀ (σ : CS) (x0 x1 : Int), inR x0 → inR x1 → pc_X6_use_0 rec bd σ x0 x1 = some (σ', kd, r) → ∀ (H : Heap) (locs : List Loc) (cells slots : Nat) (ls : Array Slot), cw_W v s σ0 σ H locs cells slots → cl_has ls 3 [(0, cR x0), (1, cR x1)] → W p l e (cw_rm v (d + 1) σ0) s m args below meth c H locs cells slots (cw_Z below v σ0 σ' kd (some (cR r)) args s) (F0 m 0 ls []) := by
  subst hbd
  obtain ⟨hx, hb, hr, hml, hown, hts, hlk, hK⟩ := id B
  intro σ x0 x1 ix0 ix1 hf H locs cells slots ls hw hl
  unfold pc_X6_use_0 at hf
  obtain ⟨σ1, z2, eσ1, ez2, iz2, rσ1, hf⟩ := cc_n_s hf
  refine cw_new B hw cwt_7 rfl cwd_7 cnl_6_10 cni_7 cnz_7 rσ1 eσ1 ez2 dX6_use_0 (fun H hw => ?_)
  refine lv_dup hx hb dX6_use_3 (cR_cat _) ?_
  refine lv_bipush (v := rI 7) hx hb dX6_use_4 (by decide +kernel) ?_
  refine lv_iconst (v := rI 0) hx hb dX6_use_6 rfl ?_
  obtain ⟨qσ3, hf⟩ := cc_t_s hf
  obtain ⟨σ3, z5, hσ3, hf⟩ := cc_ci_s hf
  obtain ⟨iz5, mσ3⟩ := hR 60 σ1 [z2, 7, 0] σ3 0 z5 hσ3
  have mσ3 : cw_Met l v yX6_init cX6_init 3 none d [cR z2, .int (rI 7), .int (rI 0)] σ1 σ3 0 none := mσ3 iz2 ⟨by decide, by decide⟩ ⟨by decide, by decide⟩
  refine cw_ci (b := z2) (n := 2) (rest := [cR z2]) (As := [.int (rI 7), .int (rI 0)]) B mσ3 qσ3.1 rfl cgo_yX6_init cml_6_47 cin_yX6_init (by decide +kernel) (by decide) rfl hl.1.1 (cl_cs (cl_1r cl_10) (Nat.le_of_ble_eq_true rfl)) dX6_use_7 rfl hw (fun H locs cells slots hw => ?_)
  refine cl_astore_n (lv' := [(2, cR z2), (0, cR x0), (1, cR x1)]) hx hb dX6_use_10 rfl hl (by decide) rfl (fun ls hl => ?_)
  refine cl_aload_n hx hb dX6_use_11 rfl (lv_at hl.1 0 rfl) ?_
  refine cl_aload_n hx hb dX6_use_12 rfl (lv_at hl.1 1 rfl) ?_
  obtain ⟨σ6, eσ6, rσ6, hf⟩ := cc_p_s hf
  refine cw_put B hw rσ6 cwt_7 (by decide) rfl cfl_6_24 ix0 eσ6 rfl (cw_fv_r rfl (Or.inl ⟨_, rfl⟩)) dX6_use_13 (fun H locs hw => ?_)
  refine cl_aload_n hx hb dX6_use_16 rfl (lv_at hl.1 0 rfl) ?_
  refine cl_aload_n hx hb dX6_use_17 rfl (lv_at hl.1 2 rfl) ?_
  obtain ⟨σ7, eσ7, rσ7, hf⟩ := cc_p_s hf
  refine cw_put B hw rσ7 cwt_7 (by decide) rfl cfl_6_31 ix1 eσ7 rfl (cw_fv_r rfl (Or.inr ⟨_, rfl⟩)) dX6_use_18 (fun H locs hw => ?_)
  refine cl_aload_n hx hb dX6_use_21 rfl (lv_at hl.1 0 rfl) ?_
  refine cl_aload_n hx hb dX6_use_22 rfl (lv_at hl.1 1 rfl) ?_
  obtain ⟨z8, ez8, iz8, rz8, hf⟩ := cc_g_s hw hf
  refine cw_get (val := .int (rI z8)) B hw rz8 ⟨by decide, by decide⟩ (by decide) cwi_7 cfl_6_9 ez8 rfl dX6_use_23 ?_
  obtain ⟨σ9, eσ9, rσ9, hf⟩ := cc_p_s hf
  refine cw_put B hw rσ9 cwt_7 (by decide) rfl cfl_6_9 iz8 eσ9 rfl (cw_fv_n rfl rfl) dX6_use_26 (fun H locs hw => ?_)
  refine cl_aload_n hx hb dX6_use_29 rfl (lv_at hl.1 0 rfl) ?_
  refine cl_aload_n hx hb dX6_use_30 rfl (lv_at hl.1 1 rfl) ?_
  obtain ⟨z10, ez10, iz10, rz10, hf⟩ := cc_g_s hw hf
  refine cw_get (val := .int (rI z10)) B hw rz10 ⟨by decide, by decide⟩ (by decide) cwi_7 cfl_6_15 ez10 rfl dX6_use_31 ?_
  obtain ⟨σ11, eσ11, rσ11, hf⟩ := cc_p_s hf
  refine cw_put B hw rσ11 cwt_7 (by decide) rfl cfl_6_15 iz10 eσ11 rfl (cw_fv_n rfl rfl) dX6_use_34 (fun H locs hw => ?_)
  refine cl_aload_n hx hb dX6_use_37 rfl (lv_at hl.1 0 rfl) ?_
  exact cw_reta B hf hw dX6_use_38

set_option maxHeartbeats 4000000 in
set_option maxRecDepth 100000 in
theorem pm_X6_use {v : cwE} {bd : Nat × Nat} {l : Launch} {d : Nat} {rec : Nat → CS → List Int → CO} (hbd : bd = (v.2.2.1, v.2.2.2.1)) (hR : cw_Rec l v d rec) (htr : l.stackTraces = false) (hd5 : 5 ≤ d) (σ σ' : CS) (x0 x1 : Int) (kd : Nat) (r : Int) (ix0 : inR x0) (ix1 : inR x1) (hf : pc_X6_use_0 rec bd σ x0 x1 = some (σ', kd, r)) : cw_Met l v yX6_use cX6_use 3 (some (.object "PureHouse$Node")) (d + 1) [cR x0, cR x1] σ σ' kd (some (cR r)) := by
  refine cw_ofW (by decide +kernel) ?_
  intro p e s m args below meth c s₁ B hml hv
  obtain ⟨rfl, hM, hK⟩ := hv
  have hts := atoms_spec (ws := Cond.code yX6_use cX6_use 3 (some (.object "PureHouse$Node")) :: cw_bw) B.pre
  have hB : cw_B v RX6 p s m _ meth c cX6_use 3 (some (.object "PureHouse$Node")) := ⟨B.exec, B.bytes, B.returns, hml, findClass_of_methodNamed B.named, fun w h => hts w (List.mem_cons_of_mem _ h), B.notSynchronized, hK⟩
  have hnh := cc_nh B (hts _ List.mem_cons_self)
  rw [lg_entry_eq]
  obtain ⟨ls, hls, hl⟩ := cl_ent [cR x0, cR x1] 3 (cl_1r (cl_1r cl_10)) (Nat.le_of_ble_eq_true rfl)
  rw [hls]
  exact pw_X6_use_0 hbd hR htr hd5 hB hnh σ x0 x1 ix0 ix1 hf _ _ _ _ _ (cw_W0 hM) (cl_sub hl [0, 1] rfl)

set_option maxHeartbeats 4000000 in
set_option maxRecDepth 100000 in
theorem pw_X7_atomBegins_0 {v : cwE} {bd : Nat × Nat} {p : Program} {l : Launch} {e : Env} {s : State} {m : MethodId} {args : Array Value} {below : List Frame} {meth : Method} {c : Code} {d : Nat} {rec : Nat → CS → List Int → CO} {σ0 σ' : CS} {kd : Nat} {r : Int} (hbd : bd = (v.2.2.1, v.2.2.2.1)) (hR : cw_Rec l v d rec) (htr : l.stackTraces = false) (hd5 : 5 ≤ d) (B : cw_B v RX7 p s m args meth c cX7_atomBegins 1 (some .boolean)) (hnh : ∀ x ∈ c.exceptionTable.toList, False) : ∀ (σ : CS) (x0 : Int), inR x0 → pc_X7_atomBegins_0 rec bd σ x0 = some (σ', kd, r) → ∀ (H : Heap) (locs : List Loc) (cells slots : Nat) (ls : Array Slot), cw_W v s σ0 σ H locs cells slots → cl_has ls 1 [(0, cR x0)] → W p l e (cw_rm v (d + 1) σ0) s m args below meth c H locs cells slots (cw_Z below v σ0 σ' kd (some (.int (rI r))) args s) (F0 m 0 ls []) := by
  subst hbd
  obtain ⟨hx, hb, hr, hml, hown, hts, hlk, hK⟩ := id B
  intro σ x0 ix0 hf H locs cells slots ls hw hl
  unfold pc_X7_atomBegins_0 at hf
  refine cl_aload_n hx hb dX7_atomBegins_0 rfl (lv_at hl.1 0 rfl) ?_
  obtain ⟨z1, ez1, iz1, rz1, hf⟩ := cc_g_s hw hf
  refine cw_get (val := .int (rI z1)) B hw rz1 ⟨by decide, by decide⟩ (by decide) cwi_8 cfl_7_18 ez1 rfl dX7_atomBegins_1 ?_
  refine lv_sipush (v := rI 256) hx hb dX7_atomBegins_4 (by decide +kernel) ?_
  refine rn_icmp_eq (a := z1) (b := 256) (tgt := 19) hx hb iz1 ⟨by decide, by decide⟩ dX7_atomBegins_7 (by decide) (fun c2 => ?_) (fun c2 => ?_)
  · replace hf := cc_if_t hf c2
    refine lv_iconst (v := rI 1) hx hb dX7_atomBegins_19 rfl ?_
    refine lv_goto (tgt := 24) hx hb dX7_atomBegins_20 (by decide) ?_
    obtain ⟨h01, hf⟩ := cc_bo_s hf
    exact cw_retz B h01 hf hw dX7_atomBegins_24
  · replace hf := cc_if_f hf c2
    refine cl_aload_n hx hb dX7_atomBegins_10 rfl (lv_at hl.1 0 rfl) ?_
    obtain ⟨z3, ez3, iz3, rz3, hf⟩ := cc_g_s hw hf
    refine cw_get (val := .int (rI z3)) B hw rz3 ⟨by decide, by decide⟩ (by decide) cwi_8 cfl_7_18 ez3 rfl dX7_atomBegins_11 ?_
    refine lv_bipush (v := rI 40) hx hb dX7_atomBegins_14 (by decide +kernel) ?_
    refine rn_icmp_ne (a := z3) (b := 40) (tgt := 23) hx hb iz3 ⟨by decide, by decide⟩ dX7_atomBegins_16 (by decide) (fun c4 => ?_) (fun c4 => ?_)
    · replace hf := cc_if_t hf c4
      refine lv_iconst (v := rI 0) hx hb dX7_atomBegins_23 rfl ?_
      obtain ⟨h01, hf⟩ := cc_bo_s hf
      exact cw_retz B h01 hf hw dX7_atomBegins_24
    · replace hf := cc_if_f hf c4
      refine lv_iconst (v := rI 1) hx hb dX7_atomBegins_19 rfl ?_
      refine lv_goto (tgt := 24) hx hb dX7_atomBegins_20 (by decide) ?_
      obtain ⟨h01, hf⟩ := cc_bo_s hf
      exact cw_retz B h01 hf hw dX7_atomBegins_24

set_option maxHeartbeats 4000000 in
set_option maxRecDepth 100000 in
theorem pm_X7_atomBegins {v : cwE} {bd : Nat × Nat} {l : Launch} {d : Nat} {rec : Nat → CS → List Int → CO} (hbd : bd = (v.2.2.1, v.2.2.2.1)) (hR : cw_Rec l v d rec) (htr : l.stackTraces = false) (hd5 : 5 ≤ d) (σ σ' : CS) (x0 : Int) (kd : Nat) (r : Int) (ix0 : inR x0) (hf : pc_X7_atomBegins_0 rec bd σ x0 = some (σ', kd, r)) : cw_Met l v yX7_atomBegins cX7_atomBegins 1 (some .boolean) (d + 1) [cR x0] σ σ' kd (some (.int (rI r))) := by
  refine cw_ofW (by decide +kernel) ?_
  intro p e s m args below meth c s₁ B hml hv
  obtain ⟨rfl, hM, hK⟩ := hv
  have hts := atoms_spec (ws := Cond.code yX7_atomBegins cX7_atomBegins 1 (some .boolean) :: cw_bw) B.pre
  have hB : cw_B v RX7 p s m _ meth c cX7_atomBegins 1 (some .boolean) := ⟨B.exec, B.bytes, B.returns, hml, findClass_of_methodNamed B.named, fun w h => hts w (List.mem_cons_of_mem _ h), B.notSynchronized, hK⟩
  have hnh := cc_nh B (hts _ List.mem_cons_self)
  rw [lg_entry_eq]
  obtain ⟨ls, hls, hl⟩ := cl_ent [cR x0] 1 (cl_1r cl_10) (Nat.le_of_ble_eq_true rfl)
  rw [hls]
  exact pw_X7_atomBegins_0 hbd hR htr hd5 hB hnh σ x0 ix0 hf _ _ _ _ _ (cw_W0 hM) (cl_sub hl [0] rfl)

set_option maxHeartbeats 4000000 in
set_option maxRecDepth 100000 in
theorem pw_X7_closeOf_4 {v : cwE} {bd : Nat × Nat} {p : Program} {l : Launch} {e : Env} {s : State} {m : MethodId} {args : Array Value} {below : List Frame} {meth : Method} {c : Code} {d : Nat} {rec : Nat → CS → List Int → CO} {σ0 σ' : CS} {kd : Nat} {r : Int} (hbd : bd = (v.2.2.1, v.2.2.2.1)) (hR : cw_Rec l v d rec) (htr : l.stackTraces = false) (hd5 : 5 ≤ d) (B : cw_B v RX7 p s m args meth c cX7_closeOf 3 (some .int)) (hnh : ∀ x ∈ c.exceptionTable.toList, False) : ∀ (n : Nat) (σ : CS) (x0 x2 : Int), inR x0 → inR x2 → pc_X7_closeOf_4 rec bd n σ x0 x2 = some (σ', kd, r) → ∀ (H : Heap) (locs : List Loc) (cells slots : Nat) (ls : Array Slot), cw_W v s σ0 σ H locs cells slots → cl_has ls 3 [(0, cR x0), (2, .int (rI x2))] → W p l e (cw_rm v (d + 1) σ0) s m args below meth c H locs cells slots (cw_Z below v σ0 σ' kd (some (.int (rI r))) args s) (F0 m 4 ls []) := by
  subst hbd
  obtain ⟨hx, hb, hr, hml, hown, hts, hlk, hK⟩ := id B
  intro n
  induction n with
  | zero => intro σ x0 x2 ix0 ix2 hf; cases hf
  | succ n ih =>
    intro σ x0 x2 ix0 ix2 hf H locs cells slots ls hw hl
    unfold pc_X7_closeOf_4 at hf
    refine lv_iload_n hx hb dX7_closeOf_4 rfl (lv_at hl.1 1 rfl) ?_
    refine cl_aload_n hx hb dX7_closeOf_5 rfl (lv_at hl.1 0 rfl) ?_
    obtain ⟨z1, ez1, iz1, rz1, hf⟩ := cc_g_s hw hf
    refine cw_get (val := .int (rI z1)) B hw rz1 ⟨by decide, by decide⟩ (by decide) cwi_8 cfl_7_9 ez1 rfl dX7_closeOf_6 ?_
    refine rn_icmp_ge (a := x2) (b := z1) (tgt := 31) hx hb ix2 iz1 dX7_closeOf_9 (by decide) (fun c2 => ?_) (fun c2 => ?_)
    · replace hf := cc_if_t hf c2
      refine lv_iconst (v := rI (-1)) hx hb dX7_closeOf_31 rfl ?_
      exact cw_reti B hf hw dX7_closeOf_32
    · replace hf := cc_if_f hf c2
      refine cl_aload_n hx hb dX7_closeOf_12 rfl (lv_at hl.1 0 rfl) ?_
      obtain ⟨z3, ez3, iz3, rz3, hf⟩ := cc_g_s hw hf
      refine cw_get (val := cR z3) B hw rz3 ⟨by decide, by decide⟩ (by decide) cwi_8 cfl_7_30 ez3 rfl dX7_closeOf_13 ?_
      refine lv_iload_n hx hb dX7_closeOf_16 rfl (lv_at hl.1 1 rfl) ?_
      obtain ⟨z4, ez4, iz4, rz4, bz4, hf⟩ := cc_r_s hw hf
      refine cw_aldB B hw rz4 ix2 bz4 ez4 dX7_closeOf_17 ?_
      refine lv_bipush (v := rI 125) hx hb dX7_closeOf_18 (by decide +kernel) ?_
      refine rn_icmp_ne (a := z4) (b := 125) (tgt := 25) hx hb iz4 ⟨by decide, by decide⟩ dX7_closeOf_20 (by decide) (fun c5 => ?_) (fun c5 => ?_)
      · replace hf := cc_if_t hf c5
        obtain ⟨z6, ez6, iz6, hf⟩ := cc_ck_s hf
        refine cl_iinc (v := rI z6) (lv' := [(2, .int (rI z6)), (0, cR x0)]) hx hb dX7_closeOf_25 hl (k := 1) rfl (by rw [ez6]; exact rI_add _ _) (by decide) rfl (fun ls hl => ?_)
        refine lv_goto (tgt := 4) hx hb dX7_closeOf_28 (by decide) ?_
        exact ih σ x0 z6 ix0 iz6 hf _ _ _ _ _ hw (cl_sub hl [1, 0] rfl)
      · replace hf := cc_if_f hf c5
        refine lv_iload_n hx hb dX7_closeOf_23 rfl (lv_at hl.1 1 rfl) ?_
        exact cw_reti B hf hw dX7_closeOf_24

set_option maxHeartbeats 4000000 in
set_option maxRecDepth 100000 in
theorem pw_X7_closeOf_0 {v : cwE} {bd : Nat × Nat} {p : Program} {l : Launch} {e : Env} {s : State} {m : MethodId} {args : Array Value} {below : List Frame} {meth : Method} {c : Code} {d : Nat} {rec : Nat → CS → List Int → CO} {σ0 σ' : CS} {kd : Nat} {r : Int} (hbd : bd = (v.2.2.1, v.2.2.2.1)) (hR : cw_Rec l v d rec) (htr : l.stackTraces = false) (hd5 : 5 ≤ d) (B : cw_B v RX7 p s m args meth c cX7_closeOf 3 (some .int)) (hnh : ∀ x ∈ c.exceptionTable.toList, False) : ∀ (σ : CS) (x0 x1 : Int), inR x0 → inR x1 → pc_X7_closeOf_0 rec bd σ x0 x1 = some (σ', kd, r) → ∀ (H : Heap) (locs : List Loc) (cells slots : Nat) (ls : Array Slot), cw_W v s σ0 σ H locs cells slots → cl_has ls 3 [(0, cR x0), (1, .int (rI x1))] → W p l e (cw_rm v (d + 1) σ0) s m args below meth c H locs cells slots (cw_Z below v σ0 σ' kd (some (.int (rI r))) args s) (F0 m 0 ls []) := by
  subst hbd
  obtain ⟨hx, hb, hr, hml, hown, hts, hlk, hK⟩ := id B
  intro σ x0 x1 ix0 ix1 hf H locs cells slots ls hw hl
  unfold pc_X7_closeOf_0 at hf
  refine lv_iload_n hx hb dX7_closeOf_0 rfl (lv_at hl.1 1 rfl) ?_
  refine lv_iconst (v := rI 1) hx hb dX7_closeOf_1 rfl ?_
  obtain ⟨z1, ez1, iz1, hf⟩ := cc_ck_s hf
  refine rn_add hx hb ez1 dX7_closeOf_2 ?_
  refine cl_istore_n (lv' := [(2, .int (rI z1)), (0, cR x0), (1, .int (rI x1))]) hx hb dX7_closeOf_3 rfl hl (by decide) rfl (fun ls hl => ?_)
  exact pw_X7_closeOf_4 rfl hR htr hd5 B hnh 1100000 σ x0 z1 ix0 iz1 hf _ _ _ _ _ hw (cl_sub hl [1, 0] rfl)

set_option maxHeartbeats 4000000 in
set_option maxRecDepth 100000 in
theorem pm_X7_closeOf {v : cwE} {bd : Nat × Nat} {l : Launch} {d : Nat} {rec : Nat → CS → List Int → CO} (hbd : bd = (v.2.2.1, v.2.2.2.1)) (hR : cw_Rec l v d rec) (htr : l.stackTraces = false) (hd5 : 5 ≤ d) (σ σ' : CS) (x0 x1 : Int) (kd : Nat) (r : Int) (ix0 : inR x0) (ix1 : inR x1) (hf : pc_X7_closeOf_0 rec bd σ x0 x1 = some (σ', kd, r)) : cw_Met l v yX7_closeOf cX7_closeOf 3 (some .int) (d + 1) [cR x0, .int (rI x1)] σ σ' kd (some (.int (rI r))) := by
  refine cw_ofW (by decide +kernel) ?_
  intro p e s m args below meth c s₁ B hml hv
  obtain ⟨rfl, hM, hK⟩ := hv
  have hts := atoms_spec (ws := Cond.code yX7_closeOf cX7_closeOf 3 (some .int) :: cw_bw) B.pre
  have hB : cw_B v RX7 p s m _ meth c cX7_closeOf 3 (some .int) := ⟨B.exec, B.bytes, B.returns, hml, findClass_of_methodNamed B.named, fun w h => hts w (List.mem_cons_of_mem _ h), B.notSynchronized, hK⟩
  have hnh := cc_nh B (hts _ List.mem_cons_self)
  rw [lg_entry_eq]
  obtain ⟨ls, hls, hl⟩ := cl_ent [cR x0, .int (rI x1)] 3 (cl_1r (cl_1i cl_10)) (Nat.le_of_ble_eq_true rfl)
  rw [hls]
  exact pw_X7_closeOf_0 hbd hR htr hd5 hB hnh σ x0 x1 ix0 ix1 hf _ _ _ _ _ (cw_W0 hM) (cl_sub hl [0, 1] rfl)

set_option maxHeartbeats 4000000 in
set_option maxRecDepth 100000 in
theorem pw_X7_init_0 {v : cwE} {bd : Nat × Nat} {p : Program} {l : Launch} {e : Env} {s : State} {m : MethodId} {args : Array Value} {below : List Frame} {meth : Method} {c : Code} {d : Nat} {rec : Nat → CS → List Int → CO} {σ0 σ' : CS} {kd : Nat} {r : Int} (hbd : bd = (v.2.2.1, v.2.2.2.1)) (hR : cw_Rec l v d rec) (htr : l.stackTraces = false) (hd5 : 5 ≤ d) (B : cw_B v RX7 p s m args meth c cX7_init 3 none) (hin : meth.name = "<init>") (hnh : ∀ x ∈ c.exceptionTable.toList, False) : ∀ (σ : CS) (x0 x1 x2 : Int), inR x0 → inR x1 → inR x2 → pc_X7_init_0 rec bd σ x0 x1 x2 = some (σ', kd, r) → ∀ (H : Heap) (locs : List Loc) (cells slots : Nat) (ls : Array Slot), cw_W v s σ0 σ H locs cells slots → cl_has ls 3 [(0, cR x0), (1, cR x1), (2, cR x2)] → W p l e (cw_rm v (d + 1) σ0) s m args below meth c H locs cells slots (cw_Z below v σ0 σ' kd none args s) (F0 m 0 ls []) := by
  subst hbd
  obtain ⟨hx, hb, hr, hml, hown, hts, hlk, hK⟩ := id B
  intro σ x0 x1 x2 ix0 ix1 ix2 hf H locs cells slots ls hw hl
  unfold pc_X7_init_0 at hf
  refine cl_aload_n hx hb dX7_init_0 rfl (lv_at hl.1 0 rfl) ?_
  obtain ⟨q0, hf⟩ := cc_t_s hf
  rw [cR_r q0.1]
  refine W.objInit hx hb hown (hts _ coi_7_3) (hts _ coi2) (hts _ coi3) rfl (hl.1.1.trans hml.symm) rfl dX7_init_1 (by show 1 ≤ d + 1; omega) (by show _ + 12 ≤ 100 * (d + 1); simp [JFrame.monitorRoom]; omega) ?_
  refine cl_aload_n hx hb dX7_init_4 rfl (lv_at hl.1 0 rfl) ?_
  refine lv_iconst (v := rI 0) hx hb dX7_init_5 rfl ?_
  obtain ⟨σ1, eσ1, rσ1, hf⟩ := cc_p_s hf
  refine cw_put B hw rσ1 cwt_8 (by decide) rfl cfl_7_9 ⟨by decide, by decide⟩ eσ1 rfl (cw_fv_n rfl rfl) dX7_init_6 (fun H locs hw => ?_)
  refine cl_aload_n hx hb dX7_init_9 rfl (lv_at hl.1 0 rfl) ?_
  refine lv_iconst (v := rI 0) hx hb dX7_init_10 rfl ?_
  obtain ⟨σ2, eσ2, rσ2, hf⟩ := cc_p_s hf
  refine cw_put B hw rσ2 cwt_8 (by decide) rfl cfl_7_15 ⟨by decide, by decide⟩ eσ2 rfl (cw_fv_n rfl rfl) dX7_init_11 (fun H locs hw => ?_)
  refine cl_aload_n hx hb dX7_init_14 rfl (lv_at hl.1 0 rfl) ?_
  refine lv_sipush (v := rI 261) hx hb dX7_init_15 (by decide +kernel) ?_
  obtain ⟨σ3, eσ3, rσ3, hf⟩ := cc_p_s hf
  refine cw_put B hw rσ3 cwt_8 (by decide) rfl cfl_7_18 ⟨by decide, by decide⟩ eσ3 rfl (cw_fv_n rfl rfl) dX7_init_18 (fun H locs hw => ?_)
  refine cl_aload_n hx hb dX7_init_21 rfl (lv_at hl.1 0 rfl) ?_
  refine lv_iconst (v := rI 0) hx hb dX7_init_22 rfl ?_
  obtain ⟨σ4, eσ4, rσ4, hf⟩ := cc_p_s hf
  refine cw_put B hw rσ4 cwt_8 (by decide) rfl cfl_7_21 ⟨by decide, by decide⟩ eσ4 rfl (cw_fv_n rfl rfl) dX7_init_23 (fun H locs hw => ?_)
  refine cl_aload_n hx hb dX7_init_26 rfl (lv_at hl.1 0 rfl) ?_
  refine lv_iconst (v := rI 0) hx hb dX7_init_27 rfl ?_
  obtain ⟨σ5, eσ5, rσ5, hf⟩ := cc_p_s hf
  refine cw_put B hw rσ5 cwt_8 (by decide) rfl cfl_7_24 ⟨by decide, by decide⟩ eσ5 rfl (cw_fv_n rfl rfl) dX7_init_28 (fun H locs hw => ?_)
  refine cl_aload_n hx hb dX7_init_31 rfl (lv_at hl.1 0 rfl) ?_
  refine lv_iconst (v := rI 0) hx hb dX7_init_32 rfl ?_
  obtain ⟨σ6, eσ6, rσ6, hf⟩ := cc_p_s hf
  refine cw_put B hw rσ6 cwt_8 (by decide) rfl cfl_7_27 ⟨by decide, by decide⟩ eσ6 rfl (cw_fv_n rfl rfl) dX7_init_33 (fun H locs hw => ?_)
  refine cl_aload_n hx hb dX7_init_36 rfl (lv_at hl.1 0 rfl) ?_
  refine cl_aload_n hx hb dX7_init_37 rfl (lv_at hl.1 1 rfl) ?_
  obtain ⟨σ7, eσ7, rσ7, hf⟩ := cc_p_s hf
  refine cw_putF B hin hw rσ7 cwt_8 (by decide) rfl rfl rfl cfl_7_30 ix1 eσ7 rfl (cw_fv_r rfl (Or.inr ⟨_, rfl⟩)) dX7_init_38 (fun H locs hw => ?_)
  refine cl_aload_n hx hb dX7_init_41 rfl (lv_at hl.1 0 rfl) ?_
  refine cl_aload_n hx hb dX7_init_42 rfl (lv_at hl.1 2 rfl) ?_
  obtain ⟨σ8, eσ8, rσ8, hf⟩ := cc_p_s hf
  refine cw_putF B hin hw rσ8 cwt_8 (by decide) rfl rfl rfl cfl_7_34 ix2 eσ8 rfl (cw_fv_r rfl (Or.inl ⟨_, rfl⟩)) dX7_init_43 (fun H locs hw => ?_)
  exact cw_retv B hf hw dX7_init_46

set_option maxHeartbeats 4000000 in
set_option maxRecDepth 100000 in
theorem pm_X7_init {v : cwE} {bd : Nat × Nat} {l : Launch} {d : Nat} {rec : Nat → CS → List Int → CO} (hbd : bd = (v.2.2.1, v.2.2.2.1)) (hR : cw_Rec l v d rec) (htr : l.stackTraces = false) (hd5 : 5 ≤ d) (σ σ' : CS) (x0 x1 x2 : Int) (kd : Nat) (r : Int) (ix0 : inR x0) (ix1 : inR x1) (ix2 : inR x2) (hf : pc_X7_init_0 rec bd σ x0 x1 x2 = some (σ', kd, r)) : cw_Met l v yX7_init cX7_init 3 none (d + 1) [cR x0, cR x1, cR x2] σ σ' kd none := by
  refine cw_ofW (by decide +kernel) ?_
  intro p e s m args below meth c s₁ B hml hv
  obtain ⟨rfl, hM, hK⟩ := hv
  have hts := atoms_spec (ws := Cond.code yX7_init cX7_init 3 none :: cw_bw) B.pre
  have hB : cw_B v RX7 p s m _ meth c cX7_init 3 none := ⟨B.exec, B.bytes, B.returns, hml, findClass_of_methodNamed B.named, fun w h => hts w (List.mem_cons_of_mem _ h), B.notSynchronized, hK⟩
  have hnh := cc_nh B (hts _ List.mem_cons_self)
  rw [lg_entry_eq]
  obtain ⟨ls, hls, hl⟩ := cl_ent [cR x0, cR x1, cR x2] 3 (cl_1r (cl_1r (cl_1r cl_10))) (Nat.le_of_ble_eq_true rfl)
  rw [hls]
  exact pw_X7_init_0 hbd hR htr hd5 hB (name_of_methodNamed B.named B.method).1 hnh σ x0 x1 x2 ix0 ix1 ix2 hf _ _ _ _ _ (cw_W0 hM) (cl_sub hl [0, 1, 2] rfl)

set_option maxHeartbeats 4000000 in
set_option maxRecDepth 100000 in
theorem pw_X7_isLetter_12 {v : cwE} {bd : Nat × Nat} {p : Program} {l : Launch} {e : Env} {s : State} {m : MethodId} {args : Array Value} {below : List Frame} {meth : Method} {c : Code} {d : Nat} {rec : Nat → CS → List Int → CO} {σ0 σ' : CS} {kd : Nat} {r : Int} (hbd : bd = (v.2.2.1, v.2.2.2.1)) (hR : cw_Rec l v d rec) (htr : l.stackTraces = false) (hd5 : 5 ≤ d) (B : cw_B v RX7 p s m args meth c cX7_isLetter 1 (some .boolean)) (hnh : ∀ x ∈ c.exceptionTable.toList, False) : ∀ (σ : CS) (x0 : Int), inR x0 → pc_X7_isLetter_12 rec bd σ x0 = some (σ', kd, r) → ∀ (H : Heap) (locs : List Loc) (cells slots : Nat) (ls : Array Slot), cw_W v s σ0 σ H locs cells slots → cl_has ls 1 [(0, .int (rI x0))] → W p l e (cw_rm v (d + 1) σ0) s m args below meth c H locs cells slots (cw_Z below v σ0 σ' kd (some (.int (rI r))) args s) (F0 m 12 ls []) := by
  subst hbd
  obtain ⟨hx, hb, hr, hml, hown, hts, hlk, hK⟩ := id B
  intro σ x0 ix0 hf H locs cells slots ls hw hl
  unfold pc_X7_isLetter_12 at hf
  refine lv_iload_n hx hb dX7_isLetter_12 rfl (lv_at hl.1 0 rfl) ?_
  refine lv_bipush (v := rI 65) hx hb dX7_isLetter_13 (by decide +kernel) ?_
  refine rn_icmp_lt (a := x0) (b := 65) (tgt := 28) hx hb ix0 ⟨by decide, by decide⟩ dX7_isLetter_15 (by decide) (fun c1 => ?_) (fun c1 => ?_)
  · replace hf := cc_if_t hf c1
    refine lv_iconst (v := rI 0) hx hb dX7_isLetter_28 rfl ?_
    obtain ⟨h01, hf⟩ := cc_bo_s hf
    exact cw_retz B h01 hf hw dX7_isLetter_29
  · replace hf := cc_if_f hf c1
    refine lv_iload_n hx hb dX7_isLetter_18 rfl (lv_at hl.1 0 rfl) ?_
    refine lv_bipush (v := rI 90) hx hb dX7_isLetter_19 (by decide +kernel) ?_
    refine rn_icmp_gt (a := x0) (b := 90) (tgt := 28) hx hb ix0 ⟨by decide, by decide⟩ dX7_isLetter_21 (by decide) (fun c2 => ?_) (fun c2 => ?_)
    · replace hf := cc_if_t hf c2
      refine lv_iconst (v := rI 0) hx hb dX7_isLetter_28 rfl ?_
      obtain ⟨h01, hf⟩ := cc_bo_s hf
      exact cw_retz B h01 hf hw dX7_isLetter_29
    · replace hf := cc_if_f hf c2
      refine lv_iconst (v := rI 1) hx hb dX7_isLetter_24 rfl ?_
      refine lv_goto (tgt := 29) hx hb dX7_isLetter_25 (by decide) ?_
      obtain ⟨h01, hf⟩ := cc_bo_s hf
      exact cw_retz B h01 hf hw dX7_isLetter_29

set_option maxHeartbeats 4000000 in
set_option maxRecDepth 100000 in
theorem pw_X7_isLetter_0 {v : cwE} {bd : Nat × Nat} {p : Program} {l : Launch} {e : Env} {s : State} {m : MethodId} {args : Array Value} {below : List Frame} {meth : Method} {c : Code} {d : Nat} {rec : Nat → CS → List Int → CO} {σ0 σ' : CS} {kd : Nat} {r : Int} (hbd : bd = (v.2.2.1, v.2.2.2.1)) (hR : cw_Rec l v d rec) (htr : l.stackTraces = false) (hd5 : 5 ≤ d) (B : cw_B v RX7 p s m args meth c cX7_isLetter 1 (some .boolean)) (hnh : ∀ x ∈ c.exceptionTable.toList, False) : ∀ (σ : CS) (x0 : Int), inR x0 → pc_X7_isLetter_0 rec bd σ x0 = some (σ', kd, r) → ∀ (H : Heap) (locs : List Loc) (cells slots : Nat) (ls : Array Slot), cw_W v s σ0 σ H locs cells slots → cl_has ls 1 [(0, .int (rI x0))] → W p l e (cw_rm v (d + 1) σ0) s m args below meth c H locs cells slots (cw_Z below v σ0 σ' kd (some (.int (rI r))) args s) (F0 m 0 ls []) := by
  subst hbd
  obtain ⟨hx, hb, hr, hml, hown, hts, hlk, hK⟩ := id B
  intro σ x0 ix0 hf H locs cells slots ls hw hl
  unfold pc_X7_isLetter_0 at hf
  refine lv_iload_n hx hb dX7_isLetter_0 rfl (lv_at hl.1 0 rfl) ?_
  refine lv_bipush (v := rI 97) hx hb dX7_isLetter_1 (by decide +kernel) ?_
  refine rn_icmp_lt (a := x0) (b := 97) (tgt := 12) hx hb ix0 ⟨by decide, by decide⟩ dX7_isLetter_3 (by decide) (fun c1 => ?_) (fun c1 => ?_)
  · replace hf := cc_if_t hf c1
    exact pw_X7_isLetter_12 rfl hR htr hd5 B hnh σ x0 ix0 hf _ _ _ _ _ hw (cl_sub hl [0] rfl)
  · replace hf := cc_if_f hf c1
    refine lv_iload_n hx hb dX7_isLetter_6 rfl (lv_at hl.1 0 rfl) ?_
    refine lv_bipush (v := rI 122) hx hb dX7_isLetter_7 (by decide +kernel) ?_
    refine rn_icmp_le (a := x0) (b := 122) (tgt := 24) hx hb ix0 ⟨by decide, by decide⟩ dX7_isLetter_9 (by decide) (fun c2 => ?_) (fun c2 => ?_)
    · replace hf := cc_if_t hf c2
      refine lv_iconst (v := rI 1) hx hb dX7_isLetter_24 rfl ?_
      refine lv_goto (tgt := 29) hx hb dX7_isLetter_25 (by decide) ?_
      obtain ⟨h01, hf⟩ := cc_bo_s hf
      exact cw_retz B h01 hf hw dX7_isLetter_29
    · replace hf := cc_if_f hf c2
      exact pw_X7_isLetter_12 rfl hR htr hd5 B hnh σ x0 ix0 hf _ _ _ _ _ hw (cl_sub hl [0] rfl)

set_option maxHeartbeats 4000000 in
set_option maxRecDepth 100000 in
theorem pm_X7_isLetter {v : cwE} {bd : Nat × Nat} {l : Launch} {d : Nat} {rec : Nat → CS → List Int → CO} (hbd : bd = (v.2.2.1, v.2.2.2.1)) (hR : cw_Rec l v d rec) (htr : l.stackTraces = false) (hd5 : 5 ≤ d) (σ σ' : CS) (x0 : Int) (kd : Nat) (r : Int) (ix0 : inR x0) (hf : pc_X7_isLetter_0 rec bd σ x0 = some (σ', kd, r)) : cw_Met l v yX7_isLetter cX7_isLetter 1 (some .boolean) (d + 1) [.int (rI x0)] σ σ' kd (some (.int (rI r))) := by
  refine cw_ofW (by decide +kernel) ?_
  intro p e s m args below meth c s₁ B hml hv
  obtain ⟨rfl, hM, hK⟩ := hv
  have hts := atoms_spec (ws := Cond.code yX7_isLetter cX7_isLetter 1 (some .boolean) :: cw_bw) B.pre
  have hB : cw_B v RX7 p s m _ meth c cX7_isLetter 1 (some .boolean) := ⟨B.exec, B.bytes, B.returns, hml, findClass_of_methodNamed B.named, fun w h => hts w (List.mem_cons_of_mem _ h), B.notSynchronized, hK⟩
  have hnh := cc_nh B (hts _ List.mem_cons_self)
  rw [lg_entry_eq]
  obtain ⟨ls, hls, hl⟩ := cl_ent [.int (rI x0)] 1 (cl_1i cl_10) (Nat.le_of_ble_eq_true rfl)
  rw [hls]
  exact pw_X7_isLetter_0 hbd hR htr hd5 hB hnh σ x0 ix0 hf _ _ _ _ _ (cw_W0 hM) (cl_sub hl [0] rfl)

set_option maxHeartbeats 4000000 in
set_option maxRecDepth 100000 in
theorem pw_X7_isNameSign_19 {v : cwE} {bd : Nat × Nat} {p : Program} {l : Launch} {e : Env} {s : State} {m : MethodId} {args : Array Value} {below : List Frame} {meth : Method} {c : Code} {d : Nat} {rec : Nat → CS → List Int → CO} {σ0 σ' : CS} {kd : Nat} {r : Int} (hbd : bd = (v.2.2.1, v.2.2.2.1)) (hR : cw_Rec l v d rec) (htr : l.stackTraces = false) (hd5 : 5 ≤ d) (B : cw_B v RX7 p s m args meth c cX7_isNameSign 1 (some .boolean)) (hnh : ∀ x ∈ c.exceptionTable.toList, False) : ∀ (σ : CS) (x0 : Int), inR x0 → pc_X7_isNameSign_19 rec bd σ x0 = some (σ', kd, r) → ∀ (H : Heap) (locs : List Loc) (cells slots : Nat) (ls : Array Slot), cw_W v s σ0 σ H locs cells slots → cl_has ls 1 [(0, .int (rI x0))] → W p l e (cw_rm v (d + 1) σ0) s m args below meth c H locs cells slots (cw_Z below v σ0 σ' kd (some (.int (rI r))) args s) (F0 m 19 ls []) := by
  subst hbd
  obtain ⟨hx, hb, hr, hml, hown, hts, hlk, hK⟩ := id B
  intro σ x0 ix0 hf H locs cells slots ls hw hl
  unfold pc_X7_isNameSign_19 at hf
  refine lv_iload_n hx hb dX7_isNameSign_19 rfl (lv_at hl.1 0 rfl) ?_
  refine lv_bipush (v := rI 39) hx hb dX7_isNameSign_20 (by decide +kernel) ?_
  refine rn_icmp_ne (a := x0) (b := 39) (tgt := 29) hx hb ix0 ⟨by decide, by decide⟩ dX7_isNameSign_22 (by decide) (fun c1 => ?_) (fun c1 => ?_)
  · replace hf := cc_if_t hf c1
    refine lv_iconst (v := rI 0) hx hb dX7_isNameSign_29 rfl ?_
    obtain ⟨h01, hf⟩ := cc_bo_s hf
    exact cw_retz B h01 hf hw dX7_isNameSign_30
  · replace hf := cc_if_f hf c1
    refine lv_iconst (v := rI 1) hx hb dX7_isNameSign_25 rfl ?_
    refine lv_goto (tgt := 30) hx hb dX7_isNameSign_26 (by decide) ?_
    obtain ⟨h01, hf⟩ := cc_bo_s hf
    exact cw_retz B h01 hf hw dX7_isNameSign_30

set_option maxHeartbeats 4000000 in
set_option maxRecDepth 100000 in
theorem pw_X7_isNameSign_0 {v : cwE} {bd : Nat × Nat} {p : Program} {l : Launch} {e : Env} {s : State} {m : MethodId} {args : Array Value} {below : List Frame} {meth : Method} {c : Code} {d : Nat} {rec : Nat → CS → List Int → CO} {σ0 σ' : CS} {kd : Nat} {r : Int} (hbd : bd = (v.2.2.1, v.2.2.2.1)) (hR : cw_Rec l v d rec) (htr : l.stackTraces = false) (hd5 : 5 ≤ d) (B : cw_B v RX7 p s m args meth c cX7_isNameSign 1 (some .boolean)) (hnh : ∀ x ∈ c.exceptionTable.toList, False) : ∀ (σ : CS) (x0 : Int), inR x0 → pc_X7_isNameSign_0 rec bd σ x0 = some (σ', kd, r) → ∀ (H : Heap) (locs : List Loc) (cells slots : Nat) (ls : Array Slot), cw_W v s σ0 σ H locs cells slots → cl_has ls 1 [(0, .int (rI x0))] → W p l e (cw_rm v (d + 1) σ0) s m args below meth c H locs cells slots (cw_Z below v σ0 σ' kd (some (.int (rI r))) args s) (F0 m 0 ls []) := by
  subst hbd
  obtain ⟨hx, hb, hr, hml, hown, hts, hlk, hK⟩ := id B
  intro σ x0 ix0 hf H locs cells slots ls hw hl
  unfold pc_X7_isNameSign_0 at hf
  refine lv_iload_n hx hb dX7_isNameSign_0 rfl (lv_at hl.1 0 rfl) ?_
  obtain ⟨σ1, kv2, z3, hσ1, hf⟩ := cc_cl_s hf
  obtain ⟨iz3, mσ1⟩ := hR 73 σ [x0] σ1 kv2 z3 hσ1
  have mσ1 : cw_Met l v yX7_isLetter cX7_isLetter 1 (some .boolean) d [.int (rI x0)] σ σ1 kv2 (some (.int (rI z3))) := mσ1 ix0
  refine cw_cs (n := 1) (rest := []) (As := [.int (rI x0)]) B mσ1 cgo_yX7_isLetter cml_7_154 cst_yX7_isLetter (by decide +kernel) (by decide) rfl hl.1.1 (Nat.le_of_ble_eq_true rfl) dX7_isNameSign_1 rfl hw (fun h0 H locs cells slots hw => ?_) (fun h0 H locs cells slots q ce hw h1 h2 h3 => ?_)
  · rcases hf with ⟨-, hf⟩ | ⟨hk, -⟩
    · skip
      refine rn_if_ne (a := z3) (tgt := 25) hx hb iz3 dX7_isNameSign_4 (by decide) (fun c4 => ?_) (fun c4 => ?_)
      · replace hf := cc_if_t hf c4
        refine lv_iconst (v := rI 1) hx hb dX7_isNameSign_25 rfl ?_
        refine lv_goto (tgt := 30) hx hb dX7_isNameSign_26 (by decide) ?_
        obtain ⟨h01, hf⟩ := cc_bo_s hf
        exact cw_retz B h01 hf hw dX7_isNameSign_30
      · replace hf := cc_if_f hf c4
        refine lv_iload_n hx hb dX7_isNameSign_7 rfl (lv_at hl.1 0 rfl) ?_
        refine lv_bipush (v := rI 48) hx hb dX7_isNameSign_8 (by decide +kernel) ?_
        refine rn_icmp_lt (a := x0) (b := 48) (tgt := 19) hx hb ix0 ⟨by decide, by decide⟩ dX7_isNameSign_10 (by decide) (fun c5 => ?_) (fun c5 => ?_)
        · replace hf := cc_if_t hf c5
          exact pw_X7_isNameSign_19 rfl hR htr hd5 B hnh σ1 x0 ix0 hf _ _ _ _ _ hw (cl_sub hl [0] rfl)
        · replace hf := cc_if_f hf c5
          refine lv_iload_n hx hb dX7_isNameSign_13 rfl (lv_at hl.1 0 rfl) ?_
          refine lv_bipush (v := rI 57) hx hb dX7_isNameSign_14 (by decide +kernel) ?_
          refine rn_icmp_le (a := x0) (b := 57) (tgt := 25) hx hb ix0 ⟨by decide, by decide⟩ dX7_isNameSign_16 (by decide) (fun c6 => ?_) (fun c6 => ?_)
          · replace hf := cc_if_t hf c6
            refine lv_iconst (v := rI 1) hx hb dX7_isNameSign_25 rfl ?_
            refine lv_goto (tgt := 30) hx hb dX7_isNameSign_26 (by decide) ?_
            obtain ⟨h01, hf⟩ := cc_bo_s hf
            exact cw_retz B h01 hf hw dX7_isNameSign_30
          · replace hf := cc_if_f hf c6
            exact pw_X7_isNameSign_19 rfl hR htr hd5 B hnh σ1 x0 ix0 hf _ _ _ _ _ hw (cl_sub hl [0] rfl)
    · exact absurd h0 hk
  · rcases hf with ⟨hk, -⟩ | ⟨-, hf⟩
    · exact absurd hk h0
    · cases hf
      exact cw_xout B hnh h0 hw h1 h2 h3

set_option maxHeartbeats 4000000 in
set_option maxRecDepth 100000 in
theorem pm_X7_isNameSign {v : cwE} {bd : Nat × Nat} {l : Launch} {d : Nat} {rec : Nat → CS → List Int → CO} (hbd : bd = (v.2.2.1, v.2.2.2.1)) (hR : cw_Rec l v d rec) (htr : l.stackTraces = false) (hd5 : 5 ≤ d) (σ σ' : CS) (x0 : Int) (kd : Nat) (r : Int) (ix0 : inR x0) (hf : pc_X7_isNameSign_0 rec bd σ x0 = some (σ', kd, r)) : cw_Met l v yX7_isNameSign cX7_isNameSign 1 (some .boolean) (d + 1) [.int (rI x0)] σ σ' kd (some (.int (rI r))) := by
  refine cw_ofW (by decide +kernel) ?_
  intro p e s m args below meth c s₁ B hml hv
  obtain ⟨rfl, hM, hK⟩ := hv
  have hts := atoms_spec (ws := Cond.code yX7_isNameSign cX7_isNameSign 1 (some .boolean) :: cw_bw) B.pre
  have hB : cw_B v RX7 p s m _ meth c cX7_isNameSign 1 (some .boolean) := ⟨B.exec, B.bytes, B.returns, hml, findClass_of_methodNamed B.named, fun w h => hts w (List.mem_cons_of_mem _ h), B.notSynchronized, hK⟩
  have hnh := cc_nh B (hts _ List.mem_cons_self)
  rw [lg_entry_eq]
  obtain ⟨ls, hls, hl⟩ := cl_ent [.int (rI x0)] 1 (cl_1i cl_10) (Nat.le_of_ble_eq_true rfl)
  rw [hls]
  exact pw_X7_isNameSign_0 hbd hR htr hd5 hB hnh σ x0 ix0 hf _ _ _ _ _ (cw_W0 hM) (cl_sub hl [0] rfl)

set_option maxHeartbeats 4000000 in
set_option maxRecDepth 100000 in
theorem pw_X7_newId_0 {v : cwE} {bd : Nat × Nat} {p : Program} {l : Launch} {e : Env} {s : State} {m : MethodId} {args : Array Value} {below : List Frame} {meth : Method} {c : Code} {d : Nat} {rec : Nat → CS → List Int → CO} {σ0 σ' : CS} {kd : Nat} {r : Int} (hbd : bd = (v.2.2.1, v.2.2.2.1)) (hR : cw_Rec l v d rec) (htr : l.stackTraces = false) (hd5 : 5 ≤ d) (B : cw_B v RX7 p s m args meth c cX7_newId 1 (some .int)) (hnh : ∀ x ∈ c.exceptionTable.toList, False) : ∀ (σ : CS) (x0 : Int), inR x0 → pc_X7_newId_0 rec bd σ x0 = some (σ', kd, r) → ∀ (H : Heap) (locs : List Loc) (cells slots : Nat) (ls : Array Slot), cw_W v s σ0 σ H locs cells slots → cl_has ls 1 [(0, cR x0)] → W p l e (cw_rm v (d + 1) σ0) s m args below meth c H locs cells slots (cw_Z below v σ0 σ' kd (some (.int (rI r))) args s) (F0 m 0 ls []) := by
  subst hbd
  obtain ⟨hx, hb, hr, hml, hown, hts, hlk, hK⟩ := id B
  intro σ x0 ix0 hf H locs cells slots ls hw hl
  unfold pc_X7_newId_0 at hf
  refine cl_aload_n hx hb dX7_newId_0 rfl (lv_at hl.1 0 rfl) ?_
  refine lv_dup hx hb dX7_newId_1 (cR_cat _) ?_
  obtain ⟨z1, ez1, iz1, rz1, hf⟩ := cc_g_s hw hf
  refine cw_get (val := .int (rI z1)) B hw rz1 ⟨by decide, by decide⟩ (by decide) cwi_8 cfl_7_27 ez1 rfl dX7_newId_2 ?_
  refine lv_iconst (v := rI 1) hx hb dX7_newId_5 rfl ?_
  obtain ⟨z2, ez2, iz2, hf⟩ := cc_ck_s hf
  refine rn_add hx hb ez2 dX7_newId_6 ?_
  obtain ⟨σ3, eσ3, rσ3, hf⟩ := cc_p_s hf
  refine cw_put B hw rσ3 cwt_8 (by decide) rfl cfl_7_27 iz2 eσ3 rfl (cw_fv_n rfl rfl) dX7_newId_7 (fun H locs hw => ?_)
  refine cl_aload_n hx hb dX7_newId_10 rfl (lv_at hl.1 0 rfl) ?_
  obtain ⟨z4, ez4, iz4, rz4, hf⟩ := cc_g_s hw hf
  refine cw_get (val := .int (rI z4)) B hw rz4 ⟨by decide, by decide⟩ (by decide) cwi_8 cfl_7_27 ez4 rfl dX7_newId_11 ?_
  exact cw_reti B hf hw dX7_newId_14

set_option maxHeartbeats 4000000 in
set_option maxRecDepth 100000 in
theorem pm_X7_newId {v : cwE} {bd : Nat × Nat} {l : Launch} {d : Nat} {rec : Nat → CS → List Int → CO} (hbd : bd = (v.2.2.1, v.2.2.2.1)) (hR : cw_Rec l v d rec) (htr : l.stackTraces = false) (hd5 : 5 ≤ d) (σ σ' : CS) (x0 : Int) (kd : Nat) (r : Int) (ix0 : inR x0) (hf : pc_X7_newId_0 rec bd σ x0 = some (σ', kd, r)) : cw_Met l v yX7_newId cX7_newId 1 (some .int) (d + 1) [cR x0] σ σ' kd (some (.int (rI r))) := by
  refine cw_ofW (by decide +kernel) ?_
  intro p e s m args below meth c s₁ B hml hv
  obtain ⟨rfl, hM, hK⟩ := hv
  have hts := atoms_spec (ws := Cond.code yX7_newId cX7_newId 1 (some .int) :: cw_bw) B.pre
  have hB : cw_B v RX7 p s m _ meth c cX7_newId 1 (some .int) := ⟨B.exec, B.bytes, B.returns, hml, findClass_of_methodNamed B.named, fun w h => hts w (List.mem_cons_of_mem _ h), B.notSynchronized, hK⟩
  have hnh := cc_nh B (hts _ List.mem_cons_self)
  rw [lg_entry_eq]
  obtain ⟨ls, hls, hl⟩ := cl_ent [cR x0] 1 (cl_1r cl_10) (Nat.le_of_ble_eq_true rfl)
  rw [hls]
  exact pw_X7_newId_0 hbd hR htr hd5 hB hnh σ x0 ix0 hf _ _ _ _ _ (cw_W0 hM) (cl_sub hl [0] rfl)

set_option maxHeartbeats 4000000 in
set_option maxRecDepth 100000 in
theorem pw_X7_refuse_19 {v : cwE} {bd : Nat × Nat} {p : Program} {l : Launch} {e : Env} {s : State} {m : MethodId} {args : Array Value} {below : List Frame} {meth : Method} {c : Code} {d : Nat} {rec : Nat → CS → List Int → CO} {σ0 σ' : CS} {kd : Nat} {r : Int} (hbd : bd = (v.2.2.1, v.2.2.2.1)) (hR : cw_Rec l v d rec) (htr : l.stackTraces = false) (hd5 : 5 ≤ d) (B : cw_B v RX7 p s m args meth c cX7_refuse 1 none) (hnh : ∀ x ∈ c.exceptionTable.toList, False) : ∀ (σ : CS) (x0 t0 t1 : Int), inR x0 → inR t0 → inR t1 → pc_X7_refuse_19 rec bd σ x0 t0 t1 = some (σ', kd, r) → ∀ (H : Heap) (locs : List Loc) (cells slots : Nat) (ls : Array Slot), cw_W v s σ0 σ H locs cells slots → cl_has ls 1 [(0, cR x0)] → W p l e (cw_rm v (d + 1) σ0) s m args below meth c H locs cells slots (cw_Z below v σ0 σ' kd none args s) (F0 m 19 ls [.int (rI t0), cR t1]) := by
  subst hbd
  obtain ⟨hx, hb, hr, hml, hown, hts, hlk, hK⟩ := id B
  intro σ x0 t0 t1 ix0 it0 it1 hf H locs cells slots ls hw hl
  unfold pc_X7_refuse_19 at hf
  refine cl_aload_n hx hb dX7_refuse_19 rfl (lv_at hl.1 0 rfl) ?_
  obtain ⟨z1, ez1, iz1, rz1, hf⟩ := cc_g_s hw hf
  refine cw_get (val := .int (rI z1)) B hw rz1 ⟨by decide, by decide⟩ (by decide) cwi_8 cfl_7_21 ez1 rfl dX7_refuse_20 ?_
  obtain ⟨qσ2, hf⟩ := cc_t_s hf
  obtain ⟨σ2, kv3, z4, hσ2, hf⟩ := cc_cl_s hf
  obtain ⟨iz4, mσ2⟩ := hR 95 σ [t1, t0, z1] σ2 kv3 z4 hσ2
  have mσ2 : cw_Met l v yX10_set cX10_set 3 none d [cR t1, .int (rI t0), .int (rI z1)] σ σ2 kv3 none := mσ2 it1 it0 iz1
  refine cw_cv (b := t1) (t := 11) (n := 2) (rest := []) (As := [.int (rI t0), .int (rI z1)]) B mσ2 qσ2 ⟨by decide, by decide⟩ cgo_yX10_set cml_7_94 cin_yX10_set cse_yX10_set (by decide +kernel) (by decide) rfl hl.1.1 (Nat.le_of_ble_eq_true rfl) dX7_refuse_23 rfl hw (fun h0 H locs cells slots hw => ?_) (fun h0 H locs cells slots q ce hw h1 h2 h3 => ?_)
  · rcases hf with ⟨-, hf⟩ | ⟨hk, -⟩
    · skip
      obtain ⟨hy, hm⟩ := cc_x_s hf
      obtain ⟨hy1, hy2⟩ := Prod.mk.inj hy
      obtain ⟨hy2, hy3⟩ := Prod.mk.inj hy2
      subst hy2
      refine cw_throw (rest := []) B hnh htr hw (by decide) (by decide +kernel) cxc_7_100 cxi_1 (cw_hat cxa_7_102 (by decide +kernel) hts hK.1) (List.all_eq_true.mp cxg_7_102) hd5 hm hy1 hl.1.1 (Nat.le_of_ble_eq_true rfl) dX7_refuse_26 dX7_refuse_29 dX7_refuse_30 dX7_refuse_33
    · exact absurd h0 hk
  · rcases hf with ⟨hk, -⟩ | ⟨-, hf⟩
    · exact absurd hk h0
    · cases hf
      exact cw_xout B hnh h0 hw h1 h2 h3

set_option maxHeartbeats 4000000 in
set_option maxRecDepth 100000 in
theorem pw_X7_refuse_0 {v : cwE} {bd : Nat × Nat} {p : Program} {l : Launch} {e : Env} {s : State} {m : MethodId} {args : Array Value} {below : List Frame} {meth : Method} {c : Code} {d : Nat} {rec : Nat → CS → List Int → CO} {σ0 σ' : CS} {kd : Nat} {r : Int} (hbd : bd = (v.2.2.1, v.2.2.2.1)) (hR : cw_Rec l v d rec) (htr : l.stackTraces = false) (hd5 : 5 ≤ d) (B : cw_B v RX7 p s m args meth c cX7_refuse 1 none) (hnh : ∀ x ∈ c.exceptionTable.toList, False) : ∀ (σ : CS) (x0 : Int), inR x0 → pc_X7_refuse_0 rec bd σ x0 = some (σ', kd, r) → ∀ (H : Heap) (locs : List Loc) (cells slots : Nat) (ls : Array Slot), cw_W v s σ0 σ H locs cells slots → cl_has ls 1 [(0, cR x0)] → W p l e (cw_rm v (d + 1) σ0) s m args below meth c H locs cells slots (cw_Z below v σ0 σ' kd none args s) (F0 m 0 ls []) := by
  subst hbd
  obtain ⟨hx, hb, hr, hml, hown, hts, hlk, hK⟩ := id B
  intro σ x0 ix0 hf H locs cells slots ls hw hl
  unfold pc_X7_refuse_0 at hf
  refine cl_aload_n hx hb dX7_refuse_0 rfl (lv_at hl.1 0 rfl) ?_
  obtain ⟨z1, ez1, iz1, rz1, hf⟩ := cc_g_s hw hf
  refine cw_get (val := cR z1) B hw rz1 ⟨by decide, by decide⟩ (by decide) cwi_8 cfl_7_34 ez1 rfl dX7_refuse_1 ?_
  refine cl_aload_n hx hb dX7_refuse_4 rfl (lv_at hl.1 0 rfl) ?_
  obtain ⟨z2, ez2, iz2, rz2, hf⟩ := cc_g_s hw hf
  refine cw_get (val := .int (rI z2)) B hw rz2 ⟨by decide, by decide⟩ (by decide) cwi_8 cfl_7_18 ez2 rfl dX7_refuse_5 ?_
  refine lv_sipush (v := rI 257) hx hb dX7_refuse_8 (by decide +kernel) ?_
  refine rn_icmp_ne (a := z2) (b := 257) (tgt := 18) hx hb iz2 ⟨by decide, by decide⟩ dX7_refuse_11 (by decide) (fun c3 => ?_) (fun c3 => ?_)
  · replace hf := cc_if_t hf c3
    refine lv_iconst (v := rI 1) hx hb dX7_refuse_18 rfl ?_
    exact pw_X7_refuse_19 rfl hR htr hd5 B hnh σ x0 1 z1 ix0 ⟨by decide, by decide⟩ iz1 hf _ _ _ _ _ hw (cl_sub hl [0] rfl)
  · replace hf := cc_if_f hf c3
    refine lv_iconst (v := rI 2) hx hb dX7_refuse_14 rfl ?_
    refine lv_goto (tgt := 19) hx hb dX7_refuse_15 (by decide) ?_
    exact pw_X7_refuse_19 rfl hR htr hd5 B hnh σ x0 2 z1 ix0 ⟨by decide, by decide⟩ iz1 hf _ _ _ _ _ hw (cl_sub hl [0] rfl)

set_option maxHeartbeats 4000000 in
set_option maxRecDepth 100000 in
theorem pm_X7_refuse {v : cwE} {bd : Nat × Nat} {l : Launch} {d : Nat} {rec : Nat → CS → List Int → CO} (hbd : bd = (v.2.2.1, v.2.2.2.1)) (hR : cw_Rec l v d rec) (htr : l.stackTraces = false) (hd5 : 5 ≤ d) (σ σ' : CS) (x0 : Int) (kd : Nat) (r : Int) (ix0 : inR x0) (hf : pc_X7_refuse_0 rec bd σ x0 = some (σ', kd, r)) : cw_Met l v yX7_refuse cX7_refuse 1 none (d + 1) [cR x0] σ σ' kd none := by
  refine cw_ofW (by decide +kernel) ?_
  intro p e s m args below meth c s₁ B hml hv
  obtain ⟨rfl, hM, hK⟩ := hv
  have hts := atoms_spec (ws := Cond.code yX7_refuse cX7_refuse 1 none :: cw_bw) B.pre
  have hB : cw_B v RX7 p s m _ meth c cX7_refuse 1 none := ⟨B.exec, B.bytes, B.returns, hml, findClass_of_methodNamed B.named, fun w h => hts w (List.mem_cons_of_mem _ h), B.notSynchronized, hK⟩
  have hnh := cc_nh B (hts _ List.mem_cons_self)
  rw [lg_entry_eq]
  obtain ⟨ls, hls, hl⟩ := cl_ent [cR x0] 1 (cl_1r cl_10) (Nat.le_of_ble_eq_true rfl)
  rw [hls]
  exact pw_X7_refuse_0 hbd hR htr hd5 hB hnh σ x0 ix0 hf _ _ _ _ _ (cw_W0 hM) (cl_sub hl [0] rfl)

set_option maxHeartbeats 4000000 in
set_option maxRecDepth 100000 in
theorem pw_X7_signToken_71 {v : cwE} {bd : Nat × Nat} {p : Program} {l : Launch} {e : Env} {s : State} {m : MethodId} {args : Array Value} {below : List Frame} {meth : Method} {c : Code} {d : Nat} {rec : Nat → CS → List Int → CO} {σ0 σ' : CS} {kd : Nat} {r : Int} (hbd : bd = (v.2.2.1, v.2.2.2.1)) (hR : cw_Rec l v d rec) (htr : l.stackTraces = false) (hd5 : 5 ≤ d) (B : cw_B v RX7 p s m args meth c cX7_signToken 3 (some .int)) (hnh : ∀ x ∈ c.exceptionTable.toList, False) : ∀ (σ : CS) (x1 : Int), inR x1 → pc_X7_signToken_71 rec bd σ x1 = some (σ', kd, r) → ∀ (H : Heap) (locs : List Loc) (cells slots : Nat) (ls : Array Slot), cw_W v s σ0 σ H locs cells slots → cl_has ls 3 [(1, .int (rI x1))] → W p l e (cw_rm v (d + 1) σ0) s m args below meth c H locs cells slots (cw_Z below v σ0 σ' kd (some (.int (rI r))) args s) (F0 m 71 ls []) := by
  subst hbd
  obtain ⟨hx, hb, hr, hml, hown, hts, hlk, hK⟩ := id B
  intro σ x1 ix1 hf H locs cells slots ls hw hl
  unfold pc_X7_signToken_71 at hf
  refine lv_iload_n hx hb dX7_signToken_71 rfl (lv_at hl.1 0 rfl) ?_
  by_cases c1 : x1 = 33
  · replace hf := cc_if_t hf c1
    refine rn_look (tgt := 156) hx hb ix1 dX7_signToken_72 (by decide) (lk_eq c1) (by decide) ?_
    refine lv_iload_n hx hb dX7_signToken_156 rfl (lv_at hl.1 0 rfl) ?_
    exact cw_reti B hf hw dX7_signToken_157
  · replace hf := cc_if_f hf c1
    by_cases c2 : x1 = 40
    · replace hf := cc_if_t hf c2
      refine rn_look (tgt := 156) hx hb ix1 dX7_signToken_72 (by decide) (lk_ne c1 (lk_eq c2)) (by decide) ?_
      refine lv_iload_n hx hb dX7_signToken_156 rfl (lv_at hl.1 0 rfl) ?_
      exact cw_reti B hf hw dX7_signToken_157
    · replace hf := cc_if_f hf c2
      by_cases c3 : x1 = 41
      · replace hf := cc_if_t hf c3
        refine rn_look (tgt := 156) hx hb ix1 dX7_signToken_72 (by decide) (lk_ne c1 (lk_ne c2 (lk_eq c3))) (by decide) ?_
        refine lv_iload_n hx hb dX7_signToken_156 rfl (lv_at hl.1 0 rfl) ?_
        exact cw_reti B hf hw dX7_signToken_157
      · replace hf := cc_if_f hf c3
        by_cases c4 : x1 = 44
        · replace hf := cc_if_t hf c4
          refine rn_look (tgt := 156) hx hb ix1 dX7_signToken_72 (by decide) (lk_ne c1 (lk_ne c2 (lk_ne c3 (lk_eq c4)))) (by decide) ?_
          refine lv_iload_n hx hb dX7_signToken_156 rfl (lv_at hl.1 0 rfl) ?_
          exact cw_reti B hf hw dX7_signToken_157
        · replace hf := cc_if_f hf c4
          by_cases c5 : x1 = 46
          · replace hf := cc_if_t hf c5
            refine rn_look (tgt := 156) hx hb ix1 dX7_signToken_72 (by decide) (lk_ne c1 (lk_ne c2 (lk_ne c3 (lk_ne c4 (lk_eq c5))))) (by decide) ?_
            refine lv_iload_n hx hb dX7_signToken_156 rfl (lv_at hl.1 0 rfl) ?_
            exact cw_reti B hf hw dX7_signToken_157
          · replace hf := cc_if_f hf c5
            by_cases c6 : x1 = 58
            · replace hf := cc_if_t hf c6
              refine rn_look (tgt := 156) hx hb ix1 dX7_signToken_72 (by decide) (lk_ne c1 (lk_ne c2 (lk_ne c3 (lk_ne c4 (lk_ne c5 (lk_eq c6)))))) (by decide) ?_
              refine lv_iload_n hx hb dX7_signToken_156 rfl (lv_at hl.1 0 rfl) ?_
              exact cw_reti B hf hw dX7_signToken_157
            · replace hf := cc_if_f hf c6
              by_cases c7 : x1 = 59
              · replace hf := cc_if_t hf c7
                refine rn_look (tgt := 156) hx hb ix1 dX7_signToken_72 (by decide) (lk_ne c1 (lk_ne c2 (lk_ne c3 (lk_ne c4 (lk_ne c5 (lk_ne c6 (lk_eq c7))))))) (by decide) ?_
                refine lv_iload_n hx hb dX7_signToken_156 rfl (lv_at hl.1 0 rfl) ?_
                exact cw_reti B hf hw dX7_signToken_157
              · replace hf := cc_if_f hf c7
                by_cases c8 : x1 = 61
                · replace hf := cc_if_t hf c8
                  refine rn_look (tgt := 156) hx hb ix1 dX7_signToken_72 (by decide) (lk_ne c1 (lk_ne c2 (lk_ne c3 (lk_ne c4 (lk_ne c5 (lk_ne c6 (lk_ne c7 (lk_eq c8)))))))) (by decide) ?_
                  refine lv_iload_n hx hb dX7_signToken_156 rfl (lv_at hl.1 0 rfl) ?_
                  exact cw_reti B hf hw dX7_signToken_157
                · replace hf := cc_if_f hf c8
                  by_cases c9 : x1 = 92
                  · replace hf := cc_if_t hf c9
                    refine rn_look (tgt := 156) hx hb ix1 dX7_signToken_72 (by decide) (lk_ne c1 (lk_ne c2 (lk_ne c3 (lk_ne c4 (lk_ne c5 (lk_ne c6 (lk_ne c7 (lk_ne c8 (lk_eq c9))))))))) (by decide) ?_
                    refine lv_iload_n hx hb dX7_signToken_156 rfl (lv_at hl.1 0 rfl) ?_
                    exact cw_reti B hf hw dX7_signToken_157
                  · replace hf := cc_if_f hf c9
                    refine rn_look (tgt := 158) hx hb ix1 dX7_signToken_72 (by decide) (lk_ne c1 (lk_ne c2 (lk_ne c3 (lk_ne c4 (lk_ne c5 (lk_ne c6 (lk_ne c7 (lk_ne c8 (lk_ne c9 lk_nil))))))))) (by decide) ?_
                    refine lv_sipush (v := rI 260) hx hb dX7_signToken_158 (by decide +kernel) ?_
                    exact cw_reti B hf hw dX7_signToken_161

set_option maxHeartbeats 4000000 in
set_option maxRecDepth 100000 in
theorem pw_X7_signToken_50 {v : cwE} {bd : Nat × Nat} {p : Program} {l : Launch} {e : Env} {s : State} {m : MethodId} {args : Array Value} {below : List Frame} {meth : Method} {c : Code} {d : Nat} {rec : Nat → CS → List Int → CO} {σ0 σ' : CS} {kd : Nat} {r : Int} (hbd : bd = (v.2.2.1, v.2.2.2.1)) (hR : cw_Rec l v d rec) (htr : l.stackTraces = false) (hd5 : 5 ≤ d) (B : cw_B v RX7 p s m args meth c cX7_signToken 3 (some .int)) (hnh : ∀ x ∈ c.exceptionTable.toList, False) : ∀ (σ : CS) (x0 x1 x2 : Int), inR x0 → inR x1 → inR x2 → pc_X7_signToken_50 rec bd σ x0 x1 x2 = some (σ', kd, r) → ∀ (H : Heap) (locs : List Loc) (cells slots : Nat) (ls : Array Slot), cw_W v s σ0 σ H locs cells slots → cl_has ls 3 [(0, cR x0), (1, .int (rI x1)), (2, .int (rI x2))] → W p l e (cw_rm v (d + 1) σ0) s m args below meth c H locs cells slots (cw_Z below v σ0 σ' kd (some (.int (rI r))) args s) (F0 m 50 ls []) := by
  subst hbd
  obtain ⟨hx, hb, hr, hml, hown, hts, hlk, hK⟩ := id B
  intro σ x0 x1 x2 ix0 ix1 ix2 hf H locs cells slots ls hw hl
  unfold pc_X7_signToken_50 at hf
  refine lv_iload_n hx hb dX7_signToken_50 rfl (lv_at hl.1 1 rfl) ?_
  refine lv_bipush (v := rI 45) hx hb dX7_signToken_51 (by decide +kernel) ?_
  refine rn_icmp_ne (a := x1) (b := 45) (tgt := 71) hx hb ix1 ⟨by decide, by decide⟩ dX7_signToken_53 (by decide) (fun c1 => ?_) (fun c1 => ?_)
  · replace hf := cc_if_t hf c1
    exact pw_X7_signToken_71 rfl hR htr hd5 B hnh σ x1 ix1 hf _ _ _ _ _ hw (cl_sub hl [1] rfl)
  · replace hf := cc_if_f hf c1
    refine lv_iload_n hx hb dX7_signToken_56 rfl (lv_at hl.1 2 rfl) ?_
    refine lv_bipush (v := rI 62) hx hb dX7_signToken_57 (by decide +kernel) ?_
    refine rn_icmp_ne (a := x2) (b := 62) (tgt := 71) hx hb ix2 ⟨by decide, by decide⟩ dX7_signToken_59 (by decide) (fun c2 => ?_) (fun c2 => ?_)
    · replace hf := cc_if_t hf c2
      exact pw_X7_signToken_71 rfl hR htr hd5 B hnh σ x1 ix1 hf _ _ _ _ _ hw (cl_sub hl [1] rfl)
    · replace hf := cc_if_f hf c2
      refine cl_aload_n hx hb dX7_signToken_62 rfl (lv_at hl.1 0 rfl) ?_
      refine lv_iconst (v := rI 2) hx hb dX7_signToken_63 rfl ?_
      obtain ⟨σ3, eσ3, rσ3, hf⟩ := cc_p_s hf
      refine cw_put B hw rσ3 cwt_8 (by decide) rfl cfl_7_24 ⟨by decide, by decide⟩ eσ3 rfl (cw_fv_n rfl rfl) dX7_signToken_64 (fun H locs hw => ?_)
      refine lv_sipush (v := rI 259) hx hb dX7_signToken_67 (by decide +kernel) ?_
      exact cw_reti B hf hw dX7_signToken_70

set_option maxHeartbeats 4000000 in
set_option maxRecDepth 100000 in
theorem pw_X7_signToken_28 {v : cwE} {bd : Nat × Nat} {p : Program} {l : Launch} {e : Env} {s : State} {m : MethodId} {args : Array Value} {below : List Frame} {meth : Method} {c : Code} {d : Nat} {rec : Nat → CS → List Int → CO} {σ0 σ' : CS} {kd : Nat} {r : Int} (hbd : bd = (v.2.2.1, v.2.2.2.1)) (hR : cw_Rec l v d rec) (htr : l.stackTraces = false) (hd5 : 5 ≤ d) (B : cw_B v RX7 p s m args meth c cX7_signToken 3 (some .int)) (hnh : ∀ x ∈ c.exceptionTable.toList, False) : ∀ (σ : CS) (x0 x1 t0 : Int), inR x0 → inR x1 → inR t0 → pc_X7_signToken_28 rec bd σ x0 x1 t0 = some (σ', kd, r) → ∀ (H : Heap) (locs : List Loc) (cells slots : Nat) (ls : Array Slot), cw_W v s σ0 σ H locs cells slots → cl_has ls 3 [(0, cR x0), (1, .int (rI x1))] → W p l e (cw_rm v (d + 1) σ0) s m args below meth c H locs cells slots (cw_Z below v σ0 σ' kd (some (.int (rI r))) args s) (F0 m 28 ls [.int (rI t0)]) := by
  subst hbd
  obtain ⟨hx, hb, hr, hml, hown, hts, hlk, hK⟩ := id B
  intro σ x0 x1 t0 ix0 ix1 it0 hf H locs cells slots ls hw hl
  unfold pc_X7_signToken_28 at hf
  refine cl_istore_n (lv' := [(2, .int (rI t0)), (0, cR x0), (1, .int (rI x1))]) hx hb dX7_signToken_28 rfl hl (by decide) rfl (fun ls hl => ?_)
  refine lv_iload_n hx hb dX7_signToken_29 rfl (lv_at hl.1 2 rfl) ?_
  refine lv_bipush (v := rI 58) hx hb dX7_signToken_30 (by decide +kernel) ?_
  refine rn_icmp_ne (a := x1) (b := 58) (tgt := 50) hx hb ix1 ⟨by decide, by decide⟩ dX7_signToken_32 (by decide) (fun c1 => ?_) (fun c1 => ?_)
  · replace hf := cc_if_t hf c1
    exact pw_X7_signToken_50 rfl hR htr hd5 B hnh σ x0 x1 t0 ix0 ix1 it0 hf _ _ _ _ _ hw (cl_sub hl [1, 2, 0] rfl)
  · replace hf := cc_if_f hf c1
    refine lv_iload_n hx hb dX7_signToken_35 rfl (lv_at hl.1 0 rfl) ?_
    refine lv_bipush (v := rI 61) hx hb dX7_signToken_36 (by decide +kernel) ?_
    refine rn_icmp_ne (a := t0) (b := 61) (tgt := 50) hx hb it0 ⟨by decide, by decide⟩ dX7_signToken_38 (by decide) (fun c2 => ?_) (fun c2 => ?_)
    · replace hf := cc_if_t hf c2
      exact pw_X7_signToken_50 rfl hR htr hd5 B hnh σ x0 x1 t0 ix0 ix1 it0 hf _ _ _ _ _ hw (cl_sub hl [1, 2, 0] rfl)
    · replace hf := cc_if_f hf c2
      refine cl_aload_n hx hb dX7_signToken_41 rfl (lv_at hl.1 1 rfl) ?_
      refine lv_iconst (v := rI 2) hx hb dX7_signToken_42 rfl ?_
      obtain ⟨σ3, eσ3, rσ3, hf⟩ := cc_p_s hf
      refine cw_put B hw rσ3 cwt_8 (by decide) rfl cfl_7_24 ⟨by decide, by decide⟩ eσ3 rfl (cw_fv_n rfl rfl) dX7_signToken_43 (fun H locs hw => ?_)
      refine lv_sipush (v := rI 258) hx hb dX7_signToken_46 (by decide +kernel) ?_
      exact cw_reti B hf hw dX7_signToken_49

set_option maxHeartbeats 4000000 in
set_option maxRecDepth 100000 in
theorem pw_X7_signToken_0 {v : cwE} {bd : Nat × Nat} {p : Program} {l : Launch} {e : Env} {s : State} {m : MethodId} {args : Array Value} {below : List Frame} {meth : Method} {c : Code} {d : Nat} {rec : Nat → CS → List Int → CO} {σ0 σ' : CS} {kd : Nat} {r : Int} (hbd : bd = (v.2.2.1, v.2.2.2.1)) (hR : cw_Rec l v d rec) (htr : l.stackTraces = false) (hd5 : 5 ≤ d) (B : cw_B v RX7 p s m args meth c cX7_signToken 3 (some .int)) (hnh : ∀ x ∈ c.exceptionTable.toList, False) : ∀ (σ : CS) (x0 x1 : Int), inR x0 → inR x1 → pc_X7_signToken_0 rec bd σ x0 x1 = some (σ', kd, r) → ∀ (H : Heap) (locs : List Loc) (cells slots : Nat) (ls : Array Slot), cw_W v s σ0 σ H locs cells slots → cl_has ls 3 [(0, cR x0), (1, .int (rI x1))] → W p l e (cw_rm v (d + 1) σ0) s m args below meth c H locs cells slots (cw_Z below v σ0 σ' kd (some (.int (rI r))) args s) (F0 m 0 ls []) := by
  subst hbd
  obtain ⟨hx, hb, hr, hml, hown, hts, hlk, hK⟩ := id B
  intro σ x0 x1 ix0 ix1 hf H locs cells slots ls hw hl
  unfold pc_X7_signToken_0 at hf
  refine cl_aload_n hx hb dX7_signToken_0 rfl (lv_at hl.1 0 rfl) ?_
  obtain ⟨z1, ez1, iz1, rz1, hf⟩ := cc_g_s hw hf
  refine cw_get (val := .int (rI z1)) B hw rz1 ⟨by decide, by decide⟩ (by decide) cwi_8 cfl_7_15 ez1 rfl dX7_signToken_1 ?_
  refine lv_iconst (v := rI 1) hx hb dX7_signToken_4 rfl ?_
  obtain ⟨z2, ez2, iz2, hf⟩ := cc_ck_s hf
  refine rn_add hx hb ez2 dX7_signToken_5 ?_
  refine cl_aload_n hx hb dX7_signToken_6 rfl (lv_at hl.1 0 rfl) ?_
  obtain ⟨z3, ez3, iz3, rz3, hf⟩ := cc_g_s hw hf
  refine cw_get (val := .int (rI z3)) B hw rz3 ⟨by decide, by decide⟩ (by decide) cwi_8 cfl_7_9 ez3 rfl dX7_signToken_7 ?_
  refine rn_icmp_ge (a := z2) (b := z3) (tgt := 27) hx hb iz2 iz3 dX7_signToken_10 (by decide) (fun c4 => ?_) (fun c4 => ?_)
  · replace hf := cc_if_t hf c4
    refine lv_iconst (v := rI (-1)) hx hb dX7_signToken_27 rfl ?_
    exact pw_X7_signToken_28 rfl hR htr hd5 B hnh σ x0 x1 (-1) ix0 ix1 ⟨by decide, by decide⟩ hf _ _ _ _ _ hw (cl_sub hl [0, 1] rfl)
  · replace hf := cc_if_f hf c4
    refine cl_aload_n hx hb dX7_signToken_13 rfl (lv_at hl.1 0 rfl) ?_
    obtain ⟨z5, ez5, iz5, rz5, hf⟩ := cc_g_s hw hf
    refine cw_get (val := cR z5) B hw rz5 ⟨by decide, by decide⟩ (by decide) cwi_8 cfl_7_30 ez5 rfl dX7_signToken_14 ?_
    refine cl_aload_n hx hb dX7_signToken_17 rfl (lv_at hl.1 0 rfl) ?_
    obtain ⟨z6, ez6, iz6, rz6, hf⟩ := cc_g_s hw hf
    refine cw_get (val := .int (rI z6)) B hw rz6 ⟨by decide, by decide⟩ (by decide) cwi_8 cfl_7_15 ez6 rfl dX7_signToken_18 ?_
    refine lv_iconst (v := rI 1) hx hb dX7_signToken_21 rfl ?_
    obtain ⟨z7, ez7, iz7, hf⟩ := cc_ck_s hf
    refine rn_add hx hb ez7 dX7_signToken_22 ?_
    obtain ⟨z8, ez8, iz8, rz8, bz8, hf⟩ := cc_r_s hw hf
    refine cw_aldB B hw rz8 iz7 bz8 ez8 dX7_signToken_23 ?_
    refine lv_goto (tgt := 28) hx hb dX7_signToken_24 (by decide) ?_
    exact pw_X7_signToken_28 rfl hR htr hd5 B hnh σ x0 x1 z8 ix0 ix1 iz8 hf _ _ _ _ _ hw (cl_sub hl [0, 1] rfl)

set_option maxHeartbeats 4000000 in
set_option maxRecDepth 100000 in
theorem pm_X7_signToken {v : cwE} {bd : Nat × Nat} {l : Launch} {d : Nat} {rec : Nat → CS → List Int → CO} (hbd : bd = (v.2.2.1, v.2.2.2.1)) (hR : cw_Rec l v d rec) (htr : l.stackTraces = false) (hd5 : 5 ≤ d) (σ σ' : CS) (x0 x1 : Int) (kd : Nat) (r : Int) (ix0 : inR x0) (ix1 : inR x1) (hf : pc_X7_signToken_0 rec bd σ x0 x1 = some (σ', kd, r)) : cw_Met l v yX7_signToken cX7_signToken 3 (some .int) (d + 1) [cR x0, .int (rI x1)] σ σ' kd (some (.int (rI r))) := by
  refine cw_ofW (by decide +kernel) ?_
  intro p e s m args below meth c s₁ B hml hv
  obtain ⟨rfl, hM, hK⟩ := hv
  have hts := atoms_spec (ws := Cond.code yX7_signToken cX7_signToken 3 (some .int) :: cw_bw) B.pre
  have hB : cw_B v RX7 p s m _ meth c cX7_signToken 3 (some .int) := ⟨B.exec, B.bytes, B.returns, hml, findClass_of_methodNamed B.named, fun w h => hts w (List.mem_cons_of_mem _ h), B.notSynchronized, hK⟩
  have hnh := cc_nh B (hts _ List.mem_cons_self)
  rw [lg_entry_eq]
  obtain ⟨ls, hls, hl⟩ := cl_ent [cR x0, .int (rI x1)] 3 (cl_1r (cl_1i cl_10)) (Nat.le_of_ble_eq_true rfl)
  rw [hls]
  exact pw_X7_signToken_0 hbd hR htr hd5 hB hnh σ x0 x1 ix0 ix1 hf _ _ _ _ _ (cw_W0 hM) (cl_sub hl [0, 1] rfl)

set_option maxHeartbeats 4000000 in
set_option maxRecDepth 100000 in
theorem pw_X7_skipBlanks_63 {v : cwE} {bd : Nat × Nat} {p : Program} {l : Launch} {e : Env} {s : State} {m : MethodId} {args : Array Value} {below : List Frame} {meth : Method} {c : Code} {d : Nat} {rec : Nat → CS → List Int → CO} {σ0 σ' : CS} {kd : Nat} {r : Int} (hbd : bd = (v.2.2.1, v.2.2.2.1)) (hR : cw_Rec l v d rec) (htr : l.stackTraces = false) (hd5 : 5 ≤ d) (B : cw_B v RX7 p s m args meth c cX7_skipBlanks 3 none) (hnh : ∀ x ∈ c.exceptionTable.toList, False) (k0 : CS → Int → CO) (hk0 : ∀ (σ : CS) (x0 : Int), inR x0 → k0 σ x0 = some (σ', kd, r) → ∀ (H : Heap) (locs : List Loc) (cells slots : Nat) (ls : Array Slot), cw_W v s σ0 σ H locs cells slots → cl_has ls 3 [(0, cR x0)] → W p l e (cw_rm v (d + 1) σ0) s m args below meth c H locs cells slots (cw_Z below v σ0 σ' kd none args s) (F0 m 0 ls [])) : ∀ (σ : CS) (x0 : Int), inR x0 → pc_X7_skipBlanks_63 rec bd k0 σ x0 = some (σ', kd, r) → ∀ (H : Heap) (locs : List Loc) (cells slots : Nat) (ls : Array Slot), cw_W v s σ0 σ H locs cells slots → cl_has ls 3 [(0, cR x0)] → W p l e (cw_rm v (d + 1) σ0) s m args below meth c H locs cells slots (cw_Z below v σ0 σ' kd none args s) (F0 m 63 ls []) := by
  subst hbd
  obtain ⟨hx, hb, hr, hml, hown, hts, hlk, hK⟩ := id B
  intro σ x0 ix0 hf H locs cells slots ls hw hl
  unfold pc_X7_skipBlanks_63 at hf
  refine cl_aload_n hx hb dX7_skipBlanks_63 rfl (lv_at hl.1 0 rfl) ?_
  refine lv_dup hx hb dX7_skipBlanks_64 (cR_cat _) ?_
  obtain ⟨z1, ez1, iz1, rz1, hf⟩ := cc_g_s hw hf
  refine cw_get (val := .int (rI z1)) B hw rz1 ⟨by decide, by decide⟩ (by decide) cwi_8 cfl_7_15 ez1 rfl dX7_skipBlanks_65 ?_
  refine lv_iconst (v := rI 1) hx hb dX7_skipBlanks_68 rfl ?_
  obtain ⟨z2, ez2, iz2, hf⟩ := cc_ck_s hf
  refine rn_add hx hb ez2 dX7_skipBlanks_69 ?_
  obtain ⟨σ3, eσ3, rσ3, hf⟩ := cc_p_s hf
  refine cw_put B hw rσ3 cwt_8 (by decide) rfl cfl_7_15 iz2 eσ3 rfl (cw_fv_n rfl rfl) dX7_skipBlanks_70 (fun H locs hw => ?_)
  refine lv_goto (tgt := 0) hx hb dX7_skipBlanks_73 (by decide) ?_
  exact hk0 σ3 x0 ix0 hf _ _ _ _ _ hw (cl_sub hl [0] rfl)

set_option maxHeartbeats 4000000 in
set_option maxRecDepth 100000 in
theorem pw_X7_skipBlanks_0 {v : cwE} {bd : Nat × Nat} {p : Program} {l : Launch} {e : Env} {s : State} {m : MethodId} {args : Array Value} {below : List Frame} {meth : Method} {c : Code} {d : Nat} {rec : Nat → CS → List Int → CO} {σ0 σ' : CS} {kd : Nat} {r : Int} (hbd : bd = (v.2.2.1, v.2.2.2.1)) (hR : cw_Rec l v d rec) (htr : l.stackTraces = false) (hd5 : 5 ≤ d) (B : cw_B v RX7 p s m args meth c cX7_skipBlanks 3 none) (hnh : ∀ x ∈ c.exceptionTable.toList, False) : ∀ (n : Nat) (σ : CS) (x0 : Int), inR x0 → pc_X7_skipBlanks_0 rec bd n σ x0 = some (σ', kd, r) → ∀ (H : Heap) (locs : List Loc) (cells slots : Nat) (ls : Array Slot), cw_W v s σ0 σ H locs cells slots → cl_has ls 3 [(0, cR x0)] → W p l e (cw_rm v (d + 1) σ0) s m args below meth c H locs cells slots (cw_Z below v σ0 σ' kd none args s) (F0 m 0 ls []) := by
  subst hbd
  obtain ⟨hx, hb, hr, hml, hown, hts, hlk, hK⟩ := id B
  intro n
  induction n with
  | zero => intro σ x0 ix0 hf; cases hf
  | succ n ih =>
    intro σ x0 ix0 hf H locs cells slots ls hw hl
    unfold pc_X7_skipBlanks_0 at hf
    refine cl_aload_n hx hb dX7_skipBlanks_0 rfl (lv_at hl.1 0 rfl) ?_
    obtain ⟨z1, ez1, iz1, rz1, hf⟩ := cc_g_s hw hf
    refine cw_get (val := .int (rI z1)) B hw rz1 ⟨by decide, by decide⟩ (by decide) cwi_8 cfl_7_15 ez1 rfl dX7_skipBlanks_1 ?_
    refine cl_aload_n hx hb dX7_skipBlanks_4 rfl (lv_at hl.1 0 rfl) ?_
    obtain ⟨z2, ez2, iz2, rz2, hf⟩ := cc_g_s hw hf
    refine cw_get (val := .int (rI z2)) B hw rz2 ⟨by decide, by decide⟩ (by decide) cwi_8 cfl_7_9 ez2 rfl dX7_skipBlanks_5 ?_
    refine rn_icmp_ge (a := z1) (b := z2) (tgt := 76) hx hb iz1 iz2 dX7_skipBlanks_8 (by decide) (fun c3 => ?_) (fun c3 => ?_)
    · replace hf := cc_if_t hf c3
      exact cw_retv B hf hw dX7_skipBlanks_76
    · replace hf := cc_if_f hf c3
      refine cl_aload_n hx hb dX7_skipBlanks_11 rfl (lv_at hl.1 0 rfl) ?_
      obtain ⟨z4, ez4, iz4, rz4, hf⟩ := cc_g_s hw hf
      refine cw_get (val := cR z4) B hw rz4 ⟨by decide, by decide⟩ (by decide) cwi_8 cfl_7_30 ez4 rfl dX7_skipBlanks_12 ?_
      refine cl_aload_n hx hb dX7_skipBlanks_15 rfl (lv_at hl.1 0 rfl) ?_
      obtain ⟨z5, ez5, iz5, rz5, hf⟩ := cc_g_s hw hf
      refine cw_get (val := .int (rI z5)) B hw rz5 ⟨by decide, by decide⟩ (by decide) cwi_8 cfl_7_15 ez5 rfl dX7_skipBlanks_16 ?_
      obtain ⟨z6, ez6, iz6, rz6, bz6, hf⟩ := cc_r_s hw hf
      refine cw_aldB B hw rz6 iz5 bz6 ez6 dX7_skipBlanks_19 ?_
      refine cl_istore_n (lv' := [(1, .int (rI z6)), (0, cR x0)]) hx hb dX7_skipBlanks_20 rfl hl (by decide) rfl (fun ls hl => ?_)
      refine lv_iload_n hx hb dX7_skipBlanks_21 rfl (lv_at hl.1 0 rfl) ?_
      refine lv_bipush (v := rI 123) hx hb dX7_skipBlanks_22 (by decide +kernel) ?_
      refine rn_icmp_ne (a := z6) (b := 123) (tgt := 50) hx hb iz6 ⟨by decide, by decide⟩ dX7_skipBlanks_24 (by decide) (fun c7 => ?_) (fun c7 => ?_)
      · replace hf := cc_if_t hf c7
        refine lv_iload_n hx hb dX7_skipBlanks_50 rfl (lv_at hl.1 0 rfl) ?_
        refine lv_bipush (v := rI 10) hx hb dX7_skipBlanks_51 (by decide +kernel) ?_
        refine rn_icmp_eq (a := z6) (b := 10) (tgt := 63) hx hb iz6 ⟨by decide, by decide⟩ dX7_skipBlanks_53 (by decide) (fun c8 => ?_) (fun c8 => ?_)
        · replace hf := cc_if_t hf c8
          exact pw_X7_skipBlanks_63 rfl hR htr hd5 B hnh (pc_X7_skipBlanks_0 rec (v.2.2.1, v.2.2.2.1) n) ih σ x0 ix0 hf _ _ _ _ _ hw (cl_sub hl [1] rfl)
        · replace hf := cc_if_f hf c8
          refine lv_iload_n hx hb dX7_skipBlanks_56 rfl (lv_at hl.1 0 rfl) ?_
          refine lv_bipush (v := rI 32) hx hb dX7_skipBlanks_57 (by decide +kernel) ?_
          refine rn_icmp_eq (a := z6) (b := 32) (tgt := 63) hx hb iz6 ⟨by decide, by decide⟩ dX7_skipBlanks_59 (by decide) (fun c9 => ?_) (fun c9 => ?_)
          · replace hf := cc_if_t hf c9
            exact pw_X7_skipBlanks_63 rfl hR htr hd5 B hnh (pc_X7_skipBlanks_0 rec (v.2.2.1, v.2.2.2.1) n) ih σ x0 ix0 hf _ _ _ _ _ hw (cl_sub hl [1] rfl)
          · replace hf := cc_if_f hf c9
            exact cw_retv B hf hw dX7_skipBlanks_62
      · replace hf := cc_if_f hf c7
        refine cl_aload_n hx hb dX7_skipBlanks_27 rfl (lv_at hl.1 1 rfl) ?_
        refine cl_aload_n hx hb dX7_skipBlanks_28 rfl (lv_at hl.1 1 rfl) ?_
        obtain ⟨z10, ez10, iz10, rz10, hf⟩ := cc_g_s hw hf
        refine cw_get (val := .int (rI z10)) B hw rz10 ⟨by decide, by decide⟩ (by decide) cwi_8 cfl_7_15 ez10 rfl dX7_skipBlanks_29 ?_
        obtain ⟨qσ11, hf⟩ := cc_t_s hf
        obtain ⟨σ11, kv12, z13, hσ11, hf⟩ := cc_cl_s hf
        obtain ⟨iz13, mσ11⟩ := hR 70 σ [x0, z10] σ11 kv12 z13 hσ11
        have mσ11 : cw_Met l v yX7_closeOf cX7_closeOf 3 (some .int) d [cR x0, .int (rI z10)] σ σ11 kv12 (some (.int (rI z13))) := mσ11 ix0 iz10
        refine cw_cv (b := x0) (t := 8) (n := 1) (rest := []) (As := [.int (rI z10)]) B mσ11 qσ11 ⟨by decide, by decide⟩ cgo_yX7_closeOf cml_7_165 cin_yX7_closeOf cse_yX7_closeOf (by decide +kernel) (by decide) rfl hl.1.1 (Nat.le_of_ble_eq_true rfl) dX7_skipBlanks_32 rfl hw (fun h0 H locs cells slots hw => ?_) (fun h0 H locs cells slots q ce hw h1 h2 h3 => ?_)
        · rcases hf with ⟨-, hf⟩ | ⟨hk, -⟩
          · skip
            refine cl_istore_n (lv' := [(2, .int (rI z13)), (1, .int (rI z6)), (0, cR x0)]) hx hb dX7_skipBlanks_35 rfl hl (by decide) rfl (fun ls hl => ?_)
            refine lv_iload_n hx hb dX7_skipBlanks_36 rfl (lv_at hl.1 0 rfl) ?_
            refine lv_iconst (v := rI (-1)) hx hb dX7_skipBlanks_37 rfl ?_
            refine rn_icmp_ne (a := z13) (b := (-1)) (tgt := 42) hx hb iz13 ⟨by decide, by decide⟩ dX7_skipBlanks_38 (by decide) (fun c14 => ?_) (fun c14 => ?_)
            · replace hf := cc_if_t hf c14
              refine cl_aload_n hx hb dX7_skipBlanks_42 rfl (lv_at hl.1 2 rfl) ?_
              refine lv_iload_n hx hb dX7_skipBlanks_43 rfl (lv_at hl.1 0 rfl) ?_
              obtain ⟨σ15, eσ15, rσ15, hf⟩ := cc_p_s hf
              refine cw_put B hw rσ15 cwt_8 (by decide) rfl cfl_7_15 iz13 eσ15 rfl (cw_fv_n rfl rfl) dX7_skipBlanks_44 (fun H locs hw => ?_)
              refine lv_goto (tgt := 63) hx hb dX7_skipBlanks_47 (by decide) ?_
              exact pw_X7_skipBlanks_63 rfl hR htr hd5 B hnh (pc_X7_skipBlanks_0 rec (v.2.2.1, v.2.2.2.1) n) ih σ15 x0 ix0 hf _ _ _ _ _ hw (cl_sub hl [2] rfl)
            · replace hf := cc_if_f hf c14
              exact cw_retv B hf hw dX7_skipBlanks_41
          · exact absurd h0 hk
        · rcases hf with ⟨hk, -⟩ | ⟨-, hf⟩
          · exact absurd hk h0
          · cases hf
            exact cw_xout B hnh h0 hw h1 h2 h3

set_option maxHeartbeats 4000000 in
set_option maxRecDepth 100000 in
theorem pm_X7_skipBlanks {v : cwE} {bd : Nat × Nat} {l : Launch} {d : Nat} {rec : Nat → CS → List Int → CO} (hbd : bd = (v.2.2.1, v.2.2.2.1)) (hR : cw_Rec l v d rec) (htr : l.stackTraces = false) (hd5 : 5 ≤ d) (σ σ' : CS) (x0 : Int) (kd : Nat) (r : Int) (ix0 : inR x0) (hf : pc_X7_skipBlanks_0 rec bd 1100000 σ x0 = some (σ', kd, r)) : cw_Met l v yX7_skipBlanks cX7_skipBlanks 3 none (d + 1) [cR x0] σ σ' kd none := by
  refine cw_ofW (by decide +kernel) ?_
  intro p e s m args below meth c s₁ B hml hv
  obtain ⟨rfl, hM, hK⟩ := hv
  have hts := atoms_spec (ws := Cond.code yX7_skipBlanks cX7_skipBlanks 3 none :: cw_bw) B.pre
  have hB : cw_B v RX7 p s m _ meth c cX7_skipBlanks 3 none := ⟨B.exec, B.bytes, B.returns, hml, findClass_of_methodNamed B.named, fun w h => hts w (List.mem_cons_of_mem _ h), B.notSynchronized, hK⟩
  have hnh := cc_nh B (hts _ List.mem_cons_self)
  rw [lg_entry_eq]
  obtain ⟨ls, hls, hl⟩ := cl_ent [cR x0] 3 (cl_1r cl_10) (Nat.le_of_ble_eq_true rfl)
  rw [hls]
  exact pw_X7_skipBlanks_0 hbd hR htr hd5 hB hnh 1100000 σ x0 ix0 hf _ _ _ _ _ (cw_W0 hM) (cl_sub hl [0] rfl)

set_option maxHeartbeats 4000000 in
set_option maxRecDepth 100000 in
theorem pw_X8_init_46 {v : cwE} {bd : Nat × Nat} {p : Program} {l : Launch} {e : Env} {s : State} {m : MethodId} {args : Array Value} {below : List Frame} {meth : Method} {c : Code} {d : Nat} {rec : Nat → CS → List Int → CO} {σ0 σ' : CS} {kd : Nat} {r : Int} (hbd : bd = (v.2.2.1, v.2.2.2.1)) (hR : cw_Rec l v d rec) (htr : l.stackTraces = false) (hd5 : 5 ≤ d) (B : cw_B v RX8 p s m args meth c cX8_init 7 none) (hin : meth.name = "<init>") (hnh : ∀ x ∈ c.exceptionTable.toList, False) : ∀ (σ : CS) (x0 x1 x5 t0 : Int), inR x0 → inR x1 → inR x5 → inR t0 → pc_X8_init_46 rec bd σ x0 x1 x5 t0 = some (σ', kd, r) → ∀ (H : Heap) (locs : List Loc) (cells slots : Nat) (ls : Array Slot), cw_W v s σ0 σ H locs cells slots → cl_has ls 7 [(0, cR x0), (1, cR x1), (5, cR x5)] → W p l e (cw_rm v (d + 1) σ0) s m args below meth c H locs cells slots (cw_Z below v σ0 σ' kd none args s) (F0 m 46 ls [.int (rI t0)]) := by
  subst hbd
  obtain ⟨hx, hb, hr, hml, hown, hts, hlk, hK⟩ := id B
  intro σ x0 x1 x5 t0 ix0 ix1 ix5 it0 hf H locs cells slots ls hw hl
  unfold pc_X8_init_46 at hf
  refine cl_istore (lv' := [(6, .int (rI t0)), (0, cR x0), (1, cR x1), (5, cR x5)]) hx hb dX8_init_46 hl (by decide) rfl (fun ls hl => ?_)
  refine cl_aload_n hx hb dX8_init_48 rfl (lv_at hl.1 1 rfl) ?_
  refine lv_iload hx hb dX8_init_49 (lv_at hl.1 0 rfl) ?_
  refine rn_if_eq (a := t0) (tgt := 72) hx hb it0 dX8_init_51 (by decide) (fun c1 => ?_) (fun c1 => ?_)
  · replace hf := cc_if_t hf c1
    refine cl_aload hx hb dX8_init_72 (lv_at hl.1 3 rfl) ?_
    obtain ⟨σ2, eσ2, rσ2, hf⟩ := cc_p_s hf
    refine cw_putF B hin hw rσ2 cwt_9 (by decide) rfl rfl rfl cfl_8_45 ix5 eσ2 rfl (cw_fv_r rfl (Or.inl ⟨_, rfl⟩)) dX8_init_74 (fun H locs hw => ?_)
    exact cw_retv B hf hw dX8_init_77
  · replace hf := cc_if_f hf c1
    refine cl_aload_n hx hb dX8_init_54 rfl (lv_at hl.1 2 rfl) ?_
    obtain ⟨z3, ez3, iz3, rz3, hf⟩ := cc_g_s hw hf
    refine cw_get (val := .int (rI z3)) B hw rz3 ⟨by decide, by decide⟩ (by decide) cwi_7 cfl_8_33 ez3 rfl dX8_init_55 ?_
    refine cl_aload_n hx hb dX8_init_58 rfl (lv_at hl.1 2 rfl) ?_
    obtain ⟨z4, ez4, iz4, rz4, hf⟩ := cc_g_s hw hf
    refine cw_get (val := cR z4) B hw rz4 ⟨by decide, by decide⟩ (by decide) cwi_7 cfl_8_36 ez4 rfl dX8_init_59 ?_
    refine cl_aload hx hb dX8_init_62 (lv_at hl.1 3 rfl) ?_
    refine cl_aload hx hb dX8_init_64 (lv_at hl.1 3 rfl) ?_
    obtain ⟨σ5, kv6, z7, hσ5, hf⟩ := cc_cl_s hf
    obtain ⟨iz7, mσ5⟩ := hR 30 σ [z3, z4, x5, x5] σ5 kv6 z7 hσ5
    have mσ5 : cw_Met l v yX3_put cX3_put 4 (some (.object "PureHouse$Link")) d [.int (rI z3), cR z4, cR x5, cR x5] σ σ5 kv6 (some (cR z7)) := mσ5 iz3 iz4 ix5 ix5
    refine cw_cs (n := 4) (rest := [cR x0]) (As := [.int (rI z3), cR z4, cR x5, cR x5]) B mσ5 cgo_yX3_put cml_8_39 cst_yX3_put (by decide +kernel) (by decide) rfl hl.1.1 (cl_cs (cl_1r cl_10) (Nat.le_of_ble_eq_true rfl)) dX8_init_66 rfl hw (fun h0 H locs cells slots hw => ?_) (fun h0 H locs cells slots q ce hw h1 h2 h3 => ?_)
    · rcases hf with ⟨-, hf⟩ | ⟨hk, -⟩
      · skip
        refine lv_goto (tgt := 74) hx hb dX8_init_69 (by decide) ?_
        obtain ⟨σ8, eσ8, rσ8, hf⟩ := cc_p_s hf
        refine cw_putF B hin hw rσ8 cwt_9 (by decide) rfl rfl rfl cfl_8_45 iz7 eσ8 rfl (cw_fv_r rfl (Or.inl ⟨_, rfl⟩)) dX8_init_74 (fun H locs hw => ?_)
        exact cw_retv B hf hw dX8_init_77
      · exact absurd h0 hk
    · rcases hf with ⟨hk, -⟩ | ⟨-, hf⟩
      · exact absurd hk h0
      · cases hf
        exact cw_xout B hnh h0 hw h1 h2 h3

set_option maxHeartbeats 4000000 in
set_option maxRecDepth 100000 in
theorem pw_X8_init_0 {v : cwE} {bd : Nat × Nat} {p : Program} {l : Launch} {e : Env} {s : State} {m : MethodId} {args : Array Value} {below : List Frame} {meth : Method} {c : Code} {d : Nat} {rec : Nat → CS → List Int → CO} {σ0 σ' : CS} {kd : Nat} {r : Int} (hbd : bd = (v.2.2.1, v.2.2.2.1)) (hR : cw_Rec l v d rec) (htr : l.stackTraces = false) (hd5 : 5 ≤ d) (B : cw_B v RX8 p s m args meth c cX8_init 7 none) (hin : meth.name = "<init>") (hnh : ∀ x ∈ c.exceptionTable.toList, False) : ∀ (σ : CS) (x0 x1 x2 x3 x4 : Int), inR x0 → inR x1 → inR x2 → inR x3 → inR x4 → pc_X8_init_0 rec bd σ x0 x1 x2 x3 x4 = some (σ', kd, r) → ∀ (H : Heap) (locs : List Loc) (cells slots : Nat) (ls : Array Slot), cw_W v s σ0 σ H locs cells slots → cl_has ls 7 [(0, cR x0), (1, cR x1), (2, cR x2), (3, .int (rI x3)), (4, cR x4)] → W p l e (cw_rm v (d + 1) σ0) s m args below meth c H locs cells slots (cw_Z below v σ0 σ' kd none args s) (F0 m 0 ls []) := by
  subst hbd
  obtain ⟨hx, hb, hr, hml, hown, hts, hlk, hK⟩ := id B
  intro σ x0 x1 x2 x3 x4 ix0 ix1 ix2 ix3 ix4 hf H locs cells slots ls hw hl
  unfold pc_X8_init_0 at hf
  refine cl_aload_n hx hb dX8_init_0 rfl (lv_at hl.1 0 rfl) ?_
  obtain ⟨q0, hf⟩ := cc_t_s hf
  rw [cR_r q0.1]
  refine W.objInit hx hb hown (hts _ coi_8_1) (hts _ coi2) (hts _ coi3) rfl (hl.1.1.trans hml.symm) rfl dX8_init_1 (by show 1 ≤ d + 1; omega) (by show _ + 12 ≤ 100 * (d + 1); simp [JFrame.monitorRoom]; omega) ?_
  refine cl_aload_n hx hb dX8_init_4 rfl (lv_at hl.1 0 rfl) ?_
  refine cl_aload_n hx hb dX8_init_5 rfl (lv_at hl.1 1 rfl) ?_
  obtain ⟨σ1, eσ1, rσ1, hf⟩ := cc_p_s hf
  refine cw_putF B hin hw rσ1 cwt_9 (by decide) rfl rfl rfl cfl_8_7 ix1 eσ1 rfl (cw_fv_r rfl (Or.inl ⟨_, rfl⟩)) dX8_init_6 (fun H locs hw => ?_)
  refine cl_aload_n hx hb dX8_init_9 rfl (lv_at hl.1 0 rfl) ?_
  refine cl_aload_n hx hb dX8_init_10 rfl (lv_at hl.1 2 rfl) ?_
  obtain ⟨σ2, eσ2, rσ2, hf⟩ := cc_p_s hf
  refine cw_putF B hin hw rσ2 cwt_9 (by decide) rfl rfl rfl cfl_8_13 ix2 eσ2 rfl (cw_fv_r rfl (Or.inl ⟨_, rfl⟩)) dX8_init_11 (fun H locs hw => ?_)
  refine cl_aload_n hx hb dX8_init_14 rfl (lv_at hl.1 0 rfl) ?_
  refine lv_iload_n hx hb dX8_init_15 rfl (lv_at hl.1 3 rfl) ?_
  obtain ⟨σ3, eσ3, rσ3, hf⟩ := cc_p_s hf
  refine cw_putF B hin hw rσ3 cwt_9 (by decide) rfl rfl rfl cfl_8_16 ix3 eσ3 rfl (cw_fv_n rfl rfl) dX8_init_16 (fun H locs hw => ?_)
  refine cl_aload_n hx hb dX8_init_19 rfl (lv_at hl.1 0 rfl) ?_
  refine cl_aload hx hb dX8_init_20 (lv_at hl.1 4 rfl) ?_
  obtain ⟨σ4, eσ4, rσ4, hf⟩ := cc_p_s hf
  refine cw_putF B hin hw rσ4 cwt_9 (by decide) rfl rfl rfl cfl_8_20 ix4 eσ4 rfl (cw_fv_r rfl (Or.inl ⟨_, rfl⟩)) dX8_init_22 (fun H locs hw => ?_)
  refine cl_aload hx hb dX8_init_25 (lv_at hl.1 4 rfl) ?_
  obtain ⟨σ5, kv6, z7, hσ5, hf⟩ := cc_cl_s hf
  obtain ⟨iz7, mσ5⟩ := hR 91 σ4 [x4] σ5 kv6 z7 hσ5
  have mσ5 : cw_Met l v yX8_letsOf cX8_letsOf 1 (some (.object "PureHouse$Link")) d [cR x4] σ4 σ5 kv6 (some (cR z7)) := mσ5 ix4
  refine cw_cs (n := 1) (rest := []) (As := [cR x4]) B mσ5 cgo_yX8_letsOf cml_8_24 cst_yX8_letsOf (by decide +kernel) (by decide) rfl hl.1.1 (Nat.le_of_ble_eq_true rfl) dX8_init_27 rfl hw (fun h0 H locs cells slots hw => ?_) (fun h0 H locs cells slots q ce hw h1 h2 h3 => ?_)
  · rcases hf with ⟨-, hf⟩ | ⟨hk, -⟩
    · skip
      refine cl_astore (lv' := [(5, cR z7), (0, cR x0), (1, cR x1), (2, cR x2), (3, .int (rI x3)), (4, cR x4)]) hx hb dX8_init_30 hl (by decide) rfl (fun ls hl => ?_)
      refine cl_aload_n hx hb dX8_init_32 rfl (lv_at hl.1 2 rfl) ?_
      obtain ⟨z8, ez8, iz8, rz8, hf⟩ := cc_g_s hw hf
      refine cw_get (val := .int (rI z8)) B hw rz8 ⟨by decide, by decide⟩ (by decide) cwi_7 cfl_8_28 ez8 rfl dX8_init_33 ?_
      refine lv_bipush (v := rI 6) hx hb dX8_init_36 (by decide +kernel) ?_
      refine rn_icmp_ne (a := z8) (b := 6) (tgt := 45) hx hb iz8 ⟨by decide, by decide⟩ dX8_init_38 (by decide) (fun c9 => ?_) (fun c9 => ?_)
      · replace hf := cc_if_t hf c9
        refine lv_iconst (v := rI 0) hx hb dX8_init_45 rfl ?_
        exact pw_X8_init_46 rfl hR htr hd5 B hin hnh σ5 x0 x1 z7 0 ix0 ix1 iz7 ⟨by decide, by decide⟩ hf _ _ _ _ _ hw (cl_sub hl [1, 2, 0] rfl)
      · replace hf := cc_if_f hf c9
        refine lv_iconst (v := rI 1) hx hb dX8_init_41 rfl ?_
        refine lv_goto (tgt := 46) hx hb dX8_init_42 (by decide) ?_
        exact pw_X8_init_46 rfl hR htr hd5 B hin hnh σ5 x0 x1 z7 1 ix0 ix1 iz7 ⟨by decide, by decide⟩ hf _ _ _ _ _ hw (cl_sub hl [1, 2, 0] rfl)
    · exact absurd h0 hk
  · rcases hf with ⟨hk, -⟩ | ⟨-, hf⟩
    · exact absurd hk h0
    · cases hf
      exact cw_xout B hnh h0 hw h1 h2 h3

set_option maxHeartbeats 4000000 in
set_option maxRecDepth 100000 in
theorem pm_X8_init {v : cwE} {bd : Nat × Nat} {l : Launch} {d : Nat} {rec : Nat → CS → List Int → CO} (hbd : bd = (v.2.2.1, v.2.2.2.1)) (hR : cw_Rec l v d rec) (htr : l.stackTraces = false) (hd5 : 5 ≤ d) (σ σ' : CS) (x0 x1 x2 x3 x4 : Int) (kd : Nat) (r : Int) (ix0 : inR x0) (ix1 : inR x1) (ix2 : inR x2) (ix3 : inR x3) (ix4 : inR x4) (hf : pc_X8_init_0 rec bd σ x0 x1 x2 x3 x4 = some (σ', kd, r)) : cw_Met l v yX8_init cX8_init 7 none (d + 1) [cR x0, cR x1, cR x2, .int (rI x3), cR x4] σ σ' kd none := by
  refine cw_ofW (by decide +kernel) ?_
  intro p e s m args below meth c s₁ B hml hv
  obtain ⟨rfl, hM, hK⟩ := hv
  have hts := atoms_spec (ws := Cond.code yX8_init cX8_init 7 none :: cw_bw) B.pre
  have hB : cw_B v RX8 p s m _ meth c cX8_init 7 none := ⟨B.exec, B.bytes, B.returns, hml, findClass_of_methodNamed B.named, fun w h => hts w (List.mem_cons_of_mem _ h), B.notSynchronized, hK⟩
  have hnh := cc_nh B (hts _ List.mem_cons_self)
  rw [lg_entry_eq]
  obtain ⟨ls, hls, hl⟩ := cl_ent [cR x0, cR x1, cR x2, .int (rI x3), cR x4] 7 (cl_1r (cl_1r (cl_1r (cl_1i (cl_1r cl_10))))) (Nat.le_of_ble_eq_true rfl)
  rw [hls]
  exact pw_X8_init_0 hbd hR htr hd5 hB (name_of_methodNamed B.named B.method).1 hnh σ x0 x1 x2 x3 x4 ix0 ix1 ix2 ix3 ix4 hf _ _ _ _ _ (cw_W0 hM) (cl_sub hl [0, 1, 2, 3, 4] rfl)

set_option maxHeartbeats 4000000 in
set_option maxRecDepth 100000 in
theorem pw_X8_letsOf_0 {v : cwE} {bd : Nat × Nat} {p : Program} {l : Launch} {e : Env} {s : State} {m : MethodId} {args : Array Value} {below : List Frame} {meth : Method} {c : Code} {d : Nat} {rec : Nat → CS → List Int → CO} {σ0 σ' : CS} {kd : Nat} {r : Int} (hbd : bd = (v.2.2.1, v.2.2.2.1)) (hR : cw_Rec l v d rec) (htr : l.stackTraces = false) (hd5 : 5 ≤ d) (B : cw_B v RX8 p s m args meth c cX8_letsOf 1 (some (.object "PureHouse$Link"))) (hnh : ∀ x ∈ c.exceptionTable.toList, False) : ∀ (σ : CS) (x0 : Int), inR x0 → pc_X8_letsOf_0 rec bd σ x0 = some (σ', kd, r) → ∀ (H : Heap) (locs : List Loc) (cells slots : Nat) (ls : Array Slot), cw_W v s σ0 σ H locs cells slots → cl_has ls 1 [(0, cR x0)] → W p l e (cw_rm v (d + 1) σ0) s m args below meth c H locs cells slots (cw_Z below v σ0 σ' kd (some (cR r)) args s) (F0 m 0 ls []) := by
  subst hbd
  obtain ⟨hx, hb, hr, hml, hown, hts, hlk, hK⟩ := id B
  intro σ x0 ix0 hf H locs cells slots ls hw hl
  unfold pc_X8_letsOf_0 at hf
  refine cl_aload_n hx hb dX8_letsOf_0 rfl (lv_at hl.1 0 rfl) ?_
  refine cl_ifnonnull (x := x0) (tgt := 8) hx hb dX8_letsOf_1 (by decide) (fun c1 => ?_) (fun c1 => ?_)
  · replace hf := cc_if_t hf c1
    refine cl_aload_n hx hb dX8_letsOf_8 rfl (lv_at hl.1 0 rfl) ?_
    obtain ⟨z2, ez2, iz2, rz2, hf⟩ := cc_g_s hw hf
    refine cw_get (val := cR z2) B hw rz2 ⟨by decide, by decide⟩ (by decide) cwi_9 cfl_8_45 ez2 rfl dX8_letsOf_9 ?_
    exact cw_reta B hf hw dX8_letsOf_12
  · replace hf := cc_if_f hf c1
    refine cl_null hx hb dX8_letsOf_4 ?_
    refine lv_goto (tgt := 12) hx hb dX8_letsOf_5 (by decide) ?_
    exact cw_reta B hf hw dX8_letsOf_12

set_option maxHeartbeats 4000000 in
set_option maxRecDepth 100000 in
theorem pm_X8_letsOf {v : cwE} {bd : Nat × Nat} {l : Launch} {d : Nat} {rec : Nat → CS → List Int → CO} (hbd : bd = (v.2.2.1, v.2.2.2.1)) (hR : cw_Rec l v d rec) (htr : l.stackTraces = false) (hd5 : 5 ≤ d) (σ σ' : CS) (x0 : Int) (kd : Nat) (r : Int) (ix0 : inR x0) (hf : pc_X8_letsOf_0 rec bd σ x0 = some (σ', kd, r)) : cw_Met l v yX8_letsOf cX8_letsOf 1 (some (.object "PureHouse$Link")) (d + 1) [cR x0] σ σ' kd (some (cR r)) := by
  refine cw_ofW (by decide +kernel) ?_
  intro p e s m args below meth c s₁ B hml hv
  obtain ⟨rfl, hM, hK⟩ := hv
  have hts := atoms_spec (ws := Cond.code yX8_letsOf cX8_letsOf 1 (some (.object "PureHouse$Link")) :: cw_bw) B.pre
  have hB : cw_B v RX8 p s m _ meth c cX8_letsOf 1 (some (.object "PureHouse$Link")) := ⟨B.exec, B.bytes, B.returns, hml, findClass_of_methodNamed B.named, fun w h => hts w (List.mem_cons_of_mem _ h), B.notSynchronized, hK⟩
  have hnh := cc_nh B (hts _ List.mem_cons_self)
  rw [lg_entry_eq]
  obtain ⟨ls, hls, hl⟩ := cl_ent [cR x0] 1 (cl_1r cl_10) (Nat.le_of_ble_eq_true rfl)
  rw [hls]
  exact pw_X8_letsOf_0 hbd hR htr hd5 hB hnh σ x0 ix0 hf _ _ _ _ _ (cw_W0 hM) (cl_sub hl [0] rfl)

set_option maxHeartbeats 4000000 in
set_option maxRecDepth 100000 in
theorem pw_X9_init_0 {v : cwE} {bd : Nat × Nat} {p : Program} {l : Launch} {e : Env} {s : State} {m : MethodId} {args : Array Value} {below : List Frame} {meth : Method} {c : Code} {d : Nat} {rec : Nat → CS → List Int → CO} {σ0 σ' : CS} {kd : Nat} {r : Int} (hbd : bd = (v.2.2.1, v.2.2.2.1)) (hR : cw_Rec l v d rec) (htr : l.stackTraces = false) (hd5 : 5 ≤ d) (B : cw_B v RX9 p s m args meth c cX9_init 6 none) (hin : meth.name = "<init>") (hnh : ∀ x ∈ c.exceptionTable.toList, False) : ∀ (σ : CS) (x0 x1 x2 x3 x4 x5 : Int), inR x0 → inR x1 → inR x2 → inR x3 → inR x4 → inR x5 → pc_X9_init_0 rec bd σ x0 x1 x2 x3 x4 x5 = some (σ', kd, r) → ∀ (H : Heap) (locs : List Loc) (cells slots : Nat) (ls : Array Slot), cw_W v s σ0 σ H locs cells slots → cl_has ls 6 [(0, cR x0), (1, .int (rI x1)), (2, .int (rI x2)), (3, cR x3), (4, cR x4), (5, cR x5)] → W p l e (cw_rm v (d + 1) σ0) s m args below meth c H locs cells slots (cw_Z below v σ0 σ' kd none args s) (F0 m 0 ls []) := by
  subst hbd
  obtain ⟨hx, hb, hr, hml, hown, hts, hlk, hK⟩ := id B
  intro σ x0 x1 x2 x3 x4 x5 ix0 ix1 ix2 ix3 ix4 ix5 hf H locs cells slots ls hw hl
  unfold pc_X9_init_0 at hf
  refine cl_aload_n hx hb dX9_init_0 rfl (lv_at hl.1 0 rfl) ?_
  obtain ⟨q0, hf⟩ := cc_t_s hf
  rw [cR_r q0.1]
  refine W.objInit hx hb hown (hts _ coi_9_1) (hts _ coi2) (hts _ coi3) rfl (hl.1.1.trans hml.symm) rfl dX9_init_1 (by show 1 ≤ d + 1; omega) (by show _ + 12 ≤ 100 * (d + 1); simp [JFrame.monitorRoom]; omega) ?_
  refine cl_aload_n hx hb dX9_init_4 rfl (lv_at hl.1 0 rfl) ?_
  refine lv_iload_n hx hb dX9_init_5 rfl (lv_at hl.1 1 rfl) ?_
  obtain ⟨σ1, eσ1, rσ1, hf⟩ := cc_p_s hf
  refine cw_putF B hin hw rσ1 cwt_10 (by decide) rfl rfl rfl cfl_9_7 ix1 eσ1 rfl (cw_fv_n rfl rfl) dX9_init_6 (fun H locs hw => ?_)
  refine cl_aload_n hx hb dX9_init_9 rfl (lv_at hl.1 0 rfl) ?_
  refine lv_iload_n hx hb dX9_init_10 rfl (lv_at hl.1 2 rfl) ?_
  obtain ⟨σ2, eσ2, rσ2, hf⟩ := cc_p_s hf
  refine cw_putF B hin hw rσ2 cwt_10 (by decide) rfl rfl rfl cfl_9_13 ix2 eσ2 rfl (cw_fv_n rfl rfl) dX9_init_11 (fun H locs hw => ?_)
  refine cl_aload_n hx hb dX9_init_14 rfl (lv_at hl.1 0 rfl) ?_
  refine cl_aload_n hx hb dX9_init_15 rfl (lv_at hl.1 3 rfl) ?_
  obtain ⟨σ3, eσ3, rσ3, hf⟩ := cc_p_s hf
  refine cw_putF B hin hw rσ3 cwt_10 (by decide) rfl rfl rfl cfl_9_16 ix3 eσ3 rfl (cw_fv_r rfl (Or.inl ⟨_, rfl⟩)) dX9_init_16 (fun H locs hw => ?_)
  refine cl_aload_n hx hb dX9_init_19 rfl (lv_at hl.1 0 rfl) ?_
  refine cl_aload hx hb dX9_init_20 (lv_at hl.1 4 rfl) ?_
  obtain ⟨σ4, eσ4, rσ4, hf⟩ := cc_p_s hf
  refine cw_putF B hin hw rσ4 cwt_10 (by decide) rfl rfl rfl cfl_9_20 ix4 eσ4 rfl (cw_fv_r rfl (Or.inl ⟨_, rfl⟩)) dX9_init_22 (fun H locs hw => ?_)
  refine cl_aload_n hx hb dX9_init_25 rfl (lv_at hl.1 0 rfl) ?_
  refine cl_aload hx hb dX9_init_26 (lv_at hl.1 5 rfl) ?_
  obtain ⟨σ5, eσ5, rσ5, hf⟩ := cc_p_s hf
  refine cw_putF B hin hw rσ5 cwt_10 (by decide) rfl rfl rfl cfl_9_23 ix5 eσ5 rfl (cw_fv_r rfl (Or.inl ⟨_, rfl⟩)) dX9_init_28 (fun H locs hw => ?_)
  exact cw_retv B hf hw dX9_init_31

