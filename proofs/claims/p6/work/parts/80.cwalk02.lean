set_option maxHeartbeats 4000000 in
set_option maxRecDepth 100000 in
theorem pw_Jx4a65c_grow_92f84_0 {v : cwE} {bd : cBd} {p : Program} {l : Launch} {e : Env} {s : State} {m : MethodId} {args : Array Value} {below : List Frame} {meth : Method} {c : Code} {d : Nat} {rec : Nat → CS → List Int → CO} {σ0 σ' : CS} {kd : Nat} {r : Int} (hbd : bd = cw_bd v) (hR : cw_Rec l v d rec) (htr : l.stackTraces = false) (hd5 : 5 ≤ d) (B : cw_B v RJx4a65c p s m args meth c cJx4a65c_grow_92f84 4 (some (.array (.object "java/lang/Object")))) (hnh : ∀ x ∈ c.exceptionTable.toList, False) : ∀ (σ : CS) (x0 x1 : Int), inR x0 → inR x1 → pc_Jx4a65c_grow_92f84_0 rec bd σ x0 x1 = some (σ', kd, r) → ∀ (H : Heap) (locs : List Loc) (cells slots : Nat) (ls : Array Slot), cw_W v s σ0 σ H locs cells slots → cl_has ls 4 [(0, cR x0), (1, .int (rI x1))] → W p l e (cw_rm v (d + 1) σ0) s m args below meth c H locs cells slots (cw_Z below v σ0 σ' kd (some (cR r)) args s) (F0 m 0 ls []) := by
  subst hbd
  obtain ⟨hx, hb, hr, hml, hown, hts, hlk, hK⟩ := id B
  intro σ x0 x1 ix0 ix1 hf H locs cells slots ls hw hl
  unfold pc_Jx4a65c_grow_92f84_0 at hf
  refine cl_aload_n hx hb dJx4a65c_grow_92f84_0 rfl (lv_at hl.1 0 rfl) ?_
  obtain ⟨z1, ez1, iz1, rz1, hf⟩ := cc_g_s hw hf
  refine cw_get (val := cR z1) B hw rz1 ⟨by decide, by decide⟩ (by decide) cwi_13 cfl_Jx4a65c_9 ez1 rfl dJx4a65c_grow_92f84_1 ?_
  obtain ⟨z2, ez2, iz2, rz2, hf⟩ := cc_l_s hf
  refine cw_len B hw rz2 (by decide) ez2 iz2 dJx4a65c_grow_92f84_4 ?_
  refine cl_istore_n (lv' := [(2, .int (rI z2)), (0, cR x0), (1, .int (rI x1))]) hx hb dJx4a65c_grow_92f84_5 rfl hl (by decide) rfl (fun ls hl => ?_)
  refine lv_iload_n hx hb dJx4a65c_grow_92f84_6 rfl (lv_at hl.1 0 rfl) ?_
  refine rn_if_gt (a := z2) (tgt := 20) hx hb iz2 dJx4a65c_grow_92f84_7 (by decide) (fun c3 => ?_) (fun c3 => ?_)
  · replace hf := cc_if_t hf c3
    exact pw_Jx4a65c_grow_92f84_20 rfl hR htr hd5 B hnh σ x0 x1 z2 ix0 ix1 iz2 hf _ _ _ _ _ hw (cl_sub hl [1, 2, 0] rfl)
  · replace hf := cc_if_f hf c3
    refine cl_aload_n hx hb dJx4a65c_grow_92f84_10 rfl (lv_at hl.1 1 rfl) ?_
    obtain ⟨z4, ez4, iz4, rz4, hf⟩ := cc_g_s hw hf
    refine cw_get (val := cR z4) B hw rz4 ⟨by decide, by decide⟩ (by decide) cwi_13 cfl_Jx4a65c_9 ez4 rfl dJx4a65c_grow_92f84_11 ?_
    obtain ⟨z5, ez5, iz5, hf⟩ := cc_gs_s hf
    refine cw_gets B hw (cw_sta_21 hK) csl_Jx4a65c_39 ez5 dJx4a65c_grow_92f84_14 ?_
    obtain ⟨q7, hf⟩ := cc_ac_s hf
    refine cl_acmp_eq (tgt := 45) hx hb q7 dJx4a65c_grow_92f84_17 (by decide) (fun c6 => ?_) (fun c6 => ?_)
    · replace hf := cc_if_t hf c6
      refine cl_aload_n hx hb dJx4a65c_grow_92f84_45 rfl (lv_at hl.1 1 rfl) ?_
      refine lv_bipush (v := rI 10) hx hb dJx4a65c_grow_92f84_46 (by decide +kernel) ?_
      refine lv_iload_n hx hb dJx4a65c_grow_92f84_48 rfl (lv_at hl.1 2 rfl) ?_
      obtain ⟨σ8, z10, hσ8, hf⟩ := cc_cn_s hf
      obtain ⟨iz10, mσ8⟩ := hR 6 σ [10, x1] σ8 0 z10 hσ8
      have mσ8 : cw_Met l v yJ9_max_7cf53 cJ9_max_7cf53 2 (some .int) d [.int (rI 10), .int (rI x1)] σ σ8 0 (some (.int (rI z10))) := mσ8 ⟨by decide, by decide⟩ ix1
      refine cw_cs (n := 2) (rest := [cR x0]) (As := [.int (rI 10), .int (rI x1)]) B mσ8 cgo_yJ9_max_7cf53 cml_Jx4a65c_79 cst_yJ9_max_7cf53 (by decide +kernel) (by decide) rfl hl.1.1 (cl_cs (cl_1r cl_10) (Nat.le_of_ble_eq_true rfl)) dJx4a65c_grow_92f84_49 rfl hw (fun h0 H locs cells slots hw => ?_) (fun h0 H locs cells slots q ce hw h1 h2 h3 => ?_)
      · skip
        obtain ⟨σ11, z12, eσ11, ez12, iz12, qσ11, rσ11, hf⟩ := cc_na_s hf
        refine cw_anew (t := 23) B hw (Or.inr ⟨rfl, rfl⟩) ccl_Jx4a65c_7 iz10 qσ11.1 qσ11.2 rσ11 eσ11 ez12 dJx4a65c_grow_92f84_52 (fun H hw => ?_)
        refine lv_dup_x1 hx hb dJx4a65c_grow_92f84_55 (cR_cat _) (cR_cat _) ?_
        obtain ⟨σ13, eσ13, rσ13, hf⟩ := cc_p_s hf
        refine cw_put B hw rσ13 cwt_13 (by decide) rfl cfl_Jx4a65c_9 iz12 eσ13 rfl (cw_fv_r rfl (Or.inr ⟨_, rfl⟩)) dJx4a65c_grow_92f84_56 (fun H locs hw => ?_)
        exact cw_retA B hf hw dJx4a65c_grow_92f84_59
      · exact absurd rfl h0
    · replace hf := cc_if_f hf c6
      exact pw_Jx4a65c_grow_92f84_20 rfl hR htr hd5 B hnh σ x0 x1 z2 ix0 ix1 iz2 hf _ _ _ _ _ hw (cl_sub hl [1, 2, 0] rfl)

set_option maxHeartbeats 4000000 in
set_option maxRecDepth 100000 in
theorem pm_Jx4a65c_grow_92f84 {v : cwE} {bd : cBd} {l : Launch} {d : Nat} {rec : Nat → CS → List Int → CO} (hbd : bd = cw_bd v) (hR : cw_Rec l v d rec) (htr : l.stackTraces = false) (hd5 : 5 ≤ d) (σ σ' : CS) (x0 x1 : Int) (kd : Nat) (r : Int) (ix0 : inR x0) (ix1 : inR x1) (hf : pc_Jx4a65c_grow_92f84_0 rec bd σ x0 x1 = some (σ', kd, r)) : cw_Met l v yJx4a65c_grow_92f84 cJx4a65c_grow_92f84 4 (some (.array (.object "java/lang/Object"))) (d + 1) [cR x0, .int (rI x1)] σ σ' kd (some (cR r)) := by
  refine cw_ofW (by decide +kernel) ?_
  intro p e s m args below meth c s₁ B hml hv
  obtain ⟨rfl, hM, hK⟩ := hv
  have hts := atoms_spec (ws := Cond.code yJx4a65c_grow_92f84 cJx4a65c_grow_92f84 4 (some (.array (.object "java/lang/Object"))) :: cw_bw) B.pre
  have hB : cw_B v RJx4a65c p s m _ meth c cJx4a65c_grow_92f84 4 (some (.array (.object "java/lang/Object"))) := ⟨B.exec, B.bytes, B.returns, hml, findClass_of_methodNamed B.named, fun w h => hts w (List.mem_cons_of_mem _ h), B.notSynchronized, hK⟩
  have hnh := cc_nh B (hts _ List.mem_cons_self)
  rw [lg_entry_eq]
  obtain ⟨ls, hls, hl⟩ := cl_ent [cR x0, .int (rI x1)] 4 (cl_1r (cl_1i cl_10)) (Nat.le_of_ble_eq_true rfl)
  rw [hls]
  exact pw_Jx4a65c_grow_92f84_0 hbd hR htr hd5 hB hnh σ x0 x1 ix0 ix1 hf _ _ _ _ _ (cw_W0 hM) (cl_sub hl [0, 1] rfl)

set_option maxHeartbeats 4000000 in
set_option maxRecDepth 100000 in
theorem pw_Jx4a65c_grow_d5877_0 {v : cwE} {bd : cBd} {p : Program} {l : Launch} {e : Env} {s : State} {m : MethodId} {args : Array Value} {below : List Frame} {meth : Method} {c : Code} {d : Nat} {rec : Nat → CS → List Int → CO} {σ0 σ' : CS} {kd : Nat} {r : Int} (hbd : bd = cw_bd v) (hR : cw_Rec l v d rec) (htr : l.stackTraces = false) (hd5 : 5 ≤ d) (B : cw_B v RJx4a65c p s m args meth c cJx4a65c_grow_d5877 1 (some (.array (.object "java/lang/Object")))) (hnh : ∀ x ∈ c.exceptionTable.toList, False) : ∀ (σ : CS) (x0 : Int), inR x0 → pc_Jx4a65c_grow_d5877_0 rec bd σ x0 = some (σ', kd, r) → ∀ (H : Heap) (locs : List Loc) (cells slots : Nat) (ls : Array Slot), cw_W v s σ0 σ H locs cells slots → cl_has ls 1 [(0, cR x0)] → W p l e (cw_rm v (d + 1) σ0) s m args below meth c H locs cells slots (cw_Z below v σ0 σ' kd (some (cR r)) args s) (F0 m 0 ls []) := by
  subst hbd
  obtain ⟨hx, hb, hr, hml, hown, hts, hlk, hK⟩ := id B
  intro σ x0 ix0 hf H locs cells slots ls hw hl
  unfold pc_Jx4a65c_grow_d5877_0 at hf
  refine cl_aload_n hx hb dJx4a65c_grow_d5877_0 rfl (lv_at hl.1 0 rfl) ?_
  refine cl_aload_n hx hb dJx4a65c_grow_d5877_1 rfl (lv_at hl.1 0 rfl) ?_
  obtain ⟨z1, ez1, iz1, rz1, hf⟩ := cc_g_s hw hf
  refine cw_get (val := .int (rI z1)) B hw rz1 ⟨by decide, by decide⟩ (by decide) cwi_13 cfl_Jx4a65c_48 ez1 rfl dJx4a65c_grow_d5877_2 ?_
  refine lv_iconst (v := rI 1) hx hb dJx4a65c_grow_d5877_5 rfl ?_
  obtain ⟨z2, ez2, iz2, hf⟩ := cc_ck_s hf
  refine rn_add hx hb ez2 dJx4a65c_grow_d5877_6 ?_
  obtain ⟨qσ3, hf⟩ := cc_t_s hf
  obtain ⟨σ3, z5, hσ3, hf⟩ := cc_cn_s hf
  obtain ⟨iz5, mσ3⟩ := hR 12 σ [x0, z2] σ3 0 z5 hσ3
  have mσ3 : cw_Met l v yJx4a65c_grow_92f84 cJx4a65c_grow_92f84 4 (some (.array (.object "java/lang/Object"))) d [cR x0, .int (rI z2)] σ σ3 0 (some (cR z5)) := mσ3 ix0 iz2
  refine cw_cv (b := x0) (t := 13) (n := 1) (rest := []) (As := [.int (rI z2)]) B mσ3 qσ3 ⟨by decide, by decide⟩ cgo_yJx4a65c_grow_92f84 cml_Jx4a65c_69 cin_yJx4a65c_grow_92f84 cse_yJx4a65c_grow_92f84 (by decide +kernel) (by decide) rfl hl.1.1 (Nat.le_of_ble_eq_true rfl) dJx4a65c_grow_d5877_7 rfl hw (fun h0 H locs cells slots hw => ?_) (fun h0 H locs cells slots q ce hw h1 h2 h3 => ?_)
  · skip
    exact cw_retA B hf hw dJx4a65c_grow_d5877_10
  · exact absurd rfl h0

set_option maxHeartbeats 4000000 in
set_option maxRecDepth 100000 in
theorem pm_Jx4a65c_grow_d5877 {v : cwE} {bd : cBd} {l : Launch} {d : Nat} {rec : Nat → CS → List Int → CO} (hbd : bd = cw_bd v) (hR : cw_Rec l v d rec) (htr : l.stackTraces = false) (hd5 : 5 ≤ d) (σ σ' : CS) (x0 : Int) (kd : Nat) (r : Int) (ix0 : inR x0) (hf : pc_Jx4a65c_grow_d5877_0 rec bd σ x0 = some (σ', kd, r)) : cw_Met l v yJx4a65c_grow_d5877 cJx4a65c_grow_d5877 1 (some (.array (.object "java/lang/Object"))) (d + 1) [cR x0] σ σ' kd (some (cR r)) := by
  refine cw_ofW (by decide +kernel) ?_
  intro p e s m args below meth c s₁ B hml hv
  obtain ⟨rfl, hM, hK⟩ := hv
  have hts := atoms_spec (ws := Cond.code yJx4a65c_grow_d5877 cJx4a65c_grow_d5877 1 (some (.array (.object "java/lang/Object"))) :: cw_bw) B.pre
  have hB : cw_B v RJx4a65c p s m _ meth c cJx4a65c_grow_d5877 1 (some (.array (.object "java/lang/Object"))) := ⟨B.exec, B.bytes, B.returns, hml, findClass_of_methodNamed B.named, fun w h => hts w (List.mem_cons_of_mem _ h), B.notSynchronized, hK⟩
  have hnh := cc_nh B (hts _ List.mem_cons_self)
  rw [lg_entry_eq]
  obtain ⟨ls, hls, hl⟩ := cl_ent [cR x0] 1 (cl_1r cl_10) (Nat.le_of_ble_eq_true rfl)
  rw [hls]
  exact pw_Jx4a65c_grow_d5877_0 hbd hR htr hd5 hB hnh σ x0 ix0 hf _ _ _ _ _ (cw_W0 hM) (cl_sub hl [0] rfl)

set_option maxHeartbeats 4000000 in
set_option maxRecDepth 100000 in
theorem pw_Jx4a65c_init_da8c8_0 {v : cwE} {bd : cBd} {p : Program} {l : Launch} {e : Env} {s : State} {m : MethodId} {args : Array Value} {below : List Frame} {meth : Method} {c : Code} {d : Nat} {rec : Nat → CS → List Int → CO} {σ0 σ' : CS} {kd : Nat} {r : Int} (hbd : bd = cw_bd v) (hR : cw_Rec l v d rec) (htr : l.stackTraces = false) (hd5 : 5 ≤ d) (B : cw_B v RJx4a65c p s m args meth c cJx4a65c_init_da8c8 1 none) (hin : meth.name = "<init>") (hnh : ∀ x ∈ c.exceptionTable.toList, False) : ∀ (σ : CS) (x0 : Int), inR x0 → pc_Jx4a65c_init_da8c8_0 rec bd σ x0 = some (σ', kd, r) → ∀ (H : Heap) (locs : List Loc) (cells slots : Nat) (ls : Array Slot), cw_W v s σ0 σ H locs cells slots → cl_has ls 1 [(0, cR x0)] → W p l e (cw_rm v (d + 1) σ0) s m args below meth c H locs cells slots (cw_Z below v σ0 σ' kd none args s) (F0 m 0 ls []) := by
  subst hbd
  obtain ⟨hx, hb, hr, hml, hown, hts, hlk, hK⟩ := id B
  intro σ x0 ix0 hf H locs cells slots ls hw hl
  unfold pc_Jx4a65c_init_da8c8_0 at hf
  refine cl_aload_n hx hb dJx4a65c_init_da8c8_0 rfl (lv_at hl.1 0 rfl) ?_
  obtain ⟨qσ1, hf⟩ := cc_t_s hf
  obtain ⟨σ1, z3, hσ1, hf⟩ := cc_ci_s hf
  obtain ⟨iz3, mσ1⟩ := hR 17 σ [x0] σ1 0 z3 hσ1
  have mσ1 : cw_Met l v yJxc12de_init_da8c8 cJxc12de_init_da8c8 1 none d [cR x0] σ σ1 0 none := mσ1 ix0
  refine cw_ci (b := x0) (n := 0) (rest := []) (As := []) B mσ1 qσ1.1 rfl cgo_yJxc12de_init_da8c8 cml_Jx4a65c_1 cin_yJxc12de_init_da8c8 (by decide +kernel) (by decide) rfl hl.1.1 (Nat.le_of_ble_eq_true rfl) dJx4a65c_init_da8c8_1 rfl hw (fun H locs cells slots hw => ?_)
  refine cl_aload_n hx hb dJx4a65c_init_da8c8_4 rfl (lv_at hl.1 0 rfl) ?_
  obtain ⟨z4, ez4, iz4, hf⟩ := cc_gs_s hf
  refine cw_gets B hw (cw_sta_21 hK) csl_Jx4a65c_39 ez4 dJx4a65c_init_da8c8_5 ?_
  obtain ⟨σ5, eσ5, rσ5, hf⟩ := cc_p_s hf
  refine cw_put B hw rσ5 cwt_13 (by decide) rfl cfl_Jx4a65c_9 iz4 eσ5 rfl (cw_fv_r rfl (Or.inr ⟨_, rfl⟩)) dJx4a65c_init_da8c8_8 (fun H locs hw => ?_)
  exact cw_retv B hf hw dJx4a65c_init_da8c8_11

set_option maxHeartbeats 4000000 in
set_option maxRecDepth 100000 in
theorem pm_Jx4a65c_init_da8c8 {v : cwE} {bd : cBd} {l : Launch} {d : Nat} {rec : Nat → CS → List Int → CO} (hbd : bd = cw_bd v) (hR : cw_Rec l v d rec) (htr : l.stackTraces = false) (hd5 : 5 ≤ d) (σ σ' : CS) (x0 : Int) (kd : Nat) (r : Int) (ix0 : inR x0) (hf : pc_Jx4a65c_init_da8c8_0 rec bd σ x0 = some (σ', kd, r)) : cw_Met l v yJx4a65c_init_da8c8 cJx4a65c_init_da8c8 1 none (d + 1) [cR x0] σ σ' kd none := by
  refine cw_ofW (by decide +kernel) ?_
  intro p e s m args below meth c s₁ B hml hv
  obtain ⟨rfl, hM, hK⟩ := hv
  have hts := atoms_spec (ws := Cond.code yJx4a65c_init_da8c8 cJx4a65c_init_da8c8 1 none :: cw_bw) B.pre
  have hB : cw_B v RJx4a65c p s m _ meth c cJx4a65c_init_da8c8 1 none := ⟨B.exec, B.bytes, B.returns, hml, findClass_of_methodNamed B.named, fun w h => hts w (List.mem_cons_of_mem _ h), B.notSynchronized, hK⟩
  have hnh := cc_nh B (hts _ List.mem_cons_self)
  rw [lg_entry_eq]
  obtain ⟨ls, hls, hl⟩ := cl_ent [cR x0] 1 (cl_1r cl_10) (Nat.le_of_ble_eq_true rfl)
  rw [hls]
  exact pw_Jx4a65c_init_da8c8_0 hbd hR htr hd5 hB (name_of_methodNamed B.named B.method).1 hnh σ x0 ix0 hf _ _ _ _ _ (cw_W0 hM) (cl_sub hl [0] rfl)

set_option maxHeartbeats 4000000 in
set_option maxRecDepth 100000 in
theorem pw_Jx4a65c_size_8abf5_0 {v : cwE} {bd : cBd} {p : Program} {l : Launch} {e : Env} {s : State} {m : MethodId} {args : Array Value} {below : List Frame} {meth : Method} {c : Code} {d : Nat} {rec : Nat → CS → List Int → CO} {σ0 σ' : CS} {kd : Nat} {r : Int} (hbd : bd = cw_bd v) (hR : cw_Rec l v d rec) (htr : l.stackTraces = false) (hd5 : 5 ≤ d) (B : cw_B v RJx4a65c p s m args meth c cJx4a65c_size_8abf5 1 (some .int)) (hnh : ∀ x ∈ c.exceptionTable.toList, False) : ∀ (σ : CS) (x0 : Int), inR x0 → pc_Jx4a65c_size_8abf5_0 rec bd σ x0 = some (σ', kd, r) → ∀ (H : Heap) (locs : List Loc) (cells slots : Nat) (ls : Array Slot), cw_W v s σ0 σ H locs cells slots → cl_has ls 1 [(0, cR x0)] → W p l e (cw_rm v (d + 1) σ0) s m args below meth c H locs cells slots (cw_Z below v σ0 σ' kd (some (.int (rI r))) args s) (F0 m 0 ls []) := by
  subst hbd
  obtain ⟨hx, hb, hr, hml, hown, hts, hlk, hK⟩ := id B
  intro σ x0 ix0 hf H locs cells slots ls hw hl
  unfold pc_Jx4a65c_size_8abf5_0 at hf
  refine cl_aload_n hx hb dJx4a65c_size_8abf5_0 rfl (lv_at hl.1 0 rfl) ?_
  obtain ⟨z1, ez1, iz1, rz1, hf⟩ := cc_g_s hw hf
  refine cw_get (val := .int (rI z1)) B hw rz1 ⟨by decide, by decide⟩ (by decide) cwi_13 cfl_Jx4a65c_48 ez1 rfl dJx4a65c_size_8abf5_1 ?_
  exact cw_reti B hf hw dJx4a65c_size_8abf5_4

set_option maxHeartbeats 4000000 in
set_option maxRecDepth 100000 in
theorem pm_Jx4a65c_size_8abf5 {v : cwE} {bd : cBd} {l : Launch} {d : Nat} {rec : Nat → CS → List Int → CO} (hbd : bd = cw_bd v) (hR : cw_Rec l v d rec) (htr : l.stackTraces = false) (hd5 : 5 ≤ d) (σ σ' : CS) (x0 : Int) (kd : Nat) (r : Int) (ix0 : inR x0) (hf : pc_Jx4a65c_size_8abf5_0 rec bd σ x0 = some (σ', kd, r)) : cw_Met l v yJx4a65c_size_8abf5 cJx4a65c_size_8abf5 1 (some .int) (d + 1) [cR x0] σ σ' kd (some (.int (rI r))) := by
  refine cw_ofW (by decide +kernel) ?_
  intro p e s m args below meth c s₁ B hml hv
  obtain ⟨rfl, hM, hK⟩ := hv
  have hts := atoms_spec (ws := Cond.code yJx4a65c_size_8abf5 cJx4a65c_size_8abf5 1 (some .int) :: cw_bw) B.pre
  have hB : cw_B v RJx4a65c p s m _ meth c cJx4a65c_size_8abf5 1 (some .int) := ⟨B.exec, B.bytes, B.returns, hml, findClass_of_methodNamed B.named, fun w h => hts w (List.mem_cons_of_mem _ h), B.notSynchronized, hK⟩
  have hnh := cc_nh B (hts _ List.mem_cons_self)
  rw [lg_entry_eq]
  obtain ⟨ls, hls, hl⟩ := cl_ent [cR x0] 1 (cl_1r cl_10) (Nat.le_of_ble_eq_true rfl)
  rw [hls]
  exact pw_Jx4a65c_size_8abf5_0 hbd hR htr hd5 hB hnh σ x0 ix0 hf _ _ _ _ _ (cw_W0 hM) (cl_sub hl [0] rfl)

set_option maxHeartbeats 4000000 in
set_option maxRecDepth 100000 in
theorem pw_Jxa1e45_init_da8c8_0 {v : cwE} {bd : cBd} {p : Program} {l : Launch} {e : Env} {s : State} {m : MethodId} {args : Array Value} {below : List Frame} {meth : Method} {c : Code} {d : Nat} {rec : Nat → CS → List Int → CO} {σ0 σ' : CS} {kd : Nat} {r : Int} (hbd : bd = cw_bd v) (hR : cw_Rec l v d rec) (htr : l.stackTraces = false) (hd5 : 5 ≤ d) (B : cw_B v RJxa1e45 p s m args meth c cJxa1e45_init_da8c8 1 none) (hin : meth.name = "<init>") (hnh : ∀ x ∈ c.exceptionTable.toList, False) : ∀ (σ : CS) (x0 : Int), inR x0 → pc_Jxa1e45_init_da8c8_0 rec bd σ x0 = some (σ', kd, r) → ∀ (H : Heap) (locs : List Loc) (cells slots : Nat) (ls : Array Slot), cw_W v s σ0 σ H locs cells slots → cl_has ls 1 [(0, cR x0)] → W p l e (cw_rm v (d + 1) σ0) s m args below meth c H locs cells slots (cw_Z below v σ0 σ' kd none args s) (F0 m 0 ls []) := by
  subst hbd
  obtain ⟨hx, hb, hr, hml, hown, hts, hlk, hK⟩ := id B
  intro σ x0 ix0 hf H locs cells slots ls hw hl
  unfold pc_Jxa1e45_init_da8c8_0 at hf
  refine cl_aload_n hx hb dJxa1e45_init_da8c8_0 rfl (lv_at hl.1 0 rfl) ?_
  obtain ⟨q0, hf⟩ := cc_t_s hf
  rw [cR_r q0.1]
  refine W.objInit hx hb hown (hts _ coi_Jxa1e45_1) (hts _ coi2) (hts _ coi3) rfl (hl.1.1.trans hml.symm) rfl dJxa1e45_init_da8c8_1 (by show 1 ≤ d + 1; omega) (by show _ + 12 ≤ 100 * (d + 1); simp [JFrame.monitorRoom]; omega) ?_
  exact cw_retv B hf hw dJxa1e45_init_da8c8_4

set_option maxHeartbeats 4000000 in
set_option maxRecDepth 100000 in
theorem pm_Jxa1e45_init_da8c8 {v : cwE} {bd : cBd} {l : Launch} {d : Nat} {rec : Nat → CS → List Int → CO} (hbd : bd = cw_bd v) (hR : cw_Rec l v d rec) (htr : l.stackTraces = false) (hd5 : 5 ≤ d) (σ σ' : CS) (x0 : Int) (kd : Nat) (r : Int) (ix0 : inR x0) (hf : pc_Jxa1e45_init_da8c8_0 rec bd σ x0 = some (σ', kd, r)) : cw_Met l v yJxa1e45_init_da8c8 cJxa1e45_init_da8c8 1 none (d + 1) [cR x0] σ σ' kd none := by
  refine cw_ofW (by decide +kernel) ?_
  intro p e s m args below meth c s₁ B hml hv
  obtain ⟨rfl, hM, hK⟩ := hv
  have hts := atoms_spec (ws := Cond.code yJxa1e45_init_da8c8 cJxa1e45_init_da8c8 1 none :: cw_bw) B.pre
  have hB : cw_B v RJxa1e45 p s m _ meth c cJxa1e45_init_da8c8 1 none := ⟨B.exec, B.bytes, B.returns, hml, findClass_of_methodNamed B.named, fun w h => hts w (List.mem_cons_of_mem _ h), B.notSynchronized, hK⟩
  have hnh := cc_nh B (hts _ List.mem_cons_self)
  rw [lg_entry_eq]
  obtain ⟨ls, hls, hl⟩ := cl_ent [cR x0] 1 (cl_1r cl_10) (Nat.le_of_ble_eq_true rfl)
  rw [hls]
  exact pw_Jxa1e45_init_da8c8_0 hbd hR htr hd5 hB (name_of_methodNamed B.named B.method).1 hnh σ x0 ix0 hf _ _ _ _ _ (cw_W0 hM) (cl_sub hl [0] rfl)

set_option maxHeartbeats 4000000 in
set_option maxRecDepth 100000 in
theorem pw_Jxc12de_init_da8c8_0 {v : cwE} {bd : cBd} {p : Program} {l : Launch} {e : Env} {s : State} {m : MethodId} {args : Array Value} {below : List Frame} {meth : Method} {c : Code} {d : Nat} {rec : Nat → CS → List Int → CO} {σ0 σ' : CS} {kd : Nat} {r : Int} (hbd : bd = cw_bd v) (hR : cw_Rec l v d rec) (htr : l.stackTraces = false) (hd5 : 5 ≤ d) (B : cw_B v RJxc12de p s m args meth c cJxc12de_init_da8c8 1 none) (hin : meth.name = "<init>") (hnh : ∀ x ∈ c.exceptionTable.toList, False) : ∀ (σ : CS) (x0 : Int), inR x0 → pc_Jxc12de_init_da8c8_0 rec bd σ x0 = some (σ', kd, r) → ∀ (H : Heap) (locs : List Loc) (cells slots : Nat) (ls : Array Slot), cw_W v s σ0 σ H locs cells slots → cl_has ls 1 [(0, cR x0)] → W p l e (cw_rm v (d + 1) σ0) s m args below meth c H locs cells slots (cw_Z below v σ0 σ' kd none args s) (F0 m 0 ls []) := by
  subst hbd
  obtain ⟨hx, hb, hr, hml, hown, hts, hlk, hK⟩ := id B
  intro σ x0 ix0 hf H locs cells slots ls hw hl
  unfold pc_Jxc12de_init_da8c8_0 at hf
  refine cl_aload_n hx hb dJxc12de_init_da8c8_0 rfl (lv_at hl.1 0 rfl) ?_
  obtain ⟨qσ1, hf⟩ := cc_t_s hf
  obtain ⟨σ1, z3, hσ1, hf⟩ := cc_ci_s hf
  obtain ⟨iz3, mσ1⟩ := hR 16 σ [x0] σ1 0 z3 hσ1
  have mσ1 : cw_Met l v yJxa1e45_init_da8c8 cJxa1e45_init_da8c8 1 none d [cR x0] σ σ1 0 none := mσ1 ix0
  refine cw_ci (b := x0) (n := 0) (rest := []) (As := []) B mσ1 qσ1.1 rfl cgo_yJxa1e45_init_da8c8 cml_Jxc12de_1 cin_yJxa1e45_init_da8c8 (by decide +kernel) (by decide) rfl hl.1.1 (Nat.le_of_ble_eq_true rfl) dJxc12de_init_da8c8_1 rfl hw (fun H locs cells slots hw => ?_)
  refine cl_aload_n hx hb dJxc12de_init_da8c8_4 rfl (lv_at hl.1 0 rfl) ?_
  refine lv_iconst (v := rI 0) hx hb dJxc12de_init_da8c8_5 rfl ?_
  obtain ⟨σ4, eσ4, rσ4, hf⟩ := cc_p_s hf
  refine cw_put B hw rσ4 cwt_13 (by decide) rfl cfl_Jxc12de_7 ⟨by decide, by decide⟩ eσ4 rfl (cw_fv_n rfl rfl) dJxc12de_init_da8c8_6 (fun H locs hw => ?_)
  exact cw_retv B hf hw dJxc12de_init_da8c8_9

set_option maxHeartbeats 4000000 in
set_option maxRecDepth 100000 in
theorem pm_Jxc12de_init_da8c8 {v : cwE} {bd : cBd} {l : Launch} {d : Nat} {rec : Nat → CS → List Int → CO} (hbd : bd = cw_bd v) (hR : cw_Rec l v d rec) (htr : l.stackTraces = false) (hd5 : 5 ≤ d) (σ σ' : CS) (x0 : Int) (kd : Nat) (r : Int) (ix0 : inR x0) (hf : pc_Jxc12de_init_da8c8_0 rec bd σ x0 = some (σ', kd, r)) : cw_Met l v yJxc12de_init_da8c8 cJxc12de_init_da8c8 1 none (d + 1) [cR x0] σ σ' kd none := by
  refine cw_ofW (by decide +kernel) ?_
  intro p e s m args below meth c s₁ B hml hv
  obtain ⟨rfl, hM, hK⟩ := hv
  have hts := atoms_spec (ws := Cond.code yJxc12de_init_da8c8 cJxc12de_init_da8c8 1 none :: cw_bw) B.pre
  have hB : cw_B v RJxc12de p s m _ meth c cJxc12de_init_da8c8 1 none := ⟨B.exec, B.bytes, B.returns, hml, findClass_of_methodNamed B.named, fun w h => hts w (List.mem_cons_of_mem _ h), B.notSynchronized, hK⟩
  have hnh := cc_nh B (hts _ List.mem_cons_self)
  rw [lg_entry_eq]
  obtain ⟨ls, hls, hl⟩ := cl_ent [cR x0] 1 (cl_1r cl_10) (Nat.le_of_ble_eq_true rfl)
  rw [hls]
  exact pw_Jxc12de_init_da8c8_0 hbd hR htr hd5 hB (name_of_methodNamed B.named B.method).1 hnh σ x0 ix0 hf _ _ _ _ _ (cw_W0 hM) (cl_sub hl [0] rfl)

set_option maxHeartbeats 4000000 in
set_option maxRecDepth 100000 in
theorem pw_X0_addName_0 {v : cwE} {bd : cBd} {p : Program} {l : Launch} {e : Env} {s : State} {m : MethodId} {args : Array Value} {below : List Frame} {meth : Method} {c : Code} {d : Nat} {rec : Nat → CS → List Int → CO} {σ0 σ' : CS} {kd : Nat} {r : Int} (hbd : bd = cw_bd v) (hR : cw_Rec l v d rec) (htr : l.stackTraces = false) (hd5 : 5 ≤ d) (B : cw_B v RX0 p s m args meth c cX0_addName 7 none) (hnh : ∀ x ∈ c.exceptionTable.toList, False) : ∀ (σ : CS) (x0 x1 x2 x3 x4 x5 : Int), inR x0 → inR x1 → inR x2 → inR x3 → inR x4 → inR x5 → pc_X0_addName_0 rec bd σ x0 x1 x2 x3 x4 x5 = some (σ', kd, r) → ∀ (H : Heap) (locs : List Loc) (cells slots : Nat) (ls : Array Slot), cw_W v s σ0 σ H locs cells slots → cl_has ls 7 [(0, cR x0), (1, cR x1), (2, cR x2), (3, cR x3), (4, .int (rI x4)), (5, cR x5)] → W p l e (cw_rm v (d + 1) σ0) s m args below meth c H locs cells slots (cw_Z below v σ0 σ' kd none args s) (F0 m 0 ls []) := by
  subst hbd
  obtain ⟨hx, hb, hr, hml, hown, hts, hlk, hK⟩ := id B
  intro σ x0 x1 x2 x3 x4 x5 ix0 ix1 ix2 ix3 ix4 ix5 hf H locs cells slots ls hw hl
  unfold pc_X0_addName_0 at hf
  refine cl_aload_n hx hb dX0_addName_0 rfl (lv_at hl.1 0 rfl) ?_
  obtain ⟨z1, ez1, iz1, rz1, hf⟩ := cc_g_s hw hf
  refine cw_get (val := cR z1) B hw rz1 ⟨by decide, by decide⟩ (by decide) cwi_1 cfl_X0_34 ez1 rfl dX0_addName_1 ?_
  obtain ⟨qσ2, hf⟩ := cc_t_s hf
  obtain ⟨σ2, kv3, z4, hσ2, hf⟩ := cc_cl_s hf
  obtain ⟨iz4, mσ2⟩ := hR 104 σ [z1] σ2 kv3 z4 hσ2
  have mσ2 : cw_Met l v yX5_isFull cX5_isFull 1 (some .boolean) d [cR z1] σ σ2 kv3 (some (.int (rI z4))) := mσ2 iz1
  refine cw_cv (b := z1) (t := 6) (n := 0) (rest := []) (As := []) B mσ2 qσ2 ⟨by decide, by decide⟩ cgo_yX5_isFull cml_X0_81 cin_yX5_isFull cse_yX5_isFull (by decide +kernel) (by decide) rfl hl.1.1 (Nat.le_of_ble_eq_true rfl) dX0_addName_4 rfl hw (fun h0 H locs cells slots hw => ?_) (fun h0 H locs cells slots q ce hw h1 h2 h3 => ?_)
  · rcases hf with ⟨-, hf⟩ | ⟨hk, -⟩
    · skip
      refine rn_if_eq (a := z4) (tgt := 11) hx hb iz4 dX0_addName_7 (by decide) (fun c5 => ?_) (fun c5 => ?_)
      · replace hf := cc_if_t hf c5
        refine cl_aload_n hx hb dX0_addName_11 rfl (lv_at hl.1 0 rfl) ?_
        obtain ⟨z6, ez6, iz6, rz6, hf⟩ := cc_g_s hw hf
        refine cw_get (val := cR z6) B hw rz6 ⟨by decide, by decide⟩ (by decide) cwi_1 cfl_X0_34 ez6 rfl dX0_addName_12 ?_
        obtain ⟨z7, ez7, iz7, rz7, hf⟩ := cc_g_s hw hf
        refine cw_get (val := .int (rI z7)) B hw rz7 ⟨by decide, by decide⟩ (by decide) cwi_6 cfl_X0_74 ez7 rfl dX0_addName_15 ?_
        refine cl_istore (lv' := [(6, .int (rI z7)), (0, cR x0), (1, cR x1), (2, cR x2), (3, cR x3), (4, .int (rI x4)), (5, cR x5)]) hx hb dX0_addName_18 hl (by decide) rfl (fun ls hl => ?_)
        refine cl_aload_n hx hb dX0_addName_20 rfl (lv_at hl.1 1 rfl) ?_
        obtain ⟨z8, ez8, iz8, rz8, hf⟩ := cc_g_s hw hf
        refine cw_get (val := cR z8) B hw rz8 ⟨by decide, by decide⟩ (by decide) cwi_1 cfl_X0_39 ez8 rfl dX0_addName_21 ?_
        refine lv_iload hx hb dX0_addName_24 (lv_at hl.1 0 rfl) ?_
        refine cl_aload_n hx hb dX0_addName_26 rfl (lv_at hl.1 4 rfl) ?_
        obtain ⟨qσ9, hf⟩ := cc_tn_s hf
        obtain ⟨σ9, eσ9, rσ9, bσ9, hf⟩ := cc_w_s hf
        refine cw_astR B hw rσ9 iz7 bσ9 ix3 qσ9 eσ9 dX0_addName_27 (fun H locs hw => ?_)
        refine cl_aload_n hx hb dX0_addName_28 rfl (lv_at hl.1 1 rfl) ?_
        obtain ⟨z10, ez10, iz10, rz10, hf⟩ := cc_g_s hw hf
        refine cw_get (val := cR z10) B hw rz10 ⟨by decide, by decide⟩ (by decide) cwi_1 cfl_X0_43 ez10 rfl dX0_addName_29 ?_
        refine lv_iload hx hb dX0_addName_32 (lv_at hl.1 0 rfl) ?_
        refine cl_aload hx hb dX0_addName_34 (lv_at hl.1 6 rfl) ?_
        obtain ⟨qσ11, hf⟩ := cc_tn_s hf
        obtain ⟨σ11, eσ11, rσ11, bσ11, hf⟩ := cc_w_s hf
        refine cw_astR B hw rσ11 iz7 bσ11 ix5 qσ11 eσ11 dX0_addName_36 (fun H locs hw => ?_)
        refine cl_aload_n hx hb dX0_addName_37 rfl (lv_at hl.1 1 rfl) ?_
        obtain ⟨z12, ez12, iz12, rz12, hf⟩ := cc_g_s hw hf
        refine cw_get (val := cR z12) B hw rz12 ⟨by decide, by decide⟩ (by decide) cwi_1 cfl_X0_46 ez12 rfl dX0_addName_38 ?_
        refine lv_iload hx hb dX0_addName_41 (lv_at hl.1 0 rfl) ?_
        refine lv_iload hx hb dX0_addName_43 (lv_at hl.1 5 rfl) ?_
        obtain ⟨σ13, eσ13, rσ13, bσ13, hf⟩ := cc_w_s hf
        refine cw_astI B hw rσ13 iz7 bσ13 ix4 eσ13 dX0_addName_45 (fun H locs hw => ?_)
        refine cl_aload_n hx hb dX0_addName_46 rfl (lv_at hl.1 1 rfl) ?_
        obtain ⟨z14, ez14, iz14, rz14, hf⟩ := cc_g_s hw hf
        refine cw_get (val := cR z14) B hw rz14 ⟨by decide, by decide⟩ (by decide) cwi_1 cfl_X0_34 ez14 rfl dX0_addName_47 ?_
        refine cl_aload_n hx hb dX0_addName_50 rfl (lv_at hl.1 2 rfl) ?_
        refine cl_aload_n hx hb dX0_addName_51 rfl (lv_at hl.1 3 rfl) ?_
        obtain ⟨z15, ez15, iz15, rz15, hf⟩ := cc_g_s hw hf
        refine cw_get (val := .int (rI z15)) B hw rz15 ⟨by decide, by decide⟩ (by decide) cwi_7 cfl_X0_85 ez15 rfl dX0_addName_52 ?_
        refine cl_aload_n hx hb dX0_addName_55 rfl (lv_at hl.1 3 rfl) ?_
        obtain ⟨z16, ez16, iz16, rz16, hf⟩ := cc_g_s hw hf
        refine cw_get (val := .int (rI z16)) B hw rz16 ⟨by decide, by decide⟩ (by decide) cwi_7 cfl_X0_88 ez16 rfl dX0_addName_56 ?_
        obtain ⟨qσ17, hf⟩ := cc_t_s hf
        obtain ⟨σ17, kv18, z19, hσ17, hf⟩ := cc_cl_s hf
        obtain ⟨iz19, mσ17⟩ := hR 99 σ13 [z14, x1, z15, z16] σ17 kv18 z19 hσ17
        have mσ17 : cw_Met l v yX5_add cX5_add 5 none d [cR z14, cR x1, .int (rI z15), .int (rI z16)] σ13 σ17 kv18 none := mσ17 iz14 ix1 iz15 iz16
        refine cw_cv (b := z14) (t := 6) (n := 3) (rest := []) (As := [cR x1, .int (rI z15), .int (rI z16)]) B mσ17 qσ17 ⟨by decide, by decide⟩ cgo_yX5_add cml_X0_62 cin_yX5_add cse_yX5_add (by decide +kernel) (by decide) rfl hl.1.1 (Nat.le_of_ble_eq_true rfl) dX0_addName_59 rfl hw (fun h0 H locs cells slots hw => ?_) (fun h0 H locs cells slots q ce hw h1 h2 h3 => ?_)
        · rcases hf with ⟨-, hf⟩ | ⟨hk, -⟩
          · skip
            exact cw_retv B hf hw dX0_addName_62
          · exact absurd h0 hk
        · rcases hf with ⟨hk, -⟩ | ⟨-, hf⟩
          · exact absurd hk h0
          · cases hf
            exact cw_xout B hnh h0 hw h1 h2 h3
      · replace hf := cc_if_f hf c5
        exact cw_retv B hf hw dX0_addName_10
    · exact absurd h0 hk
  · rcases hf with ⟨hk, -⟩ | ⟨-, hf⟩
    · exact absurd hk h0
    · cases hf
      exact cw_xout B hnh h0 hw h1 h2 h3

