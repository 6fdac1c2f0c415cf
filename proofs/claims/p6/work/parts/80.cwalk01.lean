set_option maxHeartbeats 4000000 in
set_option maxRecDepth 100000 in
theorem pm_J9_max_7cf53 {v : cwE} {bd : cBd} {l : Launch} {d : Nat} {rec : Nat → CS → List Int → CO} (hbd : bd = cw_bd v) (hR : cw_Rec l v d rec) (htr : l.stackTraces = false) (hd5 : 5 ≤ d) (σ σ' : CS) (x0 x1 : Int) (kd : Nat) (r : Int) (ix0 : inR x0) (ix1 : inR x1) (hf : pc_J9_max_7cf53_0 rec bd σ x0 x1 = some (σ', kd, r)) : cw_Met l v yJ9_max_7cf53 cJ9_max_7cf53 2 (some .int) (d + 1) [.int (rI x0), .int (rI x1)] σ σ' kd (some (.int (rI r))) := by
  refine cw_ofW (by decide +kernel) ?_
  intro p e s m args below meth c s₁ B hml hv
  obtain ⟨rfl, hM, hK⟩ := hv
  have hts := atoms_spec (ws := Cond.code yJ9_max_7cf53 cJ9_max_7cf53 2 (some .int) :: cw_bw) B.pre
  have hB : cw_B v RJ9 p s m _ meth c cJ9_max_7cf53 2 (some .int) := ⟨B.exec, B.bytes, B.returns, hml, findClass_of_methodNamed B.named, fun w h => hts w (List.mem_cons_of_mem _ h), B.notSynchronized, hK⟩
  have hnh := cc_nh B (hts _ List.mem_cons_self)
  rw [lg_entry_eq]
  obtain ⟨ls, hls, hl⟩ := cl_ent [.int (rI x0), .int (rI x1)] 2 (cl_1i (cl_1i cl_10)) (Nat.le_of_ble_eq_true rfl)
  rw [hls]
  exact pw_J9_max_7cf53_0 hbd hR htr hd5 hB hnh σ x0 x1 ix0 ix1 hf _ _ _ _ _ (cw_W0 hM) (cl_sub hl [0, 1] rfl)

set_option maxHeartbeats 4000000 in
set_option maxRecDepth 100000 in
theorem pw_J9_min_7cf53_0 {v : cwE} {bd : cBd} {p : Program} {l : Launch} {e : Env} {s : State} {m : MethodId} {args : Array Value} {below : List Frame} {meth : Method} {c : Code} {d : Nat} {rec : Nat → CS → List Int → CO} {σ0 σ' : CS} {kd : Nat} {r : Int} (hbd : bd = cw_bd v) (hR : cw_Rec l v d rec) (htr : l.stackTraces = false) (hd5 : 5 ≤ d) (B : cw_B v RJ9 p s m args meth c cJ9_min_7cf53 2 (some .int)) (hnh : ∀ x ∈ c.exceptionTable.toList, False) : ∀ (σ : CS) (x0 x1 : Int), inR x0 → inR x1 → pc_J9_min_7cf53_0 rec bd σ x0 x1 = some (σ', kd, r) → ∀ (H : Heap) (locs : List Loc) (cells slots : Nat) (ls : Array Slot), cw_W v s σ0 σ H locs cells slots → cl_has ls 2 [(0, .int (rI x0)), (1, .int (rI x1))] → W p l e (cw_rm v (d + 1) σ0) s m args below meth c H locs cells slots (cw_Z below v σ0 σ' kd (some (.int (rI r))) args s) (F0 m 0 ls []) := by
  subst hbd
  obtain ⟨hx, hb, hr, hml, hown, hts, hlk, hK⟩ := id B
  intro σ x0 x1 ix0 ix1 hf H locs cells slots ls hw hl
  unfold pc_J9_min_7cf53_0 at hf
  refine lv_iload_n hx hb dJ9_min_7cf53_0 rfl (lv_at hl.1 0 rfl) ?_
  refine lv_iload_n hx hb dJ9_min_7cf53_1 rfl (lv_at hl.1 1 rfl) ?_
  refine rn_icmp_gt (a := x0) (b := x1) (tgt := 9) hx hb ix0 ix1 dJ9_min_7cf53_2 (by decide) (fun c1 => ?_) (fun c1 => ?_)
  · replace hf := cc_if_t hf c1
    refine lv_iload_n hx hb dJ9_min_7cf53_9 rfl (lv_at hl.1 1 rfl) ?_
    exact cw_reti B hf hw dJ9_min_7cf53_10
  · replace hf := cc_if_f hf c1
    refine lv_iload_n hx hb dJ9_min_7cf53_5 rfl (lv_at hl.1 0 rfl) ?_
    refine lv_goto (tgt := 10) hx hb dJ9_min_7cf53_6 (by decide) ?_
    exact cw_reti B hf hw dJ9_min_7cf53_10

set_option maxHeartbeats 4000000 in
set_option maxRecDepth 100000 in
theorem pm_J9_min_7cf53 {v : cwE} {bd : cBd} {l : Launch} {d : Nat} {rec : Nat → CS → List Int → CO} (hbd : bd = cw_bd v) (hR : cw_Rec l v d rec) (htr : l.stackTraces = false) (hd5 : 5 ≤ d) (σ σ' : CS) (x0 x1 : Int) (kd : Nat) (r : Int) (ix0 : inR x0) (ix1 : inR x1) (hf : pc_J9_min_7cf53_0 rec bd σ x0 x1 = some (σ', kd, r)) : cw_Met l v yJ9_min_7cf53 cJ9_min_7cf53 2 (some .int) (d + 1) [.int (rI x0), .int (rI x1)] σ σ' kd (some (.int (rI r))) := by
  refine cw_ofW (by decide +kernel) ?_
  intro p e s m args below meth c s₁ B hml hv
  obtain ⟨rfl, hM, hK⟩ := hv
  have hts := atoms_spec (ws := Cond.code yJ9_min_7cf53 cJ9_min_7cf53 2 (some .int) :: cw_bw) B.pre
  have hB : cw_B v RJ9 p s m _ meth c cJ9_min_7cf53 2 (some .int) := ⟨B.exec, B.bytes, B.returns, hml, findClass_of_methodNamed B.named, fun w h => hts w (List.mem_cons_of_mem _ h), B.notSynchronized, hK⟩
  have hnh := cc_nh B (hts _ List.mem_cons_self)
  rw [lg_entry_eq]
  obtain ⟨ls, hls, hl⟩ := cl_ent [.int (rI x0), .int (rI x1)] 2 (cl_1i (cl_1i cl_10)) (Nat.le_of_ble_eq_true rfl)
  rw [hls]
  exact pw_J9_min_7cf53_0 hbd hR htr hd5 hB hnh σ x0 x1 ix0 ix1 hf _ _ _ _ _ (cw_W0 hM) (cl_sub hl [0, 1] rfl)

set_option maxHeartbeats 4000000 in
set_option maxRecDepth 100000 in
theorem pw_Jx4a65c_add_72be8_11 {v : cwE} {bd : cBd} {p : Program} {l : Launch} {e : Env} {s : State} {m : MethodId} {args : Array Value} {below : List Frame} {meth : Method} {c : Code} {d : Nat} {rec : Nat → CS → List Int → CO} {σ0 σ' : CS} {kd : Nat} {r : Int} (hbd : bd = cw_bd v) (hR : cw_Rec l v d rec) (htr : l.stackTraces = false) (hd5 : 5 ≤ d) (B : cw_B v RJx4a65c p s m args meth c cJx4a65c_add_72be8 4 none) (hnh : ∀ x ∈ c.exceptionTable.toList, False) : ∀ (σ : CS) (x0 x1 x2 x3 : Int), inR x0 → inR x1 → inR x2 → inR x3 → pc_Jx4a65c_add_72be8_11 rec bd σ x0 x1 x2 x3 = some (σ', kd, r) → ∀ (H : Heap) (locs : List Loc) (cells slots : Nat) (ls : Array Slot), cw_W v s σ0 σ H locs cells slots → cl_has ls 4 [(0, cR x0), (1, cR x1), (2, cR x2), (3, .int (rI x3))] → W p l e (cw_rm v (d + 1) σ0) s m args below meth c H locs cells slots (cw_Z below v σ0 σ' kd none args s) (F0 m 11 ls []) := by
  subst hbd
  obtain ⟨hx, hb, hr, hml, hown, hts, hlk, hK⟩ := id B
  intro σ x0 x1 x2 x3 ix0 ix1 ix2 ix3 hf H locs cells slots ls hw hl
  unfold pc_Jx4a65c_add_72be8_11 at hf
  refine cl_aload_n hx hb dJx4a65c_add_72be8_11 rfl (lv_at hl.1 2 rfl) ?_
  refine lv_iload_n hx hb dJx4a65c_add_72be8_12 rfl (lv_at hl.1 3 rfl) ?_
  refine cl_aload_n hx hb dJx4a65c_add_72be8_13 rfl (lv_at hl.1 1 rfl) ?_
  obtain ⟨qσ1, hf⟩ := cc_to_s hf
  obtain ⟨σ1, eσ1, rσ1, bσ1, hf⟩ := cc_w_s hf
  refine cw_astO B hw rσ1 ix3 bσ1 ix1 qσ1 eσ1 dJx4a65c_add_72be8_14 (fun H locs hw => ?_)
  refine cl_aload_n hx hb dJx4a65c_add_72be8_15 rfl (lv_at hl.1 0 rfl) ?_
  refine lv_iload_n hx hb dJx4a65c_add_72be8_16 rfl (lv_at hl.1 3 rfl) ?_
  refine lv_iconst (v := rI 1) hx hb dJx4a65c_add_72be8_17 rfl ?_
  obtain ⟨z2, ez2, iz2, hf⟩ := cc_ck_s hf
  refine rn_add hx hb ez2 dJx4a65c_add_72be8_18 ?_
  obtain ⟨σ3, eσ3, rσ3, hf⟩ := cc_p_s hf
  refine cw_put B hw rσ3 cwt_13 (by decide) rfl cfl_Jx4a65c_48 iz2 eσ3 rfl (cw_fv_n rfl rfl) dJx4a65c_add_72be8_19 (fun H locs hw => ?_)
  exact cw_retv B hf hw dJx4a65c_add_72be8_22

set_option maxHeartbeats 4000000 in
set_option maxRecDepth 100000 in
theorem pw_Jx4a65c_add_72be8_0 {v : cwE} {bd : cBd} {p : Program} {l : Launch} {e : Env} {s : State} {m : MethodId} {args : Array Value} {below : List Frame} {meth : Method} {c : Code} {d : Nat} {rec : Nat → CS → List Int → CO} {σ0 σ' : CS} {kd : Nat} {r : Int} (hbd : bd = cw_bd v) (hR : cw_Rec l v d rec) (htr : l.stackTraces = false) (hd5 : 5 ≤ d) (B : cw_B v RJx4a65c p s m args meth c cJx4a65c_add_72be8 4 none) (hnh : ∀ x ∈ c.exceptionTable.toList, False) : ∀ (σ : CS) (x0 x1 x2 x3 : Int), inR x0 → inR x1 → inR x2 → inR x3 → pc_Jx4a65c_add_72be8_0 rec bd σ x0 x1 x2 x3 = some (σ', kd, r) → ∀ (H : Heap) (locs : List Loc) (cells slots : Nat) (ls : Array Slot), cw_W v s σ0 σ H locs cells slots → cl_has ls 4 [(0, cR x0), (1, cR x1), (2, cR x2), (3, .int (rI x3))] → W p l e (cw_rm v (d + 1) σ0) s m args below meth c H locs cells slots (cw_Z below v σ0 σ' kd none args s) (F0 m 0 ls []) := by
  subst hbd
  obtain ⟨hx, hb, hr, hml, hown, hts, hlk, hK⟩ := id B
  intro σ x0 x1 x2 x3 ix0 ix1 ix2 ix3 hf H locs cells slots ls hw hl
  unfold pc_Jx4a65c_add_72be8_0 at hf
  refine lv_iload_n hx hb dJx4a65c_add_72be8_0 rfl (lv_at hl.1 3 rfl) ?_
  refine cl_aload_n hx hb dJx4a65c_add_72be8_1 rfl (lv_at hl.1 2 rfl) ?_
  obtain ⟨z1, ez1, iz1, rz1, hf⟩ := cc_l_s hf
  refine cw_len B hw rz1 (by decide) ez1 iz1 dJx4a65c_add_72be8_2 ?_
  refine rn_icmp_ne (a := x3) (b := z1) (tgt := 11) hx hb ix3 iz1 dJx4a65c_add_72be8_3 (by decide) (fun c2 => ?_) (fun c2 => ?_)
  · replace hf := cc_if_t hf c2
    exact pw_Jx4a65c_add_72be8_11 rfl hR htr hd5 B hnh σ x0 x1 x2 x3 ix0 ix1 ix2 ix3 hf _ _ _ _ _ hw (cl_sub hl [0, 1, 2, 3] rfl)
  · replace hf := cc_if_f hf c2
    refine cl_aload_n hx hb dJx4a65c_add_72be8_6 rfl (lv_at hl.1 0 rfl) ?_
    obtain ⟨qσ3, hf⟩ := cc_t_s hf
    obtain ⟨σ3, z5, hσ3, hf⟩ := cc_cn_s hf
    obtain ⟨iz5, mσ3⟩ := hR 13 σ [x0] σ3 0 z5 hσ3
    have mσ3 : cw_Met l v yJx4a65c_grow_d5877 cJx4a65c_grow_d5877 1 (some (.array (.object "java/lang/Object"))) d [cR x0] σ σ3 0 (some (cR z5)) := mσ3 ix0
    refine cw_cv (b := x0) (t := 13) (n := 0) (rest := []) (As := []) B mσ3 qσ3 ⟨by decide, by decide⟩ cgo_yJx4a65c_grow_d5877 cml_Jx4a65c_129 cin_yJx4a65c_grow_d5877 cse_yJx4a65c_grow_d5877 (by decide +kernel) (by decide) rfl hl.1.1 (Nat.le_of_ble_eq_true rfl) dJx4a65c_add_72be8_7 rfl hw (fun h0 H locs cells slots hw => ?_) (fun h0 H locs cells slots q ce hw h1 h2 h3 => ?_)
    · skip
      refine cl_astore_n (lv' := [(2, cR z5), (0, cR x0), (1, cR x1), (3, .int (rI x3))]) hx hb dJx4a65c_add_72be8_10 rfl hl (by decide) rfl (fun ls hl => ?_)
      exact pw_Jx4a65c_add_72be8_11 rfl hR htr hd5 B hnh σ3 x0 x1 z5 x3 ix0 ix1 iz5 ix3 hf _ _ _ _ _ hw (cl_sub hl [1, 2, 0, 3] rfl)
    · exact absurd rfl h0

set_option maxHeartbeats 4000000 in
set_option maxRecDepth 100000 in
theorem pm_Jx4a65c_add_72be8 {v : cwE} {bd : cBd} {l : Launch} {d : Nat} {rec : Nat → CS → List Int → CO} (hbd : bd = cw_bd v) (hR : cw_Rec l v d rec) (htr : l.stackTraces = false) (hd5 : 5 ≤ d) (σ σ' : CS) (x0 x1 x2 x3 : Int) (kd : Nat) (r : Int) (ix0 : inR x0) (ix1 : inR x1) (ix2 : inR x2) (ix3 : inR x3) (hf : pc_Jx4a65c_add_72be8_0 rec bd σ x0 x1 x2 x3 = some (σ', kd, r)) : cw_Met l v yJx4a65c_add_72be8 cJx4a65c_add_72be8 4 none (d + 1) [cR x0, cR x1, cR x2, .int (rI x3)] σ σ' kd none := by
  refine cw_ofW (by decide +kernel) ?_
  intro p e s m args below meth c s₁ B hml hv
  obtain ⟨rfl, hM, hK⟩ := hv
  have hts := atoms_spec (ws := Cond.code yJx4a65c_add_72be8 cJx4a65c_add_72be8 4 none :: cw_bw) B.pre
  have hB : cw_B v RJx4a65c p s m _ meth c cJx4a65c_add_72be8 4 none := ⟨B.exec, B.bytes, B.returns, hml, findClass_of_methodNamed B.named, fun w h => hts w (List.mem_cons_of_mem _ h), B.notSynchronized, hK⟩
  have hnh := cc_nh B (hts _ List.mem_cons_self)
  rw [lg_entry_eq]
  obtain ⟨ls, hls, hl⟩ := cl_ent [cR x0, cR x1, cR x2, .int (rI x3)] 4 (cl_1r (cl_1r (cl_1r (cl_1i cl_10)))) (Nat.le_of_ble_eq_true rfl)
  rw [hls]
  exact pw_Jx4a65c_add_72be8_0 hbd hR htr hd5 hB hnh σ x0 x1 x2 x3 ix0 ix1 ix2 ix3 hf _ _ _ _ _ (cw_W0 hM) (cl_sub hl [0, 1, 2, 3] rfl)

set_option maxHeartbeats 4000000 in
set_option maxRecDepth 100000 in
theorem pw_Jx4a65c_add_9ea2d_0 {v : cwE} {bd : cBd} {p : Program} {l : Launch} {e : Env} {s : State} {m : MethodId} {args : Array Value} {below : List Frame} {meth : Method} {c : Code} {d : Nat} {rec : Nat → CS → List Int → CO} {σ0 σ' : CS} {kd : Nat} {r : Int} (hbd : bd = cw_bd v) (hR : cw_Rec l v d rec) (htr : l.stackTraces = false) (hd5 : 5 ≤ d) (B : cw_B v RJx4a65c p s m args meth c cJx4a65c_add_9ea2d 2 (some .boolean)) (hnh : ∀ x ∈ c.exceptionTable.toList, False) : ∀ (σ : CS) (x0 x1 : Int), inR x0 → inR x1 → pc_Jx4a65c_add_9ea2d_0 rec bd σ x0 x1 = some (σ', kd, r) → ∀ (H : Heap) (locs : List Loc) (cells slots : Nat) (ls : Array Slot), cw_W v s σ0 σ H locs cells slots → cl_has ls 2 [(0, cR x0), (1, cR x1)] → W p l e (cw_rm v (d + 1) σ0) s m args below meth c H locs cells slots (cw_Z below v σ0 σ' kd (some (.int (rI r))) args s) (F0 m 0 ls []) := by
  subst hbd
  obtain ⟨hx, hb, hr, hml, hown, hts, hlk, hK⟩ := id B
  intro σ x0 x1 ix0 ix1 hf H locs cells slots ls hw hl
  unfold pc_Jx4a65c_add_9ea2d_0 at hf
  refine cl_aload_n hx hb dJx4a65c_add_9ea2d_0 rfl (lv_at hl.1 0 rfl) ?_
  refine lv_dup hx hb dJx4a65c_add_9ea2d_1 (cR_cat _) ?_
  obtain ⟨z1, ez1, iz1, rz1, hf⟩ := cc_g_s hw hf
  refine cw_getS (val := .int (rI z1)) B hw rz1 ⟨by decide, by decide⟩ (by decide) cwi_13 csf_0 cfr_Jx4a65c_63 ez1 rfl dJx4a65c_add_9ea2d_2 ?_
  refine lv_iconst (v := rI 1) hx hb dJx4a65c_add_9ea2d_5 rfl ?_
  obtain ⟨z2, ez2, iz2, hf⟩ := cc_ck_s hf
  refine rn_add hx hb ez2 dJx4a65c_add_9ea2d_6 ?_
  obtain ⟨σ3, eσ3, rσ3, hf⟩ := cc_p_s hf
  refine cw_putS B hw rσ3 cwt_13 (by decide) rfl csf_0 cfr_Jx4a65c_63 iz2 eσ3 rfl (cw_fv_n rfl rfl) dJx4a65c_add_9ea2d_7 (fun H locs hw => ?_)
  refine cl_aload_n hx hb dJx4a65c_add_9ea2d_10 rfl (lv_at hl.1 0 rfl) ?_
  refine cl_aload_n hx hb dJx4a65c_add_9ea2d_11 rfl (lv_at hl.1 1 rfl) ?_
  refine cl_aload_n hx hb dJx4a65c_add_9ea2d_12 rfl (lv_at hl.1 0 rfl) ?_
  obtain ⟨z4, ez4, iz4, rz4, hf⟩ := cc_g_s hw hf
  refine cw_get (val := cR z4) B hw rz4 ⟨by decide, by decide⟩ (by decide) cwi_13 cfl_Jx4a65c_9 ez4 rfl dJx4a65c_add_9ea2d_13 ?_
  refine cl_aload_n hx hb dJx4a65c_add_9ea2d_16 rfl (lv_at hl.1 0 rfl) ?_
  obtain ⟨z5, ez5, iz5, rz5, hf⟩ := cc_g_s hw hf
  refine cw_get (val := .int (rI z5)) B hw rz5 ⟨by decide, by decide⟩ (by decide) cwi_13 cfl_Jx4a65c_48 ez5 rfl dJx4a65c_add_9ea2d_17 ?_
  obtain ⟨qσ6, hf⟩ := cc_t_s hf
  obtain ⟨σ6, z8, hσ6, hf⟩ := cc_cn_s hf
  obtain ⟨iz8, mσ6⟩ := hR 8 σ3 [x0, x1, z4, z5] σ6 0 z8 hσ6
  have mσ6 : cw_Met l v yJx4a65c_add_72be8 cJx4a65c_add_72be8 4 none d [cR x0, cR x1, cR z4, .int (rI z5)] σ3 σ6 0 none := mσ6 ix0 ix1 iz4 iz5
  refine cw_cv (b := x0) (t := 13) (n := 3) (rest := []) (As := [cR x1, cR z4, .int (rI z5)]) B mσ6 qσ6 ⟨by decide, by decide⟩ cgo_yJx4a65c_add_72be8 cml_Jx4a65c_131 cin_yJx4a65c_add_72be8 cse_yJx4a65c_add_72be8 (by decide +kernel) (by decide) rfl hl.1.1 (Nat.le_of_ble_eq_true rfl) dJx4a65c_add_9ea2d_20 rfl hw (fun h0 H locs cells slots hw => ?_) (fun h0 H locs cells slots q ce hw h1 h2 h3 => ?_)
  · skip
    refine lv_iconst (v := rI 1) hx hb dJx4a65c_add_9ea2d_23 rfl ?_
    obtain ⟨h01, hf⟩ := cc_bo_s hf
    exact cw_retz B h01 hf hw dJx4a65c_add_9ea2d_24
  · exact absurd rfl h0

set_option maxHeartbeats 4000000 in
set_option maxRecDepth 100000 in
theorem pm_Jx4a65c_add_9ea2d {v : cwE} {bd : cBd} {l : Launch} {d : Nat} {rec : Nat → CS → List Int → CO} (hbd : bd = cw_bd v) (hR : cw_Rec l v d rec) (htr : l.stackTraces = false) (hd5 : 5 ≤ d) (σ σ' : CS) (x0 x1 : Int) (kd : Nat) (r : Int) (ix0 : inR x0) (ix1 : inR x1) (hf : pc_Jx4a65c_add_9ea2d_0 rec bd σ x0 x1 = some (σ', kd, r)) : cw_Met l v yJx4a65c_add_9ea2d cJx4a65c_add_9ea2d 2 (some .boolean) (d + 1) [cR x0, cR x1] σ σ' kd (some (.int (rI r))) := by
  refine cw_ofW (by decide +kernel) ?_
  intro p e s m args below meth c s₁ B hml hv
  obtain ⟨rfl, hM, hK⟩ := hv
  have hts := atoms_spec (ws := Cond.code yJx4a65c_add_9ea2d cJx4a65c_add_9ea2d 2 (some .boolean) :: cw_bw) B.pre
  have hB : cw_B v RJx4a65c p s m _ meth c cJx4a65c_add_9ea2d 2 (some .boolean) := ⟨B.exec, B.bytes, B.returns, hml, findClass_of_methodNamed B.named, fun w h => hts w (List.mem_cons_of_mem _ h), B.notSynchronized, hK⟩
  have hnh := cc_nh B (hts _ List.mem_cons_self)
  rw [lg_entry_eq]
  obtain ⟨ls, hls, hl⟩ := cl_ent [cR x0, cR x1] 2 (cl_1r (cl_1r cl_10)) (Nat.le_of_ble_eq_true rfl)
  rw [hls]
  exact pw_Jx4a65c_add_9ea2d_0 hbd hR htr hd5 hB hnh σ x0 x1 ix0 ix1 hf _ _ _ _ _ (cw_W0 hM) (cl_sub hl [0, 1] rfl)

set_option maxHeartbeats 4000000 in
set_option maxRecDepth 100000 in
theorem pw_Jx4a65c_elementData_915e3_0 {v : cwE} {bd : cBd} {p : Program} {l : Launch} {e : Env} {s : State} {m : MethodId} {args : Array Value} {below : List Frame} {meth : Method} {c : Code} {d : Nat} {rec : Nat → CS → List Int → CO} {σ0 σ' : CS} {kd : Nat} {r : Int} (hbd : bd = cw_bd v) (hR : cw_Rec l v d rec) (htr : l.stackTraces = false) (hd5 : 5 ≤ d) (B : cw_B v RJx4a65c p s m args meth c cJx4a65c_elementData_915e3 2 (some (.object "java/lang/Object"))) (hnh : ∀ x ∈ c.exceptionTable.toList, False) : ∀ (σ : CS) (x0 x1 : Int), inR x0 → inR x1 → pc_Jx4a65c_elementData_915e3_0 rec bd σ x0 x1 = some (σ', kd, r) → ∀ (H : Heap) (locs : List Loc) (cells slots : Nat) (ls : Array Slot), cw_W v s σ0 σ H locs cells slots → cl_has ls 2 [(0, cR x0), (1, .int (rI x1))] → W p l e (cw_rm v (d + 1) σ0) s m args below meth c H locs cells slots (cw_Z below v σ0 σ' kd (some (cR r)) args s) (F0 m 0 ls []) := by
  subst hbd
  obtain ⟨hx, hb, hr, hml, hown, hts, hlk, hK⟩ := id B
  intro σ x0 x1 ix0 ix1 hf H locs cells slots ls hw hl
  unfold pc_Jx4a65c_elementData_915e3_0 at hf
  refine cl_aload_n hx hb dJx4a65c_elementData_915e3_0 rfl (lv_at hl.1 0 rfl) ?_
  obtain ⟨z1, ez1, iz1, rz1, hf⟩ := cc_g_s hw hf
  refine cw_get (val := cR z1) B hw rz1 ⟨by decide, by decide⟩ (by decide) cwi_13 cfl_Jx4a65c_9 ez1 rfl dJx4a65c_elementData_915e3_1 ?_
  refine lv_iload_n hx hb dJx4a65c_elementData_915e3_4 rfl (lv_at hl.1 1 rfl) ?_
  obtain ⟨z2, ez2, iz2, rz2, bz2, hf⟩ := cc_r_s hw hf
  refine cw_aldO B hw rz2 ix1 bz2 ez2 dJx4a65c_elementData_915e3_5 ?_
  exact cw_reta B hf hw dJx4a65c_elementData_915e3_6

set_option maxHeartbeats 4000000 in
set_option maxRecDepth 100000 in
theorem pm_Jx4a65c_elementData_915e3 {v : cwE} {bd : cBd} {l : Launch} {d : Nat} {rec : Nat → CS → List Int → CO} (hbd : bd = cw_bd v) (hR : cw_Rec l v d rec) (htr : l.stackTraces = false) (hd5 : 5 ≤ d) (σ σ' : CS) (x0 x1 : Int) (kd : Nat) (r : Int) (ix0 : inR x0) (ix1 : inR x1) (hf : pc_Jx4a65c_elementData_915e3_0 rec bd σ x0 x1 = some (σ', kd, r)) : cw_Met l v yJx4a65c_elementData_915e3 cJx4a65c_elementData_915e3 2 (some (.object "java/lang/Object")) (d + 1) [cR x0, .int (rI x1)] σ σ' kd (some (cR r)) := by
  refine cw_ofW (by decide +kernel) ?_
  intro p e s m args below meth c s₁ B hml hv
  obtain ⟨rfl, hM, hK⟩ := hv
  have hts := atoms_spec (ws := Cond.code yJx4a65c_elementData_915e3 cJx4a65c_elementData_915e3 2 (some (.object "java/lang/Object")) :: cw_bw) B.pre
  have hB : cw_B v RJx4a65c p s m _ meth c cJx4a65c_elementData_915e3 2 (some (.object "java/lang/Object")) := ⟨B.exec, B.bytes, B.returns, hml, findClass_of_methodNamed B.named, fun w h => hts w (List.mem_cons_of_mem _ h), B.notSynchronized, hK⟩
  have hnh := cc_nh B (hts _ List.mem_cons_self)
  rw [lg_entry_eq]
  obtain ⟨ls, hls, hl⟩ := cl_ent [cR x0, .int (rI x1)] 2 (cl_1r (cl_1i cl_10)) (Nat.le_of_ble_eq_true rfl)
  rw [hls]
  exact pw_Jx4a65c_elementData_915e3_0 hbd hR htr hd5 hB hnh σ x0 x1 ix0 ix1 hf _ _ _ _ _ (cw_W0 hM) (cl_sub hl [0, 1] rfl)

set_option maxHeartbeats 4000000 in
set_option maxRecDepth 100000 in
theorem pw_Jx4a65c_get_915e3_0 {v : cwE} {bd : cBd} {p : Program} {l : Launch} {e : Env} {s : State} {m : MethodId} {args : Array Value} {below : List Frame} {meth : Method} {c : Code} {d : Nat} {rec : Nat → CS → List Int → CO} {σ0 σ' : CS} {kd : Nat} {r : Int} (hbd : bd = cw_bd v) (hR : cw_Rec l v d rec) (htr : l.stackTraces = false) (hd5 : 5 ≤ d) (B : cw_B v RJx4a65c p s m args meth c cJx4a65c_get_915e3 2 (some (.object "java/lang/Object"))) (hnh : ∀ x ∈ c.exceptionTable.toList, False) : ∀ (σ : CS) (x0 x1 : Int), inR x0 → inR x1 → pc_Jx4a65c_get_915e3_0 rec bd σ x0 x1 = some (σ', kd, r) → ∀ (H : Heap) (locs : List Loc) (cells slots : Nat) (ls : Array Slot), cw_W v s σ0 σ H locs cells slots → cl_has ls 2 [(0, cR x0), (1, .int (rI x1))] → W p l e (cw_rm v (d + 1) σ0) s m args below meth c H locs cells slots (cw_Z below v σ0 σ' kd (some (cR r)) args s) (F0 m 0 ls []) := by
  subst hbd
  obtain ⟨hx, hb, hr, hml, hown, hts, hlk, hK⟩ := id B
  intro σ x0 x1 ix0 ix1 hf H locs cells slots ls hw hl
  unfold pc_Jx4a65c_get_915e3_0 at hf
  refine lv_iload_n hx hb dJx4a65c_get_915e3_0 rfl (lv_at hl.1 1 rfl) ?_
  refine cl_aload_n hx hb dJx4a65c_get_915e3_1 rfl (lv_at hl.1 0 rfl) ?_
  obtain ⟨z1, ez1, iz1, rz1, hf⟩ := cc_g_s hw hf
  refine cw_get (val := .int (rI z1)) B hw rz1 ⟨by decide, by decide⟩ (by decide) cwi_13 cfl_Jx4a65c_48 ez1 rfl dJx4a65c_get_915e3_2 ?_
  obtain ⟨σ2, z4, hσ2, hf⟩ := cc_cn_s hf
  obtain ⟨iz4, mσ2⟩ := hR 0 σ [x1, z1] σ2 0 z4 hσ2
  have mσ2 : cw_Met l v yJ15_checkIndex_7cf53 cJ15_checkIndex_7cf53 2 (some .int) d [.int (rI x1), .int (rI z1)] σ σ2 0 (some (.int (rI z4))) := mσ2 ix1 iz1
  refine cw_cs (n := 2) (rest := []) (As := [.int (rI x1), .int (rI z1)]) B mσ2 cgo_yJ15_checkIndex_7cf53 cml_Jx4a65c_118 cst_yJ15_checkIndex_7cf53 (by decide +kernel) (by decide) rfl hl.1.1 (Nat.le_of_ble_eq_true rfl) dJx4a65c_get_915e3_5 rfl hw (fun h0 H locs cells slots hw => ?_) (fun h0 H locs cells slots q ce hw h1 h2 h3 => ?_)
  · skip
    refine lv_pop hx hb dJx4a65c_get_915e3_8 rfl ?_
    refine cl_aload_n hx hb dJx4a65c_get_915e3_9 rfl (lv_at hl.1 0 rfl) ?_
    refine lv_iload_n hx hb dJx4a65c_get_915e3_10 rfl (lv_at hl.1 1 rfl) ?_
    obtain ⟨qσ5, hf⟩ := cc_t_s hf
    obtain ⟨σ5, z7, hσ5, hf⟩ := cc_cn_s hf
    obtain ⟨iz7, mσ5⟩ := hR 10 σ2 [x0, x1] σ5 0 z7 hσ5
    have mσ5 : cw_Met l v yJx4a65c_elementData_915e3 cJx4a65c_elementData_915e3 2 (some (.object "java/lang/Object")) d [cR x0, .int (rI x1)] σ2 σ5 0 (some (cR z7)) := mσ5 ix0 ix1
    refine cw_cv (b := x0) (t := 13) (n := 1) (rest := []) (As := [.int (rI x1)]) B mσ5 qσ5 ⟨by decide, by decide⟩ cgo_yJx4a65c_elementData_915e3 cml_Jx4a65c_123 cin_yJx4a65c_elementData_915e3 cse_yJx4a65c_elementData_915e3 (by decide +kernel) (by decide) rfl hl.1.1 (Nat.le_of_ble_eq_true rfl) dJx4a65c_get_915e3_11 rfl hw (fun h0 H locs cells slots hw => ?_) (fun h0 H locs cells slots q ce hw h1 h2 h3 => ?_)
    · skip
      exact cw_reta B hf hw dJx4a65c_get_915e3_14
    · exact absurd rfl h0
  · exact absurd rfl h0

set_option maxHeartbeats 4000000 in
set_option maxRecDepth 100000 in
theorem pm_Jx4a65c_get_915e3 {v : cwE} {bd : cBd} {l : Launch} {d : Nat} {rec : Nat → CS → List Int → CO} (hbd : bd = cw_bd v) (hR : cw_Rec l v d rec) (htr : l.stackTraces = false) (hd5 : 5 ≤ d) (σ σ' : CS) (x0 x1 : Int) (kd : Nat) (r : Int) (ix0 : inR x0) (ix1 : inR x1) (hf : pc_Jx4a65c_get_915e3_0 rec bd σ x0 x1 = some (σ', kd, r)) : cw_Met l v yJx4a65c_get_915e3 cJx4a65c_get_915e3 2 (some (.object "java/lang/Object")) (d + 1) [cR x0, .int (rI x1)] σ σ' kd (some (cR r)) := by
  refine cw_ofW (by decide +kernel) ?_
  intro p e s m args below meth c s₁ B hml hv
  obtain ⟨rfl, hM, hK⟩ := hv
  have hts := atoms_spec (ws := Cond.code yJx4a65c_get_915e3 cJx4a65c_get_915e3 2 (some (.object "java/lang/Object")) :: cw_bw) B.pre
  have hB : cw_B v RJx4a65c p s m _ meth c cJx4a65c_get_915e3 2 (some (.object "java/lang/Object")) := ⟨B.exec, B.bytes, B.returns, hml, findClass_of_methodNamed B.named, fun w h => hts w (List.mem_cons_of_mem _ h), B.notSynchronized, hK⟩
  have hnh := cc_nh B (hts _ List.mem_cons_self)
  rw [lg_entry_eq]
  obtain ⟨ls, hls, hl⟩ := cl_ent [cR x0, .int (rI x1)] 2 (cl_1r (cl_1i cl_10)) (Nat.le_of_ble_eq_true rfl)
  rw [hls]
  exact pw_Jx4a65c_get_915e3_0 hbd hR htr hd5 hB hnh σ x0 x1 ix0 ix1 hf _ _ _ _ _ (cw_W0 hM) (cl_sub hl [0, 1] rfl)

set_option maxHeartbeats 4000000 in
set_option maxRecDepth 100000 in
theorem pw_Jx4a65c_grow_92f84_20 {v : cwE} {bd : cBd} {p : Program} {l : Launch} {e : Env} {s : State} {m : MethodId} {args : Array Value} {below : List Frame} {meth : Method} {c : Code} {d : Nat} {rec : Nat → CS → List Int → CO} {σ0 σ' : CS} {kd : Nat} {r : Int} (hbd : bd = cw_bd v) (hR : cw_Rec l v d rec) (htr : l.stackTraces = false) (hd5 : 5 ≤ d) (B : cw_B v RJx4a65c p s m args meth c cJx4a65c_grow_92f84 4 (some (.array (.object "java/lang/Object")))) (hnh : ∀ x ∈ c.exceptionTable.toList, False) : ∀ (σ : CS) (x0 x1 x2 : Int), inR x0 → inR x1 → inR x2 → pc_Jx4a65c_grow_92f84_20 rec bd σ x0 x1 x2 = some (σ', kd, r) → ∀ (H : Heap) (locs : List Loc) (cells slots : Nat) (ls : Array Slot), cw_W v s σ0 σ H locs cells slots → cl_has ls 4 [(0, cR x0), (1, .int (rI x1)), (2, .int (rI x2))] → W p l e (cw_rm v (d + 1) σ0) s m args below meth c H locs cells slots (cw_Z below v σ0 σ' kd (some (cR r)) args s) (F0 m 20 ls []) := by
  subst hbd
  obtain ⟨hx, hb, hr, hml, hown, hts, hlk, hK⟩ := id B
  intro σ x0 x1 x2 ix0 ix1 ix2 hf H locs cells slots ls hw hl
  unfold pc_Jx4a65c_grow_92f84_20 at hf
  refine lv_iload_n hx hb dJx4a65c_grow_92f84_20 rfl (lv_at hl.1 2 rfl) ?_
  refine lv_iload_n hx hb dJx4a65c_grow_92f84_21 rfl (lv_at hl.1 1 rfl) ?_
  refine lv_iload_n hx hb dJx4a65c_grow_92f84_22 rfl (lv_at hl.1 2 rfl) ?_
  obtain ⟨z1, ez1, iz1, hf⟩ := cc_ck_s hf
  refine rn_sub hx hb ez1 dJx4a65c_grow_92f84_23 ?_
  refine lv_iload_n hx hb dJx4a65c_grow_92f84_24 rfl (lv_at hl.1 2 rfl) ?_
  refine lv_iconst (v := rI 1) hx hb dJx4a65c_grow_92f84_25 rfl ?_
  obtain ⟨z2, ez2, iz2, hf⟩ := cc_nm_s hf
  refine lv_ishr hx hb dJx4a65c_grow_92f84_26 ?_
  refine rn_top ez2 ?_
  obtain ⟨σ3, z5, hσ3, hf⟩ := cc_cn_s hf
  obtain ⟨iz5, mσ3⟩ := hR 5 σ [x2, z1, z2] σ3 0 z5 hσ3
  have mσ3 : cw_Met l v yJ8_newLength_cabcc cJ8_newLength_cabcc 4 (some .int) d [.int (rI x2), .int (rI z1), .int (rI z2)] σ σ3 0 (some (.int (rI z5))) := mσ3 ix2 iz1 iz2
  refine cw_cs (n := 3) (rest := []) (As := [.int (rI x2), .int (rI z1), .int (rI z2)]) B mσ3 cgo_yJ8_newLength_cabcc cml_Jx4a65c_73 cst_yJ8_newLength_cabcc (by decide +kernel) (by decide) rfl hl.1.1 (Nat.le_of_ble_eq_true rfl) dJx4a65c_grow_92f84_27 rfl hw (fun h0 H locs cells slots hw => ?_) (fun h0 H locs cells slots q ce hw h1 h2 h3 => ?_)
  · skip
    refine cl_istore_n (lv' := [(3, .int (rI z5)), (0, cR x0), (1, .int (rI x1)), (2, .int (rI x2))]) hx hb dJx4a65c_grow_92f84_30 rfl hl (by decide) rfl (fun ls hl => ?_)
    refine cl_aload_n hx hb dJx4a65c_grow_92f84_31 rfl (lv_at hl.1 1 rfl) ?_
    refine cl_aload_n hx hb dJx4a65c_grow_92f84_32 rfl (lv_at hl.1 1 rfl) ?_
    obtain ⟨z6, ez6, iz6, rz6, hf⟩ := cc_g_s hw hf
    refine cw_get (val := cR z6) B hw rz6 ⟨by decide, by decide⟩ (by decide) cwi_13 cfl_Jx4a65c_9 ez6 rfl dJx4a65c_grow_92f84_33 ?_
    refine lv_iload_n hx hb dJx4a65c_grow_92f84_36 rfl (lv_at hl.1 0 rfl) ?_
    obtain ⟨σ7, z9, hσ7, hf⟩ := cc_cn_s hf
    obtain ⟨iz9, mσ7⟩ := hR 2 σ3 [z6, z5] σ7 0 z9 hσ7
    have mσ7 : cw_Met l v yJ7_copyOf_1904c cJ7_copyOf_1904c 2 (some (.array (.object "java/lang/Object"))) d [cR z6, .int (rI z5)] σ3 σ7 0 (some (cR z9)) := mσ7 iz6 iz5
    refine cw_cs (n := 2) (rest := [cR x0]) (As := [cR z6, .int (rI z5)]) B mσ7 cgo_yJ7_copyOf_1904c cml_Jx4a65c_66 cst_yJ7_copyOf_1904c (by decide +kernel) (by decide) rfl hl.1.1 (cl_cs (cl_1r cl_10) (Nat.le_of_ble_eq_true rfl)) dJx4a65c_grow_92f84_37 rfl hw (fun h0 H locs cells slots hw => ?_) (fun h0 H locs cells slots q ce hw h1 h2 h3 => ?_)
    · skip
      refine lv_dup_x1 hx hb dJx4a65c_grow_92f84_40 (cR_cat _) (cR_cat _) ?_
      obtain ⟨σ10, eσ10, rσ10, hf⟩ := cc_p_s hf
      refine cw_put B hw rσ10 cwt_13 (by decide) rfl cfl_Jx4a65c_9 iz9 eσ10 rfl (cw_fv_r rfl (Or.inr ⟨_, rfl⟩)) dJx4a65c_grow_92f84_41 (fun H locs hw => ?_)
      exact cw_retA B hf hw dJx4a65c_grow_92f84_44
    · exact absurd rfl h0
  · exact absurd rfl h0

