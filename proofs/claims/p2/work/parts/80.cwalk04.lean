set_option maxHeartbeats 4000000 in
set_option maxRecDepth 100000 in
theorem pm_X3_lengthOf {v : cwE} {bd : cBd} {l : Launch} {d : Nat} {rec : Nat → CS → List Int → CO} (hbd : bd = cw_bd v) (hR : cw_Rec l v d rec) (htr : l.stackTraces = false) (hd5 : 5 ≤ d) (σ σ' : CS) (x0 : Int) (kd : Nat) (r : Int) (ix0 : inR x0) (hf : pc_X3_lengthOf_0 rec bd σ x0 = some (σ', kd, r)) : cw_Met l v yX3_lengthOf cX3_lengthOf 3 (some .int) (d + 1) [cR v x0] σ σ' kd (some (.int (rI r))) := by
  refine cw_ofW (by decide +kernel) ?_
  intro p e s m args below meth c s₁ B hml hv
  obtain ⟨rfl, hM, hK⟩ := hv
  have hts := atoms_spec (ws := Cond.code yX3_lengthOf cX3_lengthOf 3 (some .int) :: cw_bw) B.pre
  have hB : cw_B v RX3 p s m _ meth c cX3_lengthOf 3 (some .int) := ⟨B.exec, B.bytes, B.returns, hml, findClass_of_methodNamed B.named, fun w h => hts w (List.mem_cons_of_mem _ h), B.notSynchronized, hK⟩
  have hnh := cc_nh B (hts _ List.mem_cons_self)
  rw [lg_entry_eq]
  obtain ⟨ls, hls, hl⟩ := cl_ent [cR v x0] 3 (cl_1r cl_10) (Nat.le_of_ble_eq_true rfl)
  rw [hls]
  exact pw_X3_lengthOf_0 hbd hR htr hd5 hB hnh σ x0 ix0 hf _ _ _ _ _ (cw_W0 hM) (cl_sub hl [0] rfl)

set_option maxHeartbeats 4000000 in
set_option maxRecDepth 100000 in
theorem pw_X4_areSame_0 {v : cwE} {bd : cBd} {p : Program} {l : Launch} {e : Env} {s : State} {m : MethodId} {args : Array Value} {below : List Frame} {meth : Method} {c : Code} {d : Nat} {rec : Nat → CS → List Int → CO} {σ0 σ' : CS} {kd : Nat} {r : Int} (hbd : bd = cw_bd v) (hR : cw_Rec l v d rec) (htr : l.stackTraces = false) (hd5 : 5 ≤ d) (B : cw_B v RX4 p s m args meth c cX4_areSame 3 (some .boolean)) (hnh : ∀ x ∈ c.exceptionTable.toList, False) : ∀ (σ : CS) (x0 x1 x2 : Int), inR x0 → inR x1 → inR x2 → pc_X4_areSame_0 rec bd σ x0 x1 x2 = some (σ', kd, r) → ∀ (H : Heap) (locs : List Loc) (cells slots : Nat) (ls : Array Slot), cw_W v s σ0 σ H locs cells slots → cl_has ls 3 [(0, cR v x0), (1, cR v x1), (2, cR v x2)] → W p l e (cw_rm v (d + 1) σ0) s m args below meth c H locs cells slots (cw_Z below v σ0 σ' kd (some (.int (rI r))) args s) (F0 m 0 ls []) := by
  subst hbd
  obtain ⟨hx, hb, hr, hml, hown, hts, hlk, hK⟩ := id B
  intro σ x0 x1 x2 ix0 ix1 ix2 hf H locs cells slots ls hw hl
  unfold pc_X4_areSame_0 at hf
  refine cl_aload_n hx hb dX4_areSame_0 rfl (lv_at hl.1 0 rfl) ?_
  refine cl_aload_n hx hb dX4_areSame_1 rfl (lv_at hl.1 1 rfl) ?_
  refine cl_null (v := v) hx hb dX4_areSame_2 ?_
  refine cl_aload_n hx hb dX4_areSame_3 rfl (lv_at hl.1 2 rfl) ?_
  refine cl_null (v := v) hx hb dX4_areSame_4 ?_
  refine lv_iconst (v := rI 0) hx hb dX4_areSame_5 rfl ?_
  refine lv_iconst (v := rI 0) hx hb dX4_areSame_6 rfl ?_
  obtain ⟨qσ1, hf⟩ := cc_t_s hf
  obtain ⟨σ1, kv2, z3, hσ1, hf⟩ := cc_cl_s hf
  obtain ⟨iz3, mσ1⟩ := hR 82 σ [x0, x1, (-1), x2, (-1), 0, 0] σ1 kv2 z3 hσ1
  have mσ1 : cw_Met l v yX4_compare cX4_compare 11 (some .boolean) d [cR v x0, cR v x1, cR v (-1), cR v x2, cR v (-1), .int (rI 0), .int (rI 0)] σ σ1 kv2 (some (.int (rI z3))) := mσ1 ix0 ix1 ⟨by decide, by decide⟩ ix2 ⟨by decide, by decide⟩ ⟨by decide, by decide⟩ ⟨by decide, by decide⟩
  refine cw_cv (b := x0) (t := 5) (n := 6) (rest := []) (As := [cR v x1, cR v (-1), cR v x2, cR v (-1), .int (rI 0), .int (rI 0)]) B mσ1 qσ1 ⟨by decide, by decide⟩ cgo_yX4_compare cml_X4_40 cin_yX4_compare cse_yX4_compare (by decide +kernel) (by decide) rfl hl.1.1 (Nat.le_of_ble_eq_true rfl) dX4_areSame_7 rfl hw (fun h0 H locs cells slots hw => ?_) (fun h0 H locs cells slots q ce hw h1 h2 h3 => ?_)
  · rcases hf with ⟨-, hf⟩ | ⟨hk, -⟩
    · skip
      obtain ⟨h01, hf⟩ := cc_bo_s hf
      exact cw_retz B h01 hf hw dX4_areSame_10
    · exact absurd h0 hk
  · rcases hf with ⟨hk, -⟩ | ⟨-, hf⟩
    · exact absurd hk h0
    · cases hf
      exact cw_xout B hnh h0 hw h1 h2 h3

set_option maxHeartbeats 4000000 in
set_option maxRecDepth 100000 in
theorem pm_X4_areSame {v : cwE} {bd : cBd} {l : Launch} {d : Nat} {rec : Nat → CS → List Int → CO} (hbd : bd = cw_bd v) (hR : cw_Rec l v d rec) (htr : l.stackTraces = false) (hd5 : 5 ≤ d) (σ σ' : CS) (x0 x1 x2 : Int) (kd : Nat) (r : Int) (ix0 : inR x0) (ix1 : inR x1) (ix2 : inR x2) (hf : pc_X4_areSame_0 rec bd σ x0 x1 x2 = some (σ', kd, r)) : cw_Met l v yX4_areSame cX4_areSame 3 (some .boolean) (d + 1) [cR v x0, cR v x1, cR v x2] σ σ' kd (some (.int (rI r))) := by
  refine cw_ofW (by decide +kernel) ?_
  intro p e s m args below meth c s₁ B hml hv
  obtain ⟨rfl, hM, hK⟩ := hv
  have hts := atoms_spec (ws := Cond.code yX4_areSame cX4_areSame 3 (some .boolean) :: cw_bw) B.pre
  have hB : cw_B v RX4 p s m _ meth c cX4_areSame 3 (some .boolean) := ⟨B.exec, B.bytes, B.returns, hml, findClass_of_methodNamed B.named, fun w h => hts w (List.mem_cons_of_mem _ h), B.notSynchronized, hK⟩
  have hnh := cc_nh B (hts _ List.mem_cons_self)
  rw [lg_entry_eq]
  obtain ⟨ls, hls, hl⟩ := cl_ent [cR v x0, cR v x1, cR v x2] 3 (cl_1r (cl_1r (cl_1r cl_10))) (Nat.le_of_ble_eq_true rfl)
  rw [hls]
  exact pw_X4_areSame_0 hbd hR htr hd5 hB hnh σ x0 x1 x2 ix0 ix1 ix2 hf _ _ _ _ _ (cw_W0 hM) (cl_sub hl [0, 1, 2] rfl)

set_option maxHeartbeats 4000000 in
set_option maxRecDepth 100000 in
theorem pw_X4_begin_2 {v : cwE} {bd : cBd} {p : Program} {l : Launch} {e : Env} {s : State} {m : MethodId} {args : Array Value} {below : List Frame} {meth : Method} {c : Code} {d : Nat} {rec : Nat → CS → List Int → CO} {σ0 σ' : CS} {kd : Nat} {r : Int} (hbd : bd = cw_bd v) (hR : cw_Rec l v d rec) (htr : l.stackTraces = false) (hd5 : 5 ≤ d) (B : cw_B v RX4 p s m args meth c cX4_begin 3 none) (hnh : ∀ x ∈ c.exceptionTable.toList, False) : ∀ (n : Nat) (σ : CS) (x0 x1 x2 : Int), inR x0 → inR x1 → inR x2 → pc_X4_begin_2 rec bd n σ x0 x1 x2 = some (σ', kd, r) → ∀ (H : Heap) (locs : List Loc) (cells slots : Nat) (ls : Array Slot), cw_W v s σ0 σ H locs cells slots → cl_has ls 3 [(0, cR v x0), (1, .int (rI x1)), (2, .int (rI x2))] → W p l e (cw_rm v (d + 1) σ0) s m args below meth c H locs cells slots (cw_Z below v σ0 σ' kd none args s) (F0 m 2 ls []) := by
  subst hbd
  obtain ⟨hx, hb, hr, hml, hown, hts, hlk, hK⟩ := id B
  intro n
  induction n with
  | zero => intro σ x0 x1 x2 ix0 ix1 ix2 hf; cases hf
  | succ n ih =>
    intro σ x0 x1 x2 ix0 ix1 ix2 hf H locs cells slots ls hw hl
    unfold pc_X4_begin_2 at hf
    refine lv_iload_n hx hb dX4_begin_2 rfl (lv_at hl.1 2 rfl) ?_
    refine cl_aload_n hx hb dX4_begin_3 rfl (lv_at hl.1 0 rfl) ?_
    obtain ⟨z1, ez1, iz1, rz1, hf⟩ := cc_g_s hw hf
    refine cw_get (val := cR v z1) B hw rz1 ⟨by decide, by decide⟩ (by decide) cwi_5 cfl_X4_9 ez1 rfl dX4_begin_4 ?_
    obtain ⟨z2, ez2, iz2, rz2, hf⟩ := cc_l_s hf
    refine cw_len B hw rz2 (by decide) ez2 iz2 dX4_begin_7 ?_
    refine rn_icmp_ge (a := x2) (b := z2) (tgt := 24) hx hb ix2 iz2 dX4_begin_8 (by decide) (fun c3 => ?_) (fun c3 => ?_)
    · replace hf := cc_if_t hf c3
      refine cl_aload_n hx hb dX4_begin_24 rfl (lv_at hl.1 0 rfl) ?_
      refine lv_iload_n hx hb dX4_begin_25 rfl (lv_at hl.1 1 rfl) ?_
      obtain ⟨σ4, eσ4, rσ4, hf⟩ := cc_p_s hf
      refine cw_put B hw rσ4 cwt_5 (by decide) rfl cfl_X4_22 ix1 eσ4 rfl (cw_fv_n rfl rfl) dX4_begin_26 (fun H locs hw => ?_)
      exact cw_retv B hf hw dX4_begin_29
    · replace hf := cc_if_f hf c3
      refine cl_aload_n hx hb dX4_begin_11 rfl (lv_at hl.1 0 rfl) ?_
      obtain ⟨z5, ez5, iz5, rz5, hf⟩ := cc_g_s hw hf
      refine cw_get (val := cR v z5) B hw rz5 ⟨by decide, by decide⟩ (by decide) cwi_5 cfl_X4_9 ez5 rfl dX4_begin_12 ?_
      refine lv_iload_n hx hb dX4_begin_15 rfl (lv_at hl.1 2 rfl) ?_
      refine lv_iconst (v := rI 0) hx hb dX4_begin_16 rfl ?_
      obtain ⟨σ6, eσ6, rσ6, bσ6, hf⟩ := cc_w_s hf
      refine cw_astI B hw rσ6 ix2 bσ6 ⟨by decide, by decide⟩ eσ6 dX4_begin_17 (fun H locs hw => ?_)
      obtain ⟨z7, ez7, iz7, hf⟩ := cc_ck_s hf
      refine cl_iinc (v := rI z7) (lv' := [(2, .int (rI z7)), (0, cR v x0), (1, .int (rI x1))]) hx hb dX4_begin_18 hl (k := 2) rfl (by rw [ez7]; exact rI_add _ _) (by decide) rfl (fun ls hl => ?_)
      refine lv_goto (tgt := 2) hx hb dX4_begin_21 (by decide) ?_
      exact ih σ6 x0 x1 z7 ix0 ix1 iz7 hf _ _ _ _ _ hw (cl_sub hl [1, 2, 0] rfl)

set_option maxHeartbeats 4000000 in
set_option maxRecDepth 100000 in
theorem pw_X4_begin_0 {v : cwE} {bd : cBd} {p : Program} {l : Launch} {e : Env} {s : State} {m : MethodId} {args : Array Value} {below : List Frame} {meth : Method} {c : Code} {d : Nat} {rec : Nat → CS → List Int → CO} {σ0 σ' : CS} {kd : Nat} {r : Int} (hbd : bd = cw_bd v) (hR : cw_Rec l v d rec) (htr : l.stackTraces = false) (hd5 : 5 ≤ d) (B : cw_B v RX4 p s m args meth c cX4_begin 3 none) (hnh : ∀ x ∈ c.exceptionTable.toList, False) : ∀ (σ : CS) (x0 x1 : Int), inR x0 → inR x1 → pc_X4_begin_0 rec bd σ x0 x1 = some (σ', kd, r) → ∀ (H : Heap) (locs : List Loc) (cells slots : Nat) (ls : Array Slot), cw_W v s σ0 σ H locs cells slots → cl_has ls 3 [(0, cR v x0), (1, .int (rI x1))] → W p l e (cw_rm v (d + 1) σ0) s m args below meth c H locs cells slots (cw_Z below v σ0 σ' kd none args s) (F0 m 0 ls []) := by
  subst hbd
  obtain ⟨hx, hb, hr, hml, hown, hts, hlk, hK⟩ := id B
  intro σ x0 x1 ix0 ix1 hf H locs cells slots ls hw hl
  unfold pc_X4_begin_0 at hf
  refine lv_iconst (v := rI 0) hx hb dX4_begin_0 rfl ?_
  refine cl_istore_n (lv' := [(2, .int (rI 0)), (0, cR v x0), (1, .int (rI x1))]) hx hb dX4_begin_1 rfl hl (by decide) rfl (fun ls hl => ?_)
  exact pw_X4_begin_2 rfl hR htr hd5 B hnh 2000000 σ x0 x1 0 ix0 ix1 ⟨by decide, by decide⟩ hf _ _ _ _ _ hw (cl_sub hl [1, 2, 0] rfl)

set_option maxHeartbeats 4000000 in
set_option maxRecDepth 100000 in
theorem pm_X4_begin {v : cwE} {bd : cBd} {l : Launch} {d : Nat} {rec : Nat → CS → List Int → CO} (hbd : bd = cw_bd v) (hR : cw_Rec l v d rec) (htr : l.stackTraces = false) (hd5 : 5 ≤ d) (σ σ' : CS) (x0 x1 : Int) (kd : Nat) (r : Int) (ix0 : inR x0) (ix1 : inR x1) (hf : pc_X4_begin_0 rec bd σ x0 x1 = some (σ', kd, r)) : cw_Met l v yX4_begin cX4_begin 3 none (d + 1) [cR v x0, .int (rI x1)] σ σ' kd none := by
  refine cw_ofW (by decide +kernel) ?_
  intro p e s m args below meth c s₁ B hml hv
  obtain ⟨rfl, hM, hK⟩ := hv
  have hts := atoms_spec (ws := Cond.code yX4_begin cX4_begin 3 none :: cw_bw) B.pre
  have hB : cw_B v RX4 p s m _ meth c cX4_begin 3 none := ⟨B.exec, B.bytes, B.returns, hml, findClass_of_methodNamed B.named, fun w h => hts w (List.mem_cons_of_mem _ h), B.notSynchronized, hK⟩
  have hnh := cc_nh B (hts _ List.mem_cons_self)
  rw [lg_entry_eq]
  obtain ⟨ls, hls, hl⟩ := cl_ent [cR v x0, .int (rI x1)] 3 (cl_1r (cl_1i cl_10)) (Nat.le_of_ble_eq_true rfl)
  rw [hls]
  exact pw_X4_begin_0 hbd hR htr hd5 hB hnh σ x0 x1 ix0 ix1 hf _ _ _ _ _ (cw_W0 hM) (cl_sub hl [0, 1] rfl)

set_option maxHeartbeats 4000000 in
set_option maxRecDepth 100000 in
theorem pw_X4_compare_190 {v : cwE} {bd : cBd} {p : Program} {l : Launch} {e : Env} {s : State} {m : MethodId} {args : Array Value} {below : List Frame} {meth : Method} {c : Code} {d : Nat} {rec : Nat → CS → List Int → CO} {σ0 σ' : CS} {kd : Nat} {r : Int} (hbd : bd = cw_bd v) (hR : cw_Rec l v d rec) (htr : l.stackTraces = false) (hd5 : 5 ≤ d) (B : cw_B v RX4 p s m args meth c cX4_compare 11 (some .boolean)) (hnh : ∀ x ∈ c.exceptionTable.toList, False) : ∀ (n : Nat) (σ : CS) (x0 x5 x6 x9 x10 : Int), inR x0 → inR x5 → inR x6 → inR x9 → inR x10 → pc_X4_compare_190 rec bd n σ x0 x5 x6 x9 x10 = some (σ', kd, r) → ∀ (H : Heap) (locs : List Loc) (cells slots : Nat) (ls : Array Slot), cw_W v s σ0 σ H locs cells slots → cl_has ls 11 [(0, cR v x0), (5, .int (rI x5)), (6, .int (rI x6)), (9, cR v x9), (10, cR v x10)] → W p l e (cw_rm v (d + 1) σ0) s m args below meth c H locs cells slots (cw_Z below v σ0 σ' kd (some (.int (rI r))) args s) (F0 m 190 ls []) := by
  subst hbd
  obtain ⟨hx, hb, hr, hml, hown, hts, hlk, hK⟩ := id B
  intro n
  induction n with
  | zero => intro σ x0 x5 x6 x9 x10 ix0 ix5 ix6 ix9 ix10 hf; cases hf
  | succ n ih =>
    intro σ x0 x5 x6 x9 x10 ix0 ix5 ix6 ix9 ix10 hf H locs cells slots ls hw hl
    unfold pc_X4_compare_190 at hf
    refine cl_aload hx hb dX4_compare_190 (lv_at hl.1 4 rfl) ?_
    refine cl_ifnull (x := x10) (tgt := 252) hx hb dX4_compare_192 (by decide) (fun c1 => ?_) (fun c1 => ?_)
    · replace hf := cc_if_t hf c1
      refine lv_iconst (v := rI 1) hx hb dX4_compare_252 rfl ?_
      obtain ⟨h01, hf⟩ := cc_bo_s hf
      exact cw_retz B h01 hf hw dX4_compare_253
    · replace hf := cc_if_f hf c1
      refine cl_aload hx hb dX4_compare_195 (lv_at hl.1 3 rfl) ?_
      refine cl_ifnull (x := x9) (tgt := 252) hx hb dX4_compare_197 (by decide) (fun c2 => ?_) (fun c2 => ?_)
      · replace hf := cc_if_t hf c2
        refine lv_iconst (v := rI 1) hx hb dX4_compare_252 rfl ?_
        obtain ⟨h01, hf⟩ := cc_bo_s hf
        exact cw_retz B h01 hf hw dX4_compare_253
      · replace hf := cc_if_f hf c2
        refine cl_aload_n hx hb dX4_compare_200 rfl (lv_at hl.1 0 rfl) ?_
        refine cl_aload hx hb dX4_compare_201 (lv_at hl.1 4 rfl) ?_
        obtain ⟨z3, ez3, iz3, rz3, hf⟩ := cc_g_s hw hf
        refine cw_get (val := cR v z3) B hw rz3 ⟨by decide, by decide⟩ (by decide) cwi_4 cfl_X4_124 ez3 rfl dX4_compare_203 ?_
        refine cl_aload hx hb dX4_compare_206 (lv_at hl.1 4 rfl) ?_
        obtain ⟨z4, ez4, iz4, rz4, hf⟩ := cc_g_s hw hf
        refine cw_get (val := cR v z4) B hw rz4 ⟨by decide, by decide⟩ (by decide) cwi_4 cfl_X4_127 ez4 rfl dX4_compare_208 ?_
        refine cl_aload hx hb dX4_compare_211 (lv_at hl.1 3 rfl) ?_
        obtain ⟨z5, ez5, iz5, rz5, hf⟩ := cc_g_s hw hf
        refine cw_get (val := cR v z5) B hw rz5 ⟨by decide, by decide⟩ (by decide) cwi_4 cfl_X4_124 ez5 rfl dX4_compare_213 ?_
        refine cl_aload hx hb dX4_compare_216 (lv_at hl.1 3 rfl) ?_
        obtain ⟨z6, ez6, iz6, rz6, hf⟩ := cc_g_s hw hf
        refine cw_get (val := cR v z6) B hw rz6 ⟨by decide, by decide⟩ (by decide) cwi_4 cfl_X4_127 ez6 rfl dX4_compare_218 ?_
        refine lv_iload hx hb dX4_compare_221 (lv_at hl.1 1 rfl) ?_
        refine lv_iload hx hb dX4_compare_223 (lv_at hl.1 2 rfl) ?_
        refine lv_iconst (v := rI 1) hx hb dX4_compare_225 rfl ?_
        obtain ⟨z7, ez7, iz7, hf⟩ := cc_ck_s hf
        refine rn_add hx hb ez7 dX4_compare_226 ?_
        obtain ⟨qσ8, hf⟩ := cc_t_s hf
        obtain ⟨σ8, kv9, z10, hσ8, hf⟩ := cc_cl_s hf
        obtain ⟨iz10, mσ8⟩ := hR 82 σ [x0, z3, z4, z5, z6, x5, z7] σ8 kv9 z10 hσ8
        have mσ8 : cw_Met l v yX4_compare cX4_compare 11 (some .boolean) d [cR v x0, cR v z3, cR v z4, cR v z5, cR v z6, .int (rI x5), .int (rI z7)] σ σ8 kv9 (some (.int (rI z10))) := mσ8 ix0 iz3 iz4 iz5 iz6 ix5 iz7
        refine cw_cv (b := x0) (t := 5) (n := 6) (rest := []) (As := [cR v z3, cR v z4, cR v z5, cR v z6, .int (rI x5), .int (rI z7)]) B mσ8 qσ8 ⟨by decide, by decide⟩ cgo_yX4_compare cml_X4_40 cin_yX4_compare cse_yX4_compare (by decide +kernel) (by decide) rfl hl.1.1 (Nat.le_of_ble_eq_true rfl) dX4_compare_227 rfl hw (fun h0 H locs cells slots hw => ?_) (fun h0 H locs cells slots q ce hw h1 h2 h3 => ?_)
        · rcases hf with ⟨-, hf⟩ | ⟨hk, -⟩
          · skip
            refine rn_if_ne (a := z10) (tgt := 235) hx hb iz10 dX4_compare_230 (by decide) (fun c11 => ?_) (fun c11 => ?_)
            · replace hf := cc_if_t hf c11
              refine cl_aload hx hb dX4_compare_235 (lv_at hl.1 3 rfl) ?_
              obtain ⟨z12, ez12, iz12, rz12, hf⟩ := cc_g_s hw hf
              refine cw_get (val := cR v z12) B hw rz12 ⟨by decide, by decide⟩ (by decide) cwi_4 cfl_X4_130 ez12 rfl dX4_compare_237 ?_
              refine cl_astore (lv' := [(9, cR v z12), (0, cR v x0), (5, .int (rI x5)), (6, .int (rI x6)), (10, cR v x10)]) hx hb dX4_compare_240 hl (by decide) rfl (fun ls hl => ?_)
              refine cl_aload hx hb dX4_compare_242 (lv_at hl.1 4 rfl) ?_
              obtain ⟨z13, ez13, iz13, rz13, hf⟩ := cc_g_s hw hf
              refine cw_get (val := cR v z13) B hw rz13 ⟨by decide, by decide⟩ (by decide) cwi_4 cfl_X4_130 ez13 rfl dX4_compare_244 ?_
              refine cl_astore (lv' := [(10, cR v z13), (9, cR v z12), (0, cR v x0), (5, .int (rI x5)), (6, .int (rI x6))]) hx hb dX4_compare_247 hl (by decide) rfl (fun ls hl => ?_)
              refine lv_goto (tgt := 190) hx hb dX4_compare_249 (by decide) ?_
              exact ih σ8 x0 x5 x6 z12 z13 ix0 ix5 ix6 iz12 iz13 hf _ _ _ _ _ hw (cl_sub hl [2, 3, 4, 1, 0] rfl)
            · replace hf := cc_if_f hf c11
              refine lv_iconst (v := rI 0) hx hb dX4_compare_233 rfl ?_
              obtain ⟨h01, hf⟩ := cc_bo_s hf
              exact cw_retz B h01 hf hw dX4_compare_234
          · exact absurd h0 hk
        · rcases hf with ⟨hk, -⟩ | ⟨-, hf⟩
          · exact absurd hk h0
          · cases hf
            exact cw_xout B hnh h0 hw h1 h2 h3

set_option maxHeartbeats 4000000 in
set_option maxRecDepth 100000 in
theorem pw_X4_compare_0 {v : cwE} {bd : cBd} {p : Program} {l : Launch} {e : Env} {s : State} {m : MethodId} {args : Array Value} {below : List Frame} {meth : Method} {c : Code} {d : Nat} {rec : Nat → CS → List Int → CO} {σ0 σ' : CS} {kd : Nat} {r : Int} (hbd : bd = cw_bd v) (hR : cw_Rec l v d rec) (htr : l.stackTraces = false) (hd5 : 5 ≤ d) (B : cw_B v RX4 p s m args meth c cX4_compare 11 (some .boolean)) (hnh : ∀ x ∈ c.exceptionTable.toList, False) : ∀ (σ : CS) (x0 x1 x2 x3 x4 x5 x6 : Int), inR x0 → inR x1 → inR x2 → inR x3 → inR x4 → inR x5 → inR x6 → pc_X4_compare_0 rec bd σ x0 x1 x2 x3 x4 x5 x6 = some (σ', kd, r) → ∀ (H : Heap) (locs : List Loc) (cells slots : Nat) (ls : Array Slot), cw_W v s σ0 σ H locs cells slots → cl_has ls 11 [(0, cR v x0), (1, cR v x1), (2, cR v x2), (3, cR v x3), (4, cR v x4), (5, .int (rI x5)), (6, .int (rI x6))] → W p l e (cw_rm v (d + 1) σ0) s m args below meth c H locs cells slots (cw_Z below v σ0 σ' kd (some (.int (rI r))) args s) (F0 m 0 ls []) := by
  subst hbd
  obtain ⟨hx, hb, hr, hml, hown, hts, hlk, hK⟩ := id B
  intro σ x0 x1 x2 x3 x4 x5 x6 ix0 ix1 ix2 ix3 ix4 ix5 ix6 hf H locs cells slots ls hw hl
  unfold pc_X4_compare_0 at hf
  refine cl_aload_n hx hb dX4_compare_0 rfl (lv_at hl.1 0 rfl) ?_
  refine lv_iload hx hb dX4_compare_1 (lv_at hl.1 6 rfl) ?_
  obtain ⟨qσ1, hf⟩ := cc_t_s hf
  obtain ⟨σ1, kv2, z3, hσ1, hf⟩ := cc_cl_s hf
  obtain ⟨iz3, mσ1⟩ := hR 85 σ [x0, x6] σ1 kv2 z3 hσ1
  have mσ1 : cw_Met l v yX4_look cX4_look 3 none d [cR v x0, .int (rI x6)] σ σ1 kv2 none := mσ1 ix0 ix6
  refine cw_cv (b := x0) (t := 5) (n := 1) (rest := []) (As := [.int (rI x6)]) B mσ1 qσ1 ⟨by decide, by decide⟩ cgo_yX4_look cml_X4_149 cin_yX4_look cse_yX4_look (by decide +kernel) (by decide) rfl hl.1.1 (Nat.le_of_ble_eq_true rfl) dX4_compare_3 rfl hw (fun h0 H locs cells slots hw => ?_) (fun h0 H locs cells slots q ce hw h1 h2 h3 => ?_)
  · rcases hf with ⟨-, hf⟩ | ⟨hk, -⟩
    · skip
      refine cl_aload_n hx hb dX4_compare_6 rfl (lv_at hl.1 0 rfl) ?_
      refine cl_aload_n hx hb dX4_compare_7 rfl (lv_at hl.1 1 rfl) ?_
      refine cl_aload_n hx hb dX4_compare_8 rfl (lv_at hl.1 2 rfl) ?_
      obtain ⟨qσ4, hf⟩ := cc_t_s hf
      obtain ⟨σ4, kv5, z6, hσ4, hf⟩ := cc_cl_s hf
      obtain ⟨iz6, mσ4⟩ := hR 83 σ1 [x0, x1, x2] σ4 kv5 z6 hσ4
      have mσ4 : cw_Met l v yX4_head cX4_head 9 (some (.object "PureHouse$Head")) d [cR v x0, cR v x1, cR v x2] σ1 σ4 kv5 (some (cR v z6)) := mσ4 ix0 ix1 ix2
      refine cw_cv (b := x0) (t := 5) (n := 2) (rest := []) (As := [cR v x1, cR v x2]) B mσ4 qσ4 ⟨by decide, by decide⟩ cgo_yX4_head cml_X4_52 cin_yX4_head cse_yX4_head (by decide +kernel) (by decide) rfl hl.1.1 (Nat.le_of_ble_eq_true rfl) dX4_compare_9 rfl hw (fun h0 H locs cells slots hw => ?_) (fun h0 H locs cells slots q ce hw h1 h2 h3 => ?_)
      · rcases hf with ⟨-, hf⟩ | ⟨hk, -⟩
        · skip
          refine cl_astore (lv' := [(7, cR v z6), (0, cR v x0), (1, cR v x1), (2, cR v x2), (3, cR v x3), (4, cR v x4), (5, .int (rI x5)), (6, .int (rI x6))]) hx hb dX4_compare_12 hl (by decide) rfl (fun ls hl => ?_)
          refine cl_aload_n hx hb dX4_compare_14 rfl (lv_at hl.1 1 rfl) ?_
          refine cl_aload_n hx hb dX4_compare_15 rfl (lv_at hl.1 4 rfl) ?_
          refine cl_aload hx hb dX4_compare_16 (lv_at hl.1 5 rfl) ?_
          obtain ⟨qσ7, hf⟩ := cc_t_s hf
          obtain ⟨σ7, kv8, z9, hσ7, hf⟩ := cc_cl_s hf
          obtain ⟨iz9, mσ7⟩ := hR 83 σ4 [x0, x3, x4] σ7 kv8 z9 hσ7
          have mσ7 : cw_Met l v yX4_head cX4_head 9 (some (.object "PureHouse$Head")) d [cR v x0, cR v x3, cR v x4] σ4 σ7 kv8 (some (cR v z9)) := mσ7 ix0 ix3 ix4
          refine cw_cv (b := x0) (t := 5) (n := 2) (rest := []) (As := [cR v x3, cR v x4]) B mσ7 qσ7 ⟨by decide, by decide⟩ cgo_yX4_head cml_X4_52 cin_yX4_head cse_yX4_head (by decide +kernel) (by decide) rfl hl.1.1 (Nat.le_of_ble_eq_true rfl) dX4_compare_18 rfl hw (fun h0 H locs cells slots hw => ?_) (fun h0 H locs cells slots q ce hw h1 h2 h3 => ?_)
          · rcases hf with ⟨-, hf⟩ | ⟨hk, -⟩
            · skip
              refine cl_astore (lv' := [(8, cR v z9), (7, cR v z6), (0, cR v x0), (1, cR v x1), (2, cR v x2), (3, cR v x3), (4, cR v x4), (5, .int (rI x5)), (6, .int (rI x6))]) hx hb dX4_compare_21 hl (by decide) rfl (fun ls hl => ?_)
              refine cl_aload hx hb dX4_compare_23 (lv_at hl.1 1 rfl) ?_
              obtain ⟨z10, ez10, iz10, rz10, hf⟩ := cc_g_s hw hf
              refine cw_get (val := cR v z10) B hw rz10 ⟨by decide, by decide⟩ (by decide) cwi_2 cfl_X4_152 ez10 rfl dX4_compare_25 ?_
              obtain ⟨z11, ez11, iz11, rz11, hf⟩ := cc_g_s hw hf
              refine cw_get (val := .int (rI z11)) B hw rz11 ⟨by decide, by decide⟩ (by decide) cwi_7 cfl_X4_103 ez11 rfl dX4_compare_28 ?_
              refine cl_aload hx hb dX4_compare_31 (lv_at hl.1 0 rfl) ?_
              obtain ⟨z12, ez12, iz12, rz12, hf⟩ := cc_g_s hw hf
              refine cw_get (val := cR v z12) B hw rz12 ⟨by decide, by decide⟩ (by decide) cwi_2 cfl_X4_152 ez12 rfl dX4_compare_33 ?_
              obtain ⟨z13, ez13, iz13, rz13, hf⟩ := cc_g_s hw hf
              refine cw_get (val := .int (rI z13)) B hw rz13 ⟨by decide, by decide⟩ (by decide) cwi_7 cfl_X4_103 ez13 rfl dX4_compare_36 ?_
              refine rn_icmp_eq (a := z11) (b := z13) (tgt := 44) hx hb iz11 iz13 dX4_compare_39 (by decide) (fun c14 => ?_) (fun c14 => ?_)
              · replace hf := cc_if_t hf c14
                refine cl_aload hx hb dX4_compare_44 (lv_at hl.1 1 rfl) ?_
                obtain ⟨qσ15, hf⟩ := cc_t_s hf
                obtain ⟨σ15, kv16, z17, hσ15, hf⟩ := cc_cl_s hf
                obtain ⟨iz17, mσ15⟩ := hR 27 σ7 [z6] σ15 kv16 z17 hσ15
                have mσ15 : cw_Met l v yX1_isBinder cX1_isBinder 1 (some .boolean) d [cR v z6] σ7 σ15 kv16 (some (.int (rI z17))) := mσ15 iz6
                refine cw_cv (b := z6) (t := 2) (n := 0) (rest := []) (As := []) B mσ15 qσ15 ⟨by decide, by decide⟩ cgo_yX1_isBinder cml_X4_64 cin_yX1_isBinder cse_yX1_isBinder (by decide +kernel) (by decide) rfl hl.1.1 (Nat.le_of_ble_eq_true rfl) dX4_compare_46 rfl hw (fun h0 H locs cells slots hw => ?_) (fun h0 H locs cells slots q ce hw h1 h2 h3 => ?_)
                · rcases hf with ⟨-, hf⟩ | ⟨hk, -⟩
                  · skip
                    refine rn_if_eq (a := z17) (tgt := 142) hx hb iz17 dX4_compare_49 (by decide) (fun c18 => ?_) (fun c18 => ?_)
                    · replace hf := cc_if_t hf c18
                      refine cl_aload hx hb dX4_compare_142 (lv_at hl.1 1 rfl) ?_
                      obtain ⟨z19, ez19, iz19, rz19, hf⟩ := cc_g_s hw hf
                      refine cw_get (val := .int (rI z19)) B hw rz19 ⟨by decide, by decide⟩ (by decide) cwi_2 cfl_X4_160 ez19 rfl dX4_compare_144 ?_
                      refine cl_aload hx hb dX4_compare_147 (lv_at hl.1 0 rfl) ?_
                      obtain ⟨z20, ez20, iz20, rz20, hf⟩ := cc_g_s hw hf
                      refine cw_get (val := .int (rI z20)) B hw rz20 ⟨by decide, by decide⟩ (by decide) cwi_2 cfl_X4_160 ez20 rfl dX4_compare_149 ?_
                      refine rn_icmp_ne (a := z19) (b := z20) (tgt := 174) hx hb iz19 iz20 dX4_compare_152 (by decide) (fun c21 => ?_) (fun c21 => ?_)
                      · replace hf := cc_if_t hf c21
                        refine lv_iconst (v := rI 0) hx hb dX4_compare_174 rfl ?_
                        obtain ⟨h01, hf⟩ := cc_bo_s hf
                        exact cw_retz B h01 hf hw dX4_compare_175
                      · replace hf := cc_if_f hf c21
                        refine cl_aload hx hb dX4_compare_155 (lv_at hl.1 1 rfl) ?_
                        obtain ⟨z22, ez22, iz22, rz22, hf⟩ := cc_g_s hw hf
                        refine cw_get (val := cR v z22) B hw rz22 ⟨by decide, by decide⟩ (by decide) cwi_2 cfl_X4_70 ez22 rfl dX4_compare_157 ?_
                        obtain ⟨σ23, kv24, z25, hσ23, hf⟩ := cc_cl_s hf
                        obtain ⟨iz25, mσ23⟩ := hR 79 σ15 [z22] σ23 kv24 z25 hσ23
                        have mσ23 : cw_Met l v yX3_lengthOf cX3_lengthOf 3 (some .int) d [cR v z22] σ15 σ23 kv24 (some (.int (rI z25))) := mσ23 iz22
                        refine cw_cs (n := 1) (rest := []) (As := [cR v z22]) B mσ23 cgo_yX3_lengthOf cml_X4_74 cst_yX3_lengthOf (by decide +kernel) (by decide) rfl hl.1.1 (Nat.le_of_ble_eq_true rfl) dX4_compare_160 rfl hw (fun h0 H locs cells slots hw => ?_) (fun h0 H locs cells slots q ce hw h1 h2 h3 => ?_)
                        · rcases hf with ⟨-, hf⟩ | ⟨hk, -⟩
                          · skip
                            refine cl_aload hx hb dX4_compare_163 (lv_at hl.1 0 rfl) ?_
                            obtain ⟨z26, ez26, iz26, rz26, hf⟩ := cc_g_s hw hf
                            refine cw_get (val := cR v z26) B hw rz26 ⟨by decide, by decide⟩ (by decide) cwi_2 cfl_X4_70 ez26 rfl dX4_compare_165 ?_
                            obtain ⟨σ27, kv28, z29, hσ27, hf⟩ := cc_cl_s hf
                            obtain ⟨iz29, mσ27⟩ := hR 79 σ23 [z26] σ27 kv28 z29 hσ27
                            have mσ27 : cw_Met l v yX3_lengthOf cX3_lengthOf 3 (some .int) d [cR v z26] σ23 σ27 kv28 (some (.int (rI z29))) := mσ27 iz26
                            refine cw_cs (n := 1) (rest := [.int (rI z25)]) (As := [cR v z26]) B mσ27 cgo_yX3_lengthOf cml_X4_74 cst_yX3_lengthOf (by decide +kernel) (by decide) rfl hl.1.1 (Nat.le_of_ble_eq_true rfl) dX4_compare_168 rfl hw (fun h0 H locs cells slots hw => ?_) (fun h0 H locs cells slots q ce hw h1 h2 h3 => ?_)
                            · rcases hf with ⟨-, hf⟩ | ⟨hk, -⟩
                              · skip
                                refine rn_icmp_eq (a := z25) (b := z29) (tgt := 176) hx hb iz25 iz29 dX4_compare_171 (by decide) (fun c30 => ?_) (fun c30 => ?_)
                                · replace hf := cc_if_t hf c30
                                  refine cl_aload hx hb dX4_compare_176 (lv_at hl.1 0 rfl) ?_
                                  obtain ⟨z31, ez31, iz31, rz31, hf⟩ := cc_g_s hw hf
                                  refine cw_get (val := cR v z31) B hw rz31 ⟨by decide, by decide⟩ (by decide) cwi_2 cfl_X4_70 ez31 rfl dX4_compare_178 ?_
                                  refine cl_astore (lv' := [(9, cR v z31), (8, cR v z9), (7, cR v z6), (0, cR v x0), (1, cR v x1), (2, cR v x2), (3, cR v x3), (4, cR v x4), (5, .int (rI x5)), (6, .int (rI x6))]) hx hb dX4_compare_181 hl (by decide) rfl (fun ls hl => ?_)
                                  refine cl_aload hx hb dX4_compare_183 (lv_at hl.1 2 rfl) ?_
                                  obtain ⟨z32, ez32, iz32, rz32, hf⟩ := cc_g_s hw hf
                                  refine cw_get (val := cR v z32) B hw rz32 ⟨by decide, by decide⟩ (by decide) cwi_2 cfl_X4_70 ez32 rfl dX4_compare_185 ?_
                                  refine cl_astore (lv' := [(10, cR v z32), (9, cR v z31), (8, cR v z9), (7, cR v z6), (0, cR v x0), (1, cR v x1), (2, cR v x2), (3, cR v x3), (4, cR v x4), (5, .int (rI x5)), (6, .int (rI x6))]) hx hb dX4_compare_188 hl (by decide) rfl (fun ls hl => ?_)
                                  exact pw_X4_compare_190 rfl hR htr hd5 B hnh 2000000 σ27 x0 x5 x6 z31 z32 ix0 ix5 ix6 iz31 iz32 hf _ _ _ _ _ hw (cl_sub hl [4, 9, 10, 1, 0] rfl)
                                · replace hf := cc_if_f hf c30
                                  refine lv_iconst (v := rI 0) hx hb dX4_compare_174 rfl ?_
                                  obtain ⟨h01, hf⟩ := cc_bo_s hf
                                  exact cw_retz B h01 hf hw dX4_compare_175
                              · exact absurd h0 hk
                            · rcases hf with ⟨hk, -⟩ | ⟨-, hf⟩
                              · exact absurd hk h0
                              · cases hf
                                exact cw_xout B hnh h0 hw h1 h2 h3
                          · exact absurd h0 hk
                        · rcases hf with ⟨hk, -⟩ | ⟨-, hf⟩
                          · exact absurd hk h0
                          · cases hf
                            exact cw_xout B hnh h0 hw h1 h2 h3
                    · replace hf := cc_if_f hf c18
                      refine cl_aload_n hx hb dX4_compare_52 rfl (lv_at hl.1 2 rfl) ?_
                      refine cl_aload hx hb dX4_compare_53 (lv_at hl.1 1 rfl) ?_
                      obtain ⟨z33, ez33, iz33, rz33, hf⟩ := cc_g_s hw hf
                      refine cw_get (val := cR v z33) B hw rz33 ⟨by decide, by decide⟩ (by decide) cwi_2 cfl_X4_152 ez33 rfl dX4_compare_55 ?_
                      obtain ⟨z34, ez34, iz34, rz34, hf⟩ := cc_g_s hw hf
                      refine cw_get (val := cR v z34) B hw rz34 ⟨by decide, by decide⟩ (by decide) cwi_7 cfl_X4_114 ez34 rfl dX4_compare_58 ?_
                      refine cl_aload hx hb dX4_compare_61 (lv_at hl.1 1 rfl) ?_
                      obtain ⟨z35, ez35, iz35, rz35, hf⟩ := cc_g_s hw hf
                      refine cw_get (val := cR v z35) B hw rz35 ⟨by decide, by decide⟩ (by decide) cwi_2 cfl_X4_155 ez35 rfl dX4_compare_63 ?_
                      refine cl_aload hx hb dX4_compare_66 (lv_at hl.1 0 rfl) ?_
                      obtain ⟨z36, ez36, iz36, rz36, hf⟩ := cc_g_s hw hf
                      refine cw_get (val := cR v z36) B hw rz36 ⟨by decide, by decide⟩ (by decide) cwi_2 cfl_X4_152 ez36 rfl dX4_compare_68 ?_
                      obtain ⟨z37, ez37, iz37, rz37, hf⟩ := cc_g_s hw hf
                      refine cw_get (val := cR v z37) B hw rz37 ⟨by decide, by decide⟩ (by decide) cwi_7 cfl_X4_114 ez37 rfl dX4_compare_71 ?_
                      refine cl_aload hx hb dX4_compare_74 (lv_at hl.1 0 rfl) ?_
                      obtain ⟨z38, ez38, iz38, rz38, hf⟩ := cc_g_s hw hf
                      refine cw_get (val := cR v z38) B hw rz38 ⟨by decide, by decide⟩ (by decide) cwi_2 cfl_X4_155 ez38 rfl dX4_compare_76 ?_
                      refine lv_iload hx hb dX4_compare_79 (lv_at hl.1 7 rfl) ?_
                      refine lv_iload hx hb dX4_compare_81 (lv_at hl.1 8 rfl) ?_
                      refine lv_iconst (v := rI 1) hx hb dX4_compare_83 rfl ?_
                      obtain ⟨z39, ez39, iz39, hf⟩ := cc_ck_s hf
                      refine rn_add hx hb ez39 dX4_compare_84 ?_
                      obtain ⟨qσ40, hf⟩ := cc_t_s hf
                      obtain ⟨σ40, kv41, z42, hσ40, hf⟩ := cc_cl_s hf
                      obtain ⟨iz42, mσ40⟩ := hR 82 σ15 [x0, z34, z35, z37, z38, x5, z39] σ40 kv41 z42 hσ40
                      have mσ40 : cw_Met l v yX4_compare cX4_compare 11 (some .boolean) d [cR v x0, cR v z34, cR v z35, cR v z37, cR v z38, .int (rI x5), .int (rI z39)] σ15 σ40 kv41 (some (.int (rI z42))) := mσ40 ix0 iz34 iz35 iz37 iz38 ix5 iz39
                      refine cw_cv (b := x0) (t := 5) (n := 6) (rest := []) (As := [cR v z34, cR v z35, cR v z37, cR v z38, .int (rI x5), .int (rI z39)]) B mσ40 qσ40 ⟨by decide, by decide⟩ cgo_yX4_compare cml_X4_40 cin_yX4_compare cse_yX4_compare (by decide +kernel) (by decide) rfl hl.1.1 (Nat.le_of_ble_eq_true rfl) dX4_compare_85 rfl hw (fun h0 H locs cells slots hw => ?_) (fun h0 H locs cells slots q ce hw h1 h2 h3 => ?_)
                      · rcases hf with ⟨-, hf⟩ | ⟨hk, -⟩
                        · skip
                          refine rn_if_eq (a := z42) (tgt := 140) hx hb iz42 dX4_compare_88 (by decide) (fun c43 => ?_) (fun c43 => ?_)
                          · replace hf := cc_if_t hf c43
                            refine lv_iconst (v := rI 0) hx hb dX4_compare_140 rfl ?_
                            obtain ⟨h01, hf⟩ := cc_bo_s hf
                            exact cw_retz B h01 hf hw dX4_compare_141
                          · replace hf := cc_if_f hf c43
                            refine cl_aload_n hx hb dX4_compare_91 rfl (lv_at hl.1 2 rfl) ?_
                            refine cl_aload hx hb dX4_compare_92 (lv_at hl.1 1 rfl) ?_
                            obtain ⟨z44, ez44, iz44, rz44, hf⟩ := cc_g_s hw hf
                            refine cw_get (val := cR v z44) B hw rz44 ⟨by decide, by decide⟩ (by decide) cwi_2 cfl_X4_152 ez44 rfl dX4_compare_94 ?_
                            obtain ⟨z45, ez45, iz45, rz45, hf⟩ := cc_g_s hw hf
                            refine cw_get (val := cR v z45) B hw rz45 ⟨by decide, by decide⟩ (by decide) cwi_7 cfl_X4_121 ez45 rfl dX4_compare_97 ?_
                            refine cl_aload hx hb dX4_compare_100 (lv_at hl.1 1 rfl) ?_
                            refine lv_iload hx hb dX4_compare_102 (lv_at hl.1 7 rfl) ?_
                            obtain ⟨qσ46, hf⟩ := cc_t_s hf
                            obtain ⟨σ46, kv47, z48, hσ46, hf⟩ := cc_cl_s hf
                            obtain ⟨iz48, mσ46⟩ := hR 25 σ40 [z6, x5] σ46 kv47 z48 hσ46
                            have mσ46 : cw_Met l v yX1_envOfSecond cX1_envOfSecond 2 (some (.object "PureHouse$Link")) d [cR v z6, .int (rI x5)] σ40 σ46 kv47 (some (cR v z48)) := mσ46 iz6 ix5
                            refine cw_cv (b := z6) (t := 2) (n := 1) (rest := [cR v z45, cR v x0]) (As := [.int (rI x5)]) B mσ46 qσ46 ⟨by decide, by decide⟩ cgo_yX1_envOfSecond cml_X4_156 cin_yX1_envOfSecond cse_yX1_envOfSecond (by decide +kernel) (by decide) rfl hl.1.1 (cl_cs (cl_1r (cl_1r cl_10)) (Nat.le_of_ble_eq_true rfl)) dX4_compare_104 rfl hw (fun h0 H locs cells slots hw => ?_) (fun h0 H locs cells slots q ce hw h1 h2 h3 => ?_)
                            · rcases hf with ⟨-, hf⟩ | ⟨hk, -⟩
                              · skip
                                refine cl_aload hx hb dX4_compare_107 (lv_at hl.1 0 rfl) ?_
                                obtain ⟨z49, ez49, iz49, rz49, hf⟩ := cc_g_s hw hf
                                refine cw_get (val := cR v z49) B hw rz49 ⟨by decide, by decide⟩ (by decide) cwi_2 cfl_X4_152 ez49 rfl dX4_compare_109 ?_
                                obtain ⟨z50, ez50, iz50, rz50, hf⟩ := cc_g_s hw hf
                                refine cw_get (val := cR v z50) B hw rz50 ⟨by decide, by decide⟩ (by decide) cwi_7 cfl_X4_121 ez50 rfl dX4_compare_112 ?_
                                refine cl_aload hx hb dX4_compare_115 (lv_at hl.1 0 rfl) ?_
                                refine lv_iload hx hb dX4_compare_117 (lv_at hl.1 7 rfl) ?_
                                obtain ⟨qσ51, hf⟩ := cc_t_s hf
                                obtain ⟨σ51, kv52, z53, hσ51, hf⟩ := cc_cl_s hf
                                obtain ⟨iz53, mσ51⟩ := hR 25 σ46 [z9, x5] σ51 kv52 z53 hσ51
                                have mσ51 : cw_Met l v yX1_envOfSecond cX1_envOfSecond 2 (some (.object "PureHouse$Link")) d [cR v z9, .int (rI x5)] σ46 σ51 kv52 (some (cR v z53)) := mσ51 iz9 ix5
                                refine cw_cv (b := z9) (t := 2) (n := 1) (rest := [cR v z50, cR v z48, cR v z45, cR v x0]) (As := [.int (rI x5)]) B mσ51 qσ51 ⟨by decide, by decide⟩ cgo_yX1_envOfSecond cml_X4_156 cin_yX1_envOfSecond cse_yX1_envOfSecond (by decide +kernel) (by decide) rfl hl.1.1 (cl_cs (cl_1r (cl_1r (cl_1r (cl_1r cl_10)))) (Nat.le_of_ble_eq_true rfl)) dX4_compare_119 rfl hw (fun h0 H locs cells slots hw => ?_) (fun h0 H locs cells slots q ce hw h1 h2 h3 => ?_)
                                · rcases hf with ⟨-, hf⟩ | ⟨hk, -⟩
                                  · skip
                                    refine lv_iload hx hb dX4_compare_122 (lv_at hl.1 7 rfl) ?_
                                    refine lv_iconst (v := rI 1) hx hb dX4_compare_124 rfl ?_
                                    obtain ⟨z54, ez54, iz54, hf⟩ := cc_ck_s hf
                                    refine rn_add hx hb ez54 dX4_compare_125 ?_
                                    refine lv_iload hx hb dX4_compare_126 (lv_at hl.1 8 rfl) ?_
                                    refine lv_iconst (v := rI 1) hx hb dX4_compare_128 rfl ?_
                                    obtain ⟨z55, ez55, iz55, hf⟩ := cc_ck_s hf
                                    refine rn_add hx hb ez55 dX4_compare_129 ?_
                                    obtain ⟨qσ56, hf⟩ := cc_t_s hf
                                    obtain ⟨σ56, kv57, z58, hσ56, hf⟩ := cc_cl_s hf
                                    obtain ⟨iz58, mσ56⟩ := hR 82 σ51 [x0, z45, z48, z50, z53, z54, z55] σ56 kv57 z58 hσ56
                                    have mσ56 : cw_Met l v yX4_compare cX4_compare 11 (some .boolean) d [cR v x0, cR v z45, cR v z48, cR v z50, cR v z53, .int (rI z54), .int (rI z55)] σ51 σ56 kv57 (some (.int (rI z58))) := mσ56 ix0 iz45 iz48 iz50 iz53 iz54 iz55
                                    refine cw_cv (b := x0) (t := 5) (n := 6) (rest := []) (As := [cR v z45, cR v z48, cR v z50, cR v z53, .int (rI z54), .int (rI z55)]) B mσ56 qσ56 ⟨by decide, by decide⟩ cgo_yX4_compare cml_X4_40 cin_yX4_compare cse_yX4_compare (by decide +kernel) (by decide) rfl hl.1.1 (Nat.le_of_ble_eq_true rfl) dX4_compare_130 rfl hw (fun h0 H locs cells slots hw => ?_) (fun h0 H locs cells slots q ce hw h1 h2 h3 => ?_)
                                    · rcases hf with ⟨-, hf⟩ | ⟨hk, -⟩
                                      · skip
                                        refine rn_if_eq (a := z58) (tgt := 140) hx hb iz58 dX4_compare_133 (by decide) (fun c59 => ?_) (fun c59 => ?_)
                                        · replace hf := cc_if_t hf c59
                                          refine lv_iconst (v := rI 0) hx hb dX4_compare_140 rfl ?_
                                          obtain ⟨h01, hf⟩ := cc_bo_s hf
                                          exact cw_retz B h01 hf hw dX4_compare_141
                                        · replace hf := cc_if_f hf c59
                                          refine lv_iconst (v := rI 1) hx hb dX4_compare_136 rfl ?_
                                          refine lv_goto (tgt := 141) hx hb dX4_compare_137 (by decide) ?_
                                          obtain ⟨h01, hf⟩ := cc_bo_s hf
                                          exact cw_retz B h01 hf hw dX4_compare_141
                                      · exact absurd h0 hk
                                    · rcases hf with ⟨hk, -⟩ | ⟨-, hf⟩
                                      · exact absurd hk h0
                                      · cases hf
                                        exact cw_xout B hnh h0 hw h1 h2 h3
                                  · exact absurd h0 hk
                                · rcases hf with ⟨hk, -⟩ | ⟨-, hf⟩
                                  · exact absurd hk h0
                                  · cases hf
                                    exact cw_xout B hnh h0 hw h1 h2 h3
                              · exact absurd h0 hk
                            · rcases hf with ⟨hk, -⟩ | ⟨-, hf⟩
                              · exact absurd hk h0
                              · cases hf
                                exact cw_xout B hnh h0 hw h1 h2 h3
                        · exact absurd h0 hk
                      · rcases hf with ⟨hk, -⟩ | ⟨-, hf⟩
                        · exact absurd hk h0
                        · cases hf
                          exact cw_xout B hnh h0 hw h1 h2 h3
                  · exact absurd h0 hk
                · rcases hf with ⟨hk, -⟩ | ⟨-, hf⟩
                  · exact absurd hk h0
                  · cases hf
                    exact cw_xout B hnh h0 hw h1 h2 h3
              · replace hf := cc_if_f hf c14
                refine lv_iconst (v := rI 0) hx hb dX4_compare_42 rfl ?_
                obtain ⟨h01, hf⟩ := cc_bo_s hf
                exact cw_retz B h01 hf hw dX4_compare_43
            · exact absurd h0 hk
          · rcases hf with ⟨hk, -⟩ | ⟨-, hf⟩
            · exact absurd hk h0
            · cases hf
              exact cw_xout B hnh h0 hw h1 h2 h3
        · exact absurd h0 hk
      · rcases hf with ⟨hk, -⟩ | ⟨-, hf⟩
        · exact absurd hk h0
        · cases hf
          exact cw_xout B hnh h0 hw h1 h2 h3
    · exact absurd h0 hk
  · rcases hf with ⟨hk, -⟩ | ⟨-, hf⟩
    · exact absurd hk h0
    · cases hf
      exact cw_xout B hnh h0 hw h1 h2 h3

set_option maxHeartbeats 4000000 in
set_option maxRecDepth 100000 in
theorem pm_X4_compare {v : cwE} {bd : cBd} {l : Launch} {d : Nat} {rec : Nat → CS → List Int → CO} (hbd : bd = cw_bd v) (hR : cw_Rec l v d rec) (htr : l.stackTraces = false) (hd5 : 5 ≤ d) (σ σ' : CS) (x0 x1 x2 x3 x4 x5 x6 : Int) (kd : Nat) (r : Int) (ix0 : inR x0) (ix1 : inR x1) (ix2 : inR x2) (ix3 : inR x3) (ix4 : inR x4) (ix5 : inR x5) (ix6 : inR x6) (hf : pc_X4_compare_0 rec bd σ x0 x1 x2 x3 x4 x5 x6 = some (σ', kd, r)) : cw_Met l v yX4_compare cX4_compare 11 (some .boolean) (d + 1) [cR v x0, cR v x1, cR v x2, cR v x3, cR v x4, .int (rI x5), .int (rI x6)] σ σ' kd (some (.int (rI r))) := by
  refine cw_ofW (by decide +kernel) ?_
  intro p e s m args below meth c s₁ B hml hv
  obtain ⟨rfl, hM, hK⟩ := hv
  have hts := atoms_spec (ws := Cond.code yX4_compare cX4_compare 11 (some .boolean) :: cw_bw) B.pre
  have hB : cw_B v RX4 p s m _ meth c cX4_compare 11 (some .boolean) := ⟨B.exec, B.bytes, B.returns, hml, findClass_of_methodNamed B.named, fun w h => hts w (List.mem_cons_of_mem _ h), B.notSynchronized, hK⟩
  have hnh := cc_nh B (hts _ List.mem_cons_self)
  rw [lg_entry_eq]
  obtain ⟨ls, hls, hl⟩ := cl_ent [cR v x0, cR v x1, cR v x2, cR v x3, cR v x4, .int (rI x5), .int (rI x6)] 11 (cl_1r (cl_1r (cl_1r (cl_1r (cl_1r (cl_1i (cl_1i cl_10))))))) (Nat.le_of_ble_eq_true rfl)
  rw [hls]
  exact pw_X4_compare_0 hbd hR htr hd5 hB hnh σ x0 x1 x2 x3 x4 x5 x6 ix0 ix1 ix2 ix3 ix4 ix5 ix6 hf _ _ _ _ _ (cw_W0 hM) (cl_sub hl [0, 1, 2, 3, 4, 5, 6] rfl)

set_option maxHeartbeats 4000000 in
set_option maxRecDepth 100000 in
theorem pw_X4_head_331 {v : cwE} {bd : cBd} {p : Program} {l : Launch} {e : Env} {s : State} {m : MethodId} {args : Array Value} {below : List Frame} {meth : Method} {c : Code} {d : Nat} {rec : Nat → CS → List Int → CO} {σ0 σ' : CS} {kd : Nat} {r : Int} (hbd : bd = cw_bd v) (hR : cw_Rec l v d rec) (htr : l.stackTraces = false) (hd5 : 5 ≤ d) (B : cw_B v RX4 p s m args meth c cX4_head 9 (some (.object "PureHouse$Head"))) (hnh : ∀ x ∈ c.exceptionTable.toList, False) (k11 : CS → Int → Int → Int → Int → Int → CO) (hk11 : ∀ (σ : CS) (x0 x3 x4 x5 x6 : Int), inR x0 → inR x3 → inR x4 → inR x5 → inR x6 → k11 σ x0 x3 x4 x5 x6 = some (σ', kd, r) → ∀ (H : Heap) (locs : List Loc) (cells slots : Nat) (ls : Array Slot), cw_W v s σ0 σ H locs cells slots → cl_has ls 9 [(0, cR v x0), (3, cR v x3), (4, cR v x4), (5, cR v x5), (6, .int (rI x6))] → W p l e (cw_rm v (d + 1) σ0) s m args below meth c H locs cells slots (cw_Z below v σ0 σ' kd (some (cR v r)) args s) (F0 m 11 ls [])) : ∀ (σ : CS) (x0 x3 x4 x5 x6 : Int), inR x0 → inR x3 → inR x4 → inR x5 → inR x6 → pc_X4_head_331 rec bd k11 σ x0 x3 x4 x5 x6 = some (σ', kd, r) → ∀ (H : Heap) (locs : List Loc) (cells slots : Nat) (ls : Array Slot), cw_W v s σ0 σ H locs cells slots → cl_has ls 9 [(0, cR v x0), (3, cR v x3), (4, cR v x4), (5, cR v x5), (6, .int (rI x6))] → W p l e (cw_rm v (d + 1) σ0) s m args below meth c H locs cells slots (cw_Z below v σ0 σ' kd (some (cR v r)) args s) (F0 m 331 ls []) := by
  subst hbd
  obtain ⟨hx, hb, hr, hml, hown, hts, hlk, hK⟩ := id B
  intro σ x0 x3 x4 x5 x6 ix0 ix3 ix4 ix5 ix6 hf H locs cells slots ls hw hl
  unfold pc_X4_head_331 at hf
  obtain ⟨z1, ez1, iz1, hf⟩ := cc_ck_s hf
  refine cl_iinc (v := rI z1) (lv' := [(6, .int (rI z1)), (0, cR v x0), (3, cR v x3), (4, cR v x4), (5, cR v x5)]) hx hb dX4_head_331 hl (k := 4) rfl (by rw [ez1]; exact rI_add _ _) (by decide) rfl (fun ls hl => ?_)
  refine lv_goto (tgt := 11) hx hb dX4_head_334 (by decide) ?_
  exact hk11 σ x0 x3 x4 x5 z1 ix0 ix3 ix4 ix5 iz1 hf _ _ _ _ _ hw (cl_sub hl [1, 2, 3, 4, 0] rfl)

set_option maxHeartbeats 4000000 in
set_option maxRecDepth 100000 in
theorem pw_X4_head_36 {v : cwE} {bd : cBd} {p : Program} {l : Launch} {e : Env} {s : State} {m : MethodId} {args : Array Value} {below : List Frame} {meth : Method} {c : Code} {d : Nat} {rec : Nat → CS → List Int → CO} {σ0 σ' : CS} {kd : Nat} {r : Int} (hbd : bd = cw_bd v) (hR : cw_Rec l v d rec) (htr : l.stackTraces = false) (hd5 : 5 ≤ d) (B : cw_B v RX4 p s m args meth c cX4_head 9 (some (.object "PureHouse$Head"))) (hnh : ∀ x ∈ c.exceptionTable.toList, False) (k11 : CS → Int → Int → Int → Int → Int → CO) (hk11 : ∀ (σ : CS) (x0 x3 x4 x5 x6 : Int), inR x0 → inR x3 → inR x4 → inR x5 → inR x6 → k11 σ x0 x3 x4 x5 x6 = some (σ', kd, r) → ∀ (H : Heap) (locs : List Loc) (cells slots : Nat) (ls : Array Slot), cw_W v s σ0 σ H locs cells slots → cl_has ls 9 [(0, cR v x0), (3, cR v x3), (4, cR v x4), (5, cR v x5), (6, .int (rI x6))] → W p l e (cw_rm v (d + 1) σ0) s m args below meth c H locs cells slots (cw_Z below v σ0 σ' kd (some (cR v r)) args s) (F0 m 11 ls [])) : ∀ (n : Nat) (σ : CS) (x0 x3 x4 x5 x6 x7 : Int), inR x0 → inR x3 → inR x4 → inR x5 → inR x6 → inR x7 → pc_X4_head_36 rec bd k11 n σ x0 x3 x4 x5 x6 x7 = some (σ', kd, r) → ∀ (H : Heap) (locs : List Loc) (cells slots : Nat) (ls : Array Slot), cw_W v s σ0 σ H locs cells slots → cl_has ls 9 [(0, cR v x0), (3, cR v x3), (4, cR v x4), (5, cR v x5), (6, .int (rI x6)), (7, .int (rI x7))] → W p l e (cw_rm v (d + 1) σ0) s m args below meth c H locs cells slots (cw_Z below v σ0 σ' kd (some (cR v r)) args s) (F0 m 36 ls []) := by
  subst hbd
  obtain ⟨hx, hb, hr, hml, hown, hts, hlk, hK⟩ := id B
  intro n
  induction n with
  | zero => intro σ x0 x3 x4 x5 x6 x7 ix0 ix3 ix4 ix5 ix6 ix7 hf; cases hf
  | succ n ih =>
    intro σ x0 x3 x4 x5 x6 x7 ix0 ix3 ix4 ix5 ix6 ix7 hf H locs cells slots ls hw hl
    unfold pc_X4_head_36 at hf
    refine lv_iload hx hb dX4_head_36 (lv_at hl.1 5 rfl) ?_
    refine rn_if_lt (a := x7) (tgt := 73) hx hb ix7 dX4_head_38 (by decide) (fun c1 => ?_) (fun c1 => ?_)
    · replace hf := cc_if_t hf c1
      refine cl_aload_n hx hb dX4_head_73 rfl (lv_at hl.1 1 rfl) ?_
      obtain ⟨z2, ez2, iz2, rz2, hf⟩ := cc_g_s hw hf
      refine cw_get (val := cR v z2) B hw rz2 ⟨by decide, by decide⟩ (by decide) cwi_7 cfl_X4_114 ez2 rfl dX4_head_74 ?_
      refine cl_astore_n (lv' := [(3, cR v z2), (0, cR v x0), (4, cR v x4), (5, cR v x5), (6, .int (rI x6)), (7, .int (rI x7))]) hx hb dX4_head_77 rfl hl (by decide) rfl (fun ls hl => ?_)
      refine lv_goto (tgt := 331) hx hb dX4_head_78 (by decide) ?_
      exact pw_X4_head_331 rfl hR htr hd5 B hnh k11 hk11 σ x0 z2 x4 x5 x6 ix0 iz2 ix4 ix5 ix6 hf _ _ _ _ _ hw (cl_sub hl [1, 0, 2, 3, 4] rfl)
    · replace hf := cc_if_f hf c1
      refine cl_aload_n hx hb dX4_head_41 rfl (lv_at hl.1 0 rfl) ?_
      refine lv_iconst (v := rI 4) hx hb dX4_head_42 rfl ?_
      obtain ⟨qσ3, hf⟩ := cc_t_s hf
      obtain ⟨σ3, kv4, z5, hσ3, hf⟩ := cc_cl_s hf
      obtain ⟨iz5, mσ3⟩ := hR 93 σ [x0, 4] σ3 kv4 z5 hσ3
      have mσ3 : cw_Met l v yX4_spend cX4_spend 3 none d [cR v x0, .int (rI 4)] σ σ3 kv4 none := mσ3 ix0 ⟨by decide, by decide⟩
      refine cw_cv (b := x0) (t := 5) (n := 1) (rest := []) (As := [.int (rI 4)]) B mσ3 qσ3 ⟨by decide, by decide⟩ cgo_yX4_spend cml_X4_95 cin_yX4_spend cse_yX4_spend (by decide +kernel) (by decide) rfl hl.1.1 (Nat.le_of_ble_eq_true rfl) dX4_head_43 rfl hw (fun h0 H locs cells slots hw => ?_) (fun h0 H locs cells slots q ce hw h1 h2 h3 => ?_)
      · rcases hf with ⟨-, hf⟩ | ⟨hk, -⟩
        · skip
          obtain ⟨σ6, z7, eσ6, ez7, iz7, rσ6, hf⟩ := cc_n_s hf
          refine cw_new B hw cwt_4 rfl cwd_4 cnl_X4_75 cni_4 cnz_4 rσ6 eσ6 ez7 dX4_head_46 (fun H hw => ?_)
          refine lv_dup hx hb dX4_head_49 (cR_cat _) ?_
          refine lv_iconst (v := rI 0) hx hb dX4_head_50 rfl ?_
          refine cl_aload_n hx hb dX4_head_51 rfl (lv_at hl.1 1 rfl) ?_
          obtain ⟨z8, ez8, iz8, rz8, hf⟩ := cc_g_s hw hf
          refine cw_get (val := cR v z8) B hw rz8 ⟨by decide, by decide⟩ (by decide) cwi_7 cfl_X4_108 ez8 rfl dX4_head_52 ?_
          refine lv_iload hx hb dX4_head_55 (lv_at hl.1 5 rfl) ?_
          obtain ⟨z9, ez9, iz9, rz9, bz9, hf⟩ := cc_r_s hw hf
          refine cw_aldR B hw rz9 ix7 bz9 ez9 dX4_head_57 ?_
          refine cl_aload hx hb dX4_head_58 (lv_at hl.1 2 rfl) ?_
          refine cl_aload hx hb dX4_head_60 (lv_at hl.1 3 rfl) ?_
          obtain ⟨qσ10, hf⟩ := cc_t_s hf
          obtain ⟨σ10, z12, hσ10, hf⟩ := cc_ci_s hf
          obtain ⟨iz12, mσ10⟩ := hR 77 σ6 [z7, 0, z9, x4, x5] σ10 0 z12 hσ10
          have mσ10 : cw_Met l v yX3_init cX3_init 5 none d [cR v z7, .int (rI 0), cR v z9, cR v x4, cR v x5] σ6 σ10 0 none := mσ10 iz7 ⟨by decide, by decide⟩ iz9 ix4 ix5
          refine cw_ci (b := z7) (n := 4) (rest := [cR v z7]) (As := [.int (rI 0), cR v z9, cR v x4, cR v x5]) B mσ10 qσ10.1 rfl cgo_yX3_init cml_X4_111 cin_yX3_init (by decide +kernel) (by decide) rfl hl.1.1 (cl_cs (cl_1r cl_10) (Nat.le_of_ble_eq_true rfl)) dX4_head_62 rfl hw (fun H locs cells slots hw => ?_)
          refine cl_astore (lv' := [(5, cR v z7), (0, cR v x0), (3, cR v x3), (4, cR v x4), (6, .int (rI x6)), (7, .int (rI x7))]) hx hb dX4_head_65 hl (by decide) rfl (fun ls hl => ?_)
          obtain ⟨z13, ez13, iz13, hf⟩ := cc_ck_s hf
          refine cl_iinc (v := rI z13) (lv' := [(7, .int (rI z13)), (5, cR v z7), (0, cR v x0), (3, cR v x3), (4, cR v x4), (6, .int (rI x6))]) hx hb dX4_head_67 hl (k := 5) rfl (by rw [ez13]; exact rI_add _ _) (by decide) rfl (fun ls hl => ?_)
          refine lv_goto (tgt := 36) hx hb dX4_head_70 (by decide) ?_
          exact ih σ10 x0 x3 x4 z7 x6 z13 ix0 ix3 ix4 iz7 ix6 iz13 hf _ _ _ _ _ hw (cl_sub hl [2, 3, 4, 1, 5, 0] rfl)
        · exact absurd h0 hk
      · rcases hf with ⟨hk, -⟩ | ⟨-, hf⟩
        · exact absurd hk h0
        · cases hf
          exact cw_xout B hnh h0 hw h1 h2 h3

set_option maxHeartbeats 4000000 in
set_option maxRecDepth 100000 in
theorem pw_X4_head_276 {v : cwE} {bd : cBd} {p : Program} {l : Launch} {e : Env} {s : State} {m : MethodId} {args : Array Value} {below : List Frame} {meth : Method} {c : Code} {d : Nat} {rec : Nat → CS → List Int → CO} {σ0 σ' : CS} {kd : Nat} {r : Int} (hbd : bd = cw_bd v) (hR : cw_Rec l v d rec) (htr : l.stackTraces = false) (hd5 : 5 ≤ d) (B : cw_B v RX4 p s m args meth c cX4_head 9 (some (.object "PureHouse$Head"))) (hnh : ∀ x ∈ c.exceptionTable.toList, False) : ∀ (σ : CS) (x3 x4 x5 t0 : Int), inR x3 → inR x4 → inR x5 → inR t0 → pc_X4_head_276 rec bd σ x3 x4 x5 t0 = some (σ', kd, r) → ∀ (H : Heap) (locs : List Loc) (cells slots : Nat) (ls : Array Slot), cw_W v s σ0 σ H locs cells slots → cl_has ls 9 [(3, cR v x3), (4, cR v x4), (5, cR v x5)] → W p l e (cw_rm v (d + 1) σ0) s m args below meth c H locs cells slots (cw_Z below v σ0 σ' kd (some (cR v r)) args s) (F0 m 276 ls [.int (rI t0)]) := by
  subst hbd
  obtain ⟨hx, hb, hr, hml, hown, hts, hlk, hK⟩ := id B
  intro σ x3 x4 x5 t0 ix3 ix4 ix5 it0 hf H locs cells slots ls hw hl
  unfold pc_X4_head_276 at hf
  refine cl_istore (lv' := [(8, .int (rI t0)), (3, cR v x3), (4, cR v x4), (5, cR v x5)]) hx hb dX4_head_276 hl (by decide) rfl (fun ls hl => ?_)
  obtain ⟨σ1, z2, eσ1, ez2, iz2, rσ1, hf⟩ := cc_n_s hf
  refine cw_new B hw cwt_2 rfl cwd_2 cnl_X4_65 cni_2 cnz_2 rσ1 eσ1 ez2 dX4_head_278 (fun H hw => ?_)
  refine lv_dup hx hb dX4_head_281 (cR_cat _) ?_
  refine cl_aload_n hx hb dX4_head_282 rfl (lv_at hl.1 1 rfl) ?_
  refine lv_iload hx hb dX4_head_283 (lv_at hl.1 0 rfl) ?_
  refine cl_aload hx hb dX4_head_285 (lv_at hl.1 2 rfl) ?_
  refine cl_aload hx hb dX4_head_287 (lv_at hl.1 3 rfl) ?_
  obtain ⟨qσ3, hf⟩ := cc_t_s hf
  obtain ⟨σ3, z5, hσ3, hf⟩ := cc_ci_s hf
  obtain ⟨iz5, mσ3⟩ := hR 26 σ1 [z2, x3, t0, x4, x5] σ3 0 z5 hσ3
  have mσ3 : cw_Met l v yX1_init cX1_init 5 none d [cR v z2, cR v x3, .int (rI t0), cR v x4, cR v x5] σ1 σ3 0 none := mσ3 iz2 ix3 it0 ix4 ix5
  refine cw_ci (b := z2) (n := 4) (rest := [cR v z2]) (As := [cR v x3, .int (rI t0), cR v x4, cR v x5]) B mσ3 qσ3.1 rfl cgo_yX1_init cml_X4_146 cin_yX1_init (by decide +kernel) (by decide) rfl hl.1.1 (cl_cs (cl_1r cl_10) (Nat.le_of_ble_eq_true rfl)) dX4_head_289 rfl hw (fun H locs cells slots hw => ?_)
  exact cw_reta B hf hw dX4_head_292

set_option maxHeartbeats 4000000 in
set_option maxRecDepth 100000 in
theorem pw_X4_head_259 {v : cwE} {bd : cBd} {p : Program} {l : Launch} {e : Env} {s : State} {m : MethodId} {args : Array Value} {below : List Frame} {meth : Method} {c : Code} {d : Nat} {rec : Nat → CS → List Int → CO} {σ0 σ' : CS} {kd : Nat} {r : Int} (hbd : bd = cw_bd v) (hR : cw_Rec l v d rec) (htr : l.stackTraces = false) (hd5 : 5 ≤ d) (B : cw_B v RX4 p s m args meth c cX4_head 9 (some (.object "PureHouse$Head"))) (hnh : ∀ x ∈ c.exceptionTable.toList, False) : ∀ (σ : CS) (x3 x4 x5 x7 : Int), inR x3 → inR x4 → inR x5 → inR x7 → pc_X4_head_259 rec bd σ x3 x4 x5 x7 = some (σ', kd, r) → ∀ (H : Heap) (locs : List Loc) (cells slots : Nat) (ls : Array Slot), cw_W v s σ0 σ H locs cells slots → cl_has ls 9 [(3, cR v x3), (4, cR v x4), (5, cR v x5), (7, cR v x7)] → W p l e (cw_rm v (d + 1) σ0) s m args below meth c H locs cells slots (cw_Z below v σ0 σ' kd (some (cR v r)) args s) (F0 m 259 ls []) := by
  subst hbd
  obtain ⟨hx, hb, hr, hml, hown, hts, hlk, hK⟩ := id B
  intro σ x3 x4 x5 x7 ix3 ix4 ix5 ix7 hf H locs cells slots ls hw hl
  unfold pc_X4_head_259 at hf
  refine cl_aload hx hb dX4_head_259 (lv_at hl.1 3 rfl) ?_
  refine cl_ifnonnull (x := x7) (tgt := 271) hx hb dX4_head_261 (by decide) (fun c1 => ?_) (fun c1 => ?_)
  · replace hf := cc_if_t hf c1
    refine cl_aload hx hb dX4_head_271 (lv_at hl.1 3 rfl) ?_
    obtain ⟨z2, ez2, iz2, rz2, hf⟩ := cc_g_s hw hf
    refine cw_get (val := .int (rI z2)) B hw rz2 ⟨by decide, by decide⟩ (by decide) cwi_4 cfl_X4_143 ez2 rfl dX4_head_273 ?_
    exact pw_X4_head_276 rfl hR htr hd5 B hnh σ x3 x4 x5 z2 ix3 ix4 ix5 iz2 hf _ _ _ _ _ hw (cl_sub hl [0, 1, 2] rfl)
  · replace hf := cc_if_f hf c1
    refine cl_aload_n hx hb dX4_head_264 rfl (lv_at hl.1 0 rfl) ?_
    obtain ⟨z3, ez3, iz3, rz3, hf⟩ := cc_g_s hw hf
    refine cw_get (val := .int (rI z3)) B hw rz3 ⟨by decide, by decide⟩ (by decide) cwi_7 cfl_X4_118 ez3 rfl dX4_head_265 ?_
    refine lv_goto (tgt := 276) hx hb dX4_head_268 (by decide) ?_
    exact pw_X4_head_276 rfl hR htr hd5 B hnh σ x3 x4 x5 z3 ix3 ix4 ix5 iz3 hf _ _ _ _ _ hw (cl_sub hl [0, 1, 2] rfl)

set_option maxHeartbeats 4000000 in
set_option maxRecDepth 100000 in
theorem pw_X4_head_227 {v : cwE} {bd : cBd} {p : Program} {l : Launch} {e : Env} {s : State} {m : MethodId} {args : Array Value} {below : List Frame} {meth : Method} {c : Code} {d : Nat} {rec : Nat → CS → List Int → CO} {σ0 σ' : CS} {kd : Nat} {r : Int} (hbd : bd = cw_bd v) (hR : cw_Rec l v d rec) (htr : l.stackTraces = false) (hd5 : 5 ≤ d) (B : cw_B v RX4 p s m args meth c cX4_head 9 (some (.object "PureHouse$Head"))) (hnh : ∀ x ∈ c.exceptionTable.toList, False) (k11 : CS → Int → Int → Int → Int → Int → CO) (hk11 : ∀ (σ : CS) (x0 x3 x4 x5 x6 : Int), inR x0 → inR x3 → inR x4 → inR x5 → inR x6 → k11 σ x0 x3 x4 x5 x6 = some (σ', kd, r) → ∀ (H : Heap) (locs : List Loc) (cells slots : Nat) (ls : Array Slot), cw_W v s σ0 σ H locs cells slots → cl_has ls 9 [(0, cR v x0), (3, cR v x3), (4, cR v x4), (5, cR v x5), (6, .int (rI x6))] → W p l e (cw_rm v (d + 1) σ0) s m args below meth c H locs cells slots (cw_Z below v σ0 σ' kd (some (cR v r)) args s) (F0 m 11 ls [])) : ∀ (σ : CS) (x0 x3 x4 x5 x6 : Int), inR x0 → inR x3 → inR x4 → inR x5 → inR x6 → pc_X4_head_227 rec bd k11 σ x0 x3 x4 x5 x6 = some (σ', kd, r) → ∀ (H : Heap) (locs : List Loc) (cells slots : Nat) (ls : Array Slot), cw_W v s σ0 σ H locs cells slots → cl_has ls 9 [(0, cR v x0), (3, cR v x3), (4, cR v x4), (5, cR v x5), (6, .int (rI x6))] → W p l e (cw_rm v (d + 1) σ0) s m args below meth c H locs cells slots (cw_Z below v σ0 σ' kd (some (cR v r)) args s) (F0 m 227 ls []) := by
  subst hbd
  obtain ⟨hx, hb, hr, hml, hown, hts, hlk, hK⟩ := id B
  intro σ x0 x3 x4 x5 x6 ix0 ix3 ix4 ix5 ix6 hf H locs cells slots ls hw hl
  unfold pc_X4_head_227 at hf
  refine cl_aload_n hx hb dX4_head_227 rfl (lv_at hl.1 1 rfl) ?_
  obtain ⟨z1, ez1, iz1, rz1, hf⟩ := cc_g_s hw hf
  refine cw_get (val := .int (rI z1)) B hw rz1 ⟨by decide, by decide⟩ (by decide) cwi_7 cfl_X4_103 ez1 rfl dX4_head_228 ?_
  refine lv_iconst (v := rI 3) hx hb dX4_head_231 rfl ?_
  refine rn_icmp_ne (a := z1) (b := 3) (tgt := 314) hx hb iz1 ⟨by decide, by decide⟩ dX4_head_232 (by decide) (fun c2 => ?_) (fun c2 => ?_)
  · replace hf := cc_if_t hf c2
    obtain ⟨σ3, z4, eσ3, ez4, iz4, rσ3, hf⟩ := cc_n_s hf
    refine cw_new B hw cwt_2 rfl cwd_2 cnl_X4_65 cni_2 cnz_2 rσ3 eσ3 ez4 dX4_head_314 (fun H hw => ?_)
    refine lv_dup hx hb dX4_head_317 (cR_cat _) ?_
    refine cl_aload_n hx hb dX4_head_318 rfl (lv_at hl.1 1 rfl) ?_
    refine cl_aload_n hx hb dX4_head_319 rfl (lv_at hl.1 1 rfl) ?_
    obtain ⟨z5, ez5, iz5, rz5, hf⟩ := cc_g_s hw hf
    refine cw_get (val := .int (rI z5)) B hw rz5 ⟨by decide, by decide⟩ (by decide) cwi_7 cfl_X4_118 ez5 rfl dX4_head_320 ?_
    refine cl_aload hx hb dX4_head_323 (lv_at hl.1 2 rfl) ?_
    refine cl_aload hx hb dX4_head_325 (lv_at hl.1 3 rfl) ?_
    obtain ⟨qσ6, hf⟩ := cc_t_s hf
    obtain ⟨σ6, z8, hσ6, hf⟩ := cc_ci_s hf
    obtain ⟨iz8, mσ6⟩ := hR 26 σ3 [z4, x3, z5, x4, x5] σ6 0 z8 hσ6
    have mσ6 : cw_Met l v yX1_init cX1_init 5 none d [cR v z4, cR v x3, .int (rI z5), cR v x4, cR v x5] σ3 σ6 0 none := mσ6 iz4 ix3 iz5 ix4 ix5
    refine cw_ci (b := z4) (n := 4) (rest := [cR v z4]) (As := [cR v x3, .int (rI z5), cR v x4, cR v x5]) B mσ6 qσ6.1 rfl cgo_yX1_init cml_X4_146 cin_yX1_init (by decide +kernel) (by decide) rfl hl.1.1 (cl_cs (cl_1r cl_10) (Nat.le_of_ble_eq_true rfl)) dX4_head_327 rfl hw (fun H locs cells slots hw => ?_)
    exact cw_reta B hf hw dX4_head_330
  · replace hf := cc_if_f hf c2
    refine cl_aload_n hx hb dX4_head_235 rfl (lv_at hl.1 1 rfl) ?_
    obtain ⟨z9, ez9, iz9, rz9, hf⟩ := cc_g_s hw hf
    refine cw_get (val := .int (rI z9)) B hw rz9 ⟨by decide, by decide⟩ (by decide) cwi_7 cfl_X4_118 ez9 rfl dX4_head_236 ?_
    refine cl_aload hx hb dX4_head_239 (lv_at hl.1 2 rfl) ?_
    obtain ⟨σ10, kv11, z12, hσ10, hf⟩ := cc_cl_s hf
    obtain ⟨iz12, mσ10⟩ := hR 76 σ [z9, x4] σ10 kv11 z12 hσ10
    have mσ10 : cw_Met l v yX3_find cX3_find 3 (some (.object "PureHouse$Link")) d [.int (rI z9), cR v x4] σ σ10 kv11 (some (cR v z12)) := mσ10 iz9 ix4
    refine cw_cs (n := 2) (rest := []) (As := [.int (rI z9), cR v x4]) B mσ10 cgo_yX3_find cml_X4_139 cst_yX3_find (by decide +kernel) (by decide) rfl hl.1.1 (Nat.le_of_ble_eq_true rfl) dX4_head_241 rfl hw (fun h0 H locs cells slots hw => ?_) (fun h0 H locs cells slots q ce hw h1 h2 h3 => ?_)
    · rcases hf with ⟨-, hf⟩ | ⟨hk, -⟩
      · skip
        refine cl_astore (lv' := [(7, cR v z12), (0, cR v x0), (3, cR v x3), (4, cR v x4), (5, cR v x5), (6, .int (rI x6))]) hx hb dX4_head_244 hl (by decide) rfl (fun ls hl => ?_)
        refine cl_aload hx hb dX4_head_246 (lv_at hl.1 0 rfl) ?_
        refine cl_ifnull (x := z12) (tgt := 259) hx hb dX4_head_248 (by decide) (fun c13 => ?_) (fun c13 => ?_)
        · replace hf := cc_if_t hf c13
          exact pw_X4_head_259 rfl hR htr hd5 B hnh σ10 x3 x4 x5 z12 ix3 ix4 ix5 iz12 hf _ _ _ _ _ hw (cl_sub hl [2, 3, 4, 0] rfl)
        · replace hf := cc_if_f hf c13
          refine cl_aload hx hb dX4_head_251 (lv_at hl.1 0 rfl) ?_
          obtain ⟨z14, ez14, iz14, rz14, hf⟩ := cc_g_s hw hf
          refine cw_get (val := cR v z14) B hw rz14 ⟨by decide, by decide⟩ (by decide) cwi_4 cfl_X4_124 ez14 rfl dX4_head_253 ?_
          refine cl_ifnonnull (x := z14) (tgt := 293) hx hb dX4_head_256 (by decide) (fun c15 => ?_) (fun c15 => ?_)
          · replace hf := cc_if_t hf c15
            refine cl_aload_n hx hb dX4_head_293 rfl (lv_at hl.1 1 rfl) ?_
            refine lv_iconst (v := rI 5) hx hb dX4_head_294 rfl ?_
            obtain ⟨qσ16, hf⟩ := cc_t_s hf
            obtain ⟨σ16, kv17, z18, hσ16, hf⟩ := cc_cl_s hf
            obtain ⟨iz18, mσ16⟩ := hR 93 σ10 [x0, 5] σ16 kv17 z18 hσ16
            have mσ16 : cw_Met l v yX4_spend cX4_spend 3 none d [cR v x0, .int (rI 5)] σ10 σ16 kv17 none := mσ16 ix0 ⟨by decide, by decide⟩
            refine cw_cv (b := x0) (t := 5) (n := 1) (rest := []) (As := [.int (rI 5)]) B mσ16 qσ16 ⟨by decide, by decide⟩ cgo_yX4_spend cml_X4_95 cin_yX4_spend cse_yX4_spend (by decide +kernel) (by decide) rfl hl.1.1 (Nat.le_of_ble_eq_true rfl) dX4_head_295 rfl hw (fun h0 H locs cells slots hw => ?_) (fun h0 H locs cells slots q ce hw h1 h2 h3 => ?_)
            · rcases hf with ⟨-, hf⟩ | ⟨hk, -⟩
              · skip
                refine cl_aload hx hb dX4_head_298 (lv_at hl.1 0 rfl) ?_
                obtain ⟨z19, ez19, iz19, rz19, hf⟩ := cc_g_s hw hf
                refine cw_get (val := cR v z19) B hw rz19 ⟨by decide, by decide⟩ (by decide) cwi_4 cfl_X4_124 ez19 rfl dX4_head_300 ?_
                refine cl_astore_n (lv' := [(3, cR v z19), (7, cR v z12), (0, cR v x0), (4, cR v x4), (5, cR v x5), (6, .int (rI x6))]) hx hb dX4_head_303 rfl hl (by decide) rfl (fun ls hl => ?_)
                refine cl_aload hx hb dX4_head_304 (lv_at hl.1 1 rfl) ?_
                obtain ⟨z20, ez20, iz20, rz20, hf⟩ := cc_g_s hw hf
                refine cw_get (val := cR v z20) B hw rz20 ⟨by decide, by decide⟩ (by decide) cwi_4 cfl_X4_127 ez20 rfl dX4_head_306 ?_
                refine cl_astore (lv' := [(4, cR v z20), (3, cR v z19), (7, cR v z12), (0, cR v x0), (5, cR v x5), (6, .int (rI x6))]) hx hb dX4_head_309 hl (by decide) rfl (fun ls hl => ?_)
                refine lv_goto (tgt := 331) hx hb dX4_head_311 (by decide) ?_
                exact pw_X4_head_331 rfl hR htr hd5 B hnh k11 hk11 σ16 x0 z19 z20 x5 x6 ix0 iz19 iz20 ix5 ix6 hf _ _ _ _ _ hw (cl_sub hl [3, 1, 0, 4, 5] rfl)
              · exact absurd h0 hk
            · rcases hf with ⟨hk, -⟩ | ⟨-, hf⟩
              · exact absurd hk h0
              · cases hf
                exact cw_xout B hnh h0 hw h1 h2 h3
          · replace hf := cc_if_f hf c15
            exact pw_X4_head_259 rfl hR htr hd5 B hnh σ10 x3 x4 x5 z12 ix3 ix4 ix5 iz12 hf _ _ _ _ _ hw (cl_sub hl [2, 3, 4, 0] rfl)
      · exact absurd h0 hk
    · rcases hf with ⟨hk, -⟩ | ⟨-, hf⟩
      · exact absurd hk h0
      · cases hf
        exact cw_xout B hnh h0 hw h1 h2 h3

set_option maxHeartbeats 4000000 in
set_option maxRecDepth 100000 in
theorem pw_X4_head_182 {v : cwE} {bd : cBd} {p : Program} {l : Launch} {e : Env} {s : State} {m : MethodId} {args : Array Value} {below : List Frame} {meth : Method} {c : Code} {d : Nat} {rec : Nat → CS → List Int → CO} {σ0 σ' : CS} {kd : Nat} {r : Int} (hbd : bd = cw_bd v) (hR : cw_Rec l v d rec) (htr : l.stackTraces = false) (hd5 : 5 ≤ d) (B : cw_B v RX4 p s m args meth c cX4_head 9 (some (.object "PureHouse$Head"))) (hnh : ∀ x ∈ c.exceptionTable.toList, False) (k11 : CS → Int → Int → Int → Int → Int → CO) (hk11 : ∀ (σ : CS) (x0 x3 x4 x5 x6 : Int), inR x0 → inR x3 → inR x4 → inR x5 → inR x6 → k11 σ x0 x3 x4 x5 x6 = some (σ', kd, r) → ∀ (H : Heap) (locs : List Loc) (cells slots : Nat) (ls : Array Slot), cw_W v s σ0 σ H locs cells slots → cl_has ls 9 [(0, cR v x0), (3, cR v x3), (4, cR v x4), (5, cR v x5), (6, .int (rI x6))] → W p l e (cw_rm v (d + 1) σ0) s m args below meth c H locs cells slots (cw_Z below v σ0 σ' kd (some (cR v r)) args s) (F0 m 11 ls [])) : ∀ (σ : CS) (x0 x3 x4 x5 x6 : Int), inR x0 → inR x3 → inR x4 → inR x5 → inR x6 → pc_X4_head_182 rec bd k11 σ x0 x3 x4 x5 x6 = some (σ', kd, r) → ∀ (H : Heap) (locs : List Loc) (cells slots : Nat) (ls : Array Slot), cw_W v s σ0 σ H locs cells slots → cl_has ls 9 [(0, cR v x0), (3, cR v x3), (4, cR v x4), (5, cR v x5), (6, .int (rI x6))] → W p l e (cw_rm v (d + 1) σ0) s m args below meth c H locs cells slots (cw_Z below v σ0 σ' kd (some (cR v r)) args s) (F0 m 182 ls []) := by
  subst hbd
  obtain ⟨hx, hb, hr, hml, hown, hts, hlk, hK⟩ := id B
  intro σ x0 x3 x4 x5 x6 ix0 ix3 ix4 ix5 ix6 hf H locs cells slots ls hw hl
  unfold pc_X4_head_182 at hf
  refine cl_aload_n hx hb dX4_head_182 rfl (lv_at hl.1 1 rfl) ?_
  obtain ⟨z1, ez1, iz1, rz1, hf⟩ := cc_g_s hw hf
  refine cw_get (val := .int (rI z1)) B hw rz1 ⟨by decide, by decide⟩ (by decide) cwi_7 cfl_X4_103 ez1 rfl dX4_head_183 ?_
  refine lv_iconst (v := rI 2) hx hb dX4_head_186 rfl ?_
  refine rn_icmp_ne (a := z1) (b := 2) (tgt := 227) hx hb iz1 ⟨by decide, by decide⟩ dX4_head_187 (by decide) (fun c2 => ?_) (fun c2 => ?_)
  · replace hf := cc_if_t hf c2
    exact pw_X4_head_227 rfl hR htr hd5 B hnh k11 hk11 σ x0 x3 x4 x5 x6 ix0 ix3 ix4 ix5 ix6 hf _ _ _ _ _ hw (cl_sub hl [0, 1, 2, 3, 4] rfl)
  · replace hf := cc_if_f hf c2
    refine cl_aload_n hx hb dX4_head_190 rfl (lv_at hl.1 0 rfl) ?_
    obtain ⟨z3, ez3, iz3, rz3, hf⟩ := cc_g_s hw hf
    refine cw_get (val := cR v z3) B hw rz3 ⟨by decide, by decide⟩ (by decide) cwi_5 cfl_X4_32 ez3 rfl dX4_head_191 ?_
    refine cl_aload_n hx hb dX4_head_194 rfl (lv_at hl.1 1 rfl) ?_
    obtain ⟨z4, ez4, iz4, rz4, hf⟩ := cc_g_s hw hf
    refine cw_get (val := .int (rI z4)) B hw rz4 ⟨by decide, by decide⟩ (by decide) cwi_7 cfl_X4_118 ez4 rfl dX4_head_195 ?_
    obtain ⟨qσ5, hf⟩ := cc_t_s hf
    obtain ⟨σ5, kv6, z7, hσ5, hf⟩ := cc_cl_s hf
    obtain ⟨iz7, mσ5⟩ := hR 24 σ [z3, z4] σ5 kv6 z7 hσ5
    have mσ5 : cw_Met l v yX0_valueOf cX0_valueOf 2 (some (.object "PureHouse$Node")) d [cR v z3, .int (rI z4)] σ σ5 kv6 (some (cR v z7)) := mσ5 iz3 iz4
    refine cw_cv (b := z3) (t := 1) (n := 1) (rest := []) (As := [.int (rI z4)]) B mσ5 qσ5 ⟨by decide, by decide⟩ cgo_yX0_valueOf cml_X4_133 cin_yX0_valueOf cse_yX0_valueOf (by decide +kernel) (by decide) rfl hl.1.1 (Nat.le_of_ble_eq_true rfl) dX4_head_198 rfl hw (fun h0 H locs cells slots hw => ?_) (fun h0 H locs cells slots q ce hw h1 h2 h3 => ?_)
    · rcases hf with ⟨-, hf⟩ | ⟨hk, -⟩
      · skip
        refine cl_ifnull (x := z7) (tgt := 227) hx hb dX4_head_201 (by decide) (fun c8 => ?_) (fun c8 => ?_)
        · replace hf := cc_if_t hf c8
          exact pw_X4_head_227 rfl hR htr hd5 B hnh k11 hk11 σ5 x0 x3 x4 x5 x6 ix0 ix3 ix4 ix5 ix6 hf _ _ _ _ _ hw (cl_sub hl [0, 1, 2, 3, 4] rfl)
        · replace hf := cc_if_f hf c8
          refine cl_aload_n hx hb dX4_head_204 rfl (lv_at hl.1 0 rfl) ?_
          refine lv_iconst (v := rI 2) hx hb dX4_head_205 rfl ?_
          obtain ⟨qσ9, hf⟩ := cc_t_s hf
          obtain ⟨σ9, kv10, z11, hσ9, hf⟩ := cc_cl_s hf
          obtain ⟨iz11, mσ9⟩ := hR 93 σ5 [x0, 2] σ9 kv10 z11 hσ9
          have mσ9 : cw_Met l v yX4_spend cX4_spend 3 none d [cR v x0, .int (rI 2)] σ5 σ9 kv10 none := mσ9 ix0 ⟨by decide, by decide⟩
          refine cw_cv (b := x0) (t := 5) (n := 1) (rest := []) (As := [.int (rI 2)]) B mσ9 qσ9 ⟨by decide, by decide⟩ cgo_yX4_spend cml_X4_95 cin_yX4_spend cse_yX4_spend (by decide +kernel) (by decide) rfl hl.1.1 (Nat.le_of_ble_eq_true rfl) dX4_head_206 rfl hw (fun h0 H locs cells slots hw => ?_) (fun h0 H locs cells slots q ce hw h1 h2 h3 => ?_)
          · rcases hf with ⟨-, hf⟩ | ⟨hk, -⟩
            · skip
              refine cl_aload_n hx hb dX4_head_209 rfl (lv_at hl.1 0 rfl) ?_
              obtain ⟨z12, ez12, iz12, rz12, hf⟩ := cc_g_s hw hf
              refine cw_get (val := cR v z12) B hw rz12 ⟨by decide, by decide⟩ (by decide) cwi_5 cfl_X4_32 ez12 rfl dX4_head_210 ?_
              refine cl_aload_n hx hb dX4_head_213 rfl (lv_at hl.1 1 rfl) ?_
              obtain ⟨z13, ez13, iz13, rz13, hf⟩ := cc_g_s hw hf
              refine cw_get (val := .int (rI z13)) B hw rz13 ⟨by decide, by decide⟩ (by decide) cwi_7 cfl_X4_118 ez13 rfl dX4_head_214 ?_
              obtain ⟨qσ14, hf⟩ := cc_t_s hf
              obtain ⟨σ14, kv15, z16, hσ14, hf⟩ := cc_cl_s hf
              obtain ⟨iz16, mσ14⟩ := hR 24 σ9 [z12, z13] σ14 kv15 z16 hσ14
              have mσ14 : cw_Met l v yX0_valueOf cX0_valueOf 2 (some (.object "PureHouse$Node")) d [cR v z12, .int (rI z13)] σ9 σ14 kv15 (some (cR v z16)) := mσ14 iz12 iz13
              refine cw_cv (b := z12) (t := 1) (n := 1) (rest := []) (As := [.int (rI z13)]) B mσ14 qσ14 ⟨by decide, by decide⟩ cgo_yX0_valueOf cml_X4_133 cin_yX0_valueOf cse_yX0_valueOf (by decide +kernel) (by decide) rfl hl.1.1 (Nat.le_of_ble_eq_true rfl) dX4_head_217 rfl hw (fun h0 H locs cells slots hw => ?_) (fun h0 H locs cells slots q ce hw h1 h2 h3 => ?_)
              · rcases hf with ⟨-, hf⟩ | ⟨hk, -⟩
                · skip
                  refine cl_astore_n (lv' := [(3, cR v z16), (0, cR v x0), (4, cR v x4), (5, cR v x5), (6, .int (rI x6))]) hx hb dX4_head_220 rfl hl (by decide) rfl (fun ls hl => ?_)
                  refine cl_null (v := v) hx hb dX4_head_221 ?_
                  refine cl_astore (lv' := [(4, cR v (-1)), (3, cR v z16), (0, cR v x0), (5, cR v x5), (6, .int (rI x6))]) hx hb dX4_head_222 hl (by decide) rfl (fun ls hl => ?_)
                  refine lv_goto (tgt := 331) hx hb dX4_head_224 (by decide) ?_
                  exact pw_X4_head_331 rfl hR htr hd5 B hnh k11 hk11 σ14 x0 z16 (-1) x5 x6 ix0 iz16 ⟨by decide, by decide⟩ ix5 ix6 hf _ _ _ _ _ hw (cl_sub hl [2, 1, 0, 3, 4] rfl)
                · exact absurd h0 hk
              · rcases hf with ⟨hk, -⟩ | ⟨-, hf⟩
                · exact absurd hk h0
                · cases hf
                  exact cw_xout B hnh h0 hw h1 h2 h3
            · exact absurd h0 hk
          · rcases hf with ⟨hk, -⟩ | ⟨-, hf⟩
            · exact absurd hk h0
            · cases hf
              exact cw_xout B hnh h0 hw h1 h2 h3
      · exact absurd h0 hk
    · rcases hf with ⟨hk, -⟩ | ⟨-, hf⟩
      · exact absurd hk h0
      · cases hf
        exact cw_xout B hnh h0 hw h1 h2 h3

set_option maxHeartbeats 4000000 in
set_option maxRecDepth 100000 in
theorem pw_X4_head_11 {v : cwE} {bd : cBd} {p : Program} {l : Launch} {e : Env} {s : State} {m : MethodId} {args : Array Value} {below : List Frame} {meth : Method} {c : Code} {d : Nat} {rec : Nat → CS → List Int → CO} {σ0 σ' : CS} {kd : Nat} {r : Int} (hbd : bd = cw_bd v) (hR : cw_Rec l v d rec) (htr : l.stackTraces = false) (hd5 : 5 ≤ d) (B : cw_B v RX4 p s m args meth c cX4_head 9 (some (.object "PureHouse$Head"))) (hnh : ∀ x ∈ c.exceptionTable.toList, False) : ∀ (n : Nat) (σ : CS) (x0 x3 x4 x5 x6 : Int), inR x0 → inR x3 → inR x4 → inR x5 → inR x6 → pc_X4_head_11 rec bd n σ x0 x3 x4 x5 x6 = some (σ', kd, r) → ∀ (H : Heap) (locs : List Loc) (cells slots : Nat) (ls : Array Slot), cw_W v s σ0 σ H locs cells slots → cl_has ls 9 [(0, cR v x0), (3, cR v x3), (4, cR v x4), (5, cR v x5), (6, .int (rI x6))] → W p l e (cw_rm v (d + 1) σ0) s m args below meth c H locs cells slots (cw_Z below v σ0 σ' kd (some (cR v r)) args s) (F0 m 11 ls []) := by
  subst hbd
  obtain ⟨hx, hb, hr, hml, hown, hts, hlk, hK⟩ := id B
  intro n
  induction n with
  | zero => intro σ x0 x3 x4 x5 x6 ix0 ix3 ix4 ix5 ix6 hf; cases hf
  | succ n ih =>
    intro σ x0 x3 x4 x5 x6 ix0 ix3 ix4 ix5 ix6 hf H locs cells slots ls hw hl
    unfold pc_X4_head_11 at hf
    refine lv_iload hx hb dX4_head_11 (lv_at hl.1 4 rfl) ?_
    refine lv_ldc (v := rI 1000000) hx hb hown (hts _ clc_X4_102) dX4_head_13 ?_
    refine rn_icmp_ge (a := x6) (b := 1000000) (tgt := 337) hx hb ix6 ⟨by decide, by decide⟩ dX4_head_15 (by decide) (fun c1 => ?_) (fun c1 => ?_)
    · replace hf := cc_if_t hf c1
      obtain ⟨σ2, z3, eσ2, ez3, iz3, rσ2, hf⟩ := cc_n_s hf
      refine cw_new B hw cwt_2 rfl cwd_2 cnl_X4_65 cni_2 cnz_2 rσ2 eσ2 ez3 dX4_head_337 (fun H hw => ?_)
      refine lv_dup hx hb dX4_head_340 (cR_cat _) ?_
      refine cl_aload_n hx hb dX4_head_341 rfl (lv_at hl.1 1 rfl) ?_
      refine cl_aload_n hx hb dX4_head_342 rfl (lv_at hl.1 1 rfl) ?_
      obtain ⟨z4, ez4, iz4, rz4, hf⟩ := cc_g_s hw hf
      refine cw_get (val := .int (rI z4)) B hw rz4 ⟨by decide, by decide⟩ (by decide) cwi_7 cfl_X4_118 ez4 rfl dX4_head_343 ?_
      refine cl_aload hx hb dX4_head_346 (lv_at hl.1 2 rfl) ?_
      refine cl_aload hx hb dX4_head_348 (lv_at hl.1 3 rfl) ?_
      obtain ⟨qσ5, hf⟩ := cc_t_s hf
      obtain ⟨σ5, z7, hσ5, hf⟩ := cc_ci_s hf
      obtain ⟨iz7, mσ5⟩ := hR 26 σ2 [z3, x3, z4, x4, x5] σ5 0 z7 hσ5
      have mσ5 : cw_Met l v yX1_init cX1_init 5 none d [cR v z3, cR v x3, .int (rI z4), cR v x4, cR v x5] σ2 σ5 0 none := mσ5 iz3 ix3 iz4 ix4 ix5
      refine cw_ci (b := z3) (n := 4) (rest := [cR v z3]) (As := [cR v x3, .int (rI z4), cR v x4, cR v x5]) B mσ5 qσ5.1 rfl cgo_yX1_init cml_X4_146 cin_yX1_init (by decide +kernel) (by decide) rfl hl.1.1 (cl_cs (cl_1r cl_10) (Nat.le_of_ble_eq_true rfl)) dX4_head_350 rfl hw (fun H locs cells slots hw => ?_)
      exact cw_reta B hf hw dX4_head_353
    · replace hf := cc_if_f hf c1
      refine cl_aload_n hx hb dX4_head_18 rfl (lv_at hl.1 1 rfl) ?_
      obtain ⟨z8, ez8, iz8, rz8, hf⟩ := cc_g_s hw hf
      refine cw_get (val := .int (rI z8)) B hw rz8 ⟨by decide, by decide⟩ (by decide) cwi_7 cfl_X4_103 ez8 rfl dX4_head_19 ?_
      refine lv_bipush (v := rI 7) hx hb dX4_head_22 (by decide +kernel) ?_
      refine rn_icmp_ne (a := z8) (b := 7) (tgt := 81) hx hb iz8 ⟨by decide, by decide⟩ dX4_head_24 (by decide) (fun c9 => ?_) (fun c9 => ?_)
      · replace hf := cc_if_t hf c9
        refine cl_aload_n hx hb dX4_head_81 rfl (lv_at hl.1 1 rfl) ?_
        obtain ⟨z10, ez10, iz10, rz10, hf⟩ := cc_g_s hw hf
        refine cw_get (val := .int (rI z10)) B hw rz10 ⟨by decide, by decide⟩ (by decide) cwi_7 cfl_X4_103 ez10 rfl dX4_head_82 ?_
        refine lv_bipush (v := rI 6) hx hb dX4_head_85 (by decide +kernel) ?_
        refine rn_icmp_ne (a := z10) (b := 6) (tgt := 124) hx hb iz10 ⟨by decide, by decide⟩ dX4_head_87 (by decide) (fun c11 => ?_) (fun c11 => ?_)
        · replace hf := cc_if_t hf c11
          refine cl_aload_n hx hb dX4_head_124 rfl (lv_at hl.1 1 rfl) ?_
          obtain ⟨z12, ez12, iz12, rz12, hf⟩ := cc_g_s hw hf
          refine cw_get (val := .int (rI z12)) B hw rz12 ⟨by decide, by decide⟩ (by decide) cwi_7 cfl_X4_103 ez12 rfl dX4_head_125 ?_
          refine lv_iconst (v := rI 4) hx hb dX4_head_128 rfl ?_
          refine rn_icmp_ne (a := z12) (b := 4) (tgt := 182) hx hb iz12 ⟨by decide, by decide⟩ dX4_head_129 (by decide) (fun c13 => ?_) (fun c13 => ?_)
          · replace hf := cc_if_t hf c13
            exact pw_X4_head_182 rfl hR htr hd5 B hnh (pc_X4_head_11 rec (cw_bd v) n) ih σ x0 x3 x4 x5 x6 ix0 ix3 ix4 ix5 ix6 hf _ _ _ _ _ hw (cl_sub hl [0, 1, 2, 3, 4] rfl)
          · replace hf := cc_if_f hf c13
            refine cl_aload hx hb dX4_head_132 (lv_at hl.1 3 rfl) ?_
            refine cl_ifnull (x := x5) (tgt := 182) hx hb dX4_head_134 (by decide) (fun c14 => ?_) (fun c14 => ?_)
            · replace hf := cc_if_t hf c14
              exact pw_X4_head_182 rfl hR htr hd5 B hnh (pc_X4_head_11 rec (cw_bd v) n) ih σ x0 x3 x4 x5 x6 ix0 ix3 ix4 ix5 ix6 hf _ _ _ _ _ hw (cl_sub hl [0, 1, 2, 3, 4] rfl)
            · replace hf := cc_if_f hf c14
              refine cl_aload_n hx hb dX4_head_137 rfl (lv_at hl.1 0 rfl) ?_
              refine lv_iconst (v := rI 1) hx hb dX4_head_138 rfl ?_
              obtain ⟨qσ15, hf⟩ := cc_t_s hf
              obtain ⟨σ15, kv16, z17, hσ15, hf⟩ := cc_cl_s hf
              obtain ⟨iz17, mσ15⟩ := hR 93 σ [x0, 1] σ15 kv16 z17 hσ15
              have mσ15 : cw_Met l v yX4_spend cX4_spend 3 none d [cR v x0, .int (rI 1)] σ σ15 kv16 none := mσ15 ix0 ⟨by decide, by decide⟩
              refine cw_cv (b := x0) (t := 5) (n := 1) (rest := []) (As := [.int (rI 1)]) B mσ15 qσ15 ⟨by decide, by decide⟩ cgo_yX4_spend cml_X4_95 cin_yX4_spend cse_yX4_spend (by decide +kernel) (by decide) rfl hl.1.1 (Nat.le_of_ble_eq_true rfl) dX4_head_139 rfl hw (fun h0 H locs cells slots hw => ?_) (fun h0 H locs cells slots q ce hw h1 h2 h3 => ?_)
              · rcases hf with ⟨-, hf⟩ | ⟨hk, -⟩
                · skip
                  obtain ⟨σ18, z19, eσ18, ez19, iz19, rσ18, hf⟩ := cc_n_s hf
                  refine cw_new B hw cwt_4 rfl cwd_4 cnl_X4_75 cni_4 cnz_4 rσ18 eσ18 ez19 dX4_head_142 (fun H hw => ?_)
                  refine lv_dup hx hb dX4_head_145 (cR_cat _) ?_
                  refine cl_aload_n hx hb dX4_head_146 rfl (lv_at hl.1 1 rfl) ?_
                  obtain ⟨z20, ez20, iz20, rz20, hf⟩ := cc_g_s hw hf
                  refine cw_get (val := .int (rI z20)) B hw rz20 ⟨by decide, by decide⟩ (by decide) cwi_7 cfl_X4_118 ez20 rfl dX4_head_147 ?_
                  refine cl_aload hx hb dX4_head_150 (lv_at hl.1 3 rfl) ?_
                  obtain ⟨z21, ez21, iz21, rz21, hf⟩ := cc_g_s hw hf
                  refine cw_get (val := cR v z21) B hw rz21 ⟨by decide, by decide⟩ (by decide) cwi_4 cfl_X4_124 ez21 rfl dX4_head_152 ?_
                  refine cl_aload hx hb dX4_head_155 (lv_at hl.1 3 rfl) ?_
                  obtain ⟨z22, ez22, iz22, rz22, hf⟩ := cc_g_s hw hf
                  refine cw_get (val := cR v z22) B hw rz22 ⟨by decide, by decide⟩ (by decide) cwi_4 cfl_X4_127 ez22 rfl dX4_head_157 ?_
                  refine cl_aload hx hb dX4_head_160 (lv_at hl.1 2 rfl) ?_
                  obtain ⟨qσ23, hf⟩ := cc_t_s hf
                  obtain ⟨σ23, z25, hσ23, hf⟩ := cc_ci_s hf
                  obtain ⟨iz25, mσ23⟩ := hR 77 σ18 [z19, z20, z21, z22, x4] σ23 0 z25 hσ23
                  have mσ23 : cw_Met l v yX3_init cX3_init 5 none d [cR v z19, .int (rI z20), cR v z21, cR v z22, cR v x4] σ18 σ23 0 none := mσ23 iz19 iz20 iz21 iz22 ix4
                  refine cw_ci (b := z19) (n := 4) (rest := [cR v z19]) (As := [.int (rI z20), cR v z21, cR v z22, cR v x4]) B mσ23 qσ23.1 rfl cgo_yX3_init cml_X4_111 cin_yX3_init (by decide +kernel) (by decide) rfl hl.1.1 (cl_cs (cl_1r cl_10) (Nat.le_of_ble_eq_true rfl)) dX4_head_162 rfl hw (fun H locs cells slots hw => ?_)
                  refine cl_astore (lv' := [(4, cR v z19), (0, cR v x0), (3, cR v x3), (5, cR v x5), (6, .int (rI x6))]) hx hb dX4_head_165 hl (by decide) rfl (fun ls hl => ?_)
                  refine cl_aload hx hb dX4_head_167 (lv_at hl.1 3 rfl) ?_
                  obtain ⟨z26, ez26, iz26, rz26, hf⟩ := cc_g_s hw hf
                  refine cw_get (val := cR v z26) B hw rz26 ⟨by decide, by decide⟩ (by decide) cwi_4 cfl_X4_130 ez26 rfl dX4_head_169 ?_
                  refine cl_astore (lv' := [(5, cR v z26), (4, cR v z19), (0, cR v x0), (3, cR v x3), (6, .int (rI x6))]) hx hb dX4_head_172 hl (by decide) rfl (fun ls hl => ?_)
                  refine cl_aload_n hx hb dX4_head_174 rfl (lv_at hl.1 3 rfl) ?_
                  obtain ⟨z27, ez27, iz27, rz27, hf⟩ := cc_g_s hw hf
                  refine cw_get (val := cR v z27) B hw rz27 ⟨by decide, by decide⟩ (by decide) cwi_7 cfl_X4_121 ez27 rfl dX4_head_175 ?_
                  refine cl_astore_n (lv' := [(3, cR v z27), (5, cR v z26), (4, cR v z19), (0, cR v x0), (6, .int (rI x6))]) hx hb dX4_head_178 rfl hl (by decide) rfl (fun ls hl => ?_)
                  refine lv_goto (tgt := 331) hx hb dX4_head_179 (by decide) ?_
                  exact pw_X4_head_331 rfl hR htr hd5 B hnh (pc_X4_head_11 rec (cw_bd v) n) ih σ23 x0 z27 z19 z26 x6 ix0 iz27 iz19 iz26 ix6 hf _ _ _ _ _ hw (cl_sub hl [3, 0, 2, 1, 4] rfl)
                · exact absurd h0 hk
              · rcases hf with ⟨hk, -⟩ | ⟨-, hf⟩
                · exact absurd hk h0
                · cases hf
                  exact cw_xout B hnh h0 hw h1 h2 h3
        · replace hf := cc_if_f hf c11
          refine cl_aload_n hx hb dX4_head_90 rfl (lv_at hl.1 0 rfl) ?_
          refine lv_iconst (v := rI 3) hx hb dX4_head_91 rfl ?_
          obtain ⟨qσ28, hf⟩ := cc_t_s hf
          obtain ⟨σ28, kv29, z30, hσ28, hf⟩ := cc_cl_s hf
          obtain ⟨iz30, mσ28⟩ := hR 93 σ [x0, 3] σ28 kv29 z30 hσ28
          have mσ28 : cw_Met l v yX4_spend cX4_spend 3 none d [cR v x0, .int (rI 3)] σ σ28 kv29 none := mσ28 ix0 ⟨by decide, by decide⟩
          refine cw_cv (b := x0) (t := 5) (n := 1) (rest := []) (As := [.int (rI 3)]) B mσ28 qσ28 ⟨by decide, by decide⟩ cgo_yX4_spend cml_X4_95 cin_yX4_spend cse_yX4_spend (by decide +kernel) (by decide) rfl hl.1.1 (Nat.le_of_ble_eq_true rfl) dX4_head_92 rfl hw (fun h0 H locs cells slots hw => ?_) (fun h0 H locs cells slots q ce hw h1 h2 h3 => ?_)
          · rcases hf with ⟨-, hf⟩ | ⟨hk, -⟩
            · skip
              obtain ⟨σ31, z32, eσ31, ez32, iz32, rσ31, hf⟩ := cc_n_s hf
              refine cw_new B hw cwt_4 rfl cwd_4 cnl_X4_75 cni_4 cnz_4 rσ31 eσ31 ez32 dX4_head_95 (fun H hw => ?_)
              refine lv_dup hx hb dX4_head_98 (cR_cat _) ?_
              refine cl_aload_n hx hb dX4_head_99 rfl (lv_at hl.1 1 rfl) ?_
              obtain ⟨z33, ez33, iz33, rz33, hf⟩ := cc_g_s hw hf
              refine cw_get (val := .int (rI z33)) B hw rz33 ⟨by decide, by decide⟩ (by decide) cwi_7 cfl_X4_118 ez33 rfl dX4_head_100 ?_
              refine cl_aload_n hx hb dX4_head_103 rfl (lv_at hl.1 1 rfl) ?_
              obtain ⟨z34, ez34, iz34, rz34, hf⟩ := cc_g_s hw hf
              refine cw_get (val := cR v z34) B hw rz34 ⟨by decide, by decide⟩ (by decide) cwi_7 cfl_X4_114 ez34 rfl dX4_head_104 ?_
              refine cl_aload hx hb dX4_head_107 (lv_at hl.1 2 rfl) ?_
              refine cl_aload hx hb dX4_head_109 (lv_at hl.1 2 rfl) ?_
              obtain ⟨qσ35, hf⟩ := cc_t_s hf
              obtain ⟨σ35, z37, hσ35, hf⟩ := cc_ci_s hf
              obtain ⟨iz37, mσ35⟩ := hR 77 σ31 [z32, z33, z34, x4, x4] σ35 0 z37 hσ35
              have mσ35 : cw_Met l v yX3_init cX3_init 5 none d [cR v z32, .int (rI z33), cR v z34, cR v x4, cR v x4] σ31 σ35 0 none := mσ35 iz32 iz33 iz34 ix4 ix4
              refine cw_ci (b := z32) (n := 4) (rest := [cR v z32]) (As := [.int (rI z33), cR v z34, cR v x4, cR v x4]) B mσ35 qσ35.1 rfl cgo_yX3_init cml_X4_111 cin_yX3_init (by decide +kernel) (by decide) rfl hl.1.1 (cl_cs (cl_1r cl_10) (Nat.le_of_ble_eq_true rfl)) dX4_head_111 rfl hw (fun H locs cells slots hw => ?_)
              refine cl_astore (lv' := [(4, cR v z32), (0, cR v x0), (3, cR v x3), (5, cR v x5), (6, .int (rI x6))]) hx hb dX4_head_114 hl (by decide) rfl (fun ls hl => ?_)
              refine cl_aload_n hx hb dX4_head_116 rfl (lv_at hl.1 2 rfl) ?_
              obtain ⟨z38, ez38, iz38, rz38, hf⟩ := cc_g_s hw hf
              refine cw_get (val := cR v z38) B hw rz38 ⟨by decide, by decide⟩ (by decide) cwi_7 cfl_X4_121 ez38 rfl dX4_head_117 ?_
              refine cl_astore_n (lv' := [(3, cR v z38), (4, cR v z32), (0, cR v x0), (5, cR v x5), (6, .int (rI x6))]) hx hb dX4_head_120 rfl hl (by decide) rfl (fun ls hl => ?_)
              refine lv_goto (tgt := 331) hx hb dX4_head_121 (by decide) ?_
              exact pw_X4_head_331 rfl hR htr hd5 B hnh (pc_X4_head_11 rec (cw_bd v) n) ih σ35 x0 z38 z32 x5 x6 ix0 iz38 iz32 ix5 ix6 hf _ _ _ _ _ hw (cl_sub hl [2, 0, 1, 3, 4] rfl)
            · exact absurd h0 hk
          · rcases hf with ⟨hk, -⟩ | ⟨-, hf⟩
            · exact absurd hk h0
            · cases hf
              exact cw_xout B hnh h0 hw h1 h2 h3
      · replace hf := cc_if_f hf c9
        refine cl_aload_n hx hb dX4_head_27 rfl (lv_at hl.1 1 rfl) ?_
        obtain ⟨z39, ez39, iz39, rz39, hf⟩ := cc_g_s hw hf
        refine cw_get (val := cR v z39) B hw rz39 ⟨by decide, by decide⟩ (by decide) cwi_7 cfl_X4_108 ez39 rfl dX4_head_28 ?_
        obtain ⟨z40, ez40, iz40, rz40, hf⟩ := cc_l_s hf
        refine cw_len B hw rz40 (by decide) ez40 iz40 dX4_head_31 ?_
        refine lv_iconst (v := rI 1) hx hb dX4_head_32 rfl ?_
        obtain ⟨z41, ez41, iz41, hf⟩ := cc_ck_s hf
        refine rn_sub hx hb ez41 dX4_head_33 ?_
        refine cl_istore (lv' := [(7, .int (rI z41)), (0, cR v x0), (3, cR v x3), (4, cR v x4), (5, cR v x5), (6, .int (rI x6))]) hx hb dX4_head_34 hl (by decide) rfl (fun ls hl => ?_)
        exact pw_X4_head_36 rfl hR htr hd5 B hnh (pc_X4_head_11 rec (cw_bd v) n) ih 2000000 σ x0 x3 x4 x5 x6 z41 ix0 ix3 ix4 ix5 ix6 iz41 hf _ _ _ _ _ hw (cl_sub hl [1, 2, 3, 4, 5, 0] rfl)

set_option maxHeartbeats 4000000 in
set_option maxRecDepth 100000 in
theorem pw_X4_head_0 {v : cwE} {bd : cBd} {p : Program} {l : Launch} {e : Env} {s : State} {m : MethodId} {args : Array Value} {below : List Frame} {meth : Method} {c : Code} {d : Nat} {rec : Nat → CS → List Int → CO} {σ0 σ' : CS} {kd : Nat} {r : Int} (hbd : bd = cw_bd v) (hR : cw_Rec l v d rec) (htr : l.stackTraces = false) (hd5 : 5 ≤ d) (B : cw_B v RX4 p s m args meth c cX4_head 9 (some (.object "PureHouse$Head"))) (hnh : ∀ x ∈ c.exceptionTable.toList, False) : ∀ (σ : CS) (x0 x1 x2 : Int), inR x0 → inR x1 → inR x2 → pc_X4_head_0 rec bd σ x0 x1 x2 = some (σ', kd, r) → ∀ (H : Heap) (locs : List Loc) (cells slots : Nat) (ls : Array Slot), cw_W v s σ0 σ H locs cells slots → cl_has ls 9 [(0, cR v x0), (1, cR v x1), (2, cR v x2)] → W p l e (cw_rm v (d + 1) σ0) s m args below meth c H locs cells slots (cw_Z below v σ0 σ' kd (some (cR v r)) args s) (F0 m 0 ls []) := by
  subst hbd
  obtain ⟨hx, hb, hr, hml, hown, hts, hlk, hK⟩ := id B
  intro σ x0 x1 x2 ix0 ix1 ix2 hf H locs cells slots ls hw hl
  unfold pc_X4_head_0 at hf
  refine cl_aload_n hx hb dX4_head_0 rfl (lv_at hl.1 1 rfl) ?_
  refine cl_astore_n (lv' := [(3, cR v x1), (0, cR v x0), (1, cR v x1), (2, cR v x2)]) hx hb dX4_head_1 rfl hl (by decide) rfl (fun ls hl => ?_)
  refine cl_aload_n hx hb dX4_head_2 rfl (lv_at hl.1 3 rfl) ?_
  refine cl_astore (lv' := [(4, cR v x2), (3, cR v x1), (0, cR v x0), (1, cR v x1), (2, cR v x2)]) hx hb dX4_head_3 hl (by decide) rfl (fun ls hl => ?_)
  refine cl_null (v := v) hx hb dX4_head_5 ?_
  refine cl_astore (lv' := [(5, cR v (-1)), (4, cR v x2), (3, cR v x1), (0, cR v x0), (1, cR v x1), (2, cR v x2)]) hx hb dX4_head_6 hl (by decide) rfl (fun ls hl => ?_)
  refine lv_iconst (v := rI 0) hx hb dX4_head_8 rfl ?_
  refine cl_istore (lv' := [(6, .int (rI 0)), (5, cR v (-1)), (4, cR v x2), (3, cR v x1), (0, cR v x0), (1, cR v x1), (2, cR v x2)]) hx hb dX4_head_9 hl (by decide) rfl (fun ls hl => ?_)
  exact pw_X4_head_11 rfl hR htr hd5 B hnh 2000000 σ x0 x1 x2 (-1) 0 ix0 ix1 ix2 ⟨by decide, by decide⟩ ⟨by decide, by decide⟩ hf _ _ _ _ _ hw (cl_sub hl [4, 3, 2, 1, 0] rfl)

set_option maxHeartbeats 4000000 in
set_option maxRecDepth 100000 in
theorem pm_X4_head {v : cwE} {bd : cBd} {l : Launch} {d : Nat} {rec : Nat → CS → List Int → CO} (hbd : bd = cw_bd v) (hR : cw_Rec l v d rec) (htr : l.stackTraces = false) (hd5 : 5 ≤ d) (σ σ' : CS) (x0 x1 x2 : Int) (kd : Nat) (r : Int) (ix0 : inR x0) (ix1 : inR x1) (ix2 : inR x2) (hf : pc_X4_head_0 rec bd σ x0 x1 x2 = some (σ', kd, r)) : cw_Met l v yX4_head cX4_head 9 (some (.object "PureHouse$Head")) (d + 1) [cR v x0, cR v x1, cR v x2] σ σ' kd (some (cR v r)) := by
  refine cw_ofW (by decide +kernel) ?_
  intro p e s m args below meth c s₁ B hml hv
  obtain ⟨rfl, hM, hK⟩ := hv
  have hts := atoms_spec (ws := Cond.code yX4_head cX4_head 9 (some (.object "PureHouse$Head")) :: cw_bw) B.pre
  have hB : cw_B v RX4 p s m _ meth c cX4_head 9 (some (.object "PureHouse$Head")) := ⟨B.exec, B.bytes, B.returns, hml, findClass_of_methodNamed B.named, fun w h => hts w (List.mem_cons_of_mem _ h), B.notSynchronized, hK⟩
  have hnh := cc_nh B (hts _ List.mem_cons_self)
  rw [lg_entry_eq]
  obtain ⟨ls, hls, hl⟩ := cl_ent [cR v x0, cR v x1, cR v x2] 9 (cl_1r (cl_1r (cl_1r cl_10))) (Nat.le_of_ble_eq_true rfl)
  rw [hls]
  exact pw_X4_head_0 hbd hR htr hd5 hB hnh σ x0 x1 x2 ix0 ix1 ix2 hf _ _ _ _ _ (cw_W0 hM) (cl_sub hl [0, 1, 2] rfl)

set_option maxHeartbeats 4000000 in
set_option maxRecDepth 100000 in
theorem pw_X4_init_0 {v : cwE} {bd : cBd} {p : Program} {l : Launch} {e : Env} {s : State} {m : MethodId} {args : Array Value} {below : List Frame} {meth : Method} {c : Code} {d : Nat} {rec : Nat → CS → List Int → CO} {σ0 σ' : CS} {kd : Nat} {r : Int} (hbd : bd = cw_bd v) (hR : cw_Rec l v d rec) (htr : l.stackTraces = false) (hd5 : 5 ≤ d) (B : cw_B v RX4 p s m args meth c cX4_init 3 none) (hin : meth.name = "<init>") (hnh : ∀ x ∈ c.exceptionTable.toList, False) : ∀ (σ : CS) (x0 x1 x2 : Int), inR x0 → inR x1 → inR x2 → pc_X4_init_0 rec bd σ x0 x1 x2 = some (σ', kd, r) → ∀ (H : Heap) (locs : List Loc) (cells slots : Nat) (ls : Array Slot), cw_W v s σ0 σ H locs cells slots → cl_has ls 3 [(0, cR v x0), (1, cR v x1), (2, cR v x2)] → W p l e (cw_rm v (d + 1) σ0) s m args below meth c H locs cells slots (cw_Z below v σ0 σ' kd none args s) (F0 m 0 ls []) := by
  subst hbd
  obtain ⟨hx, hb, hr, hml, hown, hts, hlk, hK⟩ := id B
  intro σ x0 x1 x2 ix0 ix1 ix2 hf H locs cells slots ls hw hl
  unfold pc_X4_init_0 at hf
  refine cl_aload_n hx hb dX4_init_0 rfl (lv_at hl.1 0 rfl) ?_
  obtain ⟨q0, hf⟩ := cc_t_s hf
  rw [cR_r q0.1]
  refine W.objInit hx hb hown (hts _ coi_X4_3) (hts _ coi2) (hts _ coi3) rfl (hl.1.1.trans hml.symm) rfl dX4_init_1 (by show 1 ≤ d + 1; omega) (by show _ + 12 ≤ 100 * (d + 1); simp [JFrame.monitorRoom]; omega) ?_
  refine cl_aload_n hx hb dX4_init_4 rfl (lv_at hl.1 0 rfl) ?_
  refine lv_bipush (v := rI 7) hx hb dX4_init_5 (by decide +kernel) ?_
  obtain ⟨σ1, z2, eσ1, ez2, iz2, qσ1, rσ1, hf⟩ := cc_na_s hf
  refine cw_newa (t := 21) B hw (Or.inr ⟨rfl, rfl⟩) cac_int ⟨by decide, by decide⟩ qσ1.1 qσ1.2 rσ1 eσ1 ez2 dX4_init_7 (fun H hw => ?_)
  obtain ⟨σ3, eσ3, rσ3, hf⟩ := cc_p_s hf
  refine cw_putF B hin hw rσ3 cwt_5 (by decide) rfl rfl rfl cfl_X4_9 iz2 eσ3 rfl (cw_fv_r rfl (Or.inr ⟨_, rfl⟩)) dX4_init_9 (fun H locs hw => ?_)
  refine cl_aload_n hx hb dX4_init_12 rfl (lv_at hl.1 0 rfl) ?_
  refine lv_iconst (v := rI 0) hx hb dX4_init_13 rfl ?_
  obtain ⟨σ4, eσ4, rσ4, hf⟩ := cc_p_s hf
  refine cw_put B hw rσ4 cwt_5 (by decide) rfl cfl_X4_15 ⟨by decide, by decide⟩ eσ4 rfl (cw_fv_n rfl rfl) dX4_init_14 (fun H locs hw => ?_)
  refine cl_aload_n hx hb dX4_init_17 rfl (lv_at hl.1 0 rfl) ?_
  refine lv_sipush (v := rI 5000) hx hb dX4_init_18 (by decide +kernel) ?_
  obtain ⟨σ5, eσ5, rσ5, hf⟩ := cc_p_s hf
  refine cw_put B hw rσ5 cwt_5 (by decide) rfl cfl_X4_19 ⟨by decide, by decide⟩ eσ5 rfl (cw_fv_n rfl rfl) dX4_init_21 (fun H locs hw => ?_)
  refine cl_aload_n hx hb dX4_init_24 rfl (lv_at hl.1 0 rfl) ?_
  refine lv_iconst (v := rI 0) hx hb dX4_init_25 rfl ?_
  obtain ⟨σ6, eσ6, rσ6, hf⟩ := cc_p_s hf
  refine cw_put B hw rσ6 cwt_5 (by decide) rfl cfl_X4_22 ⟨by decide, by decide⟩ eσ6 rfl (cw_fv_n rfl rfl) dX4_init_26 (fun H locs hw => ?_)
  refine cl_aload_n hx hb dX4_init_29 rfl (lv_at hl.1 0 rfl) ?_
  refine lv_sipush (v := rI 3000) hx hb dX4_init_30 (by decide +kernel) ?_
  obtain ⟨σ7, z8, eσ7, ez8, iz8, qσ7, rσ7, hf⟩ := cc_na_s hf
  refine cw_newa (t := 20) B hw (Or.inl ⟨rfl, rfl⟩) cac_byte ⟨by decide, by decide⟩ qσ7.1 qσ7.2 rσ7 eσ7 ez8 dX4_init_33 (fun H hw => ?_)
  obtain ⟨σ9, eσ9, rσ9, hf⟩ := cc_p_s hf
  refine cw_putF B hin hw rσ9 cwt_5 (by decide) rfl rfl rfl cfl_X4_25 iz8 eσ9 rfl (cw_fv_r rfl (Or.inr ⟨_, rfl⟩)) dX4_init_35 (fun H locs hw => ?_)
  refine cl_aload_n hx hb dX4_init_38 rfl (lv_at hl.1 0 rfl) ?_
  refine lv_iconst (v := rI 0) hx hb dX4_init_39 rfl ?_
  obtain ⟨σ10, eσ10, rσ10, hf⟩ := cc_p_s hf
  refine cw_put B hw rσ10 cwt_5 (by decide) rfl cfl_X4_29 ⟨by decide, by decide⟩ eσ10 rfl (cw_fv_n rfl rfl) dX4_init_40 (fun H locs hw => ?_)
  refine cl_aload_n hx hb dX4_init_43 rfl (lv_at hl.1 0 rfl) ?_
  refine cl_aload_n hx hb dX4_init_44 rfl (lv_at hl.1 1 rfl) ?_
  obtain ⟨σ11, eσ11, rσ11, hf⟩ := cc_p_s hf
  refine cw_putF B hin hw rσ11 cwt_5 (by decide) rfl rfl rfl cfl_X4_32 ix1 eσ11 rfl (cw_fv_r rfl (Or.inl ⟨_, rfl⟩)) dX4_init_45 (fun H locs hw => ?_)
  refine cl_aload_n hx hb dX4_init_48 rfl (lv_at hl.1 0 rfl) ?_
  refine cl_aload_n hx hb dX4_init_49 rfl (lv_at hl.1 2 rfl) ?_
  obtain ⟨σ12, eσ12, rσ12, hf⟩ := cc_p_s hf
  refine cw_putF B hin hw rσ12 cwt_5 (by decide) rfl rfl rfl cfl_X4_36 ix2 eσ12 rfl (cw_fv_r rfl (Or.inl ⟨_, rfl⟩)) dX4_init_50 (fun H locs hw => ?_)
  exact cw_retv B hf hw dX4_init_53

set_option maxHeartbeats 4000000 in
set_option maxRecDepth 100000 in
theorem pm_X4_init {v : cwE} {bd : cBd} {l : Launch} {d : Nat} {rec : Nat → CS → List Int → CO} (hbd : bd = cw_bd v) (hR : cw_Rec l v d rec) (htr : l.stackTraces = false) (hd5 : 5 ≤ d) (σ σ' : CS) (x0 x1 x2 : Int) (kd : Nat) (r : Int) (ix0 : inR x0) (ix1 : inR x1) (ix2 : inR x2) (hf : pc_X4_init_0 rec bd σ x0 x1 x2 = some (σ', kd, r)) : cw_Met l v yX4_init cX4_init 3 none (d + 1) [cR v x0, cR v x1, cR v x2] σ σ' kd none := by
  refine cw_ofW (by decide +kernel) ?_
  intro p e s m args below meth c s₁ B hml hv
  obtain ⟨rfl, hM, hK⟩ := hv
  have hts := atoms_spec (ws := Cond.code yX4_init cX4_init 3 none :: cw_bw) B.pre
  have hB : cw_B v RX4 p s m _ meth c cX4_init 3 none := ⟨B.exec, B.bytes, B.returns, hml, findClass_of_methodNamed B.named, fun w h => hts w (List.mem_cons_of_mem _ h), B.notSynchronized, hK⟩
  have hnh := cc_nh B (hts _ List.mem_cons_self)
  rw [lg_entry_eq]
  obtain ⟨ls, hls, hl⟩ := cl_ent [cR v x0, cR v x1, cR v x2] 3 (cl_1r (cl_1r (cl_1r cl_10))) (Nat.le_of_ble_eq_true rfl)
  rw [hls]
  exact pw_X4_init_0 hbd hR htr hd5 hB (name_of_methodNamed B.named B.method).1 hnh σ x0 x1 x2 ix0 ix1 ix2 hf _ _ _ _ _ (cw_W0 hM) (cl_sub hl [0, 1, 2] rfl)

set_option maxHeartbeats 4000000 in
set_option maxRecDepth 100000 in
theorem pw_X4_look_44 {v : cwE} {bd : cBd} {p : Program} {l : Launch} {e : Env} {s : State} {m : MethodId} {args : Array Value} {below : List Frame} {meth : Method} {c : Code} {d : Nat} {rec : Nat → CS → List Int → CO} {σ0 σ' : CS} {kd : Nat} {r : Int} (hbd : bd = cw_bd v) (hR : cw_Rec l v d rec) (htr : l.stackTraces = false) (hd5 : 5 ≤ d) (B : cw_B v RX4 p s m args meth c cX4_look 3 none) (hnh : ∀ x ∈ c.exceptionTable.toList, False) : ∀ (σ : CS) (x0 x2 : Int), inR x0 → inR x2 → pc_X4_look_44 rec bd σ x0 x2 = some (σ', kd, r) → ∀ (H : Heap) (locs : List Loc) (cells slots : Nat) (ls : Array Slot), cw_W v s σ0 σ H locs cells slots → cl_has ls 3 [(0, cR v x0), (2, .int (rI x2))] → W p l e (cw_rm v (d + 1) σ0) s m args below meth c H locs cells slots (cw_Z below v σ0 σ' kd none args s) (F0 m 44 ls []) := by
  subst hbd
  obtain ⟨hx, hb, hr, hml, hown, hts, hlk, hK⟩ := id B
  intro σ x0 x2 ix0 ix2 hf H locs cells slots ls hw hl
  unfold pc_X4_look_44 at hf
  refine lv_iload_n hx hb dX4_look_44 rfl (lv_at hl.1 1 rfl) ?_
  refine rn_if_eq (a := x2) (tgt := 69) hx hb ix2 dX4_look_45 (by decide) (fun c1 => ?_) (fun c1 => ?_)
  · replace hf := cc_if_t hf c1
    exact cw_retv B hf hw dX4_look_69
  · replace hf := cc_if_f hf c1
    refine cl_aload_n hx hb dX4_look_48 rfl (lv_at hl.1 0 rfl) ?_
    obtain ⟨z2, ez2, iz2, rz2, hf⟩ := cc_g_s hw hf
    refine cw_get (val := cR v z2) B hw rz2 ⟨by decide, by decide⟩ (by decide) cwi_5 cfl_X4_36 ez2 rfl dX4_look_49 ?_
    refine lv_bipush (v := rI 13) hx hb dX4_look_52 (by decide +kernel) ?_
    refine cl_aload_n hx hb dX4_look_54 rfl (lv_at hl.1 0 rfl) ?_
    obtain ⟨z3, ez3, iz3, rz3, hf⟩ := cc_g_s hw hf
    refine cw_get (val := .int (rI z3)) B hw rz3 ⟨by decide, by decide⟩ (by decide) cwi_5 cfl_X4_22 ez3 rfl dX4_look_55 ?_
    obtain ⟨qσ4, hf⟩ := cc_t_s hf
    obtain ⟨σ4, kv5, z6, hσ4, hf⟩ := cc_cl_s hf
    obtain ⟨iz6, mσ4⟩ := hR 30 σ [z2, 13, z3] σ4 kv5 z6 hσ4
    have mσ4 : cw_Met l v yX10_set cX10_set 3 none d [cR v z2, .int (rI 13), .int (rI z3)] σ σ4 kv5 none := mσ4 iz2 ⟨by decide, by decide⟩ iz3
    refine cw_cv (b := z2) (t := 11) (n := 2) (rest := []) (As := [.int (rI 13), .int (rI z3)]) B mσ4 qσ4 ⟨by decide, by decide⟩ cgo_yX10_set cml_X4_98 cin_yX10_set cse_yX10_set (by decide +kernel) (by decide) rfl hl.1.1 (Nat.le_of_ble_eq_true rfl) dX4_look_58 rfl hw (fun h0 H locs cells slots hw => ?_) (fun h0 H locs cells slots q ce hw h1 h2 h3 => ?_)
    · rcases hf with ⟨-, hf⟩ | ⟨hk, -⟩
      · skip
        obtain ⟨hy, hm⟩ := cc_x_s hf
        obtain ⟨hy1, hy2⟩ := Prod.mk.inj hy
        obtain ⟨hy2, hy3⟩ := Prod.mk.inj hy2
        subst hy2
        refine cw_throw (rest := []) B hnh htr hw (by decide) (by decide +kernel) cxc_X4_92 cxi_1 (cw_hat cxa_X4_94 (by decide +kernel) hts hK.1) (List.all_eq_true.mp cxg_X4_94) hd5 hm hy1 hl.1.1 (Nat.le_of_ble_eq_true rfl) dX4_look_61 dX4_look_64 dX4_look_65 dX4_look_68
      · exact absurd h0 hk
    · rcases hf with ⟨hk, -⟩ | ⟨-, hf⟩
      · exact absurd hk h0
      · cases hf
        exact cw_xout B hnh h0 hw h1 h2 h3

set_option maxHeartbeats 4000000 in
set_option maxRecDepth 100000 in
theorem pw_X4_look_38 {v : cwE} {bd : cBd} {p : Program} {l : Launch} {e : Env} {s : State} {m : MethodId} {args : Array Value} {below : List Frame} {meth : Method} {c : Code} {d : Nat} {rec : Nat → CS → List Int → CO} {σ0 σ' : CS} {kd : Nat} {r : Int} (hbd : bd = cw_bd v) (hR : cw_Rec l v d rec) (htr : l.stackTraces = false) (hd5 : 5 ≤ d) (B : cw_B v RX4 p s m args meth c cX4_look 3 none) (hnh : ∀ x ∈ c.exceptionTable.toList, False) : ∀ (σ : CS) (x0 x2 : Int), inR x0 → inR x2 → pc_X4_look_38 rec bd σ x0 x2 = some (σ', kd, r) → ∀ (H : Heap) (locs : List Loc) (cells slots : Nat) (ls : Array Slot), cw_W v s σ0 σ H locs cells slots → cl_has ls 3 [(0, cR v x0), (2, .int (rI x2))] → W p l e (cw_rm v (d + 1) σ0) s m args below meth c H locs cells slots (cw_Z below v σ0 σ' kd none args s) (F0 m 38 ls []) := by
  subst hbd
  obtain ⟨hx, hb, hr, hml, hown, hts, hlk, hK⟩ := id B
  intro σ x0 x2 ix0 ix2 hf H locs cells slots ls hw hl
  unfold pc_X4_look_38 at hf
  refine cl_aload_n hx hb dX4_look_38 rfl (lv_at hl.1 0 rfl) ?_
  refine lv_bipush (v := rI 6) hx hb dX4_look_39 (by decide +kernel) ?_
  obtain ⟨qσ1, hf⟩ := cc_t_s hf
  obtain ⟨σ1, kv2, z3, hσ1, hf⟩ := cc_cl_s hf
  obtain ⟨iz3, mσ1⟩ := hR 93 σ [x0, 6] σ1 kv2 z3 hσ1
  have mσ1 : cw_Met l v yX4_spend cX4_spend 3 none d [cR v x0, .int (rI 6)] σ σ1 kv2 none := mσ1 ix0 ⟨by decide, by decide⟩
  refine cw_cv (b := x0) (t := 5) (n := 1) (rest := []) (As := [.int (rI 6)]) B mσ1 qσ1 ⟨by decide, by decide⟩ cgo_yX4_spend cml_X4_95 cin_yX4_spend cse_yX4_spend (by decide +kernel) (by decide) rfl hl.1.1 (Nat.le_of_ble_eq_true rfl) dX4_look_41 rfl hw (fun h0 H locs cells slots hw => ?_) (fun h0 H locs cells slots q ce hw h1 h2 h3 => ?_)
  · rcases hf with ⟨-, hf⟩ | ⟨hk, -⟩
    · skip
      exact pw_X4_look_44 rfl hR htr hd5 B hnh σ1 x0 x2 ix0 ix2 hf _ _ _ _ _ hw (cl_sub hl [0, 1] rfl)
    · exact absurd h0 hk
  · rcases hf with ⟨hk, -⟩ | ⟨-, hf⟩
    · exact absurd hk h0
    · cases hf
      exact cw_xout B hnh h0 hw h1 h2 h3

set_option maxHeartbeats 4000000 in
set_option maxRecDepth 100000 in
theorem pw_X4_look_11 {v : cwE} {bd : cBd} {p : Program} {l : Launch} {e : Env} {s : State} {m : MethodId} {args : Array Value} {below : List Frame} {meth : Method} {c : Code} {d : Nat} {rec : Nat → CS → List Int → CO} {σ0 σ' : CS} {kd : Nat} {r : Int} (hbd : bd = cw_bd v) (hR : cw_Rec l v d rec) (htr : l.stackTraces = false) (hd5 : 5 ≤ d) (B : cw_B v RX4 p s m args meth c cX4_look 3 none) (hnh : ∀ x ∈ c.exceptionTable.toList, False) : ∀ (σ : CS) (x0 t0 : Int), inR x0 → inR t0 → pc_X4_look_11 rec bd σ x0 t0 = some (σ', kd, r) → ∀ (H : Heap) (locs : List Loc) (cells slots : Nat) (ls : Array Slot), cw_W v s σ0 σ H locs cells slots → cl_has ls 3 [(0, cR v x0)] → W p l e (cw_rm v (d + 1) σ0) s m args below meth c H locs cells slots (cw_Z below v σ0 σ' kd none args s) (F0 m 11 ls [.int (rI t0)]) := by
  subst hbd
  obtain ⟨hx, hb, hr, hml, hown, hts, hlk, hK⟩ := id B
  intro σ x0 t0 ix0 it0 hf H locs cells slots ls hw hl
  unfold pc_X4_look_11 at hf
  refine cl_istore_n (lv' := [(2, .int (rI t0)), (0, cR v x0)]) hx hb dX4_look_11 rfl hl (by decide) rfl (fun ls hl => ?_)
  refine lv_iload_n hx hb dX4_look_12 rfl (lv_at hl.1 0 rfl) ?_
  refine rn_if_eq (a := t0) (tgt := 38) hx hb it0 dX4_look_13 (by decide) (fun c1 => ?_) (fun c1 => ?_)
  · replace hf := cc_if_t hf c1
    exact pw_X4_look_38 rfl hR htr hd5 B hnh σ x0 t0 ix0 it0 hf _ _ _ _ _ hw (cl_sub hl [1, 0] rfl)
  · replace hf := cc_if_f hf c1
    refine cl_aload_n hx hb dX4_look_16 rfl (lv_at hl.1 1 rfl) ?_
    obtain ⟨z2, ez2, iz2, rz2, hf⟩ := cc_g_s hw hf
    refine cw_get (val := cR v z2) B hw rz2 ⟨by decide, by decide⟩ (by decide) cwi_5 cfl_X4_9 ez2 rfl dX4_look_17 ?_
    refine lv_iconst (v := rI 0) hx hb dX4_look_20 rfl ?_
    obtain ⟨z3, ez3, iz3, rz3, bz3, hf⟩ := cc_r_s hw hf
    refine cw_aldI B hw rz3 ⟨by decide, by decide⟩ bz3 ez3 dX4_look_21 ?_
    refine cl_aload_n hx hb dX4_look_22 rfl (lv_at hl.1 1 rfl) ?_
    obtain ⟨z4, ez4, iz4, rz4, hf⟩ := cc_g_s hw hf
    refine cw_get (val := .int (rI z4)) B hw rz4 ⟨by decide, by decide⟩ (by decide) cwi_5 cfl_X4_19 ez4 rfl dX4_look_23 ?_
    refine rn_icmp_ge (a := z3) (b := z4) (tgt := 44) hx hb iz3 iz4 dX4_look_26 (by decide) (fun c5 => ?_) (fun c5 => ?_)
    · replace hf := cc_if_t hf c5
      exact pw_X4_look_44 rfl hR htr hd5 B hnh σ x0 t0 ix0 it0 hf _ _ _ _ _ hw (cl_sub hl [1, 0] rfl)
    · replace hf := cc_if_f hf c5
      refine cl_aload_n hx hb dX4_look_29 rfl (lv_at hl.1 1 rfl) ?_
      obtain ⟨z6, ez6, iz6, rz6, hf⟩ := cc_g_s hw hf
      refine cw_get (val := .int (rI z6)) B hw rz6 ⟨by decide, by decide⟩ (by decide) cwi_5 cfl_X4_15 ez6 rfl dX4_look_30 ?_
      refine lv_ldc (v := rI 60000) hx hb hown (hts _ clc_X4_83) dX4_look_33 ?_
      refine rn_icmp_ge (a := z6) (b := 60000) (tgt := 44) hx hb iz6 ⟨by decide, by decide⟩ dX4_look_35 (by decide) (fun c7 => ?_) (fun c7 => ?_)
      · replace hf := cc_if_t hf c7
        exact pw_X4_look_44 rfl hR htr hd5 B hnh σ x0 t0 ix0 it0 hf _ _ _ _ _ hw (cl_sub hl [1, 0] rfl)
      · replace hf := cc_if_f hf c7
        exact pw_X4_look_38 rfl hR htr hd5 B hnh σ x0 t0 ix0 it0 hf _ _ _ _ _ hw (cl_sub hl [1, 0] rfl)

set_option maxHeartbeats 4000000 in
set_option maxRecDepth 100000 in
theorem pw_X4_look_0 {v : cwE} {bd : cBd} {p : Program} {l : Launch} {e : Env} {s : State} {m : MethodId} {args : Array Value} {below : List Frame} {meth : Method} {c : Code} {d : Nat} {rec : Nat → CS → List Int → CO} {σ0 σ' : CS} {kd : Nat} {r : Int} (hbd : bd = cw_bd v) (hR : cw_Rec l v d rec) (htr : l.stackTraces = false) (hd5 : 5 ≤ d) (B : cw_B v RX4 p s m args meth c cX4_look 3 none) (hnh : ∀ x ∈ c.exceptionTable.toList, False) : ∀ (σ : CS) (x0 x1 : Int), inR x0 → inR x1 → pc_X4_look_0 rec bd σ x0 x1 = some (σ', kd, r) → ∀ (H : Heap) (locs : List Loc) (cells slots : Nat) (ls : Array Slot), cw_W v s σ0 σ H locs cells slots → cl_has ls 3 [(0, cR v x0), (1, .int (rI x1))] → W p l e (cw_rm v (d + 1) σ0) s m args below meth c H locs cells slots (cw_Z below v σ0 σ' kd none args s) (F0 m 0 ls []) := by
  subst hbd
  obtain ⟨hx, hb, hr, hml, hown, hts, hlk, hK⟩ := id B
  intro σ x0 x1 ix0 ix1 hf H locs cells slots ls hw hl
  unfold pc_X4_look_0 at hf
  refine lv_iload_n hx hb dX4_look_0 rfl (lv_at hl.1 1 rfl) ?_
  refine lv_bipush (v := rI 100) hx hb dX4_look_1 (by decide +kernel) ?_
  refine rn_icmp_lt (a := x1) (b := 100) (tgt := 10) hx hb ix1 ⟨by decide, by decide⟩ dX4_look_3 (by decide) (fun c1 => ?_) (fun c1 => ?_)
  · replace hf := cc_if_t hf c1
    refine lv_iconst (v := rI 0) hx hb dX4_look_10 rfl ?_
    exact pw_X4_look_11 rfl hR htr hd5 B hnh σ x0 0 ix0 ⟨by decide, by decide⟩ hf _ _ _ _ _ hw (cl_sub hl [0] rfl)
  · replace hf := cc_if_f hf c1
    refine lv_iconst (v := rI 1) hx hb dX4_look_6 rfl ?_
    refine lv_goto (tgt := 11) hx hb dX4_look_7 (by decide) ?_
    exact pw_X4_look_11 rfl hR htr hd5 B hnh σ x0 1 ix0 ⟨by decide, by decide⟩ hf _ _ _ _ _ hw (cl_sub hl [0] rfl)

set_option maxHeartbeats 4000000 in
set_option maxRecDepth 100000 in
theorem pm_X4_look {v : cwE} {bd : cBd} {l : Launch} {d : Nat} {rec : Nat → CS → List Int → CO} (hbd : bd = cw_bd v) (hR : cw_Rec l v d rec) (htr : l.stackTraces = false) (hd5 : 5 ≤ d) (σ σ' : CS) (x0 x1 : Int) (kd : Nat) (r : Int) (ix0 : inR x0) (ix1 : inR x1) (hf : pc_X4_look_0 rec bd σ x0 x1 = some (σ', kd, r)) : cw_Met l v yX4_look cX4_look 3 none (d + 1) [cR v x0, .int (rI x1)] σ σ' kd none := by
  refine cw_ofW (by decide +kernel) ?_
  intro p e s m args below meth c s₁ B hml hv
  obtain ⟨rfl, hM, hK⟩ := hv
  have hts := atoms_spec (ws := Cond.code yX4_look cX4_look 3 none :: cw_bw) B.pre
  have hB : cw_B v RX4 p s m _ meth c cX4_look 3 none := ⟨B.exec, B.bytes, B.returns, hml, findClass_of_methodNamed B.named, fun w h => hts w (List.mem_cons_of_mem _ h), B.notSynchronized, hK⟩
  have hnh := cc_nh B (hts _ List.mem_cons_self)
  rw [lg_entry_eq]
  obtain ⟨ls, hls, hl⟩ := cl_ent [cR v x0, .int (rI x1)] 3 (cl_1r (cl_1i cl_10)) (Nat.le_of_ble_eq_true rfl)
  rw [hls]
  exact pw_X4_look_0 hbd hR htr hd5 hB hnh σ x0 x1 ix0 ix1 hf _ _ _ _ _ (cw_W0 hM) (cl_sub hl [0, 1] rfl)

set_option maxHeartbeats 4000000 in
set_option maxRecDepth 100000 in
theorem pw_X4_normalForm_0 {v : cwE} {bd : cBd} {p : Program} {l : Launch} {e : Env} {s : State} {m : MethodId} {args : Array Value} {below : List Frame} {meth : Method} {c : Code} {d : Nat} {rec : Nat → CS → List Int → CO} {σ0 σ' : CS} {kd : Nat} {r : Int} (hbd : bd = cw_bd v) (hR : cw_Rec l v d rec) (htr : l.stackTraces = false) (hd5 : 5 ≤ d) (B : cw_B v RX4 p s m args meth c cX4_normalForm 3 (some (.object "PureHouse$Node"))) (hnh : ∀ x ∈ c.exceptionTable.toList, False) : ∀ (σ : CS) (x0 x1 x2 : Int), inR x0 → inR x1 → inR x2 → pc_X4_normalForm_0 rec bd σ x0 x1 x2 = some (σ', kd, r) → ∀ (H : Heap) (locs : List Loc) (cells slots : Nat) (ls : Array Slot), cw_W v s σ0 σ H locs cells slots → cl_has ls 3 [(0, cR v x0), (1, cR v x1), (2, cR v x2)] → W p l e (cw_rm v (d + 1) σ0) s m args below meth c H locs cells slots (cw_Z below v σ0 σ' kd (some (cR v r)) args s) (F0 m 0 ls []) := by
  subst hbd
  obtain ⟨hx, hb, hr, hml, hown, hts, hlk, hK⟩ := id B
  intro σ x0 x1 x2 ix0 ix1 ix2 hf H locs cells slots ls hw hl
  unfold pc_X4_normalForm_0 at hf
  refine cl_aload_n hx hb dX4_normalForm_0 rfl (lv_at hl.1 0 rfl) ?_
  refine cl_aload_n hx hb dX4_normalForm_1 rfl (lv_at hl.1 1 rfl) ?_
  refine cl_aload_n hx hb dX4_normalForm_2 rfl (lv_at hl.1 2 rfl) ?_
  refine lv_iconst (v := rI 0) hx hb dX4_normalForm_3 rfl ?_
  refine lv_iconst (v := rI 0) hx hb dX4_normalForm_4 rfl ?_
  obtain ⟨qσ1, hf⟩ := cc_t_s hf
  obtain ⟨σ1, kv2, z3, hσ1, hf⟩ := cc_cl_s hf
  obtain ⟨iz3, mσ1⟩ := hR 87 σ [x0, x1, x2, 0, 0] σ1 kv2 z3 hσ1
  have mσ1 : cw_Met l v yX4_normalize cX4_normalize 11 (some (.object "PureHouse$Node")) d [cR v x0, cR v x1, cR v x2, .int (rI 0), .int (rI 0)] σ σ1 kv2 (some (cR v z3)) := mσ1 ix0 ix1 ix2 ⟨by decide, by decide⟩ ⟨by decide, by decide⟩
  refine cw_cv (b := x0) (t := 5) (n := 4) (rest := []) (As := [cR v x1, cR v x2, .int (rI 0), .int (rI 0)]) B mσ1 qσ1 ⟨by decide, by decide⟩ cgo_yX4_normalize cml_X4_48 cin_yX4_normalize cse_yX4_normalize (by decide +kernel) (by decide) rfl hl.1.1 (Nat.le_of_ble_eq_true rfl) dX4_normalForm_5 rfl hw (fun h0 H locs cells slots hw => ?_) (fun h0 H locs cells slots q ce hw h1 h2 h3 => ?_)
  · rcases hf with ⟨-, hf⟩ | ⟨hk, -⟩
    · skip
      exact cw_reta B hf hw dX4_normalForm_8
    · exact absurd h0 hk
  · rcases hf with ⟨hk, -⟩ | ⟨-, hf⟩
    · exact absurd hk h0
    · cases hf
      exact cw_xout B hnh h0 hw h1 h2 h3

set_option maxHeartbeats 4000000 in
set_option maxRecDepth 100000 in
theorem pm_X4_normalForm {v : cwE} {bd : cBd} {l : Launch} {d : Nat} {rec : Nat → CS → List Int → CO} (hbd : bd = cw_bd v) (hR : cw_Rec l v d rec) (htr : l.stackTraces = false) (hd5 : 5 ≤ d) (σ σ' : CS) (x0 x1 x2 : Int) (kd : Nat) (r : Int) (ix0 : inR x0) (ix1 : inR x1) (ix2 : inR x2) (hf : pc_X4_normalForm_0 rec bd σ x0 x1 x2 = some (σ', kd, r)) : cw_Met l v yX4_normalForm cX4_normalForm 3 (some (.object "PureHouse$Node")) (d + 1) [cR v x0, cR v x1, cR v x2] σ σ' kd (some (cR v r)) := by
  refine cw_ofW (by decide +kernel) ?_
  intro p e s m args below meth c s₁ B hml hv
  obtain ⟨rfl, hM, hK⟩ := hv
  have hts := atoms_spec (ws := Cond.code yX4_normalForm cX4_normalForm 3 (some (.object "PureHouse$Node")) :: cw_bw) B.pre
  have hB : cw_B v RX4 p s m _ meth c cX4_normalForm 3 (some (.object "PureHouse$Node")) := ⟨B.exec, B.bytes, B.returns, hml, findClass_of_methodNamed B.named, fun w h => hts w (List.mem_cons_of_mem _ h), B.notSynchronized, hK⟩
  have hnh := cc_nh B (hts _ List.mem_cons_self)
  rw [lg_entry_eq]
  obtain ⟨ls, hls, hl⟩ := cl_ent [cR v x0, cR v x1, cR v x2] 3 (cl_1r (cl_1r (cl_1r cl_10))) (Nat.le_of_ble_eq_true rfl)
  rw [hls]
  exact pw_X4_normalForm_0 hbd hR htr hd5 hB hnh σ x0 x1 x2 ix0 ix1 ix2 hf _ _ _ _ _ (cw_W0 hM) (cl_sub hl [0, 1, 2] rfl)

set_option maxHeartbeats 4000000 in
set_option maxRecDepth 100000 in
theorem pw_X4_normalize_218 {v : cwE} {bd : cBd} {p : Program} {l : Launch} {e : Env} {s : State} {m : MethodId} {args : Array Value} {below : List Frame} {meth : Method} {c : Code} {d : Nat} {rec : Nat → CS → List Int → CO} {σ0 σ' : CS} {kd : Nat} {r : Int} (hbd : bd = cw_bd v) (hR : cw_Rec l v d rec) (htr : l.stackTraces = false) (hd5 : 5 ≤ d) (B : cw_B v RX4 p s m args meth c cX4_normalize 11 (some (.object "PureHouse$Node"))) (hnh : ∀ x ∈ c.exceptionTable.toList, False) : ∀ (σ : CS) (x7 x8 : Int), inR x7 → inR x8 → pc_X4_normalize_218 rec bd σ x7 x8 = some (σ', kd, r) → ∀ (H : Heap) (locs : List Loc) (cells slots : Nat) (ls : Array Slot), cw_W v s σ0 σ H locs cells slots → cl_has ls 11 [(7, cR v x7), (8, cR v x8)] → W p l e (cw_rm v (d + 1) σ0) s m args below meth c H locs cells slots (cw_Z below v σ0 σ' kd (some (cR v r)) args s) (F0 m 218 ls []) := by
  subst hbd
  obtain ⟨hx, hb, hr, hml, hown, hts, hlk, hK⟩ := id B
  intro σ x7 x8 ix7 ix8 hf H locs cells slots ls hw hl
  unfold pc_X4_normalize_218 at hf
  refine cl_aload hx hb dX4_normalize_218 (lv_at hl.1 0 rfl) ?_
  refine cl_aload hx hb dX4_normalize_220 (lv_at hl.1 1 rfl) ?_
  obtain ⟨σ1, kv2, z3, hσ1, hf⟩ := cc_cl_s hf
  obtain ⟨iz3, mσ1⟩ := hR 108 σ [x7, x8] σ1 kv2 z3 hσ1
  have mσ1 : cw_Met l v yX6_use cX6_use 3 (some (.object "PureHouse$Node")) d [cR v x7, cR v x8] σ σ1 kv2 (some (cR v z3)) := mσ1 ix7 ix8
  refine cw_cs (n := 2) (rest := []) (As := [cR v x7, cR v x8]) B mσ1 cgo_yX6_use cml_X4_176 cst_yX6_use (by decide +kernel) (by decide) rfl hl.1.1 (Nat.le_of_ble_eq_true rfl) dX4_normalize_222 rfl hw (fun h0 H locs cells slots hw => ?_) (fun h0 H locs cells slots q ce hw h1 h2 h3 => ?_)
  · rcases hf with ⟨-, hf⟩ | ⟨hk, -⟩
    · skip
      exact cw_reta B hf hw dX4_normalize_225
    · exact absurd h0 hk
  · rcases hf with ⟨hk, -⟩ | ⟨-, hf⟩
    · exact absurd hk h0
    · cases hf
      exact cw_xout B hnh h0 hw h1 h2 h3

set_option maxHeartbeats 4000000 in
set_option maxRecDepth 100000 in
theorem pw_X4_normalize_168 {v : cwE} {bd : cBd} {p : Program} {l : Launch} {e : Env} {s : State} {m : MethodId} {args : Array Value} {below : List Frame} {meth : Method} {c : Code} {d : Nat} {rec : Nat → CS → List Int → CO} {σ0 σ' : CS} {kd : Nat} {r : Int} (hbd : bd = cw_bd v) (hR : cw_Rec l v d rec) (htr : l.stackTraces = false) (hd5 : 5 ≤ d) (B : cw_B v RX4 p s m args meth c cX4_normalize 11 (some (.object "PureHouse$Node"))) (hnh : ∀ x ∈ c.exceptionTable.toList, False) : ∀ (n : Nat) (σ : CS) (x0 x3 x4 x7 x8 x9 x10 : Int), inR x0 → inR x3 → inR x4 → inR x7 → inR x8 → inR x9 → inR x10 → pc_X4_normalize_168 rec bd n σ x0 x3 x4 x7 x8 x9 x10 = some (σ', kd, r) → ∀ (H : Heap) (locs : List Loc) (cells slots : Nat) (ls : Array Slot), cw_W v s σ0 σ H locs cells slots → cl_has ls 11 [(0, cR v x0), (3, .int (rI x3)), (4, .int (rI x4)), (7, cR v x7), (8, cR v x8), (9, cR v x9), (10, .int (rI x10))] → W p l e (cw_rm v (d + 1) σ0) s m args below meth c H locs cells slots (cw_Z below v σ0 σ' kd (some (cR v r)) args s) (F0 m 168 ls []) := by
  subst hbd
  obtain ⟨hx, hb, hr, hml, hown, hts, hlk, hK⟩ := id B
  intro n
  induction n with
  | zero => intro σ x0 x3 x4 x7 x8 x9 x10 ix0 ix3 ix4 ix7 ix8 ix9 ix10 hf; cases hf
  | succ n ih =>
    intro σ x0 x3 x4 x7 x8 x9 x10 ix0 ix3 ix4 ix7 ix8 ix9 ix10 hf H locs cells slots ls hw hl
    unfold pc_X4_normalize_168 at hf
    refine lv_iload hx hb dX4_normalize_168 (lv_at hl.1 6 rfl) ?_
    refine cl_aload hx hb dX4_normalize_170 (lv_at hl.1 4 rfl) ?_
    obtain ⟨z1, ez1, iz1, rz1, hf⟩ := cc_l_s hf
    refine cw_len B hw rz1 (by decide) ez1 iz1 dX4_normalize_172 ?_
    refine rn_icmp_ge (a := x10) (b := z1) (tgt := 218) hx hb ix10 iz1 dX4_normalize_173 (by decide) (fun c2 => ?_) (fun c2 => ?_)
    · replace hf := cc_if_t hf c2
      exact pw_X4_normalize_218 rfl hR htr hd5 B hnh σ x7 x8 ix7 ix8 hf _ _ _ _ _ hw (cl_sub hl [3, 4] rfl)
    · replace hf := cc_if_f hf c2
      refine cl_aload hx hb dX4_normalize_176 (lv_at hl.1 5 rfl) ?_
      refine cl_ifnull (x := x9) (tgt := 218) hx hb dX4_normalize_178 (by decide) (fun c3 => ?_) (fun c3 => ?_)
      · replace hf := cc_if_t hf c3
        exact pw_X4_normalize_218 rfl hR htr hd5 B hnh σ x7 x8 ix7 ix8 hf _ _ _ _ _ hw (cl_sub hl [3, 4] rfl)
      · replace hf := cc_if_f hf c3
        refine cl_aload hx hb dX4_normalize_181 (lv_at hl.1 4 rfl) ?_
        refine lv_iload hx hb dX4_normalize_183 (lv_at hl.1 6 rfl) ?_
        refine cl_aload_n hx hb dX4_normalize_185 rfl (lv_at hl.1 0 rfl) ?_
        refine cl_aload hx hb dX4_normalize_186 (lv_at hl.1 5 rfl) ?_
        obtain ⟨z4, ez4, iz4, rz4, hf⟩ := cc_g_s hw hf
        refine cw_get (val := cR v z4) B hw rz4 ⟨by decide, by decide⟩ (by decide) cwi_4 cfl_X4_124 ez4 rfl dX4_normalize_188 ?_
        refine cl_aload hx hb dX4_normalize_191 (lv_at hl.1 5 rfl) ?_
        obtain ⟨z5, ez5, iz5, rz5, hf⟩ := cc_g_s hw hf
        refine cw_get (val := cR v z5) B hw rz5 ⟨by decide, by decide⟩ (by decide) cwi_4 cfl_X4_127 ez5 rfl dX4_normalize_193 ?_
        refine lv_iload_n hx hb dX4_normalize_196 rfl (lv_at hl.1 1 rfl) ?_
        refine lv_iload hx hb dX4_normalize_197 (lv_at hl.1 2 rfl) ?_
        refine lv_iconst (v := rI 1) hx hb dX4_normalize_199 rfl ?_
        obtain ⟨z6, ez6, iz6, hf⟩ := cc_ck_s hf
        refine rn_add hx hb ez6 dX4_normalize_200 ?_
        obtain ⟨qσ7, hf⟩ := cc_t_s hf
        obtain ⟨σ7, kv8, z9, hσ7, hf⟩ := cc_cl_s hf
        obtain ⟨iz9, mσ7⟩ := hR 87 σ [x0, z4, z5, x3, z6] σ7 kv8 z9 hσ7
        have mσ7 : cw_Met l v yX4_normalize cX4_normalize 11 (some (.object "PureHouse$Node")) d [cR v x0, cR v z4, cR v z5, .int (rI x3), .int (rI z6)] σ σ7 kv8 (some (cR v z9)) := mσ7 ix0 iz4 iz5 ix3 iz6
        refine cw_cv (b := x0) (t := 5) (n := 4) (rest := [.int (rI x10), cR v x8]) (As := [cR v z4, cR v z5, .int (rI x3), .int (rI z6)]) B mσ7 qσ7 ⟨by decide, by decide⟩ cgo_yX4_normalize cml_X4_48 cin_yX4_normalize cse_yX4_normalize (by decide +kernel) (by decide) rfl hl.1.1 (cl_cs (cl_1i (cl_1r cl_10)) (Nat.le_of_ble_eq_true rfl)) dX4_normalize_201 rfl hw (fun h0 H locs cells slots hw => ?_) (fun h0 H locs cells slots q ce hw h1 h2 h3 => ?_)
        · rcases hf with ⟨-, hf⟩ | ⟨hk, -⟩
          · skip
            obtain ⟨qσ10, hf⟩ := cc_tn_s hf
            obtain ⟨σ10, eσ10, rσ10, bσ10, hf⟩ := cc_w_s hf
            refine cw_astR B hw rσ10 ix10 bσ10 iz9 qσ10 eσ10 dX4_normalize_204 (fun H locs hw => ?_)
            refine cl_aload hx hb dX4_normalize_205 (lv_at hl.1 5 rfl) ?_
            obtain ⟨z11, ez11, iz11, rz11, hf⟩ := cc_g_s hw hf
            refine cw_get (val := cR v z11) B hw rz11 ⟨by decide, by decide⟩ (by decide) cwi_4 cfl_X4_130 ez11 rfl dX4_normalize_207 ?_
            refine cl_astore (lv' := [(9, cR v z11), (0, cR v x0), (3, .int (rI x3)), (4, .int (rI x4)), (7, cR v x7), (8, cR v x8), (10, .int (rI x10))]) hx hb dX4_normalize_210 hl (by decide) rfl (fun ls hl => ?_)
            obtain ⟨z12, ez12, iz12, hf⟩ := cc_ck_s hf
            refine cl_iinc (v := rI z12) (lv' := [(10, .int (rI z12)), (9, cR v z11), (0, cR v x0), (3, .int (rI x3)), (4, .int (rI x4)), (7, cR v x7), (8, cR v x8)]) hx hb dX4_normalize_212 hl (k := 6) rfl (by rw [ez12]; exact rI_add _ _) (by decide) rfl (fun ls hl => ?_)
            refine lv_goto (tgt := 168) hx hb dX4_normalize_215 (by decide) ?_
            exact ih σ10 x0 x3 x4 x7 x8 z11 z12 ix0 ix3 ix4 ix7 ix8 iz11 iz12 hf _ _ _ _ _ hw (cl_sub hl [2, 3, 4, 5, 6, 1, 0] rfl)
          · exact absurd h0 hk
        · rcases hf with ⟨hk, -⟩ | ⟨-, hf⟩
          · exact absurd hk h0
          · cases hf
            exact cw_xout B hnh h0 hw h1 h2 h3

set_option maxHeartbeats 4000000 in
set_option maxRecDepth 100000 in
theorem pw_X4_normalize_0 {v : cwE} {bd : cBd} {p : Program} {l : Launch} {e : Env} {s : State} {m : MethodId} {args : Array Value} {below : List Frame} {meth : Method} {c : Code} {d : Nat} {rec : Nat → CS → List Int → CO} {σ0 σ' : CS} {kd : Nat} {r : Int} (hbd : bd = cw_bd v) (hR : cw_Rec l v d rec) (htr : l.stackTraces = false) (hd5 : 5 ≤ d) (B : cw_B v RX4 p s m args meth c cX4_normalize 11 (some (.object "PureHouse$Node"))) (hnh : ∀ x ∈ c.exceptionTable.toList, False) : ∀ (σ : CS) (x0 x1 x2 x3 x4 : Int), inR x0 → inR x1 → inR x2 → inR x3 → inR x4 → pc_X4_normalize_0 rec bd σ x0 x1 x2 x3 x4 = some (σ', kd, r) → ∀ (H : Heap) (locs : List Loc) (cells slots : Nat) (ls : Array Slot), cw_W v s σ0 σ H locs cells slots → cl_has ls 11 [(0, cR v x0), (1, cR v x1), (2, cR v x2), (3, .int (rI x3)), (4, .int (rI x4))] → W p l e (cw_rm v (d + 1) σ0) s m args below meth c H locs cells slots (cw_Z below v σ0 σ' kd (some (cR v r)) args s) (F0 m 0 ls []) := by
  subst hbd
  obtain ⟨hx, hb, hr, hml, hown, hts, hlk, hK⟩ := id B
  intro σ x0 x1 x2 x3 x4 ix0 ix1 ix2 ix3 ix4 hf H locs cells slots ls hw hl
  unfold pc_X4_normalize_0 at hf
  refine cl_aload_n hx hb dX4_normalize_0 rfl (lv_at hl.1 0 rfl) ?_
  refine lv_iload hx hb dX4_normalize_1 (lv_at hl.1 4 rfl) ?_
  obtain ⟨qσ1, hf⟩ := cc_t_s hf
  obtain ⟨σ1, kv2, z3, hσ1, hf⟩ := cc_cl_s hf
  obtain ⟨iz3, mσ1⟩ := hR 85 σ [x0, x4] σ1 kv2 z3 hσ1
  have mσ1 : cw_Met l v yX4_look cX4_look 3 none d [cR v x0, .int (rI x4)] σ σ1 kv2 none := mσ1 ix0 ix4
  refine cw_cv (b := x0) (t := 5) (n := 1) (rest := []) (As := [.int (rI x4)]) B mσ1 qσ1 ⟨by decide, by decide⟩ cgo_yX4_look cml_X4_149 cin_yX4_look cse_yX4_look (by decide +kernel) (by decide) rfl hl.1.1 (Nat.le_of_ble_eq_true rfl) dX4_normalize_3 rfl hw (fun h0 H locs cells slots hw => ?_) (fun h0 H locs cells slots q ce hw h1 h2 h3 => ?_)
  · rcases hf with ⟨-, hf⟩ | ⟨hk, -⟩
    · skip
      refine cl_aload_n hx hb dX4_normalize_6 rfl (lv_at hl.1 0 rfl) ?_
      refine cl_aload_n hx hb dX4_normalize_7 rfl (lv_at hl.1 1 rfl) ?_
      refine cl_aload_n hx hb dX4_normalize_8 rfl (lv_at hl.1 2 rfl) ?_
      obtain ⟨qσ4, hf⟩ := cc_t_s hf
      obtain ⟨σ4, kv5, z6, hσ4, hf⟩ := cc_cl_s hf
      obtain ⟨iz6, mσ4⟩ := hR 83 σ1 [x0, x1, x2] σ4 kv5 z6 hσ4
      have mσ4 : cw_Met l v yX4_head cX4_head 9 (some (.object "PureHouse$Head")) d [cR v x0, cR v x1, cR v x2] σ1 σ4 kv5 (some (cR v z6)) := mσ4 ix0 ix1 ix2
      refine cw_cv (b := x0) (t := 5) (n := 2) (rest := []) (As := [cR v x1, cR v x2]) B mσ4 qσ4 ⟨by decide, by decide⟩ cgo_yX4_head cml_X4_52 cin_yX4_head cse_yX4_head (by decide +kernel) (by decide) rfl hl.1.1 (Nat.le_of_ble_eq_true rfl) dX4_normalize_9 rfl hw (fun h0 H locs cells slots hw => ?_) (fun h0 H locs cells slots q ce hw h1 h2 h3 => ?_)
      · rcases hf with ⟨-, hf⟩ | ⟨hk, -⟩
        · skip
          refine cl_astore (lv' := [(5, cR v z6), (0, cR v x0), (1, cR v x1), (2, cR v x2), (3, .int (rI x3)), (4, .int (rI x4))]) hx hb dX4_normalize_12 hl (by decide) rfl (fun ls hl => ?_)
          refine cl_aload hx hb dX4_normalize_14 (lv_at hl.1 0 rfl) ?_
          obtain ⟨z7, ez7, iz7, rz7, hf⟩ := cc_g_s hw hf
          refine cw_get (val := cR v z7) B hw rz7 ⟨by decide, by decide⟩ (by decide) cwi_2 cfl_X4_152 ez7 rfl dX4_normalize_16 ?_
          refine cl_astore (lv' := [(6, cR v z7), (5, cR v z6), (0, cR v x0), (1, cR v x1), (2, cR v x2), (3, .int (rI x3)), (4, .int (rI x4))]) hx hb dX4_normalize_19 hl (by decide) rfl (fun ls hl => ?_)
          refine cl_aload hx hb dX4_normalize_21 (lv_at hl.1 1 rfl) ?_
          obtain ⟨qσ8, hf⟩ := cc_t_s hf
          obtain ⟨σ8, kv9, z10, hσ8, hf⟩ := cc_cl_s hf
          obtain ⟨iz10, mσ8⟩ := hR 27 σ4 [z6] σ8 kv9 z10 hσ8
          have mσ8 : cw_Met l v yX1_isBinder cX1_isBinder 1 (some .boolean) d [cR v z6] σ4 σ8 kv9 (some (.int (rI z10))) := mσ8 iz6
          refine cw_cv (b := z6) (t := 2) (n := 0) (rest := []) (As := []) B mσ8 qσ8 ⟨by decide, by decide⟩ cgo_yX1_isBinder cml_X4_64 cin_yX1_isBinder cse_yX1_isBinder (by decide +kernel) (by decide) rfl hl.1.1 (Nat.le_of_ble_eq_true rfl) dX4_normalize_23 rfl hw (fun h0 H locs cells slots hw => ?_) (fun h0 H locs cells slots q ce hw h1 h2 h3 => ?_)
          · rcases hf with ⟨-, hf⟩ | ⟨hk, -⟩
            · skip
              refine rn_if_eq (a := z10) (tgt := 115) hx hb iz10 dX4_normalize_26 (by decide) (fun c11 => ?_) (fun c11 => ?_)
              · replace hf := cc_if_t hf c11
                obtain ⟨σ12, z13, eσ12, ez13, iz13, rσ12, hf⟩ := cc_n_s hf
                refine cw_new B hw cwt_7 rfl cwd_7 cnl_X4_104 cni_7 cnz_7 rσ12 eσ12 ez13 dX4_normalize_115 (fun H hw => ?_)
                refine lv_dup hx hb dX4_normalize_118 (cR_cat _) ?_
                refine cl_aload hx hb dX4_normalize_119 (lv_at hl.1 0 rfl) ?_
                obtain ⟨z14, ez14, iz14, rz14, hf⟩ := cc_g_s hw hf
                refine cw_get (val := .int (rI z14)) B hw rz14 ⟨by decide, by decide⟩ (by decide) cwi_7 cfl_X4_103 ez14 rfl dX4_normalize_121 ?_
                refine cl_aload hx hb dX4_normalize_124 (lv_at hl.1 1 rfl) ?_
                obtain ⟨z15, ez15, iz15, rz15, hf⟩ := cc_g_s hw hf
                refine cw_get (val := .int (rI z15)) B hw rz15 ⟨by decide, by decide⟩ (by decide) cwi_2 cfl_X4_160 ez15 rfl dX4_normalize_126 ?_
                obtain ⟨qσ16, hf⟩ := cc_t_s hf
                obtain ⟨σ16, z18, hσ16, hf⟩ := cc_ci_s hf
                obtain ⟨iz18, mσ16⟩ := hR 105 σ12 [z13, z14, z15] σ16 0 z18 hσ16
                have mσ16 : cw_Met l v yX6_init cX6_init 3 none d [cR v z13, .int (rI z14), .int (rI z15)] σ12 σ16 0 none := mσ16 iz13 iz14 iz15
                refine cw_ci (b := z13) (n := 2) (rest := [cR v z13]) (As := [.int (rI z14), .int (rI z15)]) B mσ16 qσ16.1 rfl cgo_yX6_init cml_X4_174 cin_yX6_init (by decide +kernel) (by decide) rfl hl.1.1 (cl_cs (cl_1r cl_10) (Nat.le_of_ble_eq_true rfl)) dX4_normalize_129 rfl hw (fun H locs cells slots hw => ?_)
                refine cl_astore (lv' := [(7, cR v z13), (6, cR v z7), (5, cR v z6), (0, cR v x0), (1, cR v x1), (2, cR v x2), (3, .int (rI x3)), (4, .int (rI x4))]) hx hb dX4_normalize_132 hl (by decide) rfl (fun ls hl => ?_)
                refine cl_aload hx hb dX4_normalize_134 (lv_at hl.1 2 rfl) ?_
                obtain ⟨z19, ez19, iz19, rz19, hf⟩ := cc_g_s hw hf
                refine cw_get (val := cR v z19) B hw rz19 ⟨by decide, by decide⟩ (by decide) cwi_2 cfl_X4_70 ez19 rfl dX4_normalize_136 ?_
                refine cl_ifnonnull (x := z19) (tgt := 145) hx hb dX4_normalize_139 (by decide) (fun c20 => ?_) (fun c20 => ?_)
                · replace hf := cc_if_t hf c20
                  refine cl_aload hx hb dX4_normalize_145 (lv_at hl.1 2 rfl) ?_
                  obtain ⟨z21, ez21, iz21, rz21, hf⟩ := cc_g_s hw hf
                  refine cw_get (val := cR v z21) B hw rz21 ⟨by decide, by decide⟩ (by decide) cwi_2 cfl_X4_70 ez21 rfl dX4_normalize_147 ?_
                  obtain ⟨σ22, kv23, z24, hσ22, hf⟩ := cc_cl_s hf
                  obtain ⟨iz24, mσ22⟩ := hR 79 σ16 [z21] σ22 kv23 z24 hσ22
                  have mσ22 : cw_Met l v yX3_lengthOf cX3_lengthOf 3 (some .int) d [cR v z21] σ16 σ22 kv23 (some (.int (rI z24))) := mσ22 iz21
                  refine cw_cs (n := 1) (rest := []) (As := [cR v z21]) B mσ22 cgo_yX3_lengthOf cml_X4_74 cst_yX3_lengthOf (by decide +kernel) (by decide) rfl hl.1.1 (Nat.le_of_ble_eq_true rfl) dX4_normalize_150 rfl hw (fun h0 H locs cells slots hw => ?_) (fun h0 H locs cells slots q ce hw h1 h2 h3 => ?_)
                  · rcases hf with ⟨-, hf⟩ | ⟨hk, -⟩
                    · skip
                      obtain ⟨σ25, z26, eσ25, ez26, iz26, qσ25, rσ25, hf⟩ := cc_na_s hf
                      refine cw_anew (t := 22) B hw (Or.inl ⟨rfl, rfl⟩) ccl_X4_104 iz24 qσ25.1 qσ25.2 rσ25 eσ25 ez26 dX4_normalize_153 (fun H hw => ?_)
                      refine cl_astore (lv' := [(8, cR v z26), (7, cR v z13), (6, cR v z7), (5, cR v z6), (0, cR v x0), (1, cR v x1), (2, cR v x2), (3, .int (rI x3)), (4, .int (rI x4))]) hx hb dX4_normalize_156 hl (by decide) rfl (fun ls hl => ?_)
                      refine cl_aload hx hb dX4_normalize_158 (lv_at hl.1 3 rfl) ?_
                      obtain ⟨z27, ez27, iz27, rz27, hf⟩ := cc_g_s hw hf
                      refine cw_get (val := cR v z27) B hw rz27 ⟨by decide, by decide⟩ (by decide) cwi_2 cfl_X4_70 ez27 rfl dX4_normalize_160 ?_
                      refine cl_astore (lv' := [(9, cR v z27), (8, cR v z26), (7, cR v z13), (6, cR v z7), (5, cR v z6), (0, cR v x0), (1, cR v x1), (2, cR v x2), (3, .int (rI x3)), (4, .int (rI x4))]) hx hb dX4_normalize_163 hl (by decide) rfl (fun ls hl => ?_)
                      refine lv_iconst (v := rI 0) hx hb dX4_normalize_165 rfl ?_
                      refine cl_istore (lv' := [(10, .int (rI 0)), (9, cR v z27), (8, cR v z26), (7, cR v z13), (6, cR v z7), (5, cR v z6), (0, cR v x0), (1, cR v x1), (2, cR v x2), (3, .int (rI x3)), (4, .int (rI x4))]) hx hb dX4_normalize_166 hl (by decide) rfl (fun ls hl => ?_)
                      exact pw_X4_normalize_168 rfl hR htr hd5 B hnh 2000000 σ25 x0 x3 x4 z13 z26 z27 0 ix0 ix3 ix4 iz13 iz26 iz27 ⟨by decide, by decide⟩ hf _ _ _ _ _ hw (cl_sub hl [6, 9, 10, 3, 2, 1, 0] rfl)
                    · exact absurd h0 hk
                  · rcases hf with ⟨hk, -⟩ | ⟨-, hf⟩
                    · exact absurd hk h0
                    · cases hf
                      exact cw_xout B hnh h0 hw h1 h2 h3
                · replace hf := cc_if_f hf c20
                  refine cl_aload hx hb dX4_normalize_142 (lv_at hl.1 0 rfl) ?_
                  exact cw_reta B hf hw dX4_normalize_144
              · replace hf := cc_if_f hf c11
                refine cl_aload hx hb dX4_normalize_29 (lv_at hl.1 1 rfl) ?_
                refine lv_iload_n hx hb dX4_normalize_31 rfl (lv_at hl.1 5 rfl) ?_
                obtain ⟨qσ28, hf⟩ := cc_t_s hf
                obtain ⟨σ28, kv29, z30, hσ28, hf⟩ := cc_cl_s hf
                obtain ⟨iz30, mσ28⟩ := hR 25 σ8 [z6, x3] σ28 kv29 z30 hσ28
                have mσ28 : cw_Met l v yX1_envOfSecond cX1_envOfSecond 2 (some (.object "PureHouse$Link")) d [cR v z6, .int (rI x3)] σ8 σ28 kv29 (some (cR v z30)) := mσ28 iz6 ix3
                refine cw_cv (b := z6) (t := 2) (n := 1) (rest := []) (As := [.int (rI x3)]) B mσ28 qσ28 ⟨by decide, by decide⟩ cgo_yX1_envOfSecond cml_X4_156 cin_yX1_envOfSecond cse_yX1_envOfSecond (by decide +kernel) (by decide) rfl hl.1.1 (Nat.le_of_ble_eq_true rfl) dX4_normalize_32 rfl hw (fun h0 H locs cells slots hw => ?_) (fun h0 H locs cells slots q ce hw h1 h2 h3 => ?_)
                · rcases hf with ⟨-, hf⟩ | ⟨hk, -⟩
                  · skip
                    refine cl_astore (lv' := [(7, cR v z30), (6, cR v z7), (5, cR v z6), (0, cR v x0), (1, cR v x1), (2, cR v x2), (3, .int (rI x3)), (4, .int (rI x4))]) hx hb dX4_normalize_35 hl (by decide) rfl (fun ls hl => ?_)
                    refine cl_aload_n hx hb dX4_normalize_37 rfl (lv_at hl.1 3 rfl) ?_
                    refine cl_aload hx hb dX4_normalize_38 (lv_at hl.1 1 rfl) ?_
                    obtain ⟨z31, ez31, iz31, rz31, hf⟩ := cc_g_s hw hf
                    refine cw_get (val := cR v z31) B hw rz31 ⟨by decide, by decide⟩ (by decide) cwi_7 cfl_X4_114 ez31 rfl dX4_normalize_40 ?_
                    refine cl_aload hx hb dX4_normalize_43 (lv_at hl.1 2 rfl) ?_
                    obtain ⟨z32, ez32, iz32, rz32, hf⟩ := cc_g_s hw hf
                    refine cw_get (val := cR v z32) B hw rz32 ⟨by decide, by decide⟩ (by decide) cwi_2 cfl_X4_155 ez32 rfl dX4_normalize_45 ?_
                    refine lv_iload_n hx hb dX4_normalize_48 rfl (lv_at hl.1 6 rfl) ?_
                    refine lv_iload hx hb dX4_normalize_49 (lv_at hl.1 7 rfl) ?_
                    refine lv_iconst (v := rI 1) hx hb dX4_normalize_51 rfl ?_
                    obtain ⟨z33, ez33, iz33, hf⟩ := cc_ck_s hf
                    refine rn_add hx hb ez33 dX4_normalize_52 ?_
                    obtain ⟨qσ34, hf⟩ := cc_t_s hf
                    obtain ⟨σ34, kv35, z36, hσ34, hf⟩ := cc_cl_s hf
                    obtain ⟨iz36, mσ34⟩ := hR 87 σ28 [x0, z31, z32, x3, z33] σ34 kv35 z36 hσ34
                    have mσ34 : cw_Met l v yX4_normalize cX4_normalize 11 (some (.object "PureHouse$Node")) d [cR v x0, cR v z31, cR v z32, .int (rI x3), .int (rI z33)] σ28 σ34 kv35 (some (cR v z36)) := mσ34 ix0 iz31 iz32 ix3 iz33
                    refine cw_cv (b := x0) (t := 5) (n := 4) (rest := []) (As := [cR v z31, cR v z32, .int (rI x3), .int (rI z33)]) B mσ34 qσ34 ⟨by decide, by decide⟩ cgo_yX4_normalize cml_X4_48 cin_yX4_normalize cse_yX4_normalize (by decide +kernel) (by decide) rfl hl.1.1 (Nat.le_of_ble_eq_true rfl) dX4_normalize_53 rfl hw (fun h0 H locs cells slots hw => ?_) (fun h0 H locs cells slots q ce hw h1 h2 h3 => ?_)
                    · rcases hf with ⟨-, hf⟩ | ⟨hk, -⟩
                      · skip
                        refine cl_astore (lv' := [(8, cR v z36), (7, cR v z30), (6, cR v z7), (5, cR v z6), (0, cR v x0), (1, cR v x1), (2, cR v x2), (3, .int (rI x3)), (4, .int (rI x4))]) hx hb dX4_normalize_56 hl (by decide) rfl (fun ls hl => ?_)
                        refine cl_aload_n hx hb dX4_normalize_58 rfl (lv_at hl.1 4 rfl) ?_
                        refine cl_aload hx hb dX4_normalize_59 (lv_at hl.1 2 rfl) ?_
                        obtain ⟨z37, ez37, iz37, rz37, hf⟩ := cc_g_s hw hf
                        refine cw_get (val := cR v z37) B hw rz37 ⟨by decide, by decide⟩ (by decide) cwi_7 cfl_X4_121 ez37 rfl dX4_normalize_61 ?_
                        refine cl_aload hx hb dX4_normalize_64 (lv_at hl.1 1 rfl) ?_
                        refine lv_iload_n hx hb dX4_normalize_66 rfl (lv_at hl.1 7 rfl) ?_
                        refine lv_iconst (v := rI 1) hx hb dX4_normalize_67 rfl ?_
                        obtain ⟨z38, ez38, iz38, hf⟩ := cc_ck_s hf
                        refine rn_add hx hb ez38 dX4_normalize_68 ?_
                        refine lv_iload hx hb dX4_normalize_69 (lv_at hl.1 8 rfl) ?_
                        refine lv_iconst (v := rI 1) hx hb dX4_normalize_71 rfl ?_
                        obtain ⟨z39, ez39, iz39, hf⟩ := cc_ck_s hf
                        refine rn_add hx hb ez39 dX4_normalize_72 ?_
                        obtain ⟨qσ40, hf⟩ := cc_t_s hf
                        obtain ⟨σ40, kv41, z42, hσ40, hf⟩ := cc_cl_s hf
                        obtain ⟨iz42, mσ40⟩ := hR 87 σ34 [x0, z37, z30, z38, z39] σ40 kv41 z42 hσ40
                        have mσ40 : cw_Met l v yX4_normalize cX4_normalize 11 (some (.object "PureHouse$Node")) d [cR v x0, cR v z37, cR v z30, .int (rI z38), .int (rI z39)] σ34 σ40 kv41 (some (cR v z42)) := mσ40 ix0 iz37 iz30 iz38 iz39
                        refine cw_cv (b := x0) (t := 5) (n := 4) (rest := []) (As := [cR v z37, cR v z30, .int (rI z38), .int (rI z39)]) B mσ40 qσ40 ⟨by decide, by decide⟩ cgo_yX4_normalize cml_X4_48 cin_yX4_normalize cse_yX4_normalize (by decide +kernel) (by decide) rfl hl.1.1 (Nat.le_of_ble_eq_true rfl) dX4_normalize_73 rfl hw (fun h0 H locs cells slots hw => ?_) (fun h0 H locs cells slots q ce hw h1 h2 h3 => ?_)
                        · rcases hf with ⟨-, hf⟩ | ⟨hk, -⟩
                          · skip
                            refine cl_astore (lv' := [(9, cR v z42), (8, cR v z36), (7, cR v z30), (6, cR v z7), (5, cR v z6), (0, cR v x0), (1, cR v x1), (2, cR v x2), (3, .int (rI x3)), (4, .int (rI x4))]) hx hb dX4_normalize_76 hl (by decide) rfl (fun ls hl => ?_)
                            refine cl_aload hx hb dX4_normalize_78 (lv_at hl.1 3 rfl) ?_
                            obtain ⟨z43, ez43, iz43, rz43, hf⟩ := cc_g_s hw hf
                            refine cw_get (val := .int (rI z43)) B hw rz43 ⟨by decide, by decide⟩ (by decide) cwi_7 cfl_X4_103 ez43 rfl dX4_normalize_80 ?_
                            refine cl_aload hx hb dX4_normalize_83 (lv_at hl.1 2 rfl) ?_
                            obtain ⟨z44, ez44, iz44, rz44, hf⟩ := cc_g_s hw hf
                            refine cw_get (val := .int (rI z44)) B hw rz44 ⟨by decide, by decide⟩ (by decide) cwi_4 cfl_X4_143 ez44 rfl dX4_normalize_85 ?_
                            refine cl_aload hx hb dX4_normalize_88 (lv_at hl.1 1 rfl) ?_
                            refine cl_aload hx hb dX4_normalize_90 (lv_at hl.1 0 rfl) ?_
                            obtain ⟨σ45, kv46, z47, hσ45, hf⟩ := cc_cl_s hf
                            obtain ⟨iz47, mσ45⟩ := hR 104 σ40 [z43, z44, z36, z42] σ45 kv46 z47 hσ45
                            have mσ45 : cw_Met l v yX6_binder cX6_binder 5 (some (.object "PureHouse$Node")) d [.int (rI z43), .int (rI z44), cR v z36, cR v z42] σ40 σ45 kv46 (some (cR v z47)) := mσ45 iz43 iz44 iz36 iz42
                            refine cw_cs (n := 4) (rest := []) (As := [.int (rI z43), .int (rI z44), cR v z36, cR v z42]) B mσ45 cgo_yX6_binder cml_X4_161 cst_yX6_binder (by decide +kernel) (by decide) rfl hl.1.1 (Nat.le_of_ble_eq_true rfl) dX4_normalize_92 rfl hw (fun h0 H locs cells slots hw => ?_) (fun h0 H locs cells slots q ce hw h1 h2 h3 => ?_)
                            · rcases hf with ⟨-, hf⟩ | ⟨hk, -⟩
                              · skip
                                refine cl_astore (lv' := [(10, cR v z47), (9, cR v z42), (8, cR v z36), (7, cR v z30), (6, cR v z7), (5, cR v z6), (0, cR v x0), (1, cR v x1), (2, cR v x2), (3, .int (rI x3)), (4, .int (rI x4))]) hx hb dX4_normalize_95 hl (by decide) rfl (fun ls hl => ?_)
                                refine cl_aload hx hb dX4_normalize_97 (lv_at hl.1 0 rfl) ?_
                                refine cl_aload hx hb dX4_normalize_99 (lv_at hl.1 4 rfl) ?_
                                obtain ⟨z48, ez48, iz48, rz48, hf⟩ := cc_g_s hw hf
                                refine cw_get (val := .int (rI z48)) B hw rz48 ⟨by decide, by decide⟩ (by decide) cwi_7 cfl_X4_165 ez48 rfl dX4_normalize_101 ?_
                                refine cl_aload hx hb dX4_normalize_104 (lv_at hl.1 4 rfl) ?_
                                obtain ⟨z49, ez49, iz49, rz49, hf⟩ := cc_g_s hw hf
                                refine cw_get (val := .int (rI z49)) B hw rz49 ⟨by decide, by decide⟩ (by decide) cwi_7 cfl_X4_168 ez49 rfl dX4_normalize_106 ?_
                                obtain ⟨qσ50, hf⟩ := cc_t_s hf
                                obtain ⟨σ50, kv51, z52, hσ50, hf⟩ := cc_cl_s hf
                                obtain ⟨iz52, mσ50⟩ := hR 106 σ45 [z47, z48, z49] σ50 kv51 z52 hσ50
                                have mσ50 : cw_Met l v yX6_keepSorts cX6_keepSorts 3 none d [cR v z47, .int (rI z48), .int (rI z49)] σ45 σ50 kv51 none := mσ50 iz47 iz48 iz49
                                refine cw_cv (b := z47) (t := 7) (n := 2) (rest := []) (As := [.int (rI z48), .int (rI z49)]) B mσ50 qσ50 ⟨by decide, by decide⟩ cgo_yX6_keepSorts cml_X4_171 cin_yX6_keepSorts cse_yX6_keepSorts (by decide +kernel) (by decide) rfl hl.1.1 (Nat.le_of_ble_eq_true rfl) dX4_normalize_109 rfl hw (fun h0 H locs cells slots hw => ?_) (fun h0 H locs cells slots q ce hw h1 h2 h3 => ?_)
                                · rcases hf with ⟨-, hf⟩ | ⟨hk, -⟩
                                  · skip
                                    refine cl_aload hx hb dX4_normalize_112 (lv_at hl.1 0 rfl) ?_
                                    exact cw_reta B hf hw dX4_normalize_114
                                  · exact absurd h0 hk
                                · rcases hf with ⟨hk, -⟩ | ⟨-, hf⟩
                                  · exact absurd hk h0
                                  · cases hf
                                    exact cw_xout B hnh h0 hw h1 h2 h3
                              · exact absurd h0 hk
                            · rcases hf with ⟨hk, -⟩ | ⟨-, hf⟩
                              · exact absurd hk h0
                              · cases hf
                                exact cw_xout B hnh h0 hw h1 h2 h3
                          · exact absurd h0 hk
                        · rcases hf with ⟨hk, -⟩ | ⟨-, hf⟩
                          · exact absurd hk h0
                          · cases hf
                            exact cw_xout B hnh h0 hw h1 h2 h3
                      · exact absurd h0 hk
                    · rcases hf with ⟨hk, -⟩ | ⟨-, hf⟩
                      · exact absurd hk h0
                      · cases hf
                        exact cw_xout B hnh h0 hw h1 h2 h3
                  · exact absurd h0 hk
                · rcases hf with ⟨hk, -⟩ | ⟨-, hf⟩
                  · exact absurd hk h0
                  · cases hf
                    exact cw_xout B hnh h0 hw h1 h2 h3
            · exact absurd h0 hk
          · rcases hf with ⟨hk, -⟩ | ⟨-, hf⟩
            · exact absurd hk h0
            · cases hf
              exact cw_xout B hnh h0 hw h1 h2 h3
        · exact absurd h0 hk
      · rcases hf with ⟨hk, -⟩ | ⟨-, hf⟩
        · exact absurd hk h0
        · cases hf
          exact cw_xout B hnh h0 hw h1 h2 h3
    · exact absurd h0 hk
  · rcases hf with ⟨hk, -⟩ | ⟨-, hf⟩
    · exact absurd hk h0
    · cases hf
      exact cw_xout B hnh h0 hw h1 h2 h3

set_option maxHeartbeats 4000000 in
set_option maxRecDepth 100000 in
theorem pm_X4_normalize {v : cwE} {bd : cBd} {l : Launch} {d : Nat} {rec : Nat → CS → List Int → CO} (hbd : bd = cw_bd v) (hR : cw_Rec l v d rec) (htr : l.stackTraces = false) (hd5 : 5 ≤ d) (σ σ' : CS) (x0 x1 x2 x3 x4 : Int) (kd : Nat) (r : Int) (ix0 : inR x0) (ix1 : inR x1) (ix2 : inR x2) (ix3 : inR x3) (ix4 : inR x4) (hf : pc_X4_normalize_0 rec bd σ x0 x1 x2 x3 x4 = some (σ', kd, r)) : cw_Met l v yX4_normalize cX4_normalize 11 (some (.object "PureHouse$Node")) (d + 1) [cR v x0, cR v x1, cR v x2, .int (rI x3), .int (rI x4)] σ σ' kd (some (cR v r)) := by
  refine cw_ofW (by decide +kernel) ?_
  intro p e s m args below meth c s₁ B hml hv
  obtain ⟨rfl, hM, hK⟩ := hv
  have hts := atoms_spec (ws := Cond.code yX4_normalize cX4_normalize 11 (some (.object "PureHouse$Node")) :: cw_bw) B.pre
  have hB : cw_B v RX4 p s m _ meth c cX4_normalize 11 (some (.object "PureHouse$Node")) := ⟨B.exec, B.bytes, B.returns, hml, findClass_of_methodNamed B.named, fun w h => hts w (List.mem_cons_of_mem _ h), B.notSynchronized, hK⟩
  have hnh := cc_nh B (hts _ List.mem_cons_self)
  rw [lg_entry_eq]
  obtain ⟨ls, hls, hl⟩ := cl_ent [cR v x0, cR v x1, cR v x2, .int (rI x3), .int (rI x4)] 11 (cl_1r (cl_1r (cl_1r (cl_1i (cl_1i cl_10))))) (Nat.le_of_ble_eq_true rfl)
  rw [hls]
  exact pw_X4_normalize_0 hbd hR htr hd5 hB hnh σ x0 x1 x2 x3 x4 ix0 ix1 ix2 ix3 ix4 hf _ _ _ _ _ (cw_W0 hM) (cl_sub hl [0, 1, 2, 3, 4] rfl)

set_option maxHeartbeats 4000000 in
set_option maxRecDepth 100000 in
theorem pw_X4_put_23 {v : cwE} {bd : cBd} {p : Program} {l : Launch} {e : Env} {s : State} {m : MethodId} {args : Array Value} {below : List Frame} {meth : Method} {c : Code} {d : Nat} {rec : Nat → CS → List Int → CO} {σ0 σ' : CS} {kd : Nat} {r : Int} (hbd : bd = cw_bd v) (hR : cw_Rec l v d rec) (htr : l.stackTraces = false) (hd5 : 5 ≤ d) (B : cw_B v RX4 p s m args meth c cX4_put 2 none) (hnh : ∀ x ∈ c.exceptionTable.toList, False) : ∀ (σ : CS) (x0 : Int), inR x0 → pc_X4_put_23 rec bd σ x0 = some (σ', kd, r) → ∀ (H : Heap) (locs : List Loc) (cells slots : Nat) (ls : Array Slot), cw_W v s σ0 σ H locs cells slots → cl_has ls 2 [(0, cR v x0)] → W p l e (cw_rm v (d + 1) σ0) s m args below meth c H locs cells slots (cw_Z below v σ0 σ' kd none args s) (F0 m 23 ls []) := by
  subst hbd
  obtain ⟨hx, hb, hr, hml, hown, hts, hlk, hK⟩ := id B
  intro σ x0 ix0 hf H locs cells slots ls hw hl
  unfold pc_X4_put_23 at hf
  refine cl_aload_n hx hb dX4_put_23 rfl (lv_at hl.1 0 rfl) ?_
  refine lv_dup hx hb dX4_put_24 (cR_cat _) ?_
  obtain ⟨z1, ez1, iz1, rz1, hf⟩ := cc_g_s hw hf
  refine cw_get (val := .int (rI z1)) B hw rz1 ⟨by decide, by decide⟩ (by decide) cwi_5 cfl_X4_29 ez1 rfl dX4_put_25 ?_
  refine lv_iconst (v := rI 1) hx hb dX4_put_28 rfl ?_
  obtain ⟨z2, ez2, iz2, hf⟩ := cc_ck_s hf
  refine rn_add hx hb ez2 dX4_put_29 ?_
  obtain ⟨σ3, eσ3, rσ3, hf⟩ := cc_p_s hf
  refine cw_put B hw rσ3 cwt_5 (by decide) rfl cfl_X4_29 iz2 eσ3 rfl (cw_fv_n rfl rfl) dX4_put_30 (fun H locs hw => ?_)
  exact cw_retv B hf hw dX4_put_33

set_option maxHeartbeats 4000000 in
set_option maxRecDepth 100000 in
theorem pw_X4_put_0 {v : cwE} {bd : cBd} {p : Program} {l : Launch} {e : Env} {s : State} {m : MethodId} {args : Array Value} {below : List Frame} {meth : Method} {c : Code} {d : Nat} {rec : Nat → CS → List Int → CO} {σ0 σ' : CS} {kd : Nat} {r : Int} (hbd : bd = cw_bd v) (hR : cw_Rec l v d rec) (htr : l.stackTraces = false) (hd5 : 5 ≤ d) (B : cw_B v RX4 p s m args meth c cX4_put 2 none) (hnh : ∀ x ∈ c.exceptionTable.toList, False) : ∀ (σ : CS) (x0 x1 : Int), inR x0 → inR x1 → pc_X4_put_0 rec bd σ x0 x1 = some (σ', kd, r) → ∀ (H : Heap) (locs : List Loc) (cells slots : Nat) (ls : Array Slot), cw_W v s σ0 σ H locs cells slots → cl_has ls 2 [(0, cR v x0), (1, .int (rI x1))] → W p l e (cw_rm v (d + 1) σ0) s m args below meth c H locs cells slots (cw_Z below v σ0 σ' kd none args s) (F0 m 0 ls []) := by
  subst hbd
  obtain ⟨hx, hb, hr, hml, hown, hts, hlk, hK⟩ := id B
  intro σ x0 x1 ix0 ix1 hf H locs cells slots ls hw hl
  unfold pc_X4_put_0 at hf
  refine cl_aload_n hx hb dX4_put_0 rfl (lv_at hl.1 0 rfl) ?_
  obtain ⟨z1, ez1, iz1, rz1, hf⟩ := cc_g_s hw hf
  refine cw_get (val := .int (rI z1)) B hw rz1 ⟨by decide, by decide⟩ (by decide) cwi_5 cfl_X4_29 ez1 rfl dX4_put_1 ?_
  refine cl_aload_n hx hb dX4_put_4 rfl (lv_at hl.1 0 rfl) ?_
  obtain ⟨z2, ez2, iz2, rz2, hf⟩ := cc_g_s hw hf
  refine cw_get (val := cR v z2) B hw rz2 ⟨by decide, by decide⟩ (by decide) cwi_5 cfl_X4_25 ez2 rfl dX4_put_5 ?_
  obtain ⟨z3, ez3, iz3, rz3, hf⟩ := cc_l_s hf
  refine cw_len B hw rz3 (by decide) ez3 iz3 dX4_put_8 ?_
  refine rn_icmp_ge (a := z1) (b := z3) (tgt := 23) hx hb iz1 iz3 dX4_put_9 (by decide) (fun c4 => ?_) (fun c4 => ?_)
  · replace hf := cc_if_t hf c4
    exact pw_X4_put_23 rfl hR htr hd5 B hnh σ x0 ix0 hf _ _ _ _ _ hw (cl_sub hl [0] rfl)
  · replace hf := cc_if_f hf c4
    refine cl_aload_n hx hb dX4_put_12 rfl (lv_at hl.1 0 rfl) ?_
    obtain ⟨z5, ez5, iz5, rz5, hf⟩ := cc_g_s hw hf
    refine cw_get (val := cR v z5) B hw rz5 ⟨by decide, by decide⟩ (by decide) cwi_5 cfl_X4_25 ez5 rfl dX4_put_13 ?_
    refine cl_aload_n hx hb dX4_put_16 rfl (lv_at hl.1 0 rfl) ?_
    obtain ⟨z6, ez6, iz6, rz6, hf⟩ := cc_g_s hw hf
    refine cw_get (val := .int (rI z6)) B hw rz6 ⟨by decide, by decide⟩ (by decide) cwi_5 cfl_X4_29 ez6 rfl dX4_put_17 ?_
    refine lv_iload_n hx hb dX4_put_20 rfl (lv_at hl.1 1 rfl) ?_
    obtain ⟨z7, ez7, iz7, hf⟩ := cc_nm_s hf
    refine lv_i2b hx hb dX4_put_21 rfl ?_
    refine rn_top ez7 ?_
    obtain ⟨σ8, eσ8, rσ8, bσ8, hf⟩ := cc_w_s hf
    refine cw_astB B hw rσ8 iz6 bσ8 eσ8 dX4_put_22 (fun H locs hw => ?_)
    exact pw_X4_put_23 rfl hR htr hd5 B hnh σ8 x0 ix0 hf _ _ _ _ _ hw (cl_sub hl [0] rfl)

set_option maxHeartbeats 4000000 in
set_option maxRecDepth 100000 in
theorem pm_X4_put {v : cwE} {bd : cBd} {l : Launch} {d : Nat} {rec : Nat → CS → List Int → CO} (hbd : bd = cw_bd v) (hR : cw_Rec l v d rec) (htr : l.stackTraces = false) (hd5 : 5 ≤ d) (σ σ' : CS) (x0 x1 : Int) (kd : Nat) (r : Int) (ix0 : inR x0) (ix1 : inR x1) (hf : pc_X4_put_0 rec bd σ x0 x1 = some (σ', kd, r)) : cw_Met l v yX4_put cX4_put 2 none (d + 1) [cR v x0, .int (rI x1)] σ σ' kd none := by
  refine cw_ofW (by decide +kernel) ?_
  intro p e s m args below meth c s₁ B hml hv
  obtain ⟨rfl, hM, hK⟩ := hv
  have hts := atoms_spec (ws := Cond.code yX4_put cX4_put 2 none :: cw_bw) B.pre
  have hB : cw_B v RX4 p s m _ meth c cX4_put 2 none := ⟨B.exec, B.bytes, B.returns, hml, findClass_of_methodNamed B.named, fun w h => hts w (List.mem_cons_of_mem _ h), B.notSynchronized, hK⟩
  have hnh := cc_nh B (hts _ List.mem_cons_self)
  rw [lg_entry_eq]
  obtain ⟨ls, hls, hl⟩ := cl_ent [cR v x0, .int (rI x1)] 2 (cl_1r (cl_1i cl_10)) (Nat.le_of_ble_eq_true rfl)
  rw [hls]
  exact pw_X4_put_0 hbd hR htr hd5 hB hnh σ x0 x1 ix0 ix1 hf _ _ _ _ _ (cw_W0 hM) (cl_sub hl [0, 1] rfl)

set_option maxHeartbeats 4000000 in
set_option maxRecDepth 100000 in
theorem pw_X4_putAnswer_14 {v : cwE} {bd : cBd} {p : Program} {l : Launch} {e : Env} {s : State} {m : MethodId} {args : Array Value} {below : List Frame} {meth : Method} {c : Code} {d : Nat} {rec : Nat → CS → List Int → CO} {σ0 σ' : CS} {kd : Nat} {r : Int} (hbd : bd = cw_bd v) (hR : cw_Rec l v d rec) (htr : l.stackTraces = false) (hd5 : 5 ≤ d) (B : cw_B v RX4 p s m args meth c cX4_putAnswer 4 none) (hnh : ∀ x ∈ c.exceptionTable.toList, False) : ∀ (n : Nat) (σ : CS) (x0 x2 x3 : Int), inR x0 → inR x2 → inR x3 → pc_X4_putAnswer_14 rec bd n σ x0 x2 x3 = some (σ', kd, r) → ∀ (H : Heap) (locs : List Loc) (cells slots : Nat) (ls : Array Slot), cw_W v s σ0 σ H locs cells slots → cl_has ls 4 [(0, cR v x0), (2, cR v x2), (3, .int (rI x3))] → W p l e (cw_rm v (d + 1) σ0) s m args below meth c H locs cells slots (cw_Z below v σ0 σ' kd none args s) (F0 m 14 ls []) := by
  subst hbd
  obtain ⟨hx, hb, hr, hml, hown, hts, hlk, hK⟩ := id B
  intro n
  induction n with
  | zero => intro σ x0 x2 x3 ix0 ix2 ix3 hf; cases hf
  | succ n ih =>
    intro σ x0 x2 x3 ix0 ix2 ix3 hf H locs cells slots ls hw hl
    unfold pc_X4_putAnswer_14 at hf
    refine lv_iload_n hx hb dX4_putAnswer_14 rfl (lv_at hl.1 2 rfl) ?_
    refine cl_aload_n hx hb dX4_putAnswer_15 rfl (lv_at hl.1 1 rfl) ?_
    obtain ⟨z1, iz1, mz1, hf⟩ := cc_sn_s (l := l) (d := d) hd5 hK hf
    refine cw_cstr (n := 0) (rest := [.int (rI x3)]) (As := []) B mz1 cgj_length cjl_X4_208 cji_length cjs_length (by decide +kernel) (by decide) rfl hl.1.1 (Nat.le_of_ble_eq_true rfl) dX4_putAnswer_16 rfl hw ?_
    refine rn_icmp_ge (a := x3) (b := z1) (tgt := 37) hx hb ix3 iz1 dX4_putAnswer_19 (by decide) (fun c2 => ?_) (fun c2 => ?_)
    · replace hf := cc_if_t hf c2
      refine cl_aload_n hx hb dX4_putAnswer_37 rfl (lv_at hl.1 0 rfl) ?_
      refine lv_bipush (v := rI 10) hx hb dX4_putAnswer_38 (by decide +kernel) ?_
      obtain ⟨qσ3, hf⟩ := cc_t_s hf
      obtain ⟨σ3, kv4, z5, hσ3, hf⟩ := cc_cl_s hf
      obtain ⟨iz5, mσ3⟩ := hR 88 σ [x0, 10] σ3 kv4 z5 hσ3
      have mσ3 : cw_Met l v yX4_put cX4_put 2 none d [cR v x0, .int (rI 10)] σ σ3 kv4 none := mσ3 ix0 ⟨by decide, by decide⟩
      refine cw_cv (b := x0) (t := 5) (n := 1) (rest := []) (As := [.int (rI 10)]) B mσ3 qσ3 ⟨by decide, by decide⟩ cgo_yX4_put cml_X4_60 cin_yX4_put cse_yX4_put (by decide +kernel) (by decide) rfl hl.1.1 (Nat.le_of_ble_eq_true rfl) dX4_putAnswer_40 rfl hw (fun h0 H locs cells slots hw => ?_) (fun h0 H locs cells slots q ce hw h1 h2 h3 => ?_)
      · rcases hf with ⟨-, hf⟩ | ⟨hk, -⟩
        · skip
          exact cw_retv B hf hw dX4_putAnswer_43
        · exact absurd h0 hk
      · rcases hf with ⟨hk, -⟩ | ⟨-, hf⟩
        · exact absurd hk h0
        · cases hf
          exact cw_xout B hnh h0 hw h1 h2 h3
    · replace hf := cc_if_f hf c2
      refine cl_aload_n hx hb dX4_putAnswer_22 rfl (lv_at hl.1 0 rfl) ?_
      refine cl_aload_n hx hb dX4_putAnswer_23 rfl (lv_at hl.1 1 rfl) ?_
      refine lv_iload_n hx hb dX4_putAnswer_24 rfl (lv_at hl.1 2 rfl) ?_
      obtain ⟨z6, iz6, mz6, hf⟩ := cc_sc_s (l := l) (d := d) hd5 hK hf
      refine cw_cstr (n := 1) (rest := [cR v x0]) (As := [.int (rI x3)]) B mz6 cgj_charAt cjl_X4_214 cji_charAt cjs_charAt (by decide +kernel) (by decide) rfl hl.1.1 (cl_cs (cl_1r cl_10) (Nat.le_of_ble_eq_true rfl)) dX4_putAnswer_25 rfl hw ?_
      obtain ⟨qσ7, hf⟩ := cc_t_s hf
      obtain ⟨σ7, kv8, z9, hσ7, hf⟩ := cc_cl_s hf
      obtain ⟨iz9, mσ7⟩ := hR 88 σ [x0, z6] σ7 kv8 z9 hσ7
      have mσ7 : cw_Met l v yX4_put cX4_put 2 none d [cR v x0, .int (rI z6)] σ σ7 kv8 none := mσ7 ix0 iz6
      refine cw_cv (b := x0) (t := 5) (n := 1) (rest := []) (As := [.int (rI z6)]) B mσ7 qσ7 ⟨by decide, by decide⟩ cgo_yX4_put cml_X4_60 cin_yX4_put cse_yX4_put (by decide +kernel) (by decide) rfl hl.1.1 (Nat.le_of_ble_eq_true rfl) dX4_putAnswer_28 rfl hw (fun h0 H locs cells slots hw => ?_) (fun h0 H locs cells slots q ce hw h1 h2 h3 => ?_)
      · rcases hf with ⟨-, hf⟩ | ⟨hk, -⟩
        · skip
          obtain ⟨z10, ez10, iz10, hf⟩ := cc_ck_s hf
          refine cl_iinc (v := rI z10) (lv' := [(3, .int (rI z10)), (0, cR v x0), (2, cR v x2)]) hx hb dX4_putAnswer_31 hl (k := 2) rfl (by rw [ez10]; exact rI_add _ _) (by decide) rfl (fun ls hl => ?_)
          refine lv_goto (tgt := 14) hx hb dX4_putAnswer_34 (by decide) ?_
          exact ih σ7 x0 x2 z10 ix0 ix2 iz10 hf _ _ _ _ _ hw (cl_sub hl [1, 2, 0] rfl)
        · exact absurd h0 hk
      · rcases hf with ⟨hk, -⟩ | ⟨-, hf⟩
        · exact absurd hk h0
        · cases hf
          exact cw_xout B hnh h0 hw h1 h2 h3

set_option maxHeartbeats 4000000 in
set_option maxRecDepth 100000 in
theorem pw_X4_putAnswer_11 {v : cwE} {bd : cBd} {p : Program} {l : Launch} {e : Env} {s : State} {m : MethodId} {args : Array Value} {below : List Frame} {meth : Method} {c : Code} {d : Nat} {rec : Nat → CS → List Int → CO} {σ0 σ' : CS} {kd : Nat} {r : Int} (hbd : bd = cw_bd v) (hR : cw_Rec l v d rec) (htr : l.stackTraces = false) (hd5 : 5 ≤ d) (B : cw_B v RX4 p s m args meth c cX4_putAnswer 4 none) (hnh : ∀ x ∈ c.exceptionTable.toList, False) : ∀ (σ : CS) (x0 t0 : Int), inR x0 → inR t0 → pc_X4_putAnswer_11 rec bd σ x0 t0 = some (σ', kd, r) → ∀ (H : Heap) (locs : List Loc) (cells slots : Nat) (ls : Array Slot), cw_W v s σ0 σ H locs cells slots → cl_has ls 4 [(0, cR v x0)] → W p l e (cw_rm v (d + 1) σ0) s m args below meth c H locs cells slots (cw_Z below v σ0 σ' kd none args s) (F0 m 11 ls [cR v t0]) := by
  subst hbd
  obtain ⟨hx, hb, hr, hml, hown, hts, hlk, hK⟩ := id B
  intro σ x0 t0 ix0 it0 hf H locs cells slots ls hw hl
  unfold pc_X4_putAnswer_11 at hf
  refine cl_astore_n (lv' := [(2, cR v t0), (0, cR v x0)]) hx hb dX4_putAnswer_11 rfl hl (by decide) rfl (fun ls hl => ?_)
  refine lv_iconst (v := rI 0) hx hb dX4_putAnswer_12 rfl ?_
  refine cl_istore_n (lv' := [(3, .int (rI 0)), (2, cR v t0), (0, cR v x0)]) hx hb dX4_putAnswer_13 rfl hl (by decide) rfl (fun ls hl => ?_)
  exact pw_X4_putAnswer_14 rfl hR htr hd5 B hnh 2000000 σ x0 t0 0 ix0 it0 ⟨by decide, by decide⟩ hf _ _ _ _ _ hw (cl_sub hl [2, 1, 0] rfl)

