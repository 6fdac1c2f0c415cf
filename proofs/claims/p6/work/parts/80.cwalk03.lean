set_option maxHeartbeats 4000000 in
set_option maxRecDepth 100000 in
theorem pm_X4_look {v : cwE} {bd : Nat × Nat} {l : Launch} {d : Nat} {rec : Nat → CS → List Int → CO} (hbd : bd = (v.2.2.1, v.2.2.2.1)) (hR : cw_Rec l v d rec) (htr : l.stackTraces = false) (hd5 : 5 ≤ d) (σ σ' : CS) (x0 x1 : Int) (kd : Nat) (r : Int) (ix0 : inR x0) (ix1 : inR x1) (hf : pc_X4_look_0 rec bd σ x0 x1 = some (σ', kd, r)) : cw_Met l v yX4_look cX4_look 2 none (d + 1) [cR x0, .int (rI x1)] σ σ' kd none := by
  refine cw_ofW (by decide +kernel) ?_
  intro p e s m args below meth c s₁ B hml hv
  obtain ⟨rfl, hM, hK⟩ := hv
  have hts := atoms_spec (ws := Cond.code yX4_look cX4_look 2 none :: cw_bw) B.pre
  have hB : cw_B v RX4 p s m _ meth c cX4_look 2 none := ⟨B.exec, B.bytes, B.returns, hml, findClass_of_methodNamed B.named, fun w h => hts w (List.mem_cons_of_mem _ h), B.notSynchronized, hK⟩
  have hnh := cc_nh B (hts _ List.mem_cons_self)
  rw [lg_entry_eq]
  obtain ⟨ls, hls, hl⟩ := cl_ent [cR x0, .int (rI x1)] 2 (cl_1r (cl_1i cl_10)) (Nat.le_of_ble_eq_true rfl)
  rw [hls]
  exact pw_X4_look_0 hbd hR htr hd5 hB hnh σ x0 x1 ix0 ix1 hf _ _ _ _ _ (cw_W0 hM) (cl_sub hl [0, 1] rfl)

set_option maxHeartbeats 4000000 in
set_option maxRecDepth 100000 in
theorem pw_X4_pushParts_9 {v : cwE} {bd : Nat × Nat} {p : Program} {l : Launch} {e : Env} {s : State} {m : MethodId} {args : Array Value} {below : List Frame} {meth : Method} {c : Code} {d : Nat} {rec : Nat → CS → List Int → CO} {σ0 σ' : CS} {kd : Nat} {r : Int} (hbd : bd = (v.2.2.1, v.2.2.2.1)) (hR : cw_Rec l v d rec) (htr : l.stackTraces = false) (hd5 : 5 ≤ d) (B : cw_B v RX4 p s m args meth c cX4_pushParts 6 (some (.object "PureHouse$Link"))) (hnh : ∀ x ∈ c.exceptionTable.toList, False) : ∀ (n : Nat) (σ : CS) (x0 x1 x2 x4 x5 : Int), inR x0 → inR x1 → inR x2 → inR x4 → inR x5 → pc_X4_pushParts_9 rec bd n σ x0 x1 x2 x4 x5 = some (σ', kd, r) → ∀ (H : Heap) (locs : List Loc) (cells slots : Nat) (ls : Array Slot), cw_W v s σ0 σ H locs cells slots → cl_has ls 6 [(0, cR x0), (1, cR x1), (2, cR x2), (4, cR x4), (5, .int (rI x5))] → W p l e (cw_rm v (d + 1) σ0) s m args below meth c H locs cells slots (cw_Z below v σ0 σ' kd (some (cR r)) args s) (F0 m 9 ls []) := by
  subst hbd
  obtain ⟨hx, hb, hr, hml, hown, hts, hlk, hK⟩ := id B
  intro n
  induction n with
  | zero => intro σ x0 x1 x2 x4 x5 ix0 ix1 ix2 ix4 ix5 hf; cases hf
  | succ n ih =>
    intro σ x0 x1 x2 x4 x5 ix0 ix1 ix2 ix4 ix5 hf H locs cells slots ls hw hl
    unfold pc_X4_pushParts_9 at hf
    refine lv_iload hx hb dX4_pushParts_9 (lv_at hl.1 4 rfl) ?_
    refine rn_if_lt (a := x5) (tgt := 37) hx hb ix5 dX4_pushParts_11 (by decide) (fun c1 => ?_) (fun c1 => ?_)
    · replace hf := cc_if_t hf c1
      refine cl_aload hx hb dX4_pushParts_37 (lv_at hl.1 3 rfl) ?_
      exact cw_reta B hf hw dX4_pushParts_39
    · replace hf := cc_if_f hf c1
      refine cl_aload_n hx hb dX4_pushParts_14 rfl (lv_at hl.1 0 rfl) ?_
      refine lv_iconst (v := rI 4) hx hb dX4_pushParts_15 rfl ?_
      obtain ⟨qσ2, hf⟩ := cc_t_s hf
      obtain ⟨σ2, kv3, z4, hσ2, hf⟩ := cc_cl_s hf
      obtain ⟨iz4, mσ2⟩ := hR 48 σ [x0, 4] σ2 kv3 z4 hσ2
      have mσ2 : cw_Met l v yX4_spend cX4_spend 2 none d [cR x0, .int (rI 4)] σ σ2 kv3 none := mσ2 ix0 ⟨by decide, by decide⟩
      refine cw_cv (b := x0) (t := 5) (n := 1) (rest := []) (As := [.int (rI 4)]) B mσ2 qσ2 ⟨by decide, by decide⟩ cgo_yX4_spend cml_4_96 cin_yX4_spend cse_yX4_spend (by decide +kernel) (by decide) rfl hl.1.1 (Nat.le_of_ble_eq_true rfl) dX4_pushParts_16 rfl hw (fun h0 H locs cells slots hw => ?_) (fun h0 H locs cells slots q ce hw h1 h2 h3 => ?_)
      · rcases hf with ⟨-, hf⟩ | ⟨hk, -⟩
        · skip
          refine cl_aload_n hx hb dX4_pushParts_19 rfl (lv_at hl.1 1 rfl) ?_
          refine lv_iload hx hb dX4_pushParts_20 (lv_at hl.1 4 rfl) ?_
          obtain ⟨z5, ez5, iz5, rz5, bz5, hf⟩ := cc_r_s hw hf
          refine cw_aldR B hw rz5 ix5 bz5 ez5 dX4_pushParts_22 ?_
          refine cl_aload_n hx hb dX4_pushParts_23 rfl (lv_at hl.1 2 rfl) ?_
          refine cl_aload hx hb dX4_pushParts_24 (lv_at hl.1 3 rfl) ?_
          obtain ⟨σ6, kv7, z8, hσ6, hf⟩ := cc_cl_s hf
          obtain ⟨iz8, mσ6⟩ := hR 29 σ2 [z5, x2, x4] σ6 kv7 z8 hσ6
          have mσ6 : cw_Met l v yX3_part cX3_part 3 (some (.object "PureHouse$Link")) d [cR z5, cR x2, cR x4] σ2 σ6 kv7 (some (cR z8)) := mσ6 iz5 ix2 ix4
          refine cw_cs (n := 3) (rest := []) (As := [cR z5, cR x2, cR x4]) B mσ6 cgo_yX3_part cml_4_150 cst_yX3_part (by decide +kernel) (by decide) rfl hl.1.1 (Nat.le_of_ble_eq_true rfl) dX4_pushParts_26 rfl hw (fun h0 H locs cells slots hw => ?_) (fun h0 H locs cells slots q ce hw h1 h2 h3 => ?_)
          · rcases hf with ⟨-, hf⟩ | ⟨hk, -⟩
            · skip
              refine cl_astore (lv' := [(4, cR z8), (0, cR x0), (1, cR x1), (2, cR x2), (5, .int (rI x5))]) hx hb dX4_pushParts_29 hl (by decide) rfl (fun ls hl => ?_)
              obtain ⟨z9, ez9, iz9, hf⟩ := cc_ck_s hf
              refine cl_iinc (v := rI z9) (lv' := [(5, .int (rI z9)), (4, cR z8), (0, cR x0), (1, cR x1), (2, cR x2)]) hx hb dX4_pushParts_31 hl (k := 4) rfl (by rw [ez9]; exact rI_add _ _) (by decide) rfl (fun ls hl => ?_)
              refine lv_goto (tgt := 9) hx hb dX4_pushParts_34 (by decide) ?_
              exact ih σ6 x0 x1 x2 z8 z9 ix0 ix1 ix2 iz8 iz9 hf _ _ _ _ _ hw (cl_sub hl [2, 3, 4, 1, 0] rfl)
            · exact absurd h0 hk
          · rcases hf with ⟨hk, -⟩ | ⟨-, hf⟩
            · exact absurd hk h0
            · cases hf
              exact cw_xout B hnh h0 hw h1 h2 h3
        · exact absurd h0 hk
      · rcases hf with ⟨hk, -⟩ | ⟨-, hf⟩
        · exact absurd hk h0
        · cases hf
          exact cw_xout B hnh h0 hw h1 h2 h3

set_option maxHeartbeats 4000000 in
set_option maxRecDepth 100000 in
theorem pw_X4_pushParts_0 {v : cwE} {bd : Nat × Nat} {p : Program} {l : Launch} {e : Env} {s : State} {m : MethodId} {args : Array Value} {below : List Frame} {meth : Method} {c : Code} {d : Nat} {rec : Nat → CS → List Int → CO} {σ0 σ' : CS} {kd : Nat} {r : Int} (hbd : bd = (v.2.2.1, v.2.2.2.1)) (hR : cw_Rec l v d rec) (htr : l.stackTraces = false) (hd5 : 5 ≤ d) (B : cw_B v RX4 p s m args meth c cX4_pushParts 6 (some (.object "PureHouse$Link"))) (hnh : ∀ x ∈ c.exceptionTable.toList, False) : ∀ (σ : CS) (x0 x1 x2 x3 : Int), inR x0 → inR x1 → inR x2 → inR x3 → pc_X4_pushParts_0 rec bd σ x0 x1 x2 x3 = some (σ', kd, r) → ∀ (H : Heap) (locs : List Loc) (cells slots : Nat) (ls : Array Slot), cw_W v s σ0 σ H locs cells slots → cl_has ls 6 [(0, cR x0), (1, cR x1), (2, cR x2), (3, cR x3)] → W p l e (cw_rm v (d + 1) σ0) s m args below meth c H locs cells slots (cw_Z below v σ0 σ' kd (some (cR r)) args s) (F0 m 0 ls []) := by
  subst hbd
  obtain ⟨hx, hb, hr, hml, hown, hts, hlk, hK⟩ := id B
  intro σ x0 x1 x2 x3 ix0 ix1 ix2 ix3 hf H locs cells slots ls hw hl
  unfold pc_X4_pushParts_0 at hf
  refine cl_aload_n hx hb dX4_pushParts_0 rfl (lv_at hl.1 3 rfl) ?_
  refine cl_astore (lv' := [(4, cR x3), (0, cR x0), (1, cR x1), (2, cR x2), (3, cR x3)]) hx hb dX4_pushParts_1 hl (by decide) rfl (fun ls hl => ?_)
  refine cl_aload_n hx hb dX4_pushParts_3 rfl (lv_at hl.1 2 rfl) ?_
  obtain ⟨z1, ez1, iz1, rz1, hf⟩ := cc_l_s hf
  refine cw_len B hw rz1 (by decide) ez1 iz1 dX4_pushParts_4 ?_
  refine lv_iconst (v := rI 1) hx hb dX4_pushParts_5 rfl ?_
  obtain ⟨z2, ez2, iz2, hf⟩ := cc_ck_s hf
  refine rn_sub hx hb ez2 dX4_pushParts_6 ?_
  refine cl_istore (lv' := [(5, .int (rI z2)), (4, cR x3), (0, cR x0), (1, cR x1), (2, cR x2), (3, cR x3)]) hx hb dX4_pushParts_7 hl (by decide) rfl (fun ls hl => ?_)
  exact pw_X4_pushParts_9 rfl hR htr hd5 B hnh 1100000 σ x0 x1 x2 x3 z2 ix0 ix1 ix2 ix3 iz2 hf _ _ _ _ _ hw (cl_sub hl [2, 3, 4, 1, 0] rfl)

set_option maxHeartbeats 4000000 in
set_option maxRecDepth 100000 in
theorem pm_X4_pushParts {v : cwE} {bd : Nat × Nat} {l : Launch} {d : Nat} {rec : Nat → CS → List Int → CO} (hbd : bd = (v.2.2.1, v.2.2.2.1)) (hR : cw_Rec l v d rec) (htr : l.stackTraces = false) (hd5 : 5 ≤ d) (σ σ' : CS) (x0 x1 x2 x3 : Int) (kd : Nat) (r : Int) (ix0 : inR x0) (ix1 : inR x1) (ix2 : inR x2) (ix3 : inR x3) (hf : pc_X4_pushParts_0 rec bd σ x0 x1 x2 x3 = some (σ', kd, r)) : cw_Met l v yX4_pushParts cX4_pushParts 6 (some (.object "PureHouse$Link")) (d + 1) [cR x0, cR x1, cR x2, cR x3] σ σ' kd (some (cR r)) := by
  refine cw_ofW (by decide +kernel) ?_
  intro p e s m args below meth c s₁ B hml hv
  obtain ⟨rfl, hM, hK⟩ := hv
  have hts := atoms_spec (ws := Cond.code yX4_pushParts cX4_pushParts 6 (some (.object "PureHouse$Link")) :: cw_bw) B.pre
  have hB : cw_B v RX4 p s m _ meth c cX4_pushParts 6 (some (.object "PureHouse$Link")) := ⟨B.exec, B.bytes, B.returns, hml, findClass_of_methodNamed B.named, fun w h => hts w (List.mem_cons_of_mem _ h), B.notSynchronized, hK⟩
  have hnh := cc_nh B (hts _ List.mem_cons_self)
  rw [lg_entry_eq]
  obtain ⟨ls, hls, hl⟩ := cl_ent [cR x0, cR x1, cR x2, cR x3] 6 (cl_1r (cl_1r (cl_1r (cl_1r cl_10)))) (Nat.le_of_ble_eq_true rfl)
  rw [hls]
  exact pw_X4_pushParts_0 hbd hR htr hd5 hB hnh σ x0 x1 x2 x3 ix0 ix1 ix2 ix3 hf _ _ _ _ _ (cw_W0 hM) (cl_sub hl [0, 1, 2, 3] rfl)

set_option maxHeartbeats 4000000 in
set_option maxRecDepth 100000 in
theorem pw_X4_put_23 {v : cwE} {bd : Nat × Nat} {p : Program} {l : Launch} {e : Env} {s : State} {m : MethodId} {args : Array Value} {below : List Frame} {meth : Method} {c : Code} {d : Nat} {rec : Nat → CS → List Int → CO} {σ0 σ' : CS} {kd : Nat} {r : Int} (hbd : bd = (v.2.2.1, v.2.2.2.1)) (hR : cw_Rec l v d rec) (htr : l.stackTraces = false) (hd5 : 5 ≤ d) (B : cw_B v RX4 p s m args meth c cX4_put 2 none) (hnh : ∀ x ∈ c.exceptionTable.toList, False) : ∀ (σ : CS) (x0 : Int), inR x0 → pc_X4_put_23 rec bd σ x0 = some (σ', kd, r) → ∀ (H : Heap) (locs : List Loc) (cells slots : Nat) (ls : Array Slot), cw_W v s σ0 σ H locs cells slots → cl_has ls 2 [(0, cR x0)] → W p l e (cw_rm v (d + 1) σ0) s m args below meth c H locs cells slots (cw_Z below v σ0 σ' kd none args s) (F0 m 23 ls []) := by
  subst hbd
  obtain ⟨hx, hb, hr, hml, hown, hts, hlk, hK⟩ := id B
  intro σ x0 ix0 hf H locs cells slots ls hw hl
  unfold pc_X4_put_23 at hf
  refine cl_aload_n hx hb dX4_put_23 rfl (lv_at hl.1 0 rfl) ?_
  refine lv_dup hx hb dX4_put_24 (cR_cat _) ?_
  obtain ⟨z1, ez1, iz1, rz1, hf⟩ := cc_g_s hw hf
  refine cw_get (val := .int (rI z1)) B hw rz1 ⟨by decide, by decide⟩ (by decide) cwi_5 cfl_4_29 ez1 rfl dX4_put_25 ?_
  refine lv_iconst (v := rI 1) hx hb dX4_put_28 rfl ?_
  obtain ⟨z2, ez2, iz2, hf⟩ := cc_ck_s hf
  refine rn_add hx hb ez2 dX4_put_29 ?_
  obtain ⟨σ3, eσ3, rσ3, hf⟩ := cc_p_s hf
  refine cw_put B hw rσ3 cwt_5 (by decide) rfl cfl_4_29 iz2 eσ3 rfl (cw_fv_n rfl rfl) dX4_put_30 (fun H locs hw => ?_)
  exact cw_retv B hf hw dX4_put_33

set_option maxHeartbeats 4000000 in
set_option maxRecDepth 100000 in
theorem pw_X4_put_0 {v : cwE} {bd : Nat × Nat} {p : Program} {l : Launch} {e : Env} {s : State} {m : MethodId} {args : Array Value} {below : List Frame} {meth : Method} {c : Code} {d : Nat} {rec : Nat → CS → List Int → CO} {σ0 σ' : CS} {kd : Nat} {r : Int} (hbd : bd = (v.2.2.1, v.2.2.2.1)) (hR : cw_Rec l v d rec) (htr : l.stackTraces = false) (hd5 : 5 ≤ d) (B : cw_B v RX4 p s m args meth c cX4_put 2 none) (hnh : ∀ x ∈ c.exceptionTable.toList, False) : ∀ (σ : CS) (x0 x1 : Int), inR x0 → inR x1 → pc_X4_put_0 rec bd σ x0 x1 = some (σ', kd, r) → ∀ (H : Heap) (locs : List Loc) (cells slots : Nat) (ls : Array Slot), cw_W v s σ0 σ H locs cells slots → cl_has ls 2 [(0, cR x0), (1, .int (rI x1))] → W p l e (cw_rm v (d + 1) σ0) s m args below meth c H locs cells slots (cw_Z below v σ0 σ' kd none args s) (F0 m 0 ls []) := by
  subst hbd
  obtain ⟨hx, hb, hr, hml, hown, hts, hlk, hK⟩ := id B
  intro σ x0 x1 ix0 ix1 hf H locs cells slots ls hw hl
  unfold pc_X4_put_0 at hf
  refine cl_aload_n hx hb dX4_put_0 rfl (lv_at hl.1 0 rfl) ?_
  obtain ⟨z1, ez1, iz1, rz1, hf⟩ := cc_g_s hw hf
  refine cw_get (val := .int (rI z1)) B hw rz1 ⟨by decide, by decide⟩ (by decide) cwi_5 cfl_4_29 ez1 rfl dX4_put_1 ?_
  refine cl_aload_n hx hb dX4_put_4 rfl (lv_at hl.1 0 rfl) ?_
  obtain ⟨z2, ez2, iz2, rz2, hf⟩ := cc_g_s hw hf
  refine cw_get (val := cR z2) B hw rz2 ⟨by decide, by decide⟩ (by decide) cwi_5 cfl_4_25 ez2 rfl dX4_put_5 ?_
  obtain ⟨z3, ez3, iz3, rz3, hf⟩ := cc_l_s hf
  refine cw_len B hw rz3 (by decide) ez3 iz3 dX4_put_8 ?_
  refine rn_icmp_ge (a := z1) (b := z3) (tgt := 23) hx hb iz1 iz3 dX4_put_9 (by decide) (fun c4 => ?_) (fun c4 => ?_)
  · replace hf := cc_if_t hf c4
    exact pw_X4_put_23 rfl hR htr hd5 B hnh σ x0 ix0 hf _ _ _ _ _ hw (cl_sub hl [0] rfl)
  · replace hf := cc_if_f hf c4
    refine cl_aload_n hx hb dX4_put_12 rfl (lv_at hl.1 0 rfl) ?_
    obtain ⟨z5, ez5, iz5, rz5, hf⟩ := cc_g_s hw hf
    refine cw_get (val := cR z5) B hw rz5 ⟨by decide, by decide⟩ (by decide) cwi_5 cfl_4_25 ez5 rfl dX4_put_13 ?_
    refine cl_aload_n hx hb dX4_put_16 rfl (lv_at hl.1 0 rfl) ?_
    obtain ⟨z6, ez6, iz6, rz6, hf⟩ := cc_g_s hw hf
    refine cw_get (val := .int (rI z6)) B hw rz6 ⟨by decide, by decide⟩ (by decide) cwi_5 cfl_4_29 ez6 rfl dX4_put_17 ?_
    refine lv_iload_n hx hb dX4_put_20 rfl (lv_at hl.1 1 rfl) ?_
    obtain ⟨z7, ez7, iz7, hf⟩ := cc_nm_s hf
    refine lv_i2b hx hb dX4_put_21 rfl ?_
    refine rn_top ez7 ?_
    obtain ⟨σ8, eσ8, rσ8, bσ8, hf⟩ := cc_w_s hf
    refine cw_astB B hw rσ8 iz6 bσ8 eσ8 dX4_put_22 (fun H locs hw => ?_)
    exact pw_X4_put_23 rfl hR htr hd5 B hnh σ8 x0 ix0 hf _ _ _ _ _ hw (cl_sub hl [0] rfl)

set_option maxHeartbeats 4000000 in
set_option maxRecDepth 100000 in
theorem pm_X4_put {v : cwE} {bd : Nat × Nat} {l : Launch} {d : Nat} {rec : Nat → CS → List Int → CO} (hbd : bd = (v.2.2.1, v.2.2.2.1)) (hR : cw_Rec l v d rec) (htr : l.stackTraces = false) (hd5 : 5 ≤ d) (σ σ' : CS) (x0 x1 : Int) (kd : Nat) (r : Int) (ix0 : inR x0) (ix1 : inR x1) (hf : pc_X4_put_0 rec bd σ x0 x1 = some (σ', kd, r)) : cw_Met l v yX4_put cX4_put 2 none (d + 1) [cR x0, .int (rI x1)] σ σ' kd none := by
  refine cw_ofW (by decide +kernel) ?_
  intro p e s m args below meth c s₁ B hml hv
  obtain ⟨rfl, hM, hK⟩ := hv
  have hts := atoms_spec (ws := Cond.code yX4_put cX4_put 2 none :: cw_bw) B.pre
  have hB : cw_B v RX4 p s m _ meth c cX4_put 2 none := ⟨B.exec, B.bytes, B.returns, hml, findClass_of_methodNamed B.named, fun w h => hts w (List.mem_cons_of_mem _ h), B.notSynchronized, hK⟩
  have hnh := cc_nh B (hts _ List.mem_cons_self)
  rw [lg_entry_eq]
  obtain ⟨ls, hls, hl⟩ := cl_ent [cR x0, .int (rI x1)] 2 (cl_1r (cl_1i cl_10)) (Nat.le_of_ble_eq_true rfl)
  rw [hls]
  exact pw_X4_put_0 hbd hR htr hd5 hB hnh σ x0 x1 ix0 ix1 hf _ _ _ _ _ (cw_W0 hM) (cl_sub hl [0, 1] rfl)

set_option maxHeartbeats 4000000 in
set_option maxRecDepth 100000 in
theorem pw_X4_putFront_94 {v : cwE} {bd : Nat × Nat} {p : Program} {l : Launch} {e : Env} {s : State} {m : MethodId} {args : Array Value} {below : List Frame} {meth : Method} {c : Code} {d : Nat} {rec : Nat → CS → List Int → CO} {σ0 σ' : CS} {kd : Nat} {r : Int} (hbd : bd = (v.2.2.1, v.2.2.2.1)) (hR : cw_Rec l v d rec) (htr : l.stackTraces = false) (hd5 : 5 ≤ d) (B : cw_B v RX4 p s m args meth c cX4_putFront 2 none) (hnh : ∀ x ∈ c.exceptionTable.toList, False) : ∀ (σ : CS) (x0 x1 : Int), inR x0 → inR x1 → pc_X4_putFront_94 rec bd σ x0 x1 = some (σ', kd, r) → ∀ (H : Heap) (locs : List Loc) (cells slots : Nat) (ls : Array Slot), cw_W v s σ0 σ H locs cells slots → cl_has ls 2 [(0, cR x0), (1, cR x1)] → W p l e (cw_rm v (d + 1) σ0) s m args below meth c H locs cells slots (cw_Z below v σ0 σ' kd none args s) (F0 m 94 ls []) := by
  subst hbd
  obtain ⟨hx, hb, hr, hml, hown, hts, hlk, hK⟩ := id B
  intro σ x0 x1 ix0 ix1 hf H locs cells slots ls hw hl
  unfold pc_X4_putFront_94 at hf
  refine cl_aload_n hx hb dX4_putFront_94 rfl (lv_at hl.1 0 rfl) ?_
  refine lv_iconst (v := rI (-1)) hx hb dX4_putFront_95 rfl ?_
  refine cl_aload_n hx hb dX4_putFront_96 rfl (lv_at hl.1 1 rfl) ?_
  obtain ⟨z1, ez1, iz1, rz1, hf⟩ := cc_g_s hw hf
  refine cw_get (val := .int (rI z1)) B hw rz1 ⟨by decide, by decide⟩ (by decide) cwi_2 cfl_4_165 ez1 rfl dX4_putFront_97 ?_
  obtain ⟨z2, ez2, iz2, hf⟩ := cc_ck_s hf
  refine rn_sub hx hb ez2 dX4_putFront_100 ?_
  obtain ⟨qσ3, hf⟩ := cc_t_s hf
  obtain ⟨σ3, kv4, z5, hσ3, hf⟩ := cc_cl_s hf
  obtain ⟨iz5, mσ3⟩ := hR 44 σ [x0, z2] σ3 kv4 z5 hσ3
  have mσ3 : cw_Met l v yX4_putNewName cX4_putNewName 2 none d [cR x0, .int (rI z2)] σ σ3 kv4 none := mσ3 ix0 iz2
  refine cw_cv (b := x0) (t := 5) (n := 1) (rest := []) (As := [.int (rI z2)]) B mσ3 qσ3 ⟨by decide, by decide⟩ cgo_yX4_putNewName cml_4_166 cin_yX4_putNewName cse_yX4_putNewName (by decide +kernel) (by decide) rfl hl.1.1 (Nat.le_of_ble_eq_true rfl) dX4_putFront_101 rfl hw (fun h0 H locs cells slots hw => ?_) (fun h0 H locs cells slots q ce hw h1 h2 h3 => ?_)
  · rcases hf with ⟨-, hf⟩ | ⟨hk, -⟩
    · skip
      exact cw_retv B hf hw dX4_putFront_104
    · exact absurd h0 hk
  · rcases hf with ⟨hk, -⟩ | ⟨-, hf⟩
    · exact absurd hk h0
    · cases hf
      exact cw_xout B hnh h0 hw h1 h2 h3

set_option maxHeartbeats 4000000 in
set_option maxRecDepth 100000 in
theorem pw_X4_putFront_0 {v : cwE} {bd : Nat × Nat} {p : Program} {l : Launch} {e : Env} {s : State} {m : MethodId} {args : Array Value} {below : List Frame} {meth : Method} {c : Code} {d : Nat} {rec : Nat → CS → List Int → CO} {σ0 σ' : CS} {kd : Nat} {r : Int} (hbd : bd = (v.2.2.1, v.2.2.2.1)) (hR : cw_Rec l v d rec) (htr : l.stackTraces = false) (hd5 : 5 ≤ d) (B : cw_B v RX4 p s m args meth c cX4_putFront 2 none) (hnh : ∀ x ∈ c.exceptionTable.toList, False) : ∀ (σ : CS) (x0 x1 : Int), inR x0 → inR x1 → pc_X4_putFront_0 rec bd σ x0 x1 = some (σ', kd, r) → ∀ (H : Heap) (locs : List Loc) (cells slots : Nat) (ls : Array Slot), cw_W v s σ0 σ H locs cells slots → cl_has ls 2 [(0, cR x0), (1, cR x1)] → W p l e (cw_rm v (d + 1) σ0) s m args below meth c H locs cells slots (cw_Z below v σ0 σ' kd none args s) (F0 m 0 ls []) := by
  subst hbd
  obtain ⟨hx, hb, hr, hml, hown, hts, hlk, hK⟩ := id B
  intro σ x0 x1 ix0 ix1 hf H locs cells slots ls hw hl
  unfold pc_X4_putFront_0 at hf
  refine cl_aload_n hx hb dX4_putFront_0 rfl (lv_at hl.1 1 rfl) ?_
  obtain ⟨z1, ez1, iz1, rz1, hf⟩ := cc_g_s hw hf
  refine cw_get (val := cR z1) B hw rz1 ⟨by decide, by decide⟩ (by decide) cwi_2 cfl_4_157 ez1 rfl dX4_putFront_1 ?_
  obtain ⟨z2, ez2, iz2, rz2, hf⟩ := cc_g_s hw hf
  refine cw_get (val := .int (rI z2)) B hw rz2 ⟨by decide, by decide⟩ (by decide) cwi_7 cfl_4_100 ez2 rfl dX4_putFront_4 ?_
  by_cases c3 : z2 = 1
  · replace hf := cc_if_t hf c3
    refine rn_tab (n := 1) (tgt := 58) hx hb iz2 c3 dX4_putFront_7 (by decide) (by decide) rfl (by decide) ?_
    refine cl_aload_n hx hb dX4_putFront_58 rfl (lv_at hl.1 0 rfl) ?_
    refine cl_aload_n hx hb dX4_putFront_59 rfl (lv_at hl.1 0 rfl) ?_
    obtain ⟨z4, ez4, iz4, rz4, hf⟩ := cc_g_s hw hf
    refine cw_get (val := cR z4) B hw rz4 ⟨by decide, by decide⟩ (by decide) cwi_5 cfl_4_32 ez4 rfl dX4_putFront_60 ?_
    obtain ⟨z5, ez5, iz5, rz5, hf⟩ := cc_g_s hw hf
    refine cw_get (val := cR z5) B hw rz5 ⟨by decide, by decide⟩ (by decide) cwi_1 cfl_4_190 ez5 rfl dX4_putFront_63 ?_
    refine cl_aload_n hx hb dX4_putFront_66 rfl (lv_at hl.1 1 rfl) ?_
    obtain ⟨z6, ez6, iz6, rz6, hf⟩ := cc_g_s hw hf
    refine cw_get (val := .int (rI z6)) B hw rz6 ⟨by decide, by decide⟩ (by decide) cwi_2 cfl_4_165 ez6 rfl dX4_putFront_67 ?_
    obtain ⟨qσ7, hf⟩ := cc_t_s hf
    obtain ⟨σ7, kv8, z9, hσ7, hf⟩ := cc_cl_s hf
    obtain ⟨iz9, mσ7⟩ := hR 46 σ [x0, z5, z6] σ7 kv8 z9 hσ7
    have mσ7 : cw_Met l v yX4_putSigns cX4_putSigns 5 none d [cR x0, cR z5, .int (rI z6)] σ σ7 kv8 none := mσ7 ix0 iz5 iz6
    refine cw_cv (b := x0) (t := 5) (n := 2) (rest := []) (As := [cR z5, .int (rI z6)]) B mσ7 qσ7 ⟨by decide, by decide⟩ cgo_yX4_putSigns cml_4_194 cin_yX4_putSigns cse_yX4_putSigns (by decide +kernel) (by decide) rfl hl.1.1 (Nat.le_of_ble_eq_true rfl) dX4_putFront_70 rfl hw (fun h0 H locs cells slots hw => ?_) (fun h0 H locs cells slots q ce hw h1 h2 h3 => ?_)
    · rcases hf with ⟨-, hf⟩ | ⟨hk, -⟩
      · skip
        refine lv_goto (tgt := 104) hx hb dX4_putFront_73 (by decide) ?_
        exact cw_retv B hf hw dX4_putFront_104
      · exact absurd h0 hk
    · rcases hf with ⟨hk, -⟩ | ⟨-, hf⟩
      · exact absurd hk h0
      · cases hf
        exact cw_xout B hnh h0 hw h1 h2 h3
  · replace hf := cc_if_f hf c3
    by_cases c10 : z2 = 2
    · replace hf := cc_if_t hf c10
      refine rn_tab (n := 2) (tgt := 76) hx hb iz2 c10 dX4_putFront_7 (by decide) (by decide) rfl (by decide) ?_
      refine cl_aload_n hx hb dX4_putFront_76 rfl (lv_at hl.1 0 rfl) ?_
      refine cl_aload_n hx hb dX4_putFront_77 rfl (lv_at hl.1 0 rfl) ?_
      obtain ⟨z11, ez11, iz11, rz11, hf⟩ := cc_g_s hw hf
      refine cw_get (val := cR z11) B hw rz11 ⟨by decide, by decide⟩ (by decide) cwi_5 cfl_4_32 ez11 rfl dX4_putFront_78 ?_
      obtain ⟨z12, ez12, iz12, rz12, hf⟩ := cc_g_s hw hf
      refine cw_get (val := cR z12) B hw rz12 ⟨by decide, by decide⟩ (by decide) cwi_1 cfl_4_198 ez12 rfl dX4_putFront_81 ?_
      refine cl_aload_n hx hb dX4_putFront_84 rfl (lv_at hl.1 1 rfl) ?_
      obtain ⟨z13, ez13, iz13, rz13, hf⟩ := cc_g_s hw hf
      refine cw_get (val := .int (rI z13)) B hw rz13 ⟨by decide, by decide⟩ (by decide) cwi_2 cfl_4_165 ez13 rfl dX4_putFront_85 ?_
      obtain ⟨qσ14, hf⟩ := cc_t_s hf
      obtain ⟨σ14, kv15, z16, hσ14, hf⟩ := cc_cl_s hf
      obtain ⟨iz16, mσ14⟩ := hR 46 σ [x0, z12, z13] σ14 kv15 z16 hσ14
      have mσ14 : cw_Met l v yX4_putSigns cX4_putSigns 5 none d [cR x0, cR z12, .int (rI z13)] σ σ14 kv15 none := mσ14 ix0 iz12 iz13
      refine cw_cv (b := x0) (t := 5) (n := 2) (rest := []) (As := [cR z12, .int (rI z13)]) B mσ14 qσ14 ⟨by decide, by decide⟩ cgo_yX4_putSigns cml_4_194 cin_yX4_putSigns cse_yX4_putSigns (by decide +kernel) (by decide) rfl hl.1.1 (Nat.le_of_ble_eq_true rfl) dX4_putFront_88 rfl hw (fun h0 H locs cells slots hw => ?_) (fun h0 H locs cells slots q ce hw h1 h2 h3 => ?_)
      · rcases hf with ⟨-, hf⟩ | ⟨hk, -⟩
        · skip
          refine lv_goto (tgt := 104) hx hb dX4_putFront_91 (by decide) ?_
          exact cw_retv B hf hw dX4_putFront_104
        · exact absurd h0 hk
      · rcases hf with ⟨hk, -⟩ | ⟨-, hf⟩
        · exact absurd hk h0
        · cases hf
          exact cw_xout B hnh h0 hw h1 h2 h3
    · replace hf := cc_if_f hf c10
      by_cases c17 : z2 = 3
      · replace hf := cc_if_t hf c17
        refine rn_tab (n := 3) (tgt := 94) hx hb iz2 c17 dX4_putFront_7 (by decide) (by decide) rfl (by decide) ?_
        exact pw_X4_putFront_94 rfl hR htr hd5 B hnh σ x0 x1 ix0 ix1 hf _ _ _ _ _ hw (cl_sub hl [0, 1] rfl)
      · replace hf := cc_if_f hf c17
        by_cases c18 : z2 = 4
        · replace hf := cc_if_t hf c18
          refine rn_tab (n := 4) (tgt := 40) hx hb iz2 c18 dX4_putFront_7 (by decide) (by decide) rfl (by decide) ?_
          refine cl_aload_n hx hb dX4_putFront_40 rfl (lv_at hl.1 0 rfl) ?_
          refine lv_bipush (v := rI 92) hx hb dX4_putFront_41 (by decide +kernel) ?_
          obtain ⟨qσ19, hf⟩ := cc_t_s hf
          obtain ⟨σ19, kv20, z21, hσ19, hf⟩ := cc_cl_s hf
          obtain ⟨iz21, mσ19⟩ := hR 41 σ [x0, 92] σ19 kv20 z21 hσ19
          have mσ19 : cw_Met l v yX4_put cX4_put 2 none d [cR x0, .int (rI 92)] σ σ19 kv20 none := mσ19 ix0 ⟨by decide, by decide⟩
          refine cw_cv (b := x0) (t := 5) (n := 1) (rest := []) (As := [.int (rI 92)]) B mσ19 qσ19 ⟨by decide, by decide⟩ cgo_yX4_put cml_4_56 cin_yX4_put cse_yX4_put (by decide +kernel) (by decide) rfl hl.1.1 (Nat.le_of_ble_eq_true rfl) dX4_putFront_43 rfl hw (fun h0 H locs cells slots hw => ?_) (fun h0 H locs cells slots q ce hw h1 h2 h3 => ?_)
          · rcases hf with ⟨-, hf⟩ | ⟨hk, -⟩
            · skip
              refine lv_goto (tgt := 104) hx hb dX4_putFront_46 (by decide) ?_
              exact cw_retv B hf hw dX4_putFront_104
            · exact absurd h0 hk
          · rcases hf with ⟨hk, -⟩ | ⟨-, hf⟩
            · exact absurd hk h0
            · cases hf
              exact cw_xout B hnh h0 hw h1 h2 h3
        · replace hf := cc_if_f hf c18
          by_cases c22 : z2 = 5
          · replace hf := cc_if_t hf c22
            refine rn_tab (n := 5) (tgt := 49) hx hb iz2 c22 dX4_putFront_7 (by decide) (by decide) rfl (by decide) ?_
            refine cl_aload_n hx hb dX4_putFront_49 rfl (lv_at hl.1 0 rfl) ?_
            refine lv_bipush (v := rI 33) hx hb dX4_putFront_50 (by decide +kernel) ?_
            obtain ⟨qσ23, hf⟩ := cc_t_s hf
            obtain ⟨σ23, kv24, z25, hσ23, hf⟩ := cc_cl_s hf
            obtain ⟨iz25, mσ23⟩ := hR 41 σ [x0, 33] σ23 kv24 z25 hσ23
            have mσ23 : cw_Met l v yX4_put cX4_put 2 none d [cR x0, .int (rI 33)] σ σ23 kv24 none := mσ23 ix0 ⟨by decide, by decide⟩
            refine cw_cv (b := x0) (t := 5) (n := 1) (rest := []) (As := [.int (rI 33)]) B mσ23 qσ23 ⟨by decide, by decide⟩ cgo_yX4_put cml_4_56 cin_yX4_put cse_yX4_put (by decide +kernel) (by decide) rfl hl.1.1 (Nat.le_of_ble_eq_true rfl) dX4_putFront_52 rfl hw (fun h0 H locs cells slots hw => ?_) (fun h0 H locs cells slots q ce hw h1 h2 h3 => ?_)
            · rcases hf with ⟨-, hf⟩ | ⟨hk, -⟩
              · skip
                refine lv_goto (tgt := 104) hx hb dX4_putFront_55 (by decide) ?_
                exact cw_retv B hf hw dX4_putFront_104
              · exact absurd h0 hk
            · rcases hf with ⟨hk, -⟩ | ⟨-, hf⟩
              · exact absurd hk h0
              · cases hf
                exact cw_xout B hnh h0 hw h1 h2 h3
          · replace hf := cc_if_f hf c22
            refine rn_tabO (tgt := 94) hx hb iz2 dX4_putFront_7 (by omega) (by decide) ?_
            exact pw_X4_putFront_94 rfl hR htr hd5 B hnh σ x0 x1 ix0 ix1 hf _ _ _ _ _ hw (cl_sub hl [0, 1] rfl)

set_option maxHeartbeats 4000000 in
set_option maxRecDepth 100000 in
theorem pm_X4_putFront {v : cwE} {bd : Nat × Nat} {l : Launch} {d : Nat} {rec : Nat → CS → List Int → CO} (hbd : bd = (v.2.2.1, v.2.2.2.1)) (hR : cw_Rec l v d rec) (htr : l.stackTraces = false) (hd5 : 5 ≤ d) (σ σ' : CS) (x0 x1 : Int) (kd : Nat) (r : Int) (ix0 : inR x0) (ix1 : inR x1) (hf : pc_X4_putFront_0 rec bd σ x0 x1 = some (σ', kd, r)) : cw_Met l v yX4_putFront cX4_putFront 2 none (d + 1) [cR x0, cR x1] σ σ' kd none := by
  refine cw_ofW (by decide +kernel) ?_
  intro p e s m args below meth c s₁ B hml hv
  obtain ⟨rfl, hM, hK⟩ := hv
  have hts := atoms_spec (ws := Cond.code yX4_putFront cX4_putFront 2 none :: cw_bw) B.pre
  have hB : cw_B v RX4 p s m _ meth c cX4_putFront 2 none := ⟨B.exec, B.bytes, B.returns, hml, findClass_of_methodNamed B.named, fun w h => hts w (List.mem_cons_of_mem _ h), B.notSynchronized, hK⟩
  have hnh := cc_nh B (hts _ List.mem_cons_self)
  rw [lg_entry_eq]
  obtain ⟨ls, hls, hl⟩ := cl_ent [cR x0, cR x1] 2 (cl_1r (cl_1r cl_10)) (Nat.le_of_ble_eq_true rfl)
  rw [hls]
  exact pw_X4_putFront_0 hbd hR htr hd5 hB hnh σ x0 x1 ix0 ix1 hf _ _ _ _ _ (cw_W0 hM) (cl_sub hl [0, 1] rfl)

set_option maxHeartbeats 4000000 in
set_option maxRecDepth 100000 in
theorem pw_X4_putNewName_0 {v : cwE} {bd : Nat × Nat} {p : Program} {l : Launch} {e : Env} {s : State} {m : MethodId} {args : Array Value} {below : List Frame} {meth : Method} {c : Code} {d : Nat} {rec : Nat → CS → List Int → CO} {σ0 σ' : CS} {kd : Nat} {r : Int} (hbd : bd = (v.2.2.1, v.2.2.2.1)) (hR : cw_Rec l v d rec) (htr : l.stackTraces = false) (hd5 : 5 ≤ d) (B : cw_B v RX4 p s m args meth c cX4_putNewName 2 none) (hnh : ∀ x ∈ c.exceptionTable.toList, False) : ∀ (σ : CS) (x0 x1 : Int), inR x0 → inR x1 → pc_X4_putNewName_0 rec bd σ x0 x1 = some (σ', kd, r) → ∀ (H : Heap) (locs : List Loc) (cells slots : Nat) (ls : Array Slot), cw_W v s σ0 σ H locs cells slots → cl_has ls 2 [(0, cR x0), (1, .int (rI x1))] → W p l e (cw_rm v (d + 1) σ0) s m args below meth c H locs cells slots (cw_Z below v σ0 σ' kd none args s) (F0 m 0 ls []) := by
  subst hbd
  obtain ⟨hx, hb, hr, hml, hown, hts, hlk, hK⟩ := id B
  intro σ x0 x1 ix0 ix1 hf H locs cells slots ls hw hl
  unfold pc_X4_putNewName_0 at hf
  refine cl_aload_n hx hb dX4_putNewName_0 rfl (lv_at hl.1 0 rfl) ?_
  refine lv_bipush (v := rI 95) hx hb dX4_putNewName_1 (by decide +kernel) ?_
  obtain ⟨qσ1, hf⟩ := cc_t_s hf
  obtain ⟨σ1, kv2, z3, hσ1, hf⟩ := cc_cl_s hf
  obtain ⟨iz3, mσ1⟩ := hR 41 σ [x0, 95] σ1 kv2 z3 hσ1
  have mσ1 : cw_Met l v yX4_put cX4_put 2 none d [cR x0, .int (rI 95)] σ σ1 kv2 none := mσ1 ix0 ⟨by decide, by decide⟩
  refine cw_cv (b := x0) (t := 5) (n := 1) (rest := []) (As := [.int (rI 95)]) B mσ1 qσ1 ⟨by decide, by decide⟩ cgo_yX4_put cml_4_56 cin_yX4_put cse_yX4_put (by decide +kernel) (by decide) rfl hl.1.1 (Nat.le_of_ble_eq_true rfl) dX4_putNewName_3 rfl hw (fun h0 H locs cells slots hw => ?_) (fun h0 H locs cells slots q ce hw h1 h2 h3 => ?_)
  · rcases hf with ⟨-, hf⟩ | ⟨hk, -⟩
    · skip
      refine cl_aload_n hx hb dX4_putNewName_6 rfl (lv_at hl.1 0 rfl) ?_
      refine lv_iload_n hx hb dX4_putNewName_7 rfl (lv_at hl.1 1 rfl) ?_
      obtain ⟨qσ4, hf⟩ := cc_t_s hf
      obtain ⟨σ4, kv5, z6, hσ4, hf⟩ := cc_cl_s hf
      obtain ⟨iz6, mσ4⟩ := hR 45 σ1 [x0, x1] σ4 kv5 z6 hσ4
      have mσ4 : cw_Met l v yX4_putNumber cX4_putNumber 4 none d [cR x0, .int (rI x1)] σ1 σ4 kv5 none := mσ4 ix0 ix1
      refine cw_cv (b := x0) (t := 5) (n := 1) (rest := []) (As := [.int (rI x1)]) B mσ4 qσ4 ⟨by decide, by decide⟩ cgo_yX4_putNumber cml_4_76 cin_yX4_putNumber cse_yX4_putNumber (by decide +kernel) (by decide) rfl hl.1.1 (Nat.le_of_ble_eq_true rfl) dX4_putNewName_8 rfl hw (fun h0 H locs cells slots hw => ?_) (fun h0 H locs cells slots q ce hw h1 h2 h3 => ?_)
      · rcases hf with ⟨-, hf⟩ | ⟨hk, -⟩
        · skip
          exact cw_retv B hf hw dX4_putNewName_11
        · exact absurd h0 hk
      · rcases hf with ⟨hk, -⟩ | ⟨-, hf⟩
        · exact absurd hk h0
        · cases hf
          exact cw_xout B hnh h0 hw h1 h2 h3
    · exact absurd h0 hk
  · rcases hf with ⟨hk, -⟩ | ⟨-, hf⟩
    · exact absurd hk h0
    · cases hf
      exact cw_xout B hnh h0 hw h1 h2 h3

set_option maxHeartbeats 4000000 in
set_option maxRecDepth 100000 in
theorem pm_X4_putNewName {v : cwE} {bd : Nat × Nat} {l : Launch} {d : Nat} {rec : Nat → CS → List Int → CO} (hbd : bd = (v.2.2.1, v.2.2.2.1)) (hR : cw_Rec l v d rec) (htr : l.stackTraces = false) (hd5 : 5 ≤ d) (σ σ' : CS) (x0 x1 : Int) (kd : Nat) (r : Int) (ix0 : inR x0) (ix1 : inR x1) (hf : pc_X4_putNewName_0 rec bd σ x0 x1 = some (σ', kd, r)) : cw_Met l v yX4_putNewName cX4_putNewName 2 none (d + 1) [cR x0, .int (rI x1)] σ σ' kd none := by
  refine cw_ofW (by decide +kernel) ?_
  intro p e s m args below meth c s₁ B hml hv
  obtain ⟨rfl, hM, hK⟩ := hv
  have hts := atoms_spec (ws := Cond.code yX4_putNewName cX4_putNewName 2 none :: cw_bw) B.pre
  have hB : cw_B v RX4 p s m _ meth c cX4_putNewName 2 none := ⟨B.exec, B.bytes, B.returns, hml, findClass_of_methodNamed B.named, fun w h => hts w (List.mem_cons_of_mem _ h), B.notSynchronized, hK⟩
  have hnh := cc_nh B (hts _ List.mem_cons_self)
  rw [lg_entry_eq]
  obtain ⟨ls, hls, hl⟩ := cl_ent [cR x0, .int (rI x1)] 2 (cl_1r (cl_1i cl_10)) (Nat.le_of_ble_eq_true rfl)
  rw [hls]
  exact pw_X4_putNewName_0 hbd hR htr hd5 hB hnh σ x0 x1 ix0 ix1 hf _ _ _ _ _ (cw_W0 hM) (cl_sub hl [0, 1] rfl)

set_option maxHeartbeats 4000000 in
set_option maxRecDepth 100000 in
theorem pw_X4_putNumber_29 {v : cwE} {bd : Nat × Nat} {p : Program} {l : Launch} {e : Env} {s : State} {m : MethodId} {args : Array Value} {below : List Frame} {meth : Method} {c : Code} {d : Nat} {rec : Nat → CS → List Int → CO} {σ0 σ' : CS} {kd : Nat} {r : Int} (hbd : bd = (v.2.2.1, v.2.2.2.1)) (hR : cw_Rec l v d rec) (htr : l.stackTraces = false) (hd5 : 5 ≤ d) (B : cw_B v RX4 p s m args meth c cX4_putNumber 4 none) (hnh : ∀ x ∈ c.exceptionTable.toList, False) : ∀ (n : Nat) (σ : CS) (x0 x1 x2 : Int), inR x0 → inR x1 → inR x2 → pc_X4_putNumber_29 rec bd n σ x0 x1 x2 = some (σ', kd, r) → ∀ (H : Heap) (locs : List Loc) (cells slots : Nat) (ls : Array Slot), cw_W v s σ0 σ H locs cells slots → cl_has ls 4 [(0, cR x0), (1, .int (rI x1)), (2, .int (rI x2))] → W p l e (cw_rm v (d + 1) σ0) s m args below meth c H locs cells slots (cw_Z below v σ0 σ' kd none args s) (F0 m 29 ls []) := by
  subst hbd
  obtain ⟨hx, hb, hr, hml, hown, hts, hlk, hK⟩ := id B
  intro n
  induction n with
  | zero => intro σ x0 x1 x2 ix0 ix1 ix2 hf; cases hf
  | succ n ih =>
    intro σ x0 x1 x2 ix0 ix1 ix2 hf H locs cells slots ls hw hl
    unfold pc_X4_putNumber_29 at hf
    refine lv_iload_n hx hb dX4_putNumber_29 rfl (lv_at hl.1 2 rfl) ?_
    refine rn_if_le (a := x2) (tgt := 54) hx hb ix2 dX4_putNumber_30 (by decide) (fun c1 => ?_) (fun c1 => ?_)
    · replace hf := cc_if_t hf c1
      exact cw_retv B hf hw dX4_putNumber_54
    · replace hf := cc_if_f hf c1
      refine cl_aload_n hx hb dX4_putNumber_33 rfl (lv_at hl.1 0 rfl) ?_
      refine lv_bipush (v := rI 48) hx hb dX4_putNumber_34 (by decide +kernel) ?_
      refine lv_iload_n hx hb dX4_putNumber_36 rfl (lv_at hl.1 1 rfl) ?_
      refine lv_iload_n hx hb dX4_putNumber_37 rfl (lv_at hl.1 2 rfl) ?_
      by_cases c3 : x2 = 0
      · replace hf := cc_if_t hf c3; cases hf
      replace hf := cc_if_f hf c3
      obtain ⟨z2, ez2, iz2, hf⟩ := cc_nm_s hf
      refine lv_idiv hx hb dX4_putNumber_38 (fun q => c3 ((rI_eq ix2 inR_0).mp q)) ?_
      refine rn_top ez2 ?_
      refine lv_bipush (v := rI 10) hx hb dX4_putNumber_39 (by decide +kernel) ?_
      obtain ⟨z4, ez4, iz4, hf⟩ := cc_nm_s hf
      refine lv_irem hx hb dX4_putNumber_41 (by decide) ?_
      refine rn_top ez4 ?_
      obtain ⟨z5, ez5, iz5, hf⟩ := cc_ck_s hf
      refine rn_add hx hb ez5 dX4_putNumber_42 ?_
      obtain ⟨qσ6, hf⟩ := cc_t_s hf
      obtain ⟨σ6, kv7, z8, hσ6, hf⟩ := cc_cl_s hf
      obtain ⟨iz8, mσ6⟩ := hR 41 σ [x0, z5] σ6 kv7 z8 hσ6
      have mσ6 : cw_Met l v yX4_put cX4_put 2 none d [cR x0, .int (rI z5)] σ σ6 kv7 none := mσ6 ix0 iz5
      refine cw_cv (b := x0) (t := 5) (n := 1) (rest := []) (As := [.int (rI z5)]) B mσ6 qσ6 ⟨by decide, by decide⟩ cgo_yX4_put cml_4_56 cin_yX4_put cse_yX4_put (by decide +kernel) (by decide) rfl hl.1.1 (Nat.le_of_ble_eq_true rfl) dX4_putNumber_43 rfl hw (fun h0 H locs cells slots hw => ?_) (fun h0 H locs cells slots q ce hw h1 h2 h3 => ?_)
      · rcases hf with ⟨-, hf⟩ | ⟨hk, -⟩
        · skip
          refine lv_iload_n hx hb dX4_putNumber_46 rfl (lv_at hl.1 2 rfl) ?_
          refine lv_bipush (v := rI 10) hx hb dX4_putNumber_47 (by decide +kernel) ?_
          obtain ⟨z9, ez9, iz9, hf⟩ := cc_nm_s hf
          refine lv_idiv hx hb dX4_putNumber_49 (by decide) ?_
          refine rn_top ez9 ?_
          refine cl_istore_n (lv' := [(2, .int (rI z9)), (0, cR x0), (1, .int (rI x1))]) hx hb dX4_putNumber_50 rfl hl (by decide) rfl (fun ls hl => ?_)
          refine lv_goto (tgt := 29) hx hb dX4_putNumber_51 (by decide) ?_
          exact ih σ6 x0 x1 z9 ix0 ix1 iz9 hf _ _ _ _ _ hw (cl_sub hl [1, 2, 0] rfl)
        · exact absurd h0 hk
      · rcases hf with ⟨hk, -⟩ | ⟨-, hf⟩
        · exact absurd hk h0
        · cases hf
          exact cw_xout B hnh h0 hw h1 h2 h3

set_option maxHeartbeats 4000000 in
set_option maxRecDepth 100000 in
theorem pw_X4_putNumber_4 {v : cwE} {bd : Nat × Nat} {p : Program} {l : Launch} {e : Env} {s : State} {m : MethodId} {args : Array Value} {below : List Frame} {meth : Method} {c : Code} {d : Nat} {rec : Nat → CS → List Int → CO} {σ0 σ' : CS} {kd : Nat} {r : Int} (hbd : bd = (v.2.2.1, v.2.2.2.1)) (hR : cw_Rec l v d rec) (htr : l.stackTraces = false) (hd5 : 5 ≤ d) (B : cw_B v RX4 p s m args meth c cX4_putNumber 4 none) (hnh : ∀ x ∈ c.exceptionTable.toList, False) : ∀ (n : Nat) (σ : CS) (x0 x1 x2 x3 : Int), inR x0 → inR x1 → inR x2 → inR x3 → pc_X4_putNumber_4 rec bd n σ x0 x1 x2 x3 = some (σ', kd, r) → ∀ (H : Heap) (locs : List Loc) (cells slots : Nat) (ls : Array Slot), cw_W v s σ0 σ H locs cells slots → cl_has ls 4 [(0, cR x0), (1, .int (rI x1)), (2, .int (rI x2)), (3, .int (rI x3))] → W p l e (cw_rm v (d + 1) σ0) s m args below meth c H locs cells slots (cw_Z below v σ0 σ' kd none args s) (F0 m 4 ls []) := by
  subst hbd
  obtain ⟨hx, hb, hr, hml, hown, hts, hlk, hK⟩ := id B
  intro n
  induction n with
  | zero => intro σ x0 x1 x2 x3 ix0 ix1 ix2 ix3 hf; cases hf
  | succ n ih =>
    intro σ x0 x1 x2 x3 ix0 ix1 ix2 ix3 hf H locs cells slots ls hw hl
    unfold pc_X4_putNumber_4 at hf
    refine lv_iload_n hx hb dX4_putNumber_4 rfl (lv_at hl.1 3 rfl) ?_
    refine lv_bipush (v := rI 9) hx hb dX4_putNumber_5 (by decide +kernel) ?_
    refine rn_icmp_ge (a := x3) (b := 9) (tgt := 29) hx hb ix3 ⟨by decide, by decide⟩ dX4_putNumber_7 (by decide) (fun c1 => ?_) (fun c1 => ?_)
    · replace hf := cc_if_t hf c1
      exact pw_X4_putNumber_29 rfl hR htr hd5 B hnh 1100000 σ x0 x1 x2 ix0 ix1 ix2 hf _ _ _ _ _ hw (cl_sub hl [0, 1, 2] rfl)
    · replace hf := cc_if_f hf c1
      refine lv_iload_n hx hb dX4_putNumber_10 rfl (lv_at hl.1 1 rfl) ?_
      refine lv_iload_n hx hb dX4_putNumber_11 rfl (lv_at hl.1 2 rfl) ?_
      by_cases c3 : x2 = 0
      · replace hf := cc_if_t hf c3; cases hf
      replace hf := cc_if_f hf c3
      obtain ⟨z2, ez2, iz2, hf⟩ := cc_nm_s hf
      refine lv_idiv hx hb dX4_putNumber_12 (fun q => c3 ((rI_eq ix2 inR_0).mp q)) ?_
      refine rn_top ez2 ?_
      refine lv_bipush (v := rI 10) hx hb dX4_putNumber_13 (by decide +kernel) ?_
      refine rn_icmp_lt (a := z2) (b := 10) (tgt := 29) hx hb iz2 ⟨by decide, by decide⟩ dX4_putNumber_15 (by decide) (fun c4 => ?_) (fun c4 => ?_)
      · replace hf := cc_if_t hf c4
        exact pw_X4_putNumber_29 rfl hR htr hd5 B hnh 1100000 σ x0 x1 x2 ix0 ix1 ix2 hf _ _ _ _ _ hw (cl_sub hl [0, 1, 2] rfl)
      · replace hf := cc_if_f hf c4
        refine lv_iload_n hx hb dX4_putNumber_18 rfl (lv_at hl.1 2 rfl) ?_
        refine lv_bipush (v := rI 10) hx hb dX4_putNumber_19 (by decide +kernel) ?_
        obtain ⟨z5, ez5, iz5, hf⟩ := cc_ck_s hf
        refine rn_mul hx hb ez5 dX4_putNumber_21 ?_
        refine cl_istore_n (lv' := [(2, .int (rI z5)), (0, cR x0), (1, .int (rI x1)), (3, .int (rI x3))]) hx hb dX4_putNumber_22 rfl hl (by decide) rfl (fun ls hl => ?_)
        obtain ⟨z6, ez6, iz6, hf⟩ := cc_ck_s hf
        refine cl_iinc (v := rI z6) (lv' := [(3, .int (rI z6)), (2, .int (rI z5)), (0, cR x0), (1, .int (rI x1))]) hx hb dX4_putNumber_23 hl (k := 3) rfl (by rw [ez6]; exact rI_add _ _) (by decide) rfl (fun ls hl => ?_)
        refine lv_goto (tgt := 4) hx hb dX4_putNumber_26 (by decide) ?_
        exact ih σ x0 x1 z5 z6 ix0 ix1 iz5 iz6 hf _ _ _ _ _ hw (cl_sub hl [2, 3, 1, 0] rfl)

set_option maxHeartbeats 4000000 in
set_option maxRecDepth 100000 in
theorem pw_X4_putNumber_0 {v : cwE} {bd : Nat × Nat} {p : Program} {l : Launch} {e : Env} {s : State} {m : MethodId} {args : Array Value} {below : List Frame} {meth : Method} {c : Code} {d : Nat} {rec : Nat → CS → List Int → CO} {σ0 σ' : CS} {kd : Nat} {r : Int} (hbd : bd = (v.2.2.1, v.2.2.2.1)) (hR : cw_Rec l v d rec) (htr : l.stackTraces = false) (hd5 : 5 ≤ d) (B : cw_B v RX4 p s m args meth c cX4_putNumber 4 none) (hnh : ∀ x ∈ c.exceptionTable.toList, False) : ∀ (σ : CS) (x0 x1 : Int), inR x0 → inR x1 → pc_X4_putNumber_0 rec bd σ x0 x1 = some (σ', kd, r) → ∀ (H : Heap) (locs : List Loc) (cells slots : Nat) (ls : Array Slot), cw_W v s σ0 σ H locs cells slots → cl_has ls 4 [(0, cR x0), (1, .int (rI x1))] → W p l e (cw_rm v (d + 1) σ0) s m args below meth c H locs cells slots (cw_Z below v σ0 σ' kd none args s) (F0 m 0 ls []) := by
  subst hbd
  obtain ⟨hx, hb, hr, hml, hown, hts, hlk, hK⟩ := id B
  intro σ x0 x1 ix0 ix1 hf H locs cells slots ls hw hl
  unfold pc_X4_putNumber_0 at hf
  refine lv_iconst (v := rI 1) hx hb dX4_putNumber_0 rfl ?_
  refine cl_istore_n (lv' := [(2, .int (rI 1)), (0, cR x0), (1, .int (rI x1))]) hx hb dX4_putNumber_1 rfl hl (by decide) rfl (fun ls hl => ?_)
  refine lv_iconst (v := rI 1) hx hb dX4_putNumber_2 rfl ?_
  refine cl_istore_n (lv' := [(3, .int (rI 1)), (2, .int (rI 1)), (0, cR x0), (1, .int (rI x1))]) hx hb dX4_putNumber_3 rfl hl (by decide) rfl (fun ls hl => ?_)
  exact pw_X4_putNumber_4 rfl hR htr hd5 B hnh 1100000 σ x0 x1 1 1 ix0 ix1 ⟨by decide, by decide⟩ ⟨by decide, by decide⟩ hf _ _ _ _ _ hw (cl_sub hl [2, 3, 1, 0] rfl)

set_option maxHeartbeats 4000000 in
set_option maxRecDepth 100000 in
theorem pm_X4_putNumber {v : cwE} {bd : Nat × Nat} {l : Launch} {d : Nat} {rec : Nat → CS → List Int → CO} (hbd : bd = (v.2.2.1, v.2.2.2.1)) (hR : cw_Rec l v d rec) (htr : l.stackTraces = false) (hd5 : 5 ≤ d) (σ σ' : CS) (x0 x1 : Int) (kd : Nat) (r : Int) (ix0 : inR x0) (ix1 : inR x1) (hf : pc_X4_putNumber_0 rec bd σ x0 x1 = some (σ', kd, r)) : cw_Met l v yX4_putNumber cX4_putNumber 4 none (d + 1) [cR x0, .int (rI x1)] σ σ' kd none := by
  refine cw_ofW (by decide +kernel) ?_
  intro p e s m args below meth c s₁ B hml hv
  obtain ⟨rfl, hM, hK⟩ := hv
  have hts := atoms_spec (ws := Cond.code yX4_putNumber cX4_putNumber 4 none :: cw_bw) B.pre
  have hB : cw_B v RX4 p s m _ meth c cX4_putNumber 4 none := ⟨B.exec, B.bytes, B.returns, hml, findClass_of_methodNamed B.named, fun w h => hts w (List.mem_cons_of_mem _ h), B.notSynchronized, hK⟩
  have hnh := cc_nh B (hts _ List.mem_cons_self)
  rw [lg_entry_eq]
  obtain ⟨ls, hls, hl⟩ := cl_ent [cR x0, .int (rI x1)] 4 (cl_1r (cl_1i cl_10)) (Nat.le_of_ble_eq_true rfl)
  rw [hls]
  exact pw_X4_putNumber_0 hbd hR htr hd5 hB hnh σ x0 x1 ix0 ix1 hf _ _ _ _ _ (cw_W0 hM) (cl_sub hl [0, 1] rfl)

set_option maxHeartbeats 4000000 in
set_option maxRecDepth 100000 in
theorem pw_X4_putSigns_22 {v : cwE} {bd : Nat × Nat} {p : Program} {l : Launch} {e : Env} {s : State} {m : MethodId} {args : Array Value} {below : List Frame} {meth : Method} {c : Code} {d : Nat} {rec : Nat → CS → List Int → CO} {σ0 σ' : CS} {kd : Nat} {r : Int} (hbd : bd = (v.2.2.1, v.2.2.2.1)) (hR : cw_Rec l v d rec) (htr : l.stackTraces = false) (hd5 : 5 ≤ d) (B : cw_B v RX4 p s m args meth c cX4_putSigns 5 none) (hnh : ∀ x ∈ c.exceptionTable.toList, False) : ∀ (n : Nat) (σ : CS) (x0 x1 x2 x3 x4 : Int), inR x0 → inR x1 → inR x2 → inR x3 → inR x4 → pc_X4_putSigns_22 rec bd n σ x0 x1 x2 x3 x4 = some (σ', kd, r) → ∀ (H : Heap) (locs : List Loc) (cells slots : Nat) (ls : Array Slot), cw_W v s σ0 σ H locs cells slots → cl_has ls 5 [(0, cR x0), (1, cR x1), (2, .int (rI x2)), (3, .int (rI x3)), (4, .int (rI x4))] → W p l e (cw_rm v (d + 1) σ0) s m args below meth c H locs cells slots (cw_Z below v σ0 σ' kd none args s) (F0 m 22 ls []) := by
  subst hbd
  obtain ⟨hx, hb, hr, hml, hown, hts, hlk, hK⟩ := id B
  intro n
  induction n with
  | zero => intro σ x0 x1 x2 x3 x4 ix0 ix1 ix2 ix3 ix4 hf; cases hf
  | succ n ih =>
    intro σ x0 x1 x2 x3 x4 ix0 ix1 ix2 ix3 ix4 hf H locs cells slots ls hw hl
    unfold pc_X4_putSigns_22 at hf
    refine lv_iload hx hb dX4_putSigns_22 (lv_at hl.1 4 rfl) ?_
    refine lv_iload_n hx hb dX4_putSigns_24 rfl (lv_at hl.1 3 rfl) ?_
    refine rn_icmp_ge (a := x4) (b := x3) (tgt := 45) hx hb ix4 ix3 dX4_putSigns_25 (by decide) (fun c1 => ?_) (fun c1 => ?_)
    · replace hf := cc_if_t hf c1
      exact cw_retv B hf hw dX4_putSigns_45
    · replace hf := cc_if_f hf c1
      refine cl_aload_n hx hb dX4_putSigns_28 rfl (lv_at hl.1 0 rfl) ?_
      refine cl_aload_n hx hb dX4_putSigns_29 rfl (lv_at hl.1 1 rfl) ?_
      refine lv_iload_n hx hb dX4_putSigns_30 rfl (lv_at hl.1 2 rfl) ?_
      refine lv_iload hx hb dX4_putSigns_31 (lv_at hl.1 4 rfl) ?_
      obtain ⟨qσ2, hf⟩ := cc_t_s hf
      obtain ⟨σ2, kv3, z4, hσ2, hf⟩ := cc_cl_s hf
      obtain ⟨iz4, mσ2⟩ := hR 58 σ [x1, x2, x4] σ2 kv3 z4 hσ2
      have mσ2 : cw_Met l v yX5_signOf cX5_signOf 3 (some .int) d [cR x1, .int (rI x2), .int (rI x4)] σ σ2 kv3 (some (.int (rI z4))) := mσ2 ix1 ix2 ix4
      refine cw_cv (b := x1) (t := 6) (n := 2) (rest := [cR x0]) (As := [.int (rI x2), .int (rI x4)]) B mσ2 qσ2 ⟨by decide, by decide⟩ cgo_yX5_signOf cml_4_210 cin_yX5_signOf cse_yX5_signOf (by decide +kernel) (by decide) rfl hl.1.1 (cl_cs (cl_1r cl_10) (Nat.le_of_ble_eq_true rfl)) dX4_putSigns_33 rfl hw (fun h0 H locs cells slots hw => ?_) (fun h0 H locs cells slots q ce hw h1 h2 h3 => ?_)
      · rcases hf with ⟨-, hf⟩ | ⟨hk, -⟩
        · skip
          obtain ⟨qσ5, hf⟩ := cc_t_s hf
          obtain ⟨σ5, kv6, z7, hσ5, hf⟩ := cc_cl_s hf
          obtain ⟨iz7, mσ5⟩ := hR 41 σ2 [x0, z4] σ5 kv6 z7 hσ5
          have mσ5 : cw_Met l v yX4_put cX4_put 2 none d [cR x0, .int (rI z4)] σ2 σ5 kv6 none := mσ5 ix0 iz4
          refine cw_cv (b := x0) (t := 5) (n := 1) (rest := []) (As := [.int (rI z4)]) B mσ5 qσ5 ⟨by decide, by decide⟩ cgo_yX4_put cml_4_56 cin_yX4_put cse_yX4_put (by decide +kernel) (by decide) rfl hl.1.1 (Nat.le_of_ble_eq_true rfl) dX4_putSigns_36 rfl hw (fun h0 H locs cells slots hw => ?_) (fun h0 H locs cells slots q ce hw h1 h2 h3 => ?_)
          · rcases hf with ⟨-, hf⟩ | ⟨hk, -⟩
            · skip
              obtain ⟨z8, ez8, iz8, hf⟩ := cc_ck_s hf
              refine cl_iinc (v := rI z8) (lv' := [(4, .int (rI z8)), (0, cR x0), (1, cR x1), (2, .int (rI x2)), (3, .int (rI x3))]) hx hb dX4_putSigns_39 hl (k := 4) rfl (by rw [ez8]; exact rI_add _ _) (by decide) rfl (fun ls hl => ?_)
              refine lv_goto (tgt := 22) hx hb dX4_putSigns_42 (by decide) ?_
              exact ih σ5 x0 x1 x2 x3 z8 ix0 ix1 ix2 ix3 iz8 hf _ _ _ _ _ hw (cl_sub hl [1, 2, 3, 4, 0] rfl)
            · exact absurd h0 hk
          · rcases hf with ⟨hk, -⟩ | ⟨-, hf⟩
            · exact absurd hk h0
            · cases hf
              exact cw_xout B hnh h0 hw h1 h2 h3
        · exact absurd h0 hk
      · rcases hf with ⟨hk, -⟩ | ⟨-, hf⟩
        · exact absurd hk h0
        · cases hf
          exact cw_xout B hnh h0 hw h1 h2 h3

set_option maxHeartbeats 4000000 in
set_option maxRecDepth 100000 in
theorem pw_X4_putSigns_18 {v : cwE} {bd : Nat × Nat} {p : Program} {l : Launch} {e : Env} {s : State} {m : MethodId} {args : Array Value} {below : List Frame} {meth : Method} {c : Code} {d : Nat} {rec : Nat → CS → List Int → CO} {σ0 σ' : CS} {kd : Nat} {r : Int} (hbd : bd = (v.2.2.1, v.2.2.2.1)) (hR : cw_Rec l v d rec) (htr : l.stackTraces = false) (hd5 : 5 ≤ d) (B : cw_B v RX4 p s m args meth c cX4_putSigns 5 none) (hnh : ∀ x ∈ c.exceptionTable.toList, False) : ∀ (σ : CS) (x0 x1 x2 t0 : Int), inR x0 → inR x1 → inR x2 → inR t0 → pc_X4_putSigns_18 rec bd σ x0 x1 x2 t0 = some (σ', kd, r) → ∀ (H : Heap) (locs : List Loc) (cells slots : Nat) (ls : Array Slot), cw_W v s σ0 σ H locs cells slots → cl_has ls 5 [(0, cR x0), (1, cR x1), (2, .int (rI x2))] → W p l e (cw_rm v (d + 1) σ0) s m args below meth c H locs cells slots (cw_Z below v σ0 σ' kd none args s) (F0 m 18 ls [.int (rI t0)]) := by
  subst hbd
  obtain ⟨hx, hb, hr, hml, hown, hts, hlk, hK⟩ := id B
  intro σ x0 x1 x2 t0 ix0 ix1 ix2 it0 hf H locs cells slots ls hw hl
  unfold pc_X4_putSigns_18 at hf
  refine cl_istore_n (lv' := [(3, .int (rI t0)), (0, cR x0), (1, cR x1), (2, .int (rI x2))]) hx hb dX4_putSigns_18 rfl hl (by decide) rfl (fun ls hl => ?_)
  refine lv_iconst (v := rI 0) hx hb dX4_putSigns_19 rfl ?_
  refine cl_istore (lv' := [(4, .int (rI 0)), (3, .int (rI t0)), (0, cR x0), (1, cR x1), (2, .int (rI x2))]) hx hb dX4_putSigns_20 hl (by decide) rfl (fun ls hl => ?_)
  exact pw_X4_putSigns_22 rfl hR htr hd5 B hnh 1100000 σ x0 x1 x2 t0 0 ix0 ix1 ix2 it0 ⟨by decide, by decide⟩ hf _ _ _ _ _ hw (cl_sub hl [2, 3, 4, 1, 0] rfl)

set_option maxHeartbeats 4000000 in
set_option maxRecDepth 100000 in
theorem pw_X4_putSigns_0 {v : cwE} {bd : Nat × Nat} {p : Program} {l : Launch} {e : Env} {s : State} {m : MethodId} {args : Array Value} {below : List Frame} {meth : Method} {c : Code} {d : Nat} {rec : Nat → CS → List Int → CO} {σ0 σ' : CS} {kd : Nat} {r : Int} (hbd : bd = (v.2.2.1, v.2.2.2.1)) (hR : cw_Rec l v d rec) (htr : l.stackTraces = false) (hd5 : 5 ≤ d) (B : cw_B v RX4 p s m args meth c cX4_putSigns 5 none) (hnh : ∀ x ∈ c.exceptionTable.toList, False) : ∀ (σ : CS) (x0 x1 x2 : Int), inR x0 → inR x1 → inR x2 → pc_X4_putSigns_0 rec bd σ x0 x1 x2 = some (σ', kd, r) → ∀ (H : Heap) (locs : List Loc) (cells slots : Nat) (ls : Array Slot), cw_W v s σ0 σ H locs cells slots → cl_has ls 5 [(0, cR x0), (1, cR x1), (2, .int (rI x2))] → W p l e (cw_rm v (d + 1) σ0) s m args below meth c H locs cells slots (cw_Z below v σ0 σ' kd none args s) (F0 m 0 ls []) := by
  subst hbd
  obtain ⟨hx, hb, hr, hml, hown, hts, hlk, hK⟩ := id B
  intro σ x0 x1 x2 ix0 ix1 ix2 hf H locs cells slots ls hw hl
  unfold pc_X4_putSigns_0 at hf
  refine cl_aload_n hx hb dX4_putSigns_0 rfl (lv_at hl.1 1 rfl) ?_
  refine lv_iload_n hx hb dX4_putSigns_1 rfl (lv_at hl.1 2 rfl) ?_
  obtain ⟨qσ1, hf⟩ := cc_t_s hf
  obtain ⟨σ1, kv2, z3, hσ1, hf⟩ := cc_cl_s hf
  obtain ⟨iz3, mσ1⟩ := hR 55 σ [x1, x2] σ1 kv2 z3 hσ1
  have mσ1 : cw_Met l v yX5_has cX5_has 2 (some .boolean) d [cR x1, .int (rI x2)] σ σ1 kv2 (some (.int (rI z3))) := mσ1 ix1 ix2
  refine cw_cv (b := x1) (t := 6) (n := 1) (rest := []) (As := [.int (rI x2)]) B mσ1 qσ1 ⟨by decide, by decide⟩ cgo_yX5_has cml_4_201 cin_yX5_has cse_yX5_has (by decide +kernel) (by decide) rfl hl.1.1 (Nat.le_of_ble_eq_true rfl) dX4_putSigns_2 rfl hw (fun h0 H locs cells slots hw => ?_) (fun h0 H locs cells slots q ce hw h1 h2 h3 => ?_)
  · rcases hf with ⟨-, hf⟩ | ⟨hk, -⟩
    · skip
      refine rn_if_eq (a := z3) (tgt := 17) hx hb iz3 dX4_putSigns_5 (by decide) (fun c4 => ?_) (fun c4 => ?_)
      · replace hf := cc_if_t hf c4
        refine lv_iconst (v := rI 0) hx hb dX4_putSigns_17 rfl ?_
        exact pw_X4_putSigns_18 rfl hR htr hd5 B hnh σ1 x0 x1 x2 0 ix0 ix1 ix2 ⟨by decide, by decide⟩ hf _ _ _ _ _ hw (cl_sub hl [0, 1, 2] rfl)
      · replace hf := cc_if_f hf c4
        refine cl_aload_n hx hb dX4_putSigns_8 rfl (lv_at hl.1 1 rfl) ?_
        obtain ⟨z5, ez5, iz5, rz5, hf⟩ := cc_g_s hw hf
        refine cw_get (val := cR z5) B hw rz5 ⟨by decide, by decide⟩ (by decide) cwi_6 cfl_4_207 ez5 rfl dX4_putSigns_9 ?_
        refine lv_iload_n hx hb dX4_putSigns_12 rfl (lv_at hl.1 2 rfl) ?_
        obtain ⟨z6, ez6, iz6, rz6, bz6, hf⟩ := cc_r_s hw hf
        refine cw_aldI B hw rz6 ix2 bz6 ez6 dX4_putSigns_13 ?_
        refine lv_goto (tgt := 18) hx hb dX4_putSigns_14 (by decide) ?_
        exact pw_X4_putSigns_18 rfl hR htr hd5 B hnh σ1 x0 x1 x2 z6 ix0 ix1 ix2 iz6 hf _ _ _ _ _ hw (cl_sub hl [0, 1, 2] rfl)
    · exact absurd h0 hk
  · rcases hf with ⟨hk, -⟩ | ⟨-, hf⟩
    · exact absurd hk h0
    · cases hf
      exact cw_xout B hnh h0 hw h1 h2 h3

set_option maxHeartbeats 4000000 in
set_option maxRecDepth 100000 in
theorem pm_X4_putSigns {v : cwE} {bd : Nat × Nat} {l : Launch} {d : Nat} {rec : Nat → CS → List Int → CO} (hbd : bd = (v.2.2.1, v.2.2.2.1)) (hR : cw_Rec l v d rec) (htr : l.stackTraces = false) (hd5 : 5 ≤ d) (σ σ' : CS) (x0 x1 x2 : Int) (kd : Nat) (r : Int) (ix0 : inR x0) (ix1 : inR x1) (ix2 : inR x2) (hf : pc_X4_putSigns_0 rec bd σ x0 x1 x2 = some (σ', kd, r)) : cw_Met l v yX4_putSigns cX4_putSigns 5 none (d + 1) [cR x0, cR x1, .int (rI x2)] σ σ' kd none := by
  refine cw_ofW (by decide +kernel) ?_
  intro p e s m args below meth c s₁ B hml hv
  obtain ⟨rfl, hM, hK⟩ := hv
  have hts := atoms_spec (ws := Cond.code yX4_putSigns cX4_putSigns 5 none :: cw_bw) B.pre
  have hB : cw_B v RX4 p s m _ meth c cX4_putSigns 5 none := ⟨B.exec, B.bytes, B.returns, hml, findClass_of_methodNamed B.named, fun w h => hts w (List.mem_cons_of_mem _ h), B.notSynchronized, hK⟩
  have hnh := cc_nh B (hts _ List.mem_cons_self)
  rw [lg_entry_eq]
  obtain ⟨ls, hls, hl⟩ := cl_ent [cR x0, cR x1, .int (rI x2)] 5 (cl_1r (cl_1r (cl_1i cl_10))) (Nat.le_of_ble_eq_true rfl)
  rw [hls]
  exact pw_X4_putSigns_0 hbd hR htr hd5 hB hnh σ x0 x1 x2 ix0 ix1 ix2 hf _ _ _ _ _ (cw_W0 hM) (cl_sub hl [0, 1, 2] rfl)

set_option maxHeartbeats 4000000 in
set_option maxRecDepth 100000 in
theorem pw_X4_record_0 {v : cwE} {bd : Nat × Nat} {p : Program} {l : Launch} {e : Env} {s : State} {m : MethodId} {args : Array Value} {below : List Frame} {meth : Method} {c : Code} {d : Nat} {rec : Nat → CS → List Int → CO} {σ0 σ' : CS} {kd : Nat} {r : Int} (hbd : bd = (v.2.2.1, v.2.2.2.1)) (hR : cw_Rec l v d rec) (htr : l.stackTraces = false) (hd5 : 5 ≤ d) (B : cw_B v RX4 p s m args meth c cX4_record 2 none) (hnh : ∀ x ∈ c.exceptionTable.toList, False) : ∀ (σ : CS) (x0 x1 : Int), inR x0 → inR x1 → pc_X4_record_0 rec bd σ x0 x1 = some (σ', kd, r) → ∀ (H : Heap) (locs : List Loc) (cells slots : Nat) (ls : Array Slot), cw_W v s σ0 σ H locs cells slots → cl_has ls 2 [(0, cR x0), (1, .int (rI x1))] → W p l e (cw_rm v (d + 1) σ0) s m args below meth c H locs cells slots (cw_Z below v σ0 σ' kd none args s) (F0 m 0 ls []) := by
  subst hbd
  obtain ⟨hx, hb, hr, hml, hown, hts, hlk, hK⟩ := id B
  intro σ x0 x1 ix0 ix1 hf H locs cells slots ls hw hl
  unfold pc_X4_record_0 at hf
  refine cl_aload_n hx hb dX4_record_0 rfl (lv_at hl.1 0 rfl) ?_
  obtain ⟨z1, ez1, iz1, rz1, hf⟩ := cc_g_s hw hf
  refine cw_get (val := cR z1) B hw rz1 ⟨by decide, by decide⟩ (by decide) cwi_5 cfl_4_9 ez1 rfl dX4_record_1 ?_
  refine lv_iconst (v := rI 0) hx hb dX4_record_4 rfl ?_
  refine lv_dup2_11 hx hb dX4_record_5 rfl (cR_cat _) ?_
  obtain ⟨z2, ez2, iz2, rz2, bz2, hf⟩ := cc_r_s hw hf
  refine cw_aldI B hw rz2 ⟨by decide, by decide⟩ bz2 ez2 dX4_record_6 ?_
  refine lv_iconst (v := rI 1) hx hb dX4_record_7 rfl ?_
  obtain ⟨z3, ez3, iz3, hf⟩ := cc_ck_s hf
  refine rn_add hx hb ez3 dX4_record_8 ?_
  obtain ⟨σ4, eσ4, rσ4, bσ4, hf⟩ := cc_w_s hf
  refine cw_astI B hw rσ4 ⟨by decide, by decide⟩ bσ4 iz3 eσ4 dX4_record_9 (fun H locs hw => ?_)
  refine cl_aload_n hx hb dX4_record_10 rfl (lv_at hl.1 0 rfl) ?_
  obtain ⟨z5, ez5, iz5, rz5, hf⟩ := cc_g_s hw hf
  refine cw_get (val := cR z5) B hw rz5 ⟨by decide, by decide⟩ (by decide) cwi_5 cfl_4_9 ez5 rfl dX4_record_11 ?_
  refine lv_iload_n hx hb dX4_record_14 rfl (lv_at hl.1 1 rfl) ?_
  refine lv_dup2_11 hx hb dX4_record_15 rfl (cR_cat _) ?_
  obtain ⟨z6, ez6, iz6, rz6, bz6, hf⟩ := cc_r_s hw hf
  refine cw_aldI B hw rz6 ix1 bz6 ez6 dX4_record_16 ?_
  refine lv_iconst (v := rI 1) hx hb dX4_record_17 rfl ?_
  obtain ⟨z7, ez7, iz7, hf⟩ := cc_ck_s hf
  refine rn_add hx hb ez7 dX4_record_18 ?_
  obtain ⟨σ8, eσ8, rσ8, bσ8, hf⟩ := cc_w_s hf
  refine cw_astI B hw rσ8 ix1 bσ8 iz7 eσ8 dX4_record_19 (fun H locs hw => ?_)
  refine cl_aload_n hx hb dX4_record_20 rfl (lv_at hl.1 0 rfl) ?_
  refine lv_dup hx hb dX4_record_21 (cR_cat _) ?_
  obtain ⟨z9, ez9, iz9, rz9, hf⟩ := cc_g_s hw hf
  refine cw_get (val := .int (rI z9)) B hw rz9 ⟨by decide, by decide⟩ (by decide) cwi_5 cfl_4_15 ez9 rfl dX4_record_22 ?_
  refine lv_iconst (v := rI 1) hx hb dX4_record_25 rfl ?_
  obtain ⟨z10, ez10, iz10, hf⟩ := cc_ck_s hf
  refine rn_add hx hb ez10 dX4_record_26 ?_
  obtain ⟨σ11, eσ11, rσ11, hf⟩ := cc_p_s hf
  refine cw_put B hw rσ11 cwt_5 (by decide) rfl cfl_4_15 iz10 eσ11 rfl (cw_fv_n rfl rfl) dX4_record_27 (fun H locs hw => ?_)
  exact cw_retv B hf hw dX4_record_30

set_option maxHeartbeats 4000000 in
set_option maxRecDepth 100000 in
theorem pm_X4_record {v : cwE} {bd : Nat × Nat} {l : Launch} {d : Nat} {rec : Nat → CS → List Int → CO} (hbd : bd = (v.2.2.1, v.2.2.2.1)) (hR : cw_Rec l v d rec) (htr : l.stackTraces = false) (hd5 : 5 ≤ d) (σ σ' : CS) (x0 x1 : Int) (kd : Nat) (r : Int) (ix0 : inR x0) (ix1 : inR x1) (hf : pc_X4_record_0 rec bd σ x0 x1 = some (σ', kd, r)) : cw_Met l v yX4_record cX4_record 2 none (d + 1) [cR x0, .int (rI x1)] σ σ' kd none := by
  refine cw_ofW (by decide +kernel) ?_
  intro p e s m args below meth c s₁ B hml hv
  obtain ⟨rfl, hM, hK⟩ := hv
  have hts := atoms_spec (ws := Cond.code yX4_record cX4_record 2 none :: cw_bw) B.pre
  have hB : cw_B v RX4 p s m _ meth c cX4_record 2 none := ⟨B.exec, B.bytes, B.returns, hml, findClass_of_methodNamed B.named, fun w h => hts w (List.mem_cons_of_mem _ h), B.notSynchronized, hK⟩
  have hnh := cc_nh B (hts _ List.mem_cons_self)
  rw [lg_entry_eq]
  obtain ⟨ls, hls, hl⟩ := cl_ent [cR x0, .int (rI x1)] 2 (cl_1r (cl_1i cl_10)) (Nat.le_of_ble_eq_true rfl)
  rw [hls]
  exact pw_X4_record_0 hbd hR htr hd5 hB hnh σ x0 x1 ix0 ix1 hf _ _ _ _ _ (cw_W0 hM) (cl_sub hl [0, 1] rfl)

set_option maxHeartbeats 4000000 in
set_option maxRecDepth 100000 in
theorem pw_X4_spend_0 {v : cwE} {bd : Nat × Nat} {p : Program} {l : Launch} {e : Env} {s : State} {m : MethodId} {args : Array Value} {below : List Frame} {meth : Method} {c : Code} {d : Nat} {rec : Nat → CS → List Int → CO} {σ0 σ' : CS} {kd : Nat} {r : Int} (hbd : bd = (v.2.2.1, v.2.2.2.1)) (hR : cw_Rec l v d rec) (htr : l.stackTraces = false) (hd5 : 5 ≤ d) (B : cw_B v RX4 p s m args meth c cX4_spend 2 none) (hnh : ∀ x ∈ c.exceptionTable.toList, False) : ∀ (σ : CS) (x0 x1 : Int), inR x0 → inR x1 → pc_X4_spend_0 rec bd σ x0 x1 = some (σ', kd, r) → ∀ (H : Heap) (locs : List Loc) (cells slots : Nat) (ls : Array Slot), cw_W v s σ0 σ H locs cells slots → cl_has ls 2 [(0, cR x0), (1, .int (rI x1))] → W p l e (cw_rm v (d + 1) σ0) s m args below meth c H locs cells slots (cw_Z below v σ0 σ' kd none args s) (F0 m 0 ls []) := by
  subst hbd
  obtain ⟨hx, hb, hr, hml, hown, hts, hlk, hK⟩ := id B
  intro σ x0 x1 ix0 ix1 hf H locs cells slots ls hw hl
  unfold pc_X4_spend_0 at hf
  refine cl_aload_n hx hb dX4_spend_0 rfl (lv_at hl.1 0 rfl) ?_
  obtain ⟨z1, ez1, iz1, rz1, hf⟩ := cc_g_s hw hf
  refine cw_get (val := cR z1) B hw rz1 ⟨by decide, by decide⟩ (by decide) cwi_5 cfl_4_9 ez1 rfl dX4_spend_1 ?_
  refine lv_iconst (v := rI 0) hx hb dX4_spend_4 rfl ?_
  obtain ⟨z2, ez2, iz2, rz2, bz2, hf⟩ := cc_r_s hw hf
  refine cw_aldI B hw rz2 ⟨by decide, by decide⟩ bz2 ez2 dX4_spend_5 ?_
  refine cl_aload_n hx hb dX4_spend_6 rfl (lv_at hl.1 0 rfl) ?_
  obtain ⟨z3, ez3, iz3, rz3, hf⟩ := cc_g_s hw hf
  refine cw_get (val := .int (rI z3)) B hw rz3 ⟨by decide, by decide⟩ (by decide) cwi_5 cfl_4_19 ez3 rfl dX4_spend_7 ?_
  refine rn_icmp_lt (a := z2) (b := z3) (tgt := 34) hx hb iz2 iz3 dX4_spend_10 (by decide) (fun c4 => ?_) (fun c4 => ?_)
  · replace hf := cc_if_t hf c4
    refine cl_aload_n hx hb dX4_spend_34 rfl (lv_at hl.1 0 rfl) ?_
    obtain ⟨z5, ez5, iz5, rz5, hf⟩ := cc_g_s hw hf
    refine cw_get (val := .int (rI z5)) B hw rz5 ⟨by decide, by decide⟩ (by decide) cwi_5 cfl_4_15 ez5 rfl dX4_spend_35 ?_
    refine lv_ldc (v := rI 60000) hx hb hown (hts _ clc_4_92) dX4_spend_38 ?_
    refine rn_icmp_lt (a := z5) (b := 60000) (tgt := 64) hx hb iz5 ⟨by decide, by decide⟩ dX4_spend_40 (by decide) (fun c6 => ?_) (fun c6 => ?_)
    · replace hf := cc_if_t hf c6
      refine cl_aload_n hx hb dX4_spend_64 rfl (lv_at hl.1 0 rfl) ?_
      refine lv_iload_n hx hb dX4_spend_65 rfl (lv_at hl.1 1 rfl) ?_
      obtain ⟨qσ7, hf⟩ := cc_t_s hf
      obtain ⟨σ7, kv8, z9, hσ7, hf⟩ := cc_cl_s hf
      obtain ⟨iz9, mσ7⟩ := hR 47 σ [x0, x1] σ7 kv8 z9 hσ7
      have mσ7 : cw_Met l v yX4_record cX4_record 2 none d [cR x0, .int (rI x1)] σ σ7 kv8 none := mσ7 ix0 ix1
      refine cw_cv (b := x0) (t := 5) (n := 1) (rest := []) (As := [.int (rI x1)]) B mσ7 qσ7 ⟨by decide, by decide⟩ cgo_yX4_record cml_4_93 cin_yX4_record cse_yX4_record (by decide +kernel) (by decide) rfl hl.1.1 (Nat.le_of_ble_eq_true rfl) dX4_spend_66 rfl hw (fun h0 H locs cells slots hw => ?_) (fun h0 H locs cells slots q ce hw h1 h2 h3 => ?_)
      · rcases hf with ⟨-, hf⟩ | ⟨hk, -⟩
        · skip
          exact cw_retv B hf hw dX4_spend_69
        · exact absurd h0 hk
      · rcases hf with ⟨hk, -⟩ | ⟨-, hf⟩
        · exact absurd hk h0
        · cases hf
          exact cw_xout B hnh h0 hw h1 h2 h3
    · replace hf := cc_if_f hf c6
      refine cl_aload_n hx hb dX4_spend_43 rfl (lv_at hl.1 0 rfl) ?_
      obtain ⟨z10, ez10, iz10, rz10, hf⟩ := cc_g_s hw hf
      refine cw_get (val := cR z10) B hw rz10 ⟨by decide, by decide⟩ (by decide) cwi_5 cfl_4_36 ez10 rfl dX4_spend_44 ?_
      refine lv_bipush (v := rI 14) hx hb dX4_spend_47 (by decide +kernel) ?_
      refine cl_aload_n hx hb dX4_spend_49 rfl (lv_at hl.1 0 rfl) ?_
      obtain ⟨z11, ez11, iz11, rz11, hf⟩ := cc_g_s hw hf
      refine cw_get (val := .int (rI z11)) B hw rz11 ⟨by decide, by decide⟩ (by decide) cwi_5 cfl_4_22 ez11 rfl dX4_spend_50 ?_
      obtain ⟨qσ12, hf⟩ := cc_t_s hf
      obtain ⟨σ12, kv13, z14, hσ12, hf⟩ := cc_cl_s hf
      obtain ⟨iz14, mσ12⟩ := hR 95 σ [z10, 14, z11] σ12 kv13 z14 hσ12
      have mσ12 : cw_Met l v yX10_set cX10_set 3 none d [cR z10, .int (rI 14), .int (rI z11)] σ σ12 kv13 none := mσ12 iz10 ⟨by decide, by decide⟩ iz11
      refine cw_cv (b := z10) (t := 11) (n := 2) (rest := []) (As := [.int (rI 14), .int (rI z11)]) B mσ12 qσ12 ⟨by decide, by decide⟩ cgo_yX10_set cml_4_83 cin_yX10_set cse_yX10_set (by decide +kernel) (by decide) rfl hl.1.1 (Nat.le_of_ble_eq_true rfl) dX4_spend_53 rfl hw (fun h0 H locs cells slots hw => ?_) (fun h0 H locs cells slots q ce hw h1 h2 h3 => ?_)
      · rcases hf with ⟨-, hf⟩ | ⟨hk, -⟩
        · skip
          obtain ⟨hy, hm⟩ := cc_x_s hf
          obtain ⟨hy1, hy2⟩ := Prod.mk.inj hy
          obtain ⟨hy2, hy3⟩ := Prod.mk.inj hy2
          subst hy2
          refine cw_throw (rest := []) B hnh htr hw (by decide) (by decide +kernel) cxc_4_89 cxi_1 (cw_hat cxa_4_91 (by decide +kernel) hts hK.1) (List.all_eq_true.mp cxg_4_91) hd5 hm hy1 hl.1.1 (Nat.le_of_ble_eq_true rfl) dX4_spend_56 dX4_spend_59 dX4_spend_60 dX4_spend_63
        · exact absurd h0 hk
      · rcases hf with ⟨hk, -⟩ | ⟨-, hf⟩
        · exact absurd hk h0
        · cases hf
          exact cw_xout B hnh h0 hw h1 h2 h3
  · replace hf := cc_if_f hf c4
    refine cl_aload_n hx hb dX4_spend_13 rfl (lv_at hl.1 0 rfl) ?_
    obtain ⟨z15, ez15, iz15, rz15, hf⟩ := cc_g_s hw hf
    refine cw_get (val := cR z15) B hw rz15 ⟨by decide, by decide⟩ (by decide) cwi_5 cfl_4_36 ez15 rfl dX4_spend_14 ?_
    refine lv_bipush (v := rI 12) hx hb dX4_spend_17 (by decide +kernel) ?_
    refine cl_aload_n hx hb dX4_spend_19 rfl (lv_at hl.1 0 rfl) ?_
    obtain ⟨z16, ez16, iz16, rz16, hf⟩ := cc_g_s hw hf
    refine cw_get (val := .int (rI z16)) B hw rz16 ⟨by decide, by decide⟩ (by decide) cwi_5 cfl_4_22 ez16 rfl dX4_spend_20 ?_
    obtain ⟨qσ17, hf⟩ := cc_t_s hf
    obtain ⟨σ17, kv18, z19, hσ17, hf⟩ := cc_cl_s hf
    obtain ⟨iz19, mσ17⟩ := hR 95 σ [z15, 12, z16] σ17 kv18 z19 hσ17
    have mσ17 : cw_Met l v yX10_set cX10_set 3 none d [cR z15, .int (rI 12), .int (rI z16)] σ σ17 kv18 none := mσ17 iz15 ⟨by decide, by decide⟩ iz16
    refine cw_cv (b := z15) (t := 11) (n := 2) (rest := []) (As := [.int (rI 12), .int (rI z16)]) B mσ17 qσ17 ⟨by decide, by decide⟩ cgo_yX10_set cml_4_83 cin_yX10_set cse_yX10_set (by decide +kernel) (by decide) rfl hl.1.1 (Nat.le_of_ble_eq_true rfl) dX4_spend_23 rfl hw (fun h0 H locs cells slots hw => ?_) (fun h0 H locs cells slots q ce hw h1 h2 h3 => ?_)
    · rcases hf with ⟨-, hf⟩ | ⟨hk, -⟩
      · skip
        obtain ⟨hy, hm⟩ := cc_x_s hf
        obtain ⟨hy1, hy2⟩ := Prod.mk.inj hy
        obtain ⟨hy2, hy3⟩ := Prod.mk.inj hy2
        subst hy2
        refine cw_throw (rest := []) B hnh htr hw (by decide) (by decide +kernel) cxc_4_89 cxi_1 (cw_hat cxa_4_91 (by decide +kernel) hts hK.1) (List.all_eq_true.mp cxg_4_91) hd5 hm hy1 hl.1.1 (Nat.le_of_ble_eq_true rfl) dX4_spend_26 dX4_spend_29 dX4_spend_30 dX4_spend_33
      · exact absurd h0 hk
    · rcases hf with ⟨hk, -⟩ | ⟨-, hf⟩
      · exact absurd hk h0
      · cases hf
        exact cw_xout B hnh h0 hw h1 h2 h3

set_option maxHeartbeats 4000000 in
set_option maxRecDepth 100000 in
theorem pm_X4_spend {v : cwE} {bd : Nat × Nat} {l : Launch} {d : Nat} {rec : Nat → CS → List Int → CO} (hbd : bd = (v.2.2.1, v.2.2.2.1)) (hR : cw_Rec l v d rec) (htr : l.stackTraces = false) (hd5 : 5 ≤ d) (σ σ' : CS) (x0 x1 : Int) (kd : Nat) (r : Int) (ix0 : inR x0) (ix1 : inR x1) (hf : pc_X4_spend_0 rec bd σ x0 x1 = some (σ', kd, r)) : cw_Met l v yX4_spend cX4_spend 2 none (d + 1) [cR x0, .int (rI x1)] σ σ' kd none := by
  refine cw_ofW (by decide +kernel) ?_
  intro p e s m args below meth c s₁ B hml hv
  obtain ⟨rfl, hM, hK⟩ := hv
  have hts := atoms_spec (ws := Cond.code yX4_spend cX4_spend 2 none :: cw_bw) B.pre
  have hB : cw_B v RX4 p s m _ meth c cX4_spend 2 none := ⟨B.exec, B.bytes, B.returns, hml, findClass_of_methodNamed B.named, fun w h => hts w (List.mem_cons_of_mem _ h), B.notSynchronized, hK⟩
  have hnh := cc_nh B (hts _ List.mem_cons_self)
  rw [lg_entry_eq]
  obtain ⟨ls, hls, hl⟩ := cl_ent [cR x0, .int (rI x1)] 2 (cl_1r (cl_1i cl_10)) (Nat.le_of_ble_eq_true rfl)
  rw [hls]
  exact pw_X4_spend_0 hbd hR htr hd5 hB hnh σ x0 x1 ix0 ix1 hf _ _ _ _ _ (cw_W0 hM) (cl_sub hl [0, 1] rfl)

set_option maxHeartbeats 4000000 in
set_option maxRecDepth 100000 in
theorem pw_X4_tell_199 {v : cwE} {bd : Nat × Nat} {p : Program} {l : Launch} {e : Env} {s : State} {m : MethodId} {args : Array Value} {below : List Frame} {meth : Method} {c : Code} {d : Nat} {rec : Nat → CS → List Int → CO} {σ0 σ' : CS} {kd : Nat} {r : Int} (hbd : bd = (v.2.2.1, v.2.2.2.1)) (hR : cw_Rec l v d rec) (htr : l.stackTraces = false) (hd5 : 5 ≤ d) (B : cw_B v RX4 p s m args meth c cX4_tell 10 none) (hnh : ∀ x ∈ c.exceptionTable.toList, False) : ∀ (σ : CS) (x0 x8 : Int), inR x0 → inR x8 → pc_X4_tell_199 rec bd σ x0 x8 = some (σ', kd, r) → ∀ (H : Heap) (locs : List Loc) (cells slots : Nat) (ls : Array Slot), cw_W v s σ0 σ H locs cells slots → cl_has ls 10 [(0, cR x0), (8, .int (rI x8))] → W p l e (cw_rm v (d + 1) σ0) s m args below meth c H locs cells slots (cw_Z below v σ0 σ' kd none args s) (F0 m 199 ls []) := by
  subst hbd
  obtain ⟨hx, hb, hr, hml, hown, hts, hlk, hK⟩ := id B
  intro σ x0 x8 ix0 ix8 hf H locs cells slots ls hw hl
  unfold pc_X4_tell_199 at hf
  refine lv_iload hx hb dX4_tell_199 (lv_at hl.1 1 rfl) ?_
  refine rn_if_eq (a := x8) (tgt := 210) hx hb ix8 dX4_tell_201 (by decide) (fun c1 => ?_) (fun c1 => ?_)
  · replace hf := cc_if_t hf c1
    exact cw_retv B hf hw dX4_tell_210
  · replace hf := cc_if_f hf c1
    refine cl_aload_n hx hb dX4_tell_204 rfl (lv_at hl.1 0 rfl) ?_
    refine lv_bipush (v := rI 41) hx hb dX4_tell_205 (by decide +kernel) ?_
    obtain ⟨qσ2, hf⟩ := cc_t_s hf
    obtain ⟨σ2, kv3, z4, hσ2, hf⟩ := cc_cl_s hf
    obtain ⟨iz4, mσ2⟩ := hR 41 σ [x0, 41] σ2 kv3 z4 hσ2
    have mσ2 : cw_Met l v yX4_put cX4_put 2 none d [cR x0, .int (rI 41)] σ σ2 kv3 none := mσ2 ix0 ⟨by decide, by decide⟩
    refine cw_cv (b := x0) (t := 5) (n := 1) (rest := []) (As := [.int (rI 41)]) B mσ2 qσ2 ⟨by decide, by decide⟩ cgo_yX4_put cml_4_56 cin_yX4_put cse_yX4_put (by decide +kernel) (by decide) rfl hl.1.1 (Nat.le_of_ble_eq_true rfl) dX4_tell_207 rfl hw (fun h0 H locs cells slots hw => ?_) (fun h0 H locs cells slots q ce hw h1 h2 h3 => ?_)
    · rcases hf with ⟨-, hf⟩ | ⟨hk, -⟩
      · skip
        exact cw_retv B hf hw dX4_tell_210
      · exact absurd h0 hk
    · rcases hf with ⟨hk, -⟩ | ⟨-, hf⟩
      · exact absurd hk h0
      · cases hf
        exact cw_xout B hnh h0 hw h1 h2 h3

set_option maxHeartbeats 4000000 in
set_option maxRecDepth 100000 in
theorem pw_X4_tell_158 {v : cwE} {bd : Nat × Nat} {p : Program} {l : Launch} {e : Env} {s : State} {m : MethodId} {args : Array Value} {below : List Frame} {meth : Method} {c : Code} {d : Nat} {rec : Nat → CS → List Int → CO} {σ0 σ' : CS} {kd : Nat} {r : Int} (hbd : bd = (v.2.2.1, v.2.2.2.1)) (hR : cw_Rec l v d rec) (htr : l.stackTraces = false) (hd5 : 5 ≤ d) (B : cw_B v RX4 p s m args meth c cX4_tell 10 none) (hnh : ∀ x ∈ c.exceptionTable.toList, False) : ∀ (n : Nat) (σ : CS) (x0 x3 x4 x8 x9 : Int), inR x0 → inR x3 → inR x4 → inR x8 → inR x9 → pc_X4_tell_158 rec bd n σ x0 x3 x4 x8 x9 = some (σ', kd, r) → ∀ (H : Heap) (locs : List Loc) (cells slots : Nat) (ls : Array Slot), cw_W v s σ0 σ H locs cells slots → cl_has ls 10 [(0, cR x0), (3, .int (rI x3)), (4, .int (rI x4)), (8, .int (rI x8)), (9, cR x9)] → W p l e (cw_rm v (d + 1) σ0) s m args below meth c H locs cells slots (cw_Z below v σ0 σ' kd none args s) (F0 m 158 ls []) := by
  subst hbd
  obtain ⟨hx, hb, hr, hml, hown, hts, hlk, hK⟩ := id B
  intro n
  induction n with
  | zero => intro σ x0 x3 x4 x8 x9 ix0 ix3 ix4 ix8 ix9 hf; cases hf
  | succ n ih =>
    intro σ x0 x3 x4 x8 x9 ix0 ix3 ix4 ix8 ix9 hf H locs cells slots ls hw hl
    unfold pc_X4_tell_158 at hf
    refine cl_aload hx hb dX4_tell_158 (lv_at hl.1 4 rfl) ?_
    refine cl_ifnull (x := x9) (tgt := 199) hx hb dX4_tell_160 (by decide) (fun c1 => ?_) (fun c1 => ?_)
    · replace hf := cc_if_t hf c1
      exact pw_X4_tell_199 rfl hR htr hd5 B hnh σ x0 x8 ix0 ix8 hf _ _ _ _ _ hw (cl_sub hl [0, 3] rfl)
    · replace hf := cc_if_f hf c1
      refine cl_aload_n hx hb dX4_tell_163 rfl (lv_at hl.1 0 rfl) ?_
      refine lv_bipush (v := rI 32) hx hb dX4_tell_164 (by decide +kernel) ?_
      obtain ⟨qσ2, hf⟩ := cc_t_s hf
      obtain ⟨σ2, kv3, z4, hσ2, hf⟩ := cc_cl_s hf
      obtain ⟨iz4, mσ2⟩ := hR 41 σ [x0, 32] σ2 kv3 z4 hσ2
      have mσ2 : cw_Met l v yX4_put cX4_put 2 none d [cR x0, .int (rI 32)] σ σ2 kv3 none := mσ2 ix0 ⟨by decide, by decide⟩
      refine cw_cv (b := x0) (t := 5) (n := 1) (rest := []) (As := [.int (rI 32)]) B mσ2 qσ2 ⟨by decide, by decide⟩ cgo_yX4_put cml_4_56 cin_yX4_put cse_yX4_put (by decide +kernel) (by decide) rfl hl.1.1 (Nat.le_of_ble_eq_true rfl) dX4_tell_166 rfl hw (fun h0 H locs cells slots hw => ?_) (fun h0 H locs cells slots q ce hw h1 h2 h3 => ?_)
      · rcases hf with ⟨-, hf⟩ | ⟨hk, -⟩
        · skip
          refine cl_aload_n hx hb dX4_tell_169 rfl (lv_at hl.1 0 rfl) ?_
          refine cl_aload hx hb dX4_tell_170 (lv_at hl.1 4 rfl) ?_
          obtain ⟨z5, ez5, iz5, rz5, hf⟩ := cc_g_s hw hf
          refine cw_get (val := cR z5) B hw rz5 ⟨by decide, by decide⟩ (by decide) cwi_4 cfl_4_125 ez5 rfl dX4_tell_172 ?_
          refine cl_aload hx hb dX4_tell_175 (lv_at hl.1 4 rfl) ?_
          obtain ⟨z6, ez6, iz6, rz6, hf⟩ := cc_g_s hw hf
          refine cw_get (val := cR z6) B hw rz6 ⟨by decide, by decide⟩ (by decide) cwi_4 cfl_4_128 ez6 rfl dX4_tell_177 ?_
          refine lv_iload_n hx hb dX4_tell_180 rfl (lv_at hl.1 1 rfl) ?_
          refine lv_iload hx hb dX4_tell_181 (lv_at hl.1 2 rfl) ?_
          refine lv_iconst (v := rI 1) hx hb dX4_tell_183 rfl ?_
          obtain ⟨z7, ez7, iz7, hf⟩ := cc_ck_s hf
          refine rn_add hx hb ez7 dX4_tell_184 ?_
          refine lv_iconst (v := rI 2) hx hb dX4_tell_185 rfl ?_
          obtain ⟨qσ8, hf⟩ := cc_t_s hf
          obtain ⟨σ8, kv9, z10, hσ8, hf⟩ := cc_cl_s hf
          obtain ⟨iz10, mσ8⟩ := hR 49 σ2 [x0, z5, z6, x3, z7, 2] σ8 kv9 z10 hσ8
          have mσ8 : cw_Met l v yX4_tell cX4_tell 10 none d [cR x0, cR z5, cR z6, .int (rI x3), .int (rI z7), .int (rI 2)] σ2 σ8 kv9 none := mσ8 ix0 iz5 iz6 ix3 iz7 ⟨by decide, by decide⟩
          refine cw_cv (b := x0) (t := 5) (n := 5) (rest := []) (As := [cR z5, cR z6, .int (rI x3), .int (rI z7), .int (rI 2)]) B mσ8 qσ8 ⟨by decide, by decide⟩ cgo_yX4_tell cml_4_44 cin_yX4_tell cse_yX4_tell (by decide +kernel) (by decide) rfl hl.1.1 (Nat.le_of_ble_eq_true rfl) dX4_tell_186 rfl hw (fun h0 H locs cells slots hw => ?_) (fun h0 H locs cells slots q ce hw h1 h2 h3 => ?_)
          · rcases hf with ⟨-, hf⟩ | ⟨hk, -⟩
            · skip
              refine cl_aload hx hb dX4_tell_189 (lv_at hl.1 4 rfl) ?_
              obtain ⟨z11, ez11, iz11, rz11, hf⟩ := cc_g_s hw hf
              refine cw_get (val := cR z11) B hw rz11 ⟨by decide, by decide⟩ (by decide) cwi_4 cfl_4_131 ez11 rfl dX4_tell_191 ?_
              refine cl_astore (lv' := [(9, cR z11), (0, cR x0), (3, .int (rI x3)), (4, .int (rI x4)), (8, .int (rI x8))]) hx hb dX4_tell_194 hl (by decide) rfl (fun ls hl => ?_)
              refine lv_goto (tgt := 158) hx hb dX4_tell_196 (by decide) ?_
              exact ih σ8 x0 x3 x4 x8 z11 ix0 ix3 ix4 ix8 iz11 hf _ _ _ _ _ hw (cl_sub hl [1, 2, 3, 4, 0] rfl)
            · exact absurd h0 hk
          · rcases hf with ⟨hk, -⟩ | ⟨-, hf⟩
            · exact absurd hk h0
            · cases hf
              exact cw_xout B hnh h0 hw h1 h2 h3
        · exact absurd h0 hk
      · rcases hf with ⟨hk, -⟩ | ⟨-, hf⟩
        · exact absurd hk h0
        · cases hf
          exact cw_xout B hnh h0 hw h1 h2 h3

set_option maxHeartbeats 4000000 in
set_option maxRecDepth 100000 in
theorem pw_X4_tell_71 {v : cwE} {bd : Nat × Nat} {p : Program} {l : Launch} {e : Env} {s : State} {m : MethodId} {args : Array Value} {below : List Frame} {meth : Method} {c : Code} {d : Nat} {rec : Nat → CS → List Int → CO} {σ0 σ' : CS} {kd : Nat} {r : Int} (hbd : bd = (v.2.2.1, v.2.2.2.1)) (hR : cw_Rec l v d rec) (htr : l.stackTraces = false) (hd5 : 5 ≤ d) (B : cw_B v RX4 p s m args meth c cX4_tell 10 none) (hnh : ∀ x ∈ c.exceptionTable.toList, False) : ∀ (σ : CS) (x0 x3 x4 x6 x7 x8 : Int), inR x0 → inR x3 → inR x4 → inR x6 → inR x7 → inR x8 → pc_X4_tell_71 rec bd σ x0 x3 x4 x6 x7 x8 = some (σ', kd, r) → ∀ (H : Heap) (locs : List Loc) (cells slots : Nat) (ls : Array Slot), cw_W v s σ0 σ H locs cells slots → cl_has ls 10 [(0, cR x0), (3, .int (rI x3)), (4, .int (rI x4)), (6, cR x6), (7, .int (rI x7)), (8, .int (rI x8))] → W p l e (cw_rm v (d + 1) σ0) s m args below meth c H locs cells slots (cw_Z below v σ0 σ' kd none args s) (F0 m 71 ls []) := by
  subst hbd
  obtain ⟨hx, hb, hr, hml, hown, hts, hlk, hK⟩ := id B
  intro σ x0 x3 x4 x6 x7 x8 ix0 ix3 ix4 ix6 ix7 ix8 hf H locs cells slots ls hw hl
  unfold pc_X4_tell_71 at hf
  refine cl_aload_n hx hb dX4_tell_71 rfl (lv_at hl.1 0 rfl) ?_
  refine cl_aload hx hb dX4_tell_72 (lv_at hl.1 3 rfl) ?_
  obtain ⟨qσ1, hf⟩ := cc_t_s hf
  obtain ⟨σ1, kv2, z3, hσ1, hf⟩ := cc_cl_s hf
  obtain ⟨iz3, mσ1⟩ := hR 43 σ [x0, x6] σ1 kv2 z3 hσ1
  have mσ1 : cw_Met l v yX4_putFront cX4_putFront 2 none d [cR x0, cR x6] σ σ1 kv2 none := mσ1 ix0 ix6
  refine cw_cv (b := x0) (t := 5) (n := 1) (rest := []) (As := [cR x6]) B mσ1 qσ1 ⟨by decide, by decide⟩ cgo_yX4_putFront cml_4_52 cin_yX4_putFront cse_yX4_putFront (by decide +kernel) (by decide) rfl hl.1.1 (Nat.le_of_ble_eq_true rfl) dX4_tell_74 rfl hw (fun h0 H locs cells slots hw => ?_) (fun h0 H locs cells slots q ce hw h1 h2 h3 => ?_)
  · rcases hf with ⟨-, hf⟩ | ⟨hk, -⟩
    · skip
      refine lv_iload hx hb dX4_tell_77 (lv_at hl.1 4 rfl) ?_
      refine rn_if_eq (a := x7) (tgt := 151) hx hb ix7 dX4_tell_79 (by decide) (fun c4 => ?_) (fun c4 => ?_)
      · replace hf := cc_if_t hf c4
        refine cl_aload hx hb dX4_tell_151 (lv_at hl.1 3 rfl) ?_
        obtain ⟨z5, ez5, iz5, rz5, hf⟩ := cc_g_s hw hf
        refine cw_get (val := cR z5) B hw rz5 ⟨by decide, by decide⟩ (by decide) cwi_2 cfl_4_66 ez5 rfl dX4_tell_153 ?_
        refine cl_astore (lv' := [(9, cR z5), (0, cR x0), (3, .int (rI x3)), (4, .int (rI x4)), (6, cR x6), (7, .int (rI x7)), (8, .int (rI x8))]) hx hb dX4_tell_156 hl (by decide) rfl (fun ls hl => ?_)
        exact pw_X4_tell_158 rfl hR htr hd5 B hnh 1100000 σ1 x0 x3 x4 x8 z5 ix0 ix3 ix4 ix8 iz5 hf _ _ _ _ _ hw (cl_sub hl [1, 2, 3, 6, 0] rfl)
      · replace hf := cc_if_f hf c4
        refine cl_aload_n hx hb dX4_tell_82 rfl (lv_at hl.1 0 rfl) ?_
        refine lv_iload_n hx hb dX4_tell_83 rfl (lv_at hl.1 1 rfl) ?_
        obtain ⟨qσ6, hf⟩ := cc_t_s hf
        obtain ⟨σ6, kv7, z8, hσ6, hf⟩ := cc_cl_s hf
        obtain ⟨iz8, mσ6⟩ := hR 44 σ1 [x0, x3] σ6 kv7 z8 hσ6
        have mσ6 : cw_Met l v yX4_putNewName cX4_putNewName 2 none d [cR x0, .int (rI x3)] σ1 σ6 kv7 none := mσ6 ix0 ix3
        refine cw_cv (b := x0) (t := 5) (n := 1) (rest := []) (As := [.int (rI x3)]) B mσ6 qσ6 ⟨by decide, by decide⟩ cgo_yX4_putNewName cml_4_166 cin_yX4_putNewName cse_yX4_putNewName (by decide +kernel) (by decide) rfl hl.1.1 (Nat.le_of_ble_eq_true rfl) dX4_tell_84 rfl hw (fun h0 H locs cells slots hw => ?_) (fun h0 H locs cells slots q ce hw h1 h2 h3 => ?_)
        · rcases hf with ⟨-, hf⟩ | ⟨hk, -⟩
          · skip
            refine cl_aload_n hx hb dX4_tell_87 rfl (lv_at hl.1 0 rfl) ?_
            refine lv_bipush (v := rI 58) hx hb dX4_tell_88 (by decide +kernel) ?_
            obtain ⟨qσ9, hf⟩ := cc_t_s hf
            obtain ⟨σ9, kv10, z11, hσ9, hf⟩ := cc_cl_s hf
            obtain ⟨iz11, mσ9⟩ := hR 41 σ6 [x0, 58] σ9 kv10 z11 hσ9
            have mσ9 : cw_Met l v yX4_put cX4_put 2 none d [cR x0, .int (rI 58)] σ6 σ9 kv10 none := mσ9 ix0 ⟨by decide, by decide⟩
            refine cw_cv (b := x0) (t := 5) (n := 1) (rest := []) (As := [.int (rI 58)]) B mσ9 qσ9 ⟨by decide, by decide⟩ cgo_yX4_put cml_4_56 cin_yX4_put cse_yX4_put (by decide +kernel) (by decide) rfl hl.1.1 (Nat.le_of_ble_eq_true rfl) dX4_tell_90 rfl hw (fun h0 H locs cells slots hw => ?_) (fun h0 H locs cells slots q ce hw h1 h2 h3 => ?_)
            · rcases hf with ⟨-, hf⟩ | ⟨hk, -⟩
              · skip
                refine cl_aload_n hx hb dX4_tell_93 rfl (lv_at hl.1 0 rfl) ?_
                refine cl_aload hx hb dX4_tell_94 (lv_at hl.1 3 rfl) ?_
                obtain ⟨z12, ez12, iz12, rz12, hf⟩ := cc_g_s hw hf
                refine cw_get (val := cR z12) B hw rz12 ⟨by decide, by decide⟩ (by decide) cwi_2 cfl_4_157 ez12 rfl dX4_tell_96 ?_
                obtain ⟨z13, ez13, iz13, rz13, hf⟩ := cc_g_s hw hf
                refine cw_get (val := cR z13) B hw rz13 ⟨by decide, by decide⟩ (by decide) cwi_7 cfl_4_112 ez13 rfl dX4_tell_99 ?_
                refine cl_aload hx hb dX4_tell_102 (lv_at hl.1 3 rfl) ?_
                obtain ⟨z14, ez14, iz14, rz14, hf⟩ := cc_g_s hw hf
                refine cw_get (val := cR z14) B hw rz14 ⟨by decide, by decide⟩ (by decide) cwi_2 cfl_4_160 ez14 rfl dX4_tell_104 ?_
                refine lv_iload_n hx hb dX4_tell_107 rfl (lv_at hl.1 1 rfl) ?_
                refine lv_iload hx hb dX4_tell_108 (lv_at hl.1 2 rfl) ?_
                refine lv_iconst (v := rI 1) hx hb dX4_tell_110 rfl ?_
                obtain ⟨z15, ez15, iz15, hf⟩ := cc_ck_s hf
                refine rn_add hx hb ez15 dX4_tell_111 ?_
                refine lv_iconst (v := rI 1) hx hb dX4_tell_112 rfl ?_
                obtain ⟨qσ16, hf⟩ := cc_t_s hf
                obtain ⟨σ16, kv17, z18, hσ16, hf⟩ := cc_cl_s hf
                obtain ⟨iz18, mσ16⟩ := hR 49 σ9 [x0, z13, z14, x3, z15, 1] σ16 kv17 z18 hσ16
                have mσ16 : cw_Met l v yX4_tell cX4_tell 10 none d [cR x0, cR z13, cR z14, .int (rI x3), .int (rI z15), .int (rI 1)] σ9 σ16 kv17 none := mσ16 ix0 iz13 iz14 ix3 iz15 ⟨by decide, by decide⟩
                refine cw_cv (b := x0) (t := 5) (n := 5) (rest := []) (As := [cR z13, cR z14, .int (rI x3), .int (rI z15), .int (rI 1)]) B mσ16 qσ16 ⟨by decide, by decide⟩ cgo_yX4_tell cml_4_44 cin_yX4_tell cse_yX4_tell (by decide +kernel) (by decide) rfl hl.1.1 (Nat.le_of_ble_eq_true rfl) dX4_tell_113 rfl hw (fun h0 H locs cells slots hw => ?_) (fun h0 H locs cells slots q ce hw h1 h2 h3 => ?_)
                · rcases hf with ⟨-, hf⟩ | ⟨hk, -⟩
                  · skip
                    refine cl_aload_n hx hb dX4_tell_116 rfl (lv_at hl.1 0 rfl) ?_
                    refine lv_bipush (v := rI 46) hx hb dX4_tell_117 (by decide +kernel) ?_
                    obtain ⟨qσ19, hf⟩ := cc_t_s hf
                    obtain ⟨σ19, kv20, z21, hσ19, hf⟩ := cc_cl_s hf
                    obtain ⟨iz21, mσ19⟩ := hR 41 σ16 [x0, 46] σ19 kv20 z21 hσ19
                    have mσ19 : cw_Met l v yX4_put cX4_put 2 none d [cR x0, .int (rI 46)] σ16 σ19 kv20 none := mσ19 ix0 ⟨by decide, by decide⟩
                    refine cw_cv (b := x0) (t := 5) (n := 1) (rest := []) (As := [.int (rI 46)]) B mσ19 qσ19 ⟨by decide, by decide⟩ cgo_yX4_put cml_4_56 cin_yX4_put cse_yX4_put (by decide +kernel) (by decide) rfl hl.1.1 (Nat.le_of_ble_eq_true rfl) dX4_tell_119 rfl hw (fun h0 H locs cells slots hw => ?_) (fun h0 H locs cells slots q ce hw h1 h2 h3 => ?_)
                    · rcases hf with ⟨-, hf⟩ | ⟨hk, -⟩
                      · skip
                        refine cl_aload_n hx hb dX4_tell_122 rfl (lv_at hl.1 0 rfl) ?_
                        refine cl_aload hx hb dX4_tell_123 (lv_at hl.1 3 rfl) ?_
                        obtain ⟨z22, ez22, iz22, rz22, hf⟩ := cc_g_s hw hf
                        refine cw_get (val := cR z22) B hw rz22 ⟨by decide, by decide⟩ (by decide) cwi_2 cfl_4_157 ez22 rfl dX4_tell_125 ?_
                        obtain ⟨z23, ez23, iz23, rz23, hf⟩ := cc_g_s hw hf
                        refine cw_get (val := cR z23) B hw rz23 ⟨by decide, by decide⟩ (by decide) cwi_7 cfl_4_122 ez23 rfl dX4_tell_128 ?_
                        refine cl_aload hx hb dX4_tell_131 (lv_at hl.1 3 rfl) ?_
                        refine lv_iload_n hx hb dX4_tell_133 rfl (lv_at hl.1 1 rfl) ?_
                        obtain ⟨qσ24, hf⟩ := cc_t_s hf
                        obtain ⟨σ24, kv25, z26, hσ24, hf⟩ := cc_cl_s hf
                        obtain ⟨iz26, mσ24⟩ := hR 9 σ19 [x6, x3] σ24 kv25 z26 hσ24
                        have mσ24 : cw_Met l v yX1_envOfSecond cX1_envOfSecond 2 (some (.object "PureHouse$Link")) d [cR x6, .int (rI x3)] σ19 σ24 kv25 (some (cR z26)) := mσ24 ix6 ix3
                        refine cw_cv (b := x6) (t := 2) (n := 1) (rest := [cR z23, cR x0]) (As := [.int (rI x3)]) B mσ24 qσ24 ⟨by decide, by decide⟩ cgo_yX1_envOfSecond cml_4_161 cin_yX1_envOfSecond cse_yX1_envOfSecond (by decide +kernel) (by decide) rfl hl.1.1 (cl_cs (cl_1r (cl_1r cl_10)) (Nat.le_of_ble_eq_true rfl)) dX4_tell_134 rfl hw (fun h0 H locs cells slots hw => ?_) (fun h0 H locs cells slots q ce hw h1 h2 h3 => ?_)
                        · rcases hf with ⟨-, hf⟩ | ⟨hk, -⟩
                          · skip
                            refine lv_iload_n hx hb dX4_tell_137 rfl (lv_at hl.1 1 rfl) ?_
                            refine lv_iconst (v := rI 1) hx hb dX4_tell_138 rfl ?_
                            obtain ⟨z27, ez27, iz27, hf⟩ := cc_ck_s hf
                            refine rn_add hx hb ez27 dX4_tell_139 ?_
                            refine lv_iload hx hb dX4_tell_140 (lv_at hl.1 2 rfl) ?_
                            refine lv_iconst (v := rI 1) hx hb dX4_tell_142 rfl ?_
                            obtain ⟨z28, ez28, iz28, hf⟩ := cc_ck_s hf
                            refine rn_add hx hb ez28 dX4_tell_143 ?_
                            refine lv_iconst (v := rI 0) hx hb dX4_tell_144 rfl ?_
                            obtain ⟨qσ29, hf⟩ := cc_t_s hf
                            obtain ⟨σ29, kv30, z31, hσ29, hf⟩ := cc_cl_s hf
                            obtain ⟨iz31, mσ29⟩ := hR 49 σ24 [x0, z23, z26, z27, z28, 0] σ29 kv30 z31 hσ29
                            have mσ29 : cw_Met l v yX4_tell cX4_tell 10 none d [cR x0, cR z23, cR z26, .int (rI z27), .int (rI z28), .int (rI 0)] σ24 σ29 kv30 none := mσ29 ix0 iz23 iz26 iz27 iz28 ⟨by decide, by decide⟩
                            refine cw_cv (b := x0) (t := 5) (n := 5) (rest := []) (As := [cR z23, cR z26, .int (rI z27), .int (rI z28), .int (rI 0)]) B mσ29 qσ29 ⟨by decide, by decide⟩ cgo_yX4_tell cml_4_44 cin_yX4_tell cse_yX4_tell (by decide +kernel) (by decide) rfl hl.1.1 (Nat.le_of_ble_eq_true rfl) dX4_tell_145 rfl hw (fun h0 H locs cells slots hw => ?_) (fun h0 H locs cells slots q ce hw h1 h2 h3 => ?_)
                            · rcases hf with ⟨-, hf⟩ | ⟨hk, -⟩
                              · skip
                                refine lv_goto (tgt := 199) hx hb dX4_tell_148 (by decide) ?_
                                exact pw_X4_tell_199 rfl hR htr hd5 B hnh σ29 x0 x8 ix0 ix8 hf _ _ _ _ _ hw (cl_sub hl [0, 5] rfl)
                              · exact absurd h0 hk
                            · rcases hf with ⟨hk, -⟩ | ⟨-, hf⟩
                              · exact absurd hk h0
                              · cases hf
                                exact cw_xout B hnh h0 hw h1 h2 h3
                          · exact absurd h0 hk
                        · rcases hf with ⟨hk, -⟩ | ⟨-, hf⟩
                          · exact absurd hk h0
                          · cases hf
                            exact cw_xout B hnh h0 hw h1 h2 h3
                      · exact absurd h0 hk
                    · rcases hf with ⟨hk, -⟩ | ⟨-, hf⟩
                      · exact absurd hk h0
                      · cases hf
                        exact cw_xout B hnh h0 hw h1 h2 h3
                  · exact absurd h0 hk
                · rcases hf with ⟨hk, -⟩ | ⟨-, hf⟩
                  · exact absurd hk h0
                  · cases hf
                    exact cw_xout B hnh h0 hw h1 h2 h3
              · exact absurd h0 hk
            · rcases hf with ⟨hk, -⟩ | ⟨-, hf⟩
              · exact absurd hk h0
              · cases hf
                exact cw_xout B hnh h0 hw h1 h2 h3
          · exact absurd h0 hk
        · rcases hf with ⟨hk, -⟩ | ⟨-, hf⟩
          · exact absurd hk h0
          · cases hf
            exact cw_xout B hnh h0 hw h1 h2 h3
    · exact absurd h0 hk
  · rcases hf with ⟨hk, -⟩ | ⟨-, hf⟩
    · exact absurd hk h0
    · cases hf
      exact cw_xout B hnh h0 hw h1 h2 h3

