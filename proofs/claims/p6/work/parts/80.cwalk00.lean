set_option maxHeartbeats 4000000 in
set_option maxRecDepth 100000 in
theorem pw_X0_addName_0 {v : cwE} {bd : Nat × Nat} {p : Program} {l : Launch} {e : Env} {s : State} {m : MethodId} {args : Array Value} {below : List Frame} {meth : Method} {c : Code} {d : Nat} {rec : Nat → CS → List Int → CO} {σ0 σ' : CS} {kd : Nat} {r : Int} (hbd : bd = (v.2.2.1, v.2.2.2.1)) (hR : cw_Rec l v d rec) (htr : l.stackTraces = false) (hd5 : 5 ≤ d) (B : cw_B v RX0 p s m args meth c cX0_addName 7 none) (hnh : ∀ x ∈ c.exceptionTable.toList, False) : ∀ (σ : CS) (x0 x1 x2 x3 x4 x5 : Int), inR x0 → inR x1 → inR x2 → inR x3 → inR x4 → inR x5 → pc_X0_addName_0 rec bd σ x0 x1 x2 x3 x4 x5 = some (σ', kd, r) → ∀ (H : Heap) (locs : List Loc) (cells slots : Nat) (ls : Array Slot), cw_W v s σ0 σ H locs cells slots → cl_has ls 7 [(0, cR x0), (1, cR x1), (2, cR x2), (3, cR x3), (4, .int (rI x4)), (5, cR x5)] → W p l e (cw_rm v (d + 1) σ0) s m args below meth c H locs cells slots (cw_Z below v σ0 σ' kd none args s) (F0 m 0 ls []) := by
  subst hbd
  obtain ⟨hx, hb, hr, hml, hown, hts, hlk, hK⟩ := id B
  intro σ x0 x1 x2 x3 x4 x5 ix0 ix1 ix2 ix3 ix4 ix5 hf H locs cells slots ls hw hl
  unfold pc_X0_addName_0 at hf
  refine cl_aload_n hx hb dX0_addName_0 rfl (lv_at hl.1 0 rfl) ?_
  obtain ⟨z1, ez1, iz1, rz1, hf⟩ := cc_g_s hw hf
  refine cw_get (val := cR z1) B hw rz1 ⟨by decide, by decide⟩ (by decide) cwi_1 cfl_0_34 ez1 rfl dX0_addName_1 ?_
  obtain ⟨qσ2, hf⟩ := cc_t_s hf
  obtain ⟨σ2, kv3, z4, hσ2, hf⟩ := cc_cl_s hf
  obtain ⟨iz4, mσ2⟩ := hR 57 σ [z1] σ2 kv3 z4 hσ2
  have mσ2 : cw_Met l v yX5_isFull cX5_isFull 1 (some .boolean) d [cR z1] σ σ2 kv3 (some (.int (rI z4))) := mσ2 iz1
  refine cw_cv (b := z1) (t := 6) (n := 0) (rest := []) (As := []) B mσ2 qσ2 ⟨by decide, by decide⟩ cgo_yX5_isFull cml_0_81 cin_yX5_isFull cse_yX5_isFull (by decide +kernel) (by decide) rfl hl.1.1 (Nat.le_of_ble_eq_true rfl) dX0_addName_4 rfl hw (fun h0 H locs cells slots hw => ?_) (fun h0 H locs cells slots q ce hw h1 h2 h3 => ?_)
  · rcases hf with ⟨-, hf⟩ | ⟨hk, -⟩
    · skip
      refine rn_if_eq (a := z4) (tgt := 11) hx hb iz4 dX0_addName_7 (by decide) (fun c5 => ?_) (fun c5 => ?_)
      · replace hf := cc_if_t hf c5
        refine cl_aload_n hx hb dX0_addName_11 rfl (lv_at hl.1 0 rfl) ?_
        obtain ⟨z6, ez6, iz6, rz6, hf⟩ := cc_g_s hw hf
        refine cw_get (val := cR z6) B hw rz6 ⟨by decide, by decide⟩ (by decide) cwi_1 cfl_0_34 ez6 rfl dX0_addName_12 ?_
        obtain ⟨z7, ez7, iz7, rz7, hf⟩ := cc_g_s hw hf
        refine cw_get (val := .int (rI z7)) B hw rz7 ⟨by decide, by decide⟩ (by decide) cwi_6 cfl_0_74 ez7 rfl dX0_addName_15 ?_
        refine cl_istore (lv' := [(6, .int (rI z7)), (0, cR x0), (1, cR x1), (2, cR x2), (3, cR x3), (4, .int (rI x4)), (5, cR x5)]) hx hb dX0_addName_18 hl (by decide) rfl (fun ls hl => ?_)
        refine cl_aload_n hx hb dX0_addName_20 rfl (lv_at hl.1 1 rfl) ?_
        obtain ⟨z8, ez8, iz8, rz8, hf⟩ := cc_g_s hw hf
        refine cw_get (val := cR z8) B hw rz8 ⟨by decide, by decide⟩ (by decide) cwi_1 cfl_0_39 ez8 rfl dX0_addName_21 ?_
        refine lv_iload hx hb dX0_addName_24 (lv_at hl.1 0 rfl) ?_
        refine cl_aload_n hx hb dX0_addName_26 rfl (lv_at hl.1 4 rfl) ?_
        obtain ⟨qσ9, hf⟩ := cc_t_s hf
        obtain ⟨σ9, eσ9, rσ9, bσ9, hf⟩ := cc_w_s hf
        refine cw_astR B hw rσ9 iz7 bσ9 ix3 qσ9 eσ9 dX0_addName_27 (fun H locs hw => ?_)
        refine cl_aload_n hx hb dX0_addName_28 rfl (lv_at hl.1 1 rfl) ?_
        obtain ⟨z10, ez10, iz10, rz10, hf⟩ := cc_g_s hw hf
        refine cw_get (val := cR z10) B hw rz10 ⟨by decide, by decide⟩ (by decide) cwi_1 cfl_0_43 ez10 rfl dX0_addName_29 ?_
        refine lv_iload hx hb dX0_addName_32 (lv_at hl.1 0 rfl) ?_
        refine cl_aload hx hb dX0_addName_34 (lv_at hl.1 6 rfl) ?_
        obtain ⟨qσ11, hf⟩ := cc_t_s hf
        obtain ⟨σ11, eσ11, rσ11, bσ11, hf⟩ := cc_w_s hf
        refine cw_astR B hw rσ11 iz7 bσ11 ix5 qσ11 eσ11 dX0_addName_36 (fun H locs hw => ?_)
        refine cl_aload_n hx hb dX0_addName_37 rfl (lv_at hl.1 1 rfl) ?_
        obtain ⟨z12, ez12, iz12, rz12, hf⟩ := cc_g_s hw hf
        refine cw_get (val := cR z12) B hw rz12 ⟨by decide, by decide⟩ (by decide) cwi_1 cfl_0_46 ez12 rfl dX0_addName_38 ?_
        refine lv_iload hx hb dX0_addName_41 (lv_at hl.1 0 rfl) ?_
        refine lv_iload hx hb dX0_addName_43 (lv_at hl.1 5 rfl) ?_
        obtain ⟨σ13, eσ13, rσ13, bσ13, hf⟩ := cc_w_s hf
        refine cw_astI B hw rσ13 iz7 bσ13 ix4 eσ13 dX0_addName_45 (fun H locs hw => ?_)
        refine cl_aload_n hx hb dX0_addName_46 rfl (lv_at hl.1 1 rfl) ?_
        obtain ⟨z14, ez14, iz14, rz14, hf⟩ := cc_g_s hw hf
        refine cw_get (val := cR z14) B hw rz14 ⟨by decide, by decide⟩ (by decide) cwi_1 cfl_0_34 ez14 rfl dX0_addName_47 ?_
        refine cl_aload_n hx hb dX0_addName_50 rfl (lv_at hl.1 2 rfl) ?_
        refine cl_aload_n hx hb dX0_addName_51 rfl (lv_at hl.1 3 rfl) ?_
        obtain ⟨z15, ez15, iz15, rz15, hf⟩ := cc_g_s hw hf
        refine cw_get (val := .int (rI z15)) B hw rz15 ⟨by decide, by decide⟩ (by decide) cwi_7 cfl_0_85 ez15 rfl dX0_addName_52 ?_
        refine cl_aload_n hx hb dX0_addName_55 rfl (lv_at hl.1 3 rfl) ?_
        obtain ⟨z16, ez16, iz16, rz16, hf⟩ := cc_g_s hw hf
        refine cw_get (val := .int (rI z16)) B hw rz16 ⟨by decide, by decide⟩ (by decide) cwi_7 cfl_0_88 ez16 rfl dX0_addName_56 ?_
        obtain ⟨qσ17, hf⟩ := cc_t_s hf
        obtain ⟨σ17, kv18, z19, hσ17, hf⟩ := cc_cl_s hf
        obtain ⟨iz19, mσ17⟩ := hR 52 σ13 [z14, x1, z15, z16] σ17 kv18 z19 hσ17
        have mσ17 : cw_Met l v yX5_add cX5_add 5 none d [cR z14, cR x1, .int (rI z15), .int (rI z16)] σ13 σ17 kv18 none := mσ17 iz14 ix1 iz15 iz16
        refine cw_cv (b := z14) (t := 6) (n := 3) (rest := []) (As := [cR x1, .int (rI z15), .int (rI z16)]) B mσ17 qσ17 ⟨by decide, by decide⟩ cgo_yX5_add cml_0_62 cin_yX5_add cse_yX5_add (by decide +kernel) (by decide) rfl hl.1.1 (Nat.le_of_ble_eq_true rfl) dX0_addName_59 rfl hw (fun h0 H locs cells slots hw => ?_) (fun h0 H locs cells slots q ce hw h1 h2 h3 => ?_)
        · rcases hf with ⟨-, hf⟩ | ⟨hk, -⟩
          · skip
            exact cw_retv B hf hw dX0_addName_62
          · exact absurd h0 hk
        · rcases hf with ⟨hk, -⟩ | ⟨-, hf⟩
          · exact absurd hk h0
          · cases hf
            exact cw_xout B hnh h0 hw h1 h2 h3
      · replace hf := cc_if_f hf c5
        exact cw_retv B hf hw dX0_addName_10
    · exact absurd h0 hk
  · rcases hf with ⟨hk, -⟩ | ⟨-, hf⟩
    · exact absurd hk h0
    · cases hf
      exact cw_xout B hnh h0 hw h1 h2 h3

set_option maxHeartbeats 4000000 in
set_option maxRecDepth 100000 in
theorem pm_X0_addName {v : cwE} {bd : Nat × Nat} {l : Launch} {d : Nat} {rec : Nat → CS → List Int → CO} (hbd : bd = (v.2.2.1, v.2.2.2.1)) (hR : cw_Rec l v d rec) (htr : l.stackTraces = false) (hd5 : 5 ≤ d) (σ σ' : CS) (x0 x1 x2 x3 x4 x5 : Int) (kd : Nat) (r : Int) (ix0 : inR x0) (ix1 : inR x1) (ix2 : inR x2) (ix3 : inR x3) (ix4 : inR x4) (ix5 : inR x5) (hf : pc_X0_addName_0 rec bd σ x0 x1 x2 x3 x4 x5 = some (σ', kd, r)) : cw_Met l v yX0_addName cX0_addName 7 none (d + 1) [cR x0, cR x1, cR x2, cR x3, .int (rI x4), cR x5] σ σ' kd none := by
  refine cw_ofW (by decide +kernel) ?_
  intro p e s m args below meth c s₁ B hml hv
  obtain ⟨rfl, hM, hK⟩ := hv
  have hts := atoms_spec (ws := Cond.code yX0_addName cX0_addName 7 none :: cw_bw) B.pre
  have hB : cw_B v RX0 p s m _ meth c cX0_addName 7 none := ⟨B.exec, B.bytes, B.returns, hml, findClass_of_methodNamed B.named, fun w h => hts w (List.mem_cons_of_mem _ h), B.notSynchronized, hK⟩
  have hnh := cc_nh B (hts _ List.mem_cons_self)
  rw [lg_entry_eq]
  obtain ⟨ls, hls, hl⟩ := cl_ent [cR x0, cR x1, cR x2, cR x3, .int (rI x4), cR x5] 7 (cl_1r (cl_1r (cl_1r (cl_1r (cl_1i (cl_1r cl_10)))))) (Nat.le_of_ble_eq_true rfl)
  rw [hls]
  exact pw_X0_addName_0 hbd hR htr hd5 hB hnh σ x0 x1 x2 x3 x4 x5 ix0 ix1 ix2 ix3 ix4 ix5 hf _ _ _ _ _ (cw_W0 hM) (cl_sub hl [0, 1, 2, 3, 4, 5] rfl)

set_option maxHeartbeats 4000000 in
set_option maxRecDepth 100000 in
theorem pw_X0_axiomOf_0 {v : cwE} {bd : Nat × Nat} {p : Program} {l : Launch} {e : Env} {s : State} {m : MethodId} {args : Array Value} {below : List Frame} {meth : Method} {c : Code} {d : Nat} {rec : Nat → CS → List Int → CO} {σ0 σ' : CS} {kd : Nat} {r : Int} (hbd : bd = (v.2.2.1, v.2.2.2.1)) (hR : cw_Rec l v d rec) (htr : l.stackTraces = false) (hd5 : 5 ≤ d) (B : cw_B v RX0 p s m args meth c cX0_axiomOf 2 (some .int)) (hnh : ∀ x ∈ c.exceptionTable.toList, False) : ∀ (σ : CS) (x0 x1 : Int), inR x0 → inR x1 → pc_X0_axiomOf_0 rec bd σ x0 x1 = some (σ', kd, r) → ∀ (H : Heap) (locs : List Loc) (cells slots : Nat) (ls : Array Slot), cw_W v s σ0 σ H locs cells slots → cl_has ls 2 [(0, cR x0), (1, .int (rI x1))] → W p l e (cw_rm v (d + 1) σ0) s m args below meth c H locs cells slots (cw_Z below v σ0 σ' kd (some (.int (rI r))) args s) (F0 m 0 ls []) := by
  subst hbd
  obtain ⟨hx, hb, hr, hml, hown, hts, hlk, hK⟩ := id B
  intro σ x0 x1 ix0 ix1 hf H locs cells slots ls hw hl
  unfold pc_X0_axiomOf_0 at hf
  refine cl_aload_n hx hb dX0_axiomOf_0 rfl (lv_at hl.1 0 rfl) ?_
  obtain ⟨z1, ez1, iz1, rz1, hf⟩ := cc_g_s hw hf
  refine cw_get (val := cR z1) B hw rz1 ⟨by decide, by decide⟩ (by decide) cwi_1 cfl_0_16 ez1 rfl dX0_axiomOf_1 ?_
  refine lv_iload_n hx hb dX0_axiomOf_4 rfl (lv_at hl.1 1 rfl) ?_
  obtain ⟨qσ2, hf⟩ := cc_t_s hf
  obtain ⟨σ2, kv3, z4, hσ2, hf⟩ := cc_cl_s hf
  obtain ⟨iz4, mσ2⟩ := hR 55 σ [z1, x1] σ2 kv3 z4 hσ2
  have mσ2 : cw_Met l v yX5_has cX5_has 2 (some .boolean) d [cR z1, .int (rI x1)] σ σ2 kv3 (some (.int (rI z4))) := mσ2 iz1 ix1
  refine cw_cv (b := z1) (t := 6) (n := 1) (rest := []) (As := [.int (rI x1)]) B mσ2 qσ2 ⟨by decide, by decide⟩ cgo_yX5_has cml_0_77 cin_yX5_has cse_yX5_has (by decide +kernel) (by decide) rfl hl.1.1 (Nat.le_of_ble_eq_true rfl) dX0_axiomOf_5 rfl hw (fun h0 H locs cells slots hw => ?_) (fun h0 H locs cells slots q ce hw h1 h2 h3 => ?_)
  · rcases hf with ⟨-, hf⟩ | ⟨hk, -⟩
    · skip
      refine rn_if_eq (a := z4) (tgt := 20) hx hb iz4 dX0_axiomOf_8 (by decide) (fun c5 => ?_) (fun c5 => ?_)
      · replace hf := cc_if_t hf c5
        refine lv_iconst (v := rI (-1)) hx hb dX0_axiomOf_20 rfl ?_
        exact cw_reti B hf hw dX0_axiomOf_21
      · replace hf := cc_if_f hf c5
        refine cl_aload_n hx hb dX0_axiomOf_11 rfl (lv_at hl.1 0 rfl) ?_
        obtain ⟨z6, ez6, iz6, rz6, hf⟩ := cc_g_s hw hf
        refine cw_get (val := cR z6) B hw rz6 ⟨by decide, by decide⟩ (by decide) cwi_1 cfl_0_20 ez6 rfl dX0_axiomOf_12 ?_
        refine lv_iload_n hx hb dX0_axiomOf_15 rfl (lv_at hl.1 1 rfl) ?_
        obtain ⟨z7, ez7, iz7, rz7, bz7, hf⟩ := cc_r_s hw hf
        refine cw_aldI B hw rz7 ix1 bz7 ez7 dX0_axiomOf_16 ?_
        refine lv_goto (tgt := 21) hx hb dX0_axiomOf_17 (by decide) ?_
        exact cw_reti B hf hw dX0_axiomOf_21
    · exact absurd h0 hk
  · rcases hf with ⟨hk, -⟩ | ⟨-, hf⟩
    · exact absurd hk h0
    · cases hf
      exact cw_xout B hnh h0 hw h1 h2 h3

set_option maxHeartbeats 4000000 in
set_option maxRecDepth 100000 in
theorem pm_X0_axiomOf {v : cwE} {bd : Nat × Nat} {l : Launch} {d : Nat} {rec : Nat → CS → List Int → CO} (hbd : bd = (v.2.2.1, v.2.2.2.1)) (hR : cw_Rec l v d rec) (htr : l.stackTraces = false) (hd5 : 5 ≤ d) (σ σ' : CS) (x0 x1 : Int) (kd : Nat) (r : Int) (ix0 : inR x0) (ix1 : inR x1) (hf : pc_X0_axiomOf_0 rec bd σ x0 x1 = some (σ', kd, r)) : cw_Met l v yX0_axiomOf cX0_axiomOf 2 (some .int) (d + 1) [cR x0, .int (rI x1)] σ σ' kd (some (.int (rI r))) := by
  refine cw_ofW (by decide +kernel) ?_
  intro p e s m args below meth c s₁ B hml hv
  obtain ⟨rfl, hM, hK⟩ := hv
  have hts := atoms_spec (ws := Cond.code yX0_axiomOf cX0_axiomOf 2 (some .int) :: cw_bw) B.pre
  have hB : cw_B v RX0 p s m _ meth c cX0_axiomOf 2 (some .int) := ⟨B.exec, B.bytes, B.returns, hml, findClass_of_methodNamed B.named, fun w h => hts w (List.mem_cons_of_mem _ h), B.notSynchronized, hK⟩
  have hnh := cc_nh B (hts _ List.mem_cons_self)
  rw [lg_entry_eq]
  obtain ⟨ls, hls, hl⟩ := cl_ent [cR x0, .int (rI x1)] 2 (cl_1r (cl_1i cl_10)) (Nat.le_of_ble_eq_true rfl)
  rw [hls]
  exact pw_X0_axiomOf_0 hbd hR htr hd5 hB hnh σ x0 x1 ix0 ix1 hf _ _ _ _ _ (cw_W0 hM) (cl_sub hl [0, 1] rfl)

set_option maxHeartbeats 4000000 in
set_option maxRecDepth 100000 in
theorem pw_X0_clear_57 {v : cwE} {bd : Nat × Nat} {p : Program} {l : Launch} {e : Env} {s : State} {m : MethodId} {args : Array Value} {below : List Frame} {meth : Method} {c : Code} {d : Nat} {rec : Nat → CS → List Int → CO} {σ0 σ' : CS} {kd : Nat} {r : Int} (hbd : bd = (v.2.2.1, v.2.2.2.1)) (hR : cw_Rec l v d rec) (htr : l.stackTraces = false) (hd5 : 5 ≤ d) (B : cw_B v RX0 p s m args meth c cX0_clear 2 none) (hnh : ∀ x ∈ c.exceptionTable.toList, False) : ∀ (n : Nat) (σ : CS) (x0 x1 : Int), inR x0 → inR x1 → pc_X0_clear_57 rec bd n σ x0 x1 = some (σ', kd, r) → ∀ (H : Heap) (locs : List Loc) (cells slots : Nat) (ls : Array Slot), cw_W v s σ0 σ H locs cells slots → cl_has ls 2 [(0, cR x0), (1, .int (rI x1))] → W p l e (cw_rm v (d + 1) σ0) s m args below meth c H locs cells slots (cw_Z below v σ0 σ' kd none args s) (F0 m 57 ls []) := by
  subst hbd
  obtain ⟨hx, hb, hr, hml, hown, hts, hlk, hK⟩ := id B
  intro n
  induction n with
  | zero => intro σ x0 x1 ix0 ix1 hf; cases hf
  | succ n ih =>
    intro σ x0 x1 ix0 ix1 hf H locs cells slots ls hw hl
    unfold pc_X0_clear_57 at hf
    refine lv_iload_n hx hb dX0_clear_57 rfl (lv_at hl.1 1 rfl) ?_
    refine cl_aload_n hx hb dX0_clear_58 rfl (lv_at hl.1 0 rfl) ?_
    obtain ⟨z1, ez1, iz1, rz1, hf⟩ := cc_g_s hw hf
    refine cw_get (val := cR z1) B hw rz1 ⟨by decide, by decide⟩ (by decide) cwi_1 cfl_0_24 ez1 rfl dX0_clear_59 ?_
    obtain ⟨z2, ez2, iz2, rz2, hf⟩ := cc_l_s hf
    refine cw_len B hw rz2 (by decide) ez2 iz2 dX0_clear_62 ?_
    refine rn_icmp_ge (a := x1) (b := z2) (tgt := 79) hx hb ix1 iz2 dX0_clear_63 (by decide) (fun c3 => ?_) (fun c3 => ?_)
    · replace hf := cc_if_t hf c3
      exact cw_retv B hf hw dX0_clear_79
    · replace hf := cc_if_f hf c3
      refine cl_aload_n hx hb dX0_clear_66 rfl (lv_at hl.1 0 rfl) ?_
      obtain ⟨z4, ez4, iz4, rz4, hf⟩ := cc_g_s hw hf
      refine cw_get (val := cR z4) B hw rz4 ⟨by decide, by decide⟩ (by decide) cwi_1 cfl_0_24 ez4 rfl dX0_clear_67 ?_
      refine lv_iload_n hx hb dX0_clear_70 rfl (lv_at hl.1 1 rfl) ?_
      refine lv_iconst (v := rI (-1)) hx hb dX0_clear_71 rfl ?_
      obtain ⟨σ5, eσ5, rσ5, bσ5, hf⟩ := cc_w_s hf
      refine cw_astI B hw rσ5 ix1 bσ5 ⟨by decide, by decide⟩ eσ5 dX0_clear_72 (fun H locs hw => ?_)
      obtain ⟨z6, ez6, iz6, hf⟩ := cc_ck_s hf
      refine cl_iinc (v := rI z6) (lv' := [(1, .int (rI z6)), (0, cR x0)]) hx hb dX0_clear_73 hl (k := 1) rfl (by rw [ez6]; exact rI_add _ _) (by decide) rfl (fun ls hl => ?_)
      refine lv_goto (tgt := 57) hx hb dX0_clear_76 (by decide) ?_
      exact ih σ5 x0 z6 ix0 iz6 hf _ _ _ _ _ hw (cl_sub hl [1, 0] rfl)

set_option maxHeartbeats 4000000 in
set_option maxRecDepth 100000 in
theorem pw_X0_clear_33 {v : cwE} {bd : Nat × Nat} {p : Program} {l : Launch} {e : Env} {s : State} {m : MethodId} {args : Array Value} {below : List Frame} {meth : Method} {c : Code} {d : Nat} {rec : Nat → CS → List Int → CO} {σ0 σ' : CS} {kd : Nat} {r : Int} (hbd : bd = (v.2.2.1, v.2.2.2.1)) (hR : cw_Rec l v d rec) (htr : l.stackTraces = false) (hd5 : 5 ≤ d) (B : cw_B v RX0 p s m args meth c cX0_clear 2 none) (hnh : ∀ x ∈ c.exceptionTable.toList, False) : ∀ (n : Nat) (σ : CS) (x0 x1 : Int), inR x0 → inR x1 → pc_X0_clear_33 rec bd n σ x0 x1 = some (σ', kd, r) → ∀ (H : Heap) (locs : List Loc) (cells slots : Nat) (ls : Array Slot), cw_W v s σ0 σ H locs cells slots → cl_has ls 2 [(0, cR x0), (1, .int (rI x1))] → W p l e (cw_rm v (d + 1) σ0) s m args below meth c H locs cells slots (cw_Z below v σ0 σ' kd none args s) (F0 m 33 ls []) := by
  subst hbd
  obtain ⟨hx, hb, hr, hml, hown, hts, hlk, hK⟩ := id B
  intro n
  induction n with
  | zero => intro σ x0 x1 ix0 ix1 hf; cases hf
  | succ n ih =>
    intro σ x0 x1 ix0 ix1 hf H locs cells slots ls hw hl
    unfold pc_X0_clear_33 at hf
    refine lv_iload_n hx hb dX0_clear_33 rfl (lv_at hl.1 1 rfl) ?_
    refine cl_aload_n hx hb dX0_clear_34 rfl (lv_at hl.1 0 rfl) ?_
    obtain ⟨z1, ez1, iz1, rz1, hf⟩ := cc_g_s hw hf
    refine cw_get (val := cR z1) B hw rz1 ⟨by decide, by decide⟩ (by decide) cwi_1 cfl_0_20 ez1 rfl dX0_clear_35 ?_
    obtain ⟨z2, ez2, iz2, rz2, hf⟩ := cc_l_s hf
    refine cw_len B hw rz2 (by decide) ez2 iz2 dX0_clear_38 ?_
    refine rn_icmp_ge (a := x1) (b := z2) (tgt := 55) hx hb ix1 iz2 dX0_clear_39 (by decide) (fun c3 => ?_) (fun c3 => ?_)
    · replace hf := cc_if_t hf c3
      refine lv_iconst (v := rI 0) hx hb dX0_clear_55 rfl ?_
      refine cl_istore_n (lv' := [(1, .int (rI 0)), (0, cR x0)]) hx hb dX0_clear_56 rfl hl (by decide) rfl (fun ls hl => ?_)
      exact pw_X0_clear_57 rfl hR htr hd5 B hnh 1100000 σ x0 0 ix0 ⟨by decide, by decide⟩ hf _ _ _ _ _ hw (cl_sub hl [1, 0] rfl)
    · replace hf := cc_if_f hf c3
      refine cl_aload_n hx hb dX0_clear_42 rfl (lv_at hl.1 0 rfl) ?_
      obtain ⟨z4, ez4, iz4, rz4, hf⟩ := cc_g_s hw hf
      refine cw_get (val := cR z4) B hw rz4 ⟨by decide, by decide⟩ (by decide) cwi_1 cfl_0_20 ez4 rfl dX0_clear_43 ?_
      refine lv_iload_n hx hb dX0_clear_46 rfl (lv_at hl.1 1 rfl) ?_
      refine lv_iconst (v := rI (-1)) hx hb dX0_clear_47 rfl ?_
      obtain ⟨σ5, eσ5, rσ5, bσ5, hf⟩ := cc_w_s hf
      refine cw_astI B hw rσ5 ix1 bσ5 ⟨by decide, by decide⟩ eσ5 dX0_clear_48 (fun H locs hw => ?_)
      obtain ⟨z6, ez6, iz6, hf⟩ := cc_ck_s hf
      refine cl_iinc (v := rI z6) (lv' := [(1, .int (rI z6)), (0, cR x0)]) hx hb dX0_clear_49 hl (k := 1) rfl (by rw [ez6]; exact rI_add _ _) (by decide) rfl (fun ls hl => ?_)
      refine lv_goto (tgt := 33) hx hb dX0_clear_52 (by decide) ?_
      exact ih σ5 x0 z6 ix0 iz6 hf _ _ _ _ _ hw (cl_sub hl [1, 0] rfl)

set_option maxHeartbeats 4000000 in
set_option maxRecDepth 100000 in
theorem pw_X0_clear_0 {v : cwE} {bd : Nat × Nat} {p : Program} {l : Launch} {e : Env} {s : State} {m : MethodId} {args : Array Value} {below : List Frame} {meth : Method} {c : Code} {d : Nat} {rec : Nat → CS → List Int → CO} {σ0 σ' : CS} {kd : Nat} {r : Int} (hbd : bd = (v.2.2.1, v.2.2.2.1)) (hR : cw_Rec l v d rec) (htr : l.stackTraces = false) (hd5 : 5 ≤ d) (B : cw_B v RX0 p s m args meth c cX0_clear 2 none) (hnh : ∀ x ∈ c.exceptionTable.toList, False) : ∀ (σ : CS) (x0 : Int), inR x0 → pc_X0_clear_0 rec bd σ x0 = some (σ', kd, r) → ∀ (H : Heap) (locs : List Loc) (cells slots : Nat) (ls : Array Slot), cw_W v s σ0 σ H locs cells slots → cl_has ls 2 [(0, cR x0)] → W p l e (cw_rm v (d + 1) σ0) s m args below meth c H locs cells slots (cw_Z below v σ0 σ' kd none args s) (F0 m 0 ls []) := by
  subst hbd
  obtain ⟨hx, hb, hr, hml, hown, hts, hlk, hK⟩ := id B
  intro σ x0 ix0 hf H locs cells slots ls hw hl
  unfold pc_X0_clear_0 at hf
  refine cl_aload_n hx hb dX0_clear_0 rfl (lv_at hl.1 0 rfl) ?_
  obtain ⟨z1, ez1, iz1, rz1, hf⟩ := cc_g_s hw hf
  refine cw_get (val := cR z1) B hw rz1 ⟨by decide, by decide⟩ (by decide) cwi_1 cfl_0_16 ez1 rfl dX0_clear_1 ?_
  refine lv_iconst (v := rI 0) hx hb dX0_clear_4 rfl ?_
  obtain ⟨σ2, eσ2, rσ2, hf⟩ := cc_p_s hf
  refine cw_put B hw rσ2 cwt_6 (by decide) rfl cfl_0_74 ⟨by decide, by decide⟩ eσ2 rfl (cw_fv_n rfl rfl) dX0_clear_5 (fun H locs hw => ?_)
  refine cl_aload_n hx hb dX0_clear_8 rfl (lv_at hl.1 0 rfl) ?_
  obtain ⟨z3, ez3, iz3, rz3, hf⟩ := cc_g_s hw hf
  refine cw_get (val := cR z3) B hw rz3 ⟨by decide, by decide⟩ (by decide) cwi_1 cfl_0_34 ez3 rfl dX0_clear_9 ?_
  refine lv_iconst (v := rI 0) hx hb dX0_clear_12 rfl ?_
  obtain ⟨σ4, eσ4, rσ4, hf⟩ := cc_p_s hf
  refine cw_put B hw rσ4 cwt_6 (by decide) rfl cfl_0_74 ⟨by decide, by decide⟩ eσ4 rfl (cw_fv_n rfl rfl) dX0_clear_13 (fun H locs hw => ?_)
  refine cl_aload_n hx hb dX0_clear_16 rfl (lv_at hl.1 0 rfl) ?_
  refine lv_iconst (v := rI 0) hx hb dX0_clear_17 rfl ?_
  obtain ⟨σ5, eσ5, rσ5, hf⟩ := cc_p_s hf
  refine cw_put B hw rσ5 cwt_1 (by decide) rfl cfl_0_52 ⟨by decide, by decide⟩ eσ5 rfl (cw_fv_n rfl rfl) dX0_clear_18 (fun H locs hw => ?_)
  refine cl_aload_n hx hb dX0_clear_21 rfl (lv_at hl.1 0 rfl) ?_
  refine lv_iconst (v := rI 0) hx hb dX0_clear_22 rfl ?_
  obtain ⟨σ6, eσ6, rσ6, hf⟩ := cc_p_s hf
  refine cw_put B hw rσ6 cwt_1 (by decide) rfl cfl_0_27 ⟨by decide, by decide⟩ eσ6 rfl (cw_fv_n rfl rfl) dX0_clear_23 (fun H locs hw => ?_)
  refine cl_aload_n hx hb dX0_clear_26 rfl (lv_at hl.1 0 rfl) ?_
  refine lv_iconst (v := rI 0) hx hb dX0_clear_27 rfl ?_
  obtain ⟨σ7, eσ7, rσ7, hf⟩ := cc_p_s hf
  refine cw_put B hw rσ7 cwt_1 (by decide) rfl cfl_0_31 ⟨by decide, by decide⟩ eσ7 rfl (cw_fv_n rfl rfl) dX0_clear_28 (fun H locs hw => ?_)
  refine lv_iconst (v := rI 0) hx hb dX0_clear_31 rfl ?_
  refine cl_istore_n (lv' := [(1, .int (rI 0)), (0, cR x0)]) hx hb dX0_clear_32 rfl hl (by decide) rfl (fun ls hl => ?_)
  exact pw_X0_clear_33 rfl hR htr hd5 B hnh 1100000 σ7 x0 0 ix0 ⟨by decide, by decide⟩ hf _ _ _ _ _ hw (cl_sub hl [1, 0] rfl)

set_option maxHeartbeats 4000000 in
set_option maxRecDepth 100000 in
theorem pm_X0_clear {v : cwE} {bd : Nat × Nat} {l : Launch} {d : Nat} {rec : Nat → CS → List Int → CO} (hbd : bd = (v.2.2.1, v.2.2.2.1)) (hR : cw_Rec l v d rec) (htr : l.stackTraces = false) (hd5 : 5 ≤ d) (σ σ' : CS) (x0 : Int) (kd : Nat) (r : Int) (ix0 : inR x0) (hf : pc_X0_clear_0 rec bd σ x0 = some (σ', kd, r)) : cw_Met l v yX0_clear cX0_clear 2 none (d + 1) [cR x0] σ σ' kd none := by
  refine cw_ofW (by decide +kernel) ?_
  intro p e s m args below meth c s₁ B hml hv
  obtain ⟨rfl, hM, hK⟩ := hv
  have hts := atoms_spec (ws := Cond.code yX0_clear cX0_clear 2 none :: cw_bw) B.pre
  have hB : cw_B v RX0 p s m _ meth c cX0_clear 2 none := ⟨B.exec, B.bytes, B.returns, hml, findClass_of_methodNamed B.named, fun w h => hts w (List.mem_cons_of_mem _ h), B.notSynchronized, hK⟩
  have hnh := cc_nh B (hts _ List.mem_cons_self)
  rw [lg_entry_eq]
  obtain ⟨ls, hls, hl⟩ := cl_ent [cR x0] 2 (cl_1r cl_10) (Nat.le_of_ble_eq_true rfl)
  rw [hls]
  exact pw_X0_clear_0 hbd hR htr hd5 hB hnh σ x0 ix0 hf _ _ _ _ _ (cw_W0 hM) (cl_sub hl [0] rfl)

set_option maxHeartbeats 4000000 in
set_option maxRecDepth 100000 in
theorem pw_X0_ruleOf_0 {v : cwE} {bd : Nat × Nat} {p : Program} {l : Launch} {e : Env} {s : State} {m : MethodId} {args : Array Value} {below : List Frame} {meth : Method} {c : Code} {d : Nat} {rec : Nat → CS → List Int → CO} {σ0 σ' : CS} {kd : Nat} {r : Int} (hbd : bd = (v.2.2.1, v.2.2.2.1)) (hR : cw_Rec l v d rec) (htr : l.stackTraces = false) (hd5 : 5 ≤ d) (B : cw_B v RX0 p s m args meth c cX0_ruleOf 3 (some .int)) (hnh : ∀ x ∈ c.exceptionTable.toList, False) : ∀ (σ : CS) (x0 x1 x2 : Int), inR x0 → inR x1 → inR x2 → pc_X0_ruleOf_0 rec bd σ x0 x1 x2 = some (σ', kd, r) → ∀ (H : Heap) (locs : List Loc) (cells slots : Nat) (ls : Array Slot), cw_W v s σ0 σ H locs cells slots → cl_has ls 3 [(0, cR x0), (1, .int (rI x1)), (2, .int (rI x2))] → W p l e (cw_rm v (d + 1) σ0) s m args below meth c H locs cells slots (cw_Z below v σ0 σ' kd (some (.int (rI r))) args s) (F0 m 0 ls []) := by
  subst hbd
  obtain ⟨hx, hb, hr, hml, hown, hts, hlk, hK⟩ := id B
  intro σ x0 x1 x2 ix0 ix1 ix2 hf H locs cells slots ls hw hl
  unfold pc_X0_ruleOf_0 at hf
  refine cl_aload_n hx hb dX0_ruleOf_0 rfl (lv_at hl.1 0 rfl) ?_
  obtain ⟨z1, ez1, iz1, rz1, hf⟩ := cc_g_s hw hf
  refine cw_get (val := cR z1) B hw rz1 ⟨by decide, by decide⟩ (by decide) cwi_1 cfl_0_16 ez1 rfl dX0_ruleOf_1 ?_
  refine lv_iload_n hx hb dX0_ruleOf_4 rfl (lv_at hl.1 1 rfl) ?_
  obtain ⟨qσ2, hf⟩ := cc_t_s hf
  obtain ⟨σ2, kv3, z4, hσ2, hf⟩ := cc_cl_s hf
  obtain ⟨iz4, mσ2⟩ := hR 55 σ [z1, x1] σ2 kv3 z4 hσ2
  have mσ2 : cw_Met l v yX5_has cX5_has 2 (some .boolean) d [cR z1, .int (rI x1)] σ σ2 kv3 (some (.int (rI z4))) := mσ2 iz1 ix1
  refine cw_cv (b := z1) (t := 6) (n := 1) (rest := []) (As := [.int (rI x1)]) B mσ2 qσ2 ⟨by decide, by decide⟩ cgo_yX5_has cml_0_77 cin_yX5_has cse_yX5_has (by decide +kernel) (by decide) rfl hl.1.1 (Nat.le_of_ble_eq_true rfl) dX0_ruleOf_5 rfl hw (fun h0 H locs cells slots hw => ?_) (fun h0 H locs cells slots q ce hw h1 h2 h3 => ?_)
  · rcases hf with ⟨-, hf⟩ | ⟨hk, -⟩
    · skip
      refine rn_if_eq (a := z4) (tgt := 36) hx hb iz4 dX0_ruleOf_8 (by decide) (fun c5 => ?_) (fun c5 => ?_)
      · replace hf := cc_if_t hf c5
        refine lv_iconst (v := rI (-1)) hx hb dX0_ruleOf_36 rfl ?_
        exact cw_reti B hf hw dX0_ruleOf_37
      · replace hf := cc_if_f hf c5
        refine cl_aload_n hx hb dX0_ruleOf_11 rfl (lv_at hl.1 0 rfl) ?_
        obtain ⟨z6, ez6, iz6, rz6, hf⟩ := cc_g_s hw hf
        refine cw_get (val := cR z6) B hw rz6 ⟨by decide, by decide⟩ (by decide) cwi_1 cfl_0_16 ez6 rfl dX0_ruleOf_12 ?_
        refine lv_iload_n hx hb dX0_ruleOf_15 rfl (lv_at hl.1 2 rfl) ?_
        obtain ⟨qσ7, hf⟩ := cc_t_s hf
        obtain ⟨σ7, kv8, z9, hσ7, hf⟩ := cc_cl_s hf
        obtain ⟨iz9, mσ7⟩ := hR 55 σ2 [z6, x2] σ7 kv8 z9 hσ7
        have mσ7 : cw_Met l v yX5_has cX5_has 2 (some .boolean) d [cR z6, .int (rI x2)] σ2 σ7 kv8 (some (.int (rI z9))) := mσ7 iz6 ix2
        refine cw_cv (b := z6) (t := 6) (n := 1) (rest := []) (As := [.int (rI x2)]) B mσ7 qσ7 ⟨by decide, by decide⟩ cgo_yX5_has cml_0_77 cin_yX5_has cse_yX5_has (by decide +kernel) (by decide) rfl hl.1.1 (Nat.le_of_ble_eq_true rfl) dX0_ruleOf_16 rfl hw (fun h0 H locs cells slots hw => ?_) (fun h0 H locs cells slots q ce hw h1 h2 h3 => ?_)
        · rcases hf with ⟨-, hf⟩ | ⟨hk, -⟩
          · skip
            refine rn_if_eq (a := z9) (tgt := 36) hx hb iz9 dX0_ruleOf_19 (by decide) (fun c10 => ?_) (fun c10 => ?_)
            · replace hf := cc_if_t hf c10
              refine lv_iconst (v := rI (-1)) hx hb dX0_ruleOf_36 rfl ?_
              exact cw_reti B hf hw dX0_ruleOf_37
            · replace hf := cc_if_f hf c10
              refine cl_aload_n hx hb dX0_ruleOf_22 rfl (lv_at hl.1 0 rfl) ?_
              obtain ⟨z11, ez11, iz11, rz11, hf⟩ := cc_g_s hw hf
              refine cw_get (val := cR z11) B hw rz11 ⟨by decide, by decide⟩ (by decide) cwi_1 cfl_0_24 ez11 rfl dX0_ruleOf_23 ?_
              refine lv_iload_n hx hb dX0_ruleOf_26 rfl (lv_at hl.1 1 rfl) ?_
              refine lv_bipush (v := rI 8) hx hb dX0_ruleOf_27 (by decide +kernel) ?_
              obtain ⟨z12, ez12, iz12, hf⟩ := cc_ck_s hf
              refine rn_mul hx hb ez12 dX0_ruleOf_29 ?_
              refine lv_iload_n hx hb dX0_ruleOf_30 rfl (lv_at hl.1 2 rfl) ?_
              obtain ⟨z13, ez13, iz13, hf⟩ := cc_ck_s hf
              refine rn_add hx hb ez13 dX0_ruleOf_31 ?_
              obtain ⟨z14, ez14, iz14, rz14, bz14, hf⟩ := cc_r_s hw hf
              refine cw_aldI B hw rz14 iz13 bz14 ez14 dX0_ruleOf_32 ?_
              refine lv_goto (tgt := 37) hx hb dX0_ruleOf_33 (by decide) ?_
              exact cw_reti B hf hw dX0_ruleOf_37
          · exact absurd h0 hk
        · rcases hf with ⟨hk, -⟩ | ⟨-, hf⟩
          · exact absurd hk h0
          · cases hf
            exact cw_xout B hnh h0 hw h1 h2 h3
    · exact absurd h0 hk
  · rcases hf with ⟨hk, -⟩ | ⟨-, hf⟩
    · exact absurd hk h0
    · cases hf
      exact cw_xout B hnh h0 hw h1 h2 h3

set_option maxHeartbeats 4000000 in
set_option maxRecDepth 100000 in
theorem pm_X0_ruleOf {v : cwE} {bd : Nat × Nat} {l : Launch} {d : Nat} {rec : Nat → CS → List Int → CO} (hbd : bd = (v.2.2.1, v.2.2.2.1)) (hR : cw_Rec l v d rec) (htr : l.stackTraces = false) (hd5 : 5 ≤ d) (σ σ' : CS) (x0 x1 x2 : Int) (kd : Nat) (r : Int) (ix0 : inR x0) (ix1 : inR x1) (ix2 : inR x2) (hf : pc_X0_ruleOf_0 rec bd σ x0 x1 x2 = some (σ', kd, r)) : cw_Met l v yX0_ruleOf cX0_ruleOf 3 (some .int) (d + 1) [cR x0, .int (rI x1), .int (rI x2)] σ σ' kd (some (.int (rI r))) := by
  refine cw_ofW (by decide +kernel) ?_
  intro p e s m args below meth c s₁ B hml hv
  obtain ⟨rfl, hM, hK⟩ := hv
  have hts := atoms_spec (ws := Cond.code yX0_ruleOf cX0_ruleOf 3 (some .int) :: cw_bw) B.pre
  have hB : cw_B v RX0 p s m _ meth c cX0_ruleOf 3 (some .int) := ⟨B.exec, B.bytes, B.returns, hml, findClass_of_methodNamed B.named, fun w h => hts w (List.mem_cons_of_mem _ h), B.notSynchronized, hK⟩
  have hnh := cc_nh B (hts _ List.mem_cons_self)
  rw [lg_entry_eq]
  obtain ⟨ls, hls, hl⟩ := cl_ent [cR x0, .int (rI x1), .int (rI x2)] 3 (cl_1r (cl_1i (cl_1i cl_10))) (Nat.le_of_ble_eq_true rfl)
  rw [hls]
  exact pw_X0_ruleOf_0 hbd hR htr hd5 hB hnh σ x0 x1 x2 ix0 ix1 ix2 hf _ _ _ _ _ (cw_W0 hM) (cl_sub hl [0, 1, 2] rfl)

set_option maxHeartbeats 4000000 in
set_option maxRecDepth 100000 in
theorem pw_X0_setAxiom_0 {v : cwE} {bd : Nat × Nat} {p : Program} {l : Launch} {e : Env} {s : State} {m : MethodId} {args : Array Value} {below : List Frame} {meth : Method} {c : Code} {d : Nat} {rec : Nat → CS → List Int → CO} {σ0 σ' : CS} {kd : Nat} {r : Int} (hbd : bd = (v.2.2.1, v.2.2.2.1)) (hR : cw_Rec l v d rec) (htr : l.stackTraces = false) (hd5 : 5 ≤ d) (B : cw_B v RX0 p s m args meth c cX0_setAxiom 3 none) (hnh : ∀ x ∈ c.exceptionTable.toList, False) : ∀ (σ : CS) (x0 x1 x2 : Int), inR x0 → inR x1 → inR x2 → pc_X0_setAxiom_0 rec bd σ x0 x1 x2 = some (σ', kd, r) → ∀ (H : Heap) (locs : List Loc) (cells slots : Nat) (ls : Array Slot), cw_W v s σ0 σ H locs cells slots → cl_has ls 3 [(0, cR x0), (1, .int (rI x1)), (2, .int (rI x2))] → W p l e (cw_rm v (d + 1) σ0) s m args below meth c H locs cells slots (cw_Z below v σ0 σ' kd none args s) (F0 m 0 ls []) := by
  subst hbd
  obtain ⟨hx, hb, hr, hml, hown, hts, hlk, hK⟩ := id B
  intro σ x0 x1 x2 ix0 ix1 ix2 hf H locs cells slots ls hw hl
  unfold pc_X0_setAxiom_0 at hf
  refine cl_aload_n hx hb dX0_setAxiom_0 rfl (lv_at hl.1 0 rfl) ?_
  obtain ⟨z1, ez1, iz1, rz1, hf⟩ := cc_g_s hw hf
  refine cw_get (val := cR z1) B hw rz1 ⟨by decide, by decide⟩ (by decide) cwi_1 cfl_0_16 ez1 rfl dX0_setAxiom_1 ?_
  refine lv_iload_n hx hb dX0_setAxiom_4 rfl (lv_at hl.1 1 rfl) ?_
  obtain ⟨qσ2, hf⟩ := cc_t_s hf
  obtain ⟨σ2, kv3, z4, hσ2, hf⟩ := cc_cl_s hf
  obtain ⟨iz4, mσ2⟩ := hR 55 σ [z1, x1] σ2 kv3 z4 hσ2
  have mσ2 : cw_Met l v yX5_has cX5_has 2 (some .boolean) d [cR z1, .int (rI x1)] σ σ2 kv3 (some (.int (rI z4))) := mσ2 iz1 ix1
  refine cw_cv (b := z1) (t := 6) (n := 1) (rest := []) (As := [.int (rI x1)]) B mσ2 qσ2 ⟨by decide, by decide⟩ cgo_yX5_has cml_0_77 cin_yX5_has cse_yX5_has (by decide +kernel) (by decide) rfl hl.1.1 (Nat.le_of_ble_eq_true rfl) dX0_setAxiom_5 rfl hw (fun h0 H locs cells slots hw => ?_) (fun h0 H locs cells slots q ce hw h1 h2 h3 => ?_)
  · rcases hf with ⟨-, hf⟩ | ⟨hk, -⟩
    · skip
      refine rn_if_eq (a := z4) (tgt := 28) hx hb iz4 dX0_setAxiom_8 (by decide) (fun c5 => ?_) (fun c5 => ?_)
      · replace hf := cc_if_t hf c5
        exact cw_retv B hf hw dX0_setAxiom_28
      · replace hf := cc_if_f hf c5
        refine cl_aload_n hx hb dX0_setAxiom_11 rfl (lv_at hl.1 0 rfl) ?_
        obtain ⟨z6, ez6, iz6, rz6, hf⟩ := cc_g_s hw hf
        refine cw_get (val := cR z6) B hw rz6 ⟨by decide, by decide⟩ (by decide) cwi_1 cfl_0_20 ez6 rfl dX0_setAxiom_12 ?_
        refine lv_iload_n hx hb dX0_setAxiom_15 rfl (lv_at hl.1 1 rfl) ?_
        refine lv_iload_n hx hb dX0_setAxiom_16 rfl (lv_at hl.1 2 rfl) ?_
        obtain ⟨σ7, eσ7, rσ7, bσ7, hf⟩ := cc_w_s hf
        refine cw_astI B hw rσ7 ix1 bσ7 ix2 eσ7 dX0_setAxiom_17 (fun H locs hw => ?_)
        refine cl_aload_n hx hb dX0_setAxiom_18 rfl (lv_at hl.1 0 rfl) ?_
        refine lv_dup hx hb dX0_setAxiom_19 (cR_cat _) ?_
        obtain ⟨z8, ez8, iz8, rz8, hf⟩ := cc_g_s hw hf
        refine cw_get (val := .int (rI z8)) B hw rz8 ⟨by decide, by decide⟩ (by decide) cwi_1 cfl_0_27 ez8 rfl dX0_setAxiom_20 ?_
        refine lv_iconst (v := rI 1) hx hb dX0_setAxiom_23 rfl ?_
        obtain ⟨z9, ez9, iz9, hf⟩ := cc_ck_s hf
        refine rn_add hx hb ez9 dX0_setAxiom_24 ?_
        obtain ⟨σ10, eσ10, rσ10, hf⟩ := cc_p_s hf
        refine cw_put B hw rσ10 cwt_1 (by decide) rfl cfl_0_27 iz9 eσ10 rfl (cw_fv_n rfl rfl) dX0_setAxiom_25 (fun H locs hw => ?_)
        exact cw_retv B hf hw dX0_setAxiom_28
    · exact absurd h0 hk
  · rcases hf with ⟨hk, -⟩ | ⟨-, hf⟩
    · exact absurd hk h0
    · cases hf
      exact cw_xout B hnh h0 hw h1 h2 h3

set_option maxHeartbeats 4000000 in
set_option maxRecDepth 100000 in
theorem pm_X0_setAxiom {v : cwE} {bd : Nat × Nat} {l : Launch} {d : Nat} {rec : Nat → CS → List Int → CO} (hbd : bd = (v.2.2.1, v.2.2.2.1)) (hR : cw_Rec l v d rec) (htr : l.stackTraces = false) (hd5 : 5 ≤ d) (σ σ' : CS) (x0 x1 x2 : Int) (kd : Nat) (r : Int) (ix0 : inR x0) (ix1 : inR x1) (ix2 : inR x2) (hf : pc_X0_setAxiom_0 rec bd σ x0 x1 x2 = some (σ', kd, r)) : cw_Met l v yX0_setAxiom cX0_setAxiom 3 none (d + 1) [cR x0, .int (rI x1), .int (rI x2)] σ σ' kd none := by
  refine cw_ofW (by decide +kernel) ?_
  intro p e s m args below meth c s₁ B hml hv
  obtain ⟨rfl, hM, hK⟩ := hv
  have hts := atoms_spec (ws := Cond.code yX0_setAxiom cX0_setAxiom 3 none :: cw_bw) B.pre
  have hB : cw_B v RX0 p s m _ meth c cX0_setAxiom 3 none := ⟨B.exec, B.bytes, B.returns, hml, findClass_of_methodNamed B.named, fun w h => hts w (List.mem_cons_of_mem _ h), B.notSynchronized, hK⟩
  have hnh := cc_nh B (hts _ List.mem_cons_self)
  rw [lg_entry_eq]
  obtain ⟨ls, hls, hl⟩ := cl_ent [cR x0, .int (rI x1), .int (rI x2)] 3 (cl_1r (cl_1i (cl_1i cl_10))) (Nat.le_of_ble_eq_true rfl)
  rw [hls]
  exact pw_X0_setAxiom_0 hbd hR htr hd5 hB hnh σ x0 x1 x2 ix0 ix1 ix2 hf _ _ _ _ _ (cw_W0 hM) (cl_sub hl [0, 1, 2] rfl)

set_option maxHeartbeats 4000000 in
set_option maxRecDepth 100000 in
theorem pw_X0_setRule_0 {v : cwE} {bd : Nat × Nat} {p : Program} {l : Launch} {e : Env} {s : State} {m : MethodId} {args : Array Value} {below : List Frame} {meth : Method} {c : Code} {d : Nat} {rec : Nat → CS → List Int → CO} {σ0 σ' : CS} {kd : Nat} {r : Int} (hbd : bd = (v.2.2.1, v.2.2.2.1)) (hR : cw_Rec l v d rec) (htr : l.stackTraces = false) (hd5 : 5 ≤ d) (B : cw_B v RX0 p s m args meth c cX0_setRule 4 none) (hnh : ∀ x ∈ c.exceptionTable.toList, False) : ∀ (σ : CS) (x0 x1 x2 x3 : Int), inR x0 → inR x1 → inR x2 → inR x3 → pc_X0_setRule_0 rec bd σ x0 x1 x2 x3 = some (σ', kd, r) → ∀ (H : Heap) (locs : List Loc) (cells slots : Nat) (ls : Array Slot), cw_W v s σ0 σ H locs cells slots → cl_has ls 4 [(0, cR x0), (1, .int (rI x1)), (2, .int (rI x2)), (3, .int (rI x3))] → W p l e (cw_rm v (d + 1) σ0) s m args below meth c H locs cells slots (cw_Z below v σ0 σ' kd none args s) (F0 m 0 ls []) := by
  subst hbd
  obtain ⟨hx, hb, hr, hml, hown, hts, hlk, hK⟩ := id B
  intro σ x0 x1 x2 x3 ix0 ix1 ix2 ix3 hf H locs cells slots ls hw hl
  unfold pc_X0_setRule_0 at hf
  refine cl_aload_n hx hb dX0_setRule_0 rfl (lv_at hl.1 0 rfl) ?_
  obtain ⟨z1, ez1, iz1, rz1, hf⟩ := cc_g_s hw hf
  refine cw_get (val := cR z1) B hw rz1 ⟨by decide, by decide⟩ (by decide) cwi_1 cfl_0_16 ez1 rfl dX0_setRule_1 ?_
  refine lv_iload_n hx hb dX0_setRule_4 rfl (lv_at hl.1 1 rfl) ?_
  obtain ⟨qσ2, hf⟩ := cc_t_s hf
  obtain ⟨σ2, kv3, z4, hσ2, hf⟩ := cc_cl_s hf
  obtain ⟨iz4, mσ2⟩ := hR 55 σ [z1, x1] σ2 kv3 z4 hσ2
  have mσ2 : cw_Met l v yX5_has cX5_has 2 (some .boolean) d [cR z1, .int (rI x1)] σ σ2 kv3 (some (.int (rI z4))) := mσ2 iz1 ix1
  refine cw_cv (b := z1) (t := 6) (n := 1) (rest := []) (As := [.int (rI x1)]) B mσ2 qσ2 ⟨by decide, by decide⟩ cgo_yX5_has cml_0_77 cin_yX5_has cse_yX5_has (by decide +kernel) (by decide) rfl hl.1.1 (Nat.le_of_ble_eq_true rfl) dX0_setRule_5 rfl hw (fun h0 H locs cells slots hw => ?_) (fun h0 H locs cells slots q ce hw h1 h2 h3 => ?_)
  · rcases hf with ⟨-, hf⟩ | ⟨hk, -⟩
    · skip
      refine rn_if_eq (a := z4) (tgt := 44) hx hb iz4 dX0_setRule_8 (by decide) (fun c5 => ?_) (fun c5 => ?_)
      · replace hf := cc_if_t hf c5
        exact cw_retv B hf hw dX0_setRule_44
      · replace hf := cc_if_f hf c5
        refine cl_aload_n hx hb dX0_setRule_11 rfl (lv_at hl.1 0 rfl) ?_
        obtain ⟨z6, ez6, iz6, rz6, hf⟩ := cc_g_s hw hf
        refine cw_get (val := cR z6) B hw rz6 ⟨by decide, by decide⟩ (by decide) cwi_1 cfl_0_16 ez6 rfl dX0_setRule_12 ?_
        refine lv_iload_n hx hb dX0_setRule_15 rfl (lv_at hl.1 2 rfl) ?_
        obtain ⟨qσ7, hf⟩ := cc_t_s hf
        obtain ⟨σ7, kv8, z9, hσ7, hf⟩ := cc_cl_s hf
        obtain ⟨iz9, mσ7⟩ := hR 55 σ2 [z6, x2] σ7 kv8 z9 hσ7
        have mσ7 : cw_Met l v yX5_has cX5_has 2 (some .boolean) d [cR z6, .int (rI x2)] σ2 σ7 kv8 (some (.int (rI z9))) := mσ7 iz6 ix2
        refine cw_cv (b := z6) (t := 6) (n := 1) (rest := []) (As := [.int (rI x2)]) B mσ7 qσ7 ⟨by decide, by decide⟩ cgo_yX5_has cml_0_77 cin_yX5_has cse_yX5_has (by decide +kernel) (by decide) rfl hl.1.1 (Nat.le_of_ble_eq_true rfl) dX0_setRule_16 rfl hw (fun h0 H locs cells slots hw => ?_) (fun h0 H locs cells slots q ce hw h1 h2 h3 => ?_)
        · rcases hf with ⟨-, hf⟩ | ⟨hk, -⟩
          · skip
            refine rn_if_eq (a := z9) (tgt := 44) hx hb iz9 dX0_setRule_19 (by decide) (fun c10 => ?_) (fun c10 => ?_)
            · replace hf := cc_if_t hf c10
              exact cw_retv B hf hw dX0_setRule_44
            · replace hf := cc_if_f hf c10
              refine cl_aload_n hx hb dX0_setRule_22 rfl (lv_at hl.1 0 rfl) ?_
              obtain ⟨z11, ez11, iz11, rz11, hf⟩ := cc_g_s hw hf
              refine cw_get (val := cR z11) B hw rz11 ⟨by decide, by decide⟩ (by decide) cwi_1 cfl_0_24 ez11 rfl dX0_setRule_23 ?_
              refine lv_iload_n hx hb dX0_setRule_26 rfl (lv_at hl.1 1 rfl) ?_
              refine lv_bipush (v := rI 8) hx hb dX0_setRule_27 (by decide +kernel) ?_
              obtain ⟨z12, ez12, iz12, hf⟩ := cc_ck_s hf
              refine rn_mul hx hb ez12 dX0_setRule_29 ?_
              refine lv_iload_n hx hb dX0_setRule_30 rfl (lv_at hl.1 2 rfl) ?_
              obtain ⟨z13, ez13, iz13, hf⟩ := cc_ck_s hf
              refine rn_add hx hb ez13 dX0_setRule_31 ?_
              refine lv_iload_n hx hb dX0_setRule_32 rfl (lv_at hl.1 3 rfl) ?_
              obtain ⟨σ14, eσ14, rσ14, bσ14, hf⟩ := cc_w_s hf
              refine cw_astI B hw rσ14 iz13 bσ14 ix3 eσ14 dX0_setRule_33 (fun H locs hw => ?_)
              refine cl_aload_n hx hb dX0_setRule_34 rfl (lv_at hl.1 0 rfl) ?_
              refine lv_dup hx hb dX0_setRule_35 (cR_cat _) ?_
              obtain ⟨z15, ez15, iz15, rz15, hf⟩ := cc_g_s hw hf
              refine cw_get (val := .int (rI z15)) B hw rz15 ⟨by decide, by decide⟩ (by decide) cwi_1 cfl_0_31 ez15 rfl dX0_setRule_36 ?_
              refine lv_iconst (v := rI 1) hx hb dX0_setRule_39 rfl ?_
              obtain ⟨z16, ez16, iz16, hf⟩ := cc_ck_s hf
              refine rn_add hx hb ez16 dX0_setRule_40 ?_
              obtain ⟨σ17, eσ17, rσ17, hf⟩ := cc_p_s hf
              refine cw_put B hw rσ17 cwt_1 (by decide) rfl cfl_0_31 iz16 eσ17 rfl (cw_fv_n rfl rfl) dX0_setRule_41 (fun H locs hw => ?_)
              exact cw_retv B hf hw dX0_setRule_44
          · exact absurd h0 hk
        · rcases hf with ⟨hk, -⟩ | ⟨-, hf⟩
          · exact absurd hk h0
          · cases hf
            exact cw_xout B hnh h0 hw h1 h2 h3
    · exact absurd h0 hk
  · rcases hf with ⟨hk, -⟩ | ⟨-, hf⟩
    · exact absurd hk h0
    · cases hf
      exact cw_xout B hnh h0 hw h1 h2 h3

set_option maxHeartbeats 4000000 in
set_option maxRecDepth 100000 in
theorem pm_X0_setRule {v : cwE} {bd : Nat × Nat} {l : Launch} {d : Nat} {rec : Nat → CS → List Int → CO} (hbd : bd = (v.2.2.1, v.2.2.2.1)) (hR : cw_Rec l v d rec) (htr : l.stackTraces = false) (hd5 : 5 ≤ d) (σ σ' : CS) (x0 x1 x2 x3 : Int) (kd : Nat) (r : Int) (ix0 : inR x0) (ix1 : inR x1) (ix2 : inR x2) (ix3 : inR x3) (hf : pc_X0_setRule_0 rec bd σ x0 x1 x2 x3 = some (σ', kd, r)) : cw_Met l v yX0_setRule cX0_setRule 4 none (d + 1) [cR x0, .int (rI x1), .int (rI x2), .int (rI x3)] σ σ' kd none := by
  refine cw_ofW (by decide +kernel) ?_
  intro p e s m args below meth c s₁ B hml hv
  obtain ⟨rfl, hM, hK⟩ := hv
  have hts := atoms_spec (ws := Cond.code yX0_setRule cX0_setRule 4 none :: cw_bw) B.pre
  have hB : cw_B v RX0 p s m _ meth c cX0_setRule 4 none := ⟨B.exec, B.bytes, B.returns, hml, findClass_of_methodNamed B.named, fun w h => hts w (List.mem_cons_of_mem _ h), B.notSynchronized, hK⟩
  have hnh := cc_nh B (hts _ List.mem_cons_self)
  rw [lg_entry_eq]
  obtain ⟨ls, hls, hl⟩ := cl_ent [cR x0, .int (rI x1), .int (rI x2), .int (rI x3)] 4 (cl_1r (cl_1i (cl_1i (cl_1i cl_10)))) (Nat.le_of_ble_eq_true rfl)
  rw [hls]
  exact pw_X0_setRule_0 hbd hR htr hd5 hB hnh σ x0 x1 x2 x3 ix0 ix1 ix2 ix3 hf _ _ _ _ _ (cw_W0 hM) (cl_sub hl [0, 1, 2, 3] rfl)

set_option maxHeartbeats 4000000 in
set_option maxRecDepth 100000 in
theorem pw_X0_valueOf_0 {v : cwE} {bd : Nat × Nat} {p : Program} {l : Launch} {e : Env} {s : State} {m : MethodId} {args : Array Value} {below : List Frame} {meth : Method} {c : Code} {d : Nat} {rec : Nat → CS → List Int → CO} {σ0 σ' : CS} {kd : Nat} {r : Int} (hbd : bd = (v.2.2.1, v.2.2.2.1)) (hR : cw_Rec l v d rec) (htr : l.stackTraces = false) (hd5 : 5 ≤ d) (B : cw_B v RX0 p s m args meth c cX0_valueOf 2 (some (.object "PureHouse$Node"))) (hnh : ∀ x ∈ c.exceptionTable.toList, False) : ∀ (σ : CS) (x0 x1 : Int), inR x0 → inR x1 → pc_X0_valueOf_0 rec bd σ x0 x1 = some (σ', kd, r) → ∀ (H : Heap) (locs : List Loc) (cells slots : Nat) (ls : Array Slot), cw_W v s σ0 σ H locs cells slots → cl_has ls 2 [(0, cR x0), (1, .int (rI x1))] → W p l e (cw_rm v (d + 1) σ0) s m args below meth c H locs cells slots (cw_Z below v σ0 σ' kd (some (cR r)) args s) (F0 m 0 ls []) := by
  subst hbd
  obtain ⟨hx, hb, hr, hml, hown, hts, hlk, hK⟩ := id B
  intro σ x0 x1 ix0 ix1 hf H locs cells slots ls hw hl
  unfold pc_X0_valueOf_0 at hf
  refine cl_aload_n hx hb dX0_valueOf_0 rfl (lv_at hl.1 0 rfl) ?_
  obtain ⟨z1, ez1, iz1, rz1, hf⟩ := cc_g_s hw hf
  refine cw_get (val := cR z1) B hw rz1 ⟨by decide, by decide⟩ (by decide) cwi_1 cfl_0_34 ez1 rfl dX0_valueOf_1 ?_
  refine lv_iload_n hx hb dX0_valueOf_4 rfl (lv_at hl.1 1 rfl) ?_
  obtain ⟨qσ2, hf⟩ := cc_t_s hf
  obtain ⟨σ2, kv3, z4, hσ2, hf⟩ := cc_cl_s hf
  obtain ⟨iz4, mσ2⟩ := hR 55 σ [z1, x1] σ2 kv3 z4 hσ2
  have mσ2 : cw_Met l v yX5_has cX5_has 2 (some .boolean) d [cR z1, .int (rI x1)] σ σ2 kv3 (some (.int (rI z4))) := mσ2 iz1 ix1
  refine cw_cv (b := z1) (t := 6) (n := 1) (rest := []) (As := [.int (rI x1)]) B mσ2 qσ2 ⟨by decide, by decide⟩ cgo_yX5_has cml_0_77 cin_yX5_has cse_yX5_has (by decide +kernel) (by decide) rfl hl.1.1 (Nat.le_of_ble_eq_true rfl) dX0_valueOf_5 rfl hw (fun h0 H locs cells slots hw => ?_) (fun h0 H locs cells slots q ce hw h1 h2 h3 => ?_)
  · rcases hf with ⟨-, hf⟩ | ⟨hk, -⟩
    · skip
      refine rn_if_eq (a := z4) (tgt := 20) hx hb iz4 dX0_valueOf_8 (by decide) (fun c5 => ?_) (fun c5 => ?_)
      · replace hf := cc_if_t hf c5
        refine cl_null hx hb dX0_valueOf_20 ?_
        exact cw_reta B hf hw dX0_valueOf_21
      · replace hf := cc_if_f hf c5
        refine cl_aload_n hx hb dX0_valueOf_11 rfl (lv_at hl.1 0 rfl) ?_
        obtain ⟨z6, ez6, iz6, rz6, hf⟩ := cc_g_s hw hf
        refine cw_get (val := cR z6) B hw rz6 ⟨by decide, by decide⟩ (by decide) cwi_1 cfl_0_43 ez6 rfl dX0_valueOf_12 ?_
        refine lv_iload_n hx hb dX0_valueOf_15 rfl (lv_at hl.1 1 rfl) ?_
        obtain ⟨z7, ez7, iz7, rz7, bz7, hf⟩ := cc_r_s hw hf
        refine cw_aldR B hw rz7 ix1 bz7 ez7 dX0_valueOf_16 ?_
        refine lv_goto (tgt := 21) hx hb dX0_valueOf_17 (by decide) ?_
        exact cw_reta B hf hw dX0_valueOf_21
    · exact absurd h0 hk
  · rcases hf with ⟨hk, -⟩ | ⟨-, hf⟩
    · exact absurd hk h0
    · cases hf
      exact cw_xout B hnh h0 hw h1 h2 h3

set_option maxHeartbeats 4000000 in
set_option maxRecDepth 100000 in
theorem pm_X0_valueOf {v : cwE} {bd : Nat × Nat} {l : Launch} {d : Nat} {rec : Nat → CS → List Int → CO} (hbd : bd = (v.2.2.1, v.2.2.2.1)) (hR : cw_Rec l v d rec) (htr : l.stackTraces = false) (hd5 : 5 ≤ d) (σ σ' : CS) (x0 x1 : Int) (kd : Nat) (r : Int) (ix0 : inR x0) (ix1 : inR x1) (hf : pc_X0_valueOf_0 rec bd σ x0 x1 = some (σ', kd, r)) : cw_Met l v yX0_valueOf cX0_valueOf 2 (some (.object "PureHouse$Node")) (d + 1) [cR x0, .int (rI x1)] σ σ' kd (some (cR r)) := by
  refine cw_ofW (by decide +kernel) ?_
  intro p e s m args below meth c s₁ B hml hv
  obtain ⟨rfl, hM, hK⟩ := hv
  have hts := atoms_spec (ws := Cond.code yX0_valueOf cX0_valueOf 2 (some (.object "PureHouse$Node")) :: cw_bw) B.pre
  have hB : cw_B v RX0 p s m _ meth c cX0_valueOf 2 (some (.object "PureHouse$Node")) := ⟨B.exec, B.bytes, B.returns, hml, findClass_of_methodNamed B.named, fun w h => hts w (List.mem_cons_of_mem _ h), B.notSynchronized, hK⟩
  have hnh := cc_nh B (hts _ List.mem_cons_self)
  rw [lg_entry_eq]
  obtain ⟨ls, hls, hl⟩ := cl_ent [cR x0, .int (rI x1)] 2 (cl_1r (cl_1i cl_10)) (Nat.le_of_ble_eq_true rfl)
  rw [hls]
  exact pw_X0_valueOf_0 hbd hR htr hd5 hB hnh σ x0 x1 ix0 ix1 hf _ _ _ _ _ (cw_W0 hM) (cl_sub hl [0, 1] rfl)

set_option maxHeartbeats 4000000 in
set_option maxRecDepth 100000 in
theorem pw_X1_envOfSecond_0 {v : cwE} {bd : Nat × Nat} {p : Program} {l : Launch} {e : Env} {s : State} {m : MethodId} {args : Array Value} {below : List Frame} {meth : Method} {c : Code} {d : Nat} {rec : Nat → CS → List Int → CO} {σ0 σ' : CS} {kd : Nat} {r : Int} (hbd : bd = (v.2.2.1, v.2.2.2.1)) (hR : cw_Rec l v d rec) (htr : l.stackTraces = false) (hd5 : 5 ≤ d) (B : cw_B v RX1 p s m args meth c cX1_envOfSecond 2 (some (.object "PureHouse$Link"))) (hnh : ∀ x ∈ c.exceptionTable.toList, False) : ∀ (σ : CS) (x0 x1 : Int), inR x0 → inR x1 → pc_X1_envOfSecond_0 rec bd σ x0 x1 = some (σ', kd, r) → ∀ (H : Heap) (locs : List Loc) (cells slots : Nat) (ls : Array Slot), cw_W v s σ0 σ H locs cells slots → cl_has ls 2 [(0, cR x0), (1, .int (rI x1))] → W p l e (cw_rm v (d + 1) σ0) s m args below meth c H locs cells slots (cw_Z below v σ0 σ' kd (some (cR r)) args s) (F0 m 0 ls []) := by
  subst hbd
  obtain ⟨hx, hb, hr, hml, hown, hts, hlk, hK⟩ := id B
  intro σ x0 x1 ix0 ix1 hf H locs cells slots ls hw hl
  unfold pc_X1_envOfSecond_0 at hf
  refine cl_aload_n hx hb dX1_envOfSecond_0 rfl (lv_at hl.1 0 rfl) ?_
  obtain ⟨z1, ez1, iz1, rz1, hf⟩ := cc_g_s hw hf
  refine cw_get (val := cR z1) B hw rz1 ⟨by decide, by decide⟩ (by decide) cwi_2 cfl_1_7 ez1 rfl dX1_envOfSecond_1 ?_
  obtain ⟨z2, ez2, iz2, rz2, hf⟩ := cc_g_s hw hf
  refine cw_get (val := .int (rI z2)) B hw rz2 ⟨by decide, by decide⟩ (by decide) cwi_7 cfl_1_29 ez2 rfl dX1_envOfSecond_4 ?_
  refine lv_iload_n hx hb dX1_envOfSecond_7 rfl (lv_at hl.1 1 rfl) ?_
  refine cl_aload_n hx hb dX1_envOfSecond_8 rfl (lv_at hl.1 0 rfl) ?_
  obtain ⟨z3, ez3, iz3, rz3, hf⟩ := cc_g_s hw hf
  refine cw_get (val := cR z3) B hw rz3 ⟨by decide, by decide⟩ (by decide) cwi_2 cfl_1_17 ez3 rfl dX1_envOfSecond_9 ?_
  obtain ⟨σ4, kv5, z6, hσ4, hf⟩ := cc_cl_s hf
  obtain ⟨iz6, mσ4⟩ := hR 31 σ [z2, x1, z3] σ4 kv5 z6 hσ4
  have mσ4 : cw_Met l v yX3_putNew cX3_putNew 3 (some (.object "PureHouse$Link")) d [.int (rI z2), .int (rI x1), cR z3] σ σ4 kv5 (some (cR z6)) := mσ4 iz2 ix1 iz3
  refine cw_cs (n := 3) (rest := []) (As := [.int (rI z2), .int (rI x1), cR z3]) B mσ4 cgo_yX3_putNew cml_1_30 cst_yX3_putNew (by decide +kernel) (by decide) rfl hl.1.1 (Nat.le_of_ble_eq_true rfl) dX1_envOfSecond_12 rfl hw (fun h0 H locs cells slots hw => ?_) (fun h0 H locs cells slots q ce hw h1 h2 h3 => ?_)
  · rcases hf with ⟨-, hf⟩ | ⟨hk, -⟩
    · skip
      exact cw_reta B hf hw dX1_envOfSecond_15
    · exact absurd h0 hk
  · rcases hf with ⟨hk, -⟩ | ⟨-, hf⟩
    · exact absurd hk h0
    · cases hf
      exact cw_xout B hnh h0 hw h1 h2 h3

set_option maxHeartbeats 4000000 in
set_option maxRecDepth 100000 in
theorem pm_X1_envOfSecond {v : cwE} {bd : Nat × Nat} {l : Launch} {d : Nat} {rec : Nat → CS → List Int → CO} (hbd : bd = (v.2.2.1, v.2.2.2.1)) (hR : cw_Rec l v d rec) (htr : l.stackTraces = false) (hd5 : 5 ≤ d) (σ σ' : CS) (x0 x1 : Int) (kd : Nat) (r : Int) (ix0 : inR x0) (ix1 : inR x1) (hf : pc_X1_envOfSecond_0 rec bd σ x0 x1 = some (σ', kd, r)) : cw_Met l v yX1_envOfSecond cX1_envOfSecond 2 (some (.object "PureHouse$Link")) (d + 1) [cR x0, .int (rI x1)] σ σ' kd (some (cR r)) := by
  refine cw_ofW (by decide +kernel) ?_
  intro p e s m args below meth c s₁ B hml hv
  obtain ⟨rfl, hM, hK⟩ := hv
  have hts := atoms_spec (ws := Cond.code yX1_envOfSecond cX1_envOfSecond 2 (some (.object "PureHouse$Link")) :: cw_bw) B.pre
  have hB : cw_B v RX1 p s m _ meth c cX1_envOfSecond 2 (some (.object "PureHouse$Link")) := ⟨B.exec, B.bytes, B.returns, hml, findClass_of_methodNamed B.named, fun w h => hts w (List.mem_cons_of_mem _ h), B.notSynchronized, hK⟩
  have hnh := cc_nh B (hts _ List.mem_cons_self)
  rw [lg_entry_eq]
  obtain ⟨ls, hls, hl⟩ := cl_ent [cR x0, .int (rI x1)] 2 (cl_1r (cl_1i cl_10)) (Nat.le_of_ble_eq_true rfl)
  rw [hls]
  exact pw_X1_envOfSecond_0 hbd hR htr hd5 hB hnh σ x0 x1 ix0 ix1 hf _ _ _ _ _ (cw_W0 hM) (cl_sub hl [0, 1] rfl)

set_option maxHeartbeats 4000000 in
set_option maxRecDepth 100000 in
theorem pw_X1_init_0 {v : cwE} {bd : Nat × Nat} {p : Program} {l : Launch} {e : Env} {s : State} {m : MethodId} {args : Array Value} {below : List Frame} {meth : Method} {c : Code} {d : Nat} {rec : Nat → CS → List Int → CO} {σ0 σ' : CS} {kd : Nat} {r : Int} (hbd : bd = (v.2.2.1, v.2.2.2.1)) (hR : cw_Rec l v d rec) (htr : l.stackTraces = false) (hd5 : 5 ≤ d) (B : cw_B v RX1 p s m args meth c cX1_init 5 none) (hin : meth.name = "<init>") (hnh : ∀ x ∈ c.exceptionTable.toList, False) : ∀ (σ : CS) (x0 x1 x2 x3 x4 : Int), inR x0 → inR x1 → inR x2 → inR x3 → inR x4 → pc_X1_init_0 rec bd σ x0 x1 x2 x3 x4 = some (σ', kd, r) → ∀ (H : Heap) (locs : List Loc) (cells slots : Nat) (ls : Array Slot), cw_W v s σ0 σ H locs cells slots → cl_has ls 5 [(0, cR x0), (1, cR x1), (2, .int (rI x2)), (3, cR x3), (4, cR x4)] → W p l e (cw_rm v (d + 1) σ0) s m args below meth c H locs cells slots (cw_Z below v σ0 σ' kd none args s) (F0 m 0 ls []) := by
  subst hbd
  obtain ⟨hx, hb, hr, hml, hown, hts, hlk, hK⟩ := id B
  intro σ x0 x1 x2 x3 x4 ix0 ix1 ix2 ix3 ix4 hf H locs cells slots ls hw hl
  unfold pc_X1_init_0 at hf
  refine cl_aload_n hx hb dX1_init_0 rfl (lv_at hl.1 0 rfl) ?_
  obtain ⟨q0, hf⟩ := cc_t_s hf
  rw [cR_r q0.1]
  refine W.objInit hx hb hown (hts _ coi_1_1) (hts _ coi2) (hts _ coi3) rfl (hl.1.1.trans hml.symm) rfl dX1_init_1 (by show 1 ≤ d + 1; omega) (by show _ + 12 ≤ 100 * (d + 1); simp [JFrame.monitorRoom]; omega) ?_
  refine cl_aload_n hx hb dX1_init_4 rfl (lv_at hl.1 0 rfl) ?_
  refine cl_aload_n hx hb dX1_init_5 rfl (lv_at hl.1 1 rfl) ?_
  obtain ⟨σ1, eσ1, rσ1, hf⟩ := cc_p_s hf
  refine cw_putF B hin hw rσ1 cwt_2 (by decide) rfl rfl rfl cfl_1_7 ix1 eσ1 rfl (cw_fv_r rfl (Or.inl ⟨_, rfl⟩)) dX1_init_6 (fun H locs hw => ?_)
  refine cl_aload_n hx hb dX1_init_9 rfl (lv_at hl.1 0 rfl) ?_
  refine lv_iload_n hx hb dX1_init_10 rfl (lv_at hl.1 2 rfl) ?_
  obtain ⟨σ2, eσ2, rσ2, hf⟩ := cc_p_s hf
  refine cw_putF B hin hw rσ2 cwt_2 (by decide) rfl rfl rfl cfl_1_13 ix2 eσ2 rfl (cw_fv_n rfl rfl) dX1_init_11 (fun H locs hw => ?_)
  refine cl_aload_n hx hb dX1_init_14 rfl (lv_at hl.1 0 rfl) ?_
  refine cl_aload_n hx hb dX1_init_15 rfl (lv_at hl.1 3 rfl) ?_
  obtain ⟨σ3, eσ3, rσ3, hf⟩ := cc_p_s hf
  refine cw_putF B hin hw rσ3 cwt_2 (by decide) rfl rfl rfl cfl_1_17 ix3 eσ3 rfl (cw_fv_r rfl (Or.inl ⟨_, rfl⟩)) dX1_init_16 (fun H locs hw => ?_)
  refine cl_aload_n hx hb dX1_init_19 rfl (lv_at hl.1 0 rfl) ?_
  refine cl_aload hx hb dX1_init_20 (lv_at hl.1 4 rfl) ?_
  obtain ⟨σ4, eσ4, rσ4, hf⟩ := cc_p_s hf
  refine cw_putF B hin hw rσ4 cwt_2 (by decide) rfl rfl rfl cfl_1_21 ix4 eσ4 rfl (cw_fv_r rfl (Or.inl ⟨_, rfl⟩)) dX1_init_22 (fun H locs hw => ?_)
  exact cw_retv B hf hw dX1_init_25

set_option maxHeartbeats 4000000 in
set_option maxRecDepth 100000 in
theorem pm_X1_init {v : cwE} {bd : Nat × Nat} {l : Launch} {d : Nat} {rec : Nat → CS → List Int → CO} (hbd : bd = (v.2.2.1, v.2.2.2.1)) (hR : cw_Rec l v d rec) (htr : l.stackTraces = false) (hd5 : 5 ≤ d) (σ σ' : CS) (x0 x1 x2 x3 x4 : Int) (kd : Nat) (r : Int) (ix0 : inR x0) (ix1 : inR x1) (ix2 : inR x2) (ix3 : inR x3) (ix4 : inR x4) (hf : pc_X1_init_0 rec bd σ x0 x1 x2 x3 x4 = some (σ', kd, r)) : cw_Met l v yX1_init cX1_init 5 none (d + 1) [cR x0, cR x1, .int (rI x2), cR x3, cR x4] σ σ' kd none := by
  refine cw_ofW (by decide +kernel) ?_
  intro p e s m args below meth c s₁ B hml hv
  obtain ⟨rfl, hM, hK⟩ := hv
  have hts := atoms_spec (ws := Cond.code yX1_init cX1_init 5 none :: cw_bw) B.pre
  have hB : cw_B v RX1 p s m _ meth c cX1_init 5 none := ⟨B.exec, B.bytes, B.returns, hml, findClass_of_methodNamed B.named, fun w h => hts w (List.mem_cons_of_mem _ h), B.notSynchronized, hK⟩
  have hnh := cc_nh B (hts _ List.mem_cons_self)
  rw [lg_entry_eq]
  obtain ⟨ls, hls, hl⟩ := cl_ent [cR x0, cR x1, .int (rI x2), cR x3, cR x4] 5 (cl_1r (cl_1r (cl_1i (cl_1r (cl_1r cl_10))))) (Nat.le_of_ble_eq_true rfl)
  rw [hls]
  exact pw_X1_init_0 hbd hR htr hd5 hB (name_of_methodNamed B.named B.method).1 hnh σ x0 x1 x2 x3 x4 ix0 ix1 ix2 ix3 ix4 hf _ _ _ _ _ (cw_W0 hM) (cl_sub hl [0, 1, 2, 3, 4] rfl)

set_option maxHeartbeats 4000000 in
set_option maxRecDepth 100000 in
theorem pw_X1_isBinder_0 {v : cwE} {bd : Nat × Nat} {p : Program} {l : Launch} {e : Env} {s : State} {m : MethodId} {args : Array Value} {below : List Frame} {meth : Method} {c : Code} {d : Nat} {rec : Nat → CS → List Int → CO} {σ0 σ' : CS} {kd : Nat} {r : Int} (hbd : bd = (v.2.2.1, v.2.2.2.1)) (hR : cw_Rec l v d rec) (htr : l.stackTraces = false) (hd5 : 5 ≤ d) (B : cw_B v RX1 p s m args meth c cX1_isBinder 1 (some .boolean)) (hnh : ∀ x ∈ c.exceptionTable.toList, False) : ∀ (σ : CS) (x0 : Int), inR x0 → pc_X1_isBinder_0 rec bd σ x0 = some (σ', kd, r) → ∀ (H : Heap) (locs : List Loc) (cells slots : Nat) (ls : Array Slot), cw_W v s σ0 σ H locs cells slots → cl_has ls 1 [(0, cR x0)] → W p l e (cw_rm v (d + 1) σ0) s m args below meth c H locs cells slots (cw_Z below v σ0 σ' kd (some (.int (rI r))) args s) (F0 m 0 ls []) := by
  subst hbd
  obtain ⟨hx, hb, hr, hml, hown, hts, hlk, hK⟩ := id B
  intro σ x0 ix0 hf H locs cells slots ls hw hl
  unfold pc_X1_isBinder_0 at hf
  refine cl_aload_n hx hb dX1_isBinder_0 rfl (lv_at hl.1 0 rfl) ?_
  obtain ⟨z1, ez1, iz1, rz1, hf⟩ := cc_g_s hw hf
  refine cw_get (val := cR z1) B hw rz1 ⟨by decide, by decide⟩ (by decide) cwi_2 cfl_1_7 ez1 rfl dX1_isBinder_1 ?_
  obtain ⟨z2, ez2, iz2, rz2, hf⟩ := cc_g_s hw hf
  refine cw_get (val := .int (rI z2)) B hw rz2 ⟨by decide, by decide⟩ (by decide) cwi_7 cfl_1_24 ez2 rfl dX1_isBinder_4 ?_
  refine lv_iconst (v := rI 4) hx hb dX1_isBinder_7 rfl ?_
  refine rn_icmp_eq (a := z2) (b := 4) (tgt := 22) hx hb iz2 ⟨by decide, by decide⟩ dX1_isBinder_8 (by decide) (fun c3 => ?_) (fun c3 => ?_)
  · replace hf := cc_if_t hf c3
    refine lv_iconst (v := rI 1) hx hb dX1_isBinder_22 rfl ?_
    refine lv_goto (tgt := 27) hx hb dX1_isBinder_23 (by decide) ?_
    obtain ⟨h01, hf⟩ := cc_bo_s hf
    exact cw_retz B h01 hf hw dX1_isBinder_27
  · replace hf := cc_if_f hf c3
    refine cl_aload_n hx hb dX1_isBinder_11 rfl (lv_at hl.1 0 rfl) ?_
    obtain ⟨z4, ez4, iz4, rz4, hf⟩ := cc_g_s hw hf
    refine cw_get (val := cR z4) B hw rz4 ⟨by decide, by decide⟩ (by decide) cwi_2 cfl_1_7 ez4 rfl dX1_isBinder_12 ?_
    obtain ⟨z5, ez5, iz5, rz5, hf⟩ := cc_g_s hw hf
    refine cw_get (val := .int (rI z5)) B hw rz5 ⟨by decide, by decide⟩ (by decide) cwi_7 cfl_1_24 ez5 rfl dX1_isBinder_15 ?_
    refine lv_iconst (v := rI 5) hx hb dX1_isBinder_18 rfl ?_
    refine rn_icmp_ne (a := z5) (b := 5) (tgt := 26) hx hb iz5 ⟨by decide, by decide⟩ dX1_isBinder_19 (by decide) (fun c6 => ?_) (fun c6 => ?_)
    · replace hf := cc_if_t hf c6
      refine lv_iconst (v := rI 0) hx hb dX1_isBinder_26 rfl ?_
      obtain ⟨h01, hf⟩ := cc_bo_s hf
      exact cw_retz B h01 hf hw dX1_isBinder_27
    · replace hf := cc_if_f hf c6
      refine lv_iconst (v := rI 1) hx hb dX1_isBinder_22 rfl ?_
      refine lv_goto (tgt := 27) hx hb dX1_isBinder_23 (by decide) ?_
      obtain ⟨h01, hf⟩ := cc_bo_s hf
      exact cw_retz B h01 hf hw dX1_isBinder_27

set_option maxHeartbeats 4000000 in
set_option maxRecDepth 100000 in
theorem pm_X1_isBinder {v : cwE} {bd : Nat × Nat} {l : Launch} {d : Nat} {rec : Nat → CS → List Int → CO} (hbd : bd = (v.2.2.1, v.2.2.2.1)) (hR : cw_Rec l v d rec) (htr : l.stackTraces = false) (hd5 : 5 ≤ d) (σ σ' : CS) (x0 : Int) (kd : Nat) (r : Int) (ix0 : inR x0) (hf : pc_X1_isBinder_0 rec bd σ x0 = some (σ', kd, r)) : cw_Met l v yX1_isBinder cX1_isBinder 1 (some .boolean) (d + 1) [cR x0] σ σ' kd (some (.int (rI r))) := by
  refine cw_ofW (by decide +kernel) ?_
  intro p e s m args below meth c s₁ B hml hv
  obtain ⟨rfl, hM, hK⟩ := hv
  have hts := atoms_spec (ws := Cond.code yX1_isBinder cX1_isBinder 1 (some .boolean) :: cw_bw) B.pre
  have hB : cw_B v RX1 p s m _ meth c cX1_isBinder 1 (some .boolean) := ⟨B.exec, B.bytes, B.returns, hml, findClass_of_methodNamed B.named, fun w h => hts w (List.mem_cons_of_mem _ h), B.notSynchronized, hK⟩
  have hnh := cc_nh B (hts _ List.mem_cons_self)
  rw [lg_entry_eq]
  obtain ⟨ls, hls, hl⟩ := cl_ent [cR x0] 1 (cl_1r cl_10) (Nat.le_of_ble_eq_true rfl)
  rw [hls]
  exact pw_X1_isBinder_0 hbd hR htr hd5 hB hnh σ x0 ix0 hf _ _ _ _ _ (cw_W0 hM) (cl_sub hl [0] rfl)

set_option maxHeartbeats 4000000 in
set_option maxRecDepth 100000 in
theorem pw_X2_init_0 {v : cwE} {bd : Nat × Nat} {p : Program} {l : Launch} {e : Env} {s : State} {m : MethodId} {args : Array Value} {below : List Frame} {meth : Method} {c : Code} {d : Nat} {rec : Nat → CS → List Int → CO} {σ0 σ' : CS} {kd : Nat} {r : Int} (hbd : bd = (v.2.2.1, v.2.2.2.1)) (hR : cw_Rec l v d rec) (htr : l.stackTraces = false) (hd5 : 5 ≤ d) (B : cw_B v RX2 p s m args meth c cX2_init 5 none) (hin : meth.name = "<init>") (hnh : ∀ x ∈ c.exceptionTable.toList, False) : ∀ (σ : CS) (x0 x1 x2 x3 x4 : Int), inR x0 → inR x1 → inR x2 → inR x3 → inR x4 → pc_X2_init_0 rec bd σ x0 x1 x2 x3 x4 = some (σ', kd, r) → ∀ (H : Heap) (locs : List Loc) (cells slots : Nat) (ls : Array Slot), cw_W v s σ0 σ H locs cells slots → cl_has ls 5 [(0, cR x0), (1, cR x1), (2, cR x2), (3, cR x3), (4, cR x4)] → W p l e (cw_rm v (d + 1) σ0) s m args below meth c H locs cells slots (cw_Z below v σ0 σ' kd none args s) (F0 m 0 ls []) := by
  subst hbd
  obtain ⟨hx, hb, hr, hml, hown, hts, hlk, hK⟩ := id B
  intro σ x0 x1 x2 x3 x4 ix0 ix1 ix2 ix3 ix4 hf H locs cells slots ls hw hl
  unfold pc_X2_init_0 at hf
  refine cl_aload_n hx hb dX2_init_0 rfl (lv_at hl.1 0 rfl) ?_
  obtain ⟨q0, hf⟩ := cc_t_s hf
  rw [cR_r q0.1]
  refine W.objInit hx hb hown (hts _ coi_2_3) (hts _ coi2) (hts _ coi3) rfl (hl.1.1.trans hml.symm) rfl dX2_init_1 (by show 1 ≤ d + 1; omega) (by show _ + 12 ≤ 100 * (d + 1); simp [JFrame.monitorRoom]; omega) ?_
  refine cl_aload_n hx hb dX2_init_4 rfl (lv_at hl.1 0 rfl) ?_
  refine lv_iconst (v := rI (-1)) hx hb dX2_init_5 rfl ?_
  obtain ⟨σ1, eσ1, rσ1, hf⟩ := cc_p_s hf
  refine cw_put B hw rσ1 cwt_3 (by decide) rfl cfl_2_9 ⟨by decide, by decide⟩ eσ1 rfl (cw_fv_n rfl rfl) dX2_init_6 (fun H locs hw => ?_)
  refine cl_aload_n hx hb dX2_init_9 rfl (lv_at hl.1 0 rfl) ?_
  refine cl_aload_n hx hb dX2_init_10 rfl (lv_at hl.1 1 rfl) ?_
  obtain ⟨σ2, eσ2, rσ2, hf⟩ := cc_p_s hf
  refine cw_putF B hin hw rσ2 cwt_3 (by decide) rfl rfl rfl cfl_2_15 ix1 eσ2 rfl (cw_fv_r rfl (Or.inr ⟨_, rfl⟩)) dX2_init_11 (fun H locs hw => ?_)
  refine cl_aload_n hx hb dX2_init_14 rfl (lv_at hl.1 0 rfl) ?_
  refine cl_aload_n hx hb dX2_init_15 rfl (lv_at hl.1 2 rfl) ?_
  obtain ⟨σ3, eσ3, rσ3, hf⟩ := cc_p_s hf
  refine cw_putF B hin hw rσ3 cwt_3 (by decide) rfl rfl rfl cfl_2_19 ix2 eσ3 rfl (cw_fv_r rfl (Or.inl ⟨_, rfl⟩)) dX2_init_16 (fun H locs hw => ?_)
  refine cl_aload_n hx hb dX2_init_19 rfl (lv_at hl.1 0 rfl) ?_
  refine cl_aload_n hx hb dX2_init_20 rfl (lv_at hl.1 3 rfl) ?_
  obtain ⟨σ4, eσ4, rσ4, hf⟩ := cc_p_s hf
  refine cw_putF B hin hw rσ4 cwt_3 (by decide) rfl rfl rfl cfl_2_23 ix3 eσ4 rfl (cw_fv_r rfl (Or.inl ⟨_, rfl⟩)) dX2_init_21 (fun H locs hw => ?_)
  refine cl_aload_n hx hb dX2_init_24 rfl (lv_at hl.1 0 rfl) ?_
  refine cl_aload hx hb dX2_init_25 (lv_at hl.1 4 rfl) ?_
  obtain ⟨σ5, eσ5, rσ5, hf⟩ := cc_p_s hf
  refine cw_putF B hin hw rσ5 cwt_3 (by decide) rfl rfl rfl cfl_2_27 ix4 eσ5 rfl (cw_fv_r rfl (Or.inl ⟨_, rfl⟩)) dX2_init_27 (fun H locs hw => ?_)
  exact cw_retv B hf hw dX2_init_30

set_option maxHeartbeats 4000000 in
set_option maxRecDepth 100000 in
theorem pm_X2_init {v : cwE} {bd : Nat × Nat} {l : Launch} {d : Nat} {rec : Nat → CS → List Int → CO} (hbd : bd = (v.2.2.1, v.2.2.2.1)) (hR : cw_Rec l v d rec) (htr : l.stackTraces = false) (hd5 : 5 ≤ d) (σ σ' : CS) (x0 x1 x2 x3 x4 : Int) (kd : Nat) (r : Int) (ix0 : inR x0) (ix1 : inR x1) (ix2 : inR x2) (ix3 : inR x3) (ix4 : inR x4) (hf : pc_X2_init_0 rec bd σ x0 x1 x2 x3 x4 = some (σ', kd, r)) : cw_Met l v yX2_init cX2_init 5 none (d + 1) [cR x0, cR x1, cR x2, cR x3, cR x4] σ σ' kd none := by
  refine cw_ofW (by decide +kernel) ?_
  intro p e s m args below meth c s₁ B hml hv
  obtain ⟨rfl, hM, hK⟩ := hv
  have hts := atoms_spec (ws := Cond.code yX2_init cX2_init 5 none :: cw_bw) B.pre
  have hB : cw_B v RX2 p s m _ meth c cX2_init 5 none := ⟨B.exec, B.bytes, B.returns, hml, findClass_of_methodNamed B.named, fun w h => hts w (List.mem_cons_of_mem _ h), B.notSynchronized, hK⟩
  have hnh := cc_nh B (hts _ List.mem_cons_self)
  rw [lg_entry_eq]
  obtain ⟨ls, hls, hl⟩ := cl_ent [cR x0, cR x1, cR x2, cR x3, cR x4] 5 (cl_1r (cl_1r (cl_1r (cl_1r (cl_1r cl_10))))) (Nat.le_of_ble_eq_true rfl)
  rw [hls]
  exact pw_X2_init_0 hbd hR htr hd5 hB (name_of_methodNamed B.named B.method).1 hnh σ x0 x1 x2 x3 x4 ix0 ix1 ix2 ix3 ix4 hf _ _ _ _ _ (cw_W0 hM) (cl_sub hl [0, 1, 2, 3, 4] rfl)

set_option maxHeartbeats 4000000 in
set_option maxRecDepth 100000 in
theorem pw_X2_isNameOf_0 {v : cwE} {bd : Nat × Nat} {p : Program} {l : Launch} {e : Env} {s : State} {m : MethodId} {args : Array Value} {below : List Frame} {meth : Method} {c : Code} {d : Nat} {rec : Nat → CS → List Int → CO} {σ0 σ' : CS} {kd : Nat} {r : Int} (hbd : bd = (v.2.2.1, v.2.2.2.1)) (hR : cw_Rec l v d rec) (htr : l.stackTraces = false) (hd5 : 5 ≤ d) (B : cw_B v RX2 p s m args meth c cX2_isNameOf 3 (some .boolean)) (hnh : ∀ x ∈ c.exceptionTable.toList, False) : ∀ (σ : CS) (x0 x1 x2 : Int), inR x0 → inR x1 → inR x2 → pc_X2_isNameOf_0 rec bd σ x0 x1 x2 = some (σ', kd, r) → ∀ (H : Heap) (locs : List Loc) (cells slots : Nat) (ls : Array Slot), cw_W v s σ0 σ H locs cells slots → cl_has ls 3 [(0, cR x0), (1, cR x1), (2, cR x2)] → W p l e (cw_rm v (d + 1) σ0) s m args below meth c H locs cells slots (cw_Z below v σ0 σ' kd (some (.int (rI r))) args s) (F0 m 0 ls []) := by
  subst hbd
  obtain ⟨hx, hb, hr, hml, hown, hts, hlk, hK⟩ := id B
  intro σ x0 x1 x2 ix0 ix1 ix2 hf H locs cells slots ls hw hl
  unfold pc_X2_isNameOf_0 at hf
  refine cl_aload_n hx hb dX2_isNameOf_0 rfl (lv_at hl.1 1 rfl) ?_
  obtain ⟨z1, ez1, iz1, rz1, hf⟩ := cc_g_s hw hf
  refine cw_get (val := .int (rI z1)) B hw rz1 ⟨by decide, by decide⟩ (by decide) cwi_7 cfl_2_126 ez1 rfl dX2_isNameOf_1 ?_
  refine cl_aload_n hx hb dX2_isNameOf_4 rfl (lv_at hl.1 2 rfl) ?_
  obtain ⟨z2, ez2, iz2, rz2, hf⟩ := cc_g_s hw hf
  refine cw_get (val := .int (rI z2)) B hw rz2 ⟨by decide, by decide⟩ (by decide) cwi_7 cfl_2_126 ez2 rfl dX2_isNameOf_5 ?_
  refine rn_icmp_ne (a := z1) (b := z2) (tgt := 41) hx hb iz1 iz2 dX2_isNameOf_8 (by decide) (fun c3 => ?_) (fun c3 => ?_)
  · replace hf := cc_if_t hf c3
    refine lv_iconst (v := rI 0) hx hb dX2_isNameOf_41 rfl ?_
    obtain ⟨h01, hf⟩ := cc_bo_s hf
    exact cw_retz B h01 hf hw dX2_isNameOf_42
  · replace hf := cc_if_f hf c3
    refine cl_aload_n hx hb dX2_isNameOf_11 rfl (lv_at hl.1 0 rfl) ?_
    obtain ⟨z4, ez4, iz4, rz4, hf⟩ := cc_g_s hw hf
    refine cw_get (val := cR z4) B hw rz4 ⟨by decide, by decide⟩ (by decide) cwi_3 cfl_2_15 ez4 rfl dX2_isNameOf_12 ?_
    refine cl_aload_n hx hb dX2_isNameOf_15 rfl (lv_at hl.1 1 rfl) ?_
    obtain ⟨z5, ez5, iz5, rz5, hf⟩ := cc_g_s hw hf
    refine cw_get (val := .int (rI z5)) B hw rz5 ⟨by decide, by decide⟩ (by decide) cwi_7 cfl_2_123 ez5 rfl dX2_isNameOf_16 ?_
    refine cl_aload_n hx hb dX2_isNameOf_19 rfl (lv_at hl.1 0 rfl) ?_
    obtain ⟨z6, ez6, iz6, rz6, hf⟩ := cc_g_s hw hf
    refine cw_get (val := cR z6) B hw rz6 ⟨by decide, by decide⟩ (by decide) cwi_3 cfl_2_15 ez6 rfl dX2_isNameOf_20 ?_
    refine cl_aload_n hx hb dX2_isNameOf_23 rfl (lv_at hl.1 2 rfl) ?_
    obtain ⟨z7, ez7, iz7, rz7, hf⟩ := cc_g_s hw hf
    refine cw_get (val := .int (rI z7)) B hw rz7 ⟨by decide, by decide⟩ (by decide) cwi_7 cfl_2_123 ez7 rfl dX2_isNameOf_24 ?_
    refine cl_aload_n hx hb dX2_isNameOf_27 rfl (lv_at hl.1 2 rfl) ?_
    obtain ⟨z8, ez8, iz8, rz8, hf⟩ := cc_g_s hw hf
    refine cw_get (val := .int (rI z8)) B hw rz8 ⟨by decide, by decide⟩ (by decide) cwi_7 cfl_2_126 ez8 rfl dX2_isNameOf_28 ?_
    obtain ⟨σ9, kv10, z11, hσ9, hf⟩ := cc_cl_s hf
    obtain ⟨iz11, mσ9⟩ := hR 53 σ [z4, z5, z6, z7, z8] σ9 kv10 z11 hσ9
    have mσ9 : cw_Met l v yX5_agree cX5_agree 6 (some .boolean) d [cR z4, .int (rI z5), cR z6, .int (rI z7), .int (rI z8)] σ σ9 kv10 (some (.int (rI z11))) := mσ9 iz4 iz5 iz6 iz7 iz8
    refine cw_cs (n := 5) (rest := []) (As := [cR z4, .int (rI z5), cR z6, .int (rI z7), .int (rI z8)]) B mσ9 cgo_yX5_agree cml_2_165 cst_yX5_agree (by decide +kernel) (by decide) rfl hl.1.1 (Nat.le_of_ble_eq_true rfl) dX2_isNameOf_31 rfl hw (fun h0 H locs cells slots hw => ?_) (fun h0 H locs cells slots q ce hw h1 h2 h3 => ?_)
    · rcases hf with ⟨-, hf⟩ | ⟨hk, -⟩
      · skip
        refine rn_if_eq (a := z11) (tgt := 41) hx hb iz11 dX2_isNameOf_34 (by decide) (fun c12 => ?_) (fun c12 => ?_)
        · replace hf := cc_if_t hf c12
          refine lv_iconst (v := rI 0) hx hb dX2_isNameOf_41 rfl ?_
          obtain ⟨h01, hf⟩ := cc_bo_s hf
          exact cw_retz B h01 hf hw dX2_isNameOf_42
        · replace hf := cc_if_f hf c12
          refine lv_iconst (v := rI 1) hx hb dX2_isNameOf_37 rfl ?_
          refine lv_goto (tgt := 42) hx hb dX2_isNameOf_38 (by decide) ?_
          obtain ⟨h01, hf⟩ := cc_bo_s hf
          exact cw_retz B h01 hf hw dX2_isNameOf_42
      · exact absurd h0 hk
    · rcases hf with ⟨hk, -⟩ | ⟨-, hf⟩
      · exact absurd hk h0
      · cases hf
        exact cw_xout B hnh h0 hw h1 h2 h3

set_option maxHeartbeats 4000000 in
set_option maxRecDepth 100000 in
theorem pm_X2_isNameOf {v : cwE} {bd : Nat × Nat} {l : Launch} {d : Nat} {rec : Nat → CS → List Int → CO} (hbd : bd = (v.2.2.1, v.2.2.2.1)) (hR : cw_Rec l v d rec) (htr : l.stackTraces = false) (hd5 : 5 ≤ d) (σ σ' : CS) (x0 x1 x2 : Int) (kd : Nat) (r : Int) (ix0 : inR x0) (ix1 : inR x1) (ix2 : inR x2) (hf : pc_X2_isNameOf_0 rec bd σ x0 x1 x2 = some (σ', kd, r)) : cw_Met l v yX2_isNameOf cX2_isNameOf 3 (some .boolean) (d + 1) [cR x0, cR x1, cR x2] σ σ' kd (some (.int (rI r))) := by
  refine cw_ofW (by decide +kernel) ?_
  intro p e s m args below meth c s₁ B hml hv
  obtain ⟨rfl, hM, hK⟩ := hv
  have hts := atoms_spec (ws := Cond.code yX2_isNameOf cX2_isNameOf 3 (some .boolean) :: cw_bw) B.pre
  have hB : cw_B v RX2 p s m _ meth c cX2_isNameOf 3 (some .boolean) := ⟨B.exec, B.bytes, B.returns, hml, findClass_of_methodNamed B.named, fun w h => hts w (List.mem_cons_of_mem _ h), B.notSynchronized, hK⟩
  have hnh := cc_nh B (hts _ List.mem_cons_self)
  rw [lg_entry_eq]
  obtain ⟨ls, hls, hl⟩ := cl_ent [cR x0, cR x1, cR x2] 3 (cl_1r (cl_1r (cl_1r cl_10))) (Nat.le_of_ble_eq_true rfl)
  rw [hls]
  exact pw_X2_isNameOf_0 hbd hR htr hd5 hB hnh σ x0 x1 x2 ix0 ix1 ix2 hf _ _ _ _ _ (cw_W0 hM) (cl_sub hl [0, 1, 2] rfl)

set_option maxHeartbeats 4000000 in
set_option maxRecDepth 100000 in
theorem pw_X2_judgeName_2 {v : cwE} {bd : Nat × Nat} {p : Program} {l : Launch} {e : Env} {s : State} {m : MethodId} {args : Array Value} {below : List Frame} {meth : Method} {c : Code} {d : Nat} {rec : Nat → CS → List Int → CO} {σ0 σ' : CS} {kd : Nat} {r : Int} (hbd : bd = (v.2.2.1, v.2.2.2.1)) (hR : cw_Rec l v d rec) (htr : l.stackTraces = false) (hd5 : 5 ≤ d) (B : cw_B v RX2 p s m args meth c cX2_judgeName 6 (some (.object "PureHouse$Node"))) (hnh : ∀ x ∈ c.exceptionTable.toList, False) : ∀ (n : Nat) (σ : CS) (x0 x1 x3 : Int), inR x0 → inR x1 → inR x3 → pc_X2_judgeName_2 rec bd n σ x0 x1 x3 = some (σ', kd, r) → ∀ (H : Heap) (locs : List Loc) (cells slots : Nat) (ls : Array Slot), cw_W v s σ0 σ H locs cells slots → cl_has ls 6 [(0, cR x0), (1, cR x1), (3, cR x3)] → W p l e (cw_rm v (d + 1) σ0) s m args below meth c H locs cells slots (cw_Z below v σ0 σ' kd (some (cR r)) args s) (F0 m 2 ls []) := by
  subst hbd
  obtain ⟨hx, hb, hr, hml, hown, hts, hlk, hK⟩ := id B
  intro n
  induction n with
  | zero => intro σ x0 x1 x3 ix0 ix1 ix3 hf; cases hf
  | succ n ih =>
    intro σ x0 x1 x3 ix0 ix1 ix3 hf H locs cells slots ls hw hl
    unfold pc_X2_judgeName_2 at hf
    refine cl_aload_n hx hb dX2_judgeName_2 rfl (lv_at hl.1 2 rfl) ?_
    refine cl_ifnull (x := x3) (tgt := 48) hx hb dX2_judgeName_3 (by decide) (fun c1 => ?_) (fun c1 => ?_)
    · replace hf := cc_if_t hf c1
      refine cl_aload_n hx hb dX2_judgeName_48 rfl (lv_at hl.1 0 rfl) ?_
      obtain ⟨z2, ez2, iz2, rz2, hf⟩ := cc_g_s hw hf
      refine cw_get (val := cR z2) B hw rz2 ⟨by decide, by decide⟩ (by decide) cwi_3 cfl_2_19 ez2 rfl dX2_judgeName_49 ?_
      obtain ⟨z3, ez3, iz3, rz3, hf⟩ := cc_g_s hw hf
      refine cw_get (val := cR z3) B hw rz3 ⟨by decide, by decide⟩ (by decide) cwi_1 cfl_2_117 ez3 rfl dX2_judgeName_52 ?_
      refine cl_aload_n hx hb dX2_judgeName_55 rfl (lv_at hl.1 0 rfl) ?_
      obtain ⟨z4, ez4, iz4, rz4, hf⟩ := cc_g_s hw hf
      refine cw_get (val := cR z4) B hw rz4 ⟨by decide, by decide⟩ (by decide) cwi_3 cfl_2_15 ez4 rfl dX2_judgeName_56 ?_
      refine cl_aload_n hx hb dX2_judgeName_59 rfl (lv_at hl.1 1 rfl) ?_
      obtain ⟨z5, ez5, iz5, rz5, hf⟩ := cc_g_s hw hf
      refine cw_get (val := .int (rI z5)) B hw rz5 ⟨by decide, by decide⟩ (by decide) cwi_7 cfl_2_123 ez5 rfl dX2_judgeName_60 ?_
      refine cl_aload_n hx hb dX2_judgeName_63 rfl (lv_at hl.1 1 rfl) ?_
      obtain ⟨z6, ez6, iz6, rz6, hf⟩ := cc_g_s hw hf
      refine cw_get (val := .int (rI z6)) B hw rz6 ⟨by decide, by decide⟩ (by decide) cwi_7 cfl_2_126 ez6 rfl dX2_judgeName_64 ?_
      obtain ⟨qσ7, hf⟩ := cc_t_s hf
      obtain ⟨σ7, kv8, z9, hσ7, hf⟩ := cc_cl_s hf
      obtain ⟨iz9, mσ7⟩ := hR 54 σ [z3, z4, z5, z6] σ7 kv8 z9 hσ7
      have mσ7 : cw_Met l v yX5_find cX5_find 5 (some .int) d [cR z3, cR z4, .int (rI z5), .int (rI z6)] σ σ7 kv8 (some (.int (rI z9))) := mσ7 iz3 iz4 iz5 iz6
      refine cw_cv (b := z3) (t := 6) (n := 3) (rest := []) (As := [cR z4, .int (rI z5), .int (rI z6)]) B mσ7 qσ7 ⟨by decide, by decide⟩ cgo_yX5_find cml_2_129 cin_yX5_find cse_yX5_find (by decide +kernel) (by decide) rfl hl.1.1 (Nat.le_of_ble_eq_true rfl) dX2_judgeName_67 rfl hw (fun h0 H locs cells slots hw => ?_) (fun h0 H locs cells slots q ce hw h1 h2 h3 => ?_)
      · rcases hf with ⟨-, hf⟩ | ⟨hk, -⟩
        · skip
          refine cl_istore_n (lv' := [(3, .int (rI z9)), (0, cR x0), (1, cR x1)]) hx hb dX2_judgeName_70 rfl hl (by decide) rfl (fun ls hl => ?_)
          refine lv_iload_n hx hb dX2_judgeName_71 rfl (lv_at hl.1 0 rfl) ?_
          refine lv_iconst (v := rI (-1)) hx hb dX2_judgeName_72 rfl ?_
          refine rn_icmp_eq (a := z9) (b := (-1)) (tgt := 102) hx hb iz9 ⟨by decide, by decide⟩ dX2_judgeName_73 (by decide) (fun c10 => ?_) (fun c10 => ?_)
          · replace hf := cc_if_t hf c10
            refine cl_aload_n hx hb dX2_judgeName_102 rfl (lv_at hl.1 1 rfl) ?_
            obtain ⟨z11, ez11, iz11, rz11, hf⟩ := cc_g_s hw hf
            refine cw_get (val := cR z11) B hw rz11 ⟨by decide, by decide⟩ (by decide) cwi_3 cfl_2_19 ez11 rfl dX2_judgeName_103 ?_
            obtain ⟨z12, ez12, iz12, rz12, hf⟩ := cc_g_s hw hf
            refine cw_get (val := cR z12) B hw rz12 ⟨by decide, by decide⟩ (by decide) cwi_1 cfl_2_142 ez12 rfl dX2_judgeName_106 ?_
            refine cl_aload_n hx hb dX2_judgeName_109 rfl (lv_at hl.1 1 rfl) ?_
            obtain ⟨z13, ez13, iz13, rz13, hf⟩ := cc_g_s hw hf
            refine cw_get (val := cR z13) B hw rz13 ⟨by decide, by decide⟩ (by decide) cwi_3 cfl_2_15 ez13 rfl dX2_judgeName_110 ?_
            refine cl_aload_n hx hb dX2_judgeName_113 rfl (lv_at hl.1 2 rfl) ?_
            obtain ⟨z14, ez14, iz14, rz14, hf⟩ := cc_g_s hw hf
            refine cw_get (val := .int (rI z14)) B hw rz14 ⟨by decide, by decide⟩ (by decide) cwi_7 cfl_2_123 ez14 rfl dX2_judgeName_114 ?_
            refine cl_aload_n hx hb dX2_judgeName_117 rfl (lv_at hl.1 2 rfl) ?_
            obtain ⟨z15, ez15, iz15, rz15, hf⟩ := cc_g_s hw hf
            refine cw_get (val := .int (rI z15)) B hw rz15 ⟨by decide, by decide⟩ (by decide) cwi_7 cfl_2_126 ez15 rfl dX2_judgeName_118 ?_
            obtain ⟨qσ16, hf⟩ := cc_t_s hf
            obtain ⟨σ16, kv17, z18, hσ16, hf⟩ := cc_cl_s hf
            obtain ⟨iz18, mσ16⟩ := hR 54 σ7 [z12, z13, z14, z15] σ16 kv17 z18 hσ16
            have mσ16 : cw_Met l v yX5_find cX5_find 5 (some .int) d [cR z12, cR z13, .int (rI z14), .int (rI z15)] σ7 σ16 kv17 (some (.int (rI z18))) := mσ16 iz12 iz13 iz14 iz15
            refine cw_cv (b := z12) (t := 6) (n := 3) (rest := []) (As := [cR z13, .int (rI z14), .int (rI z15)]) B mσ16 qσ16 ⟨by decide, by decide⟩ cgo_yX5_find cml_2_129 cin_yX5_find cse_yX5_find (by decide +kernel) (by decide) rfl hl.1.1 (Nat.le_of_ble_eq_true rfl) dX2_judgeName_121 rfl hw (fun h0 H locs cells slots hw => ?_) (fun h0 H locs cells slots q ce hw h1 h2 h3 => ?_)
            · rcases hf with ⟨-, hf⟩ | ⟨hk, -⟩
              · skip
                refine cl_istore (lv' := [(4, .int (rI z18)), (3, .int (rI z9)), (0, cR x0), (1, cR x1)]) hx hb dX2_judgeName_124 hl (by decide) rfl (fun ls hl => ?_)
                refine lv_iload hx hb dX2_judgeName_126 (lv_at hl.1 0 rfl) ?_
                refine lv_iconst (v := rI (-1)) hx hb dX2_judgeName_128 rfl ?_
                refine rn_icmp_ne (a := z18) (b := (-1)) (tgt := 152) hx hb iz18 ⟨by decide, by decide⟩ dX2_judgeName_129 (by decide) (fun c19 => ?_) (fun c19 => ?_)
                · replace hf := cc_if_t hf c19
                  refine cl_aload_n hx hb dX2_judgeName_152 rfl (lv_at hl.1 2 rfl) ?_
                  obtain ⟨z20, ez20, iz20, rz20, hf⟩ := cc_g_s hw hf
                  refine cw_get (val := cR z20) B hw rz20 ⟨by decide, by decide⟩ (by decide) cwi_3 cfl_2_19 ez20 rfl dX2_judgeName_153 ?_
                  refine lv_iload hx hb dX2_judgeName_156 (lv_at hl.1 0 rfl) ?_
                  obtain ⟨qσ21, hf⟩ := cc_t_s hf
                  obtain ⟨σ21, kv22, z23, hσ21, hf⟩ := cc_cl_s hf
                  obtain ⟨iz23, mσ21⟩ := hR 1 σ16 [z20, z18] σ21 kv22 z23 hσ21
                  have mσ21 : cw_Met l v yX0_axiomOf cX0_axiomOf 2 (some .int) d [cR z20, .int (rI z18)] σ16 σ21 kv22 (some (.int (rI z23))) := mσ21 iz20 iz18
                  refine cw_cv (b := z20) (t := 1) (n := 1) (rest := []) (As := [.int (rI z18)]) B mσ21 qσ21 ⟨by decide, by decide⟩ cgo_yX0_axiomOf cml_2_157 cin_yX0_axiomOf cse_yX0_axiomOf (by decide +kernel) (by decide) rfl hl.1.1 (Nat.le_of_ble_eq_true rfl) dX2_judgeName_158 rfl hw (fun h0 H locs cells slots hw => ?_) (fun h0 H locs cells slots q ce hw h1 h2 h3 => ?_)
                  · rcases hf with ⟨-, hf⟩ | ⟨hk, -⟩
                    · skip
                      refine cl_istore (lv' := [(5, .int (rI z23)), (4, .int (rI z18)), (3, .int (rI z9)), (0, cR x0), (1, cR x1)]) hx hb dX2_judgeName_161 hl (by decide) rfl (fun ls hl => ?_)
                      refine lv_iload hx hb dX2_judgeName_163 (lv_at hl.1 0 rfl) ?_
                      refine lv_iconst (v := rI (-1)) hx hb dX2_judgeName_165 rfl ?_
                      refine rn_icmp_ne (a := z23) (b := (-1)) (tgt := 190) hx hb iz23 ⟨by decide, by decide⟩ dX2_judgeName_166 (by decide) (fun c24 => ?_) (fun c24 => ?_)
                      · replace hf := cc_if_t hf c24
                        refine cl_aload_n hx hb dX2_judgeName_190 rfl (lv_at hl.1 3 rfl) ?_
                        refine cl_aload_n hx hb dX2_judgeName_191 rfl (lv_at hl.1 4 rfl) ?_
                        refine lv_iconst (v := rI 1) hx hb dX2_judgeName_192 rfl ?_
                        refine lv_iload hx hb dX2_judgeName_193 (lv_at hl.1 1 rfl) ?_
                        refine cl_aload_n hx hb dX2_judgeName_195 rfl (lv_at hl.1 3 rfl) ?_
                        obtain ⟨z25, ez25, iz25, rz25, hf⟩ := cc_g_s hw hf
                        refine cw_get (val := cR z25) B hw rz25 ⟨by decide, by decide⟩ (by decide) cwi_3 cfl_2_19 ez25 rfl dX2_judgeName_196 ?_
                        refine lv_iload hx hb dX2_judgeName_199 (lv_at hl.1 0 rfl) ?_
                        obtain ⟨qσ26, hf⟩ := cc_t_s hf
                        obtain ⟨σ26, kv27, z28, hσ26, hf⟩ := cc_cl_s hf
                        obtain ⟨iz28, mσ26⟩ := hR 1 σ21 [z25, z23] σ26 kv27 z28 hσ26
                        have mσ26 : cw_Met l v yX0_axiomOf cX0_axiomOf 2 (some .int) d [cR z25, .int (rI z23)] σ21 σ26 kv27 (some (.int (rI z28))) := mσ26 iz25 iz23
                        refine cw_cv (b := z25) (t := 1) (n := 1) (rest := [.int (rI z18), .int (rI 1), cR x1, cR x0]) (As := [.int (rI z23)]) B mσ26 qσ26 ⟨by decide, by decide⟩ cgo_yX0_axiomOf cml_2_157 cin_yX0_axiomOf cse_yX0_axiomOf (by decide +kernel) (by decide) rfl hl.1.1 (cl_cs (cl_1i (cl_1i (cl_1r (cl_1r cl_10)))) (Nat.le_of_ble_eq_true rfl)) dX2_judgeName_201 rfl hw (fun h0 H locs cells slots hw => ?_) (fun h0 H locs cells slots q ce hw h1 h2 h3 => ?_)
                        · rcases hf with ⟨-, hf⟩ | ⟨hk, -⟩
                          · skip
                            obtain ⟨qσ29, hf⟩ := cc_t_s hf
                            obtain ⟨σ29, kv30, z31, hσ29, hf⟩ := cc_cl_s hf
                            obtain ⟨iz31, mσ29⟩ := hR 20 σ26 [x0, x1, 1, z18, z28] σ29 kv30 z31 hσ29
                            have mσ29 : cw_Met l v yX2_resolve cX2_resolve 5 none d [cR x0, cR x1, .int (rI 1), .int (rI z18), .int (rI z28)] σ26 σ29 kv30 none := mσ29 ix0 ix1 ⟨by decide, by decide⟩ iz18 iz28
                            refine cw_cv (b := x0) (t := 3) (n := 4) (rest := []) (As := [cR x1, .int (rI 1), .int (rI z18), .int (rI z28)]) B mσ29 qσ29 ⟨by decide, by decide⟩ cgo_yX2_resolve cml_2_106 cin_yX2_resolve cse_yX2_resolve (by decide +kernel) (by decide) rfl hl.1.1 (Nat.le_of_ble_eq_true rfl) dX2_judgeName_204 rfl hw (fun h0 H locs cells slots hw => ?_) (fun h0 H locs cells slots q ce hw h1 h2 h3 => ?_)
                            · rcases hf with ⟨-, hf⟩ | ⟨hk, -⟩
                              · skip
                                refine lv_iconst (v := rI 1) hx hb dX2_judgeName_207 rfl ?_
                                refine lv_iload hx hb dX2_judgeName_208 (lv_at hl.1 0 rfl) ?_
                                obtain ⟨σ32, kv33, z34, hσ32, hf⟩ := cc_cl_s hf
                                obtain ⟨iz34, mσ32⟩ := hR 62 σ29 [1, z23] σ32 kv33 z34 hσ32
                                have mσ32 : cw_Met l v yX6_leaf cX6_leaf 2 (some (.object "PureHouse$Node")) d [.int (rI 1), .int (rI z23)] σ29 σ32 kv33 (some (cR z34)) := mσ32 ⟨by decide, by decide⟩ iz23
                                refine cw_cs (n := 2) (rest := []) (As := [.int (rI 1), .int (rI z23)]) B mσ32 cgo_yX6_leaf cml_2_161 cst_yX6_leaf (by decide +kernel) (by decide) rfl hl.1.1 (Nat.le_of_ble_eq_true rfl) dX2_judgeName_210 rfl hw (fun h0 H locs cells slots hw => ?_) (fun h0 H locs cells slots q ce hw h1 h2 h3 => ?_)
                                · rcases hf with ⟨-, hf⟩ | ⟨hk, -⟩
                                  · skip
                                    exact cw_reta B hf hw dX2_judgeName_213
                                  · exact absurd h0 hk
                                · rcases hf with ⟨hk, -⟩ | ⟨-, hf⟩
                                  · exact absurd hk h0
                                  · cases hf
                                    exact cw_xout B hnh h0 hw h1 h2 h3
                              · exact absurd h0 hk
                            · rcases hf with ⟨hk, -⟩ | ⟨-, hf⟩
                              · exact absurd hk h0
                              · cases hf
                                exact cw_xout B hnh h0 hw h1 h2 h3
                          · exact absurd h0 hk
                        · rcases hf with ⟨hk, -⟩ | ⟨-, hf⟩
                          · exact absurd hk h0
                          · cases hf
                            exact cw_xout B hnh h0 hw h1 h2 h3
                      · replace hf := cc_if_f hf c24
                        refine cl_aload_n hx hb dX2_judgeName_169 rfl (lv_at hl.1 3 rfl) ?_
                        obtain ⟨z35, ez35, iz35, rz35, hf⟩ := cc_g_s hw hf
                        refine cw_get (val := cR z35) B hw rz35 ⟨by decide, by decide⟩ (by decide) cwi_3 cfl_2_27 ez35 rfl dX2_judgeName_170 ?_
                        refine lv_bipush (v := rI 7) hx hb dX2_judgeName_173 (by decide +kernel) ?_
                        refine cl_aload_n hx hb dX2_judgeName_175 rfl (lv_at hl.1 4 rfl) ?_
                        obtain ⟨z36, ez36, iz36, rz36, hf⟩ := cc_g_s hw hf
                        refine cw_get (val := .int (rI z36)) B hw rz36 ⟨by decide, by decide⟩ (by decide) cwi_7 cfl_2_145 ez36 rfl dX2_judgeName_176 ?_
                        obtain ⟨qσ37, hf⟩ := cc_t_s hf
                        obtain ⟨σ37, kv38, z39, hσ37, hf⟩ := cc_cl_s hf
                        obtain ⟨iz39, mσ37⟩ := hR 95 σ21 [z35, 7, z36] σ37 kv38 z39 hσ37
                        have mσ37 : cw_Met l v yX10_set cX10_set 3 none d [cR z35, .int (rI 7), .int (rI z36)] σ21 σ37 kv38 none := mσ37 iz35 ⟨by decide, by decide⟩ iz36
                        refine cw_cv (b := z35) (t := 11) (n := 2) (rest := []) (As := [.int (rI 7), .int (rI z36)]) B mσ37 qσ37 ⟨by decide, by decide⟩ cgo_yX10_set cml_2_148 cin_yX10_set cse_yX10_set (by decide +kernel) (by decide) rfl hl.1.1 (Nat.le_of_ble_eq_true rfl) dX2_judgeName_179 rfl hw (fun h0 H locs cells slots hw => ?_) (fun h0 H locs cells slots q ce hw h1 h2 h3 => ?_)
                        · rcases hf with ⟨-, hf⟩ | ⟨hk, -⟩
                          · skip
                            obtain ⟨hy, hm⟩ := cc_x_s hf
                            obtain ⟨hy1, hy2⟩ := Prod.mk.inj hy
                            obtain ⟨hy2, hy3⟩ := Prod.mk.inj hy2
                            subst hy2
                            refine cw_throw (rest := []) B hnh htr hw (by decide) (by decide +kernel) cxc_2_154 cxi_1 (cw_hat cxa_2_156 (by decide +kernel) hts hK.1) (List.all_eq_true.mp cxg_2_156) hd5 hm hy1 hl.1.1 (Nat.le_of_ble_eq_true rfl) dX2_judgeName_182 dX2_judgeName_185 dX2_judgeName_186 dX2_judgeName_189
                          · exact absurd h0 hk
                        · rcases hf with ⟨hk, -⟩ | ⟨-, hf⟩
                          · exact absurd hk h0
                          · cases hf
                            exact cw_xout B hnh h0 hw h1 h2 h3
                    · exact absurd h0 hk
                  · rcases hf with ⟨hk, -⟩ | ⟨-, hf⟩
                    · exact absurd hk h0
                    · cases hf
                      exact cw_xout B hnh h0 hw h1 h2 h3
                · replace hf := cc_if_f hf c19
                  refine cl_aload_n hx hb dX2_judgeName_132 rfl (lv_at hl.1 2 rfl) ?_
                  obtain ⟨z40, ez40, iz40, rz40, hf⟩ := cc_g_s hw hf
                  refine cw_get (val := cR z40) B hw rz40 ⟨by decide, by decide⟩ (by decide) cwi_3 cfl_2_27 ez40 rfl dX2_judgeName_133 ?_
                  refine lv_iconst (v := rI 3) hx hb dX2_judgeName_136 rfl ?_
                  refine cl_aload_n hx hb dX2_judgeName_137 rfl (lv_at hl.1 3 rfl) ?_
                  obtain ⟨z41, ez41, iz41, rz41, hf⟩ := cc_g_s hw hf
                  refine cw_get (val := .int (rI z41)) B hw rz41 ⟨by decide, by decide⟩ (by decide) cwi_7 cfl_2_145 ez41 rfl dX2_judgeName_138 ?_
                  obtain ⟨qσ42, hf⟩ := cc_t_s hf
                  obtain ⟨σ42, kv43, z44, hσ42, hf⟩ := cc_cl_s hf
                  obtain ⟨iz44, mσ42⟩ := hR 95 σ16 [z40, 3, z41] σ42 kv43 z44 hσ42
                  have mσ42 : cw_Met l v yX10_set cX10_set 3 none d [cR z40, .int (rI 3), .int (rI z41)] σ16 σ42 kv43 none := mσ42 iz40 ⟨by decide, by decide⟩ iz41
                  refine cw_cv (b := z40) (t := 11) (n := 2) (rest := []) (As := [.int (rI 3), .int (rI z41)]) B mσ42 qσ42 ⟨by decide, by decide⟩ cgo_yX10_set cml_2_148 cin_yX10_set cse_yX10_set (by decide +kernel) (by decide) rfl hl.1.1 (Nat.le_of_ble_eq_true rfl) dX2_judgeName_141 rfl hw (fun h0 H locs cells slots hw => ?_) (fun h0 H locs cells slots q ce hw h1 h2 h3 => ?_)
                  · rcases hf with ⟨-, hf⟩ | ⟨hk, -⟩
                    · skip
                      obtain ⟨hy, hm⟩ := cc_x_s hf
                      obtain ⟨hy1, hy2⟩ := Prod.mk.inj hy
                      obtain ⟨hy2, hy3⟩ := Prod.mk.inj hy2
                      subst hy2
                      refine cw_throw (rest := []) B hnh htr hw (by decide) (by decide +kernel) cxc_2_154 cxi_1 (cw_hat cxa_2_156 (by decide +kernel) hts hK.1) (List.all_eq_true.mp cxg_2_156) hd5 hm hy1 hl.1.1 (Nat.le_of_ble_eq_true rfl) dX2_judgeName_144 dX2_judgeName_147 dX2_judgeName_148 dX2_judgeName_151
                    · exact absurd h0 hk
                  · rcases hf with ⟨hk, -⟩ | ⟨-, hf⟩
                    · exact absurd hk h0
                    · cases hf
                      exact cw_xout B hnh h0 hw h1 h2 h3
              · exact absurd h0 hk
            · rcases hf with ⟨hk, -⟩ | ⟨-, hf⟩
              · exact absurd hk h0
              · cases hf
                exact cw_xout B hnh h0 hw h1 h2 h3
          · replace hf := cc_if_f hf c10
            refine cl_aload_n hx hb dX2_judgeName_76 rfl (lv_at hl.1 1 rfl) ?_
            refine cl_aload_n hx hb dX2_judgeName_77 rfl (lv_at hl.1 2 rfl) ?_
            refine lv_iconst (v := rI 2) hx hb dX2_judgeName_78 rfl ?_
            refine lv_iload_n hx hb dX2_judgeName_79 rfl (lv_at hl.1 0 rfl) ?_
            refine cl_aload_n hx hb dX2_judgeName_80 rfl (lv_at hl.1 1 rfl) ?_
            obtain ⟨z45, ez45, iz45, rz45, hf⟩ := cc_g_s hw hf
            refine cw_get (val := cR z45) B hw rz45 ⟨by decide, by decide⟩ (by decide) cwi_3 cfl_2_19 ez45 rfl dX2_judgeName_81 ?_
            obtain ⟨z46, ez46, iz46, rz46, hf⟩ := cc_g_s hw hf
            refine cw_get (val := cR z46) B hw rz46 ⟨by decide, by decide⟩ (by decide) cwi_1 cfl_2_135 ez46 rfl dX2_judgeName_84 ?_
            refine lv_iload_n hx hb dX2_judgeName_87 rfl (lv_at hl.1 0 rfl) ?_
            obtain ⟨z47, ez47, iz47, rz47, bz47, hf⟩ := cc_r_s hw hf
            refine cw_aldI B hw rz47 iz9 bz47 ez47 dX2_judgeName_88 ?_
            obtain ⟨qσ48, hf⟩ := cc_t_s hf
            obtain ⟨σ48, kv49, z50, hσ48, hf⟩ := cc_cl_s hf
            obtain ⟨iz50, mσ48⟩ := hR 20 σ7 [x0, x1, 2, z9, z47] σ48 kv49 z50 hσ48
            have mσ48 : cw_Met l v yX2_resolve cX2_resolve 5 none d [cR x0, cR x1, .int (rI 2), .int (rI z9), .int (rI z47)] σ7 σ48 kv49 none := mσ48 ix0 ix1 ⟨by decide, by decide⟩ iz9 iz47
            refine cw_cv (b := x0) (t := 3) (n := 4) (rest := []) (As := [cR x1, .int (rI 2), .int (rI z9), .int (rI z47)]) B mσ48 qσ48 ⟨by decide, by decide⟩ cgo_yX2_resolve cml_2_106 cin_yX2_resolve cse_yX2_resolve (by decide +kernel) (by decide) rfl hl.1.1 (Nat.le_of_ble_eq_true rfl) dX2_judgeName_89 rfl hw (fun h0 H locs cells slots hw => ?_) (fun h0 H locs cells slots q ce hw h1 h2 h3 => ?_)
            · rcases hf with ⟨-, hf⟩ | ⟨hk, -⟩
              · skip
                refine cl_aload_n hx hb dX2_judgeName_92 rfl (lv_at hl.1 1 rfl) ?_
                obtain ⟨z51, ez51, iz51, rz51, hf⟩ := cc_g_s hw hf
                refine cw_get (val := cR z51) B hw rz51 ⟨by decide, by decide⟩ (by decide) cwi_3 cfl_2_19 ez51 rfl dX2_judgeName_93 ?_
                obtain ⟨z52, ez52, iz52, rz52, hf⟩ := cc_g_s hw hf
                refine cw_get (val := cR z52) B hw rz52 ⟨by decide, by decide⟩ (by decide) cwi_1 cfl_2_139 ez52 rfl dX2_judgeName_96 ?_
                refine lv_iload_n hx hb dX2_judgeName_99 rfl (lv_at hl.1 0 rfl) ?_
                obtain ⟨z53, ez53, iz53, rz53, bz53, hf⟩ := cc_r_s hw hf
                refine cw_aldR B hw rz53 iz9 bz53 ez53 dX2_judgeName_100 ?_
                exact cw_reta B hf hw dX2_judgeName_101
              · exact absurd h0 hk
            · rcases hf with ⟨hk, -⟩ | ⟨-, hf⟩
              · exact absurd hk h0
              · cases hf
                exact cw_xout B hnh h0 hw h1 h2 h3
        · exact absurd h0 hk
      · rcases hf with ⟨hk, -⟩ | ⟨-, hf⟩
        · exact absurd hk h0
        · cases hf
          exact cw_xout B hnh h0 hw h1 h2 h3
    · replace hf := cc_if_f hf c1
      refine cl_aload_n hx hb dX2_judgeName_6 rfl (lv_at hl.1 0 rfl) ?_
      refine cl_aload_n hx hb dX2_judgeName_7 rfl (lv_at hl.1 2 rfl) ?_
      obtain ⟨z54, ez54, iz54, rz54, hf⟩ := cc_g_s hw hf
      refine cw_get (val := cR z54) B hw rz54 ⟨by decide, by decide⟩ (by decide) cwi_9 cfl_2_93 ez54 rfl dX2_judgeName_8 ?_
      refine cl_aload_n hx hb dX2_judgeName_11 rfl (lv_at hl.1 1 rfl) ?_
      obtain ⟨qσ55, hf⟩ := cc_t_s hf
      obtain ⟨σ55, kv56, z57, hσ55, hf⟩ := cc_cl_s hf
      obtain ⟨iz57, mσ55⟩ := hR 13 σ [x0, z54, x1] σ55 kv56 z57 hσ55
      have mσ55 : cw_Met l v yX2_isNameOf cX2_isNameOf 3 (some .boolean) d [cR x0, cR z54, cR x1] σ σ55 kv56 (some (.int (rI z57))) := mσ55 ix0 iz54 ix1
      refine cw_cv (b := x0) (t := 3) (n := 2) (rest := []) (As := [cR z54, cR x1]) B mσ55 qσ55 ⟨by decide, by decide⟩ cgo_yX2_isNameOf cml_2_96 cin_yX2_isNameOf cse_yX2_isNameOf (by decide +kernel) (by decide) rfl hl.1.1 (Nat.le_of_ble_eq_true rfl) dX2_judgeName_12 rfl hw (fun h0 H locs cells slots hw => ?_) (fun h0 H locs cells slots q ce hw h1 h2 h3 => ?_)
      · rcases hf with ⟨-, hf⟩ | ⟨hk, -⟩
        · skip
          refine rn_if_eq (a := z57) (tgt := 40) hx hb iz57 dX2_judgeName_15 (by decide) (fun c58 => ?_) (fun c58 => ?_)
          · replace hf := cc_if_t hf c58
            refine cl_aload_n hx hb dX2_judgeName_40 rfl (lv_at hl.1 2 rfl) ?_
            obtain ⟨z59, ez59, iz59, rz59, hf⟩ := cc_g_s hw hf
            refine cw_get (val := cR z59) B hw rz59 ⟨by decide, by decide⟩ (by decide) cwi_9 cfl_2_113 ez59 rfl dX2_judgeName_41 ?_
            refine cl_astore_n (lv' := [(3, cR z59), (0, cR x0), (1, cR x1)]) hx hb dX2_judgeName_44 rfl hl (by decide) rfl (fun ls hl => ?_)
            refine lv_goto (tgt := 2) hx hb dX2_judgeName_45 (by decide) ?_
            exact ih σ55 x0 x1 z59 ix0 ix1 iz59 hf _ _ _ _ _ hw (cl_sub hl [1, 2, 0] rfl)
          · replace hf := cc_if_f hf c58
            refine cl_aload_n hx hb dX2_judgeName_18 rfl (lv_at hl.1 0 rfl) ?_
            refine cl_aload_n hx hb dX2_judgeName_19 rfl (lv_at hl.1 1 rfl) ?_
            refine lv_iconst (v := rI 3) hx hb dX2_judgeName_20 rfl ?_
            refine cl_aload_n hx hb dX2_judgeName_21 rfl (lv_at hl.1 2 rfl) ?_
            obtain ⟨z60, ez60, iz60, rz60, hf⟩ := cc_g_s hw hf
            refine cw_get (val := cR z60) B hw rz60 ⟨by decide, by decide⟩ (by decide) cwi_9 cfl_2_93 ez60 rfl dX2_judgeName_22 ?_
            obtain ⟨z61, ez61, iz61, rz61, hf⟩ := cc_g_s hw hf
            refine cw_get (val := .int (rI z61)) B hw rz61 ⟨by decide, by decide⟩ (by decide) cwi_7 cfl_2_100 ez61 rfl dX2_judgeName_25 ?_
            refine cl_aload_n hx hb dX2_judgeName_28 rfl (lv_at hl.1 2 rfl) ?_
            obtain ⟨z62, ez62, iz62, rz62, hf⟩ := cc_g_s hw hf
            refine cw_get (val := .int (rI z62)) B hw rz62 ⟨by decide, by decide⟩ (by decide) cwi_9 cfl_2_103 ez62 rfl dX2_judgeName_29 ?_
            obtain ⟨qσ63, hf⟩ := cc_t_s hf
            obtain ⟨σ63, kv64, z65, hσ63, hf⟩ := cc_cl_s hf
            obtain ⟨iz65, mσ63⟩ := hR 20 σ55 [x0, x1, 3, z61, z62] σ63 kv64 z65 hσ63
            have mσ63 : cw_Met l v yX2_resolve cX2_resolve 5 none d [cR x0, cR x1, .int (rI 3), .int (rI z61), .int (rI z62)] σ55 σ63 kv64 none := mσ63 ix0 ix1 ⟨by decide, by decide⟩ iz61 iz62
            refine cw_cv (b := x0) (t := 3) (n := 4) (rest := []) (As := [cR x1, .int (rI 3), .int (rI z61), .int (rI z62)]) B mσ63 qσ63 ⟨by decide, by decide⟩ cgo_yX2_resolve cml_2_106 cin_yX2_resolve cse_yX2_resolve (by decide +kernel) (by decide) rfl hl.1.1 (Nat.le_of_ble_eq_true rfl) dX2_judgeName_32 rfl hw (fun h0 H locs cells slots hw => ?_) (fun h0 H locs cells slots q ce hw h1 h2 h3 => ?_)
            · rcases hf with ⟨-, hf⟩ | ⟨hk, -⟩
              · skip
                refine cl_aload_n hx hb dX2_judgeName_35 rfl (lv_at hl.1 2 rfl) ?_
                obtain ⟨z66, ez66, iz66, rz66, hf⟩ := cc_g_s hw hf
                refine cw_get (val := cR z66) B hw rz66 ⟨by decide, by decide⟩ (by decide) cwi_9 cfl_2_110 ez66 rfl dX2_judgeName_36 ?_
                exact cw_reta B hf hw dX2_judgeName_39
              · exact absurd h0 hk
            · rcases hf with ⟨hk, -⟩ | ⟨-, hf⟩
              · exact absurd hk h0
              · cases hf
                exact cw_xout B hnh h0 hw h1 h2 h3
        · exact absurd h0 hk
      · rcases hf with ⟨hk, -⟩ | ⟨-, hf⟩
        · exact absurd hk h0
        · cases hf
          exact cw_xout B hnh h0 hw h1 h2 h3

