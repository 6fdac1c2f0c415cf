set_option maxHeartbeats 4000000 in
set_option maxRecDepth 100000 in
theorem pm_X4_normalize {v : cwE} {bd : cBd} {l : Launch} {d : Nat} {rec : Nat → CS → List Int → CO} (hbd : bd = cw_bd v) (hR : cw_Rec l v d rec) (htr : l.stackTraces = false) (hd5 : 5 ≤ d) (σ σ' : CS) (x0 x1 x2 x3 x4 : Int) (kd : Nat) (r : Int) (ix0 : inR x0) (ix1 : inR x1) (ix2 : inR x2) (ix3 : inR x3) (ix4 : inR x4) (hf : pc_X4_normalize_0 rec bd σ x0 x1 x2 x3 x4 = some (σ', kd, r)) : cw_Met l v yX4_normalize cX4_normalize 11 (some (.object "PureHouse$Node")) (d + 1) [cR x0, cR x1, cR x2, .int (rI x3), .int (rI x4)] σ σ' kd (some (cR r)) := by
  refine cw_ofW (by decide +kernel) ?_
  intro p e s m args below meth c s₁ B hml hv
  obtain ⟨rfl, hM, hK⟩ := hv
  have hts := atoms_spec (ws := Cond.code yX4_normalize cX4_normalize 11 (some (.object "PureHouse$Node")) :: cw_bw) B.pre
  have hB : cw_B v RX4 p s m _ meth c cX4_normalize 11 (some (.object "PureHouse$Node")) := ⟨B.exec, B.bytes, B.returns, hml, findClass_of_methodNamed B.named, fun w h => hts w (List.mem_cons_of_mem _ h), B.notSynchronized, hK⟩
  have hnh := cc_nh B (hts _ List.mem_cons_self)
  rw [lg_entry_eq]
  obtain ⟨ls, hls, hl⟩ := cl_ent [cR x0, cR x1, cR x2, .int (rI x3), .int (rI x4)] 11 (cl_1r (cl_1r (cl_1r (cl_1i (cl_1i cl_10))))) (Nat.le_of_ble_eq_true rfl)
  rw [hls]
  exact pw_X4_normalize_0 hbd hR htr hd5 hB hnh σ x0 x1 x2 x3 x4 ix0 ix1 ix2 ix3 ix4 hf _ _ _ _ _ (cw_W0 hM) (cl_sub hl [0, 1, 2, 3, 4] rfl)

set_option maxHeartbeats 4000000 in
set_option maxRecDepth 100000 in
theorem pw_X4_putAnswer_14 {v : cwE} {bd : cBd} {p : Program} {l : Launch} {e : Env} {s : State} {m : MethodId} {args : Array Value} {below : List Frame} {meth : Method} {c : Code} {d : Nat} {rec : Nat → CS → List Int → CO} {σ0 σ' : CS} {kd : Nat} {r : Int} (hbd : bd = cw_bd v) (hR : cw_Rec l v d rec) (htr : l.stackTraces = false) (hd5 : 5 ≤ d) (B : cw_B v RX4 p s m args meth c cX4_putAnswer 4 none) (hnh : ∀ x ∈ c.exceptionTable.toList, False) : ∀ (n : Nat) (σ : CS) (x0 x2 x3 : Int), inR x0 → inR x2 → inR x3 → pc_X4_putAnswer_14 rec bd n σ x0 x2 x3 = some (σ', kd, r) → ∀ (H : Heap) (locs : List Loc) (cells slots : Nat) (ls : Array Slot), cw_W v s σ0 σ H locs cells slots → cl_has ls 4 [(0, cR x0), (2, cR x2), (3, .int (rI x3))] → W p l e (cw_rm v (d + 1) σ0) s m args below meth c H locs cells slots (cw_Z below v σ0 σ' kd none args s) (F0 m 14 ls []) := by
  subst hbd
  obtain ⟨hx, hb, hr, hml, hown, hts, hlk, hK⟩ := id B
  intro n
  induction n with
  | zero => intro σ x0 x2 x3 ix0 ix2 ix3 hf; cases hf
  | succ n ih =>
    intro σ x0 x2 x3 ix0 ix2 ix3 hf H locs cells slots ls hw hl
    unfold pc_X4_putAnswer_14 at hf
    refine lv_iload_n hx hb dX4_putAnswer_14 rfl (lv_at hl.1 2 rfl) ?_
    refine cl_aload_n hx hb dX4_putAnswer_15 rfl (lv_at hl.1 1 rfl) ?_
    obtain ⟨z1, iz1, mz1, hf⟩ := cc_sn_s (l := l) (d := d) hd5 hK hf
    refine cw_cstr (n := 0) (rest := [.int (rI x3)]) (As := []) B mz1 cgj_length cjl_X4_208 cji_length cjs_length (by decide +kernel) (by decide) rfl hl.1.1 (Nat.le_of_ble_eq_true rfl) dX4_putAnswer_16 rfl hw ?_
    refine rn_icmp_ge (a := x3) (b := z1) (tgt := 37) hx hb ix3 iz1 dX4_putAnswer_19 (by decide) (fun c2 => ?_) (fun c2 => ?_)
    · replace hf := cc_if_t hf c2
      refine cl_aload_n hx hb dX4_putAnswer_37 rfl (lv_at hl.1 0 rfl) ?_
      refine lv_bipush (v := rI 10) hx hb dX4_putAnswer_38 (by decide +kernel) ?_
      obtain ⟨qσ3, hf⟩ := cc_t_s hf
      obtain ⟨σ3, kv4, z5, hσ3, hf⟩ := cc_cl_s hf
      obtain ⟨iz5, mσ3⟩ := hR 90 σ [x0, 10] σ3 kv4 z5 hσ3
      have mσ3 : cw_Met l v yX4_put cX4_put 2 none d [cR x0, .int (rI 10)] σ σ3 kv4 none := mσ3 ix0 ⟨by decide, by decide⟩
      refine cw_cv (b := x0) (t := 5) (n := 1) (rest := []) (As := [.int (rI 10)]) B mσ3 qσ3 ⟨by decide, by decide⟩ cgo_yX4_put cml_X4_60 cin_yX4_put cse_yX4_put (by decide +kernel) (by decide) rfl hl.1.1 (Nat.le_of_ble_eq_true rfl) dX4_putAnswer_40 rfl hw (fun h0 H locs cells slots hw => ?_) (fun h0 H locs cells slots q ce hw h1 h2 h3 => ?_)
      · rcases hf with ⟨-, hf⟩ | ⟨hk, -⟩
        · skip
          exact cw_retv B hf hw dX4_putAnswer_43
        · exact absurd h0 hk
      · rcases hf with ⟨hk, -⟩ | ⟨-, hf⟩
        · exact absurd hk h0
        · cases hf
          exact cw_xout B hnh h0 hw h1 h2 h3
    · replace hf := cc_if_f hf c2
      refine cl_aload_n hx hb dX4_putAnswer_22 rfl (lv_at hl.1 0 rfl) ?_
      refine cl_aload_n hx hb dX4_putAnswer_23 rfl (lv_at hl.1 1 rfl) ?_
      refine lv_iload_n hx hb dX4_putAnswer_24 rfl (lv_at hl.1 2 rfl) ?_
      obtain ⟨z6, iz6, mz6, hf⟩ := cc_sc_s (l := l) (d := d) hd5 hK hf
      refine cw_cstr (n := 1) (rest := [cR x0]) (As := [.int (rI x3)]) B mz6 cgj_charAt cjl_X4_214 cji_charAt cjs_charAt (by decide +kernel) (by decide) rfl hl.1.1 (cl_cs (cl_1r cl_10) (Nat.le_of_ble_eq_true rfl)) dX4_putAnswer_25 rfl hw ?_
      obtain ⟨qσ7, hf⟩ := cc_t_s hf
      obtain ⟨σ7, kv8, z9, hσ7, hf⟩ := cc_cl_s hf
      obtain ⟨iz9, mσ7⟩ := hR 90 σ [x0, z6] σ7 kv8 z9 hσ7
      have mσ7 : cw_Met l v yX4_put cX4_put 2 none d [cR x0, .int (rI z6)] σ σ7 kv8 none := mσ7 ix0 iz6
      refine cw_cv (b := x0) (t := 5) (n := 1) (rest := []) (As := [.int (rI z6)]) B mσ7 qσ7 ⟨by decide, by decide⟩ cgo_yX4_put cml_X4_60 cin_yX4_put cse_yX4_put (by decide +kernel) (by decide) rfl hl.1.1 (Nat.le_of_ble_eq_true rfl) dX4_putAnswer_28 rfl hw (fun h0 H locs cells slots hw => ?_) (fun h0 H locs cells slots q ce hw h1 h2 h3 => ?_)
      · rcases hf with ⟨-, hf⟩ | ⟨hk, -⟩
        · skip
          obtain ⟨z10, ez10, iz10, hf⟩ := cc_ck_s hf
          refine cl_iinc (v := rI z10) (lv' := [(3, .int (rI z10)), (0, cR x0), (2, cR x2)]) hx hb dX4_putAnswer_31 hl (k := 2) rfl (by rw [ez10]; exact rI_add _ _) (by decide) rfl (fun ls hl => ?_)
          refine lv_goto (tgt := 14) hx hb dX4_putAnswer_34 (by decide) ?_
          exact ih σ7 x0 x2 z10 ix0 ix2 iz10 hf _ _ _ _ _ hw (cl_sub hl [1, 2, 0] rfl)
        · exact absurd h0 hk
      · rcases hf with ⟨hk, -⟩ | ⟨-, hf⟩
        · exact absurd hk h0
        · cases hf
          exact cw_xout B hnh h0 hw h1 h2 h3

set_option maxHeartbeats 4000000 in
set_option maxRecDepth 100000 in
theorem pw_X4_putAnswer_11 {v : cwE} {bd : cBd} {p : Program} {l : Launch} {e : Env} {s : State} {m : MethodId} {args : Array Value} {below : List Frame} {meth : Method} {c : Code} {d : Nat} {rec : Nat → CS → List Int → CO} {σ0 σ' : CS} {kd : Nat} {r : Int} (hbd : bd = cw_bd v) (hR : cw_Rec l v d rec) (htr : l.stackTraces = false) (hd5 : 5 ≤ d) (B : cw_B v RX4 p s m args meth c cX4_putAnswer 4 none) (hnh : ∀ x ∈ c.exceptionTable.toList, False) : ∀ (σ : CS) (x0 t0 : Int), inR x0 → inR t0 → pc_X4_putAnswer_11 rec bd σ x0 t0 = some (σ', kd, r) → ∀ (H : Heap) (locs : List Loc) (cells slots : Nat) (ls : Array Slot), cw_W v s σ0 σ H locs cells slots → cl_has ls 4 [(0, cR x0)] → W p l e (cw_rm v (d + 1) σ0) s m args below meth c H locs cells slots (cw_Z below v σ0 σ' kd none args s) (F0 m 11 ls [cR t0]) := by
  subst hbd
  obtain ⟨hx, hb, hr, hml, hown, hts, hlk, hK⟩ := id B
  intro σ x0 t0 ix0 it0 hf H locs cells slots ls hw hl
  unfold pc_X4_putAnswer_11 at hf
  refine cl_astore_n (lv' := [(2, cR t0), (0, cR x0)]) hx hb dX4_putAnswer_11 rfl hl (by decide) rfl (fun ls hl => ?_)
  refine lv_iconst (v := rI 0) hx hb dX4_putAnswer_12 rfl ?_
  refine cl_istore_n (lv' := [(3, .int (rI 0)), (2, cR t0), (0, cR x0)]) hx hb dX4_putAnswer_13 rfl hl (by decide) rfl (fun ls hl => ?_)
  exact pw_X4_putAnswer_14 rfl hR htr hd5 B hnh 2000000 σ x0 t0 0 ix0 it0 ⟨by decide, by decide⟩ hf _ _ _ _ _ hw (cl_sub hl [2, 1, 0] rfl)

set_option maxHeartbeats 4000000 in
set_option maxRecDepth 100000 in
theorem pw_X4_putAnswer_0 {v : cwE} {bd : cBd} {p : Program} {l : Launch} {e : Env} {s : State} {m : MethodId} {args : Array Value} {below : List Frame} {meth : Method} {c : Code} {d : Nat} {rec : Nat → CS → List Int → CO} {σ0 σ' : CS} {kd : Nat} {r : Int} (hbd : bd = cw_bd v) (hR : cw_Rec l v d rec) (htr : l.stackTraces = false) (hd5 : 5 ≤ d) (B : cw_B v RX4 p s m args meth c cX4_putAnswer 4 none) (hnh : ∀ x ∈ c.exceptionTable.toList, False) : ∀ (σ : CS) (x0 x1 : Int), inR x0 → inR x1 → pc_X4_putAnswer_0 rec bd σ x0 x1 = some (σ', kd, r) → ∀ (H : Heap) (locs : List Loc) (cells slots : Nat) (ls : Array Slot), cw_W v s σ0 σ H locs cells slots → cl_has ls 4 [(0, cR x0), (1, .int (rI x1))] → W p l e (cw_rm v (d + 1) σ0) s m args below meth c H locs cells slots (cw_Z below v σ0 σ' kd none args s) (F0 m 0 ls []) := by
  subst hbd
  obtain ⟨hx, hb, hr, hml, hown, hts, hlk, hK⟩ := id B
  intro σ x0 x1 ix0 ix1 hf H locs cells slots ls hw hl
  unfold pc_X4_putAnswer_0 at hf
  refine lv_iload_n hx hb dX4_putAnswer_0 rfl (lv_at hl.1 1 rfl) ?_
  refine rn_if_eq (a := x1) (tgt := 9) hx hb ix1 dX4_putAnswer_1 (by decide) (fun c1 => ?_) (fun c1 => ?_)
  · replace hf := cc_if_t hf c1
    obtain ⟨z2, ez2, iz2, hf⟩ := cc_gs_s hf
    refine cw_ldcs B (cw_str_X4_206 hK) ez2 dX4_putAnswer_9 ?_
    exact pw_X4_putAnswer_11 rfl hR htr hd5 B hnh σ x0 z2 ix0 iz2 hf _ _ _ _ _ hw (cl_sub hl [0] rfl)
  · replace hf := cc_if_f hf c1
    obtain ⟨z3, ez3, iz3, hf⟩ := cc_gs_s hf
    refine cw_ldcs B (cw_str_X4_204 hK) ez3 dX4_putAnswer_4 ?_
    refine lv_goto (tgt := 11) hx hb dX4_putAnswer_6 (by decide) ?_
    exact pw_X4_putAnswer_11 rfl hR htr hd5 B hnh σ x0 z3 ix0 iz3 hf _ _ _ _ _ hw (cl_sub hl [0] rfl)

set_option maxHeartbeats 4000000 in
set_option maxRecDepth 100000 in
theorem pm_X4_putAnswer {v : cwE} {bd : cBd} {l : Launch} {d : Nat} {rec : Nat → CS → List Int → CO} (hbd : bd = cw_bd v) (hR : cw_Rec l v d rec) (htr : l.stackTraces = false) (hd5 : 5 ≤ d) (σ σ' : CS) (x0 x1 : Int) (kd : Nat) (r : Int) (ix0 : inR x0) (ix1 : inR x1) (hf : pc_X4_putAnswer_0 rec bd σ x0 x1 = some (σ', kd, r)) : cw_Met l v yX4_putAnswer cX4_putAnswer 4 none (d + 1) [cR x0, .int (rI x1)] σ σ' kd none := by
  refine cw_ofW (by decide +kernel) ?_
  intro p e s m args below meth c s₁ B hml hv
  obtain ⟨rfl, hM, hK⟩ := hv
  have hts := atoms_spec (ws := Cond.code yX4_putAnswer cX4_putAnswer 4 none :: cw_bw) B.pre
  have hB : cw_B v RX4 p s m _ meth c cX4_putAnswer 4 none := ⟨B.exec, B.bytes, B.returns, hml, findClass_of_methodNamed B.named, fun w h => hts w (List.mem_cons_of_mem _ h), B.notSynchronized, hK⟩
  have hnh := cc_nh B (hts _ List.mem_cons_self)
  rw [lg_entry_eq]
  obtain ⟨ls, hls, hl⟩ := cl_ent [cR x0, .int (rI x1)] 4 (cl_1r (cl_1i cl_10)) (Nat.le_of_ble_eq_true rfl)
  rw [hls]
  exact pw_X4_putAnswer_0 hbd hR htr hd5 hB hnh σ x0 x1 ix0 ix1 hf _ _ _ _ _ (cw_W0 hM) (cl_sub hl [0, 1] rfl)

set_option maxHeartbeats 4000000 in
set_option maxRecDepth 100000 in
theorem pw_X7_isWord_2 {v : cwE} {bd : cBd} {p : Program} {l : Launch} {e : Env} {s : State} {m : MethodId} {args : Array Value} {below : List Frame} {meth : Method} {c : Code} {d : Nat} {rec : Nat → CS → List Int → CO} {σ0 σ' : CS} {kd : Nat} {r : Int} (hbd : bd = cw_bd v) (hR : cw_Rec l v d rec) (htr : l.stackTraces = false) (hd5 : 5 ≤ d) (B : cw_B v RX7 p s m args meth c cX7_isWord 3 (some .boolean)) (hnh : ∀ x ∈ c.exceptionTable.toList, False) : ∀ (n : Nat) (σ : CS) (x0 x1 x2 : Int), inR x0 → inR x1 → inR x2 → pc_X7_isWord_2 rec bd n σ x0 x1 x2 = some (σ', kd, r) → ∀ (H : Heap) (locs : List Loc) (cells slots : Nat) (ls : Array Slot), cw_W v s σ0 σ H locs cells slots → cl_has ls 3 [(0, cR x0), (1, .int (rI x1)), (2, .int (rI x2))] → W p l e (cw_rm v (d + 1) σ0) s m args below meth c H locs cells slots (cw_Z below v σ0 σ' kd (some (.int (rI r))) args s) (F0 m 2 ls []) := by
  subst hbd
  obtain ⟨hx, hb, hr, hml, hown, hts, hlk, hK⟩ := id B
  intro n
  induction n with
  | zero => intro σ x0 x1 x2 ix0 ix1 ix2 hf; cases hf
  | succ n ih =>
    intro σ x0 x1 x2 ix0 ix1 ix2 hf H locs cells slots ls hw hl
    unfold pc_X7_isWord_2 at hf
    refine lv_iload_n hx hb dX7_isWord_2 rfl (lv_at hl.1 2 rfl) ?_
    refine cl_aload_n hx hb dX7_isWord_3 rfl (lv_at hl.1 0 rfl) ?_
    obtain ⟨z1, ez1, iz1, rz1, hf⟩ := cc_g_s hw hf
    refine cw_get (val := .int (rI z1)) B hw rz1 ⟨by decide, by decide⟩ (by decide) cwi_8 cfl_X7_24 ez1 rfl dX7_isWord_4 ?_
    refine rn_icmp_ge (a := x2) (b := z1) (tgt := 40) hx hb ix2 iz1 dX7_isWord_7 (by decide) (fun c2 => ?_) (fun c2 => ?_)
    · replace hf := cc_if_t hf c2
      obtain ⟨z3, ez3, iz3, hf⟩ := cc_gs_s hf
      refine cw_ldcs B (cw_str_X7_192 hK) ez3 dX7_isWord_40 ?_
      refine lv_iload_n hx hb dX7_isWord_42 rfl (lv_at hl.1 1 rfl) ?_
      refine cl_aload_n hx hb dX7_isWord_43 rfl (lv_at hl.1 0 rfl) ?_
      obtain ⟨z4, ez4, iz4, rz4, hf⟩ := cc_g_s hw hf
      refine cw_get (val := .int (rI z4)) B hw rz4 ⟨by decide, by decide⟩ (by decide) cwi_8 cfl_X7_24 ez4 rfl dX7_isWord_44 ?_
      obtain ⟨z5, ez5, iz5, hf⟩ := cc_ck_s hf
      refine rn_add hx hb ez5 dX7_isWord_47 ?_
      obtain ⟨z6, iz6, mz6, hf⟩ := cc_sc_s (l := l) (d := d) hd5 hK hf
      refine cw_cstr (n := 1) (rest := []) (As := [.int (rI z5)]) B mz6 cgj_charAt cjl_X7_194 cji_charAt cjs_charAt (by decide +kernel) (by decide) rfl hl.1.1 (Nat.le_of_ble_eq_true rfl) dX7_isWord_48 rfl hw ?_
      refine lv_bipush (v := rI 32) hx hb dX7_isWord_51 (by decide +kernel) ?_
      refine rn_icmp_ne (a := z6) (b := 32) (tgt := 60) hx hb iz6 ⟨by decide, by decide⟩ dX7_isWord_53 (by decide) (fun c7 => ?_) (fun c7 => ?_)
      · replace hf := cc_if_t hf c7
        refine lv_iconst (v := rI 0) hx hb dX7_isWord_60 rfl ?_
        obtain ⟨h01, hf⟩ := cc_bo_s hf
        exact cw_retz B h01 hf hw dX7_isWord_61
      · replace hf := cc_if_f hf c7
        refine lv_iconst (v := rI 1) hx hb dX7_isWord_56 rfl ?_
        refine lv_goto (tgt := 61) hx hb dX7_isWord_57 (by decide) ?_
        obtain ⟨h01, hf⟩ := cc_bo_s hf
        exact cw_retz B h01 hf hw dX7_isWord_61
    · replace hf := cc_if_f hf c2
      obtain ⟨z8, ez8, iz8, hf⟩ := cc_gs_s hf
      refine cw_ldcs B (cw_str_X7_192 hK) ez8 dX7_isWord_10 ?_
      refine lv_iload_n hx hb dX7_isWord_12 rfl (lv_at hl.1 1 rfl) ?_
      refine lv_iload_n hx hb dX7_isWord_13 rfl (lv_at hl.1 2 rfl) ?_
      obtain ⟨z9, ez9, iz9, hf⟩ := cc_ck_s hf
      refine rn_add hx hb ez9 dX7_isWord_14 ?_
      obtain ⟨z10, iz10, mz10, hf⟩ := cc_sc_s (l := l) (d := d) hd5 hK hf
      refine cw_cstr (n := 1) (rest := []) (As := [.int (rI z9)]) B mz10 cgj_charAt cjl_X7_194 cji_charAt cjs_charAt (by decide +kernel) (by decide) rfl hl.1.1 (Nat.le_of_ble_eq_true rfl) dX7_isWord_15 rfl hw ?_
      refine cl_aload_n hx hb dX7_isWord_18 rfl (lv_at hl.1 0 rfl) ?_
      obtain ⟨z11, ez11, iz11, rz11, hf⟩ := cc_g_s hw hf
      refine cw_get (val := cR z11) B hw rz11 ⟨by decide, by decide⟩ (by decide) cwi_8 cfl_X7_30 ez11 rfl dX7_isWord_19 ?_
      refine cl_aload_n hx hb dX7_isWord_22 rfl (lv_at hl.1 0 rfl) ?_
      obtain ⟨z12, ez12, iz12, rz12, hf⟩ := cc_g_s hw hf
      refine cw_get (val := .int (rI z12)) B hw rz12 ⟨by decide, by decide⟩ (by decide) cwi_8 cfl_X7_21 ez12 rfl dX7_isWord_23 ?_
      refine lv_iload_n hx hb dX7_isWord_26 rfl (lv_at hl.1 2 rfl) ?_
      obtain ⟨z13, ez13, iz13, hf⟩ := cc_ck_s hf
      refine rn_add hx hb ez13 dX7_isWord_27 ?_
      obtain ⟨z14, ez14, iz14, rz14, bz14, hf⟩ := cc_r_s hw hf
      refine cw_aldB B hw rz14 iz13 bz14 ez14 dX7_isWord_28 ?_
      refine rn_icmp_eq (a := z10) (b := z14) (tgt := 34) hx hb iz10 iz14 dX7_isWord_29 (by decide) (fun c15 => ?_) (fun c15 => ?_)
      · replace hf := cc_if_t hf c15
        obtain ⟨z16, ez16, iz16, hf⟩ := cc_ck_s hf
        refine cl_iinc (v := rI z16) (lv' := [(2, .int (rI z16)), (0, cR x0), (1, .int (rI x1))]) hx hb dX7_isWord_34 hl (k := 2) rfl (by rw [ez16]; exact rI_add _ _) (by decide) rfl (fun ls hl => ?_)
        refine lv_goto (tgt := 2) hx hb dX7_isWord_37 (by decide) ?_
        exact ih σ x0 x1 z16 ix0 ix1 iz16 hf _ _ _ _ _ hw (cl_sub hl [1, 2, 0] rfl)
      · replace hf := cc_if_f hf c15
        refine lv_iconst (v := rI 0) hx hb dX7_isWord_32 rfl ?_
        obtain ⟨h01, hf⟩ := cc_bo_s hf
        exact cw_retz B h01 hf hw dX7_isWord_33

set_option maxHeartbeats 4000000 in
set_option maxRecDepth 100000 in
theorem pw_X7_isWord_0 {v : cwE} {bd : cBd} {p : Program} {l : Launch} {e : Env} {s : State} {m : MethodId} {args : Array Value} {below : List Frame} {meth : Method} {c : Code} {d : Nat} {rec : Nat → CS → List Int → CO} {σ0 σ' : CS} {kd : Nat} {r : Int} (hbd : bd = cw_bd v) (hR : cw_Rec l v d rec) (htr : l.stackTraces = false) (hd5 : 5 ≤ d) (B : cw_B v RX7 p s m args meth c cX7_isWord 3 (some .boolean)) (hnh : ∀ x ∈ c.exceptionTable.toList, False) : ∀ (σ : CS) (x0 x1 : Int), inR x0 → inR x1 → pc_X7_isWord_0 rec bd σ x0 x1 = some (σ', kd, r) → ∀ (H : Heap) (locs : List Loc) (cells slots : Nat) (ls : Array Slot), cw_W v s σ0 σ H locs cells slots → cl_has ls 3 [(0, cR x0), (1, .int (rI x1))] → W p l e (cw_rm v (d + 1) σ0) s m args below meth c H locs cells slots (cw_Z below v σ0 σ' kd (some (.int (rI r))) args s) (F0 m 0 ls []) := by
  subst hbd
  obtain ⟨hx, hb, hr, hml, hown, hts, hlk, hK⟩ := id B
  intro σ x0 x1 ix0 ix1 hf H locs cells slots ls hw hl
  unfold pc_X7_isWord_0 at hf
  refine lv_iconst (v := rI 0) hx hb dX7_isWord_0 rfl ?_
  refine cl_istore_n (lv' := [(2, .int (rI 0)), (0, cR x0), (1, .int (rI x1))]) hx hb dX7_isWord_1 rfl hl (by decide) rfl (fun ls hl => ?_)
  exact pw_X7_isWord_2 rfl hR htr hd5 B hnh 2000000 σ x0 x1 0 ix0 ix1 ⟨by decide, by decide⟩ hf _ _ _ _ _ hw (cl_sub hl [1, 2, 0] rfl)

set_option maxHeartbeats 4000000 in
set_option maxRecDepth 100000 in
theorem pm_X7_isWord {v : cwE} {bd : cBd} {l : Launch} {d : Nat} {rec : Nat → CS → List Int → CO} (hbd : bd = cw_bd v) (hR : cw_Rec l v d rec) (htr : l.stackTraces = false) (hd5 : 5 ≤ d) (σ σ' : CS) (x0 x1 : Int) (kd : Nat) (r : Int) (ix0 : inR x0) (ix1 : inR x1) (hf : pc_X7_isWord_0 rec bd σ x0 x1 = some (σ', kd, r)) : cw_Met l v yX7_isWord cX7_isWord 3 (some .boolean) (d + 1) [cR x0, .int (rI x1)] σ σ' kd (some (.int (rI r))) := by
  refine cw_ofW (by decide +kernel) ?_
  intro p e s m args below meth c s₁ B hml hv
  obtain ⟨rfl, hM, hK⟩ := hv
  have hts := atoms_spec (ws := Cond.code yX7_isWord cX7_isWord 3 (some .boolean) :: cw_bw) B.pre
  have hB : cw_B v RX7 p s m _ meth c cX7_isWord 3 (some .boolean) := ⟨B.exec, B.bytes, B.returns, hml, findClass_of_methodNamed B.named, fun w h => hts w (List.mem_cons_of_mem _ h), B.notSynchronized, hK⟩
  have hnh := cc_nh B (hts _ List.mem_cons_self)
  rw [lg_entry_eq]
  obtain ⟨ls, hls, hl⟩ := cl_ent [cR x0, .int (rI x1)] 3 (cl_1r (cl_1i cl_10)) (Nat.le_of_ble_eq_true rfl)
  rw [hls]
  exact pw_X7_isWord_0 hbd hR htr hd5 hB hnh σ x0 x1 ix0 ix1 hf _ _ _ _ _ (cw_W0 hM) (cl_sub hl [0, 1] rfl)

set_option maxHeartbeats 4000000 in
set_option maxRecDepth 100000 in
theorem pw_X7_readText_36 {v : cwE} {bd : cBd} {p : Program} {l : Launch} {e : Env} {s : State} {m : MethodId} {args : Array Value} {below : List Frame} {meth : Method} {c : Code} {d : Nat} {rec : Nat → CS → List Int → CO} {σ0 σ' : CS} {kd : Nat} {r : Int} (hbd : bd = cw_bd v) (hR : cw_Rec l v d rec) (htr : l.stackTraces = false) (hd5 : 5 ≤ d) (B : cw_B v RX7 p s m args meth c cX7_readText 4 (some (.object "java/util/List"))) (hnh : ∀ x ∈ c.exceptionTable.toList, False) : ∀ (n : Nat) (σ : CS) (x0 x2 x3 : Int), inR x0 → inR x2 → inR x3 → pc_X7_readText_36 rec bd n σ x0 x2 x3 = some (σ', kd, r) → ∀ (H : Heap) (locs : List Loc) (cells slots : Nat) (ls : Array Slot), cw_W v s σ0 σ H locs cells slots → cl_has ls 4 [(0, cR x0), (2, cR x2), (3, .int (rI x3))] → W p l e (cw_rm v (d + 1) σ0) s m args below meth c H locs cells slots (cw_Z below v σ0 σ' kd (some (cR r)) args s) (F0 m 36 ls []) := by
  subst hbd
  obtain ⟨hx, hb, hr, hml, hown, hts, hlk, hK⟩ := id B
  intro n
  induction n with
  | zero => intro σ x0 x2 x3 ix0 ix2 ix3 hf; cases hf
  | succ n ih =>
    intro σ x0 x2 x3 ix0 ix2 ix3 hf H locs cells slots ls hw hl
    unfold pc_X7_readText_36 at hf
    refine lv_iload_n hx hb dX7_readText_36 rfl (lv_at hl.1 2 rfl) ?_
    refine cl_aload_n hx hb dX7_readText_37 rfl (lv_at hl.1 0 rfl) ?_
    obtain ⟨z1, ez1, iz1, rz1, hf⟩ := cc_g_s hw hf
    refine cw_get (val := .int (rI z1)) B hw rz1 ⟨by decide, by decide⟩ (by decide) cwi_8 cfl_X7_9 ez1 rfl dX7_readText_38 ?_
    refine rn_icmp_ge (a := x3) (b := z1) (tgt := 77) hx hb ix3 iz1 dX7_readText_41 (by decide) (fun c2 => ?_) (fun c2 => ?_)
    · replace hf := cc_if_t hf c2
      refine cl_aload_n hx hb dX7_readText_77 rfl (lv_at hl.1 1 rfl) ?_
      exact cw_reta B hf hw dX7_readText_78
    · replace hf := cc_if_f hf c2
      refine cl_aload_n hx hb dX7_readText_44 rfl (lv_at hl.1 0 rfl) ?_
      obtain ⟨z3, ez3, iz3, rz3, hf⟩ := cc_g_s hw hf
      refine cw_get (val := .int (rI z3)) B hw rz3 ⟨by decide, by decide⟩ (by decide) cwi_8 cfl_X7_18 ez3 rfl dX7_readText_45 ?_
      refine lv_sipush (v := rI 261) hx hb dX7_readText_48 (by decide +kernel) ?_
      refine rn_icmp_eq (a := z3) (b := 261) (tgt := 77) hx hb iz3 ⟨by decide, by decide⟩ dX7_readText_51 (by decide) (fun c4 => ?_) (fun c4 => ?_)
      · replace hf := cc_if_t hf c4
        refine cl_aload_n hx hb dX7_readText_77 rfl (lv_at hl.1 1 rfl) ?_
        exact cw_reta B hf hw dX7_readText_78
      · replace hf := cc_if_f hf c4
        refine cl_aload_n hx hb dX7_readText_54 rfl (lv_at hl.1 1 rfl) ?_
        refine cl_aload_n hx hb dX7_readText_55 rfl (lv_at hl.1 0 rfl) ?_
        obtain ⟨qσ5, hf⟩ := cc_t_s hf
        obtain ⟨σ5, kv6, z7, hσ5, hf⟩ := cc_cl_s hf
        obtain ⟨iz7, mσ5⟩ := hR 131 σ [x0] σ5 kv6 z7 hσ5
        have mσ5 : cw_Met l v yX7_statement cX7_statement 3 (some (.object "PureHouse$Statement")) d [cR x0] σ σ5 kv6 (some (cR z7)) := mσ5 ix0
        refine cw_cv (b := x0) (t := 8) (n := 0) (rest := [cR x2]) (As := []) B mσ5 qσ5 ⟨by decide, by decide⟩ cgo_yX7_statement cml_X7_63 cin_yX7_statement cse_yX7_statement (by decide +kernel) (by decide) rfl hl.1.1 (cl_cs (cl_1r cl_10) (Nat.le_of_ble_eq_true rfl)) dX7_readText_56 rfl hw (fun h0 H locs cells slots hw => ?_) (fun h0 H locs cells slots q ce hw h1 h2 h3 => ?_)
        · rcases hf with ⟨-, hf⟩ | ⟨hk, -⟩
          · skip
            obtain ⟨qσ8, hf⟩ := cc_t_s hf
            obtain ⟨σ8, z10, hσ8, hf⟩ := cc_cn_s hf
            obtain ⟨iz10, mσ8⟩ := hR 9 σ5 [x2, z7] σ8 0 z10 hσ8
            have mσ8 : cw_Met l v yJx4a65c_add_9ea2d cJx4a65c_add_9ea2d 2 (some .boolean) d [cR x2, cR z7] σ5 σ8 0 (some (.int (rI z10))) := mσ8 ix2 iz7
            refine cw_cf (b := x2) (n := 1) (rest := []) (As := [cR z7]) B mσ8 qσ8 cgo_yJx4a65c_add_9ea2d cfm_X7_67 cin_yJx4a65c_add_9ea2d cfs_yJx4a65c_add_9ea2d (cw_face_add hK) (by decide +kernel) (by decide) rfl hl.1.1 (Nat.le_of_ble_eq_true rfl) dX7_readText_59 rfl hw (fun H locs cells slots hw => ?_)
            refine lv_pop hx hb dX7_readText_64 rfl ?_
            refine cl_aload_n hx hb dX7_readText_65 rfl (lv_at hl.1 0 rfl) ?_
            refine lv_bipush (v := rI 59) hx hb dX7_readText_66 (by decide +kernel) ?_
            obtain ⟨qσ11, hf⟩ := cc_t_s hf
            obtain ⟨σ11, kv12, z13, hσ11, hf⟩ := cc_cl_s hf
            obtain ⟨iz13, mσ11⟩ := hR 118 σ8 [x0, 59] σ11 kv12 z13 hσ11
            have mσ11 : cw_Met l v yX7_expect cX7_expect 2 none d [cR x0, .int (rI 59)] σ8 σ11 kv12 none := mσ11 ix0 ⟨by decide, by decide⟩
            refine cw_cv (b := x0) (t := 8) (n := 1) (rest := []) (As := [.int (rI 59)]) B mσ11 qσ11 ⟨by decide, by decide⟩ cgo_yX7_expect cml_X7_73 cin_yX7_expect cse_yX7_expect (by decide +kernel) (by decide) rfl hl.1.1 (Nat.le_of_ble_eq_true rfl) dX7_readText_68 rfl hw (fun h0 H locs cells slots hw => ?_) (fun h0 H locs cells slots q ce hw h1 h2 h3 => ?_)
            · rcases hf with ⟨-, hf⟩ | ⟨hk, -⟩
              · skip
                obtain ⟨z14, ez14, iz14, hf⟩ := cc_ck_s hf
                refine cl_iinc (v := rI z14) (lv' := [(3, .int (rI z14)), (0, cR x0), (2, cR x2)]) hx hb dX7_readText_71 hl (k := 2) rfl (by rw [ez14]; exact rI_add _ _) (by decide) rfl (fun ls hl => ?_)
                refine lv_goto (tgt := 36) hx hb dX7_readText_74 (by decide) ?_
                exact ih σ11 x0 x2 z14 ix0 ix2 iz14 hf _ _ _ _ _ hw (cl_sub hl [1, 2, 0] rfl)
              · exact absurd h0 hk
            · rcases hf with ⟨hk, -⟩ | ⟨-, hf⟩
              · exact absurd hk h0
              · cases hf
                exact cw_xout B hnh h0 hw h1 h2 h3
          · exact absurd h0 hk
        · rcases hf with ⟨hk, -⟩ | ⟨-, hf⟩
          · exact absurd hk h0
          · cases hf
            exact cw_xout B hnh h0 hw h1 h2 h3

