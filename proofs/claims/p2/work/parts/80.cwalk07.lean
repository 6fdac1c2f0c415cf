set_option maxHeartbeats 4000000 in
set_option maxRecDepth 100000 in
theorem pm_X7_readText {v : cwE} {bd : cBd} {l : Launch} {d : Nat} {rec : Nat → CS → List Int → CO} (hbd : bd = cw_bd v) (hR : cw_Rec l v d rec) (htr : l.stackTraces = false) (hd5 : 5 ≤ d) (σ σ' : CS) (x0 x1 : Int) (kd : Nat) (r : Int) (ix0 : inR x0) (ix1 : inR x1) (hf : pc_X7_readText_0 rec bd σ x0 x1 = some (σ', kd, r)) : cw_Met l v yX7_readText cX7_readText 4 (some (.object "java/util/List")) (d + 1) [cR v x0, .int (rI x1)] σ σ' kd (some (cR v r)) := by
  refine cw_ofW (by decide +kernel) ?_
  intro p e s m args below meth c s₁ B hml hv
  obtain ⟨rfl, hM, hK⟩ := hv
  have hts := atoms_spec (ws := Cond.code yX7_readText cX7_readText 4 (some (.object "java/util/List")) :: cw_bw) B.pre
  have hB : cw_B v RX7 p s m _ meth c cX7_readText 4 (some (.object "java/util/List")) := ⟨B.exec, B.bytes, B.returns, hml, findClass_of_methodNamed B.named, fun w h => hts w (List.mem_cons_of_mem _ h), B.notSynchronized, hK⟩
  have hnh := cc_nh B (hts _ List.mem_cons_self)
  rw [lg_entry_eq]
  obtain ⟨ls, hls, hl⟩ := cl_ent [cR v x0, .int (rI x1)] 4 (cl_1r (cl_1i cl_10)) (Nat.le_of_ble_eq_true rfl)
  rw [hls]
  exact pw_X7_readText_0 hbd hR htr hd5 hB hnh σ x0 x1 ix0 ix1 hf _ _ _ _ _ (cw_W0 hM) (cl_sub hl [0, 1] rfl)

set_option maxHeartbeats 4000000 in
set_option maxRecDepth 100000 in
theorem pw_X7_refuse_19 {v : cwE} {bd : cBd} {p : Program} {l : Launch} {e : Env} {s : State} {m : MethodId} {args : Array Value} {below : List Frame} {meth : Method} {c : Code} {d : Nat} {rec : Nat → CS → List Int → CO} {σ0 σ' : CS} {kd : Nat} {r : Int} (hbd : bd = cw_bd v) (hR : cw_Rec l v d rec) (htr : l.stackTraces = false) (hd5 : 5 ≤ d) (B : cw_B v RX7 p s m args meth c cX7_refuse 1 none) (hnh : ∀ x ∈ c.exceptionTable.toList, False) : ∀ (σ : CS) (x0 t0 t1 : Int), inR x0 → inR t0 → inR t1 → pc_X7_refuse_19 rec bd σ x0 t0 t1 = some (σ', kd, r) → ∀ (H : Heap) (locs : List Loc) (cells slots : Nat) (ls : Array Slot), cw_W v s σ0 σ H locs cells slots → cl_has ls 1 [(0, cR v x0)] → W p l e (cw_rm v (d + 1) σ0) s m args below meth c H locs cells slots (cw_Z below v σ0 σ' kd none args s) (F0 m 19 ls [.int (rI t0), cR v t1]) := by
  subst hbd
  obtain ⟨hx, hb, hr, hml, hown, hts, hlk, hK⟩ := id B
  intro σ x0 t0 t1 ix0 it0 it1 hf H locs cells slots ls hw hl
  unfold pc_X7_refuse_19 at hf
  refine cl_aload_n hx hb dX7_refuse_19 rfl (lv_at hl.1 0 rfl) ?_
  obtain ⟨z1, ez1, iz1, rz1, hf⟩ := cc_g_s hw hf
  refine cw_get (val := .int (rI z1)) B hw rz1 ⟨by decide, by decide⟩ (by decide) cwi_8 cfl_X7_21 ez1 rfl dX7_refuse_20 ?_
  obtain ⟨qσ2, hf⟩ := cc_t_s hf
  obtain ⟨σ2, kv3, z4, hσ2, hf⟩ := cc_cl_s hf
  obtain ⟨iz4, mσ2⟩ := hR 30 σ [t1, t0, z1] σ2 kv3 z4 hσ2
  have mσ2 : cw_Met l v yX10_set cX10_set 3 none d [cR v t1, .int (rI t0), .int (rI z1)] σ σ2 kv3 none := mσ2 it1 it0 iz1
  refine cw_cv (b := t1) (t := 11) (n := 2) (rest := []) (As := [.int (rI t0), .int (rI z1)]) B mσ2 qσ2 ⟨by decide, by decide⟩ cgo_yX10_set cml_X7_107 cin_yX10_set cse_yX10_set (by decide +kernel) (by decide) rfl hl.1.1 (Nat.le_of_ble_eq_true rfl) dX7_refuse_23 rfl hw (fun h0 H locs cells slots hw => ?_) (fun h0 H locs cells slots q ce hw h1 h2 h3 => ?_)
  · rcases hf with ⟨-, hf⟩ | ⟨hk, -⟩
    · skip
      obtain ⟨hy, hm⟩ := cc_x_s hf
      obtain ⟨hy1, hy2⟩ := Prod.mk.inj hy
      obtain ⟨hy2, hy3⟩ := Prod.mk.inj hy2
      subst hy2
      refine cw_throw (rest := []) B hnh htr hw (by decide) (by decide +kernel) cxc_X7_113 cxi_1 (cw_hat cxa_X7_115 (by decide +kernel) hts hK.1) (List.all_eq_true.mp cxg_X7_115) hd5 hm hy1 hl.1.1 (Nat.le_of_ble_eq_true rfl) dX7_refuse_26 dX7_refuse_29 dX7_refuse_30 dX7_refuse_33
    · exact absurd h0 hk
  · rcases hf with ⟨hk, -⟩ | ⟨-, hf⟩
    · exact absurd hk h0
    · cases hf
      exact cw_xout B hnh h0 hw h1 h2 h3

set_option maxHeartbeats 4000000 in
set_option maxRecDepth 100000 in
theorem pw_X7_refuse_0 {v : cwE} {bd : cBd} {p : Program} {l : Launch} {e : Env} {s : State} {m : MethodId} {args : Array Value} {below : List Frame} {meth : Method} {c : Code} {d : Nat} {rec : Nat → CS → List Int → CO} {σ0 σ' : CS} {kd : Nat} {r : Int} (hbd : bd = cw_bd v) (hR : cw_Rec l v d rec) (htr : l.stackTraces = false) (hd5 : 5 ≤ d) (B : cw_B v RX7 p s m args meth c cX7_refuse 1 none) (hnh : ∀ x ∈ c.exceptionTable.toList, False) : ∀ (σ : CS) (x0 : Int), inR x0 → pc_X7_refuse_0 rec bd σ x0 = some (σ', kd, r) → ∀ (H : Heap) (locs : List Loc) (cells slots : Nat) (ls : Array Slot), cw_W v s σ0 σ H locs cells slots → cl_has ls 1 [(0, cR v x0)] → W p l e (cw_rm v (d + 1) σ0) s m args below meth c H locs cells slots (cw_Z below v σ0 σ' kd none args s) (F0 m 0 ls []) := by
  subst hbd
  obtain ⟨hx, hb, hr, hml, hown, hts, hlk, hK⟩ := id B
  intro σ x0 ix0 hf H locs cells slots ls hw hl
  unfold pc_X7_refuse_0 at hf
  refine cl_aload_n hx hb dX7_refuse_0 rfl (lv_at hl.1 0 rfl) ?_
  obtain ⟨z1, ez1, iz1, rz1, hf⟩ := cc_g_s hw hf
  refine cw_get (val := cR v z1) B hw rz1 ⟨by decide, by decide⟩ (by decide) cwi_8 cfl_X7_34 ez1 rfl dX7_refuse_1 ?_
  refine cl_aload_n hx hb dX7_refuse_4 rfl (lv_at hl.1 0 rfl) ?_
  obtain ⟨z2, ez2, iz2, rz2, hf⟩ := cc_g_s hw hf
  refine cw_get (val := .int (rI z2)) B hw rz2 ⟨by decide, by decide⟩ (by decide) cwi_8 cfl_X7_18 ez2 rfl dX7_refuse_5 ?_
  refine lv_sipush (v := rI 257) hx hb dX7_refuse_8 (by decide +kernel) ?_
  refine rn_icmp_ne (a := z2) (b := 257) (tgt := 18) hx hb iz2 ⟨by decide, by decide⟩ dX7_refuse_11 (by decide) (fun c3 => ?_) (fun c3 => ?_)
  · replace hf := cc_if_t hf c3
    refine lv_iconst (v := rI 1) hx hb dX7_refuse_18 rfl ?_
    exact pw_X7_refuse_19 rfl hR htr hd5 B hnh σ x0 1 z1 ix0 ⟨by decide, by decide⟩ iz1 hf _ _ _ _ _ hw (cl_sub hl [0] rfl)
  · replace hf := cc_if_f hf c3
    refine lv_iconst (v := rI 2) hx hb dX7_refuse_14 rfl ?_
    refine lv_goto (tgt := 19) hx hb dX7_refuse_15 (by decide) ?_
    exact pw_X7_refuse_19 rfl hR htr hd5 B hnh σ x0 2 z1 ix0 ⟨by decide, by decide⟩ iz1 hf _ _ _ _ _ hw (cl_sub hl [0] rfl)

set_option maxHeartbeats 4000000 in
set_option maxRecDepth 100000 in
theorem pm_X7_refuse {v : cwE} {bd : cBd} {l : Launch} {d : Nat} {rec : Nat → CS → List Int → CO} (hbd : bd = cw_bd v) (hR : cw_Rec l v d rec) (htr : l.stackTraces = false) (hd5 : 5 ≤ d) (σ σ' : CS) (x0 : Int) (kd : Nat) (r : Int) (ix0 : inR x0) (hf : pc_X7_refuse_0 rec bd σ x0 = some (σ', kd, r)) : cw_Met l v yX7_refuse cX7_refuse 1 none (d + 1) [cR v x0] σ σ' kd none := by
  refine cw_ofW (by decide +kernel) ?_
  intro p e s m args below meth c s₁ B hml hv
  obtain ⟨rfl, hM, hK⟩ := hv
  have hts := atoms_spec (ws := Cond.code yX7_refuse cX7_refuse 1 none :: cw_bw) B.pre
  have hB : cw_B v RX7 p s m _ meth c cX7_refuse 1 none := ⟨B.exec, B.bytes, B.returns, hml, findClass_of_methodNamed B.named, fun w h => hts w (List.mem_cons_of_mem _ h), B.notSynchronized, hK⟩
  have hnh := cc_nh B (hts _ List.mem_cons_self)
  rw [lg_entry_eq]
  obtain ⟨ls, hls, hl⟩ := cl_ent [cR v x0] 1 (cl_1r cl_10) (Nat.le_of_ble_eq_true rfl)
  rw [hls]
  exact pw_X7_refuse_0 hbd hR htr hd5 hB hnh σ x0 ix0 hf _ _ _ _ _ (cw_W0 hM) (cl_sub hl [0] rfl)

set_option maxHeartbeats 4000000 in
set_option maxRecDepth 100000 in
theorem pw_X7_sameStatement_0 {v : cwE} {bd : cBd} {p : Program} {l : Launch} {e : Env} {s : State} {m : MethodId} {args : Array Value} {below : List Frame} {meth : Method} {c : Code} {d : Nat} {rec : Nat → CS → List Int → CO} {σ0 σ' : CS} {kd : Nat} {r : Int} (hbd : bd = cw_bd v) (hR : cw_Rec l v d rec) (htr : l.stackTraces = false) (hd5 : 5 ≤ d) (B : cw_B v RX7 p s m args meth c cX7_sameStatement 3 (some (.object "PureHouse$Statement"))) (hnh : ∀ x ∈ c.exceptionTable.toList, False) : ∀ (σ : CS) (x0 x1 : Int), inR x0 → inR x1 → pc_X7_sameStatement_0 rec bd σ x0 x1 = some (σ', kd, r) → ∀ (H : Heap) (locs : List Loc) (cells slots : Nat) (ls : Array Slot), cw_W v s σ0 σ H locs cells slots → cl_has ls 3 [(0, cR v x0), (1, .int (rI x1))] → W p l e (cw_rm v (d + 1) σ0) s m args below meth c H locs cells slots (cw_Z below v σ0 σ' kd (some (cR v r)) args s) (F0 m 0 ls []) := by
  subst hbd
  obtain ⟨hx, hb, hr, hml, hown, hts, hlk, hK⟩ := id B
  intro σ x0 x1 ix0 ix1 hf H locs cells slots ls hw hl
  unfold pc_X7_sameStatement_0 at hf
  refine cl_aload_n hx hb dX7_sameStatement_0 rfl (lv_at hl.1 0 rfl) ?_
  refine lv_iconst (v := rI 0) hx hb dX7_sameStatement_1 rfl ?_
  obtain ⟨qσ1, hf⟩ := cc_t_s hf
  obtain ⟨σ1, kv2, z3, hσ1, hf⟩ := cc_cl_s hf
  obtain ⟨iz3, mσ1⟩ := hR 131 σ [x0, 0] σ1 kv2 z3 hσ1
  have mσ1 : cw_Met l v yX7_term cX7_term 5 (some (.object "PureHouse$Node")) d [cR v x0, .int (rI 0)] σ σ1 kv2 (some (cR v z3)) := mσ1 ix0 ⟨by decide, by decide⟩
  refine cw_cv (b := x0) (t := 8) (n := 1) (rest := []) (As := [.int (rI 0)]) B mσ1 qσ1 ⟨by decide, by decide⟩ cgo_yX7_term cml_X7_103 cin_yX7_term cse_yX7_term (by decide +kernel) (by decide) rfl hl.1.1 (Nat.le_of_ble_eq_true rfl) dX7_sameStatement_2 rfl hw (fun h0 H locs cells slots hw => ?_) (fun h0 H locs cells slots q ce hw h1 h2 h3 => ?_)
  · rcases hf with ⟨-, hf⟩ | ⟨hk, -⟩
    · skip
      refine cl_astore_n (lv' := [(2, cR v z3), (0, cR v x0), (1, .int (rI x1))]) hx hb dX7_sameStatement_5 rfl hl (by decide) rfl (fun ls hl => ?_)
      refine cl_aload_n hx hb dX7_sameStatement_6 rfl (lv_at hl.1 1 rfl) ?_
      refine lv_bipush (v := rI 61) hx hb dX7_sameStatement_7 (by decide +kernel) ?_
      obtain ⟨qσ4, hf⟩ := cc_t_s hf
      obtain ⟨σ4, kv5, z6, hσ4, hf⟩ := cc_cl_s hf
      obtain ⟨iz6, mσ4⟩ := hR 116 σ1 [x0, 61] σ4 kv5 z6 hσ4
      have mσ4 : cw_Met l v yX7_expect cX7_expect 2 none d [cR v x0, .int (rI 61)] σ1 σ4 kv5 none := mσ4 ix0 ⟨by decide, by decide⟩
      refine cw_cv (b := x0) (t := 8) (n := 1) (rest := []) (As := [.int (rI 61)]) B mσ4 qσ4 ⟨by decide, by decide⟩ cgo_yX7_expect cml_X7_73 cin_yX7_expect cse_yX7_expect (by decide +kernel) (by decide) rfl hl.1.1 (Nat.le_of_ble_eq_true rfl) dX7_sameStatement_9 rfl hw (fun h0 H locs cells slots hw => ?_) (fun h0 H locs cells slots q ce hw h1 h2 h3 => ?_)
      · rcases hf with ⟨-, hf⟩ | ⟨hk, -⟩
        · skip
          obtain ⟨σ7, z8, eσ7, ez8, iz8, rσ7, hf⟩ := cc_n_s hf
          refine cw_new B hw cwt_10 rfl cwd_10 cnl_X7_81 cni_10 cnz_10 rσ7 eσ7 ez8 dX7_sameStatement_12 (fun H hw => ?_)
          refine lv_dup hx hb dX7_sameStatement_15 (cR_cat _) ?_
          refine lv_iconst (v := rI 5) hx hb dX7_sameStatement_16 rfl ?_
          refine lv_iload_n hx hb dX7_sameStatement_17 rfl (lv_at hl.1 2 rfl) ?_
          refine cl_null (v := v) hx hb dX7_sameStatement_18 ?_
          refine cl_aload_n hx hb dX7_sameStatement_19 rfl (lv_at hl.1 0 rfl) ?_
          refine cl_aload_n hx hb dX7_sameStatement_20 rfl (lv_at hl.1 1 rfl) ?_
          refine lv_iconst (v := rI 0) hx hb dX7_sameStatement_21 rfl ?_
          obtain ⟨qσ9, hf⟩ := cc_t_s hf
          obtain ⟨σ9, kv10, z11, hσ9, hf⟩ := cc_cl_s hf
          obtain ⟨iz11, mσ9⟩ := hR 131 σ7 [x0, 0] σ9 kv10 z11 hσ9
          have mσ9 : cw_Met l v yX7_term cX7_term 5 (some (.object "PureHouse$Node")) d [cR v x0, .int (rI 0)] σ7 σ9 kv10 (some (cR v z11)) := mσ9 ix0 ⟨by decide, by decide⟩
          refine cw_cv (b := x0) (t := 8) (n := 1) (rest := [cR v z3, cR v (-1), .int (rI x1), .int (rI 5), cR v z8, cR v z8]) (As := [.int (rI 0)]) B mσ9 qσ9 ⟨by decide, by decide⟩ cgo_yX7_term cml_X7_103 cin_yX7_term cse_yX7_term (by decide +kernel) (by decide) rfl hl.1.1 (cl_cs (cl_1r (cl_1r (cl_1i (cl_1i (cl_1r (cl_1r cl_10)))))) (Nat.le_of_ble_eq_true rfl)) dX7_sameStatement_22 rfl hw (fun h0 H locs cells slots hw => ?_) (fun h0 H locs cells slots q ce hw h1 h2 h3 => ?_)
          · rcases hf with ⟨-, hf⟩ | ⟨hk, -⟩
            · skip
              obtain ⟨qσ12, hf⟩ := cc_t_s hf
              obtain ⟨σ12, z14, hσ12, hf⟩ := cc_ci_s hf
              obtain ⟨iz14, mσ12⟩ := hR 137 σ9 [z8, 5, x1, (-1), z3, z11] σ12 0 z14 hσ12
              have mσ12 : cw_Met l v yX9_init cX9_init 6 none d [cR v z8, .int (rI 5), .int (rI x1), cR v (-1), cR v z3, cR v z11] σ9 σ12 0 none := mσ12 iz8 ⟨by decide, by decide⟩ ix1 ⟨by decide, by decide⟩ iz3 iz11
              refine cw_ci (b := z8) (n := 5) (rest := [cR v z8]) (As := [.int (rI 5), .int (rI x1), cR v (-1), cR v z3, cR v z11]) B mσ12 qσ12.1 rfl cgo_yX9_init cml_X7_90 cin_yX9_init (by decide +kernel) (by decide) rfl hl.1.1 (cl_cs (cl_1r cl_10) (Nat.le_of_ble_eq_true rfl)) dX7_sameStatement_25 rfl hw (fun H locs cells slots hw => ?_)
              exact cw_reta B hf hw dX7_sameStatement_28
            · exact absurd h0 hk
          · rcases hf with ⟨hk, -⟩ | ⟨-, hf⟩
            · exact absurd hk h0
            · cases hf
              exact cw_xout B hnh h0 hw h1 h2 h3
        · exact absurd h0 hk
      · rcases hf with ⟨hk, -⟩ | ⟨-, hf⟩
        · exact absurd hk h0
        · cases hf
          exact cw_xout B hnh h0 hw h1 h2 h3
    · exact absurd h0 hk
  · rcases hf with ⟨hk, -⟩ | ⟨-, hf⟩
    · exact absurd hk h0
    · cases hf
      exact cw_xout B hnh h0 hw h1 h2 h3

set_option maxHeartbeats 4000000 in
set_option maxRecDepth 100000 in
theorem pm_X7_sameStatement {v : cwE} {bd : cBd} {l : Launch} {d : Nat} {rec : Nat → CS → List Int → CO} (hbd : bd = cw_bd v) (hR : cw_Rec l v d rec) (htr : l.stackTraces = false) (hd5 : 5 ≤ d) (σ σ' : CS) (x0 x1 : Int) (kd : Nat) (r : Int) (ix0 : inR x0) (ix1 : inR x1) (hf : pc_X7_sameStatement_0 rec bd σ x0 x1 = some (σ', kd, r)) : cw_Met l v yX7_sameStatement cX7_sameStatement 3 (some (.object "PureHouse$Statement")) (d + 1) [cR v x0, .int (rI x1)] σ σ' kd (some (cR v r)) := by
  refine cw_ofW (by decide +kernel) ?_
  intro p e s m args below meth c s₁ B hml hv
  obtain ⟨rfl, hM, hK⟩ := hv
  have hts := atoms_spec (ws := Cond.code yX7_sameStatement cX7_sameStatement 3 (some (.object "PureHouse$Statement")) :: cw_bw) B.pre
  have hB : cw_B v RX7 p s m _ meth c cX7_sameStatement 3 (some (.object "PureHouse$Statement")) := ⟨B.exec, B.bytes, B.returns, hml, findClass_of_methodNamed B.named, fun w h => hts w (List.mem_cons_of_mem _ h), B.notSynchronized, hK⟩
  have hnh := cc_nh B (hts _ List.mem_cons_self)
  rw [lg_entry_eq]
  obtain ⟨ls, hls, hl⟩ := cl_ent [cR v x0, .int (rI x1)] 3 (cl_1r (cl_1i cl_10)) (Nat.le_of_ble_eq_true rfl)
  rw [hls]
  exact pw_X7_sameStatement_0 hbd hR htr hd5 hB hnh σ x0 x1 ix0 ix1 hf _ _ _ _ _ (cw_W0 hM) (cl_sub hl [0, 1] rfl)

set_option maxHeartbeats 4000000 in
set_option maxRecDepth 100000 in
theorem pw_X7_scan_80 {v : cwE} {bd : cBd} {p : Program} {l : Launch} {e : Env} {s : State} {m : MethodId} {args : Array Value} {below : List Frame} {meth : Method} {c : Code} {d : Nat} {rec : Nat → CS → List Int → CO} {σ0 σ' : CS} {kd : Nat} {r : Int} (hbd : bd = cw_bd v) (hR : cw_Rec l v d rec) (htr : l.stackTraces = false) (hd5 : 5 ≤ d) (B : cw_B v RX7 p s m args meth c cX7_scan 3 none) (hnh : ∀ x ∈ c.exceptionTable.toList, False) (k4 : CS → Int → Int → Int → CO) (hk4 : ∀ (σ : CS) (x0 x1 x2 : Int), inR x0 → inR x1 → inR x2 → k4 σ x0 x1 x2 = some (σ', kd, r) → ∀ (H : Heap) (locs : List Loc) (cells slots : Nat) (ls : Array Slot), cw_W v s σ0 σ H locs cells slots → cl_has ls 3 [(0, cR v x0), (1, .int (rI x1)), (2, .int (rI x2))] → W p l e (cw_rm v (d + 1) σ0) s m args below meth c H locs cells slots (cw_Z below v σ0 σ' kd none args s) (F0 m 4 ls [])) : ∀ (σ : CS) (x0 x1 x2 : Int), inR x0 → inR x1 → inR x2 → pc_X7_scan_80 rec bd k4 σ x0 x1 x2 = some (σ', kd, r) → ∀ (H : Heap) (locs : List Loc) (cells slots : Nat) (ls : Array Slot), cw_W v s σ0 σ H locs cells slots → cl_has ls 3 [(0, cR v x0), (1, .int (rI x1)), (2, .int (rI x2))] → W p l e (cw_rm v (d + 1) σ0) s m args below meth c H locs cells slots (cw_Z below v σ0 σ' kd none args s) (F0 m 80 ls []) := by
  subst hbd
  obtain ⟨hx, hb, hr, hml, hown, hts, hlk, hK⟩ := id B
  intro σ x0 x1 x2 ix0 ix1 ix2 hf H locs cells slots ls hw hl
  unfold pc_X7_scan_80 at hf
  refine cl_aload_n hx hb dX7_scan_80 rfl (lv_at hl.1 0 rfl) ?_
  obtain ⟨z1, ez1, iz1, rz1, hf⟩ := cc_g_s hw hf
  refine cw_get (val := cR v z1) B hw rz1 ⟨by decide, by decide⟩ (by decide) cwi_8 cfl_X7_38 ez1 rfl dX7_scan_81 ?_
  refine lv_iload_n hx hb dX7_scan_84 rfl (lv_at hl.1 2 rfl) ?_
  refine cl_aload_n hx hb dX7_scan_85 rfl (lv_at hl.1 0 rfl) ?_
  obtain ⟨z2, ez2, iz2, rz2, hf⟩ := cc_g_s hw hf
  refine cw_get (val := .int (rI z2)) B hw rz2 ⟨by decide, by decide⟩ (by decide) cwi_8 cfl_X7_18 ez2 rfl dX7_scan_86 ?_
  obtain ⟨σ3, eσ3, rσ3, bσ3, hf⟩ := cc_w_s hf
  refine cw_astI B hw rσ3 ix2 bσ3 iz2 eσ3 dX7_scan_89 (fun H locs hw => ?_)
  refine cl_aload_n hx hb dX7_scan_90 rfl (lv_at hl.1 0 rfl) ?_
  obtain ⟨z4, ez4, iz4, rz4, hf⟩ := cc_g_s hw hf
  refine cw_get (val := cR v z4) B hw rz4 ⟨by decide, by decide⟩ (by decide) cwi_8 cfl_X7_42 ez4 rfl dX7_scan_91 ?_
  refine lv_iload_n hx hb dX7_scan_94 rfl (lv_at hl.1 2 rfl) ?_
  refine lv_iload_n hx hb dX7_scan_95 rfl (lv_at hl.1 1 rfl) ?_
  obtain ⟨σ5, eσ5, rσ5, bσ5, hf⟩ := cc_w_s hf
  refine cw_astI B hw rσ5 ix2 bσ5 ix1 eσ5 dX7_scan_96 (fun H locs hw => ?_)
  refine cl_aload_n hx hb dX7_scan_97 rfl (lv_at hl.1 0 rfl) ?_
  obtain ⟨z6, ez6, iz6, rz6, hf⟩ := cc_g_s hw hf
  refine cw_get (val := cR v z6) B hw rz6 ⟨by decide, by decide⟩ (by decide) cwi_8 cfl_X7_45 ez6 rfl dX7_scan_98 ?_
  refine lv_iload_n hx hb dX7_scan_101 rfl (lv_at hl.1 2 rfl) ?_
  refine cl_aload_n hx hb dX7_scan_102 rfl (lv_at hl.1 0 rfl) ?_
  obtain ⟨z7, ez7, iz7, rz7, hf⟩ := cc_g_s hw hf
  refine cw_get (val := .int (rI z7)) B hw rz7 ⟨by decide, by decide⟩ (by decide) cwi_8 cfl_X7_24 ez7 rfl dX7_scan_103 ?_
  obtain ⟨σ8, eσ8, rσ8, bσ8, hf⟩ := cc_w_s hf
  refine cw_astI B hw rσ8 ix2 bσ8 iz7 eσ8 dX7_scan_106 (fun H locs hw => ?_)
  refine cl_aload_n hx hb dX7_scan_107 rfl (lv_at hl.1 0 rfl) ?_
  obtain ⟨z9, ez9, iz9, rz9, hf⟩ := cc_g_s hw hf
  refine cw_get (val := .int (rI z9)) B hw rz9 ⟨by decide, by decide⟩ (by decide) cwi_8 cfl_X7_18 ez9 rfl dX7_scan_108 ?_
  refine lv_sipush (v := rI 261) hx hb dX7_scan_111 (by decide +kernel) ?_
  refine rn_icmp_eq (a := z9) (b := 261) (tgt := 127) hx hb iz9 ⟨by decide, by decide⟩ dX7_scan_114 (by decide) (fun c10 => ?_) (fun c10 => ?_)
  · replace hf := cc_if_t hf c10
    exact cw_retv B hf hw dX7_scan_127
  · replace hf := cc_if_f hf c10
    refine cl_aload_n hx hb dX7_scan_117 rfl (lv_at hl.1 0 rfl) ?_
    obtain ⟨z11, ez11, iz11, rz11, hf⟩ := cc_g_s hw hf
    refine cw_get (val := .int (rI z11)) B hw rz11 ⟨by decide, by decide⟩ (by decide) cwi_8 cfl_X7_18 ez11 rfl dX7_scan_118 ?_
    refine lv_sipush (v := rI 260) hx hb dX7_scan_121 (by decide +kernel) ?_
    refine rn_icmp_ne (a := z11) (b := 260) (tgt := 128) hx hb iz11 ⟨by decide, by decide⟩ dX7_scan_124 (by decide) (fun c12 => ?_) (fun c12 => ?_)
    · replace hf := cc_if_t hf c12
      refine lv_iload_n hx hb dX7_scan_128 rfl (lv_at hl.1 1 rfl) ?_
      refine cl_aload_n hx hb dX7_scan_129 rfl (lv_at hl.1 0 rfl) ?_
      obtain ⟨z13, ez13, iz13, rz13, hf⟩ := cc_g_s hw hf
      refine cw_get (val := .int (rI z13)) B hw rz13 ⟨by decide, by decide⟩ (by decide) cwi_8 cfl_X7_24 ez13 rfl dX7_scan_130 ?_
      obtain ⟨z14, ez14, iz14, hf⟩ := cc_ck_s hf
      refine rn_add hx hb ez14 dX7_scan_133 ?_
      refine cl_istore_n (lv' := [(1, .int (rI z14)), (0, cR v x0), (2, .int (rI x2))]) hx hb dX7_scan_134 rfl hl (by decide) rfl (fun ls hl => ?_)
      obtain ⟨z15, ez15, iz15, hf⟩ := cc_ck_s hf
      refine cl_iinc (v := rI z15) (lv' := [(2, .int (rI z15)), (1, .int (rI z14)), (0, cR v x0)]) hx hb dX7_scan_135 hl (k := 2) rfl (by rw [ez15]; exact rI_add _ _) (by decide) rfl (fun ls hl => ?_)
      refine lv_goto (tgt := 4) hx hb dX7_scan_138 (by decide) ?_
      exact hk4 σ8 x0 z14 z15 ix0 iz14 iz15 hf _ _ _ _ _ hw (cl_sub hl [2, 1, 0] rfl)
    · replace hf := cc_if_f hf c12
      exact cw_retv B hf hw dX7_scan_127

set_option maxHeartbeats 4000000 in
set_option maxRecDepth 100000 in
theorem pw_X7_scan_77 {v : cwE} {bd : cBd} {p : Program} {l : Launch} {e : Env} {s : State} {m : MethodId} {args : Array Value} {below : List Frame} {meth : Method} {c : Code} {d : Nat} {rec : Nat → CS → List Int → CO} {σ0 σ' : CS} {kd : Nat} {r : Int} (hbd : bd = cw_bd v) (hR : cw_Rec l v d rec) (htr : l.stackTraces = false) (hd5 : 5 ≤ d) (B : cw_B v RX7 p s m args meth c cX7_scan 3 none) (hnh : ∀ x ∈ c.exceptionTable.toList, False) (k4 : CS → Int → Int → Int → CO) (hk4 : ∀ (σ : CS) (x0 x1 x2 : Int), inR x0 → inR x1 → inR x2 → k4 σ x0 x1 x2 = some (σ', kd, r) → ∀ (H : Heap) (locs : List Loc) (cells slots : Nat) (ls : Array Slot), cw_W v s σ0 σ H locs cells slots → cl_has ls 3 [(0, cR v x0), (1, .int (rI x1)), (2, .int (rI x2))] → W p l e (cw_rm v (d + 1) σ0) s m args below meth c H locs cells slots (cw_Z below v σ0 σ' kd none args s) (F0 m 4 ls [])) : ∀ (σ : CS) (x0 x1 x2 t0 t1 : Int), inR x0 → inR x1 → inR x2 → inR t0 → inR t1 → pc_X7_scan_77 rec bd k4 σ x0 x1 x2 t0 t1 = some (σ', kd, r) → ∀ (H : Heap) (locs : List Loc) (cells slots : Nat) (ls : Array Slot), cw_W v s σ0 σ H locs cells slots → cl_has ls 3 [(0, cR v x0), (1, .int (rI x1)), (2, .int (rI x2))] → W p l e (cw_rm v (d + 1) σ0) s m args below meth c H locs cells slots (cw_Z below v σ0 σ' kd none args s) (F0 m 77 ls [.int (rI t0), cR v t1]) := by
  subst hbd
  obtain ⟨hx, hb, hr, hml, hown, hts, hlk, hK⟩ := id B
  intro σ x0 x1 x2 t0 t1 ix0 ix1 ix2 it0 it1 hf H locs cells slots ls hw hl
  unfold pc_X7_scan_77 at hf
  obtain ⟨σ1, eσ1, rσ1, hf⟩ := cc_p_s hf
  refine cw_put B hw rσ1 cwt_8 (by decide) rfl cfl_X7_18 it0 eσ1 rfl (cw_fv_n rfl rfl) dX7_scan_77 (fun H locs hw => ?_)
  exact pw_X7_scan_80 rfl hR htr hd5 B hnh k4 hk4 σ1 x0 x1 x2 ix0 ix1 ix2 hf _ _ _ _ _ hw (cl_sub hl [0, 1, 2] rfl)

set_option maxHeartbeats 4000000 in
set_option maxRecDepth 100000 in
theorem pw_X7_scan_4 {v : cwE} {bd : cBd} {p : Program} {l : Launch} {e : Env} {s : State} {m : MethodId} {args : Array Value} {below : List Frame} {meth : Method} {c : Code} {d : Nat} {rec : Nat → CS → List Int → CO} {σ0 σ' : CS} {kd : Nat} {r : Int} (hbd : bd = cw_bd v) (hR : cw_Rec l v d rec) (htr : l.stackTraces = false) (hd5 : 5 ≤ d) (B : cw_B v RX7 p s m args meth c cX7_scan 3 none) (hnh : ∀ x ∈ c.exceptionTable.toList, False) : ∀ (n : Nat) (σ : CS) (x0 x1 x2 : Int), inR x0 → inR x1 → inR x2 → pc_X7_scan_4 rec bd n σ x0 x1 x2 = some (σ', kd, r) → ∀ (H : Heap) (locs : List Loc) (cells slots : Nat) (ls : Array Slot), cw_W v s σ0 σ H locs cells slots → cl_has ls 3 [(0, cR v x0), (1, .int (rI x1)), (2, .int (rI x2))] → W p l e (cw_rm v (d + 1) σ0) s m args below meth c H locs cells slots (cw_Z below v σ0 σ' kd none args s) (F0 m 4 ls []) := by
  subst hbd
  obtain ⟨hx, hb, hr, hml, hown, hts, hlk, hK⟩ := id B
  intro n
  induction n with
  | zero => intro σ x0 x1 x2 ix0 ix1 ix2 hf; cases hf
  | succ n ih =>
    intro σ x0 x1 x2 ix0 ix1 ix2 hf H locs cells slots ls hw hl
    unfold pc_X7_scan_4 at hf
    refine lv_iload_n hx hb dX7_scan_4 rfl (lv_at hl.1 2 rfl) ?_
    refine cl_aload_n hx hb dX7_scan_5 rfl (lv_at hl.1 0 rfl) ?_
    obtain ⟨z1, ez1, iz1, rz1, hf⟩ := cc_g_s hw hf
    refine cw_get (val := cR v z1) B hw rz1 ⟨by decide, by decide⟩ (by decide) cwi_8 cfl_X7_38 ez1 rfl dX7_scan_6 ?_
    obtain ⟨z2, ez2, iz2, rz2, hf⟩ := cc_l_s hf
    refine cw_len B hw rz2 (by decide) ez2 iz2 dX7_scan_9 ?_
    refine rn_icmp_ge (a := x2) (b := z2) (tgt := 141) hx hb ix2 iz2 dX7_scan_10 (by decide) (fun c3 => ?_) (fun c3 => ?_)
    · replace hf := cc_if_t hf c3
      exact cw_retv B hf hw dX7_scan_141
    · replace hf := cc_if_f hf c3
      refine cl_aload_n hx hb dX7_scan_13 rfl (lv_at hl.1 0 rfl) ?_
      refine lv_iload_n hx hb dX7_scan_14 rfl (lv_at hl.1 1 rfl) ?_
      obtain ⟨qσ4, hf⟩ := cc_t_s hf
      obtain ⟨σ4, kv5, z6, hσ4, hf⟩ := cc_cl_s hf
      obtain ⟨iz6, mσ4⟩ := hR 113 σ [x0, x1] σ4 kv5 z6 hσ4
      have mσ4 : cw_Met l v yX7_behindBlanks cX7_behindBlanks 5 (some .int) d [cR v x0, .int (rI x1)] σ σ4 kv5 (some (.int (rI z6))) := mσ4 ix0 ix1
      refine cw_cv (b := x0) (t := 8) (n := 1) (rest := []) (As := [.int (rI x1)]) B mσ4 qσ4 ⟨by decide, by decide⟩ cgo_yX7_behindBlanks cml_X7_164 cin_yX7_behindBlanks cse_yX7_behindBlanks (by decide +kernel) (by decide) rfl hl.1.1 (Nat.le_of_ble_eq_true rfl) dX7_scan_15 rfl hw (fun h0 H locs cells slots hw => ?_) (fun h0 H locs cells slots q ce hw h1 h2 h3 => ?_)
      · rcases hf with ⟨-, hf⟩ | ⟨hk, -⟩
        · skip
          refine cl_istore_n (lv' := [(1, .int (rI z6)), (0, cR v x0), (2, .int (rI x2))]) hx hb dX7_scan_18 rfl hl (by decide) rfl (fun ls hl => ?_)
          refine cl_aload_n hx hb dX7_scan_19 rfl (lv_at hl.1 1 rfl) ?_
          refine lv_iload_n hx hb dX7_scan_20 rfl (lv_at hl.1 0 rfl) ?_
          obtain ⟨σ7, eσ7, rσ7, hf⟩ := cc_p_s hf
          refine cw_put B hw rσ7 cwt_8 (by decide) rfl cfl_X7_21 iz6 eσ7 rfl (cw_fv_n rfl rfl) dX7_scan_21 (fun H locs hw => ?_)
          refine cl_aload_n hx hb dX7_scan_24 rfl (lv_at hl.1 1 rfl) ?_
          refine lv_iconst (v := rI 1) hx hb dX7_scan_25 rfl ?_
          obtain ⟨σ8, eσ8, rσ8, hf⟩ := cc_p_s hf
          refine cw_put B hw rσ8 cwt_8 (by decide) rfl cfl_X7_24 ⟨by decide, by decide⟩ eσ8 rfl (cw_fv_n rfl rfl) dX7_scan_26 (fun H locs hw => ?_)
          refine lv_iload_n hx hb dX7_scan_29 rfl (lv_at hl.1 0 rfl) ?_
          refine cl_aload_n hx hb dX7_scan_30 rfl (lv_at hl.1 1 rfl) ?_
          obtain ⟨z9, ez9, iz9, rz9, hf⟩ := cc_g_s hw hf
          refine cw_get (val := .int (rI z9)) B hw rz9 ⟨by decide, by decide⟩ (by decide) cwi_8 cfl_X7_9 ez9 rfl dX7_scan_31 ?_
          refine rn_icmp_lt (a := z6) (b := z9) (tgt := 47) hx hb iz6 iz9 dX7_scan_34 (by decide) (fun c10 => ?_) (fun c10 => ?_)
          · replace hf := cc_if_t hf c10
            refine cl_aload_n hx hb dX7_scan_47 rfl (lv_at hl.1 1 rfl) ?_
            refine cl_aload_n hx hb dX7_scan_48 rfl (lv_at hl.1 1 rfl) ?_
            obtain ⟨z11, ez11, iz11, rz11, hf⟩ := cc_g_s hw hf
            refine cw_get (val := cR v z11) B hw rz11 ⟨by decide, by decide⟩ (by decide) cwi_8 cfl_X7_30 ez11 rfl dX7_scan_49 ?_
            refine lv_iload_n hx hb dX7_scan_52 rfl (lv_at hl.1 0 rfl) ?_
            obtain ⟨z12, ez12, iz12, rz12, bz12, hf⟩ := cc_r_s hw hf
            refine cw_aldB B hw rz12 iz6 bz12 ez12 dX7_scan_53 ?_
            obtain ⟨σ13, kv14, z15, hσ13, hf⟩ := cc_cl_s hf
            obtain ⟨iz15, mσ13⟩ := hR 118 σ8 [z12] σ13 kv14 z15 hσ13
            have mσ13 : cw_Met l v yX7_isLetter cX7_isLetter 1 (some .boolean) d [.int (rI z12)] σ8 σ13 kv14 (some (.int (rI z15))) := mσ13 iz12
            refine cw_cs (n := 1) (rest := [cR v x0]) (As := [.int (rI z12)]) B mσ13 cgo_yX7_isLetter cml_X7_168 cst_yX7_isLetter (by decide +kernel) (by decide) rfl hl.1.1 (cl_cs (cl_1r cl_10) (Nat.le_of_ble_eq_true rfl)) dX7_scan_54 rfl hw (fun h0 H locs cells slots hw => ?_) (fun h0 H locs cells slots q ce hw h1 h2 h3 => ?_)
            · rcases hf with ⟨-, hf⟩ | ⟨hk, -⟩
              · skip
                refine rn_if_eq (a := z15) (tgt := 67) hx hb iz15 dX7_scan_57 (by decide) (fun c16 => ?_) (fun c16 => ?_)
                · replace hf := cc_if_t hf c16
                  refine cl_aload_n hx hb dX7_scan_67 rfl (lv_at hl.1 1 rfl) ?_
                  refine cl_aload_n hx hb dX7_scan_68 rfl (lv_at hl.1 1 rfl) ?_
                  obtain ⟨z17, ez17, iz17, rz17, hf⟩ := cc_g_s hw hf
                  refine cw_get (val := cR v z17) B hw rz17 ⟨by decide, by decide⟩ (by decide) cwi_8 cfl_X7_30 ez17 rfl dX7_scan_69 ?_
                  refine lv_iload_n hx hb dX7_scan_72 rfl (lv_at hl.1 0 rfl) ?_
                  obtain ⟨z18, ez18, iz18, rz18, bz18, hf⟩ := cc_r_s hw hf
                  refine cw_aldB B hw rz18 iz6 bz18 ez18 dX7_scan_73 ?_
                  obtain ⟨qσ19, hf⟩ := cc_t_s hf
                  obtain ⟨σ19, kv20, z21, hσ19, hf⟩ := cc_cl_s hf
                  obtain ⟨iz21, mσ19⟩ := hR 128 σ13 [x0, z18] σ19 kv20 z21 hσ19
                  have mσ19 : cw_Met l v yX7_signToken cX7_signToken 3 (some .int) d [cR v x0, .int (rI z18)] σ13 σ19 kv20 (some (.int (rI z21))) := mσ19 ix0 iz18
                  refine cw_cv (b := x0) (t := 8) (n := 1) (rest := [cR v x0]) (As := [.int (rI z18)]) B mσ19 qσ19 ⟨by decide, by decide⟩ cgo_yX7_signToken cml_X7_175 cin_yX7_signToken cse_yX7_signToken (by decide +kernel) (by decide) rfl hl.1.1 (cl_cs (cl_1r cl_10) (Nat.le_of_ble_eq_true rfl)) dX7_scan_74 rfl hw (fun h0 H locs cells slots hw => ?_) (fun h0 H locs cells slots q ce hw h1 h2 h3 => ?_)
                  · rcases hf with ⟨-, hf⟩ | ⟨hk, -⟩
                    · skip
                      exact pw_X7_scan_77 rfl hR htr hd5 B hnh (pc_X7_scan_4 rec (cw_bd v) n) ih σ19 x0 z6 x2 z21 x0 ix0 iz6 ix2 iz21 ix0 hf _ _ _ _ _ hw (cl_sub hl [1, 0, 2] rfl)
                    · exact absurd h0 hk
                  · rcases hf with ⟨hk, -⟩ | ⟨-, hf⟩
                    · exact absurd hk h0
                    · cases hf
                      exact cw_xout B hnh h0 hw h1 h2 h3
                · replace hf := cc_if_f hf c16
                  refine cl_aload_n hx hb dX7_scan_60 rfl (lv_at hl.1 1 rfl) ?_
                  obtain ⟨qσ22, hf⟩ := cc_t_s hf
                  obtain ⟨σ22, kv23, z24, hσ22, hf⟩ := cc_cl_s hf
                  obtain ⟨iz24, mσ22⟩ := hR 122 σ13 [x0] σ22 kv23 z24 hσ22
                  have mσ22 : cw_Met l v yX7_nameToken cX7_nameToken 3 (some .int) d [cR v x0] σ13 σ22 kv23 (some (.int (rI z24))) := mσ22 ix0
                  refine cw_cv (b := x0) (t := 8) (n := 0) (rest := [cR v x0]) (As := []) B mσ22 qσ22 ⟨by decide, by decide⟩ cgo_yX7_nameToken cml_X7_172 cin_yX7_nameToken cse_yX7_nameToken (by decide +kernel) (by decide) rfl hl.1.1 (cl_cs (cl_1r cl_10) (Nat.le_of_ble_eq_true rfl)) dX7_scan_61 rfl hw (fun h0 H locs cells slots hw => ?_) (fun h0 H locs cells slots q ce hw h1 h2 h3 => ?_)
                  · rcases hf with ⟨-, hf⟩ | ⟨hk, -⟩
                    · skip
                      refine lv_goto (tgt := 77) hx hb dX7_scan_64 (by decide) ?_
                      exact pw_X7_scan_77 rfl hR htr hd5 B hnh (pc_X7_scan_4 rec (cw_bd v) n) ih σ22 x0 z6 x2 z24 x0 ix0 iz6 ix2 iz24 ix0 hf _ _ _ _ _ hw (cl_sub hl [1, 0, 2] rfl)
                    · exact absurd h0 hk
                  · rcases hf with ⟨hk, -⟩ | ⟨-, hf⟩
                    · exact absurd hk h0
                    · cases hf
                      exact cw_xout B hnh h0 hw h1 h2 h3
              · exact absurd h0 hk
            · rcases hf with ⟨hk, -⟩ | ⟨-, hf⟩
              · exact absurd hk h0
              · cases hf
                exact cw_xout B hnh h0 hw h1 h2 h3
          · replace hf := cc_if_f hf c10
            refine cl_aload_n hx hb dX7_scan_37 rfl (lv_at hl.1 1 rfl) ?_
            refine lv_sipush (v := rI 261) hx hb dX7_scan_38 (by decide +kernel) ?_
            obtain ⟨σ25, eσ25, rσ25, hf⟩ := cc_p_s hf
            refine cw_put B hw rσ25 cwt_8 (by decide) rfl cfl_X7_18 ⟨by decide, by decide⟩ eσ25 rfl (cw_fv_n rfl rfl) dX7_scan_41 (fun H locs hw => ?_)
            refine lv_goto (tgt := 80) hx hb dX7_scan_44 (by decide) ?_
            exact pw_X7_scan_80 rfl hR htr hd5 B hnh (pc_X7_scan_4 rec (cw_bd v) n) ih σ25 x0 z6 x2 ix0 iz6 ix2 hf _ _ _ _ _ hw (cl_sub hl [1, 0, 2] rfl)
        · exact absurd h0 hk
      · rcases hf with ⟨hk, -⟩ | ⟨-, hf⟩
        · exact absurd hk h0
        · cases hf
          exact cw_xout B hnh h0 hw h1 h2 h3

set_option maxHeartbeats 4000000 in
set_option maxRecDepth 100000 in
theorem pw_X7_scan_0 {v : cwE} {bd : cBd} {p : Program} {l : Launch} {e : Env} {s : State} {m : MethodId} {args : Array Value} {below : List Frame} {meth : Method} {c : Code} {d : Nat} {rec : Nat → CS → List Int → CO} {σ0 σ' : CS} {kd : Nat} {r : Int} (hbd : bd = cw_bd v) (hR : cw_Rec l v d rec) (htr : l.stackTraces = false) (hd5 : 5 ≤ d) (B : cw_B v RX7 p s m args meth c cX7_scan 3 none) (hnh : ∀ x ∈ c.exceptionTable.toList, False) : ∀ (σ : CS) (x0 : Int), inR x0 → pc_X7_scan_0 rec bd σ x0 = some (σ', kd, r) → ∀ (H : Heap) (locs : List Loc) (cells slots : Nat) (ls : Array Slot), cw_W v s σ0 σ H locs cells slots → cl_has ls 3 [(0, cR v x0)] → W p l e (cw_rm v (d + 1) σ0) s m args below meth c H locs cells slots (cw_Z below v σ0 σ' kd none args s) (F0 m 0 ls []) := by
  subst hbd
  obtain ⟨hx, hb, hr, hml, hown, hts, hlk, hK⟩ := id B
  intro σ x0 ix0 hf H locs cells slots ls hw hl
  unfold pc_X7_scan_0 at hf
  refine lv_iconst (v := rI 0) hx hb dX7_scan_0 rfl ?_
  refine cl_istore_n (lv' := [(1, .int (rI 0)), (0, cR v x0)]) hx hb dX7_scan_1 rfl hl (by decide) rfl (fun ls hl => ?_)
  refine lv_iconst (v := rI 0) hx hb dX7_scan_2 rfl ?_
  refine cl_istore_n (lv' := [(2, .int (rI 0)), (1, .int (rI 0)), (0, cR v x0)]) hx hb dX7_scan_3 rfl hl (by decide) rfl (fun ls hl => ?_)
  exact pw_X7_scan_4 rfl hR htr hd5 B hnh 2000000 σ x0 0 0 ix0 ⟨by decide, by decide⟩ ⟨by decide, by decide⟩ hf _ _ _ _ _ hw (cl_sub hl [2, 1, 0] rfl)

set_option maxHeartbeats 4000000 in
set_option maxRecDepth 100000 in
theorem pm_X7_scan {v : cwE} {bd : cBd} {l : Launch} {d : Nat} {rec : Nat → CS → List Int → CO} (hbd : bd = cw_bd v) (hR : cw_Rec l v d rec) (htr : l.stackTraces = false) (hd5 : 5 ≤ d) (σ σ' : CS) (x0 : Int) (kd : Nat) (r : Int) (ix0 : inR x0) (hf : pc_X7_scan_0 rec bd σ x0 = some (σ', kd, r)) : cw_Met l v yX7_scan cX7_scan 3 none (d + 1) [cR v x0] σ σ' kd none := by
  refine cw_ofW (by decide +kernel) ?_
  intro p e s m args below meth c s₁ B hml hv
  obtain ⟨rfl, hM, hK⟩ := hv
  have hts := atoms_spec (ws := Cond.code yX7_scan cX7_scan 3 none :: cw_bw) B.pre
  have hB : cw_B v RX7 p s m _ meth c cX7_scan 3 none := ⟨B.exec, B.bytes, B.returns, hml, findClass_of_methodNamed B.named, fun w h => hts w (List.mem_cons_of_mem _ h), B.notSynchronized, hK⟩
  have hnh := cc_nh B (hts _ List.mem_cons_self)
  rw [lg_entry_eq]
  obtain ⟨ls, hls, hl⟩ := cl_ent [cR v x0] 3 (cl_1r cl_10) (Nat.le_of_ble_eq_true rfl)
  rw [hls]
  exact pw_X7_scan_0 hbd hR htr hd5 hB hnh σ x0 ix0 hf _ _ _ _ _ (cw_W0 hM) (cl_sub hl [0] rfl)

set_option maxHeartbeats 4000000 in
set_option maxRecDepth 100000 in
theorem pw_X7_signToken_71 {v : cwE} {bd : cBd} {p : Program} {l : Launch} {e : Env} {s : State} {m : MethodId} {args : Array Value} {below : List Frame} {meth : Method} {c : Code} {d : Nat} {rec : Nat → CS → List Int → CO} {σ0 σ' : CS} {kd : Nat} {r : Int} (hbd : bd = cw_bd v) (hR : cw_Rec l v d rec) (htr : l.stackTraces = false) (hd5 : 5 ≤ d) (B : cw_B v RX7 p s m args meth c cX7_signToken 3 (some .int)) (hnh : ∀ x ∈ c.exceptionTable.toList, False) : ∀ (σ : CS) (x1 : Int), inR x1 → pc_X7_signToken_71 rec bd σ x1 = some (σ', kd, r) → ∀ (H : Heap) (locs : List Loc) (cells slots : Nat) (ls : Array Slot), cw_W v s σ0 σ H locs cells slots → cl_has ls 3 [(1, .int (rI x1))] → W p l e (cw_rm v (d + 1) σ0) s m args below meth c H locs cells slots (cw_Z below v σ0 σ' kd (some (.int (rI r))) args s) (F0 m 71 ls []) := by
  subst hbd
  obtain ⟨hx, hb, hr, hml, hown, hts, hlk, hK⟩ := id B
  intro σ x1 ix1 hf H locs cells slots ls hw hl
  unfold pc_X7_signToken_71 at hf
  refine lv_iload_n hx hb dX7_signToken_71 rfl (lv_at hl.1 0 rfl) ?_
  by_cases c1 : x1 = 33
  · replace hf := cc_if_t hf c1
    refine rn_look (tgt := 156) hx hb ix1 dX7_signToken_72 (by decide) (lk_eq c1) (by decide) ?_
    refine lv_iload_n hx hb dX7_signToken_156 rfl (lv_at hl.1 0 rfl) ?_
    exact cw_reti B hf hw dX7_signToken_157
  · replace hf := cc_if_f hf c1
    by_cases c2 : x1 = 40
    · replace hf := cc_if_t hf c2
      refine rn_look (tgt := 156) hx hb ix1 dX7_signToken_72 (by decide) (lk_ne c1 (lk_eq c2)) (by decide) ?_
      refine lv_iload_n hx hb dX7_signToken_156 rfl (lv_at hl.1 0 rfl) ?_
      exact cw_reti B hf hw dX7_signToken_157
    · replace hf := cc_if_f hf c2
      by_cases c3 : x1 = 41
      · replace hf := cc_if_t hf c3
        refine rn_look (tgt := 156) hx hb ix1 dX7_signToken_72 (by decide) (lk_ne c1 (lk_ne c2 (lk_eq c3))) (by decide) ?_
        refine lv_iload_n hx hb dX7_signToken_156 rfl (lv_at hl.1 0 rfl) ?_
        exact cw_reti B hf hw dX7_signToken_157
      · replace hf := cc_if_f hf c3
        by_cases c4 : x1 = 44
        · replace hf := cc_if_t hf c4
          refine rn_look (tgt := 156) hx hb ix1 dX7_signToken_72 (by decide) (lk_ne c1 (lk_ne c2 (lk_ne c3 (lk_eq c4)))) (by decide) ?_
          refine lv_iload_n hx hb dX7_signToken_156 rfl (lv_at hl.1 0 rfl) ?_
          exact cw_reti B hf hw dX7_signToken_157
        · replace hf := cc_if_f hf c4
          by_cases c5 : x1 = 46
          · replace hf := cc_if_t hf c5
            refine rn_look (tgt := 156) hx hb ix1 dX7_signToken_72 (by decide) (lk_ne c1 (lk_ne c2 (lk_ne c3 (lk_ne c4 (lk_eq c5))))) (by decide) ?_
            refine lv_iload_n hx hb dX7_signToken_156 rfl (lv_at hl.1 0 rfl) ?_
            exact cw_reti B hf hw dX7_signToken_157
          · replace hf := cc_if_f hf c5
            by_cases c6 : x1 = 58
            · replace hf := cc_if_t hf c6
              refine rn_look (tgt := 156) hx hb ix1 dX7_signToken_72 (by decide) (lk_ne c1 (lk_ne c2 (lk_ne c3 (lk_ne c4 (lk_ne c5 (lk_eq c6)))))) (by decide) ?_
              refine lv_iload_n hx hb dX7_signToken_156 rfl (lv_at hl.1 0 rfl) ?_
              exact cw_reti B hf hw dX7_signToken_157
            · replace hf := cc_if_f hf c6
              by_cases c7 : x1 = 59
              · replace hf := cc_if_t hf c7
                refine rn_look (tgt := 156) hx hb ix1 dX7_signToken_72 (by decide) (lk_ne c1 (lk_ne c2 (lk_ne c3 (lk_ne c4 (lk_ne c5 (lk_ne c6 (lk_eq c7))))))) (by decide) ?_
                refine lv_iload_n hx hb dX7_signToken_156 rfl (lv_at hl.1 0 rfl) ?_
                exact cw_reti B hf hw dX7_signToken_157
              · replace hf := cc_if_f hf c7
                by_cases c8 : x1 = 61
                · replace hf := cc_if_t hf c8
                  refine rn_look (tgt := 156) hx hb ix1 dX7_signToken_72 (by decide) (lk_ne c1 (lk_ne c2 (lk_ne c3 (lk_ne c4 (lk_ne c5 (lk_ne c6 (lk_ne c7 (lk_eq c8)))))))) (by decide) ?_
                  refine lv_iload_n hx hb dX7_signToken_156 rfl (lv_at hl.1 0 rfl) ?_
                  exact cw_reti B hf hw dX7_signToken_157
                · replace hf := cc_if_f hf c8
                  by_cases c9 : x1 = 92
                  · replace hf := cc_if_t hf c9
                    refine rn_look (tgt := 156) hx hb ix1 dX7_signToken_72 (by decide) (lk_ne c1 (lk_ne c2 (lk_ne c3 (lk_ne c4 (lk_ne c5 (lk_ne c6 (lk_ne c7 (lk_ne c8 (lk_eq c9))))))))) (by decide) ?_
                    refine lv_iload_n hx hb dX7_signToken_156 rfl (lv_at hl.1 0 rfl) ?_
                    exact cw_reti B hf hw dX7_signToken_157
                  · replace hf := cc_if_f hf c9
                    refine rn_look (tgt := 158) hx hb ix1 dX7_signToken_72 (by decide) (lk_ne c1 (lk_ne c2 (lk_ne c3 (lk_ne c4 (lk_ne c5 (lk_ne c6 (lk_ne c7 (lk_ne c8 (lk_ne c9 lk_nil))))))))) (by decide) ?_
                    refine lv_sipush (v := rI 260) hx hb dX7_signToken_158 (by decide +kernel) ?_
                    exact cw_reti B hf hw dX7_signToken_161

set_option maxHeartbeats 4000000 in
set_option maxRecDepth 100000 in
theorem pw_X7_signToken_50 {v : cwE} {bd : cBd} {p : Program} {l : Launch} {e : Env} {s : State} {m : MethodId} {args : Array Value} {below : List Frame} {meth : Method} {c : Code} {d : Nat} {rec : Nat → CS → List Int → CO} {σ0 σ' : CS} {kd : Nat} {r : Int} (hbd : bd = cw_bd v) (hR : cw_Rec l v d rec) (htr : l.stackTraces = false) (hd5 : 5 ≤ d) (B : cw_B v RX7 p s m args meth c cX7_signToken 3 (some .int)) (hnh : ∀ x ∈ c.exceptionTable.toList, False) : ∀ (σ : CS) (x0 x1 x2 : Int), inR x0 → inR x1 → inR x2 → pc_X7_signToken_50 rec bd σ x0 x1 x2 = some (σ', kd, r) → ∀ (H : Heap) (locs : List Loc) (cells slots : Nat) (ls : Array Slot), cw_W v s σ0 σ H locs cells slots → cl_has ls 3 [(0, cR v x0), (1, .int (rI x1)), (2, .int (rI x2))] → W p l e (cw_rm v (d + 1) σ0) s m args below meth c H locs cells slots (cw_Z below v σ0 σ' kd (some (.int (rI r))) args s) (F0 m 50 ls []) := by
  subst hbd
  obtain ⟨hx, hb, hr, hml, hown, hts, hlk, hK⟩ := id B
  intro σ x0 x1 x2 ix0 ix1 ix2 hf H locs cells slots ls hw hl
  unfold pc_X7_signToken_50 at hf
  refine lv_iload_n hx hb dX7_signToken_50 rfl (lv_at hl.1 1 rfl) ?_
  refine lv_bipush (v := rI 45) hx hb dX7_signToken_51 (by decide +kernel) ?_
  refine rn_icmp_ne (a := x1) (b := 45) (tgt := 71) hx hb ix1 ⟨by decide, by decide⟩ dX7_signToken_53 (by decide) (fun c1 => ?_) (fun c1 => ?_)
  · replace hf := cc_if_t hf c1
    exact pw_X7_signToken_71 rfl hR htr hd5 B hnh σ x1 ix1 hf _ _ _ _ _ hw (cl_sub hl [1] rfl)
  · replace hf := cc_if_f hf c1
    refine lv_iload_n hx hb dX7_signToken_56 rfl (lv_at hl.1 2 rfl) ?_
    refine lv_bipush (v := rI 62) hx hb dX7_signToken_57 (by decide +kernel) ?_
    refine rn_icmp_ne (a := x2) (b := 62) (tgt := 71) hx hb ix2 ⟨by decide, by decide⟩ dX7_signToken_59 (by decide) (fun c2 => ?_) (fun c2 => ?_)
    · replace hf := cc_if_t hf c2
      exact pw_X7_signToken_71 rfl hR htr hd5 B hnh σ x1 ix1 hf _ _ _ _ _ hw (cl_sub hl [1] rfl)
    · replace hf := cc_if_f hf c2
      refine cl_aload_n hx hb dX7_signToken_62 rfl (lv_at hl.1 0 rfl) ?_
      refine lv_iconst (v := rI 2) hx hb dX7_signToken_63 rfl ?_
      obtain ⟨σ3, eσ3, rσ3, hf⟩ := cc_p_s hf
      refine cw_put B hw rσ3 cwt_8 (by decide) rfl cfl_X7_24 ⟨by decide, by decide⟩ eσ3 rfl (cw_fv_n rfl rfl) dX7_signToken_64 (fun H locs hw => ?_)
      refine lv_sipush (v := rI 259) hx hb dX7_signToken_67 (by decide +kernel) ?_
      exact cw_reti B hf hw dX7_signToken_70

set_option maxHeartbeats 4000000 in
set_option maxRecDepth 100000 in
theorem pw_X7_signToken_28 {v : cwE} {bd : cBd} {p : Program} {l : Launch} {e : Env} {s : State} {m : MethodId} {args : Array Value} {below : List Frame} {meth : Method} {c : Code} {d : Nat} {rec : Nat → CS → List Int → CO} {σ0 σ' : CS} {kd : Nat} {r : Int} (hbd : bd = cw_bd v) (hR : cw_Rec l v d rec) (htr : l.stackTraces = false) (hd5 : 5 ≤ d) (B : cw_B v RX7 p s m args meth c cX7_signToken 3 (some .int)) (hnh : ∀ x ∈ c.exceptionTable.toList, False) : ∀ (σ : CS) (x0 x1 t0 : Int), inR x0 → inR x1 → inR t0 → pc_X7_signToken_28 rec bd σ x0 x1 t0 = some (σ', kd, r) → ∀ (H : Heap) (locs : List Loc) (cells slots : Nat) (ls : Array Slot), cw_W v s σ0 σ H locs cells slots → cl_has ls 3 [(0, cR v x0), (1, .int (rI x1))] → W p l e (cw_rm v (d + 1) σ0) s m args below meth c H locs cells slots (cw_Z below v σ0 σ' kd (some (.int (rI r))) args s) (F0 m 28 ls [.int (rI t0)]) := by
  subst hbd
  obtain ⟨hx, hb, hr, hml, hown, hts, hlk, hK⟩ := id B
  intro σ x0 x1 t0 ix0 ix1 it0 hf H locs cells slots ls hw hl
  unfold pc_X7_signToken_28 at hf
  refine cl_istore_n (lv' := [(2, .int (rI t0)), (0, cR v x0), (1, .int (rI x1))]) hx hb dX7_signToken_28 rfl hl (by decide) rfl (fun ls hl => ?_)
  refine lv_iload_n hx hb dX7_signToken_29 rfl (lv_at hl.1 2 rfl) ?_
  refine lv_bipush (v := rI 58) hx hb dX7_signToken_30 (by decide +kernel) ?_
  refine rn_icmp_ne (a := x1) (b := 58) (tgt := 50) hx hb ix1 ⟨by decide, by decide⟩ dX7_signToken_32 (by decide) (fun c1 => ?_) (fun c1 => ?_)
  · replace hf := cc_if_t hf c1
    exact pw_X7_signToken_50 rfl hR htr hd5 B hnh σ x0 x1 t0 ix0 ix1 it0 hf _ _ _ _ _ hw (cl_sub hl [1, 2, 0] rfl)
  · replace hf := cc_if_f hf c1
    refine lv_iload_n hx hb dX7_signToken_35 rfl (lv_at hl.1 0 rfl) ?_
    refine lv_bipush (v := rI 61) hx hb dX7_signToken_36 (by decide +kernel) ?_
    refine rn_icmp_ne (a := t0) (b := 61) (tgt := 50) hx hb it0 ⟨by decide, by decide⟩ dX7_signToken_38 (by decide) (fun c2 => ?_) (fun c2 => ?_)
    · replace hf := cc_if_t hf c2
      exact pw_X7_signToken_50 rfl hR htr hd5 B hnh σ x0 x1 t0 ix0 ix1 it0 hf _ _ _ _ _ hw (cl_sub hl [1, 2, 0] rfl)
    · replace hf := cc_if_f hf c2
      refine cl_aload_n hx hb dX7_signToken_41 rfl (lv_at hl.1 1 rfl) ?_
      refine lv_iconst (v := rI 2) hx hb dX7_signToken_42 rfl ?_
      obtain ⟨σ3, eσ3, rσ3, hf⟩ := cc_p_s hf
      refine cw_put B hw rσ3 cwt_8 (by decide) rfl cfl_X7_24 ⟨by decide, by decide⟩ eσ3 rfl (cw_fv_n rfl rfl) dX7_signToken_43 (fun H locs hw => ?_)
      refine lv_sipush (v := rI 258) hx hb dX7_signToken_46 (by decide +kernel) ?_
      exact cw_reti B hf hw dX7_signToken_49

set_option maxHeartbeats 4000000 in
set_option maxRecDepth 100000 in
theorem pw_X7_signToken_0 {v : cwE} {bd : cBd} {p : Program} {l : Launch} {e : Env} {s : State} {m : MethodId} {args : Array Value} {below : List Frame} {meth : Method} {c : Code} {d : Nat} {rec : Nat → CS → List Int → CO} {σ0 σ' : CS} {kd : Nat} {r : Int} (hbd : bd = cw_bd v) (hR : cw_Rec l v d rec) (htr : l.stackTraces = false) (hd5 : 5 ≤ d) (B : cw_B v RX7 p s m args meth c cX7_signToken 3 (some .int)) (hnh : ∀ x ∈ c.exceptionTable.toList, False) : ∀ (σ : CS) (x0 x1 : Int), inR x0 → inR x1 → pc_X7_signToken_0 rec bd σ x0 x1 = some (σ', kd, r) → ∀ (H : Heap) (locs : List Loc) (cells slots : Nat) (ls : Array Slot), cw_W v s σ0 σ H locs cells slots → cl_has ls 3 [(0, cR v x0), (1, .int (rI x1))] → W p l e (cw_rm v (d + 1) σ0) s m args below meth c H locs cells slots (cw_Z below v σ0 σ' kd (some (.int (rI r))) args s) (F0 m 0 ls []) := by
  subst hbd
  obtain ⟨hx, hb, hr, hml, hown, hts, hlk, hK⟩ := id B
  intro σ x0 x1 ix0 ix1 hf H locs cells slots ls hw hl
  unfold pc_X7_signToken_0 at hf
  refine cl_aload_n hx hb dX7_signToken_0 rfl (lv_at hl.1 0 rfl) ?_
  obtain ⟨z1, ez1, iz1, rz1, hf⟩ := cc_g_s hw hf
  refine cw_get (val := .int (rI z1)) B hw rz1 ⟨by decide, by decide⟩ (by decide) cwi_8 cfl_X7_21 ez1 rfl dX7_signToken_1 ?_
  refine lv_iconst (v := rI 1) hx hb dX7_signToken_4 rfl ?_
  obtain ⟨z2, ez2, iz2, hf⟩ := cc_ck_s hf
  refine rn_add hx hb ez2 dX7_signToken_5 ?_
  refine cl_aload_n hx hb dX7_signToken_6 rfl (lv_at hl.1 0 rfl) ?_
  obtain ⟨z3, ez3, iz3, rz3, hf⟩ := cc_g_s hw hf
  refine cw_get (val := .int (rI z3)) B hw rz3 ⟨by decide, by decide⟩ (by decide) cwi_8 cfl_X7_9 ez3 rfl dX7_signToken_7 ?_
  refine rn_icmp_ge (a := z2) (b := z3) (tgt := 27) hx hb iz2 iz3 dX7_signToken_10 (by decide) (fun c4 => ?_) (fun c4 => ?_)
  · replace hf := cc_if_t hf c4
    refine lv_iconst (v := rI (-1)) hx hb dX7_signToken_27 rfl ?_
    exact pw_X7_signToken_28 rfl hR htr hd5 B hnh σ x0 x1 (-1) ix0 ix1 ⟨by decide, by decide⟩ hf _ _ _ _ _ hw (cl_sub hl [0, 1] rfl)
  · replace hf := cc_if_f hf c4
    refine cl_aload_n hx hb dX7_signToken_13 rfl (lv_at hl.1 0 rfl) ?_
    obtain ⟨z5, ez5, iz5, rz5, hf⟩ := cc_g_s hw hf
    refine cw_get (val := cR v z5) B hw rz5 ⟨by decide, by decide⟩ (by decide) cwi_8 cfl_X7_30 ez5 rfl dX7_signToken_14 ?_
    refine cl_aload_n hx hb dX7_signToken_17 rfl (lv_at hl.1 0 rfl) ?_
    obtain ⟨z6, ez6, iz6, rz6, hf⟩ := cc_g_s hw hf
    refine cw_get (val := .int (rI z6)) B hw rz6 ⟨by decide, by decide⟩ (by decide) cwi_8 cfl_X7_21 ez6 rfl dX7_signToken_18 ?_
    refine lv_iconst (v := rI 1) hx hb dX7_signToken_21 rfl ?_
    obtain ⟨z7, ez7, iz7, hf⟩ := cc_ck_s hf
    refine rn_add hx hb ez7 dX7_signToken_22 ?_
    obtain ⟨z8, ez8, iz8, rz8, bz8, hf⟩ := cc_r_s hw hf
    refine cw_aldB B hw rz8 iz7 bz8 ez8 dX7_signToken_23 ?_
    refine lv_goto (tgt := 28) hx hb dX7_signToken_24 (by decide) ?_
    exact pw_X7_signToken_28 rfl hR htr hd5 B hnh σ x0 x1 z8 ix0 ix1 iz8 hf _ _ _ _ _ hw (cl_sub hl [0, 1] rfl)

set_option maxHeartbeats 4000000 in
set_option maxRecDepth 100000 in
theorem pm_X7_signToken {v : cwE} {bd : cBd} {l : Launch} {d : Nat} {rec : Nat → CS → List Int → CO} (hbd : bd = cw_bd v) (hR : cw_Rec l v d rec) (htr : l.stackTraces = false) (hd5 : 5 ≤ d) (σ σ' : CS) (x0 x1 : Int) (kd : Nat) (r : Int) (ix0 : inR x0) (ix1 : inR x1) (hf : pc_X7_signToken_0 rec bd σ x0 x1 = some (σ', kd, r)) : cw_Met l v yX7_signToken cX7_signToken 3 (some .int) (d + 1) [cR v x0, .int (rI x1)] σ σ' kd (some (.int (rI r))) := by
  refine cw_ofW (by decide +kernel) ?_
  intro p e s m args below meth c s₁ B hml hv
  obtain ⟨rfl, hM, hK⟩ := hv
  have hts := atoms_spec (ws := Cond.code yX7_signToken cX7_signToken 3 (some .int) :: cw_bw) B.pre
  have hB : cw_B v RX7 p s m _ meth c cX7_signToken 3 (some .int) := ⟨B.exec, B.bytes, B.returns, hml, findClass_of_methodNamed B.named, fun w h => hts w (List.mem_cons_of_mem _ h), B.notSynchronized, hK⟩
  have hnh := cc_nh B (hts _ List.mem_cons_self)
  rw [lg_entry_eq]
  obtain ⟨ls, hls, hl⟩ := cl_ent [cR v x0, .int (rI x1)] 3 (cl_1r (cl_1i cl_10)) (Nat.le_of_ble_eq_true rfl)
  rw [hls]
  exact pw_X7_signToken_0 hbd hR htr hd5 hB hnh σ x0 x1 ix0 ix1 hf _ _ _ _ _ (cw_W0 hM) (cl_sub hl [0, 1] rfl)

set_option maxHeartbeats 4000000 in
set_option maxRecDepth 100000 in
theorem pw_X7_statement_130 {v : cwE} {bd : cBd} {p : Program} {l : Launch} {e : Env} {s : State} {m : MethodId} {args : Array Value} {below : List Frame} {meth : Method} {c : Code} {d : Nat} {rec : Nat → CS → List Int → CO} {σ0 σ' : CS} {kd : Nat} {r : Int} (hbd : bd = cw_bd v) (hR : cw_Rec l v d rec) (htr : l.stackTraces = false) (hd5 : 5 ≤ d) (B : cw_B v RX7 p s m args meth c cX7_statement 3 (some (.object "PureHouse$Statement"))) (hnh : ∀ x ∈ c.exceptionTable.toList, False) : ∀ (σ : CS) (x0 x1 x2 : Int), inR x0 → inR x1 → inR x2 → pc_X7_statement_130 rec bd σ x0 x1 x2 = some (σ', kd, r) → ∀ (H : Heap) (locs : List Loc) (cells slots : Nat) (ls : Array Slot), cw_W v s σ0 σ H locs cells slots → cl_has ls 3 [(0, cR v x0), (1, .int (rI x1)), (2, .int (rI x2))] → W p l e (cw_rm v (d + 1) σ0) s m args below meth c H locs cells slots (cw_Z below v σ0 σ' kd (some (cR v r)) args s) (F0 m 130 ls []) := by
  subst hbd
  obtain ⟨hx, hb, hr, hml, hown, hts, hlk, hK⟩ := id B
  intro σ x0 x1 x2 ix0 ix1 ix2 hf H locs cells slots ls hw hl
  unfold pc_X7_statement_130 at hf
  refine cl_aload_n hx hb dX7_statement_130 rfl (lv_at hl.1 0 rfl) ?_
  refine lv_iload_n hx hb dX7_statement_131 rfl (lv_at hl.1 2 rfl) ?_
  refine lv_iload_n hx hb dX7_statement_132 rfl (lv_at hl.1 1 rfl) ?_
  obtain ⟨qσ1, hf⟩ := cc_t_s hf
  obtain ⟨σ1, kv2, z3, hσ1, hf⟩ := cc_cl_s hf
  obtain ⟨iz3, mσ1⟩ := hR 132 σ [x0, x2, x1] σ1 kv2 z3 hσ1
  have mσ1 : cw_Met l v yX7_termStatement cX7_termStatement 5 (some (.object "PureHouse$Statement")) d [cR v x0, .int (rI x2), .int (rI x1)] σ σ1 kv2 (some (cR v z3)) := mσ1 ix0 ix2 ix1
  refine cw_cv (b := x0) (t := 8) (n := 2) (rest := []) (As := [.int (rI x2), .int (rI x1)]) B mσ1 qσ1 ⟨by decide, by decide⟩ cgo_yX7_termStatement cml_X7_99 cin_yX7_termStatement cse_yX7_termStatement (by decide +kernel) (by decide) rfl hl.1.1 (Nat.le_of_ble_eq_true rfl) dX7_statement_133 rfl hw (fun h0 H locs cells slots hw => ?_) (fun h0 H locs cells slots q ce hw h1 h2 h3 => ?_)
  · rcases hf with ⟨-, hf⟩ | ⟨hk, -⟩
    · skip
      exact cw_reta B hf hw dX7_statement_136
    · exact absurd h0 hk
  · rcases hf with ⟨hk, -⟩ | ⟨-, hf⟩
    · exact absurd hk h0
    · cases hf
      exact cw_xout B hnh h0 hw h1 h2 h3

set_option maxHeartbeats 4000000 in
set_option maxRecDepth 100000 in
theorem pw_X7_statement_37 {v : cwE} {bd : cBd} {p : Program} {l : Launch} {e : Env} {s : State} {m : MethodId} {args : Array Value} {below : List Frame} {meth : Method} {c : Code} {d : Nat} {rec : Nat → CS → List Int → CO} {σ0 σ' : CS} {kd : Nat} {r : Int} (hbd : bd = cw_bd v) (hR : cw_Rec l v d rec) (htr : l.stackTraces = false) (hd5 : 5 ≤ d) (B : cw_B v RX7 p s m args meth c cX7_statement 3 (some (.object "PureHouse$Statement"))) (hnh : ∀ x ∈ c.exceptionTable.toList, False) : ∀ (σ : CS) (x0 x1 x2 : Int), inR x0 → inR x1 → inR x2 → pc_X7_statement_37 rec bd σ x0 x1 x2 = some (σ', kd, r) → ∀ (H : Heap) (locs : List Loc) (cells slots : Nat) (ls : Array Slot), cw_W v s σ0 σ H locs cells slots → cl_has ls 3 [(0, cR v x0), (1, .int (rI x1)), (2, .int (rI x2))] → W p l e (cw_rm v (d + 1) σ0) s m args below meth c H locs cells slots (cw_Z below v σ0 σ' kd (some (cR v r)) args s) (F0 m 37 ls []) := by
  subst hbd
  obtain ⟨hx, hb, hr, hml, hown, hts, hlk, hK⟩ := id B
  intro σ x0 x1 x2 ix0 ix1 ix2 hf H locs cells slots ls hw hl
  unfold pc_X7_statement_37 at hf
  refine cl_aload_n hx hb dX7_statement_37 rfl (lv_at hl.1 0 rfl) ?_
  obtain ⟨qσ1, hf⟩ := cc_t_s hf
  obtain ⟨σ1, kv2, z3, hσ1, hf⟩ := cc_cl_s hf
  obtain ⟨iz3, mσ1⟩ := hR 109 σ [x0] σ1 kv2 z3 hσ1
  have mσ1 : cw_Met l v yX7_advance cX7_advance 1 none d [cR v x0] σ σ1 kv2 none := mσ1 ix0
  refine cw_cv (b := x0) (t := 8) (n := 0) (rest := []) (As := []) B mσ1 qσ1 ⟨by decide, by decide⟩ cgo_yX7_advance cml_X7_60 cin_yX7_advance cse_yX7_advance (by decide +kernel) (by decide) rfl hl.1.1 (Nat.le_of_ble_eq_true rfl) dX7_statement_38 rfl hw (fun h0 H locs cells slots hw => ?_) (fun h0 H locs cells slots q ce hw h1 h2 h3 => ?_)
  · rcases hf with ⟨-, hf⟩ | ⟨hk, -⟩
    · skip
      refine lv_iload_n hx hb dX7_statement_41 rfl (lv_at hl.1 2 rfl) ?_
      by_cases c4 : x2 = 0
      · replace hf := cc_if_t hf c4
        refine rn_tab (n := 0) (tgt := 80) hx hb ix2 c4 dX7_statement_42 (by decide) (by decide) rfl (by decide) ?_
        obtain ⟨σ5, z6, eσ5, ez6, iz6, rσ5, hf⟩ := cc_n_s hf
        refine cw_new B hw cwt_10 rfl cwd_10 cnl_X7_81 cni_10 cnz_10 rσ5 eσ5 ez6 dX7_statement_80 (fun H hw => ?_)
        refine lv_dup hx hb dX7_statement_83 (cR_cat _) ?_
        refine lv_iload_n hx hb dX7_statement_84 rfl (lv_at hl.1 2 rfl) ?_
        refine lv_iload_n hx hb dX7_statement_85 rfl (lv_at hl.1 1 rfl) ?_
        refine cl_aload_n hx hb dX7_statement_86 rfl (lv_at hl.1 0 rfl) ?_
        obtain ⟨qσ7, hf⟩ := cc_t_s hf
        obtain ⟨σ7, kv8, z9, hσ7, hf⟩ := cc_cl_s hf
        obtain ⟨iz9, mσ7⟩ := hR 130 σ5 [x0] σ7 kv8 z9 hσ7
        have mσ7 : cw_Met l v yX7_takeName cX7_takeName 2 (some (.object "PureHouse$Node")) d [cR v x0] σ5 σ7 kv8 (some (cR v z9)) := mσ7 ix0
        refine cw_cv (b := x0) (t := 8) (n := 0) (rest := [.int (rI x1), .int (rI x2), cR v z6, cR v z6]) (As := []) B mσ7 qσ7 ⟨by decide, by decide⟩ cgo_yX7_takeName cml_X7_86 cin_yX7_takeName cse_yX7_takeName (by decide +kernel) (by decide) rfl hl.1.1 (cl_cs (cl_1i (cl_1i (cl_1r (cl_1r cl_10)))) (Nat.le_of_ble_eq_true rfl)) dX7_statement_87 rfl hw (fun h0 H locs cells slots hw => ?_) (fun h0 H locs cells slots q ce hw h1 h2 h3 => ?_)
        · rcases hf with ⟨-, hf⟩ | ⟨hk, -⟩
          · skip
            refine cl_null (v := v) hx hb dX7_statement_90 ?_
            refine cl_null (v := v) hx hb dX7_statement_91 ?_
            obtain ⟨qσ10, hf⟩ := cc_t_s hf
            obtain ⟨σ10, z12, hσ10, hf⟩ := cc_ci_s hf
            obtain ⟨iz12, mσ10⟩ := hR 137 σ7 [z6, x2, x1, z9, (-1), (-1)] σ10 0 z12 hσ10
            have mσ10 : cw_Met l v yX9_init cX9_init 6 none d [cR v z6, .int (rI x2), .int (rI x1), cR v z9, cR v (-1), cR v (-1)] σ7 σ10 0 none := mσ10 iz6 ix2 ix1 iz9 ⟨by decide, by decide⟩ ⟨by decide, by decide⟩
            refine cw_ci (b := z6) (n := 5) (rest := [cR v z6]) (As := [.int (rI x2), .int (rI x1), cR v z9, cR v (-1), cR v (-1)]) B mσ10 qσ10.1 rfl cgo_yX9_init cml_X7_90 cin_yX9_init (by decide +kernel) (by decide) rfl hl.1.1 (cl_cs (cl_1r cl_10) (Nat.le_of_ble_eq_true rfl)) dX7_statement_92 rfl hw (fun H locs cells slots hw => ?_)
            exact cw_reta B hf hw dX7_statement_95
          · exact absurd h0 hk
        · rcases hf with ⟨hk, -⟩ | ⟨-, hf⟩
          · exact absurd hk h0
          · cases hf
            exact cw_xout B hnh h0 hw h1 h2 h3
      · replace hf := cc_if_f hf c4
        by_cases c13 : x2 = 1
        · replace hf := cc_if_t hf c13
          refine rn_tab (n := 1) (tgt := 96) hx hb ix2 c13 dX7_statement_42 (by decide) (by decide) rfl (by decide) ?_
          refine cl_aload_n hx hb dX7_statement_96 rfl (lv_at hl.1 0 rfl) ?_
          refine lv_iload_n hx hb dX7_statement_97 rfl (lv_at hl.1 1 rfl) ?_
          obtain ⟨qσ14, hf⟩ := cc_t_s hf
          obtain ⟨σ14, kv15, z16, hσ14, hf⟩ := cc_cl_s hf
          obtain ⟨iz16, mσ14⟩ := hR 112 σ1 [x0, x1] σ14 kv15 z16 hσ14
          have mσ14 : cw_Met l v yX7_axiom cX7_axiom 3 (some (.object "PureHouse$Statement")) d [cR v x0, .int (rI x1)] σ1 σ14 kv15 (some (cR v z16)) := mσ14 ix0 ix1
          refine cw_cv (b := x0) (t := 8) (n := 1) (rest := []) (As := [.int (rI x1)]) B mσ14 qσ14 ⟨by decide, by decide⟩ cgo_yX7_axiom cml_X7_93 cin_yX7_axiom cse_yX7_axiom (by decide +kernel) (by decide) rfl hl.1.1 (Nat.le_of_ble_eq_true rfl) dX7_statement_98 rfl hw (fun h0 H locs cells slots hw => ?_) (fun h0 H locs cells slots q ce hw h1 h2 h3 => ?_)
          · rcases hf with ⟨-, hf⟩ | ⟨hk, -⟩
            · skip
              exact cw_reta B hf hw dX7_statement_101
            · exact absurd h0 hk
          · rcases hf with ⟨hk, -⟩ | ⟨-, hf⟩
            · exact absurd hk h0
            · cases hf
              exact cw_xout B hnh h0 hw h1 h2 h3
        · replace hf := cc_if_f hf c13
          by_cases c17 : x2 = 2
          · replace hf := cc_if_t hf c17
            refine rn_tab (n := 2) (tgt := 102) hx hb ix2 c17 dX7_statement_42 (by decide) (by decide) rfl (by decide) ?_
            obtain ⟨σ18, z19, eσ18, ez19, iz19, rσ18, hf⟩ := cc_n_s hf
            refine cw_new B hw cwt_10 rfl cwd_10 cnl_X7_81 cni_10 cnz_10 rσ18 eσ18 ez19 dX7_statement_102 (fun H hw => ?_)
            refine lv_dup hx hb dX7_statement_105 (cR_cat _) ?_
            refine lv_iload_n hx hb dX7_statement_106 rfl (lv_at hl.1 2 rfl) ?_
            refine lv_iload_n hx hb dX7_statement_107 rfl (lv_at hl.1 1 rfl) ?_
            refine cl_aload_n hx hb dX7_statement_108 rfl (lv_at hl.1 0 rfl) ?_
            obtain ⟨qσ20, hf⟩ := cc_t_s hf
            obtain ⟨σ20, kv21, z22, hσ20, hf⟩ := cc_cl_s hf
            obtain ⟨iz22, mσ20⟩ := hR 130 σ18 [x0] σ20 kv21 z22 hσ20
            have mσ20 : cw_Met l v yX7_takeName cX7_takeName 2 (some (.object "PureHouse$Node")) d [cR v x0] σ18 σ20 kv21 (some (cR v z22)) := mσ20 ix0
            refine cw_cv (b := x0) (t := 8) (n := 0) (rest := [.int (rI x1), .int (rI x2), cR v z19, cR v z19]) (As := []) B mσ20 qσ20 ⟨by decide, by decide⟩ cgo_yX7_takeName cml_X7_86 cin_yX7_takeName cse_yX7_takeName (by decide +kernel) (by decide) rfl hl.1.1 (cl_cs (cl_1i (cl_1i (cl_1r (cl_1r cl_10)))) (Nat.le_of_ble_eq_true rfl)) dX7_statement_109 rfl hw (fun h0 H locs cells slots hw => ?_) (fun h0 H locs cells slots q ce hw h1 h2 h3 => ?_)
            · rcases hf with ⟨-, hf⟩ | ⟨hk, -⟩
              · skip
                refine cl_aload_n hx hb dX7_statement_112 rfl (lv_at hl.1 0 rfl) ?_
                obtain ⟨qσ23, hf⟩ := cc_t_s hf
                obtain ⟨σ23, kv24, z25, hσ23, hf⟩ := cc_cl_s hf
                obtain ⟨iz25, mσ23⟩ := hR 130 σ20 [x0] σ23 kv24 z25 hσ23
                have mσ23 : cw_Met l v yX7_takeName cX7_takeName 2 (some (.object "PureHouse$Node")) d [cR v x0] σ20 σ23 kv24 (some (cR v z25)) := mσ23 ix0
                refine cw_cv (b := x0) (t := 8) (n := 0) (rest := [cR v z22, .int (rI x1), .int (rI x2), cR v z19, cR v z19]) (As := []) B mσ23 qσ23 ⟨by decide, by decide⟩ cgo_yX7_takeName cml_X7_86 cin_yX7_takeName cse_yX7_takeName (by decide +kernel) (by decide) rfl hl.1.1 (cl_cs (cl_1r (cl_1i (cl_1i (cl_1r (cl_1r cl_10))))) (Nat.le_of_ble_eq_true rfl)) dX7_statement_113 rfl hw (fun h0 H locs cells slots hw => ?_) (fun h0 H locs cells slots q ce hw h1 h2 h3 => ?_)
                · rcases hf with ⟨-, hf⟩ | ⟨hk, -⟩
                  · skip
                    refine cl_aload_n hx hb dX7_statement_116 rfl (lv_at hl.1 0 rfl) ?_
                    obtain ⟨qσ26, hf⟩ := cc_t_s hf
                    obtain ⟨σ26, kv27, z28, hσ26, hf⟩ := cc_cl_s hf
                    obtain ⟨iz28, mσ26⟩ := hR 130 σ23 [x0] σ26 kv27 z28 hσ26
                    have mσ26 : cw_Met l v yX7_takeName cX7_takeName 2 (some (.object "PureHouse$Node")) d [cR v x0] σ23 σ26 kv27 (some (cR v z28)) := mσ26 ix0
                    refine cw_cv (b := x0) (t := 8) (n := 0) (rest := [cR v z25, cR v z22, .int (rI x1), .int (rI x2), cR v z19, cR v z19]) (As := []) B mσ26 qσ26 ⟨by decide, by decide⟩ cgo_yX7_takeName cml_X7_86 cin_yX7_takeName cse_yX7_takeName (by decide +kernel) (by decide) rfl hl.1.1 (cl_cs (cl_1r (cl_1r (cl_1i (cl_1i (cl_1r (cl_1r cl_10)))))) (Nat.le_of_ble_eq_true rfl)) dX7_statement_117 rfl hw (fun h0 H locs cells slots hw => ?_) (fun h0 H locs cells slots q ce hw h1 h2 h3 => ?_)
                    · rcases hf with ⟨-, hf⟩ | ⟨hk, -⟩
                      · skip
                        obtain ⟨qσ29, hf⟩ := cc_t_s hf
                        obtain ⟨σ29, z31, hσ29, hf⟩ := cc_ci_s hf
                        obtain ⟨iz31, mσ29⟩ := hR 137 σ26 [z19, x2, x1, z22, z25, z28] σ29 0 z31 hσ29
                        have mσ29 : cw_Met l v yX9_init cX9_init 6 none d [cR v z19, .int (rI x2), .int (rI x1), cR v z22, cR v z25, cR v z28] σ26 σ29 0 none := mσ29 iz19 ix2 ix1 iz22 iz25 iz28
                        refine cw_ci (b := z19) (n := 5) (rest := [cR v z19]) (As := [.int (rI x2), .int (rI x1), cR v z22, cR v z25, cR v z28]) B mσ29 qσ29.1 rfl cgo_yX9_init cml_X7_90 cin_yX9_init (by decide +kernel) (by decide) rfl hl.1.1 (cl_cs (cl_1r cl_10) (Nat.le_of_ble_eq_true rfl)) dX7_statement_120 rfl hw (fun H locs cells slots hw => ?_)
                        exact cw_reta B hf hw dX7_statement_123
                      · exact absurd h0 hk
                    · rcases hf with ⟨hk, -⟩ | ⟨-, hf⟩
                      · exact absurd hk h0
                      · cases hf
                        exact cw_xout B hnh h0 hw h1 h2 h3
                  · exact absurd h0 hk
                · rcases hf with ⟨hk, -⟩ | ⟨-, hf⟩
                  · exact absurd hk h0
                  · cases hf
                    exact cw_xout B hnh h0 hw h1 h2 h3
              · exact absurd h0 hk
            · rcases hf with ⟨hk, -⟩ | ⟨-, hf⟩
              · exact absurd hk h0
              · cases hf
                exact cw_xout B hnh h0 hw h1 h2 h3
          · replace hf := cc_if_f hf c17
            by_cases c32 : x2 = 3
            · replace hf := cc_if_t hf c32
              refine rn_tab (n := 3) (tgt := 130) hx hb ix2 c32 dX7_statement_42 (by decide) (by decide) rfl (by decide) ?_
              exact pw_X7_statement_130 rfl hR htr hd5 B hnh σ1 x0 x1 x2 ix0 ix1 ix2 hf _ _ _ _ _ hw (cl_sub hl [0, 1, 2] rfl)
            · replace hf := cc_if_f hf c32
              by_cases c33 : x2 = 4
              · replace hf := cc_if_t hf c33
                refine rn_tab (n := 4) (tgt := 130) hx hb ix2 c33 dX7_statement_42 (by decide) (by decide) rfl (by decide) ?_
                exact pw_X7_statement_130 rfl hR htr hd5 B hnh σ1 x0 x1 x2 ix0 ix1 ix2 hf _ _ _ _ _ hw (cl_sub hl [0, 1, 2] rfl)
              · replace hf := cc_if_f hf c33
                by_cases c34 : x2 = 5
                · replace hf := cc_if_t hf c34
                  refine rn_tab (n := 5) (tgt := 124) hx hb ix2 c34 dX7_statement_42 (by decide) (by decide) rfl (by decide) ?_
                  refine cl_aload_n hx hb dX7_statement_124 rfl (lv_at hl.1 0 rfl) ?_
                  refine lv_iload_n hx hb dX7_statement_125 rfl (lv_at hl.1 1 rfl) ?_
                  obtain ⟨qσ35, hf⟩ := cc_t_s hf
                  obtain ⟨σ35, kv36, z37, hσ35, hf⟩ := cc_cl_s hf
                  obtain ⟨iz37, mσ35⟩ := hR 126 σ1 [x0, x1] σ35 kv36 z37 hσ35
                  have mσ35 : cw_Met l v yX7_sameStatement cX7_sameStatement 3 (some (.object "PureHouse$Statement")) d [cR v x0, .int (rI x1)] σ1 σ35 kv36 (some (cR v z37)) := mσ35 ix0 ix1
                  refine cw_cv (b := x0) (t := 8) (n := 1) (rest := []) (As := [.int (rI x1)]) B mσ35 qσ35 ⟨by decide, by decide⟩ cgo_yX7_sameStatement cml_X7_96 cin_yX7_sameStatement cse_yX7_sameStatement (by decide +kernel) (by decide) rfl hl.1.1 (Nat.le_of_ble_eq_true rfl) dX7_statement_126 rfl hw (fun h0 H locs cells slots hw => ?_) (fun h0 H locs cells slots q ce hw h1 h2 h3 => ?_)
                  · rcases hf with ⟨-, hf⟩ | ⟨hk, -⟩
                    · skip
                      exact cw_reta B hf hw dX7_statement_129
                    · exact absurd h0 hk
                  · rcases hf with ⟨hk, -⟩ | ⟨-, hf⟩
                    · exact absurd hk h0
                    · cases hf
                      exact cw_xout B hnh h0 hw h1 h2 h3
                · replace hf := cc_if_f hf c34
                  refine rn_tabO (tgt := 130) hx hb ix2 dX7_statement_42 (by omega) (by decide) ?_
                  exact pw_X7_statement_130 rfl hR htr hd5 B hnh σ1 x0 x1 x2 ix0 ix1 ix2 hf _ _ _ _ _ hw (cl_sub hl [0, 1, 2] rfl)
    · exact absurd h0 hk
  · rcases hf with ⟨hk, -⟩ | ⟨-, hf⟩
    · exact absurd hk h0
    · cases hf
      exact cw_xout B hnh h0 hw h1 h2 h3

set_option maxHeartbeats 4000000 in
set_option maxRecDepth 100000 in
theorem pw_X7_statement_33 {v : cwE} {bd : cBd} {p : Program} {l : Launch} {e : Env} {s : State} {m : MethodId} {args : Array Value} {below : List Frame} {meth : Method} {c : Code} {d : Nat} {rec : Nat → CS → List Int → CO} {σ0 σ' : CS} {kd : Nat} {r : Int} (hbd : bd = cw_bd v) (hR : cw_Rec l v d rec) (htr : l.stackTraces = false) (hd5 : 5 ≤ d) (B : cw_B v RX7 p s m args meth c cX7_statement 3 (some (.object "PureHouse$Statement"))) (hnh : ∀ x ∈ c.exceptionTable.toList, False) : ∀ (σ : CS) (x0 x1 x2 : Int), inR x0 → inR x1 → inR x2 → pc_X7_statement_33 rec bd σ x0 x1 x2 = some (σ', kd, r) → ∀ (H : Heap) (locs : List Loc) (cells slots : Nat) (ls : Array Slot), cw_W v s σ0 σ H locs cells slots → cl_has ls 3 [(0, cR v x0), (1, .int (rI x1)), (2, .int (rI x2))] → W p l e (cw_rm v (d + 1) σ0) s m args below meth c H locs cells slots (cw_Z below v σ0 σ' kd (some (cR v r)) args s) (F0 m 33 ls []) := by
  subst hbd
  obtain ⟨hx, hb, hr, hml, hown, hts, hlk, hK⟩ := id B
  intro σ x0 x1 x2 ix0 ix1 ix2 hf H locs cells slots ls hw hl
  unfold pc_X7_statement_33 at hf
  refine cl_aload_n hx hb dX7_statement_33 rfl (lv_at hl.1 0 rfl) ?_
  obtain ⟨qσ1, hf⟩ := cc_t_s hf
  obtain ⟨σ1, kv2, z3, hσ1, hf⟩ := cc_cl_s hf
  obtain ⟨iz3, mσ1⟩ := hR 125 σ [x0] σ1 kv2 z3 hσ1
  have mσ1 : cw_Met l v yX7_refuse cX7_refuse 1 none d [cR v x0] σ σ1 kv2 none := mσ1 ix0
  refine cw_cv (b := x0) (t := 8) (n := 0) (rest := []) (As := []) B mσ1 qσ1 ⟨by decide, by decide⟩ cgo_yX7_refuse cml_X7_83 cin_yX7_refuse cse_yX7_refuse (by decide +kernel) (by decide) rfl hl.1.1 (Nat.le_of_ble_eq_true rfl) dX7_statement_34 rfl hw (fun h0 H locs cells slots hw => ?_) (fun h0 H locs cells slots q ce hw h1 h2 h3 => ?_)
  · rcases hf with ⟨-, hf⟩ | ⟨hk, -⟩
    · skip
      exact pw_X7_statement_37 rfl hR htr hd5 B hnh σ1 x0 x1 x2 ix0 ix1 ix2 hf _ _ _ _ _ hw (cl_sub hl [0, 1, 2] rfl)
    · exact absurd h0 hk
  · rcases hf with ⟨hk, -⟩ | ⟨-, hf⟩
    · exact absurd hk h0
    · cases hf
      exact cw_xout B hnh h0 hw h1 h2 h3

set_option maxHeartbeats 4000000 in
set_option maxRecDepth 100000 in
theorem pw_X7_statement_0 {v : cwE} {bd : cBd} {p : Program} {l : Launch} {e : Env} {s : State} {m : MethodId} {args : Array Value} {below : List Frame} {meth : Method} {c : Code} {d : Nat} {rec : Nat → CS → List Int → CO} {σ0 σ' : CS} {kd : Nat} {r : Int} (hbd : bd = cw_bd v) (hR : cw_Rec l v d rec) (htr : l.stackTraces = false) (hd5 : 5 ≤ d) (B : cw_B v RX7 p s m args meth c cX7_statement 3 (some (.object "PureHouse$Statement"))) (hnh : ∀ x ∈ c.exceptionTable.toList, False) : ∀ (σ : CS) (x0 : Int), inR x0 → pc_X7_statement_0 rec bd σ x0 = some (σ', kd, r) → ∀ (H : Heap) (locs : List Loc) (cells slots : Nat) (ls : Array Slot), cw_W v s σ0 σ H locs cells slots → cl_has ls 3 [(0, cR v x0)] → W p l e (cw_rm v (d + 1) σ0) s m args below meth c H locs cells slots (cw_Z below v σ0 σ' kd (some (cR v r)) args s) (F0 m 0 ls []) := by
  subst hbd
  obtain ⟨hx, hb, hr, hml, hown, hts, hlk, hK⟩ := id B
  intro σ x0 ix0 hf H locs cells slots ls hw hl
  unfold pc_X7_statement_0 at hf
  refine cl_aload_n hx hb dX7_statement_0 rfl (lv_at hl.1 0 rfl) ?_
  obtain ⟨z1, ez1, iz1, rz1, hf⟩ := cc_g_s hw hf
  refine cw_get (val := .int (rI z1)) B hw rz1 ⟨by decide, by decide⟩ (by decide) cwi_8 cfl_X7_21 ez1 rfl dX7_statement_1 ?_
  refine cl_istore_n (lv' := [(1, .int (rI z1)), (0, cR v x0)]) hx hb dX7_statement_4 rfl hl (by decide) rfl (fun ls hl => ?_)
  refine cl_aload_n hx hb dX7_statement_5 rfl (lv_at hl.1 1 rfl) ?_
  obtain ⟨z2, ez2, iz2, rz2, hf⟩ := cc_g_s hw hf
  refine cw_get (val := .int (rI z2)) B hw rz2 ⟨by decide, by decide⟩ (by decide) cwi_8 cfl_X7_18 ez2 rfl dX7_statement_6 ?_
  refine cl_istore_n (lv' := [(2, .int (rI z2)), (1, .int (rI z1)), (0, cR v x0)]) hx hb dX7_statement_9 rfl hl (by decide) rfl (fun ls hl => ?_)
  refine lv_iload_n hx hb dX7_statement_10 rfl (lv_at hl.1 0 rfl) ?_
  refine lv_sipush (v := rI 256) hx hb dX7_statement_11 (by decide +kernel) ?_
  refine rn_icmp_ne (a := z2) (b := 256) (tgt := 23) hx hb iz2 ⟨by decide, by decide⟩ dX7_statement_14 (by decide) (fun c3 => ?_) (fun c3 => ?_)
  · replace hf := cc_if_t hf c3
    refine lv_iload_n hx hb dX7_statement_23 rfl (lv_at hl.1 0 rfl) ?_
    refine rn_if_lt (a := z2) (tgt := 33) hx hb iz2 dX7_statement_24 (by decide) (fun c4 => ?_) (fun c4 => ?_)
    · replace hf := cc_if_t hf c4
      exact pw_X7_statement_33 rfl hR htr hd5 B hnh σ x0 z1 z2 ix0 iz1 iz2 hf _ _ _ _ _ hw (cl_sub hl [2, 1, 0] rfl)
    · replace hf := cc_if_f hf c4
      refine lv_iload_n hx hb dX7_statement_27 rfl (lv_at hl.1 0 rfl) ?_
      refine lv_bipush (v := rI 6) hx hb dX7_statement_28 (by decide +kernel) ?_
      refine rn_icmp_le (a := z2) (b := 6) (tgt := 37) hx hb iz2 ⟨by decide, by decide⟩ dX7_statement_30 (by decide) (fun c5 => ?_) (fun c5 => ?_)
      · replace hf := cc_if_t hf c5
        exact pw_X7_statement_37 rfl hR htr hd5 B hnh σ x0 z1 z2 ix0 iz1 iz2 hf _ _ _ _ _ hw (cl_sub hl [2, 1, 0] rfl)
      · replace hf := cc_if_f hf c5
        exact pw_X7_statement_33 rfl hR htr hd5 B hnh σ x0 z1 z2 ix0 iz1 iz2 hf _ _ _ _ _ hw (cl_sub hl [2, 1, 0] rfl)
  · replace hf := cc_if_f hf c3
    refine cl_aload_n hx hb dX7_statement_17 rfl (lv_at hl.1 2 rfl) ?_
    refine lv_iload_n hx hb dX7_statement_18 rfl (lv_at hl.1 1 rfl) ?_
    obtain ⟨qσ6, hf⟩ := cc_t_s hf
    obtain ⟨σ6, kv7, z8, hσ6, hf⟩ := cc_cl_s hf
    obtain ⟨iz8, mσ6⟩ := hR 121 σ [x0, z1] σ6 kv7 z8 hσ6
    have mσ6 : cw_Met l v yX7_nameStatement cX7_nameStatement 5 (some (.object "PureHouse$Statement")) d [cR v x0, .int (rI z1)] σ σ6 kv7 (some (cR v z8)) := mσ6 ix0 iz1
    refine cw_cv (b := x0) (t := 8) (n := 1) (rest := []) (As := [.int (rI z1)]) B mσ6 qσ6 ⟨by decide, by decide⟩ cgo_yX7_nameStatement cml_X7_77 cin_yX7_nameStatement cse_yX7_nameStatement (by decide +kernel) (by decide) rfl hl.1.1 (Nat.le_of_ble_eq_true rfl) dX7_statement_19 rfl hw (fun h0 H locs cells slots hw => ?_) (fun h0 H locs cells slots q ce hw h1 h2 h3 => ?_)
    · rcases hf with ⟨-, hf⟩ | ⟨hk, -⟩
      · skip
        exact cw_reta B hf hw dX7_statement_22
      · exact absurd h0 hk
    · rcases hf with ⟨hk, -⟩ | ⟨-, hf⟩
      · exact absurd hk h0
      · cases hf
        exact cw_xout B hnh h0 hw h1 h2 h3

set_option maxHeartbeats 4000000 in
set_option maxRecDepth 100000 in
theorem pm_X7_statement {v : cwE} {bd : cBd} {l : Launch} {d : Nat} {rec : Nat → CS → List Int → CO} (hbd : bd = cw_bd v) (hR : cw_Rec l v d rec) (htr : l.stackTraces = false) (hd5 : 5 ≤ d) (σ σ' : CS) (x0 : Int) (kd : Nat) (r : Int) (ix0 : inR x0) (hf : pc_X7_statement_0 rec bd σ x0 = some (σ', kd, r)) : cw_Met l v yX7_statement cX7_statement 3 (some (.object "PureHouse$Statement")) (d + 1) [cR v x0] σ σ' kd (some (cR v r)) := by
  refine cw_ofW (by decide +kernel) ?_
  intro p e s m args below meth c s₁ B hml hv
  obtain ⟨rfl, hM, hK⟩ := hv
  have hts := atoms_spec (ws := Cond.code yX7_statement cX7_statement 3 (some (.object "PureHouse$Statement")) :: cw_bw) B.pre
  have hB : cw_B v RX7 p s m _ meth c cX7_statement 3 (some (.object "PureHouse$Statement")) := ⟨B.exec, B.bytes, B.returns, hml, findClass_of_methodNamed B.named, fun w h => hts w (List.mem_cons_of_mem _ h), B.notSynchronized, hK⟩
  have hnh := cc_nh B (hts _ List.mem_cons_self)
  rw [lg_entry_eq]
  obtain ⟨ls, hls, hl⟩ := cl_ent [cR v x0] 3 (cl_1r cl_10) (Nat.le_of_ble_eq_true rfl)
  rw [hls]
  exact pw_X7_statement_0 hbd hR htr hd5 hB hnh σ x0 ix0 hf _ _ _ _ _ (cw_W0 hM) (cl_sub hl [0] rfl)

set_option maxHeartbeats 4000000 in
set_option maxRecDepth 100000 in
theorem pw_X7_takeName_14 {v : cwE} {bd : cBd} {p : Program} {l : Launch} {e : Env} {s : State} {m : MethodId} {args : Array Value} {below : List Frame} {meth : Method} {c : Code} {d : Nat} {rec : Nat → CS → List Int → CO} {σ0 σ' : CS} {kd : Nat} {r : Int} (hbd : bd = cw_bd v) (hR : cw_Rec l v d rec) (htr : l.stackTraces = false) (hd5 : 5 ≤ d) (B : cw_B v RX7 p s m args meth c cX7_takeName 2 (some (.object "PureHouse$Node"))) (hnh : ∀ x ∈ c.exceptionTable.toList, False) : ∀ (σ : CS) (x0 : Int), inR x0 → pc_X7_takeName_14 rec bd σ x0 = some (σ', kd, r) → ∀ (H : Heap) (locs : List Loc) (cells slots : Nat) (ls : Array Slot), cw_W v s σ0 σ H locs cells slots → cl_has ls 2 [(0, cR v x0)] → W p l e (cw_rm v (d + 1) σ0) s m args below meth c H locs cells slots (cw_Z below v σ0 σ' kd (some (cR v r)) args s) (F0 m 14 ls []) := by
  subst hbd
  obtain ⟨hx, hb, hr, hml, hown, hts, hlk, hK⟩ := id B
  intro σ x0 ix0 hf H locs cells slots ls hw hl
  unfold pc_X7_takeName_14 at hf
  refine cl_aload_n hx hb dX7_takeName_14 rfl (lv_at hl.1 0 rfl) ?_
  obtain ⟨z1, ez1, iz1, rz1, hf⟩ := cc_g_s hw hf
  refine cw_get (val := .int (rI z1)) B hw rz1 ⟨by decide, by decide⟩ (by decide) cwi_8 cfl_X7_21 ez1 rfl dX7_takeName_15 ?_
  refine cl_aload_n hx hb dX7_takeName_18 rfl (lv_at hl.1 0 rfl) ?_
  obtain ⟨z2, ez2, iz2, rz2, hf⟩ := cc_g_s hw hf
  refine cw_get (val := .int (rI z2)) B hw rz2 ⟨by decide, by decide⟩ (by decide) cwi_8 cfl_X7_24 ez2 rfl dX7_takeName_19 ?_
  obtain ⟨σ3, kv4, z5, hσ3, hf⟩ := cc_cl_s hf
  obtain ⟨iz5, mσ3⟩ := hR 107 σ [z1, z2] σ3 kv4 z5 hσ3
  have mσ3 : cw_Met l v yX6_named cX6_named 3 (some (.object "PureHouse$Node")) d [.int (rI z1), .int (rI z2)] σ σ3 kv4 (some (cR v z5)) := mσ3 iz1 iz2
  refine cw_cs (n := 2) (rest := []) (As := [.int (rI z1), .int (rI z2)]) B mσ3 cgo_yX6_named cml_X7_160 cst_yX6_named (by decide +kernel) (by decide) rfl hl.1.1 (Nat.le_of_ble_eq_true rfl) dX7_takeName_22 rfl hw (fun h0 H locs cells slots hw => ?_) (fun h0 H locs cells slots q ce hw h1 h2 h3 => ?_)
  · rcases hf with ⟨-, hf⟩ | ⟨hk, -⟩
    · skip
      refine cl_astore_n (lv' := [(1, cR v z5), (0, cR v x0)]) hx hb dX7_takeName_25 rfl hl (by decide) rfl (fun ls hl => ?_)
      refine cl_aload_n hx hb dX7_takeName_26 rfl (lv_at hl.1 1 rfl) ?_
      obtain ⟨qσ6, hf⟩ := cc_t_s hf
      obtain ⟨σ6, kv7, z8, hσ6, hf⟩ := cc_cl_s hf
      obtain ⟨iz8, mσ6⟩ := hR 109 σ3 [x0] σ6 kv7 z8 hσ6
      have mσ6 : cw_Met l v yX7_advance cX7_advance 1 none d [cR v x0] σ3 σ6 kv7 none := mσ6 ix0
      refine cw_cv (b := x0) (t := 8) (n := 0) (rest := []) (As := []) B mσ6 qσ6 ⟨by decide, by decide⟩ cgo_yX7_advance cml_X7_60 cin_yX7_advance cse_yX7_advance (by decide +kernel) (by decide) rfl hl.1.1 (Nat.le_of_ble_eq_true rfl) dX7_takeName_27 rfl hw (fun h0 H locs cells slots hw => ?_) (fun h0 H locs cells slots q ce hw h1 h2 h3 => ?_)
      · rcases hf with ⟨-, hf⟩ | ⟨hk, -⟩
        · skip
          refine cl_aload_n hx hb dX7_takeName_30 rfl (lv_at hl.1 0 rfl) ?_
          exact cw_reta B hf hw dX7_takeName_31
        · exact absurd h0 hk
      · rcases hf with ⟨hk, -⟩ | ⟨-, hf⟩
        · exact absurd hk h0
        · cases hf
          exact cw_xout B hnh h0 hw h1 h2 h3
    · exact absurd h0 hk
  · rcases hf with ⟨hk, -⟩ | ⟨-, hf⟩
    · exact absurd hk h0
    · cases hf
      exact cw_xout B hnh h0 hw h1 h2 h3

set_option maxHeartbeats 4000000 in
set_option maxRecDepth 100000 in
theorem pw_X7_takeName_0 {v : cwE} {bd : cBd} {p : Program} {l : Launch} {e : Env} {s : State} {m : MethodId} {args : Array Value} {below : List Frame} {meth : Method} {c : Code} {d : Nat} {rec : Nat → CS → List Int → CO} {σ0 σ' : CS} {kd : Nat} {r : Int} (hbd : bd = cw_bd v) (hR : cw_Rec l v d rec) (htr : l.stackTraces = false) (hd5 : 5 ≤ d) (B : cw_B v RX7 p s m args meth c cX7_takeName 2 (some (.object "PureHouse$Node"))) (hnh : ∀ x ∈ c.exceptionTable.toList, False) : ∀ (σ : CS) (x0 : Int), inR x0 → pc_X7_takeName_0 rec bd σ x0 = some (σ', kd, r) → ∀ (H : Heap) (locs : List Loc) (cells slots : Nat) (ls : Array Slot), cw_W v s σ0 σ H locs cells slots → cl_has ls 2 [(0, cR v x0)] → W p l e (cw_rm v (d + 1) σ0) s m args below meth c H locs cells slots (cw_Z below v σ0 σ' kd (some (cR v r)) args s) (F0 m 0 ls []) := by
  subst hbd
  obtain ⟨hx, hb, hr, hml, hown, hts, hlk, hK⟩ := id B
  intro σ x0 ix0 hf H locs cells slots ls hw hl
  unfold pc_X7_takeName_0 at hf
  refine cl_aload_n hx hb dX7_takeName_0 rfl (lv_at hl.1 0 rfl) ?_
  obtain ⟨z1, ez1, iz1, rz1, hf⟩ := cc_g_s hw hf
  refine cw_get (val := .int (rI z1)) B hw rz1 ⟨by decide, by decide⟩ (by decide) cwi_8 cfl_X7_18 ez1 rfl dX7_takeName_1 ?_
  refine lv_sipush (v := rI 256) hx hb dX7_takeName_4 (by decide +kernel) ?_
  refine rn_icmp_eq (a := z1) (b := 256) (tgt := 14) hx hb iz1 ⟨by decide, by decide⟩ dX7_takeName_7 (by decide) (fun c2 => ?_) (fun c2 => ?_)
  · replace hf := cc_if_t hf c2
    exact pw_X7_takeName_14 rfl hR htr hd5 B hnh σ x0 ix0 hf _ _ _ _ _ hw (cl_sub hl [0] rfl)
  · replace hf := cc_if_f hf c2
    refine cl_aload_n hx hb dX7_takeName_10 rfl (lv_at hl.1 0 rfl) ?_
    obtain ⟨qσ3, hf⟩ := cc_t_s hf
    obtain ⟨σ3, kv4, z5, hσ3, hf⟩ := cc_cl_s hf
    obtain ⟨iz5, mσ3⟩ := hR 125 σ [x0] σ3 kv4 z5 hσ3
    have mσ3 : cw_Met l v yX7_refuse cX7_refuse 1 none d [cR v x0] σ σ3 kv4 none := mσ3 ix0
    refine cw_cv (b := x0) (t := 8) (n := 0) (rest := []) (As := []) B mσ3 qσ3 ⟨by decide, by decide⟩ cgo_yX7_refuse cml_X7_83 cin_yX7_refuse cse_yX7_refuse (by decide +kernel) (by decide) rfl hl.1.1 (Nat.le_of_ble_eq_true rfl) dX7_takeName_11 rfl hw (fun h0 H locs cells slots hw => ?_) (fun h0 H locs cells slots q ce hw h1 h2 h3 => ?_)
    · rcases hf with ⟨-, hf⟩ | ⟨hk, -⟩
      · skip
        exact pw_X7_takeName_14 rfl hR htr hd5 B hnh σ3 x0 ix0 hf _ _ _ _ _ hw (cl_sub hl [0] rfl)
      · exact absurd h0 hk
    · rcases hf with ⟨hk, -⟩ | ⟨-, hf⟩
      · exact absurd hk h0
      · cases hf
        exact cw_xout B hnh h0 hw h1 h2 h3

set_option maxHeartbeats 4000000 in
set_option maxRecDepth 100000 in
theorem pm_X7_takeName {v : cwE} {bd : cBd} {l : Launch} {d : Nat} {rec : Nat → CS → List Int → CO} (hbd : bd = cw_bd v) (hR : cw_Rec l v d rec) (htr : l.stackTraces = false) (hd5 : 5 ≤ d) (σ σ' : CS) (x0 : Int) (kd : Nat) (r : Int) (ix0 : inR x0) (hf : pc_X7_takeName_0 rec bd σ x0 = some (σ', kd, r)) : cw_Met l v yX7_takeName cX7_takeName 2 (some (.object "PureHouse$Node")) (d + 1) [cR v x0] σ σ' kd (some (cR v r)) := by
  refine cw_ofW (by decide +kernel) ?_
  intro p e s m args below meth c s₁ B hml hv
  obtain ⟨rfl, hM, hK⟩ := hv
  have hts := atoms_spec (ws := Cond.code yX7_takeName cX7_takeName 2 (some (.object "PureHouse$Node")) :: cw_bw) B.pre
  have hB : cw_B v RX7 p s m _ meth c cX7_takeName 2 (some (.object "PureHouse$Node")) := ⟨B.exec, B.bytes, B.returns, hml, findClass_of_methodNamed B.named, fun w h => hts w (List.mem_cons_of_mem _ h), B.notSynchronized, hK⟩
  have hnh := cc_nh B (hts _ List.mem_cons_self)
  rw [lg_entry_eq]
  obtain ⟨ls, hls, hl⟩ := cl_ent [cR v x0] 2 (cl_1r cl_10) (Nat.le_of_ble_eq_true rfl)
  rw [hls]
  exact pw_X7_takeName_0 hbd hR htr hd5 hB hnh σ x0 ix0 hf _ _ _ _ _ (cw_W0 hM) (cl_sub hl [0] rfl)

set_option maxHeartbeats 4000000 in
set_option maxRecDepth 100000 in
theorem pw_X7_term_63 {v : cwE} {bd : cBd} {p : Program} {l : Launch} {e : Env} {s : State} {m : MethodId} {args : Array Value} {below : List Frame} {meth : Method} {c : Code} {d : Nat} {rec : Nat → CS → List Int → CO} {σ0 σ' : CS} {kd : Nat} {r : Int} (hbd : bd = cw_bd v) (hR : cw_Rec l v d rec) (htr : l.stackTraces = false) (hd5 : 5 ≤ d) (B : cw_B v RX7 p s m args meth c cX7_term 5 (some (.object "PureHouse$Node"))) (hnh : ∀ x ∈ c.exceptionTable.toList, False) : ∀ (σ : CS) (x0 x1 : Int), inR x0 → inR x1 → pc_X7_term_63 rec bd σ x0 x1 = some (σ', kd, r) → ∀ (H : Heap) (locs : List Loc) (cells slots : Nat) (ls : Array Slot), cw_W v s σ0 σ H locs cells slots → cl_has ls 5 [(0, cR v x0), (1, .int (rI x1))] → W p l e (cw_rm v (d + 1) σ0) s m args below meth c H locs cells slots (cw_Z below v σ0 σ' kd (some (cR v r)) args s) (F0 m 63 ls []) := by
  subst hbd
  obtain ⟨hx, hb, hr, hml, hown, hts, hlk, hK⟩ := id B
  intro σ x0 x1 ix0 ix1 hf H locs cells slots ls hw hl
  unfold pc_X7_term_63 at hf
  refine cl_aload_n hx hb dX7_term_63 rfl (lv_at hl.1 0 rfl) ?_
  refine lv_iload_n hx hb dX7_term_64 rfl (lv_at hl.1 1 rfl) ?_
  obtain ⟨qσ1, hf⟩ := cc_t_s hf
  obtain ⟨σ1, kv2, z3, hσ1, hf⟩ := cc_cl_s hf
  obtain ⟨iz3, mσ1⟩ := hR 114 σ [x0, x1] σ1 kv2 z3 hσ1
  have mσ1 : cw_Met l v yX7_binder cX7_binder 8 (some (.object "PureHouse$Node")) d [cR v x0, .int (rI x1)] σ σ1 kv2 (some (cR v z3)) := mσ1 ix0 ix1
  refine cw_cv (b := x0) (t := 8) (n := 1) (rest := []) (As := [.int (rI x1)]) B mσ1 qσ1 ⟨by decide, by decide⟩ cgo_yX7_binder cml_X7_116 cin_yX7_binder cse_yX7_binder (by decide +kernel) (by decide) rfl hl.1.1 (Nat.le_of_ble_eq_true rfl) dX7_term_65 rfl hw (fun h0 H locs cells slots hw => ?_) (fun h0 H locs cells slots q ce hw h1 h2 h3 => ?_)
  · rcases hf with ⟨-, hf⟩ | ⟨hk, -⟩
    · skip
      exact cw_reta B hf hw dX7_term_68
    · exact absurd h0 hk
  · rcases hf with ⟨hk, -⟩ | ⟨-, hf⟩
    · exact absurd hk h0
    · cases hf
      exact cw_xout B hnh h0 hw h1 h2 h3

set_option maxHeartbeats 4000000 in
set_option maxRecDepth 100000 in
theorem pw_X7_term_36 {v : cwE} {bd : cBd} {p : Program} {l : Launch} {e : Env} {s : State} {m : MethodId} {args : Array Value} {below : List Frame} {meth : Method} {c : Code} {d : Nat} {rec : Nat → CS → List Int → CO} {σ0 σ' : CS} {kd : Nat} {r : Int} (hbd : bd = cw_bd v) (hR : cw_Rec l v d rec) (htr : l.stackTraces = false) (hd5 : 5 ≤ d) (B : cw_B v RX7 p s m args meth c cX7_term 5 (some (.object "PureHouse$Node"))) (hnh : ∀ x ∈ c.exceptionTable.toList, False) : ∀ (σ : CS) (x0 x1 : Int), inR x0 → inR x1 → pc_X7_term_36 rec bd σ x0 x1 = some (σ', kd, r) → ∀ (H : Heap) (locs : List Loc) (cells slots : Nat) (ls : Array Slot), cw_W v s σ0 σ H locs cells slots → cl_has ls 5 [(0, cR v x0), (1, .int (rI x1))] → W p l e (cw_rm v (d + 1) σ0) s m args below meth c H locs cells slots (cw_Z below v σ0 σ' kd (some (cR v r)) args s) (F0 m 36 ls []) := by
  subst hbd
  obtain ⟨hx, hb, hr, hml, hown, hts, hlk, hK⟩ := id B
  intro σ x0 x1 ix0 ix1 hf H locs cells slots ls hw hl
  unfold pc_X7_term_36 at hf
  refine cl_aload_n hx hb dX7_term_36 rfl (lv_at hl.1 0 rfl) ?_
  obtain ⟨z1, ez1, iz1, rz1, hf⟩ := cc_g_s hw hf
  refine cw_get (val := .int (rI z1)) B hw rz1 ⟨by decide, by decide⟩ (by decide) cwi_8 cfl_X7_18 ez1 rfl dX7_term_37 ?_
  refine lv_bipush (v := rI 92) hx hb dX7_term_40 (by decide +kernel) ?_
  refine rn_icmp_eq (a := z1) (b := 92) (tgt := 63) hx hb iz1 ⟨by decide, by decide⟩ dX7_term_42 (by decide) (fun c2 => ?_) (fun c2 => ?_)
  · replace hf := cc_if_t hf c2
    exact pw_X7_term_63 rfl hR htr hd5 B hnh σ x0 x1 ix0 ix1 hf _ _ _ _ _ hw (cl_sub hl [0, 1] rfl)
  · replace hf := cc_if_f hf c2
    refine cl_aload_n hx hb dX7_term_45 rfl (lv_at hl.1 0 rfl) ?_
    obtain ⟨z3, ez3, iz3, rz3, hf⟩ := cc_g_s hw hf
    refine cw_get (val := .int (rI z3)) B hw rz3 ⟨by decide, by decide⟩ (by decide) cwi_8 cfl_X7_18 ez3 rfl dX7_term_46 ?_
    refine lv_bipush (v := rI 33) hx hb dX7_term_49 (by decide +kernel) ?_
    refine rn_icmp_eq (a := z3) (b := 33) (tgt := 63) hx hb iz3 ⟨by decide, by decide⟩ dX7_term_51 (by decide) (fun c4 => ?_) (fun c4 => ?_)
    · replace hf := cc_if_t hf c4
      exact pw_X7_term_63 rfl hR htr hd5 B hnh σ x0 x1 ix0 ix1 hf _ _ _ _ _ hw (cl_sub hl [0, 1] rfl)
    · replace hf := cc_if_f hf c4
      refine cl_aload_n hx hb dX7_term_54 rfl (lv_at hl.1 0 rfl) ?_
      obtain ⟨z5, ez5, iz5, rz5, hf⟩ := cc_g_s hw hf
      refine cw_get (val := .int (rI z5)) B hw rz5 ⟨by decide, by decide⟩ (by decide) cwi_8 cfl_X7_18 ez5 rfl dX7_term_55 ?_
      refine lv_bipush (v := rI 7) hx hb dX7_term_58 (by decide +kernel) ?_
      refine rn_icmp_ne (a := z5) (b := 7) (tgt := 69) hx hb iz5 ⟨by decide, by decide⟩ dX7_term_60 (by decide) (fun c6 => ?_) (fun c6 => ?_)
      · replace hf := cc_if_t hf c6
        refine cl_aload_n hx hb dX7_term_69 rfl (lv_at hl.1 0 rfl) ?_
        refine lv_iload_n hx hb dX7_term_70 rfl (lv_at hl.1 1 rfl) ?_
        obtain ⟨qσ7, hf⟩ := cc_t_s hf
        obtain ⟨σ7, kv8, z9, hσ7, hf⟩ := cc_cl_s hf
        obtain ⟨iz9, mσ7⟩ := hR 133 σ [x0, x1] σ7 kv8 z9 hσ7
        have mσ7 : cw_Met l v yX7_use cX7_use 6 (some (.object "PureHouse$Node")) d [cR v x0, .int (rI x1)] σ σ7 kv8 (some (cR v z9)) := mσ7 ix0 ix1
        refine cw_cv (b := x0) (t := 8) (n := 1) (rest := []) (As := [.int (rI x1)]) B mσ7 qσ7 ⟨by decide, by decide⟩ cgo_yX7_use cml_X7_119 cin_yX7_use cse_yX7_use (by decide +kernel) (by decide) rfl hl.1.1 (Nat.le_of_ble_eq_true rfl) dX7_term_71 rfl hw (fun h0 H locs cells slots hw => ?_) (fun h0 H locs cells slots q ce hw h1 h2 h3 => ?_)
        · rcases hf with ⟨-, hf⟩ | ⟨hk, -⟩
          · skip
            refine cl_astore_n (lv' := [(2, cR v z9), (0, cR v x0), (1, .int (rI x1))]) hx hb dX7_term_74 rfl hl (by decide) rfl (fun ls hl => ?_)
            refine cl_aload_n hx hb dX7_term_75 rfl (lv_at hl.1 1 rfl) ?_
            obtain ⟨z10, ez10, iz10, rz10, hf⟩ := cc_g_s hw hf
            refine cw_get (val := .int (rI z10)) B hw rz10 ⟨by decide, by decide⟩ (by decide) cwi_8 cfl_X7_18 ez10 rfl dX7_term_76 ?_
            refine lv_sipush (v := rI 259) hx hb dX7_term_79 (by decide +kernel) ?_
            refine rn_icmp_eq (a := z10) (b := 259) (tgt := 87) hx hb iz10 ⟨by decide, by decide⟩ dX7_term_82 (by decide) (fun c11 => ?_) (fun c11 => ?_)
            · replace hf := cc_if_t hf c11
              refine cl_aload_n hx hb dX7_term_87 rfl (lv_at hl.1 1 rfl) ?_
              obtain ⟨z12, ez12, iz12, rz12, hf⟩ := cc_g_s hw hf
              refine cw_get (val := .int (rI z12)) B hw rz12 ⟨by decide, by decide⟩ (by decide) cwi_8 cfl_X7_21 ez12 rfl dX7_term_88 ?_
              refine cl_istore_n (lv' := [(3, .int (rI z12)), (2, cR v z9), (0, cR v x0), (1, .int (rI x1))]) hx hb dX7_term_91 rfl hl (by decide) rfl (fun ls hl => ?_)
              refine cl_aload_n hx hb dX7_term_92 rfl (lv_at hl.1 2 rfl) ?_
              obtain ⟨qσ13, hf⟩ := cc_t_s hf
              obtain ⟨σ13, kv14, z15, hσ13, hf⟩ := cc_cl_s hf
              obtain ⟨iz15, mσ13⟩ := hR 109 σ7 [x0] σ13 kv14 z15 hσ13
              have mσ13 : cw_Met l v yX7_advance cX7_advance 1 none d [cR v x0] σ7 σ13 kv14 none := mσ13 ix0
              refine cw_cv (b := x0) (t := 8) (n := 0) (rest := []) (As := []) B mσ13 qσ13 ⟨by decide, by decide⟩ cgo_yX7_advance cml_X7_60 cin_yX7_advance cse_yX7_advance (by decide +kernel) (by decide) rfl hl.1.1 (Nat.le_of_ble_eq_true rfl) dX7_term_93 rfl hw (fun h0 H locs cells slots hw => ?_) (fun h0 H locs cells slots q ce hw h1 h2 h3 => ?_)
              · rcases hf with ⟨-, hf⟩ | ⟨hk, -⟩
                · skip
                  refine lv_iconst (v := rI 5) hx hb dX7_term_96 rfl ?_
                  refine cl_aload_n hx hb dX7_term_97 rfl (lv_at hl.1 2 rfl) ?_
                  obtain ⟨qσ16, hf⟩ := cc_t_s hf
                  obtain ⟨σ16, kv17, z18, hσ16, hf⟩ := cc_cl_s hf
                  obtain ⟨iz18, mσ16⟩ := hR 123 σ13 [x0] σ16 kv17 z18 hσ16
                  have mσ16 : cw_Met l v yX7_newId cX7_newId 1 (some .int) d [cR v x0] σ13 σ16 kv17 (some (.int (rI z18))) := mσ16 ix0
                  refine cw_cv (b := x0) (t := 8) (n := 0) (rest := [.int (rI 5)]) (As := []) B mσ16 qσ16 ⟨by decide, by decide⟩ cgo_yX7_newId cml_X7_124 cin_yX7_newId cse_yX7_newId (by decide +kernel) (by decide) rfl hl.1.1 (Nat.le_of_ble_eq_true rfl) dX7_term_98 rfl hw (fun h0 H locs cells slots hw => ?_) (fun h0 H locs cells slots q ce hw h1 h2 h3 => ?_)
                  · rcases hf with ⟨-, hf⟩ | ⟨hk, -⟩
                    · skip
                      refine cl_aload_n hx hb dX7_term_101 rfl (lv_at hl.1 1 rfl) ?_
                      refine cl_aload_n hx hb dX7_term_102 rfl (lv_at hl.1 2 rfl) ?_
                      refine lv_iload_n hx hb dX7_term_103 rfl (lv_at hl.1 3 rfl) ?_
                      refine lv_iconst (v := rI 1) hx hb dX7_term_104 rfl ?_
                      obtain ⟨z19, ez19, iz19, hf⟩ := cc_ck_s hf
                      refine rn_add hx hb ez19 dX7_term_105 ?_
                      obtain ⟨qσ20, hf⟩ := cc_t_s hf
                      obtain ⟨σ20, kv21, z22, hσ20, hf⟩ := cc_cl_s hf
                      obtain ⟨iz22, mσ20⟩ := hR 131 σ16 [x0, z19] σ20 kv21 z22 hσ20
                      have mσ20 : cw_Met l v yX7_term cX7_term 5 (some (.object "PureHouse$Node")) d [cR v x0, .int (rI z19)] σ16 σ20 kv21 (some (cR v z22)) := mσ20 ix0 iz19
                      refine cw_cv (b := x0) (t := 8) (n := 1) (rest := [cR v z9, .int (rI z18), .int (rI 5)]) (As := [.int (rI z19)]) B mσ20 qσ20 ⟨by decide, by decide⟩ cgo_yX7_term cml_X7_103 cin_yX7_term cse_yX7_term (by decide +kernel) (by decide) rfl hl.1.1 (cl_cs (cl_1r (cl_1i (cl_1i cl_10))) (Nat.le_of_ble_eq_true rfl)) dX7_term_106 rfl hw (fun h0 H locs cells slots hw => ?_) (fun h0 H locs cells slots q ce hw h1 h2 h3 => ?_)
                      · rcases hf with ⟨-, hf⟩ | ⟨hk, -⟩
                        · skip
                          obtain ⟨σ23, kv24, z25, hσ23, hf⟩ := cc_cl_s hf
                          obtain ⟨iz25, mσ23⟩ := hR 104 σ20 [5, z18, z9, z22] σ23 kv24 z25 hσ23
                          have mσ23 : cw_Met l v yX6_binder cX6_binder 5 (some (.object "PureHouse$Node")) d [.int (rI 5), .int (rI z18), cR v z9, cR v z22] σ20 σ23 kv24 (some (cR v z25)) := mσ23 ⟨by decide, by decide⟩ iz18 iz9 iz22
                          refine cw_cs (n := 4) (rest := []) (As := [.int (rI 5), .int (rI z18), cR v z9, cR v z22]) B mσ23 cgo_yX6_binder cml_X7_128 cst_yX6_binder (by decide +kernel) (by decide) rfl hl.1.1 (Nat.le_of_ble_eq_true rfl) dX7_term_109 rfl hw (fun h0 H locs cells slots hw => ?_) (fun h0 H locs cells slots q ce hw h1 h2 h3 => ?_)
                          · rcases hf with ⟨-, hf⟩ | ⟨hk, -⟩
                            · skip
                              refine cl_astore (lv' := [(4, cR v z25), (3, .int (rI z12)), (2, cR v z9), (0, cR v x0), (1, .int (rI x1))]) hx hb dX7_term_112 hl (by decide) rfl (fun ls hl => ?_)
                              refine cl_aload hx hb dX7_term_114 (lv_at hl.1 0 rfl) ?_
                              refine lv_iload_n hx hb dX7_term_116 rfl (lv_at hl.1 1 rfl) ?_
                              obtain ⟨σ26, eσ26, rσ26, hf⟩ := cc_p_s hf
                              refine cw_put B hw rσ26 cwt_7 (by decide) rfl cfl_X7_131 iz12 eσ26 rfl (cw_fv_n rfl rfl) dX7_term_117 (fun H locs hw => ?_)
                              refine cl_aload hx hb dX7_term_120 (lv_at hl.1 0 rfl) ?_
                              refine cl_aload_n hx hb dX7_term_122 rfl (lv_at hl.1 2 rfl) ?_
                              obtain ⟨z27, ez27, iz27, rz27, hf⟩ := cc_g_s hw hf
                              refine cw_get (val := .int (rI z27)) B hw rz27 ⟨by decide, by decide⟩ (by decide) cwi_7 cfl_X7_134 ez27 rfl dX7_term_123 ?_
                              obtain ⟨σ28, eσ28, rσ28, hf⟩ := cc_p_s hf
                              refine cw_put B hw rσ28 cwt_7 (by decide) rfl cfl_X7_134 iz27 eσ28 rfl (cw_fv_n rfl rfl) dX7_term_126 (fun H locs hw => ?_)
                              refine cl_aload hx hb dX7_term_129 (lv_at hl.1 0 rfl) ?_
                              exact cw_reta B hf hw dX7_term_131
                            · exact absurd h0 hk
                          · rcases hf with ⟨hk, -⟩ | ⟨-, hf⟩
                            · exact absurd hk h0
                            · cases hf
                              exact cw_xout B hnh h0 hw h1 h2 h3
                        · exact absurd h0 hk
                      · rcases hf with ⟨hk, -⟩ | ⟨-, hf⟩
                        · exact absurd hk h0
                        · cases hf
                          exact cw_xout B hnh h0 hw h1 h2 h3
                    · exact absurd h0 hk
                  · rcases hf with ⟨hk, -⟩ | ⟨-, hf⟩
                    · exact absurd hk h0
                    · cases hf
                      exact cw_xout B hnh h0 hw h1 h2 h3
                · exact absurd h0 hk
              · rcases hf with ⟨hk, -⟩ | ⟨-, hf⟩
                · exact absurd hk h0
                · cases hf
                  exact cw_xout B hnh h0 hw h1 h2 h3
            · replace hf := cc_if_f hf c11
              refine cl_aload_n hx hb dX7_term_85 rfl (lv_at hl.1 0 rfl) ?_
              exact cw_reta B hf hw dX7_term_86
          · exact absurd h0 hk
        · rcases hf with ⟨hk, -⟩ | ⟨-, hf⟩
          · exact absurd hk h0
          · cases hf
            exact cw_xout B hnh h0 hw h1 h2 h3
      · replace hf := cc_if_f hf c6
        exact pw_X7_term_63 rfl hR htr hd5 B hnh σ x0 x1 ix0 ix1 hf _ _ _ _ _ hw (cl_sub hl [0, 1] rfl)

set_option maxHeartbeats 4000000 in
set_option maxRecDepth 100000 in
theorem pw_X7_term_0 {v : cwE} {bd : cBd} {p : Program} {l : Launch} {e : Env} {s : State} {m : MethodId} {args : Array Value} {below : List Frame} {meth : Method} {c : Code} {d : Nat} {rec : Nat → CS → List Int → CO} {σ0 σ' : CS} {kd : Nat} {r : Int} (hbd : bd = cw_bd v) (hR : cw_Rec l v d rec) (htr : l.stackTraces = false) (hd5 : 5 ≤ d) (B : cw_B v RX7 p s m args meth c cX7_term 5 (some (.object "PureHouse$Node"))) (hnh : ∀ x ∈ c.exceptionTable.toList, False) : ∀ (σ : CS) (x0 x1 : Int), inR x0 → inR x1 → pc_X7_term_0 rec bd σ x0 x1 = some (σ', kd, r) → ∀ (H : Heap) (locs : List Loc) (cells slots : Nat) (ls : Array Slot), cw_W v s σ0 σ H locs cells slots → cl_has ls 5 [(0, cR v x0), (1, .int (rI x1))] → W p l e (cw_rm v (d + 1) σ0) s m args below meth c H locs cells slots (cw_Z below v σ0 σ' kd (some (cR v r)) args s) (F0 m 0 ls []) := by
  subst hbd
  obtain ⟨hx, hb, hr, hml, hown, hts, hlk, hK⟩ := id B
  intro σ x0 x1 ix0 ix1 hf H locs cells slots ls hw hl
  unfold pc_X7_term_0 at hf
  refine lv_iload_n hx hb dX7_term_0 rfl (lv_at hl.1 1 rfl) ?_
  refine lv_bipush (v := rI 40) hx hb dX7_term_1 (by decide +kernel) ?_
  refine rn_icmp_lt (a := x1) (b := 40) (tgt := 36) hx hb ix1 ⟨by decide, by decide⟩ dX7_term_3 (by decide) (fun c1 => ?_) (fun c1 => ?_)
  · replace hf := cc_if_t hf c1
    exact pw_X7_term_36 rfl hR htr hd5 B hnh σ x0 x1 ix0 ix1 hf _ _ _ _ _ hw (cl_sub hl [0, 1] rfl)
  · replace hf := cc_if_f hf c1
    refine cl_aload_n hx hb dX7_term_6 rfl (lv_at hl.1 0 rfl) ?_
    obtain ⟨z2, ez2, iz2, rz2, hf⟩ := cc_g_s hw hf
    refine cw_get (val := .int (rI z2)) B hw rz2 ⟨by decide, by decide⟩ (by decide) cwi_8 cfl_X7_18 ez2 rfl dX7_term_7 ?_
    refine lv_sipush (v := rI 261) hx hb dX7_term_10 (by decide +kernel) ?_
    refine rn_icmp_eq (a := z2) (b := 261) (tgt := 36) hx hb iz2 ⟨by decide, by decide⟩ dX7_term_13 (by decide) (fun c3 => ?_) (fun c3 => ?_)
    · replace hf := cc_if_t hf c3
      exact pw_X7_term_36 rfl hR htr hd5 B hnh σ x0 x1 ix0 ix1 hf _ _ _ _ _ hw (cl_sub hl [0, 1] rfl)
    · replace hf := cc_if_f hf c3
      refine cl_aload_n hx hb dX7_term_16 rfl (lv_at hl.1 0 rfl) ?_
      obtain ⟨z4, ez4, iz4, rz4, hf⟩ := cc_g_s hw hf
      refine cw_get (val := cR v z4) B hw rz4 ⟨by decide, by decide⟩ (by decide) cwi_8 cfl_X7_34 ez4 rfl dX7_term_17 ?_
      refine lv_iconst (v := rI 2) hx hb dX7_term_20 rfl ?_
      refine cl_aload_n hx hb dX7_term_21 rfl (lv_at hl.1 0 rfl) ?_
      obtain ⟨z5, ez5, iz5, rz5, hf⟩ := cc_g_s hw hf
      refine cw_get (val := .int (rI z5)) B hw rz5 ⟨by decide, by decide⟩ (by decide) cwi_8 cfl_X7_21 ez5 rfl dX7_term_22 ?_
      obtain ⟨qσ6, hf⟩ := cc_t_s hf
      obtain ⟨σ6, kv7, z8, hσ6, hf⟩ := cc_cl_s hf
      obtain ⟨iz8, mσ6⟩ := hR 30 σ [z4, 2, z5] σ6 kv7 z8 hσ6
      have mσ6 : cw_Met l v yX10_set cX10_set 3 none d [cR v z4, .int (rI 2), .int (rI z5)] σ σ6 kv7 none := mσ6 iz4 ⟨by decide, by decide⟩ iz5
      refine cw_cv (b := z4) (t := 11) (n := 2) (rest := []) (As := [.int (rI 2), .int (rI z5)]) B mσ6 qσ6 ⟨by decide, by decide⟩ cgo_yX10_set cml_X7_107 cin_yX10_set cse_yX10_set (by decide +kernel) (by decide) rfl hl.1.1 (Nat.le_of_ble_eq_true rfl) dX7_term_25 rfl hw (fun h0 H locs cells slots hw => ?_) (fun h0 H locs cells slots q ce hw h1 h2 h3 => ?_)
      · rcases hf with ⟨-, hf⟩ | ⟨hk, -⟩
        · skip
          obtain ⟨hy, hm⟩ := cc_x_s hf
          obtain ⟨hy1, hy2⟩ := Prod.mk.inj hy
          obtain ⟨hy2, hy3⟩ := Prod.mk.inj hy2
          subst hy2
          refine cw_throw (rest := []) B hnh htr hw (by decide) (by decide +kernel) cxc_X7_113 cxi_1 (cw_hat cxa_X7_115 (by decide +kernel) hts hK.1) (List.all_eq_true.mp cxg_X7_115) hd5 hm hy1 hl.1.1 (Nat.le_of_ble_eq_true rfl) dX7_term_28 dX7_term_31 dX7_term_32 dX7_term_35
        · exact absurd h0 hk
      · rcases hf with ⟨hk, -⟩ | ⟨-, hf⟩
        · exact absurd hk h0
        · cases hf
          exact cw_xout B hnh h0 hw h1 h2 h3

set_option maxHeartbeats 4000000 in
set_option maxRecDepth 100000 in
theorem pm_X7_term {v : cwE} {bd : cBd} {l : Launch} {d : Nat} {rec : Nat → CS → List Int → CO} (hbd : bd = cw_bd v) (hR : cw_Rec l v d rec) (htr : l.stackTraces = false) (hd5 : 5 ≤ d) (σ σ' : CS) (x0 x1 : Int) (kd : Nat) (r : Int) (ix0 : inR x0) (ix1 : inR x1) (hf : pc_X7_term_0 rec bd σ x0 x1 = some (σ', kd, r)) : cw_Met l v yX7_term cX7_term 5 (some (.object "PureHouse$Node")) (d + 1) [cR v x0, .int (rI x1)] σ σ' kd (some (cR v r)) := by
  refine cw_ofW (by decide +kernel) ?_
  intro p e s m args below meth c s₁ B hml hv
  obtain ⟨rfl, hM, hK⟩ := hv
  have hts := atoms_spec (ws := Cond.code yX7_term cX7_term 5 (some (.object "PureHouse$Node")) :: cw_bw) B.pre
  have hB : cw_B v RX7 p s m _ meth c cX7_term 5 (some (.object "PureHouse$Node")) := ⟨B.exec, B.bytes, B.returns, hml, findClass_of_methodNamed B.named, fun w h => hts w (List.mem_cons_of_mem _ h), B.notSynchronized, hK⟩
  have hnh := cc_nh B (hts _ List.mem_cons_self)
  rw [lg_entry_eq]
  obtain ⟨ls, hls, hl⟩ := cl_ent [cR v x0, .int (rI x1)] 5 (cl_1r (cl_1i cl_10)) (Nat.le_of_ble_eq_true rfl)
  rw [hls]
  exact pw_X7_term_0 hbd hR htr hd5 hB hnh σ x0 x1 ix0 ix1 hf _ _ _ _ _ (cw_W0 hM) (cl_sub hl [0, 1] rfl)

set_option maxHeartbeats 4000000 in
set_option maxRecDepth 100000 in
theorem pw_X7_termStatement_34 {v : cwE} {bd : cBd} {p : Program} {l : Launch} {e : Env} {s : State} {m : MethodId} {args : Array Value} {below : List Frame} {meth : Method} {c : Code} {d : Nat} {rec : Nat → CS → List Int → CO} {σ0 σ' : CS} {kd : Nat} {r : Int} (hbd : bd = cw_bd v) (hR : cw_Rec l v d rec) (htr : l.stackTraces = false) (hd5 : 5 ≤ d) (B : cw_B v RX7 p s m args meth c cX7_termStatement 5 (some (.object "PureHouse$Statement"))) (hnh : ∀ x ∈ c.exceptionTable.toList, False) : ∀ (σ : CS) (x1 x2 x3 x4 : Int), inR x1 → inR x2 → inR x3 → inR x4 → pc_X7_termStatement_34 rec bd σ x1 x2 x3 x4 = some (σ', kd, r) → ∀ (H : Heap) (locs : List Loc) (cells slots : Nat) (ls : Array Slot), cw_W v s σ0 σ H locs cells slots → cl_has ls 5 [(1, .int (rI x1)), (2, .int (rI x2)), (3, cR v x3), (4, cR v x4)] → W p l e (cw_rm v (d + 1) σ0) s m args below meth c H locs cells slots (cw_Z below v σ0 σ' kd (some (cR v r)) args s) (F0 m 34 ls []) := by
  subst hbd
  obtain ⟨hx, hb, hr, hml, hown, hts, hlk, hK⟩ := id B
  intro σ x1 x2 x3 x4 ix1 ix2 ix3 ix4 hf H locs cells slots ls hw hl
  unfold pc_X7_termStatement_34 at hf
  obtain ⟨σ1, z2, eσ1, ez2, iz2, rσ1, hf⟩ := cc_n_s hf
  refine cw_new B hw cwt_10 rfl cwd_10 cnl_X7_81 cni_10 cnz_10 rσ1 eσ1 ez2 dX7_termStatement_34 (fun H hw => ?_)
  refine lv_dup hx hb dX7_termStatement_37 (cR_cat _) ?_
  refine lv_iload_n hx hb dX7_termStatement_38 rfl (lv_at hl.1 0 rfl) ?_
  refine lv_iload_n hx hb dX7_termStatement_39 rfl (lv_at hl.1 1 rfl) ?_
  refine cl_null (v := v) hx hb dX7_termStatement_40 ?_
  refine cl_aload_n hx hb dX7_termStatement_41 rfl (lv_at hl.1 2 rfl) ?_
  refine cl_aload hx hb dX7_termStatement_42 (lv_at hl.1 3 rfl) ?_
  obtain ⟨qσ3, hf⟩ := cc_t_s hf
  obtain ⟨σ3, z5, hσ3, hf⟩ := cc_ci_s hf
  obtain ⟨iz5, mσ3⟩ := hR 137 σ1 [z2, x1, x2, (-1), x3, x4] σ3 0 z5 hσ3
  have mσ3 : cw_Met l v yX9_init cX9_init 6 none d [cR v z2, .int (rI x1), .int (rI x2), cR v (-1), cR v x3, cR v x4] σ1 σ3 0 none := mσ3 iz2 ix1 ix2 ⟨by decide, by decide⟩ ix3 ix4
  refine cw_ci (b := z2) (n := 5) (rest := [cR v z2]) (As := [.int (rI x1), .int (rI x2), cR v (-1), cR v x3, cR v x4]) B mσ3 qσ3.1 rfl cgo_yX9_init cml_X7_90 cin_yX9_init (by decide +kernel) (by decide) rfl hl.1.1 (cl_cs (cl_1r cl_10) (Nat.le_of_ble_eq_true rfl)) dX7_termStatement_44 rfl hw (fun H locs cells slots hw => ?_)
  exact cw_reta B hf hw dX7_termStatement_47

set_option maxHeartbeats 4000000 in
set_option maxRecDepth 100000 in
theorem pw_X7_termStatement_0 {v : cwE} {bd : cBd} {p : Program} {l : Launch} {e : Env} {s : State} {m : MethodId} {args : Array Value} {below : List Frame} {meth : Method} {c : Code} {d : Nat} {rec : Nat → CS → List Int → CO} {σ0 σ' : CS} {kd : Nat} {r : Int} (hbd : bd = cw_bd v) (hR : cw_Rec l v d rec) (htr : l.stackTraces = false) (hd5 : 5 ≤ d) (B : cw_B v RX7 p s m args meth c cX7_termStatement 5 (some (.object "PureHouse$Statement"))) (hnh : ∀ x ∈ c.exceptionTable.toList, False) : ∀ (σ : CS) (x0 x1 x2 : Int), inR x0 → inR x1 → inR x2 → pc_X7_termStatement_0 rec bd σ x0 x1 x2 = some (σ', kd, r) → ∀ (H : Heap) (locs : List Loc) (cells slots : Nat) (ls : Array Slot), cw_W v s σ0 σ H locs cells slots → cl_has ls 5 [(0, cR v x0), (1, .int (rI x1)), (2, .int (rI x2))] → W p l e (cw_rm v (d + 1) σ0) s m args below meth c H locs cells slots (cw_Z below v σ0 σ' kd (some (cR v r)) args s) (F0 m 0 ls []) := by
  subst hbd
  obtain ⟨hx, hb, hr, hml, hown, hts, hlk, hK⟩ := id B
  intro σ x0 x1 x2 ix0 ix1 ix2 hf H locs cells slots ls hw hl
  unfold pc_X7_termStatement_0 at hf
  refine cl_aload_n hx hb dX7_termStatement_0 rfl (lv_at hl.1 0 rfl) ?_
  refine lv_iconst (v := rI 0) hx hb dX7_termStatement_1 rfl ?_
  obtain ⟨qσ1, hf⟩ := cc_t_s hf
  obtain ⟨σ1, kv2, z3, hσ1, hf⟩ := cc_cl_s hf
  obtain ⟨iz3, mσ1⟩ := hR 131 σ [x0, 0] σ1 kv2 z3 hσ1
  have mσ1 : cw_Met l v yX7_term cX7_term 5 (some (.object "PureHouse$Node")) d [cR v x0, .int (rI 0)] σ σ1 kv2 (some (cR v z3)) := mσ1 ix0 ⟨by decide, by decide⟩
  refine cw_cv (b := x0) (t := 8) (n := 1) (rest := []) (As := [.int (rI 0)]) B mσ1 qσ1 ⟨by decide, by decide⟩ cgo_yX7_term cml_X7_103 cin_yX7_term cse_yX7_term (by decide +kernel) (by decide) rfl hl.1.1 (Nat.le_of_ble_eq_true rfl) dX7_termStatement_2 rfl hw (fun h0 H locs cells slots hw => ?_) (fun h0 H locs cells slots q ce hw h1 h2 h3 => ?_)
  · rcases hf with ⟨-, hf⟩ | ⟨hk, -⟩
    · skip
      refine cl_astore_n (lv' := [(3, cR v z3), (0, cR v x0), (1, .int (rI x1)), (2, .int (rI x2))]) hx hb dX7_termStatement_5 rfl hl (by decide) rfl (fun ls hl => ?_)
      refine cl_null (v := v) hx hb dX7_termStatement_6 ?_
      refine cl_astore (lv' := [(4, cR v (-1)), (3, cR v z3), (0, cR v x0), (1, .int (rI x1)), (2, .int (rI x2))]) hx hb dX7_termStatement_7 hl (by decide) rfl (fun ls hl => ?_)
      refine lv_iload_n hx hb dX7_termStatement_9 rfl (lv_at hl.1 3 rfl) ?_
      refine lv_iconst (v := rI 3) hx hb dX7_termStatement_10 rfl ?_
      refine rn_icmp_ne (a := x1) (b := 3) (tgt := 34) hx hb ix1 ⟨by decide, by decide⟩ dX7_termStatement_11 (by decide) (fun c4 => ?_) (fun c4 => ?_)
      · replace hf := cc_if_t hf c4
        exact pw_X7_termStatement_34 rfl hR htr hd5 B hnh σ1 x1 x2 z3 (-1) ix1 ix2 iz3 ⟨by decide, by decide⟩ hf _ _ _ _ _ hw (cl_sub hl [3, 4, 1, 0] rfl)
      · replace hf := cc_if_f hf c4
        refine cl_aload_n hx hb dX7_termStatement_14 rfl (lv_at hl.1 2 rfl) ?_
        obtain ⟨z5, ez5, iz5, rz5, hf⟩ := cc_g_s hw hf
        refine cw_get (val := .int (rI z5)) B hw rz5 ⟨by decide, by decide⟩ (by decide) cwi_8 cfl_X7_18 ez5 rfl dX7_termStatement_15 ?_
        refine lv_bipush (v := rI 58) hx hb dX7_termStatement_18 (by decide +kernel) ?_
        refine rn_icmp_ne (a := z5) (b := 58) (tgt := 34) hx hb iz5 ⟨by decide, by decide⟩ dX7_termStatement_20 (by decide) (fun c6 => ?_) (fun c6 => ?_)
        · replace hf := cc_if_t hf c6
          exact pw_X7_termStatement_34 rfl hR htr hd5 B hnh σ1 x1 x2 z3 (-1) ix1 ix2 iz3 ⟨by decide, by decide⟩ hf _ _ _ _ _ hw (cl_sub hl [3, 4, 1, 0] rfl)
        · replace hf := cc_if_f hf c6
          refine cl_aload_n hx hb dX7_termStatement_23 rfl (lv_at hl.1 2 rfl) ?_
          obtain ⟨qσ7, hf⟩ := cc_t_s hf
          obtain ⟨σ7, kv8, z9, hσ7, hf⟩ := cc_cl_s hf
          obtain ⟨iz9, mσ7⟩ := hR 109 σ1 [x0] σ7 kv8 z9 hσ7
          have mσ7 : cw_Met l v yX7_advance cX7_advance 1 none d [cR v x0] σ1 σ7 kv8 none := mσ7 ix0
          refine cw_cv (b := x0) (t := 8) (n := 0) (rest := []) (As := []) B mσ7 qσ7 ⟨by decide, by decide⟩ cgo_yX7_advance cml_X7_60 cin_yX7_advance cse_yX7_advance (by decide +kernel) (by decide) rfl hl.1.1 (Nat.le_of_ble_eq_true rfl) dX7_termStatement_24 rfl hw (fun h0 H locs cells slots hw => ?_) (fun h0 H locs cells slots q ce hw h1 h2 h3 => ?_)
          · rcases hf with ⟨-, hf⟩ | ⟨hk, -⟩
            · skip
              refine cl_aload_n hx hb dX7_termStatement_27 rfl (lv_at hl.1 2 rfl) ?_
              refine lv_iconst (v := rI 0) hx hb dX7_termStatement_28 rfl ?_
              obtain ⟨qσ10, hf⟩ := cc_t_s hf
              obtain ⟨σ10, kv11, z12, hσ10, hf⟩ := cc_cl_s hf
              obtain ⟨iz12, mσ10⟩ := hR 131 σ7 [x0, 0] σ10 kv11 z12 hσ10
              have mσ10 : cw_Met l v yX7_term cX7_term 5 (some (.object "PureHouse$Node")) d [cR v x0, .int (rI 0)] σ7 σ10 kv11 (some (cR v z12)) := mσ10 ix0 ⟨by decide, by decide⟩
              refine cw_cv (b := x0) (t := 8) (n := 1) (rest := []) (As := [.int (rI 0)]) B mσ10 qσ10 ⟨by decide, by decide⟩ cgo_yX7_term cml_X7_103 cin_yX7_term cse_yX7_term (by decide +kernel) (by decide) rfl hl.1.1 (Nat.le_of_ble_eq_true rfl) dX7_termStatement_29 rfl hw (fun h0 H locs cells slots hw => ?_) (fun h0 H locs cells slots q ce hw h1 h2 h3 => ?_)
              · rcases hf with ⟨-, hf⟩ | ⟨hk, -⟩
                · skip
                  refine cl_astore (lv' := [(4, cR v z12), (3, cR v z3), (0, cR v x0), (1, .int (rI x1)), (2, .int (rI x2))]) hx hb dX7_termStatement_32 hl (by decide) rfl (fun ls hl => ?_)
                  exact pw_X7_termStatement_34 rfl hR htr hd5 B hnh σ10 x1 x2 z3 z12 ix1 ix2 iz3 iz12 hf _ _ _ _ _ hw (cl_sub hl [3, 4, 1, 0] rfl)
                · exact absurd h0 hk
              · rcases hf with ⟨hk, -⟩ | ⟨-, hf⟩
                · exact absurd hk h0
                · cases hf
                  exact cw_xout B hnh h0 hw h1 h2 h3
            · exact absurd h0 hk
          · rcases hf with ⟨hk, -⟩ | ⟨-, hf⟩
            · exact absurd hk h0
            · cases hf
              exact cw_xout B hnh h0 hw h1 h2 h3
    · exact absurd h0 hk
  · rcases hf with ⟨hk, -⟩ | ⟨-, hf⟩
    · exact absurd hk h0
    · cases hf
      exact cw_xout B hnh h0 hw h1 h2 h3

set_option maxHeartbeats 4000000 in
set_option maxRecDepth 100000 in
theorem pm_X7_termStatement {v : cwE} {bd : cBd} {l : Launch} {d : Nat} {rec : Nat → CS → List Int → CO} (hbd : bd = cw_bd v) (hR : cw_Rec l v d rec) (htr : l.stackTraces = false) (hd5 : 5 ≤ d) (σ σ' : CS) (x0 x1 x2 : Int) (kd : Nat) (r : Int) (ix0 : inR x0) (ix1 : inR x1) (ix2 : inR x2) (hf : pc_X7_termStatement_0 rec bd σ x0 x1 x2 = some (σ', kd, r)) : cw_Met l v yX7_termStatement cX7_termStatement 5 (some (.object "PureHouse$Statement")) (d + 1) [cR v x0, .int (rI x1), .int (rI x2)] σ σ' kd (some (cR v r)) := by
  refine cw_ofW (by decide +kernel) ?_
  intro p e s m args below meth c s₁ B hml hv
  obtain ⟨rfl, hM, hK⟩ := hv
  have hts := atoms_spec (ws := Cond.code yX7_termStatement cX7_termStatement 5 (some (.object "PureHouse$Statement")) :: cw_bw) B.pre
  have hB : cw_B v RX7 p s m _ meth c cX7_termStatement 5 (some (.object "PureHouse$Statement")) := ⟨B.exec, B.bytes, B.returns, hml, findClass_of_methodNamed B.named, fun w h => hts w (List.mem_cons_of_mem _ h), B.notSynchronized, hK⟩
  have hnh := cc_nh B (hts _ List.mem_cons_self)
  rw [lg_entry_eq]
  obtain ⟨ls, hls, hl⟩ := cl_ent [cR v x0, .int (rI x1), .int (rI x2)] 5 (cl_1r (cl_1i (cl_1i cl_10))) (Nat.le_of_ble_eq_true rfl)
  rw [hls]
  exact pw_X7_termStatement_0 hbd hR htr hd5 hB hnh σ x0 x1 x2 ix0 ix1 ix2 hf _ _ _ _ _ (cw_W0 hM) (cl_sub hl [0, 1, 2] rfl)

set_option maxHeartbeats 4000000 in
set_option maxRecDepth 100000 in
theorem pw_X7_use_74 {v : cwE} {bd : cBd} {p : Program} {l : Launch} {e : Env} {s : State} {m : MethodId} {args : Array Value} {below : List Frame} {meth : Method} {c : Code} {d : Nat} {rec : Nat → CS → List Int → CO} {σ0 σ' : CS} {kd : Nat} {r : Int} (hbd : bd = cw_bd v) (hR : cw_Rec l v d rec) (htr : l.stackTraces = false) (hd5 : 5 ≤ d) (B : cw_B v RX7 p s m args meth c cX7_use 6 (some (.object "PureHouse$Node"))) (hnh : ∀ x ∈ c.exceptionTable.toList, False) : ∀ (n : Nat) (σ : CS) (x2 x3 x4 x5 : Int), inR x2 → inR x3 → inR x4 → inR x5 → pc_X7_use_74 rec bd n σ x2 x3 x4 x5 = some (σ', kd, r) → ∀ (H : Heap) (locs : List Loc) (cells slots : Nat) (ls : Array Slot), cw_W v s σ0 σ H locs cells slots → cl_has ls 6 [(2, cR v x2), (3, cR v x3), (4, cR v x4), (5, .int (rI x5))] → W p l e (cw_rm v (d + 1) σ0) s m args below meth c H locs cells slots (cw_Z below v σ0 σ' kd (some (cR v r)) args s) (F0 m 74 ls []) := by
  subst hbd
  obtain ⟨hx, hb, hr, hml, hown, hts, hlk, hK⟩ := id B
  intro n
  induction n with
  | zero => intro σ x2 x3 x4 x5 ix2 ix3 ix4 ix5 hf; cases hf
  | succ n ih =>
    intro σ x2 x3 x4 x5 ix2 ix3 ix4 ix5 hf H locs cells slots ls hw hl
    unfold pc_X7_use_74 at hf
    refine lv_iload hx hb dX7_use_74 (lv_at hl.1 3 rfl) ?_
    refine cl_aload hx hb dX7_use_76 (lv_at hl.1 2 rfl) ?_
    obtain ⟨z1, ez1, iz1, rz1, hf⟩ := cc_l_s hf
    refine cw_len B hw rz1 (by decide) ez1 iz1 dX7_use_78 ?_
    refine rn_icmp_ge (a := x5) (b := z1) (tgt := 104) hx hb ix5 iz1 dX7_use_79 (by decide) (fun c2 => ?_) (fun c2 => ?_)
    · replace hf := cc_if_t hf c2
      refine cl_aload_n hx hb dX7_use_104 rfl (lv_at hl.1 0 rfl) ?_
      refine cl_aload hx hb dX7_use_105 (lv_at hl.1 2 rfl) ?_
      obtain ⟨σ3, kv4, z5, hσ3, hf⟩ := cc_cl_s hf
      obtain ⟨iz5, mσ3⟩ := hR 108 σ [x2, x4] σ3 kv4 z5 hσ3
      have mσ3 : cw_Met l v yX6_use cX6_use 3 (some (.object "PureHouse$Node")) d [cR v x2, cR v x4] σ σ3 kv4 (some (cR v z5)) := mσ3 ix2 ix4
      refine cw_cs (n := 2) (rest := []) (As := [cR v x2, cR v x4]) B mσ3 cgo_yX6_use cml_X7_157 cst_yX6_use (by decide +kernel) (by decide) rfl hl.1.1 (Nat.le_of_ble_eq_true rfl) dX7_use_107 rfl hw (fun h0 H locs cells slots hw => ?_) (fun h0 H locs cells slots q ce hw h1 h2 h3 => ?_)
      · rcases hf with ⟨-, hf⟩ | ⟨hk, -⟩
        · skip
          exact cw_reta B hf hw dX7_use_110
        · exact absurd h0 hk
      · rcases hf with ⟨hk, -⟩ | ⟨-, hf⟩
        · exact absurd hk h0
        · cases hf
          exact cw_xout B hnh h0 hw h1 h2 h3
    · replace hf := cc_if_f hf c2
      refine cl_aload hx hb dX7_use_82 (lv_at hl.1 2 rfl) ?_
      refine lv_iload hx hb dX7_use_84 (lv_at hl.1 3 rfl) ?_
      refine cl_aload_n hx hb dX7_use_86 rfl (lv_at hl.1 1 rfl) ?_
      refine lv_iload hx hb dX7_use_87 (lv_at hl.1 3 rfl) ?_
      obtain ⟨qσ6, hf⟩ := cc_t_s hf
      obtain ⟨σ6, z8, hσ6, hf⟩ := cc_cn_s hf
      obtain ⟨iz8, mσ6⟩ := hR 9 σ [x3, x5] σ6 0 z8 hσ6
      have mσ6 : cw_Met l v yJx4a65c_get_915e3 cJx4a65c_get_915e3 2 (some (.object "java/lang/Object")) d [cR v x3, .int (rI x5)] σ σ6 0 (some (cR v z8)) := mσ6 ix3 ix5
      refine cw_cf (b := x3) (n := 1) (rest := [.int (rI x5), cR v x4]) (As := [.int (rI x5)]) B mσ6 qσ6 cgo_yJx4a65c_get_915e3 cfm_X7_153 cin_yJx4a65c_get_915e3 cfs_yJx4a65c_get_915e3 (cw_face_get hK) (by decide +kernel) (by decide) rfl hl.1.1 (cl_cs (cl_1i (cl_1r cl_10)) (Nat.le_of_ble_eq_true rfl)) dX7_use_89 rfl hw (fun H locs cells slots hw => ?_)
      obtain ⟨q9, hf⟩ := cc_t_s hf
      refine cw_cast B hw q9 ⟨by decide, by decide⟩ ccl_X7_122 dX7_use_94 ?_
      obtain ⟨qσ10, hf⟩ := cc_tn_s hf
      obtain ⟨σ10, eσ10, rσ10, bσ10, hf⟩ := cc_w_s hf
      refine cw_astR B hw rσ10 ix5 bσ10 iz8 qσ10 eσ10 dX7_use_97 (fun H locs hw => ?_)
      obtain ⟨z11, ez11, iz11, hf⟩ := cc_ck_s hf
      refine cl_iinc (v := rI z11) (lv' := [(5, .int (rI z11)), (2, cR v x2), (3, cR v x3), (4, cR v x4)]) hx hb dX7_use_98 hl (k := 3) rfl (by rw [ez11]; exact rI_add _ _) (by decide) rfl (fun ls hl => ?_)
      refine lv_goto (tgt := 74) hx hb dX7_use_101 (by decide) ?_
      exact ih σ10 x2 x3 x4 z11 ix2 ix3 ix4 iz11 hf _ _ _ _ _ hw (cl_sub hl [1, 2, 3, 0] rfl)

set_option maxHeartbeats 4000000 in
set_option maxRecDepth 100000 in
theorem pw_X7_use_60 {v : cwE} {bd : cBd} {p : Program} {l : Launch} {e : Env} {s : State} {m : MethodId} {args : Array Value} {below : List Frame} {meth : Method} {c : Code} {d : Nat} {rec : Nat → CS → List Int → CO} {σ0 σ' : CS} {kd : Nat} {r : Int} (hbd : bd = cw_bd v) (hR : cw_Rec l v d rec) (htr : l.stackTraces = false) (hd5 : 5 ≤ d) (B : cw_B v RX7 p s m args meth c cX7_use 6 (some (.object "PureHouse$Node"))) (hnh : ∀ x ∈ c.exceptionTable.toList, False) : ∀ (σ : CS) (x2 x3 : Int), inR x2 → inR x3 → pc_X7_use_60 rec bd σ x2 x3 = some (σ', kd, r) → ∀ (H : Heap) (locs : List Loc) (cells slots : Nat) (ls : Array Slot), cw_W v s σ0 σ H locs cells slots → cl_has ls 6 [(2, cR v x2), (3, cR v x3)] → W p l e (cw_rm v (d + 1) σ0) s m args below meth c H locs cells slots (cw_Z below v σ0 σ' kd (some (cR v r)) args s) (F0 m 60 ls []) := by
  subst hbd
  obtain ⟨hx, hb, hr, hml, hown, hts, hlk, hK⟩ := id B
  intro σ x2 x3 ix2 ix3 hf H locs cells slots ls hw hl
  unfold pc_X7_use_60 at hf
  refine cl_aload_n hx hb dX7_use_60 rfl (lv_at hl.1 1 rfl) ?_
  obtain ⟨qσ1, hf⟩ := cc_t_s hf
  obtain ⟨σ1, z3, hσ1, hf⟩ := cc_cn_s hf
  obtain ⟨iz3, mσ1⟩ := hR 13 σ [x3] σ1 0 z3 hσ1
  have mσ1 : cw_Met l v yJx4a65c_size_8abf5 cJx4a65c_size_8abf5 1 (some .int) d [cR v x3] σ σ1 0 (some (.int (rI z3))) := mσ1 ix3
  refine cw_cf (b := x3) (n := 0) (rest := []) (As := []) B mσ1 qσ1 cgo_yJx4a65c_size_8abf5 cfm_X7_150 cin_yJx4a65c_size_8abf5 cfs_yJx4a65c_size_8abf5 (cw_face_size hK) (by decide +kernel) (by decide) rfl hl.1.1 (Nat.le_of_ble_eq_true rfl) dX7_use_61 rfl hw (fun H locs cells slots hw => ?_)
  obtain ⟨σ4, z5, eσ4, ez5, iz5, qσ4, rσ4, hf⟩ := cc_na_s hf
  refine cw_anew (t := 22) B hw (Or.inl ⟨rfl, rfl⟩) ccl_X7_122 iz3 qσ4.1 qσ4.2 rσ4 eσ4 ez5 dX7_use_66 (fun H hw => ?_)
  refine cl_astore (lv' := [(4, cR v z5), (2, cR v x2), (3, cR v x3)]) hx hb dX7_use_69 hl (by decide) rfl (fun ls hl => ?_)
  refine lv_iconst (v := rI 0) hx hb dX7_use_71 rfl ?_
  refine cl_istore (lv' := [(5, .int (rI 0)), (4, cR v z5), (2, cR v x2), (3, cR v x3)]) hx hb dX7_use_72 hl (by decide) rfl (fun ls hl => ?_)
  exact pw_X7_use_74 rfl hR htr hd5 B hnh 2000000 σ4 x2 x3 z5 0 ix2 ix3 iz5 ⟨by decide, by decide⟩ hf _ _ _ _ _ hw (cl_sub hl [2, 3, 1, 0] rfl)

set_option maxHeartbeats 4000000 in
set_option maxRecDepth 100000 in
theorem pw_X7_use_26 {v : cwE} {bd : cBd} {p : Program} {l : Launch} {e : Env} {s : State} {m : MethodId} {args : Array Value} {below : List Frame} {meth : Method} {c : Code} {d : Nat} {rec : Nat → CS → List Int → CO} {σ0 σ' : CS} {kd : Nat} {r : Int} (hbd : bd = cw_bd v) (hR : cw_Rec l v d rec) (htr : l.stackTraces = false) (hd5 : 5 ≤ d) (B : cw_B v RX7 p s m args meth c cX7_use 6 (some (.object "PureHouse$Node"))) (hnh : ∀ x ∈ c.exceptionTable.toList, False) : ∀ (n : Nat) (σ : CS) (x0 x1 x2 x3 x4 : Int), inR x0 → inR x1 → inR x2 → inR x3 → inR x4 → pc_X7_use_26 rec bd n σ x0 x1 x2 x3 x4 = some (σ', kd, r) → ∀ (H : Heap) (locs : List Loc) (cells slots : Nat) (ls : Array Slot), cw_W v s σ0 σ H locs cells slots → cl_has ls 6 [(0, cR v x0), (1, .int (rI x1)), (2, cR v x2), (3, cR v x3), (4, .int (rI x4))] → W p l e (cw_rm v (d + 1) σ0) s m args below meth c H locs cells slots (cw_Z below v σ0 σ' kd (some (cR v r)) args s) (F0 m 26 ls []) := by
  subst hbd
  obtain ⟨hx, hb, hr, hml, hown, hts, hlk, hK⟩ := id B
  intro n
  induction n with
  | zero => intro σ x0 x1 x2 x3 x4 ix0 ix1 ix2 ix3 ix4 hf; cases hf
  | succ n ih =>
    intro σ x0 x1 x2 x3 x4 ix0 ix1 ix2 ix3 ix4 hf H locs cells slots ls hw hl
    unfold pc_X7_use_26 at hf
    refine lv_iload hx hb dX7_use_26 (lv_at hl.1 4 rfl) ?_
    refine cl_aload_n hx hb dX7_use_28 rfl (lv_at hl.1 0 rfl) ?_
    obtain ⟨z1, ez1, iz1, rz1, hf⟩ := cc_g_s hw hf
    refine cw_get (val := .int (rI z1)) B hw rz1 ⟨by decide, by decide⟩ (by decide) cwi_8 cfl_X7_9 ez1 rfl dX7_use_29 ?_
    refine rn_icmp_ge (a := x4) (b := z1) (tgt := 60) hx hb ix4 iz1 dX7_use_32 (by decide) (fun c2 => ?_) (fun c2 => ?_)
    · replace hf := cc_if_t hf c2
      exact pw_X7_use_60 rfl hR htr hd5 B hnh σ x2 x3 ix2 ix3 hf _ _ _ _ _ hw (cl_sub hl [2, 3] rfl)
    · replace hf := cc_if_f hf c2
      refine cl_aload_n hx hb dX7_use_35 rfl (lv_at hl.1 0 rfl) ?_
      obtain ⟨qσ3, hf⟩ := cc_t_s hf
      obtain ⟨σ3, kv4, z5, hσ3, hf⟩ := cc_cl_s hf
      obtain ⟨iz5, mσ3⟩ := hR 111 σ [x0] σ3 kv4 z5 hσ3
      have mσ3 : cw_Met l v yX7_atomBegins cX7_atomBegins 1 (some .boolean) d [cR v x0] σ σ3 kv4 (some (.int (rI z5))) := mσ3 ix0
      refine cw_cv (b := x0) (t := 8) (n := 0) (rest := []) (As := []) B mσ3 qσ3 ⟨by decide, by decide⟩ cgo_yX7_atomBegins cml_X7_146 cin_yX7_atomBegins cse_yX7_atomBegins (by decide +kernel) (by decide) rfl hl.1.1 (Nat.le_of_ble_eq_true rfl) dX7_use_36 rfl hw (fun h0 H locs cells slots hw => ?_) (fun h0 H locs cells slots q ce hw h1 h2 h3 => ?_)
      · rcases hf with ⟨-, hf⟩ | ⟨hk, -⟩
        · skip
          refine rn_if_eq (a := z5) (tgt := 60) hx hb iz5 dX7_use_39 (by decide) (fun c6 => ?_) (fun c6 => ?_)
          · replace hf := cc_if_t hf c6
            exact pw_X7_use_60 rfl hR htr hd5 B hnh σ3 x2 x3 ix2 ix3 hf _ _ _ _ _ hw (cl_sub hl [2, 3] rfl)
          · replace hf := cc_if_f hf c6
            refine cl_aload_n hx hb dX7_use_42 rfl (lv_at hl.1 3 rfl) ?_
            refine cl_aload_n hx hb dX7_use_43 rfl (lv_at hl.1 0 rfl) ?_
            refine lv_iload_n hx hb dX7_use_44 rfl (lv_at hl.1 1 rfl) ?_
            obtain ⟨qσ7, hf⟩ := cc_t_s hf
            obtain ⟨σ7, kv8, z9, hσ7, hf⟩ := cc_cl_s hf
            obtain ⟨iz9, mσ7⟩ := hR 110 σ3 [x0, x1] σ7 kv8 z9 hσ7
            have mσ7 : cw_Met l v yX7_atom cX7_atom 4 (some (.object "PureHouse$Node")) d [cR v x0, .int (rI x1)] σ3 σ7 kv8 (some (cR v z9)) := mσ7 ix0 ix1
            refine cw_cv (b := x0) (t := 8) (n := 1) (rest := [cR v x3]) (As := [.int (rI x1)]) B mσ7 qσ7 ⟨by decide, by decide⟩ cgo_yX7_atom cml_X7_143 cin_yX7_atom cse_yX7_atom (by decide +kernel) (by decide) rfl hl.1.1 (cl_cs (cl_1r cl_10) (Nat.le_of_ble_eq_true rfl)) dX7_use_45 rfl hw (fun h0 H locs cells slots hw => ?_) (fun h0 H locs cells slots q ce hw h1 h2 h3 => ?_)
            · rcases hf with ⟨-, hf⟩ | ⟨hk, -⟩
              · skip
                obtain ⟨qσ10, hf⟩ := cc_t_s hf
                obtain ⟨σ10, z12, hσ10, hf⟩ := cc_cn_s hf
                obtain ⟨iz12, mσ10⟩ := hR 7 σ7 [x3, z9] σ10 0 z12 hσ10
                have mσ10 : cw_Met l v yJx4a65c_add_9ea2d cJx4a65c_add_9ea2d 2 (some .boolean) d [cR v x3, cR v z9] σ7 σ10 0 (some (.int (rI z12))) := mσ10 ix3 iz9
                refine cw_cf (b := x3) (n := 1) (rest := []) (As := [cR v z9]) B mσ10 qσ10 cgo_yJx4a65c_add_9ea2d cfm_X7_67 cin_yJx4a65c_add_9ea2d cfs_yJx4a65c_add_9ea2d (cw_face_add hK) (by decide +kernel) (by decide) rfl hl.1.1 (Nat.le_of_ble_eq_true rfl) dX7_use_48 rfl hw (fun H locs cells slots hw => ?_)
                refine lv_pop hx hb dX7_use_53 rfl ?_
                obtain ⟨z13, ez13, iz13, hf⟩ := cc_ck_s hf
                refine cl_iinc (v := rI z13) (lv' := [(4, .int (rI z13)), (0, cR v x0), (1, .int (rI x1)), (2, cR v x2), (3, cR v x3)]) hx hb dX7_use_54 hl (k := 4) rfl (by rw [ez13]; exact rI_add _ _) (by decide) rfl (fun ls hl => ?_)
                refine lv_goto (tgt := 26) hx hb dX7_use_57 (by decide) ?_
                exact ih σ10 x0 x1 x2 x3 z13 ix0 ix1 ix2 ix3 iz13 hf _ _ _ _ _ hw (cl_sub hl [1, 2, 3, 4, 0] rfl)
              · exact absurd h0 hk
            · rcases hf with ⟨hk, -⟩ | ⟨-, hf⟩
              · exact absurd hk h0
              · cases hf
                exact cw_xout B hnh h0 hw h1 h2 h3
        · exact absurd h0 hk
      · rcases hf with ⟨hk, -⟩ | ⟨-, hf⟩
        · exact absurd hk h0
        · cases hf
          exact cw_xout B hnh h0 hw h1 h2 h3

set_option maxHeartbeats 4000000 in
set_option maxRecDepth 100000 in
theorem pw_X7_use_0 {v : cwE} {bd : cBd} {p : Program} {l : Launch} {e : Env} {s : State} {m : MethodId} {args : Array Value} {below : List Frame} {meth : Method} {c : Code} {d : Nat} {rec : Nat → CS → List Int → CO} {σ0 σ' : CS} {kd : Nat} {r : Int} (hbd : bd = cw_bd v) (hR : cw_Rec l v d rec) (htr : l.stackTraces = false) (hd5 : 5 ≤ d) (B : cw_B v RX7 p s m args meth c cX7_use 6 (some (.object "PureHouse$Node"))) (hnh : ∀ x ∈ c.exceptionTable.toList, False) : ∀ (σ : CS) (x0 x1 : Int), inR x0 → inR x1 → pc_X7_use_0 rec bd σ x0 x1 = some (σ', kd, r) → ∀ (H : Heap) (locs : List Loc) (cells slots : Nat) (ls : Array Slot), cw_W v s σ0 σ H locs cells slots → cl_has ls 6 [(0, cR v x0), (1, .int (rI x1))] → W p l e (cw_rm v (d + 1) σ0) s m args below meth c H locs cells slots (cw_Z below v σ0 σ' kd (some (cR v r)) args s) (F0 m 0 ls []) := by
  subst hbd
  obtain ⟨hx, hb, hr, hml, hown, hts, hlk, hK⟩ := id B
  intro σ x0 x1 ix0 ix1 hf H locs cells slots ls hw hl
  unfold pc_X7_use_0 at hf
  refine cl_aload_n hx hb dX7_use_0 rfl (lv_at hl.1 0 rfl) ?_
  refine lv_iload_n hx hb dX7_use_1 rfl (lv_at hl.1 1 rfl) ?_
  obtain ⟨qσ1, hf⟩ := cc_t_s hf
  obtain ⟨σ1, kv2, z3, hσ1, hf⟩ := cc_cl_s hf
  obtain ⟨iz3, mσ1⟩ := hR 110 σ [x0, x1] σ1 kv2 z3 hσ1
  have mσ1 : cw_Met l v yX7_atom cX7_atom 4 (some (.object "PureHouse$Node")) d [cR v x0, .int (rI x1)] σ σ1 kv2 (some (cR v z3)) := mσ1 ix0 ix1
  refine cw_cv (b := x0) (t := 8) (n := 1) (rest := []) (As := [.int (rI x1)]) B mσ1 qσ1 ⟨by decide, by decide⟩ cgo_yX7_atom cml_X7_143 cin_yX7_atom cse_yX7_atom (by decide +kernel) (by decide) rfl hl.1.1 (Nat.le_of_ble_eq_true rfl) dX7_use_2 rfl hw (fun h0 H locs cells slots hw => ?_) (fun h0 H locs cells slots q ce hw h1 h2 h3 => ?_)
  · rcases hf with ⟨-, hf⟩ | ⟨hk, -⟩
    · skip
      refine cl_astore_n (lv' := [(2, cR v z3), (0, cR v x0), (1, .int (rI x1))]) hx hb dX7_use_5 rfl hl (by decide) rfl (fun ls hl => ?_)
      refine cl_aload_n hx hb dX7_use_6 rfl (lv_at hl.1 1 rfl) ?_
      obtain ⟨qσ4, hf⟩ := cc_t_s hf
      obtain ⟨σ4, kv5, z6, hσ4, hf⟩ := cc_cl_s hf
      obtain ⟨iz6, mσ4⟩ := hR 111 σ1 [x0] σ4 kv5 z6 hσ4
      have mσ4 : cw_Met l v yX7_atomBegins cX7_atomBegins 1 (some .boolean) d [cR v x0] σ1 σ4 kv5 (some (.int (rI z6))) := mσ4 ix0
      refine cw_cv (b := x0) (t := 8) (n := 0) (rest := []) (As := []) B mσ4 qσ4 ⟨by decide, by decide⟩ cgo_yX7_atomBegins cml_X7_146 cin_yX7_atomBegins cse_yX7_atomBegins (by decide +kernel) (by decide) rfl hl.1.1 (Nat.le_of_ble_eq_true rfl) dX7_use_7 rfl hw (fun h0 H locs cells slots hw => ?_) (fun h0 H locs cells slots q ce hw h1 h2 h3 => ?_)
      · rcases hf with ⟨-, hf⟩ | ⟨hk, -⟩
        · skip
          refine rn_if_ne (a := z6) (tgt := 15) hx hb iz6 dX7_use_10 (by decide) (fun c7 => ?_) (fun c7 => ?_)
          · replace hf := cc_if_t hf c7
            obtain ⟨σ8, z9, eσ8, ez9, iz9, rσ8, hf⟩ := cc_n_s hf
            refine cw_new B hw cwt_13 rfl cwd_13 cnl_X7_57 cni_13 cnz_13 rσ8 eσ8 ez9 dX7_use_15 (fun H hw => ?_)
            refine lv_dup hx hb dX7_use_18 (cR_cat _) ?_
            obtain ⟨qσ10, hf⟩ := cc_t_s hf
            obtain ⟨σ10, z12, hσ10, hf⟩ := cc_ci_s hf
            obtain ⟨iz12, mσ10⟩ := hR 12 σ8 [z9] σ10 0 z12 hσ10
            have mσ10 : cw_Met l v yJx4a65c_init_da8c8 cJx4a65c_init_da8c8 1 none d [cR v z9] σ8 σ10 0 none := mσ10 iz9
            refine cw_ci (b := z9) (n := 0) (rest := [cR v z9]) (As := []) B mσ10 qσ10.1 rfl cgo_yJx4a65c_init_da8c8 cml_X7_59 cin_yJx4a65c_init_da8c8 (by decide +kernel) (by decide) rfl hl.1.1 (cl_cs (cl_1r cl_10) (Nat.le_of_ble_eq_true rfl)) dX7_use_19 rfl hw (fun H locs cells slots hw => ?_)
            refine cl_astore_n (lv' := [(3, cR v z9), (2, cR v z3), (0, cR v x0), (1, .int (rI x1))]) hx hb dX7_use_22 rfl hl (by decide) rfl (fun ls hl => ?_)
            refine lv_iconst (v := rI 0) hx hb dX7_use_23 rfl ?_
            refine cl_istore (lv' := [(4, .int (rI 0)), (3, cR v z9), (2, cR v z3), (0, cR v x0), (1, .int (rI x1))]) hx hb dX7_use_24 hl (by decide) rfl (fun ls hl => ?_)
            exact pw_X7_use_26 rfl hR htr hd5 B hnh 2000000 σ10 x0 x1 z3 z9 0 ix0 ix1 iz3 iz9 ⟨by decide, by decide⟩ hf _ _ _ _ _ hw (cl_sub hl [3, 4, 2, 1, 0] rfl)
          · replace hf := cc_if_f hf c7
            refine cl_aload_n hx hb dX7_use_13 rfl (lv_at hl.1 0 rfl) ?_
            exact cw_reta B hf hw dX7_use_14
        · exact absurd h0 hk
      · rcases hf with ⟨hk, -⟩ | ⟨-, hf⟩
        · exact absurd hk h0
        · cases hf
          exact cw_xout B hnh h0 hw h1 h2 h3
    · exact absurd h0 hk
  · rcases hf with ⟨hk, -⟩ | ⟨-, hf⟩
    · exact absurd hk h0
    · cases hf
      exact cw_xout B hnh h0 hw h1 h2 h3

set_option maxHeartbeats 4000000 in
set_option maxRecDepth 100000 in
theorem pm_X7_use {v : cwE} {bd : cBd} {l : Launch} {d : Nat} {rec : Nat → CS → List Int → CO} (hbd : bd = cw_bd v) (hR : cw_Rec l v d rec) (htr : l.stackTraces = false) (hd5 : 5 ≤ d) (σ σ' : CS) (x0 x1 : Int) (kd : Nat) (r : Int) (ix0 : inR x0) (ix1 : inR x1) (hf : pc_X7_use_0 rec bd σ x0 x1 = some (σ', kd, r)) : cw_Met l v yX7_use cX7_use 6 (some (.object "PureHouse$Node")) (d + 1) [cR v x0, .int (rI x1)] σ σ' kd (some (cR v r)) := by
  refine cw_ofW (by decide +kernel) ?_
  intro p e s m args below meth c s₁ B hml hv
  obtain ⟨rfl, hM, hK⟩ := hv
  have hts := atoms_spec (ws := Cond.code yX7_use cX7_use 6 (some (.object "PureHouse$Node")) :: cw_bw) B.pre
  have hB : cw_B v RX7 p s m _ meth c cX7_use 6 (some (.object "PureHouse$Node")) := ⟨B.exec, B.bytes, B.returns, hml, findClass_of_methodNamed B.named, fun w h => hts w (List.mem_cons_of_mem _ h), B.notSynchronized, hK⟩
  have hnh := cc_nh B (hts _ List.mem_cons_self)
  rw [lg_entry_eq]
  obtain ⟨ls, hls, hl⟩ := cl_ent [cR v x0, .int (rI x1)] 6 (cl_1r (cl_1i cl_10)) (Nat.le_of_ble_eq_true rfl)
  rw [hls]
  exact pw_X7_use_0 hbd hR htr hd5 hB hnh σ x0 x1 ix0 ix1 hf _ _ _ _ _ (cw_W0 hM) (cl_sub hl [0, 1] rfl)

set_option maxHeartbeats 4000000 in
set_option maxRecDepth 100000 in
theorem pw_X7_wordNumber_13 {v : cwE} {bd : cBd} {p : Program} {l : Launch} {e : Env} {s : State} {m : MethodId} {args : Array Value} {below : List Frame} {meth : Method} {c : Code} {d : Nat} {rec : Nat → CS → List Int → CO} {σ0 σ' : CS} {kd : Nat} {r : Int} (hbd : bd = cw_bd v) (hR : cw_Rec l v d rec) (htr : l.stackTraces = false) (hd5 : 5 ≤ d) (B : cw_B v RX7 p s m args meth c cX7_wordNumber 2 (some .int)) (hnh : ∀ x ∈ c.exceptionTable.toList, False) : ∀ (n : Nat) (σ : CS) (x0 x1 : Int), inR x0 → inR x1 → pc_X7_wordNumber_13 rec bd n σ x0 x1 = some (σ', kd, r) → ∀ (H : Heap) (locs : List Loc) (cells slots : Nat) (ls : Array Slot), cw_W v s σ0 σ H locs cells slots → cl_has ls 2 [(0, cR v x0), (1, .int (rI x1))] → W p l e (cw_rm v (d + 1) σ0) s m args below meth c H locs cells slots (cw_Z below v σ0 σ' kd (some (.int (rI r))) args s) (F0 m 13 ls []) := by
  subst hbd
  obtain ⟨hx, hb, hr, hml, hown, hts, hlk, hK⟩ := id B
  intro n
  induction n with
  | zero => intro σ x0 x1 ix0 ix1 hf; cases hf
  | succ n ih =>
    intro σ x0 x1 ix0 ix1 hf H locs cells slots ls hw hl
    unfold pc_X7_wordNumber_13 at hf
    refine lv_iload_n hx hb dX7_wordNumber_13 rfl (lv_at hl.1 1 rfl) ?_
    refine lv_bipush (v := rI 9) hx hb dX7_wordNumber_14 (by decide +kernel) ?_
    refine rn_icmp_ge (a := x1) (b := 9) (tgt := 38) hx hb ix1 ⟨by decide, by decide⟩ dX7_wordNumber_16 (by decide) (fun c1 => ?_) (fun c1 => ?_)
    · replace hf := cc_if_t hf c1
      refine lv_iconst (v := rI (-1)) hx hb dX7_wordNumber_38 rfl ?_
      exact cw_reti B hf hw dX7_wordNumber_39
    · replace hf := cc_if_f hf c1
      refine cl_aload_n hx hb dX7_wordNumber_19 rfl (lv_at hl.1 0 rfl) ?_
      refine lv_iload_n hx hb dX7_wordNumber_20 rfl (lv_at hl.1 1 rfl) ?_
      refine lv_bipush (v := rI 6) hx hb dX7_wordNumber_21 (by decide +kernel) ?_
      obtain ⟨z2, ez2, iz2, hf⟩ := cc_ck_s hf
      refine rn_mul hx hb ez2 dX7_wordNumber_23 ?_
      obtain ⟨qσ3, hf⟩ := cc_t_s hf
      obtain ⟨σ3, kv4, z5, hσ3, hf⟩ := cc_cl_s hf
      obtain ⟨iz5, mσ3⟩ := hR 120 σ [x0, z2] σ3 kv4 z5 hσ3
      have mσ3 : cw_Met l v yX7_isWord cX7_isWord 3 (some .boolean) d [cR v x0, .int (rI z2)] σ σ3 kv4 (some (.int (rI z5))) := mσ3 ix0 iz2
      refine cw_cv (b := x0) (t := 8) (n := 1) (rest := []) (As := [.int (rI z2)]) B mσ3 qσ3 ⟨by decide, by decide⟩ cgo_yX7_isWord cml_X7_189 cin_yX7_isWord cse_yX7_isWord (by decide +kernel) (by decide) rfl hl.1.1 (Nat.le_of_ble_eq_true rfl) dX7_wordNumber_24 rfl hw (fun h0 H locs cells slots hw => ?_) (fun h0 H locs cells slots q ce hw h1 h2 h3 => ?_)
      · rcases hf with ⟨-, hf⟩ | ⟨hk, -⟩
        · skip
          refine rn_if_eq (a := z5) (tgt := 32) hx hb iz5 dX7_wordNumber_27 (by decide) (fun c6 => ?_) (fun c6 => ?_)
          · replace hf := cc_if_t hf c6
            obtain ⟨z7, ez7, iz7, hf⟩ := cc_ck_s hf
            refine cl_iinc (v := rI z7) (lv' := [(1, .int (rI z7)), (0, cR v x0)]) hx hb dX7_wordNumber_32 hl (k := 1) rfl (by rw [ez7]; exact rI_add _ _) (by decide) rfl (fun ls hl => ?_)
            refine lv_goto (tgt := 13) hx hb dX7_wordNumber_35 (by decide) ?_
            exact ih σ3 x0 z7 ix0 iz7 hf _ _ _ _ _ hw (cl_sub hl [1, 0] rfl)
          · replace hf := cc_if_f hf c6
            refine lv_iload_n hx hb dX7_wordNumber_30 rfl (lv_at hl.1 1 rfl) ?_
            exact cw_reti B hf hw dX7_wordNumber_31
        · exact absurd h0 hk
      · rcases hf with ⟨hk, -⟩ | ⟨-, hf⟩
        · exact absurd hk h0
        · cases hf
          exact cw_xout B hnh h0 hw h1 h2 h3

set_option maxHeartbeats 4000000 in
set_option maxRecDepth 100000 in
theorem pw_X7_wordNumber_0 {v : cwE} {bd : cBd} {p : Program} {l : Launch} {e : Env} {s : State} {m : MethodId} {args : Array Value} {below : List Frame} {meth : Method} {c : Code} {d : Nat} {rec : Nat → CS → List Int → CO} {σ0 σ' : CS} {kd : Nat} {r : Int} (hbd : bd = cw_bd v) (hR : cw_Rec l v d rec) (htr : l.stackTraces = false) (hd5 : 5 ≤ d) (B : cw_B v RX7 p s m args meth c cX7_wordNumber 2 (some .int)) (hnh : ∀ x ∈ c.exceptionTable.toList, False) : ∀ (σ : CS) (x0 : Int), inR x0 → pc_X7_wordNumber_0 rec bd σ x0 = some (σ', kd, r) → ∀ (H : Heap) (locs : List Loc) (cells slots : Nat) (ls : Array Slot), cw_W v s σ0 σ H locs cells slots → cl_has ls 2 [(0, cR v x0)] → W p l e (cw_rm v (d + 1) σ0) s m args below meth c H locs cells slots (cw_Z below v σ0 σ' kd (some (.int (rI r))) args s) (F0 m 0 ls []) := by
  subst hbd
  obtain ⟨hx, hb, hr, hml, hown, hts, hlk, hK⟩ := id B
  intro σ x0 ix0 hf H locs cells slots ls hw hl
  unfold pc_X7_wordNumber_0 at hf
  refine cl_aload_n hx hb dX7_wordNumber_0 rfl (lv_at hl.1 0 rfl) ?_
  obtain ⟨z1, ez1, iz1, rz1, hf⟩ := cc_g_s hw hf
  refine cw_get (val := .int (rI z1)) B hw rz1 ⟨by decide, by decide⟩ (by decide) cwi_8 cfl_X7_24 ez1 rfl dX7_wordNumber_1 ?_
  refine lv_bipush (v := rI 6) hx hb dX7_wordNumber_4 (by decide +kernel) ?_
  refine rn_icmp_lt (a := z1) (b := 6) (tgt := 11) hx hb iz1 ⟨by decide, by decide⟩ dX7_wordNumber_6 (by decide) (fun c2 => ?_) (fun c2 => ?_)
  · replace hf := cc_if_t hf c2
    refine lv_iconst (v := rI 0) hx hb dX7_wordNumber_11 rfl ?_
    refine cl_istore_n (lv' := [(1, .int (rI 0)), (0, cR v x0)]) hx hb dX7_wordNumber_12 rfl hl (by decide) rfl (fun ls hl => ?_)
    exact pw_X7_wordNumber_13 rfl hR htr hd5 B hnh 2000000 σ x0 0 ix0 ⟨by decide, by decide⟩ hf _ _ _ _ _ hw (cl_sub hl [1, 0] rfl)
  · replace hf := cc_if_f hf c2
    refine lv_iconst (v := rI (-1)) hx hb dX7_wordNumber_9 rfl ?_
    exact cw_reti B hf hw dX7_wordNumber_10

set_option maxHeartbeats 4000000 in
set_option maxRecDepth 100000 in
theorem pm_X7_wordNumber {v : cwE} {bd : cBd} {l : Launch} {d : Nat} {rec : Nat → CS → List Int → CO} (hbd : bd = cw_bd v) (hR : cw_Rec l v d rec) (htr : l.stackTraces = false) (hd5 : 5 ≤ d) (σ σ' : CS) (x0 : Int) (kd : Nat) (r : Int) (ix0 : inR x0) (hf : pc_X7_wordNumber_0 rec bd σ x0 = some (σ', kd, r)) : cw_Met l v yX7_wordNumber cX7_wordNumber 2 (some .int) (d + 1) [cR v x0] σ σ' kd (some (.int (rI r))) := by
  refine cw_ofW (by decide +kernel) ?_
  intro p e s m args below meth c s₁ B hml hv
  obtain ⟨rfl, hM, hK⟩ := hv
  have hts := atoms_spec (ws := Cond.code yX7_wordNumber cX7_wordNumber 2 (some .int) :: cw_bw) B.pre
  have hB : cw_B v RX7 p s m _ meth c cX7_wordNumber 2 (some .int) := ⟨B.exec, B.bytes, B.returns, hml, findClass_of_methodNamed B.named, fun w h => hts w (List.mem_cons_of_mem _ h), B.notSynchronized, hK⟩
  have hnh := cc_nh B (hts _ List.mem_cons_self)
  rw [lg_entry_eq]
  obtain ⟨ls, hls, hl⟩ := cl_ent [cR v x0] 2 (cl_1r cl_10) (Nat.le_of_ble_eq_true rfl)
  rw [hls]
  exact pw_X7_wordNumber_0 hbd hR htr hd5 hB hnh σ x0 ix0 hf _ _ _ _ _ (cw_W0 hM) (cl_sub hl [0] rfl)

set_option maxHeartbeats 4000000 in
set_option maxRecDepth 100000 in
theorem pw_X8_init_46 {v : cwE} {bd : cBd} {p : Program} {l : Launch} {e : Env} {s : State} {m : MethodId} {args : Array Value} {below : List Frame} {meth : Method} {c : Code} {d : Nat} {rec : Nat → CS → List Int → CO} {σ0 σ' : CS} {kd : Nat} {r : Int} (hbd : bd = cw_bd v) (hR : cw_Rec l v d rec) (htr : l.stackTraces = false) (hd5 : 5 ≤ d) (B : cw_B v RX8 p s m args meth c cX8_init 7 none) (hin : meth.name = "<init>") (hnh : ∀ x ∈ c.exceptionTable.toList, False) : ∀ (σ : CS) (x0 x1 x5 t0 : Int), inR x0 → inR x1 → inR x5 → inR t0 → pc_X8_init_46 rec bd σ x0 x1 x5 t0 = some (σ', kd, r) → ∀ (H : Heap) (locs : List Loc) (cells slots : Nat) (ls : Array Slot), cw_W v s σ0 σ H locs cells slots → cl_has ls 7 [(0, cR v x0), (1, cR v x1), (5, cR v x5)] → W p l e (cw_rm v (d + 1) σ0) s m args below meth c H locs cells slots (cw_Z below v σ0 σ' kd none args s) (F0 m 46 ls [.int (rI t0)]) := by
  subst hbd
  obtain ⟨hx, hb, hr, hml, hown, hts, hlk, hK⟩ := id B
  intro σ x0 x1 x5 t0 ix0 ix1 ix5 it0 hf H locs cells slots ls hw hl
  unfold pc_X8_init_46 at hf
  refine cl_istore (lv' := [(6, .int (rI t0)), (0, cR v x0), (1, cR v x1), (5, cR v x5)]) hx hb dX8_init_46 hl (by decide) rfl (fun ls hl => ?_)
  refine cl_aload_n hx hb dX8_init_48 rfl (lv_at hl.1 1 rfl) ?_
  refine lv_iload hx hb dX8_init_49 (lv_at hl.1 0 rfl) ?_
  refine rn_if_eq (a := t0) (tgt := 76) hx hb it0 dX8_init_51 (by decide) (fun c1 => ?_) (fun c1 => ?_)
  · replace hf := cc_if_t hf c1
    refine cl_aload hx hb dX8_init_76 (lv_at hl.1 3 rfl) ?_
    obtain ⟨σ2, eσ2, rσ2, hf⟩ := cc_p_s hf
    refine cw_putF B hin hw rσ2 cwt_9 (by decide) rfl rfl rfl cfl_X8_44 ix5 eσ2 rfl (cw_fv_r rfl (Or.inl ⟨_, rfl⟩)) dX8_init_78 (fun H locs hw => ?_)
    exact cw_retv B hf hw dX8_init_81
  · replace hf := cc_if_f hf c1
    obtain ⟨σ3, z4, eσ3, ez4, iz4, rσ3, hf⟩ := cc_n_s hf
    refine cw_new B hw cwt_4 rfl cwd_4 cnl_X8_33 cni_4 cnz_4 rσ3 eσ3 ez4 dX8_init_54 (fun H hw => ?_)
    refine lv_dup hx hb dX8_init_57 (cR_cat _) ?_
    refine cl_aload_n hx hb dX8_init_58 rfl (lv_at hl.1 2 rfl) ?_
    obtain ⟨z5, ez5, iz5, rz5, hf⟩ := cc_g_s hw hf
    refine cw_get (val := .int (rI z5)) B hw rz5 ⟨by decide, by decide⟩ (by decide) cwi_7 cfl_X8_35 ez5 rfl dX8_init_59 ?_
    refine cl_aload_n hx hb dX8_init_62 rfl (lv_at hl.1 2 rfl) ?_
    obtain ⟨z6, ez6, iz6, rz6, hf⟩ := cc_g_s hw hf
    refine cw_get (val := cR v z6) B hw rz6 ⟨by decide, by decide⟩ (by decide) cwi_7 cfl_X8_38 ez6 rfl dX8_init_63 ?_
    refine cl_aload hx hb dX8_init_66 (lv_at hl.1 3 rfl) ?_
    refine cl_aload hx hb dX8_init_68 (lv_at hl.1 3 rfl) ?_
    obtain ⟨qσ7, hf⟩ := cc_t_s hf
    obtain ⟨σ7, z9, hσ7, hf⟩ := cc_ci_s hf
    obtain ⟨iz9, mσ7⟩ := hR 77 σ3 [z4, z5, z6, x5, x5] σ7 0 z9 hσ7
    have mσ7 : cw_Met l v yX3_init cX3_init 5 none d [cR v z4, .int (rI z5), cR v z6, cR v x5, cR v x5] σ3 σ7 0 none := mσ7 iz4 iz5 iz6 ix5 ix5
    refine cw_ci (b := z4) (n := 4) (rest := [cR v z4, cR v x0]) (As := [.int (rI z5), cR v z6, cR v x5, cR v x5]) B mσ7 qσ7.1 rfl cgo_yX3_init cml_X8_41 cin_yX3_init (by decide +kernel) (by decide) rfl hl.1.1 (cl_cs (cl_1r (cl_1r cl_10)) (Nat.le_of_ble_eq_true rfl)) dX8_init_70 rfl hw (fun H locs cells slots hw => ?_)
    refine lv_goto (tgt := 78) hx hb dX8_init_73 (by decide) ?_
    obtain ⟨σ10, eσ10, rσ10, hf⟩ := cc_p_s hf
    refine cw_putF B hin hw rσ10 cwt_9 (by decide) rfl rfl rfl cfl_X8_44 iz4 eσ10 rfl (cw_fv_r rfl (Or.inl ⟨_, rfl⟩)) dX8_init_78 (fun H locs hw => ?_)
    exact cw_retv B hf hw dX8_init_81

set_option maxHeartbeats 4000000 in
set_option maxRecDepth 100000 in
theorem pw_X8_init_0 {v : cwE} {bd : cBd} {p : Program} {l : Launch} {e : Env} {s : State} {m : MethodId} {args : Array Value} {below : List Frame} {meth : Method} {c : Code} {d : Nat} {rec : Nat → CS → List Int → CO} {σ0 σ' : CS} {kd : Nat} {r : Int} (hbd : bd = cw_bd v) (hR : cw_Rec l v d rec) (htr : l.stackTraces = false) (hd5 : 5 ≤ d) (B : cw_B v RX8 p s m args meth c cX8_init 7 none) (hin : meth.name = "<init>") (hnh : ∀ x ∈ c.exceptionTable.toList, False) : ∀ (σ : CS) (x0 x1 x2 x3 x4 : Int), inR x0 → inR x1 → inR x2 → inR x3 → inR x4 → pc_X8_init_0 rec bd σ x0 x1 x2 x3 x4 = some (σ', kd, r) → ∀ (H : Heap) (locs : List Loc) (cells slots : Nat) (ls : Array Slot), cw_W v s σ0 σ H locs cells slots → cl_has ls 7 [(0, cR v x0), (1, cR v x1), (2, cR v x2), (3, .int (rI x3)), (4, cR v x4)] → W p l e (cw_rm v (d + 1) σ0) s m args below meth c H locs cells slots (cw_Z below v σ0 σ' kd none args s) (F0 m 0 ls []) := by
  subst hbd
  obtain ⟨hx, hb, hr, hml, hown, hts, hlk, hK⟩ := id B
  intro σ x0 x1 x2 x3 x4 ix0 ix1 ix2 ix3 ix4 hf H locs cells slots ls hw hl
  unfold pc_X8_init_0 at hf
  refine cl_aload_n hx hb dX8_init_0 rfl (lv_at hl.1 0 rfl) ?_
  obtain ⟨q0, hf⟩ := cc_t_s hf
  rw [cR_r q0.1]
  refine W.objInit hx hb hown (hts _ coi_X8_1) (hts _ coi2) (hts _ coi3) rfl (hl.1.1.trans hml.symm) rfl dX8_init_1 (by show 1 ≤ d + 1; omega) (by show _ + 12 ≤ 100 * (d + 1); simp [JFrame.monitorRoom]; omega) ?_
  refine cl_aload_n hx hb dX8_init_4 rfl (lv_at hl.1 0 rfl) ?_
  refine cl_aload_n hx hb dX8_init_5 rfl (lv_at hl.1 1 rfl) ?_
  obtain ⟨σ1, eσ1, rσ1, hf⟩ := cc_p_s hf
  refine cw_putF B hin hw rσ1 cwt_9 (by decide) rfl rfl rfl cfl_X8_7 ix1 eσ1 rfl (cw_fv_r rfl (Or.inl ⟨_, rfl⟩)) dX8_init_6 (fun H locs hw => ?_)
  refine cl_aload_n hx hb dX8_init_9 rfl (lv_at hl.1 0 rfl) ?_
  refine cl_aload_n hx hb dX8_init_10 rfl (lv_at hl.1 2 rfl) ?_
  obtain ⟨σ2, eσ2, rσ2, hf⟩ := cc_p_s hf
  refine cw_putF B hin hw rσ2 cwt_9 (by decide) rfl rfl rfl cfl_X8_13 ix2 eσ2 rfl (cw_fv_r rfl (Or.inl ⟨_, rfl⟩)) dX8_init_11 (fun H locs hw => ?_)
  refine cl_aload_n hx hb dX8_init_14 rfl (lv_at hl.1 0 rfl) ?_
  refine lv_iload_n hx hb dX8_init_15 rfl (lv_at hl.1 3 rfl) ?_
  obtain ⟨σ3, eσ3, rσ3, hf⟩ := cc_p_s hf
  refine cw_putF B hin hw rσ3 cwt_9 (by decide) rfl rfl rfl cfl_X8_16 ix3 eσ3 rfl (cw_fv_n rfl rfl) dX8_init_16 (fun H locs hw => ?_)
  refine cl_aload_n hx hb dX8_init_19 rfl (lv_at hl.1 0 rfl) ?_
  refine cl_aload hx hb dX8_init_20 (lv_at hl.1 4 rfl) ?_
  obtain ⟨σ4, eσ4, rσ4, hf⟩ := cc_p_s hf
  refine cw_putF B hin hw rσ4 cwt_9 (by decide) rfl rfl rfl cfl_X8_20 ix4 eσ4 rfl (cw_fv_r rfl (Or.inl ⟨_, rfl⟩)) dX8_init_22 (fun H locs hw => ?_)
  refine cl_aload hx hb dX8_init_25 (lv_at hl.1 4 rfl) ?_
  obtain ⟨σ5, kv6, z7, hσ5, hf⟩ := cc_cl_s hf
  obtain ⟨iz7, mσ5⟩ := hR 136 σ4 [x4] σ5 kv6 z7 hσ5
  have mσ5 : cw_Met l v yX8_letsOf cX8_letsOf 1 (some (.object "PureHouse$Link")) d [cR v x4] σ4 σ5 kv6 (some (cR v z7)) := mσ5 ix4
  refine cw_cs (n := 1) (rest := []) (As := [cR v x4]) B mσ5 cgo_yX8_letsOf cml_X8_24 cst_yX8_letsOf (by decide +kernel) (by decide) rfl hl.1.1 (Nat.le_of_ble_eq_true rfl) dX8_init_27 rfl hw (fun h0 H locs cells slots hw => ?_) (fun h0 H locs cells slots q ce hw h1 h2 h3 => ?_)
  · rcases hf with ⟨-, hf⟩ | ⟨hk, -⟩
    · skip
      refine cl_astore (lv' := [(5, cR v z7), (0, cR v x0), (1, cR v x1), (2, cR v x2), (3, .int (rI x3)), (4, cR v x4)]) hx hb dX8_init_30 hl (by decide) rfl (fun ls hl => ?_)
      refine cl_aload_n hx hb dX8_init_32 rfl (lv_at hl.1 2 rfl) ?_
      obtain ⟨z8, ez8, iz8, rz8, hf⟩ := cc_g_s hw hf
      refine cw_get (val := .int (rI z8)) B hw rz8 ⟨by decide, by decide⟩ (by decide) cwi_7 cfl_X8_28 ez8 rfl dX8_init_33 ?_
      refine lv_bipush (v := rI 6) hx hb dX8_init_36 (by decide +kernel) ?_
      refine rn_icmp_ne (a := z8) (b := 6) (tgt := 45) hx hb iz8 ⟨by decide, by decide⟩ dX8_init_38 (by decide) (fun c9 => ?_) (fun c9 => ?_)
      · replace hf := cc_if_t hf c9
        refine lv_iconst (v := rI 0) hx hb dX8_init_45 rfl ?_
        exact pw_X8_init_46 rfl hR htr hd5 B hin hnh σ5 x0 x1 z7 0 ix0 ix1 iz7 ⟨by decide, by decide⟩ hf _ _ _ _ _ hw (cl_sub hl [1, 2, 0] rfl)
      · replace hf := cc_if_f hf c9
        refine lv_iconst (v := rI 1) hx hb dX8_init_41 rfl ?_
        refine lv_goto (tgt := 46) hx hb dX8_init_42 (by decide) ?_
        exact pw_X8_init_46 rfl hR htr hd5 B hin hnh σ5 x0 x1 z7 1 ix0 ix1 iz7 ⟨by decide, by decide⟩ hf _ _ _ _ _ hw (cl_sub hl [1, 2, 0] rfl)
    · exact absurd h0 hk
  · rcases hf with ⟨hk, -⟩ | ⟨-, hf⟩
    · exact absurd hk h0
    · cases hf
      exact cw_xout B hnh h0 hw h1 h2 h3

set_option maxHeartbeats 4000000 in
set_option maxRecDepth 100000 in
theorem pm_X8_init {v : cwE} {bd : cBd} {l : Launch} {d : Nat} {rec : Nat → CS → List Int → CO} (hbd : bd = cw_bd v) (hR : cw_Rec l v d rec) (htr : l.stackTraces = false) (hd5 : 5 ≤ d) (σ σ' : CS) (x0 x1 x2 x3 x4 : Int) (kd : Nat) (r : Int) (ix0 : inR x0) (ix1 : inR x1) (ix2 : inR x2) (ix3 : inR x3) (ix4 : inR x4) (hf : pc_X8_init_0 rec bd σ x0 x1 x2 x3 x4 = some (σ', kd, r)) : cw_Met l v yX8_init cX8_init 7 none (d + 1) [cR v x0, cR v x1, cR v x2, .int (rI x3), cR v x4] σ σ' kd none := by
  refine cw_ofW (by decide +kernel) ?_
  intro p e s m args below meth c s₁ B hml hv
  obtain ⟨rfl, hM, hK⟩ := hv
  have hts := atoms_spec (ws := Cond.code yX8_init cX8_init 7 none :: cw_bw) B.pre
  have hB : cw_B v RX8 p s m _ meth c cX8_init 7 none := ⟨B.exec, B.bytes, B.returns, hml, findClass_of_methodNamed B.named, fun w h => hts w (List.mem_cons_of_mem _ h), B.notSynchronized, hK⟩
  have hnh := cc_nh B (hts _ List.mem_cons_self)
  rw [lg_entry_eq]
  obtain ⟨ls, hls, hl⟩ := cl_ent [cR v x0, cR v x1, cR v x2, .int (rI x3), cR v x4] 7 (cl_1r (cl_1r (cl_1r (cl_1i (cl_1r cl_10))))) (Nat.le_of_ble_eq_true rfl)
  rw [hls]
  exact pw_X8_init_0 hbd hR htr hd5 hB (name_of_methodNamed B.named B.method).1 hnh σ x0 x1 x2 x3 x4 ix0 ix1 ix2 ix3 ix4 hf _ _ _ _ _ (cw_W0 hM) (cl_sub hl [0, 1, 2, 3, 4] rfl)

set_option maxHeartbeats 4000000 in
set_option maxRecDepth 100000 in
theorem pw_X8_letsOf_0 {v : cwE} {bd : cBd} {p : Program} {l : Launch} {e : Env} {s : State} {m : MethodId} {args : Array Value} {below : List Frame} {meth : Method} {c : Code} {d : Nat} {rec : Nat → CS → List Int → CO} {σ0 σ' : CS} {kd : Nat} {r : Int} (hbd : bd = cw_bd v) (hR : cw_Rec l v d rec) (htr : l.stackTraces = false) (hd5 : 5 ≤ d) (B : cw_B v RX8 p s m args meth c cX8_letsOf 1 (some (.object "PureHouse$Link"))) (hnh : ∀ x ∈ c.exceptionTable.toList, False) : ∀ (σ : CS) (x0 : Int), inR x0 → pc_X8_letsOf_0 rec bd σ x0 = some (σ', kd, r) → ∀ (H : Heap) (locs : List Loc) (cells slots : Nat) (ls : Array Slot), cw_W v s σ0 σ H locs cells slots → cl_has ls 1 [(0, cR v x0)] → W p l e (cw_rm v (d + 1) σ0) s m args below meth c H locs cells slots (cw_Z below v σ0 σ' kd (some (cR v r)) args s) (F0 m 0 ls []) := by
  subst hbd
  obtain ⟨hx, hb, hr, hml, hown, hts, hlk, hK⟩ := id B
  intro σ x0 ix0 hf H locs cells slots ls hw hl
  unfold pc_X8_letsOf_0 at hf
  refine cl_aload_n hx hb dX8_letsOf_0 rfl (lv_at hl.1 0 rfl) ?_
  refine cl_ifnonnull (x := x0) (tgt := 8) hx hb dX8_letsOf_1 (by decide) (fun c1 => ?_) (fun c1 => ?_)
  · replace hf := cc_if_t hf c1
    refine cl_aload_n hx hb dX8_letsOf_8 rfl (lv_at hl.1 0 rfl) ?_
    obtain ⟨z2, ez2, iz2, rz2, hf⟩ := cc_g_s hw hf
    refine cw_get (val := cR v z2) B hw rz2 ⟨by decide, by decide⟩ (by decide) cwi_9 cfl_X8_44 ez2 rfl dX8_letsOf_9 ?_
    exact cw_reta B hf hw dX8_letsOf_12
  · replace hf := cc_if_f hf c1
    refine cl_null (v := v) hx hb dX8_letsOf_4 ?_
    refine lv_goto (tgt := 12) hx hb dX8_letsOf_5 (by decide) ?_
    exact cw_reta B hf hw dX8_letsOf_12

set_option maxHeartbeats 4000000 in
set_option maxRecDepth 100000 in
theorem pm_X8_letsOf {v : cwE} {bd : cBd} {l : Launch} {d : Nat} {rec : Nat → CS → List Int → CO} (hbd : bd = cw_bd v) (hR : cw_Rec l v d rec) (htr : l.stackTraces = false) (hd5 : 5 ≤ d) (σ σ' : CS) (x0 : Int) (kd : Nat) (r : Int) (ix0 : inR x0) (hf : pc_X8_letsOf_0 rec bd σ x0 = some (σ', kd, r)) : cw_Met l v yX8_letsOf cX8_letsOf 1 (some (.object "PureHouse$Link")) (d + 1) [cR v x0] σ σ' kd (some (cR v r)) := by
  refine cw_ofW (by decide +kernel) ?_
  intro p e s m args below meth c s₁ B hml hv
  obtain ⟨rfl, hM, hK⟩ := hv
  have hts := atoms_spec (ws := Cond.code yX8_letsOf cX8_letsOf 1 (some (.object "PureHouse$Link")) :: cw_bw) B.pre
  have hB : cw_B v RX8 p s m _ meth c cX8_letsOf 1 (some (.object "PureHouse$Link")) := ⟨B.exec, B.bytes, B.returns, hml, findClass_of_methodNamed B.named, fun w h => hts w (List.mem_cons_of_mem _ h), B.notSynchronized, hK⟩
  have hnh := cc_nh B (hts _ List.mem_cons_self)
  rw [lg_entry_eq]
  obtain ⟨ls, hls, hl⟩ := cl_ent [cR v x0] 1 (cl_1r cl_10) (Nat.le_of_ble_eq_true rfl)
  rw [hls]
  exact pw_X8_letsOf_0 hbd hR htr hd5 hB hnh σ x0 ix0 hf _ _ _ _ _ (cw_W0 hM) (cl_sub hl [0] rfl)

set_option maxHeartbeats 4000000 in
set_option maxRecDepth 100000 in
theorem pw_X9_init_0 {v : cwE} {bd : cBd} {p : Program} {l : Launch} {e : Env} {s : State} {m : MethodId} {args : Array Value} {below : List Frame} {meth : Method} {c : Code} {d : Nat} {rec : Nat → CS → List Int → CO} {σ0 σ' : CS} {kd : Nat} {r : Int} (hbd : bd = cw_bd v) (hR : cw_Rec l v d rec) (htr : l.stackTraces = false) (hd5 : 5 ≤ d) (B : cw_B v RX9 p s m args meth c cX9_init 6 none) (hin : meth.name = "<init>") (hnh : ∀ x ∈ c.exceptionTable.toList, False) : ∀ (σ : CS) (x0 x1 x2 x3 x4 x5 : Int), inR x0 → inR x1 → inR x2 → inR x3 → inR x4 → inR x5 → pc_X9_init_0 rec bd σ x0 x1 x2 x3 x4 x5 = some (σ', kd, r) → ∀ (H : Heap) (locs : List Loc) (cells slots : Nat) (ls : Array Slot), cw_W v s σ0 σ H locs cells slots → cl_has ls 6 [(0, cR v x0), (1, .int (rI x1)), (2, .int (rI x2)), (3, cR v x3), (4, cR v x4), (5, cR v x5)] → W p l e (cw_rm v (d + 1) σ0) s m args below meth c H locs cells slots (cw_Z below v σ0 σ' kd none args s) (F0 m 0 ls []) := by
  subst hbd
  obtain ⟨hx, hb, hr, hml, hown, hts, hlk, hK⟩ := id B
  intro σ x0 x1 x2 x3 x4 x5 ix0 ix1 ix2 ix3 ix4 ix5 hf H locs cells slots ls hw hl
  unfold pc_X9_init_0 at hf
  refine cl_aload_n hx hb dX9_init_0 rfl (lv_at hl.1 0 rfl) ?_
  obtain ⟨q0, hf⟩ := cc_t_s hf
  rw [cR_r q0.1]
  refine W.objInit hx hb hown (hts _ coi_X9_1) (hts _ coi2) (hts _ coi3) rfl (hl.1.1.trans hml.symm) rfl dX9_init_1 (by show 1 ≤ d + 1; omega) (by show _ + 12 ≤ 100 * (d + 1); simp [JFrame.monitorRoom]; omega) ?_
  refine cl_aload_n hx hb dX9_init_4 rfl (lv_at hl.1 0 rfl) ?_
  refine lv_iload_n hx hb dX9_init_5 rfl (lv_at hl.1 1 rfl) ?_
  obtain ⟨σ1, eσ1, rσ1, hf⟩ := cc_p_s hf
  refine cw_putF B hin hw rσ1 cwt_10 (by decide) rfl rfl rfl cfl_X9_7 ix1 eσ1 rfl (cw_fv_n rfl rfl) dX9_init_6 (fun H locs hw => ?_)
  refine cl_aload_n hx hb dX9_init_9 rfl (lv_at hl.1 0 rfl) ?_
  refine lv_iload_n hx hb dX9_init_10 rfl (lv_at hl.1 2 rfl) ?_
  obtain ⟨σ2, eσ2, rσ2, hf⟩ := cc_p_s hf
  refine cw_putF B hin hw rσ2 cwt_10 (by decide) rfl rfl rfl cfl_X9_13 ix2 eσ2 rfl (cw_fv_n rfl rfl) dX9_init_11 (fun H locs hw => ?_)
  refine cl_aload_n hx hb dX9_init_14 rfl (lv_at hl.1 0 rfl) ?_
  refine cl_aload_n hx hb dX9_init_15 rfl (lv_at hl.1 3 rfl) ?_
  obtain ⟨σ3, eσ3, rσ3, hf⟩ := cc_p_s hf
  refine cw_putF B hin hw rσ3 cwt_10 (by decide) rfl rfl rfl cfl_X9_16 ix3 eσ3 rfl (cw_fv_r rfl (Or.inl ⟨_, rfl⟩)) dX9_init_16 (fun H locs hw => ?_)
  refine cl_aload_n hx hb dX9_init_19 rfl (lv_at hl.1 0 rfl) ?_
  refine cl_aload hx hb dX9_init_20 (lv_at hl.1 4 rfl) ?_
  obtain ⟨σ4, eσ4, rσ4, hf⟩ := cc_p_s hf
  refine cw_putF B hin hw rσ4 cwt_10 (by decide) rfl rfl rfl cfl_X9_20 ix4 eσ4 rfl (cw_fv_r rfl (Or.inl ⟨_, rfl⟩)) dX9_init_22 (fun H locs hw => ?_)
  refine cl_aload_n hx hb dX9_init_25 rfl (lv_at hl.1 0 rfl) ?_
  refine cl_aload hx hb dX9_init_26 (lv_at hl.1 5 rfl) ?_
  obtain ⟨σ5, eσ5, rσ5, hf⟩ := cc_p_s hf
  refine cw_putF B hin hw rσ5 cwt_10 (by decide) rfl rfl rfl cfl_X9_23 ix5 eσ5 rfl (cw_fv_r rfl (Or.inl ⟨_, rfl⟩)) dX9_init_28 (fun H locs hw => ?_)
  exact cw_retv B hf hw dX9_init_31

set_option maxHeartbeats 4000000 in
set_option maxRecDepth 100000 in
theorem pm_X9_init {v : cwE} {bd : cBd} {l : Launch} {d : Nat} {rec : Nat → CS → List Int → CO} (hbd : bd = cw_bd v) (hR : cw_Rec l v d rec) (htr : l.stackTraces = false) (hd5 : 5 ≤ d) (σ σ' : CS) (x0 x1 x2 x3 x4 x5 : Int) (kd : Nat) (r : Int) (ix0 : inR x0) (ix1 : inR x1) (ix2 : inR x2) (ix3 : inR x3) (ix4 : inR x4) (ix5 : inR x5) (hf : pc_X9_init_0 rec bd σ x0 x1 x2 x3 x4 x5 = some (σ', kd, r)) : cw_Met l v yX9_init cX9_init 6 none (d + 1) [cR v x0, .int (rI x1), .int (rI x2), cR v x3, cR v x4, cR v x5] σ σ' kd none := by
  refine cw_ofW (by decide +kernel) ?_
  intro p e s m args below meth c s₁ B hml hv
  obtain ⟨rfl, hM, hK⟩ := hv
  have hts := atoms_spec (ws := Cond.code yX9_init cX9_init 6 none :: cw_bw) B.pre
  have hB : cw_B v RX9 p s m _ meth c cX9_init 6 none := ⟨B.exec, B.bytes, B.returns, hml, findClass_of_methodNamed B.named, fun w h => hts w (List.mem_cons_of_mem _ h), B.notSynchronized, hK⟩
  have hnh := cc_nh B (hts _ List.mem_cons_self)
  rw [lg_entry_eq]
  obtain ⟨ls, hls, hl⟩ := cl_ent [cR v x0, .int (rI x1), .int (rI x2), cR v x3, cR v x4, cR v x5] 6 (cl_1r (cl_1i (cl_1i (cl_1r (cl_1r (cl_1r cl_10)))))) (Nat.le_of_ble_eq_true rfl)
  rw [hls]
  exact pw_X9_init_0 hbd hR htr hd5 hB (name_of_methodNamed B.named B.method).1 hnh σ x0 x1 x2 x3 x4 x5 ix0 ix1 ix2 ix3 ix4 ix5 hf _ _ _ _ _ (cw_W0 hM) (cl_sub hl [0, 1, 2, 3, 4, 5] rfl)

