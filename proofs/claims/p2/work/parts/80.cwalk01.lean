set_option maxHeartbeats 4000000 in
set_option maxRecDepth 100000 in
theorem pm_X10_clear {v : cwE} {bd : cBd} {l : Launch} {d : Nat} {rec : Nat → CS → List Int → CO} (hbd : bd = cw_bd v) (hR : cw_Rec l v d rec) (htr : l.stackTraces = false) (hd5 : 5 ≤ d) (σ σ' : CS) (x0 : Int) (kd : Nat) (r : Int) (ix0 : inR x0) (hf : pc_X10_clear_0 rec bd σ x0 = some (σ', kd, r)) : cw_Met l v yX10_clear cX10_clear 1 none (d + 1) [cR v x0] σ σ' kd none := by
  refine cw_ofW (by decide +kernel) ?_
  intro p e s m args below meth c s₁ B hml hv
  obtain ⟨rfl, hM, hK⟩ := hv
  have hts := atoms_spec (ws := Cond.code yX10_clear cX10_clear 1 none :: cw_bw) B.pre
  have hB : cw_B v RX10 p s m _ meth c cX10_clear 1 none := ⟨B.exec, B.bytes, B.returns, hml, findClass_of_methodNamed B.named, fun w h => hts w (List.mem_cons_of_mem _ h), B.notSynchronized, hK⟩
  have hnh := cc_nh B (hts _ List.mem_cons_self)
  rw [lg_entry_eq]
  obtain ⟨ls, hls, hl⟩ := cl_ent [cR v x0] 1 (cl_1r cl_10) (Nat.le_of_ble_eq_true rfl)
  rw [hls]
  exact pw_X10_clear_0 hbd hR htr hd5 hB hnh σ x0 ix0 hf _ _ _ _ _ (cw_W0 hM) (cl_sub hl [0] rfl)

set_option maxHeartbeats 4000000 in
set_option maxRecDepth 100000 in
theorem pw_X10_init_0 {v : cwE} {bd : cBd} {p : Program} {l : Launch} {e : Env} {s : State} {m : MethodId} {args : Array Value} {below : List Frame} {meth : Method} {c : Code} {d : Nat} {rec : Nat → CS → List Int → CO} {σ0 σ' : CS} {kd : Nat} {r : Int} (hbd : bd = cw_bd v) (hR : cw_Rec l v d rec) (htr : l.stackTraces = false) (hd5 : 5 ≤ d) (B : cw_B v RX10 p s m args meth c cX10_init 1 none) (hin : meth.name = "<init>") (hnh : ∀ x ∈ c.exceptionTable.toList, False) : ∀ (σ : CS) (x0 : Int), inR x0 → pc_X10_init_0 rec bd σ x0 = some (σ', kd, r) → ∀ (H : Heap) (locs : List Loc) (cells slots : Nat) (ls : Array Slot), cw_W v s σ0 σ H locs cells slots → cl_has ls 1 [(0, cR v x0)] → W p l e (cw_rm v (d + 1) σ0) s m args below meth c H locs cells slots (cw_Z below v σ0 σ' kd none args s) (F0 m 0 ls []) := by
  subst hbd
  obtain ⟨hx, hb, hr, hml, hown, hts, hlk, hK⟩ := id B
  intro σ x0 ix0 hf H locs cells slots ls hw hl
  unfold pc_X10_init_0 at hf
  refine cl_aload_n hx hb dX10_init_0 rfl (lv_at hl.1 0 rfl) ?_
  obtain ⟨q0, hf⟩ := cc_t_s hf
  rw [cR_r q0.1]
  refine W.objInit hx hb hown (hts _ coi_X10_3) (hts _ coi2) (hts _ coi3) rfl (hl.1.1.trans hml.symm) rfl dX10_init_1 (by show 1 ≤ d + 1; omega) (by show _ + 12 ≤ 100 * (d + 1); simp [JFrame.monitorRoom]; omega) ?_
  refine cl_aload_n hx hb dX10_init_4 rfl (lv_at hl.1 0 rfl) ?_
  refine lv_iconst (v := rI 0) hx hb dX10_init_5 rfl ?_
  obtain ⟨σ1, eσ1, rσ1, hf⟩ := cc_p_s hf
  refine cw_put B hw rσ1 cwt_11 (by decide) rfl cfl_X10_9 ⟨by decide, by decide⟩ eσ1 rfl (cw_fv_n rfl rfl) dX10_init_6 (fun H locs hw => ?_)
  refine cl_aload_n hx hb dX10_init_9 rfl (lv_at hl.1 0 rfl) ?_
  refine lv_iconst (v := rI (-1)) hx hb dX10_init_10 rfl ?_
  obtain ⟨σ2, eσ2, rσ2, hf⟩ := cc_p_s hf
  refine cw_put B hw rσ2 cwt_11 (by decide) rfl cfl_X10_15 ⟨by decide, by decide⟩ eσ2 rfl (cw_fv_n rfl rfl) dX10_init_11 (fun H locs hw => ?_)
  exact cw_retv B hf hw dX10_init_14

set_option maxHeartbeats 4000000 in
set_option maxRecDepth 100000 in
theorem pm_X10_init {v : cwE} {bd : cBd} {l : Launch} {d : Nat} {rec : Nat → CS → List Int → CO} (hbd : bd = cw_bd v) (hR : cw_Rec l v d rec) (htr : l.stackTraces = false) (hd5 : 5 ≤ d) (σ σ' : CS) (x0 : Int) (kd : Nat) (r : Int) (ix0 : inR x0) (hf : pc_X10_init_0 rec bd σ x0 = some (σ', kd, r)) : cw_Met l v yX10_init cX10_init 1 none (d + 1) [cR v x0] σ σ' kd none := by
  refine cw_ofW (by decide +kernel) ?_
  intro p e s m args below meth c s₁ B hml hv
  obtain ⟨rfl, hM, hK⟩ := hv
  have hts := atoms_spec (ws := Cond.code yX10_init cX10_init 1 none :: cw_bw) B.pre
  have hB : cw_B v RX10 p s m _ meth c cX10_init 1 none := ⟨B.exec, B.bytes, B.returns, hml, findClass_of_methodNamed B.named, fun w h => hts w (List.mem_cons_of_mem _ h), B.notSynchronized, hK⟩
  have hnh := cc_nh B (hts _ List.mem_cons_self)
  rw [lg_entry_eq]
  obtain ⟨ls, hls, hl⟩ := cl_ent [cR v x0] 1 (cl_1r cl_10) (Nat.le_of_ble_eq_true rfl)
  rw [hls]
  exact pw_X10_init_0 hbd hR htr hd5 hB (name_of_methodNamed B.named B.method).1 hnh σ x0 ix0 hf _ _ _ _ _ (cw_W0 hM) (cl_sub hl [0] rfl)

set_option maxHeartbeats 4000000 in
set_option maxRecDepth 100000 in
theorem pw_X10_set_0 {v : cwE} {bd : cBd} {p : Program} {l : Launch} {e : Env} {s : State} {m : MethodId} {args : Array Value} {below : List Frame} {meth : Method} {c : Code} {d : Nat} {rec : Nat → CS → List Int → CO} {σ0 σ' : CS} {kd : Nat} {r : Int} (hbd : bd = cw_bd v) (hR : cw_Rec l v d rec) (htr : l.stackTraces = false) (hd5 : 5 ≤ d) (B : cw_B v RX10 p s m args meth c cX10_set 3 none) (hnh : ∀ x ∈ c.exceptionTable.toList, False) : ∀ (σ : CS) (x0 x1 x2 : Int), inR x0 → inR x1 → inR x2 → pc_X10_set_0 rec bd σ x0 x1 x2 = some (σ', kd, r) → ∀ (H : Heap) (locs : List Loc) (cells slots : Nat) (ls : Array Slot), cw_W v s σ0 σ H locs cells slots → cl_has ls 3 [(0, cR v x0), (1, .int (rI x1)), (2, .int (rI x2))] → W p l e (cw_rm v (d + 1) σ0) s m args below meth c H locs cells slots (cw_Z below v σ0 σ' kd none args s) (F0 m 0 ls []) := by
  subst hbd
  obtain ⟨hx, hb, hr, hml, hown, hts, hlk, hK⟩ := id B
  intro σ x0 x1 x2 ix0 ix1 ix2 hf H locs cells slots ls hw hl
  unfold pc_X10_set_0 at hf
  refine cl_aload_n hx hb dX10_set_0 rfl (lv_at hl.1 0 rfl) ?_
  refine lv_iload_n hx hb dX10_set_1 rfl (lv_at hl.1 1 rfl) ?_
  obtain ⟨σ1, eσ1, rσ1, hf⟩ := cc_p_s hf
  refine cw_put B hw rσ1 cwt_11 (by decide) rfl cfl_X10_9 ix1 eσ1 rfl (cw_fv_n rfl rfl) dX10_set_2 (fun H locs hw => ?_)
  refine cl_aload_n hx hb dX10_set_5 rfl (lv_at hl.1 0 rfl) ?_
  refine lv_iload_n hx hb dX10_set_6 rfl (lv_at hl.1 2 rfl) ?_
  obtain ⟨σ2, eσ2, rσ2, hf⟩ := cc_p_s hf
  refine cw_put B hw rσ2 cwt_11 (by decide) rfl cfl_X10_15 ix2 eσ2 rfl (cw_fv_n rfl rfl) dX10_set_7 (fun H locs hw => ?_)
  exact cw_retv B hf hw dX10_set_10

set_option maxHeartbeats 4000000 in
set_option maxRecDepth 100000 in
theorem pm_X10_set {v : cwE} {bd : cBd} {l : Launch} {d : Nat} {rec : Nat → CS → List Int → CO} (hbd : bd = cw_bd v) (hR : cw_Rec l v d rec) (htr : l.stackTraces = false) (hd5 : 5 ≤ d) (σ σ' : CS) (x0 x1 x2 : Int) (kd : Nat) (r : Int) (ix0 : inR x0) (ix1 : inR x1) (ix2 : inR x2) (hf : pc_X10_set_0 rec bd σ x0 x1 x2 = some (σ', kd, r)) : cw_Met l v yX10_set cX10_set 3 none (d + 1) [cR v x0, .int (rI x1), .int (rI x2)] σ σ' kd none := by
  refine cw_ofW (by decide +kernel) ?_
  intro p e s m args below meth c s₁ B hml hv
  obtain ⟨rfl, hM, hK⟩ := hv
  have hts := atoms_spec (ws := Cond.code yX10_set cX10_set 3 none :: cw_bw) B.pre
  have hB : cw_B v RX10 p s m _ meth c cX10_set 3 none := ⟨B.exec, B.bytes, B.returns, hml, findClass_of_methodNamed B.named, fun w h => hts w (List.mem_cons_of_mem _ h), B.notSynchronized, hK⟩
  have hnh := cc_nh B (hts _ List.mem_cons_self)
  rw [lg_entry_eq]
  obtain ⟨ls, hls, hl⟩ := cl_ent [cR v x0, .int (rI x1), .int (rI x2)] 3 (cl_1r (cl_1i (cl_1i cl_10))) (Nat.le_of_ble_eq_true rfl)
  rw [hls]
  exact pw_X10_set_0 hbd hR htr hd5 hB hnh σ x0 x1 x2 ix0 ix1 ix2 hf _ _ _ _ _ (cw_W0 hM) (cl_sub hl [0, 1, 2] rfl)

set_option maxHeartbeats 4000000 in
set_option maxRecDepth 100000 in
theorem pw_X11_addAxiom_0 {v : cwE} {bd : cBd} {p : Program} {l : Launch} {e : Env} {s : State} {m : MethodId} {args : Array Value} {below : List Frame} {meth : Method} {c : Code} {d : Nat} {rec : Nat → CS → List Int → CO} {σ0 σ' : CS} {kd : Nat} {r : Int} (hbd : bd = cw_bd v) (hR : cw_Rec l v d rec) (htr : l.stackTraces = false) (hd5 : 5 ≤ d) (B : cw_B v RX11 p s m args meth c cX11_addAxiom 4 none) (hnh : ∀ x ∈ c.exceptionTable.toList, False) : ∀ (σ : CS) (x0 x1 : Int), inR x0 → inR x1 → pc_X11_addAxiom_0 rec bd σ x0 x1 = some (σ', kd, r) → ∀ (H : Heap) (locs : List Loc) (cells slots : Nat) (ls : Array Slot), cw_W v s σ0 σ H locs cells slots → cl_has ls 4 [(0, cR v x0), (1, cR v x1)] → W p l e (cw_rm v (d + 1) σ0) s m args below meth c H locs cells slots (cw_Z below v σ0 σ' kd none args s) (F0 m 0 ls []) := by
  subst hbd
  obtain ⟨hx, hb, hr, hml, hown, hts, hlk, hK⟩ := id B
  intro σ x0 x1 ix0 ix1 hf H locs cells slots ls hw hl
  unfold pc_X11_addAxiom_0 at hf
  refine cl_aload_n hx hb dX11_addAxiom_0 rfl (lv_at hl.1 0 rfl) ?_
  refine cl_aload_n hx hb dX11_addAxiom_1 rfl (lv_at hl.1 1 rfl) ?_
  obtain ⟨qσ1, hf⟩ := cc_t_s hf
  obtain ⟨σ1, kv2, z3, hσ1, hf⟩ := cc_cl_s hf
  obtain ⟨iz3, mσ1⟩ := hR 55 σ [x0, x1] σ1 kv2 z3 hσ1
  have mσ1 : cw_Met l v yX11_refuseBesideNames cX11_refuseBesideNames 2 none d [cR v x0, cR v x1] σ σ1 kv2 none := mσ1 ix0 ix1
  refine cw_cv (b := x0) (t := 12) (n := 1) (rest := []) (As := [cR v x1]) B mσ1 qσ1 ⟨by decide, by decide⟩ cgo_yX11_refuseBesideNames cml_X11_246 cin_yX11_refuseBesideNames cse_yX11_refuseBesideNames (by decide +kernel) (by decide) rfl hl.1.1 (Nat.le_of_ble_eq_true rfl) dX11_addAxiom_2 rfl hw (fun h0 H locs cells slots hw => ?_) (fun h0 H locs cells slots q ce hw h1 h2 h3 => ?_)
  · rcases hf with ⟨-, hf⟩ | ⟨hk, -⟩
    · skip
      refine cl_aload_n hx hb dX11_addAxiom_5 rfl (lv_at hl.1 0 rfl) ?_
      refine cl_aload_n hx hb dX11_addAxiom_6 rfl (lv_at hl.1 1 rfl) ?_
      obtain ⟨z4, ez4, iz4, rz4, hf⟩ := cc_g_s hw hf
      refine cw_get (val := cR v z4) B hw rz4 ⟨by decide, by decide⟩ (by decide) cwi_10 cfl_X11_249 ez4 rfl dX11_addAxiom_7 ?_
      obtain ⟨qσ5, hf⟩ := cc_t_s hf
      obtain ⟨σ5, kv6, z7, hσ5, hf⟩ := cc_cl_s hf
      obtain ⟨iz7, mσ5⟩ := hR 51 σ1 [x0, z4] σ5 kv6 z7 hσ5
      have mσ5 : cw_Met l v yX11_neededSort cX11_neededSort 3 (some .int) d [cR v x0, cR v z4] σ1 σ5 kv6 (some (.int (rI z7))) := mσ5 ix0 iz4
      refine cw_cv (b := x0) (t := 12) (n := 1) (rest := []) (As := [cR v z4]) B mσ5 qσ5 ⟨by decide, by decide⟩ cgo_yX11_neededSort cml_X11_273 cin_yX11_neededSort cse_yX11_neededSort (by decide +kernel) (by decide) rfl hl.1.1 (Nat.le_of_ble_eq_true rfl) dX11_addAxiom_10 rfl hw (fun h0 H locs cells slots hw => ?_) (fun h0 H locs cells slots q ce hw h1 h2 h3 => ?_)
      · rcases hf with ⟨-, hf⟩ | ⟨hk, -⟩
        · skip
          refine cl_istore_n (lv' := [(2, .int (rI z7)), (0, cR v x0), (1, cR v x1)]) hx hb dX11_addAxiom_13 rfl hl (by decide) rfl (fun ls hl => ?_)
          refine cl_aload_n hx hb dX11_addAxiom_14 rfl (lv_at hl.1 1 rfl) ?_
          refine cl_aload_n hx hb dX11_addAxiom_15 rfl (lv_at hl.1 2 rfl) ?_
          obtain ⟨z8, ez8, iz8, rz8, hf⟩ := cc_g_s hw hf
          refine cw_get (val := cR v z8) B hw rz8 ⟨by decide, by decide⟩ (by decide) cwi_10 cfl_X11_229 ez8 rfl dX11_addAxiom_16 ?_
          obtain ⟨qσ9, hf⟩ := cc_t_s hf
          obtain ⟨σ9, kv10, z11, hσ9, hf⟩ := cc_cl_s hf
          obtain ⟨iz11, mσ9⟩ := hR 51 σ5 [x0, z8] σ9 kv10 z11 hσ9
          have mσ9 : cw_Met l v yX11_neededSort cX11_neededSort 3 (some .int) d [cR v x0, cR v z8] σ5 σ9 kv10 (some (.int (rI z11))) := mσ9 ix0 iz8
          refine cw_cv (b := x0) (t := 12) (n := 1) (rest := []) (As := [cR v z8]) B mσ9 qσ9 ⟨by decide, by decide⟩ cgo_yX11_neededSort cml_X11_273 cin_yX11_neededSort cse_yX11_neededSort (by decide +kernel) (by decide) rfl hl.1.1 (Nat.le_of_ble_eq_true rfl) dX11_addAxiom_19 rfl hw (fun h0 H locs cells slots hw => ?_) (fun h0 H locs cells slots q ce hw h1 h2 h3 => ?_)
          · rcases hf with ⟨-, hf⟩ | ⟨hk, -⟩
            · skip
              refine cl_istore_n (lv' := [(3, .int (rI z11)), (2, .int (rI z7)), (0, cR v x0), (1, cR v x1)]) hx hb dX11_addAxiom_22 rfl hl (by decide) rfl (fun ls hl => ?_)
              refine cl_aload_n hx hb dX11_addAxiom_23 rfl (lv_at hl.1 2 rfl) ?_
              obtain ⟨z12, ez12, iz12, rz12, hf⟩ := cc_g_s hw hf
              refine cw_get (val := cR v z12) B hw rz12 ⟨by decide, by decide⟩ (by decide) cwi_12 cfl_X11_23 ez12 rfl dX11_addAxiom_24 ?_
              refine lv_iload_n hx hb dX11_addAxiom_27 rfl (lv_at hl.1 1 rfl) ?_
              obtain ⟨qσ13, hf⟩ := cc_t_s hf
              obtain ⟨σ13, kv14, z15, hσ13, hf⟩ := cc_cl_s hf
              obtain ⟨iz15, mσ13⟩ := hR 17 σ9 [z12, z7] σ13 kv14 z15 hσ13
              have mσ13 : cw_Met l v yX0_axiomOf cX0_axiomOf 2 (some .int) d [cR v z12, .int (rI z7)] σ9 σ13 kv14 (some (.int (rI z15))) := mσ13 iz12 iz7
              refine cw_cv (b := z12) (t := 1) (n := 1) (rest := []) (As := [.int (rI z7)]) B mσ13 qσ13 ⟨by decide, by decide⟩ cgo_yX0_axiomOf cml_X11_139 cin_yX0_axiomOf cse_yX0_axiomOf (by decide +kernel) (by decide) rfl hl.1.1 (Nat.le_of_ble_eq_true rfl) dX11_addAxiom_28 rfl hw (fun h0 H locs cells slots hw => ?_) (fun h0 H locs cells slots q ce hw h1 h2 h3 => ?_)
              · rcases hf with ⟨-, hf⟩ | ⟨hk, -⟩
                · skip
                  refine lv_iconst (v := rI (-1)) hx hb dX11_addAxiom_31 rfl ?_
                  refine rn_icmp_eq (a := z15) (b := (-1)) (tgt := 58) hx hb iz15 ⟨by decide, by decide⟩ dX11_addAxiom_32 (by decide) (fun c16 => ?_) (fun c16 => ?_)
                  · replace hf := cc_if_t hf c16
                    refine cl_aload_n hx hb dX11_addAxiom_58 rfl (lv_at hl.1 2 rfl) ?_
                    obtain ⟨z17, ez17, iz17, rz17, hf⟩ := cc_g_s hw hf
                    refine cw_get (val := cR v z17) B hw rz17 ⟨by decide, by decide⟩ (by decide) cwi_12 cfl_X11_23 ez17 rfl dX11_addAxiom_59 ?_
                    refine lv_iload_n hx hb dX11_addAxiom_62 rfl (lv_at hl.1 1 rfl) ?_
                    refine lv_iload_n hx hb dX11_addAxiom_63 rfl (lv_at hl.1 0 rfl) ?_
                    obtain ⟨qσ18, hf⟩ := cc_t_s hf
                    obtain ⟨σ18, kv19, z20, hσ18, hf⟩ := cc_cl_s hf
                    obtain ⟨iz20, mσ18⟩ := hR 22 σ13 [z17, z7, z11] σ18 kv19 z20 hσ18
                    have mσ18 : cw_Met l v yX0_setAxiom cX0_setAxiom 3 none d [cR v z17, .int (rI z7), .int (rI z11)] σ13 σ18 kv19 none := mσ18 iz17 iz7 iz11
                    refine cw_cv (b := z17) (t := 1) (n := 2) (rest := []) (As := [.int (rI z7), .int (rI z11)]) B mσ18 qσ18 ⟨by decide, by decide⟩ cgo_yX0_setAxiom cml_X11_276 cin_yX0_setAxiom cse_yX0_setAxiom (by decide +kernel) (by decide) rfl hl.1.1 (Nat.le_of_ble_eq_true rfl) dX11_addAxiom_64 rfl hw (fun h0 H locs cells slots hw => ?_) (fun h0 H locs cells slots q ce hw h1 h2 h3 => ?_)
                    · rcases hf with ⟨-, hf⟩ | ⟨hk, -⟩
                      · skip
                        exact cw_retv B hf hw dX11_addAxiom_67
                      · exact absurd h0 hk
                    · rcases hf with ⟨hk, -⟩ | ⟨-, hf⟩
                      · exact absurd hk h0
                      · cases hf
                        exact cw_xout B hnh h0 hw h1 h2 h3
                  · replace hf := cc_if_f hf c16
                    refine cl_aload_n hx hb dX11_addAxiom_35 rfl (lv_at hl.1 2 rfl) ?_
                    obtain ⟨z21, ez21, iz21, rz21, hf⟩ := cc_g_s hw hf
                    refine cw_get (val := cR v z21) B hw rz21 ⟨by decide, by decide⟩ (by decide) cwi_12 cfl_X11_16 ez21 rfl dX11_addAxiom_36 ?_
                    refine lv_iconst (v := rI 4) hx hb dX11_addAxiom_39 rfl ?_
                    refine cl_aload_n hx hb dX11_addAxiom_40 rfl (lv_at hl.1 3 rfl) ?_
                    obtain ⟨z22, ez22, iz22, rz22, hf⟩ := cc_g_s hw hf
                    refine cw_get (val := cR v z22) B hw rz22 ⟨by decide, by decide⟩ (by decide) cwi_10 cfl_X11_249 ez22 rfl dX11_addAxiom_41 ?_
                    obtain ⟨z23, ez23, iz23, rz23, hf⟩ := cc_g_s hw hf
                    refine cw_get (val := .int (rI z23)) B hw rz23 ⟨by decide, by decide⟩ (by decide) cwi_7 cfl_X11_255 ez23 rfl dX11_addAxiom_44 ?_
                    obtain ⟨qσ24, hf⟩ := cc_t_s hf
                    obtain ⟨σ24, kv25, z26, hσ24, hf⟩ := cc_cl_s hf
                    obtain ⟨iz26, mσ24⟩ := hR 30 σ13 [z21, 4, z23] σ24 kv25 z26 hσ24
                    have mσ24 : cw_Met l v yX10_set cX10_set 3 none d [cR v z21, .int (rI 4), .int (rI z23)] σ13 σ24 kv25 none := mσ24 iz21 ⟨by decide, by decide⟩ iz23
                    refine cw_cv (b := z21) (t := 11) (n := 2) (rest := []) (As := [.int (rI 4), .int (rI z23)]) B mσ24 qσ24 ⟨by decide, by decide⟩ cgo_yX10_set cml_X11_256 cin_yX10_set cse_yX10_set (by decide +kernel) (by decide) rfl hl.1.1 (Nat.le_of_ble_eq_true rfl) dX11_addAxiom_47 rfl hw (fun h0 H locs cells slots hw => ?_) (fun h0 H locs cells slots q ce hw h1 h2 h3 => ?_)
                    · rcases hf with ⟨-, hf⟩ | ⟨hk, -⟩
                      · skip
                        obtain ⟨hy, hm⟩ := cc_x_s hf
                        obtain ⟨hy1, hy2⟩ := Prod.mk.inj hy
                        obtain ⟨hy2, hy3⟩ := Prod.mk.inj hy2
                        subst hy2
                        refine cw_throw (rest := []) B hnh htr hw (by decide) (by decide +kernel) cxc_X11_158 cxi_1 (cw_hat cxa_X11_160 (by decide +kernel) hts hK.1) (List.all_eq_true.mp cxg_X11_160) hd5 hm hy1 hl.1.1 (Nat.le_of_ble_eq_true rfl) dX11_addAxiom_50 dX11_addAxiom_53 dX11_addAxiom_54 dX11_addAxiom_57
                      · exact absurd h0 hk
                    · rcases hf with ⟨hk, -⟩ | ⟨-, hf⟩
                      · exact absurd hk h0
                      · cases hf
                        exact cw_xout B hnh h0 hw h1 h2 h3
                · exact absurd h0 hk
              · rcases hf with ⟨hk, -⟩ | ⟨-, hf⟩
                · exact absurd hk h0
                · cases hf
                  exact cw_xout B hnh h0 hw h1 h2 h3
            · exact absurd h0 hk
          · rcases hf with ⟨hk, -⟩ | ⟨-, hf⟩
            · exact absurd hk h0
            · cases hf
              exact cw_xout B hnh h0 hw h1 h2 h3
        · exact absurd h0 hk
      · rcases hf with ⟨hk, -⟩ | ⟨-, hf⟩
        · exact absurd hk h0
        · cases hf
          exact cw_xout B hnh h0 hw h1 h2 h3
    · exact absurd h0 hk
  · rcases hf with ⟨hk, -⟩ | ⟨-, hf⟩
    · exact absurd hk h0
    · cases hf
      exact cw_xout B hnh h0 hw h1 h2 h3

set_option maxHeartbeats 4000000 in
set_option maxRecDepth 100000 in
theorem pm_X11_addAxiom {v : cwE} {bd : cBd} {l : Launch} {d : Nat} {rec : Nat → CS → List Int → CO} (hbd : bd = cw_bd v) (hR : cw_Rec l v d rec) (htr : l.stackTraces = false) (hd5 : 5 ≤ d) (σ σ' : CS) (x0 x1 : Int) (kd : Nat) (r : Int) (ix0 : inR x0) (ix1 : inR x1) (hf : pc_X11_addAxiom_0 rec bd σ x0 x1 = some (σ', kd, r)) : cw_Met l v yX11_addAxiom cX11_addAxiom 4 none (d + 1) [cR v x0, cR v x1] σ σ' kd none := by
  refine cw_ofW (by decide +kernel) ?_
  intro p e s m args below meth c s₁ B hml hv
  obtain ⟨rfl, hM, hK⟩ := hv
  have hts := atoms_spec (ws := Cond.code yX11_addAxiom cX11_addAxiom 4 none :: cw_bw) B.pre
  have hB : cw_B v RX11 p s m _ meth c cX11_addAxiom 4 none := ⟨B.exec, B.bytes, B.returns, hml, findClass_of_methodNamed B.named, fun w h => hts w (List.mem_cons_of_mem _ h), B.notSynchronized, hK⟩
  have hnh := cc_nh B (hts _ List.mem_cons_self)
  rw [lg_entry_eq]
  obtain ⟨ls, hls, hl⟩ := cl_ent [cR v x0, cR v x1] 4 (cl_1r (cl_1r cl_10)) (Nat.le_of_ble_eq_true rfl)
  rw [hls]
  exact pw_X11_addAxiom_0 hbd hR htr hd5 hB hnh σ x0 x1 ix0 ix1 hf _ _ _ _ _ (cw_W0 hM) (cl_sub hl [0, 1] rfl)

set_option maxHeartbeats 4000000 in
set_option maxRecDepth 100000 in
theorem pw_X11_addRule_0 {v : cwE} {bd : cBd} {p : Program} {l : Launch} {e : Env} {s : State} {m : MethodId} {args : Array Value} {below : List Frame} {meth : Method} {c : Code} {d : Nat} {rec : Nat → CS → List Int → CO} {σ0 σ' : CS} {kd : Nat} {r : Int} (hbd : bd = cw_bd v) (hR : cw_Rec l v d rec) (htr : l.stackTraces = false) (hd5 : 5 ≤ d) (B : cw_B v RX11 p s m args meth c cX11_addRule 5 none) (hnh : ∀ x ∈ c.exceptionTable.toList, False) : ∀ (σ : CS) (x0 x1 : Int), inR x0 → inR x1 → pc_X11_addRule_0 rec bd σ x0 x1 = some (σ', kd, r) → ∀ (H : Heap) (locs : List Loc) (cells slots : Nat) (ls : Array Slot), cw_W v s σ0 σ H locs cells slots → cl_has ls 5 [(0, cR v x0), (1, cR v x1)] → W p l e (cw_rm v (d + 1) σ0) s m args below meth c H locs cells slots (cw_Z below v σ0 σ' kd none args s) (F0 m 0 ls []) := by
  subst hbd
  obtain ⟨hx, hb, hr, hml, hown, hts, hlk, hK⟩ := id B
  intro σ x0 x1 ix0 ix1 hf H locs cells slots ls hw hl
  unfold pc_X11_addRule_0 at hf
  refine cl_aload_n hx hb dX11_addRule_0 rfl (lv_at hl.1 0 rfl) ?_
  refine cl_aload_n hx hb dX11_addRule_1 rfl (lv_at hl.1 1 rfl) ?_
  obtain ⟨qσ1, hf⟩ := cc_t_s hf
  obtain ⟨σ1, kv2, z3, hσ1, hf⟩ := cc_cl_s hf
  obtain ⟨iz3, mσ1⟩ := hR 55 σ [x0, x1] σ1 kv2 z3 hσ1
  have mσ1 : cw_Met l v yX11_refuseBesideNames cX11_refuseBesideNames 2 none d [cR v x0, cR v x1] σ σ1 kv2 none := mσ1 ix0 ix1
  refine cw_cv (b := x0) (t := 12) (n := 1) (rest := []) (As := [cR v x1]) B mσ1 qσ1 ⟨by decide, by decide⟩ cgo_yX11_refuseBesideNames cml_X11_246 cin_yX11_refuseBesideNames cse_yX11_refuseBesideNames (by decide +kernel) (by decide) rfl hl.1.1 (Nat.le_of_ble_eq_true rfl) dX11_addRule_2 rfl hw (fun h0 H locs cells slots hw => ?_) (fun h0 H locs cells slots q ce hw h1 h2 h3 => ?_)
  · rcases hf with ⟨-, hf⟩ | ⟨hk, -⟩
    · skip
      refine cl_aload_n hx hb dX11_addRule_5 rfl (lv_at hl.1 0 rfl) ?_
      refine cl_aload_n hx hb dX11_addRule_6 rfl (lv_at hl.1 1 rfl) ?_
      obtain ⟨z4, ez4, iz4, rz4, hf⟩ := cc_g_s hw hf
      refine cw_get (val := cR v z4) B hw rz4 ⟨by decide, by decide⟩ (by decide) cwi_10 cfl_X11_249 ez4 rfl dX11_addRule_7 ?_
      obtain ⟨qσ5, hf⟩ := cc_t_s hf
      obtain ⟨σ5, kv6, z7, hσ5, hf⟩ := cc_cl_s hf
      obtain ⟨iz7, mσ5⟩ := hR 51 σ1 [x0, z4] σ5 kv6 z7 hσ5
      have mσ5 : cw_Met l v yX11_neededSort cX11_neededSort 3 (some .int) d [cR v x0, cR v z4] σ1 σ5 kv6 (some (.int (rI z7))) := mσ5 ix0 iz4
      refine cw_cv (b := x0) (t := 12) (n := 1) (rest := []) (As := [cR v z4]) B mσ5 qσ5 ⟨by decide, by decide⟩ cgo_yX11_neededSort cml_X11_273 cin_yX11_neededSort cse_yX11_neededSort (by decide +kernel) (by decide) rfl hl.1.1 (Nat.le_of_ble_eq_true rfl) dX11_addRule_10 rfl hw (fun h0 H locs cells slots hw => ?_) (fun h0 H locs cells slots q ce hw h1 h2 h3 => ?_)
      · rcases hf with ⟨-, hf⟩ | ⟨hk, -⟩
        · skip
          refine cl_istore_n (lv' := [(2, .int (rI z7)), (0, cR v x0), (1, cR v x1)]) hx hb dX11_addRule_13 rfl hl (by decide) rfl (fun ls hl => ?_)
          refine cl_aload_n hx hb dX11_addRule_14 rfl (lv_at hl.1 1 rfl) ?_
          refine cl_aload_n hx hb dX11_addRule_15 rfl (lv_at hl.1 2 rfl) ?_
          obtain ⟨z8, ez8, iz8, rz8, hf⟩ := cc_g_s hw hf
          refine cw_get (val := cR v z8) B hw rz8 ⟨by decide, by decide⟩ (by decide) cwi_10 cfl_X11_229 ez8 rfl dX11_addRule_16 ?_
          obtain ⟨qσ9, hf⟩ := cc_t_s hf
          obtain ⟨σ9, kv10, z11, hσ9, hf⟩ := cc_cl_s hf
          obtain ⟨iz11, mσ9⟩ := hR 51 σ5 [x0, z8] σ9 kv10 z11 hσ9
          have mσ9 : cw_Met l v yX11_neededSort cX11_neededSort 3 (some .int) d [cR v x0, cR v z8] σ5 σ9 kv10 (some (.int (rI z11))) := mσ9 ix0 iz8
          refine cw_cv (b := x0) (t := 12) (n := 1) (rest := []) (As := [cR v z8]) B mσ9 qσ9 ⟨by decide, by decide⟩ cgo_yX11_neededSort cml_X11_273 cin_yX11_neededSort cse_yX11_neededSort (by decide +kernel) (by decide) rfl hl.1.1 (Nat.le_of_ble_eq_true rfl) dX11_addRule_19 rfl hw (fun h0 H locs cells slots hw => ?_) (fun h0 H locs cells slots q ce hw h1 h2 h3 => ?_)
          · rcases hf with ⟨-, hf⟩ | ⟨hk, -⟩
            · skip
              refine cl_istore_n (lv' := [(3, .int (rI z11)), (2, .int (rI z7)), (0, cR v x0), (1, cR v x1)]) hx hb dX11_addRule_22 rfl hl (by decide) rfl (fun ls hl => ?_)
              refine cl_aload_n hx hb dX11_addRule_23 rfl (lv_at hl.1 2 rfl) ?_
              refine cl_aload_n hx hb dX11_addRule_24 rfl (lv_at hl.1 3 rfl) ?_
              obtain ⟨z12, ez12, iz12, rz12, hf⟩ := cc_g_s hw hf
              refine cw_get (val := cR v z12) B hw rz12 ⟨by decide, by decide⟩ (by decide) cwi_10 cfl_X11_279 ez12 rfl dX11_addRule_25 ?_
              obtain ⟨qσ13, hf⟩ := cc_t_s hf
              obtain ⟨σ13, kv14, z15, hσ13, hf⟩ := cc_cl_s hf
              obtain ⟨iz15, mσ13⟩ := hR 51 σ9 [x0, z12] σ13 kv14 z15 hσ13
              have mσ13 : cw_Met l v yX11_neededSort cX11_neededSort 3 (some .int) d [cR v x0, cR v z12] σ9 σ13 kv14 (some (.int (rI z15))) := mσ13 ix0 iz12
              refine cw_cv (b := x0) (t := 12) (n := 1) (rest := []) (As := [cR v z12]) B mσ13 qσ13 ⟨by decide, by decide⟩ cgo_yX11_neededSort cml_X11_273 cin_yX11_neededSort cse_yX11_neededSort (by decide +kernel) (by decide) rfl hl.1.1 (Nat.le_of_ble_eq_true rfl) dX11_addRule_28 rfl hw (fun h0 H locs cells slots hw => ?_) (fun h0 H locs cells slots q ce hw h1 h2 h3 => ?_)
              · rcases hf with ⟨-, hf⟩ | ⟨hk, -⟩
                · skip
                  refine cl_istore (lv' := [(4, .int (rI z15)), (3, .int (rI z11)), (2, .int (rI z7)), (0, cR v x0), (1, cR v x1)]) hx hb dX11_addRule_31 hl (by decide) rfl (fun ls hl => ?_)
                  refine cl_aload_n hx hb dX11_addRule_33 rfl (lv_at hl.1 3 rfl) ?_
                  obtain ⟨z16, ez16, iz16, rz16, hf⟩ := cc_g_s hw hf
                  refine cw_get (val := cR v z16) B hw rz16 ⟨by decide, by decide⟩ (by decide) cwi_12 cfl_X11_23 ez16 rfl dX11_addRule_34 ?_
                  refine lv_iload_n hx hb dX11_addRule_37 rfl (lv_at hl.1 2 rfl) ?_
                  refine lv_iload_n hx hb dX11_addRule_38 rfl (lv_at hl.1 1 rfl) ?_
                  obtain ⟨qσ17, hf⟩ := cc_t_s hf
                  obtain ⟨σ17, kv18, z19, hσ17, hf⟩ := cc_cl_s hf
                  obtain ⟨iz19, mσ17⟩ := hR 21 σ13 [z16, z7, z11] σ17 kv18 z19 hσ17
                  have mσ17 : cw_Met l v yX0_ruleOf cX0_ruleOf 3 (some .int) d [cR v z16, .int (rI z7), .int (rI z11)] σ13 σ17 kv18 (some (.int (rI z19))) := mσ17 iz16 iz7 iz11
                  refine cw_cv (b := z16) (t := 1) (n := 2) (rest := []) (As := [.int (rI z7), .int (rI z11)]) B mσ17 qσ17 ⟨by decide, by decide⟩ cgo_yX0_ruleOf cml_X11_142 cin_yX0_ruleOf cse_yX0_ruleOf (by decide +kernel) (by decide) rfl hl.1.1 (Nat.le_of_ble_eq_true rfl) dX11_addRule_39 rfl hw (fun h0 H locs cells slots hw => ?_) (fun h0 H locs cells slots q ce hw h1 h2 h3 => ?_)
                  · rcases hf with ⟨-, hf⟩ | ⟨hk, -⟩
                    · skip
                      refine lv_iconst (v := rI (-1)) hx hb dX11_addRule_42 rfl ?_
                      refine rn_icmp_eq (a := z19) (b := (-1)) (tgt := 69) hx hb iz19 ⟨by decide, by decide⟩ dX11_addRule_43 (by decide) (fun c20 => ?_) (fun c20 => ?_)
                      · replace hf := cc_if_t hf c20
                        refine cl_aload_n hx hb dX11_addRule_69 rfl (lv_at hl.1 3 rfl) ?_
                        obtain ⟨z21, ez21, iz21, rz21, hf⟩ := cc_g_s hw hf
                        refine cw_get (val := cR v z21) B hw rz21 ⟨by decide, by decide⟩ (by decide) cwi_12 cfl_X11_23 ez21 rfl dX11_addRule_70 ?_
                        refine lv_iload_n hx hb dX11_addRule_73 rfl (lv_at hl.1 2 rfl) ?_
                        refine lv_iload_n hx hb dX11_addRule_74 rfl (lv_at hl.1 1 rfl) ?_
                        refine lv_iload hx hb dX11_addRule_75 (lv_at hl.1 0 rfl) ?_
                        obtain ⟨qσ22, hf⟩ := cc_t_s hf
                        obtain ⟨σ22, kv23, z24, hσ22, hf⟩ := cc_cl_s hf
                        obtain ⟨iz24, mσ22⟩ := hR 23 σ17 [z21, z7, z11, z15] σ22 kv23 z24 hσ22
                        have mσ22 : cw_Met l v yX0_setRule cX0_setRule 4 none d [cR v z21, .int (rI z7), .int (rI z11), .int (rI z15)] σ17 σ22 kv23 none := mσ22 iz21 iz7 iz11 iz15
                        refine cw_cv (b := z21) (t := 1) (n := 3) (rest := []) (As := [.int (rI z7), .int (rI z11), .int (rI z15)]) B mσ22 qσ22 ⟨by decide, by decide⟩ cgo_yX0_setRule cml_X11_282 cin_yX0_setRule cse_yX0_setRule (by decide +kernel) (by decide) rfl hl.1.1 (Nat.le_of_ble_eq_true rfl) dX11_addRule_77 rfl hw (fun h0 H locs cells slots hw => ?_) (fun h0 H locs cells slots q ce hw h1 h2 h3 => ?_)
                        · rcases hf with ⟨-, hf⟩ | ⟨hk, -⟩
                          · skip
                            exact cw_retv B hf hw dX11_addRule_80
                          · exact absurd h0 hk
                        · rcases hf with ⟨hk, -⟩ | ⟨-, hf⟩
                          · exact absurd hk h0
                          · cases hf
                            exact cw_xout B hnh h0 hw h1 h2 h3
                      · replace hf := cc_if_f hf c20
                        refine cl_aload_n hx hb dX11_addRule_46 rfl (lv_at hl.1 3 rfl) ?_
                        obtain ⟨z25, ez25, iz25, rz25, hf⟩ := cc_g_s hw hf
                        refine cw_get (val := cR v z25) B hw rz25 ⟨by decide, by decide⟩ (by decide) cwi_12 cfl_X11_16 ez25 rfl dX11_addRule_47 ?_
                        refine lv_iconst (v := rI 4) hx hb dX11_addRule_50 rfl ?_
                        refine cl_aload_n hx hb dX11_addRule_51 rfl (lv_at hl.1 4 rfl) ?_
                        obtain ⟨z26, ez26, iz26, rz26, hf⟩ := cc_g_s hw hf
                        refine cw_get (val := cR v z26) B hw rz26 ⟨by decide, by decide⟩ (by decide) cwi_10 cfl_X11_249 ez26 rfl dX11_addRule_52 ?_
                        obtain ⟨z27, ez27, iz27, rz27, hf⟩ := cc_g_s hw hf
                        refine cw_get (val := .int (rI z27)) B hw rz27 ⟨by decide, by decide⟩ (by decide) cwi_7 cfl_X11_255 ez27 rfl dX11_addRule_55 ?_
                        obtain ⟨qσ28, hf⟩ := cc_t_s hf
                        obtain ⟨σ28, kv29, z30, hσ28, hf⟩ := cc_cl_s hf
                        obtain ⟨iz30, mσ28⟩ := hR 30 σ17 [z25, 4, z27] σ28 kv29 z30 hσ28
                        have mσ28 : cw_Met l v yX10_set cX10_set 3 none d [cR v z25, .int (rI 4), .int (rI z27)] σ17 σ28 kv29 none := mσ28 iz25 ⟨by decide, by decide⟩ iz27
                        refine cw_cv (b := z25) (t := 11) (n := 2) (rest := []) (As := [.int (rI 4), .int (rI z27)]) B mσ28 qσ28 ⟨by decide, by decide⟩ cgo_yX10_set cml_X11_256 cin_yX10_set cse_yX10_set (by decide +kernel) (by decide) rfl hl.1.1 (Nat.le_of_ble_eq_true rfl) dX11_addRule_58 rfl hw (fun h0 H locs cells slots hw => ?_) (fun h0 H locs cells slots q ce hw h1 h2 h3 => ?_)
                        · rcases hf with ⟨-, hf⟩ | ⟨hk, -⟩
                          · skip
                            obtain ⟨hy, hm⟩ := cc_x_s hf
                            obtain ⟨hy1, hy2⟩ := Prod.mk.inj hy
                            obtain ⟨hy2, hy3⟩ := Prod.mk.inj hy2
                            subst hy2
                            refine cw_throw (rest := []) B hnh htr hw (by decide) (by decide +kernel) cxc_X11_158 cxi_1 (cw_hat cxa_X11_160 (by decide +kernel) hts hK.1) (List.all_eq_true.mp cxg_X11_160) hd5 hm hy1 hl.1.1 (Nat.le_of_ble_eq_true rfl) dX11_addRule_61 dX11_addRule_64 dX11_addRule_65 dX11_addRule_68
                          · exact absurd h0 hk
                        · rcases hf with ⟨hk, -⟩ | ⟨-, hf⟩
                          · exact absurd hk h0
                          · cases hf
                            exact cw_xout B hnh h0 hw h1 h2 h3
                    · exact absurd h0 hk
                  · rcases hf with ⟨hk, -⟩ | ⟨-, hf⟩
                    · exact absurd hk h0
                    · cases hf
                      exact cw_xout B hnh h0 hw h1 h2 h3
                · exact absurd h0 hk
              · rcases hf with ⟨hk, -⟩ | ⟨-, hf⟩
                · exact absurd hk h0
                · cases hf
                  exact cw_xout B hnh h0 hw h1 h2 h3
            · exact absurd h0 hk
          · rcases hf with ⟨hk, -⟩ | ⟨-, hf⟩
            · exact absurd hk h0
            · cases hf
              exact cw_xout B hnh h0 hw h1 h2 h3
        · exact absurd h0 hk
      · rcases hf with ⟨hk, -⟩ | ⟨-, hf⟩
        · exact absurd hk h0
        · cases hf
          exact cw_xout B hnh h0 hw h1 h2 h3
    · exact absurd h0 hk
  · rcases hf with ⟨hk, -⟩ | ⟨-, hf⟩
    · exact absurd hk h0
    · cases hf
      exact cw_xout B hnh h0 hw h1 h2 h3

set_option maxHeartbeats 4000000 in
set_option maxRecDepth 100000 in
theorem pm_X11_addRule {v : cwE} {bd : cBd} {l : Launch} {d : Nat} {rec : Nat → CS → List Int → CO} (hbd : bd = cw_bd v) (hR : cw_Rec l v d rec) (htr : l.stackTraces = false) (hd5 : 5 ≤ d) (σ σ' : CS) (x0 x1 : Int) (kd : Nat) (r : Int) (ix0 : inR x0) (ix1 : inR x1) (hf : pc_X11_addRule_0 rec bd σ x0 x1 = some (σ', kd, r)) : cw_Met l v yX11_addRule cX11_addRule 5 none (d + 1) [cR v x0, cR v x1] σ σ' kd none := by
  refine cw_ofW (by decide +kernel) ?_
  intro p e s m args below meth c s₁ B hml hv
  obtain ⟨rfl, hM, hK⟩ := hv
  have hts := atoms_spec (ws := Cond.code yX11_addRule cX11_addRule 5 none :: cw_bw) B.pre
  have hB : cw_B v RX11 p s m _ meth c cX11_addRule 5 none := ⟨B.exec, B.bytes, B.returns, hml, findClass_of_methodNamed B.named, fun w h => hts w (List.mem_cons_of_mem _ h), B.notSynchronized, hK⟩
  have hnh := cc_nh B (hts _ List.mem_cons_self)
  rw [lg_entry_eq]
  obtain ⟨ls, hls, hl⟩ := cl_ent [cR v x0, cR v x1] 5 (cl_1r (cl_1r cl_10)) (Nat.le_of_ble_eq_true rfl)
  rw [hls]
  exact pw_X11_addRule_0 hbd hR htr hd5 hB hnh σ x0 x1 ix0 ix1 hf _ _ _ _ _ (cw_W0 hM) (cl_sub hl [0, 1] rfl)

set_option maxHeartbeats 4000000 in
set_option maxRecDepth 100000 in
theorem pw_X11_addSort_0 {v : cwE} {bd : cBd} {p : Program} {l : Launch} {e : Env} {s : State} {m : MethodId} {args : Array Value} {below : List Frame} {meth : Method} {c : Code} {d : Nat} {rec : Nat → CS → List Int → CO} {σ0 σ' : CS} {kd : Nat} {r : Int} (hbd : bd = cw_bd v) (hR : cw_Rec l v d rec) (htr : l.stackTraces = false) (hd5 : 5 ≤ d) (B : cw_B v RX11 p s m args meth c cX11_addSort 2 none) (hnh : ∀ x ∈ c.exceptionTable.toList, False) : ∀ (σ : CS) (x0 x1 : Int), inR x0 → inR x1 → pc_X11_addSort_0 rec bd σ x0 x1 = some (σ', kd, r) → ∀ (H : Heap) (locs : List Loc) (cells slots : Nat) (ls : Array Slot), cw_W v s σ0 σ H locs cells slots → cl_has ls 2 [(0, cR v x0), (1, cR v x1)] → W p l e (cw_rm v (d + 1) σ0) s m args below meth c H locs cells slots (cw_Z below v σ0 σ' kd none args s) (F0 m 0 ls []) := by
  subst hbd
  obtain ⟨hx, hb, hr, hml, hown, hts, hlk, hK⟩ := id B
  intro σ x0 x1 ix0 ix1 hf H locs cells slots ls hw hl
  unfold pc_X11_addSort_0 at hf
  refine cl_aload_n hx hb dX11_addSort_0 rfl (lv_at hl.1 0 rfl) ?_
  refine cl_aload_n hx hb dX11_addSort_1 rfl (lv_at hl.1 1 rfl) ?_
  obtain ⟨qσ1, hf⟩ := cc_t_s hf
  obtain ⟨σ1, kv2, z3, hσ1, hf⟩ := cc_cl_s hf
  obtain ⟨iz3, mσ1⟩ := hR 55 σ [x0, x1] σ1 kv2 z3 hσ1
  have mσ1 : cw_Met l v yX11_refuseBesideNames cX11_refuseBesideNames 2 none d [cR v x0, cR v x1] σ σ1 kv2 none := mσ1 ix0 ix1
  refine cw_cv (b := x0) (t := 12) (n := 1) (rest := []) (As := [cR v x1]) B mσ1 qσ1 ⟨by decide, by decide⟩ cgo_yX11_refuseBesideNames cml_X11_246 cin_yX11_refuseBesideNames cse_yX11_refuseBesideNames (by decide +kernel) (by decide) rfl hl.1.1 (Nat.le_of_ble_eq_true rfl) dX11_addSort_2 rfl hw (fun h0 H locs cells slots hw => ?_) (fun h0 H locs cells slots q ce hw h1 h2 h3 => ?_)
  · rcases hf with ⟨-, hf⟩ | ⟨hk, -⟩
    · skip
      refine cl_aload_n hx hb dX11_addSort_5 rfl (lv_at hl.1 0 rfl) ?_
      refine cl_aload_n hx hb dX11_addSort_6 rfl (lv_at hl.1 1 rfl) ?_
      obtain ⟨z4, ez4, iz4, rz4, hf⟩ := cc_g_s hw hf
      refine cw_get (val := cR v z4) B hw rz4 ⟨by decide, by decide⟩ (by decide) cwi_10 cfl_X11_249 ez4 rfl dX11_addSort_7 ?_
      obtain ⟨qσ5, hf⟩ := cc_t_s hf
      obtain ⟨σ5, kv6, z7, hσ5, hf⟩ := cc_cl_s hf
      obtain ⟨iz7, mσ5⟩ := hR 60 σ1 [x0, z4] σ5 kv6 z7 hσ5
      have mσ5 : cw_Met l v yX11_sortNumber cX11_sortNumber 2 (some .int) d [cR v x0, cR v z4] σ1 σ5 kv6 (some (.int (rI z7))) := mσ5 ix0 iz4
      refine cw_cv (b := x0) (t := 12) (n := 1) (rest := []) (As := [cR v z4]) B mσ5 qσ5 ⟨by decide, by decide⟩ cgo_yX11_sortNumber cml_X11_252 cin_yX11_sortNumber cse_yX11_sortNumber (by decide +kernel) (by decide) rfl hl.1.1 (Nat.le_of_ble_eq_true rfl) dX11_addSort_10 rfl hw (fun h0 H locs cells slots hw => ?_) (fun h0 H locs cells slots q ce hw h1 h2 h3 => ?_)
      · rcases hf with ⟨-, hf⟩ | ⟨hk, -⟩
        · skip
          refine lv_iconst (v := rI (-1)) hx hb dX11_addSort_13 rfl ?_
          refine rn_icmp_eq (a := z7) (b := (-1)) (tgt := 40) hx hb iz7 ⟨by decide, by decide⟩ dX11_addSort_14 (by decide) (fun c8 => ?_) (fun c8 => ?_)
          · replace hf := cc_if_t hf c8
            refine cl_aload_n hx hb dX11_addSort_40 rfl (lv_at hl.1 0 rfl) ?_
            obtain ⟨z9, ez9, iz9, rz9, hf⟩ := cc_g_s hw hf
            refine cw_get (val := cR v z9) B hw rz9 ⟨by decide, by decide⟩ (by decide) cwi_12 cfl_X11_23 ez9 rfl dX11_addSort_41 ?_
            obtain ⟨z10, ez10, iz10, rz10, hf⟩ := cc_g_s hw hf
            refine cw_get (val := cR v z10) B hw rz10 ⟨by decide, by decide⟩ (by decide) cwi_1 cfl_X11_109 ez10 rfl dX11_addSort_44 ?_
            obtain ⟨qσ11, hf⟩ := cc_t_s hf
            obtain ⟨σ11, kv12, z13, hσ11, hf⟩ := cc_cl_s hf
            obtain ⟨iz13, mσ11⟩ := hR 102 σ5 [z10] σ11 kv12 z13 hσ11
            have mσ11 : cw_Met l v yX5_isFull cX5_isFull 1 (some .boolean) d [cR v z10] σ5 σ11 kv12 (some (.int (rI z13))) := mσ11 iz10
            refine cw_cv (b := z10) (t := 6) (n := 0) (rest := []) (As := []) B mσ11 qσ11 ⟨by decide, by decide⟩ cgo_yX5_isFull cml_X11_259 cin_yX5_isFull cse_yX5_isFull (by decide +kernel) (by decide) rfl hl.1.1 (Nat.le_of_ble_eq_true rfl) dX11_addSort_47 rfl hw (fun h0 H locs cells slots hw => ?_) (fun h0 H locs cells slots q ce hw h1 h2 h3 => ?_)
            · rcases hf with ⟨-, hf⟩ | ⟨hk, -⟩
              · skip
                refine rn_if_eq (a := z13) (tgt := 76) hx hb iz13 dX11_addSort_50 (by decide) (fun c14 => ?_) (fun c14 => ?_)
                · replace hf := cc_if_t hf c14
                  refine cl_aload_n hx hb dX11_addSort_76 rfl (lv_at hl.1 0 rfl) ?_
                  obtain ⟨z15, ez15, iz15, rz15, hf⟩ := cc_g_s hw hf
                  refine cw_get (val := cR v z15) B hw rz15 ⟨by decide, by decide⟩ (by decide) cwi_12 cfl_X11_23 ez15 rfl dX11_addSort_77 ?_
                  obtain ⟨z16, ez16, iz16, rz16, hf⟩ := cc_g_s hw hf
                  refine cw_get (val := cR v z16) B hw rz16 ⟨by decide, by decide⟩ (by decide) cwi_1 cfl_X11_109 ez16 rfl dX11_addSort_80 ?_
                  refine cl_aload_n hx hb dX11_addSort_83 rfl (lv_at hl.1 0 rfl) ?_
                  obtain ⟨z17, ez17, iz17, rz17, hf⟩ := cc_g_s hw hf
                  refine cw_get (val := cR v z17) B hw rz17 ⟨by decide, by decide⟩ (by decide) cwi_12 cfl_X11_9 ez17 rfl dX11_addSort_84 ?_
                  refine cl_aload_n hx hb dX11_addSort_87 rfl (lv_at hl.1 1 rfl) ?_
                  obtain ⟨z18, ez18, iz18, rz18, hf⟩ := cc_g_s hw hf
                  refine cw_get (val := cR v z18) B hw rz18 ⟨by decide, by decide⟩ (by decide) cwi_10 cfl_X11_249 ez18 rfl dX11_addSort_88 ?_
                  obtain ⟨z19, ez19, iz19, rz19, hf⟩ := cc_g_s hw hf
                  refine cw_get (val := .int (rI z19)) B hw rz19 ⟨by decide, by decide⟩ (by decide) cwi_7 cfl_X11_263 ez19 rfl dX11_addSort_91 ?_
                  refine cl_aload_n hx hb dX11_addSort_94 rfl (lv_at hl.1 1 rfl) ?_
                  obtain ⟨z20, ez20, iz20, rz20, hf⟩ := cc_g_s hw hf
                  refine cw_get (val := cR v z20) B hw rz20 ⟨by decide, by decide⟩ (by decide) cwi_10 cfl_X11_249 ez20 rfl dX11_addSort_95 ?_
                  obtain ⟨z21, ez21, iz21, rz21, hf⟩ := cc_g_s hw hf
                  refine cw_get (val := .int (rI z21)) B hw rz21 ⟨by decide, by decide⟩ (by decide) cwi_7 cfl_X11_266 ez21 rfl dX11_addSort_98 ?_
                  obtain ⟨qσ22, hf⟩ := cc_t_s hf
                  obtain ⟨σ22, kv23, z24, hσ22, hf⟩ := cc_cl_s hf
                  obtain ⟨iz24, mσ22⟩ := hR 97 σ11 [z16, z17, z19, z21] σ22 kv23 z24 hσ22
                  have mσ22 : cw_Met l v yX5_add cX5_add 5 none d [cR v z16, cR v z17, .int (rI z19), .int (rI z21)] σ11 σ22 kv23 none := mσ22 iz16 iz17 iz19 iz21
                  refine cw_cv (b := z16) (t := 6) (n := 3) (rest := []) (As := [cR v z17, .int (rI z19), .int (rI z21)]) B mσ22 qσ22 ⟨by decide, by decide⟩ cgo_yX5_add cml_X11_269 cin_yX5_add cse_yX5_add (by decide +kernel) (by decide) rfl hl.1.1 (Nat.le_of_ble_eq_true rfl) dX11_addSort_101 rfl hw (fun h0 H locs cells slots hw => ?_) (fun h0 H locs cells slots q ce hw h1 h2 h3 => ?_)
                  · rcases hf with ⟨-, hf⟩ | ⟨hk, -⟩
                    · skip
                      exact cw_retv B hf hw dX11_addSort_104
                    · exact absurd h0 hk
                  · rcases hf with ⟨hk, -⟩ | ⟨-, hf⟩
                    · exact absurd hk h0
                    · cases hf
                      exact cw_xout B hnh h0 hw h1 h2 h3
                · replace hf := cc_if_f hf c14
                  refine cl_aload_n hx hb dX11_addSort_53 rfl (lv_at hl.1 0 rfl) ?_
                  obtain ⟨z25, ez25, iz25, rz25, hf⟩ := cc_g_s hw hf
                  refine cw_get (val := cR v z25) B hw rz25 ⟨by decide, by decide⟩ (by decide) cwi_12 cfl_X11_16 ez25 rfl dX11_addSort_54 ?_
                  refine lv_iconst (v := rI 5) hx hb dX11_addSort_57 rfl ?_
                  refine cl_aload_n hx hb dX11_addSort_58 rfl (lv_at hl.1 1 rfl) ?_
                  obtain ⟨z26, ez26, iz26, rz26, hf⟩ := cc_g_s hw hf
                  refine cw_get (val := cR v z26) B hw rz26 ⟨by decide, by decide⟩ (by decide) cwi_10 cfl_X11_249 ez26 rfl dX11_addSort_59 ?_
                  obtain ⟨z27, ez27, iz27, rz27, hf⟩ := cc_g_s hw hf
                  refine cw_get (val := .int (rI z27)) B hw rz27 ⟨by decide, by decide⟩ (by decide) cwi_7 cfl_X11_255 ez27 rfl dX11_addSort_62 ?_
                  obtain ⟨qσ28, hf⟩ := cc_t_s hf
                  obtain ⟨σ28, kv29, z30, hσ28, hf⟩ := cc_cl_s hf
                  obtain ⟨iz30, mσ28⟩ := hR 30 σ11 [z25, 5, z27] σ28 kv29 z30 hσ28
                  have mσ28 : cw_Met l v yX10_set cX10_set 3 none d [cR v z25, .int (rI 5), .int (rI z27)] σ11 σ28 kv29 none := mσ28 iz25 ⟨by decide, by decide⟩ iz27
                  refine cw_cv (b := z25) (t := 11) (n := 2) (rest := []) (As := [.int (rI 5), .int (rI z27)]) B mσ28 qσ28 ⟨by decide, by decide⟩ cgo_yX10_set cml_X11_256 cin_yX10_set cse_yX10_set (by decide +kernel) (by decide) rfl hl.1.1 (Nat.le_of_ble_eq_true rfl) dX11_addSort_65 rfl hw (fun h0 H locs cells slots hw => ?_) (fun h0 H locs cells slots q ce hw h1 h2 h3 => ?_)
                  · rcases hf with ⟨-, hf⟩ | ⟨hk, -⟩
                    · skip
                      obtain ⟨hy, hm⟩ := cc_x_s hf
                      obtain ⟨hy1, hy2⟩ := Prod.mk.inj hy
                      obtain ⟨hy2, hy3⟩ := Prod.mk.inj hy2
                      subst hy2
                      refine cw_throw (rest := []) B hnh htr hw (by decide) (by decide +kernel) cxc_X11_158 cxi_1 (cw_hat cxa_X11_160 (by decide +kernel) hts hK.1) (List.all_eq_true.mp cxg_X11_160) hd5 hm hy1 hl.1.1 (Nat.le_of_ble_eq_true rfl) dX11_addSort_68 dX11_addSort_71 dX11_addSort_72 dX11_addSort_75
                    · exact absurd h0 hk
                  · rcases hf with ⟨hk, -⟩ | ⟨-, hf⟩
                    · exact absurd hk h0
                    · cases hf
                      exact cw_xout B hnh h0 hw h1 h2 h3
              · exact absurd h0 hk
            · rcases hf with ⟨hk, -⟩ | ⟨-, hf⟩
              · exact absurd hk h0
              · cases hf
                exact cw_xout B hnh h0 hw h1 h2 h3
          · replace hf := cc_if_f hf c8
            refine cl_aload_n hx hb dX11_addSort_17 rfl (lv_at hl.1 0 rfl) ?_
            obtain ⟨z31, ez31, iz31, rz31, hf⟩ := cc_g_s hw hf
            refine cw_get (val := cR v z31) B hw rz31 ⟨by decide, by decide⟩ (by decide) cwi_12 cfl_X11_16 ez31 rfl dX11_addSort_18 ?_
            refine lv_iconst (v := rI 4) hx hb dX11_addSort_21 rfl ?_
            refine cl_aload_n hx hb dX11_addSort_22 rfl (lv_at hl.1 1 rfl) ?_
            obtain ⟨z32, ez32, iz32, rz32, hf⟩ := cc_g_s hw hf
            refine cw_get (val := cR v z32) B hw rz32 ⟨by decide, by decide⟩ (by decide) cwi_10 cfl_X11_249 ez32 rfl dX11_addSort_23 ?_
            obtain ⟨z33, ez33, iz33, rz33, hf⟩ := cc_g_s hw hf
            refine cw_get (val := .int (rI z33)) B hw rz33 ⟨by decide, by decide⟩ (by decide) cwi_7 cfl_X11_255 ez33 rfl dX11_addSort_26 ?_
            obtain ⟨qσ34, hf⟩ := cc_t_s hf
            obtain ⟨σ34, kv35, z36, hσ34, hf⟩ := cc_cl_s hf
            obtain ⟨iz36, mσ34⟩ := hR 30 σ5 [z31, 4, z33] σ34 kv35 z36 hσ34
            have mσ34 : cw_Met l v yX10_set cX10_set 3 none d [cR v z31, .int (rI 4), .int (rI z33)] σ5 σ34 kv35 none := mσ34 iz31 ⟨by decide, by decide⟩ iz33
            refine cw_cv (b := z31) (t := 11) (n := 2) (rest := []) (As := [.int (rI 4), .int (rI z33)]) B mσ34 qσ34 ⟨by decide, by decide⟩ cgo_yX10_set cml_X11_256 cin_yX10_set cse_yX10_set (by decide +kernel) (by decide) rfl hl.1.1 (Nat.le_of_ble_eq_true rfl) dX11_addSort_29 rfl hw (fun h0 H locs cells slots hw => ?_) (fun h0 H locs cells slots q ce hw h1 h2 h3 => ?_)
            · rcases hf with ⟨-, hf⟩ | ⟨hk, -⟩
              · skip
                obtain ⟨hy, hm⟩ := cc_x_s hf
                obtain ⟨hy1, hy2⟩ := Prod.mk.inj hy
                obtain ⟨hy2, hy3⟩ := Prod.mk.inj hy2
                subst hy2
                refine cw_throw (rest := []) B hnh htr hw (by decide) (by decide +kernel) cxc_X11_158 cxi_1 (cw_hat cxa_X11_160 (by decide +kernel) hts hK.1) (List.all_eq_true.mp cxg_X11_160) hd5 hm hy1 hl.1.1 (Nat.le_of_ble_eq_true rfl) dX11_addSort_32 dX11_addSort_35 dX11_addSort_36 dX11_addSort_39
              · exact absurd h0 hk
            · rcases hf with ⟨hk, -⟩ | ⟨-, hf⟩
              · exact absurd hk h0
              · cases hf
                exact cw_xout B hnh h0 hw h1 h2 h3
        · exact absurd h0 hk
      · rcases hf with ⟨hk, -⟩ | ⟨-, hf⟩
        · exact absurd hk h0
        · cases hf
          exact cw_xout B hnh h0 hw h1 h2 h3
    · exact absurd h0 hk
  · rcases hf with ⟨hk, -⟩ | ⟨-, hf⟩
    · exact absurd hk h0
    · cases hf
      exact cw_xout B hnh h0 hw h1 h2 h3

set_option maxHeartbeats 4000000 in
set_option maxRecDepth 100000 in
theorem pm_X11_addSort {v : cwE} {bd : cBd} {l : Launch} {d : Nat} {rec : Nat → CS → List Int → CO} (hbd : bd = cw_bd v) (hR : cw_Rec l v d rec) (htr : l.stackTraces = false) (hd5 : 5 ≤ d) (σ σ' : CS) (x0 x1 : Int) (kd : Nat) (r : Int) (ix0 : inR x0) (ix1 : inR x1) (hf : pc_X11_addSort_0 rec bd σ x0 x1 = some (σ', kd, r)) : cw_Met l v yX11_addSort cX11_addSort 2 none (d + 1) [cR v x0, cR v x1] σ σ' kd none := by
  refine cw_ofW (by decide +kernel) ?_
  intro p e s m args below meth c s₁ B hml hv
  obtain ⟨rfl, hM, hK⟩ := hv
  have hts := atoms_spec (ws := Cond.code yX11_addSort cX11_addSort 2 none :: cw_bw) B.pre
  have hB : cw_B v RX11 p s m _ meth c cX11_addSort 2 none := ⟨B.exec, B.bytes, B.returns, hml, findClass_of_methodNamed B.named, fun w h => hts w (List.mem_cons_of_mem _ h), B.notSynchronized, hK⟩
  have hnh := cc_nh B (hts _ List.mem_cons_self)
  rw [lg_entry_eq]
  obtain ⟨ls, hls, hl⟩ := cl_ent [cR v x0, cR v x1] 2 (cl_1r (cl_1r cl_10)) (Nat.le_of_ble_eq_true rfl)
  rw [hls]
  exact pw_X11_addSort_0 hbd hR htr hd5 hB hnh σ x0 x1 ix0 ix1 hf _ _ _ _ _ (cw_W0 hM) (cl_sub hl [0, 1] rfl)

set_option maxHeartbeats 4000000 in
set_option maxRecDepth 100000 in
theorem pw_X11_answerSame_0 {v : cwE} {bd : cBd} {p : Program} {l : Launch} {e : Env} {s : State} {m : MethodId} {args : Array Value} {below : List Frame} {meth : Method} {c : Code} {d : Nat} {rec : Nat → CS → List Int → CO} {σ0 σ' : CS} {kd : Nat} {r : Int} (hbd : bd = cw_bd v) (hR : cw_Rec l v d rec) (htr : l.stackTraces = false) (hd5 : 5 ≤ d) (B : cw_B v RX11 p s m args meth c cX11_answerSame 2 none) (hnh : ∀ x ∈ c.exceptionTable.toList, False) : ∀ (σ : CS) (x0 x1 : Int), inR x0 → inR x1 → pc_X11_answerSame_0 rec bd σ x0 x1 = some (σ', kd, r) → ∀ (H : Heap) (locs : List Loc) (cells slots : Nat) (ls : Array Slot), cw_W v s σ0 σ H locs cells slots → cl_has ls 2 [(0, cR v x0), (1, cR v x1)] → W p l e (cw_rm v (d + 1) σ0) s m args below meth c H locs cells slots (cw_Z below v σ0 σ' kd none args s) (F0 m 0 ls []) := by
  subst hbd
  obtain ⟨hx, hb, hr, hml, hown, hts, hlk, hK⟩ := id B
  intro σ x0 x1 ix0 ix1 hf H locs cells slots ls hw hl
  unfold pc_X11_answerSame_0 at hf
  refine cl_aload_n hx hb dX11_answerSame_0 rfl (lv_at hl.1 0 rfl) ?_
  obtain ⟨z1, ez1, iz1, rz1, hf⟩ := cc_g_s hw hf
  refine cw_get (val := cR v z1) B hw rz1 ⟨by decide, by decide⟩ (by decide) cwi_12 cfl_X11_50 ez1 rfl dX11_answerSame_1 ?_
  refine cl_aload_n hx hb dX11_answerSame_4 rfl (lv_at hl.1 1 rfl) ?_
  obtain ⟨z2, ez2, iz2, rz2, hf⟩ := cc_g_s hw hf
  refine cw_get (val := cR v z2) B hw rz2 ⟨by decide, by decide⟩ (by decide) cwi_10 cfl_X11_229 ez2 rfl dX11_answerSame_5 ?_
  obtain ⟨qσ3, hf⟩ := cc_t_s hf
  obtain ⟨σ3, kv4, z5, hσ3, hf⟩ := cc_cl_s hf
  obtain ⟨iz5, mσ3⟩ := hR 73 σ [z1, z2] σ3 kv4 z5 hσ3
  have mσ3 : cw_Met l v yX2_typeOf cX2_typeOf 2 (some (.object "PureHouse$Node")) d [cR v z1, cR v z2] σ σ3 kv4 (some (cR v z5)) := mσ3 iz1 iz2
  refine cw_cv (b := z1) (t := 3) (n := 1) (rest := []) (As := [cR v z2]) B mσ3 qσ3 ⟨by decide, by decide⟩ cgo_yX2_typeOf cml_X11_233 cin_yX2_typeOf cse_yX2_typeOf (by decide +kernel) (by decide) rfl hl.1.1 (Nat.le_of_ble_eq_true rfl) dX11_answerSame_8 rfl hw (fun h0 H locs cells slots hw => ?_) (fun h0 H locs cells slots q ce hw h1 h2 h3 => ?_)
  · rcases hf with ⟨-, hf⟩ | ⟨hk, -⟩
    · skip
      refine lv_pop hx hb dX11_answerSame_11 (cR_cat _) ?_
      refine cl_aload_n hx hb dX11_answerSame_12 rfl (lv_at hl.1 0 rfl) ?_
      obtain ⟨z6, ez6, iz6, rz6, hf⟩ := cc_g_s hw hf
      refine cw_get (val := cR v z6) B hw rz6 ⟨by decide, by decide⟩ (by decide) cwi_12 cfl_X11_50 ez6 rfl dX11_answerSame_13 ?_
      refine cl_aload_n hx hb dX11_answerSame_16 rfl (lv_at hl.1 1 rfl) ?_
      obtain ⟨z7, ez7, iz7, rz7, hf⟩ := cc_g_s hw hf
      refine cw_get (val := cR v z7) B hw rz7 ⟨by decide, by decide⟩ (by decide) cwi_10 cfl_X11_279 ez7 rfl dX11_answerSame_17 ?_
      obtain ⟨qσ8, hf⟩ := cc_t_s hf
      obtain ⟨σ8, kv9, z10, hσ8, hf⟩ := cc_cl_s hf
      obtain ⟨iz10, mσ8⟩ := hR 73 σ3 [z6, z7] σ8 kv9 z10 hσ8
      have mσ8 : cw_Met l v yX2_typeOf cX2_typeOf 2 (some (.object "PureHouse$Node")) d [cR v z6, cR v z7] σ3 σ8 kv9 (some (cR v z10)) := mσ8 iz6 iz7
      refine cw_cv (b := z6) (t := 3) (n := 1) (rest := []) (As := [cR v z7]) B mσ8 qσ8 ⟨by decide, by decide⟩ cgo_yX2_typeOf cml_X11_233 cin_yX2_typeOf cse_yX2_typeOf (by decide +kernel) (by decide) rfl hl.1.1 (Nat.le_of_ble_eq_true rfl) dX11_answerSame_20 rfl hw (fun h0 H locs cells slots hw => ?_) (fun h0 H locs cells slots q ce hw h1 h2 h3 => ?_)
      · rcases hf with ⟨-, hf⟩ | ⟨hk, -⟩
        · skip
          refine lv_pop hx hb dX11_answerSame_23 (cR_cat _) ?_
          refine cl_aload_n hx hb dX11_answerSame_24 rfl (lv_at hl.1 0 rfl) ?_
          obtain ⟨z11, ez11, iz11, rz11, hf⟩ := cc_g_s hw hf
          refine cw_get (val := cR v z11) B hw rz11 ⟨by decide, by decide⟩ (by decide) cwi_12 cfl_X11_32 ez11 rfl dX11_answerSame_25 ?_
          refine cl_aload_n hx hb dX11_answerSame_28 rfl (lv_at hl.1 0 rfl) ?_
          obtain ⟨z12, ez12, iz12, rz12, hf⟩ := cc_g_s hw hf
          refine cw_get (val := cR v z12) B hw rz12 ⟨by decide, by decide⟩ (by decide) cwi_12 cfl_X11_32 ez12 rfl dX11_answerSame_29 ?_
          refine cl_aload_n hx hb dX11_answerSame_32 rfl (lv_at hl.1 1 rfl) ?_
          obtain ⟨z13, ez13, iz13, rz13, hf⟩ := cc_g_s hw hf
          refine cw_get (val := cR v z13) B hw rz13 ⟨by decide, by decide⟩ (by decide) cwi_10 cfl_X11_229 ez13 rfl dX11_answerSame_33 ?_
          refine cl_aload_n hx hb dX11_answerSame_36 rfl (lv_at hl.1 1 rfl) ?_
          obtain ⟨z14, ez14, iz14, rz14, hf⟩ := cc_g_s hw hf
          refine cw_get (val := cR v z14) B hw rz14 ⟨by decide, by decide⟩ (by decide) cwi_10 cfl_X11_279 ez14 rfl dX11_answerSame_37 ?_
          obtain ⟨qσ15, hf⟩ := cc_t_s hf
          obtain ⟨σ15, kv16, z17, hσ15, hf⟩ := cc_cl_s hf
          obtain ⟨iz17, mσ15⟩ := hR 80 σ8 [z12, z13, z14] σ15 kv16 z17 hσ15
          have mσ15 : cw_Met l v yX4_areSame cX4_areSame 3 (some .boolean) d [cR v z12, cR v z13, cR v z14] σ8 σ15 kv16 (some (.int (rI z17))) := mσ15 iz12 iz13 iz14
          refine cw_cv (b := z12) (t := 5) (n := 2) (rest := [cR v z11]) (As := [cR v z13, cR v z14]) B mσ15 qσ15 ⟨by decide, by decide⟩ cgo_yX4_areSame cml_X11_201 cin_yX4_areSame cse_yX4_areSame (by decide +kernel) (by decide) rfl hl.1.1 (cl_cs (cl_1r cl_10) (Nat.le_of_ble_eq_true rfl)) dX11_answerSame_40 rfl hw (fun h0 H locs cells slots hw => ?_) (fun h0 H locs cells slots q ce hw h1 h2 h3 => ?_)
          · rcases hf with ⟨-, hf⟩ | ⟨hk, -⟩
            · skip
              obtain ⟨qσ18, hf⟩ := cc_t_s hf
              obtain ⟨σ18, kv19, z20, hσ18, hf⟩ := cc_cl_s hf
              obtain ⟨iz20, mσ18⟩ := hR 89 σ15 [z11, z17] σ18 kv19 z20 hσ18
              have mσ18 : cw_Met l v yX4_putAnswer cX4_putAnswer 4 none d [cR v z11, .int (rI z17)] σ15 σ18 kv19 none := mσ18 iz11 iz17
              refine cw_cv (b := z11) (t := 5) (n := 1) (rest := []) (As := [.int (rI z17)]) B mσ18 qσ18 ⟨by decide, by decide⟩ cgo_yX4_putAnswer cml_X11_311 cin_yX4_putAnswer cse_yX4_putAnswer (by decide +kernel) (by decide) rfl hl.1.1 (Nat.le_of_ble_eq_true rfl) dX11_answerSame_43 rfl hw (fun h0 H locs cells slots hw => ?_) (fun h0 H locs cells slots q ce hw h1 h2 h3 => ?_)
              · rcases hf with ⟨-, hf⟩ | ⟨hk, -⟩
                · skip
                  exact cw_retv B hf hw dX11_answerSame_46
                · exact absurd h0 hk
              · rcases hf with ⟨hk, -⟩ | ⟨-, hf⟩
                · exact absurd hk h0
                · cases hf
                  exact cw_xout B hnh h0 hw h1 h2 h3
            · exact absurd h0 hk
          · rcases hf with ⟨hk, -⟩ | ⟨-, hf⟩
            · exact absurd hk h0
            · cases hf
              exact cw_xout B hnh h0 hw h1 h2 h3
        · exact absurd h0 hk
      · rcases hf with ⟨hk, -⟩ | ⟨-, hf⟩
        · exact absurd hk h0
        · cases hf
          exact cw_xout B hnh h0 hw h1 h2 h3
    · exact absurd h0 hk
  · rcases hf with ⟨hk, -⟩ | ⟨-, hf⟩
    · exact absurd hk h0
    · cases hf
      exact cw_xout B hnh h0 hw h1 h2 h3

set_option maxHeartbeats 4000000 in
set_option maxRecDepth 100000 in
theorem pm_X11_answerSame {v : cwE} {bd : cBd} {l : Launch} {d : Nat} {rec : Nat → CS → List Int → CO} (hbd : bd = cw_bd v) (hR : cw_Rec l v d rec) (htr : l.stackTraces = false) (hd5 : 5 ≤ d) (σ σ' : CS) (x0 x1 : Int) (kd : Nat) (r : Int) (ix0 : inR x0) (ix1 : inR x1) (hf : pc_X11_answerSame_0 rec bd σ x0 x1 = some (σ', kd, r)) : cw_Met l v yX11_answerSame cX11_answerSame 2 none (d + 1) [cR v x0, cR v x1] σ σ' kd none := by
  refine cw_ofW (by decide +kernel) ?_
  intro p e s m args below meth c s₁ B hml hv
  obtain ⟨rfl, hM, hK⟩ := hv
  have hts := atoms_spec (ws := Cond.code yX11_answerSame cX11_answerSame 2 none :: cw_bw) B.pre
  have hB : cw_B v RX11 p s m _ meth c cX11_answerSame 2 none := ⟨B.exec, B.bytes, B.returns, hml, findClass_of_methodNamed B.named, fun w h => hts w (List.mem_cons_of_mem _ h), B.notSynchronized, hK⟩
  have hnh := cc_nh B (hts _ List.mem_cons_self)
  rw [lg_entry_eq]
  obtain ⟨ls, hls, hl⟩ := cl_ent [cR v x0, cR v x1] 2 (cl_1r (cl_1r cl_10)) (Nat.le_of_ble_eq_true rfl)
  rw [hls]
  exact pw_X11_answerSame_0 hbd hR htr hd5 hB hnh σ x0 x1 ix0 ix1 hf _ _ _ _ _ (cw_W0 hM) (cl_sub hl [0, 1] rfl)

set_option maxHeartbeats 4000000 in
set_option maxRecDepth 100000 in
theorem pw_X11_assume_60 {v : cwE} {bd : cBd} {p : Program} {l : Launch} {e : Env} {s : State} {m : MethodId} {args : Array Value} {below : List Frame} {meth : Method} {c : Code} {d : Nat} {rec : Nat → CS → List Int → CO} {σ0 σ' : CS} {kd : Nat} {r : Int} (hbd : bd = cw_bd v) (hR : cw_Rec l v d rec) (htr : l.stackTraces = false) (hd5 : 5 ≤ d) (B : cw_B v RX11 p s m args meth c cX11_assume 4 none) (hnh : ∀ x ∈ c.exceptionTable.toList, False) : ∀ (σ : CS) (x0 x1 x2 x3 : Int), inR x0 → inR x1 → inR x2 → inR x3 → pc_X11_assume_60 rec bd σ x0 x1 x2 x3 = some (σ', kd, r) → ∀ (H : Heap) (locs : List Loc) (cells slots : Nat) (ls : Array Slot), cw_W v s σ0 σ H locs cells slots → cl_has ls 4 [(0, cR v x0), (1, cR v x1), (2, .int (rI x2)), (3, cR v x3)] → W p l e (cw_rm v (d + 1) σ0) s m args below meth c H locs cells slots (cw_Z below v σ0 σ' kd none args s) (F0 m 60 ls []) := by
  subst hbd
  obtain ⟨hx, hb, hr, hml, hown, hts, hlk, hK⟩ := id B
  intro σ x0 x1 x2 x3 ix0 ix1 ix2 ix3 hf H locs cells slots ls hw hl
  unfold pc_X11_assume_60 at hf
  refine cl_aload_n hx hb dX11_assume_60 rfl (lv_at hl.1 0 rfl) ?_
  obtain ⟨z1, ez1, iz1, rz1, hf⟩ := cc_g_s hw hf
  refine cw_get (val := cR v z1) B hw rz1 ⟨by decide, by decide⟩ (by decide) cwi_12 cfl_X11_23 ez1 rfl dX11_assume_61 ?_
  refine cl_aload_n hx hb dX11_assume_64 rfl (lv_at hl.1 0 rfl) ?_
  obtain ⟨z2, ez2, iz2, rz2, hf⟩ := cc_g_s hw hf
  refine cw_get (val := cR v z2) B hw rz2 ⟨by decide, by decide⟩ (by decide) cwi_12 cfl_X11_9 ez2 rfl dX11_assume_65 ?_
  refine cl_aload_n hx hb dX11_assume_68 rfl (lv_at hl.1 1 rfl) ?_
  obtain ⟨z3, ez3, iz3, rz3, hf⟩ := cc_g_s hw hf
  refine cw_get (val := cR v z3) B hw rz3 ⟨by decide, by decide⟩ (by decide) cwi_10 cfl_X11_249 ez3 rfl dX11_assume_69 ?_
  refine cl_aload_n hx hb dX11_assume_72 rfl (lv_at hl.1 3 rfl) ?_
  refine lv_iload_n hx hb dX11_assume_73 rfl (lv_at hl.1 2 rfl) ?_
  refine cl_aload_n hx hb dX11_assume_74 rfl (lv_at hl.1 1 rfl) ?_
  obtain ⟨z4, ez4, iz4, rz4, hf⟩ := cc_g_s hw hf
  refine cw_get (val := cR v z4) B hw rz4 ⟨by decide, by decide⟩ (by decide) cwi_10 cfl_X11_279 ez4 rfl dX11_assume_75 ?_
  obtain ⟨qσ5, hf⟩ := cc_t_s hf
  obtain ⟨σ5, kv6, z7, hσ5, hf⟩ := cc_cl_s hf
  obtain ⟨iz7, mσ5⟩ := hR 16 σ [z1, z2, z3, x3, x2, z4] σ5 kv6 z7 hσ5
  have mσ5 : cw_Met l v yX0_addName cX0_addName 7 none d [cR v z1, cR v z2, cR v z3, cR v x3, .int (rI x2), cR v z4] σ σ5 kv6 none := mσ5 iz1 iz2 iz3 ix3 ix2 iz4
  refine cw_cv (b := z1) (t := 1) (n := 5) (rest := []) (As := [cR v z2, cR v z3, cR v x3, .int (rI x2), cR v z4]) B mσ5 qσ5 ⟨by decide, by decide⟩ cgo_yX0_addName cml_X11_304 cin_yX0_addName cse_yX0_addName (by decide +kernel) (by decide) rfl hl.1.1 (Nat.le_of_ble_eq_true rfl) dX11_assume_78 rfl hw (fun h0 H locs cells slots hw => ?_) (fun h0 H locs cells slots q ce hw h1 h2 h3 => ?_)
  · rcases hf with ⟨-, hf⟩ | ⟨hk, -⟩
    · skip
      exact cw_retv B hf hw dX11_assume_81
    · exact absurd h0 hk
  · rcases hf with ⟨hk, -⟩ | ⟨-, hf⟩
    · exact absurd hk h0
    · cases hf
      exact cw_xout B hnh h0 hw h1 h2 h3

set_option maxHeartbeats 4000000 in
set_option maxRecDepth 100000 in
theorem pw_X11_assume_0 {v : cwE} {bd : cBd} {p : Program} {l : Launch} {e : Env} {s : State} {m : MethodId} {args : Array Value} {below : List Frame} {meth : Method} {c : Code} {d : Nat} {rec : Nat → CS → List Int → CO} {σ0 σ' : CS} {kd : Nat} {r : Int} (hbd : bd = cw_bd v) (hR : cw_Rec l v d rec) (htr : l.stackTraces = false) (hd5 : 5 ≤ d) (B : cw_B v RX11 p s m args meth c cX11_assume 4 none) (hnh : ∀ x ∈ c.exceptionTable.toList, False) : ∀ (σ : CS) (x0 x1 : Int), inR x0 → inR x1 → pc_X11_assume_0 rec bd σ x0 x1 = some (σ', kd, r) → ∀ (H : Heap) (locs : List Loc) (cells slots : Nat) (ls : Array Slot), cw_W v s σ0 σ H locs cells slots → cl_has ls 4 [(0, cR v x0), (1, cR v x1)] → W p l e (cw_rm v (d + 1) σ0) s m args below meth c H locs cells slots (cw_Z below v σ0 σ' kd none args s) (F0 m 0 ls []) := by
  subst hbd
  obtain ⟨hx, hb, hr, hml, hown, hts, hlk, hK⟩ := id B
  intro σ x0 x1 ix0 ix1 hf H locs cells slots ls hw hl
  unfold pc_X11_assume_0 at hf
  refine cl_aload_n hx hb dX11_assume_0 rfl (lv_at hl.1 0 rfl) ?_
  refine cl_aload_n hx hb dX11_assume_1 rfl (lv_at hl.1 1 rfl) ?_
  obtain ⟨z1, ez1, iz1, rz1, hf⟩ := cc_g_s hw hf
  refine cw_get (val := cR v z1) B hw rz1 ⟨by decide, by decide⟩ (by decide) cwi_10 cfl_X11_249 ez1 rfl dX11_assume_2 ?_
  obtain ⟨qσ2, hf⟩ := cc_t_s hf
  obtain ⟨σ2, kv3, z4, hσ2, hf⟩ := cc_cl_s hf
  obtain ⟨iz4, mσ2⟩ := hR 49 σ [x0, z1] σ2 kv3 z4 hσ2
  have mσ2 : cw_Met l v yX11_needNewName cX11_needNewName 3 none d [cR v x0, cR v z1] σ σ2 kv3 none := mσ2 ix0 iz1
  refine cw_cv (b := x0) (t := 12) (n := 1) (rest := []) (As := [cR v z1]) B mσ2 qσ2 ⟨by decide, by decide⟩ cgo_yX11_needNewName cml_X11_290 cin_yX11_needNewName cse_yX11_needNewName (by decide +kernel) (by decide) rfl hl.1.1 (Nat.le_of_ble_eq_true rfl) dX11_assume_5 rfl hw (fun h0 H locs cells slots hw => ?_) (fun h0 H locs cells slots q ce hw h1 h2 h3 => ?_)
  · rcases hf with ⟨-, hf⟩ | ⟨hk, -⟩
    · skip
      refine cl_aload_n hx hb dX11_assume_8 rfl (lv_at hl.1 0 rfl) ?_
      obtain ⟨z5, ez5, iz5, rz5, hf⟩ := cc_g_s hw hf
      refine cw_get (val := cR v z5) B hw rz5 ⟨by decide, by decide⟩ (by decide) cwi_12 cfl_X11_50 ez5 rfl dX11_assume_9 ?_
      refine cl_aload_n hx hb dX11_assume_12 rfl (lv_at hl.1 1 rfl) ?_
      obtain ⟨z6, ez6, iz6, rz6, hf⟩ := cc_g_s hw hf
      refine cw_get (val := cR v z6) B hw rz6 ⟨by decide, by decide⟩ (by decide) cwi_10 cfl_X11_229 ez6 rfl dX11_assume_13 ?_
      obtain ⟨qσ7, hf⟩ := cc_t_s hf
      obtain ⟨σ7, kv8, z9, hσ7, hf⟩ := cc_cl_s hf
      obtain ⟨iz9, mσ7⟩ := hR 72 σ2 [z5, z6] σ7 kv8 z9 hσ7
      have mσ7 : cw_Met l v yX2_sortAsType cX2_sortAsType 2 (some .int) d [cR v z5, cR v z6] σ2 σ7 kv8 (some (.int (rI z9))) := mσ7 iz5 iz6
      refine cw_cv (b := z5) (t := 3) (n := 1) (rest := []) (As := [cR v z6]) B mσ7 qσ7 ⟨by decide, by decide⟩ cgo_yX2_sortAsType cml_X11_293 cin_yX2_sortAsType cse_yX2_sortAsType (by decide +kernel) (by decide) rfl hl.1.1 (Nat.le_of_ble_eq_true rfl) dX11_assume_16 rfl hw (fun h0 H locs cells slots hw => ?_) (fun h0 H locs cells slots q ce hw h1 h2 h3 => ?_)
      · rcases hf with ⟨-, hf⟩ | ⟨hk, -⟩
        · skip
          refine cl_istore_n (lv' := [(2, .int (rI z9)), (0, cR v x0), (1, cR v x1)]) hx hb dX11_assume_19 rfl hl (by decide) rfl (fun ls hl => ?_)
          refine cl_aload_n hx hb dX11_assume_20 rfl (lv_at hl.1 1 rfl) ?_
          obtain ⟨z10, ez10, iz10, rz10, hf⟩ := cc_g_s hw hf
          refine cw_get (val := cR v z10) B hw rz10 ⟨by decide, by decide⟩ (by decide) cwi_12 cfl_X11_32 ez10 rfl dX11_assume_21 ?_
          refine cl_aload_n hx hb dX11_assume_24 rfl (lv_at hl.1 2 rfl) ?_
          obtain ⟨z11, ez11, iz11, rz11, hf⟩ := cc_g_s hw hf
          refine cw_get (val := cR v z11) B hw rz11 ⟨by decide, by decide⟩ (by decide) cwi_10 cfl_X11_229 ez11 rfl dX11_assume_25 ?_
          refine cl_null (v := v) hx hb dX11_assume_28 ?_
          obtain ⟨qσ12, hf⟩ := cc_t_s hf
          obtain ⟨σ12, kv13, z14, hσ12, hf⟩ := cc_cl_s hf
          obtain ⟨iz14, mσ12⟩ := hR 86 σ7 [z10, z11, (-1)] σ12 kv13 z14 hσ12
          have mσ12 : cw_Met l v yX4_normalForm cX4_normalForm 3 (some (.object "PureHouse$Node")) d [cR v z10, cR v z11, cR v (-1)] σ7 σ12 kv13 (some (cR v z14)) := mσ12 iz10 iz11 ⟨by decide, by decide⟩
          refine cw_cv (b := z10) (t := 5) (n := 2) (rest := []) (As := [cR v z11, cR v (-1)]) B mσ12 qσ12 ⟨by decide, by decide⟩ cgo_yX4_normalForm cml_X11_296 cin_yX4_normalForm cse_yX4_normalForm (by decide +kernel) (by decide) rfl hl.1.1 (Nat.le_of_ble_eq_true rfl) dX11_assume_29 rfl hw (fun h0 H locs cells slots hw => ?_) (fun h0 H locs cells slots q ce hw h1 h2 h3 => ?_)
          · rcases hf with ⟨-, hf⟩ | ⟨hk, -⟩
            · skip
              refine cl_astore_n (lv' := [(3, cR v z14), (2, .int (rI z9)), (0, cR v x0), (1, cR v x1)]) hx hb dX11_assume_32 rfl hl (by decide) rfl (fun ls hl => ?_)
              refine cl_aload_n hx hb dX11_assume_33 rfl (lv_at hl.1 3 rfl) ?_
              obtain ⟨z15, ez15, iz15, rz15, hf⟩ := cc_g_s hw hf
              refine cw_get (val := cR v z15) B hw rz15 ⟨by decide, by decide⟩ (by decide) cwi_10 cfl_X11_279 ez15 rfl dX11_assume_34 ?_
              refine cl_ifnull (x := z15) (tgt := 60) hx hb dX11_assume_37 (by decide) (fun c16 => ?_) (fun c16 => ?_)
              · replace hf := cc_if_t hf c16
                exact pw_X11_assume_60 rfl hR htr hd5 B hnh σ12 x0 x1 z9 z14 ix0 ix1 iz9 iz14 hf _ _ _ _ _ hw (cl_sub hl [2, 3, 1, 0] rfl)
              · replace hf := cc_if_f hf c16
                refine cl_aload_n hx hb dX11_assume_40 rfl (lv_at hl.1 2 rfl) ?_
                refine cl_aload_n hx hb dX11_assume_41 rfl (lv_at hl.1 0 rfl) ?_
                refine cl_aload_n hx hb dX11_assume_42 rfl (lv_at hl.1 2 rfl) ?_
                obtain ⟨z17, ez17, iz17, rz17, hf⟩ := cc_g_s hw hf
                refine cw_get (val := cR v z17) B hw rz17 ⟨by decide, by decide⟩ (by decide) cwi_12 cfl_X11_50 ez17 rfl dX11_assume_43 ?_
                refine cl_aload_n hx hb dX11_assume_46 rfl (lv_at hl.1 3 rfl) ?_
                obtain ⟨z18, ez18, iz18, rz18, hf⟩ := cc_g_s hw hf
                refine cw_get (val := cR v z18) B hw rz18 ⟨by decide, by decide⟩ (by decide) cwi_10 cfl_X11_279 ez18 rfl dX11_assume_47 ?_
                obtain ⟨qσ19, hf⟩ := cc_t_s hf
                obtain ⟨σ19, kv20, z21, hσ19, hf⟩ := cc_cl_s hf
                obtain ⟨iz21, mσ19⟩ := hR 73 σ12 [z17, z18] σ19 kv20 z21 hσ19
                have mσ19 : cw_Met l v yX2_typeOf cX2_typeOf 2 (some (.object "PureHouse$Node")) d [cR v z17, cR v z18] σ12 σ19 kv20 (some (cR v z21)) := mσ19 iz17 iz18
                refine cw_cv (b := z17) (t := 3) (n := 1) (rest := [cR v z14, cR v x0]) (As := [cR v z18]) B mσ19 qσ19 ⟨by decide, by decide⟩ cgo_yX2_typeOf cml_X11_233 cin_yX2_typeOf cse_yX2_typeOf (by decide +kernel) (by decide) rfl hl.1.1 (cl_cs (cl_1r (cl_1r cl_10)) (Nat.le_of_ble_eq_true rfl)) dX11_assume_50 rfl hw (fun h0 H locs cells slots hw => ?_) (fun h0 H locs cells slots q ce hw h1 h2 h3 => ?_)
                · rcases hf with ⟨-, hf⟩ | ⟨hk, -⟩
                  · skip
                    refine cl_aload_n hx hb dX11_assume_53 rfl (lv_at hl.1 3 rfl) ?_
                    obtain ⟨z22, ez22, iz22, rz22, hf⟩ := cc_g_s hw hf
                    refine cw_get (val := cR v z22) B hw rz22 ⟨by decide, by decide⟩ (by decide) cwi_10 cfl_X11_279 ez22 rfl dX11_assume_54 ?_
                    obtain ⟨qσ23, hf⟩ := cc_t_s hf
                    obtain ⟨σ23, kv24, z25, hσ23, hf⟩ := cc_cl_s hf
                    obtain ⟨iz25, mσ23⟩ := hR 50 σ19 [x0, z14, z21, z22] σ23 kv24 z25 hσ23
                    have mσ23 : cw_Met l v yX11_needSame cX11_needSame 4 none d [cR v x0, cR v z14, cR v z21, cR v z22] σ19 σ23 kv24 none := mσ23 ix0 iz14 iz21 iz22
                    refine cw_cv (b := x0) (t := 12) (n := 3) (rest := []) (As := [cR v z14, cR v z21, cR v z22]) B mσ23 qσ23 ⟨by decide, by decide⟩ cgo_yX11_needSame cml_X11_300 cin_yX11_needSame cse_yX11_needSame (by decide +kernel) (by decide) rfl hl.1.1 (Nat.le_of_ble_eq_true rfl) dX11_assume_57 rfl hw (fun h0 H locs cells slots hw => ?_) (fun h0 H locs cells slots q ce hw h1 h2 h3 => ?_)
                    · rcases hf with ⟨-, hf⟩ | ⟨hk, -⟩
                      · skip
                        exact pw_X11_assume_60 rfl hR htr hd5 B hnh σ23 x0 x1 z9 z14 ix0 ix1 iz9 iz14 hf _ _ _ _ _ hw (cl_sub hl [2, 3, 1, 0] rfl)
                      · exact absurd h0 hk
                    · rcases hf with ⟨hk, -⟩ | ⟨-, hf⟩
                      · exact absurd hk h0
                      · cases hf
                        exact cw_xout B hnh h0 hw h1 h2 h3
                  · exact absurd h0 hk
                · rcases hf with ⟨hk, -⟩ | ⟨-, hf⟩
                  · exact absurd hk h0
                  · cases hf
                    exact cw_xout B hnh h0 hw h1 h2 h3
            · exact absurd h0 hk
          · rcases hf with ⟨hk, -⟩ | ⟨-, hf⟩
            · exact absurd hk h0
            · cases hf
              exact cw_xout B hnh h0 hw h1 h2 h3
        · exact absurd h0 hk
      · rcases hf with ⟨hk, -⟩ | ⟨-, hf⟩
        · exact absurd hk h0
        · cases hf
          exact cw_xout B hnh h0 hw h1 h2 h3
    · exact absurd h0 hk
  · rcases hf with ⟨hk, -⟩ | ⟨-, hf⟩
    · exact absurd hk h0
    · cases hf
      exact cw_xout B hnh h0 hw h1 h2 h3

set_option maxHeartbeats 4000000 in
set_option maxRecDepth 100000 in
theorem pm_X11_assume {v : cwE} {bd : cBd} {l : Launch} {d : Nat} {rec : Nat → CS → List Int → CO} (hbd : bd = cw_bd v) (hR : cw_Rec l v d rec) (htr : l.stackTraces = false) (hd5 : 5 ≤ d) (σ σ' : CS) (x0 x1 : Int) (kd : Nat) (r : Int) (ix0 : inR x0) (ix1 : inR x1) (hf : pc_X11_assume_0 rec bd σ x0 x1 = some (σ', kd, r)) : cw_Met l v yX11_assume cX11_assume 4 none (d + 1) [cR v x0, cR v x1] σ σ' kd none := by
  refine cw_ofW (by decide +kernel) ?_
  intro p e s m args below meth c s₁ B hml hv
  obtain ⟨rfl, hM, hK⟩ := hv
  have hts := atoms_spec (ws := Cond.code yX11_assume cX11_assume 4 none :: cw_bw) B.pre
  have hB : cw_B v RX11 p s m _ meth c cX11_assume 4 none := ⟨B.exec, B.bytes, B.returns, hml, findClass_of_methodNamed B.named, fun w h => hts w (List.mem_cons_of_mem _ h), B.notSynchronized, hK⟩
  have hnh := cc_nh B (hts _ List.mem_cons_self)
  rw [lg_entry_eq]
  obtain ⟨ls, hls, hl⟩ := cl_ent [cR v x0, cR v x1] 4 (cl_1r (cl_1r cl_10)) (Nat.le_of_ble_eq_true rfl)
  rw [hls]
  exact pw_X11_assume_0 hbd hR htr hd5 hB hnh σ x0 x1 ix0 ix1 hf _ _ _ _ _ (cw_W0 hM) (cl_sub hl [0, 1] rfl)

set_option maxHeartbeats 4000000 in
set_option maxRecDepth 100000 in
theorem pw_X11_back_28 {v : cwE} {bd : cBd} {p : Program} {l : Launch} {e : Env} {s : State} {m : MethodId} {args : Array Value} {below : List Frame} {meth : Method} {c : Code} {d : Nat} {rec : Nat → CS → List Int → CO} {σ0 σ' : CS} {kd : Nat} {r : Int} (hbd : bd = cw_bd v) (hR : cw_Rec l v d rec) (htr : l.stackTraces = false) (hd5 : 5 ≤ d) (B : cw_B v RX11 p s m args meth c cX11_back 1 (some .int)) (hnh : ∀ x ∈ c.exceptionTable.toList, False) : ∀ (σ : CS), pc_X11_back_28 rec bd σ = some (σ', kd, r) → ∀ (H : Heap) (locs : List Loc) (cells slots : Nat) (ls : Array Slot), cw_W v s σ0 σ H locs cells slots → cl_has ls 1 [] → W p l e (cw_rm v (d + 1) σ0) s m args below meth c H locs cells slots (cw_Z below v σ0 σ' kd (some (.int (rI r))) args s) (F0 m 28 ls []) := by
  subst hbd
  obtain ⟨hx, hb, hr, hml, hown, hts, hlk, hK⟩ := id B
  intro σ hf H locs cells slots ls hw hl
  unfold pc_X11_back_28 at hf
  obtain ⟨hy, hm⟩ := cc_x_s hf
  obtain ⟨hy1, hy2⟩ := Prod.mk.inj hy
  obtain ⟨hy2, hy3⟩ := Prod.mk.inj hy2
  subst hy2
  refine cw_throw (rest := []) B hnh htr hw (by decide) (by decide +kernel) cxc_X11_158 cxi_1 (cw_hat cxa_X11_160 (by decide +kernel) hts hK.1) (List.all_eq_true.mp cxg_X11_160) hd5 hm hy1 hl.1.1 (Nat.le_of_ble_eq_true rfl) dX11_back_28 dX11_back_31 dX11_back_32 dX11_back_35

set_option maxHeartbeats 4000000 in
set_option maxRecDepth 100000 in
theorem pw_X11_back_0 {v : cwE} {bd : cBd} {p : Program} {l : Launch} {e : Env} {s : State} {m : MethodId} {args : Array Value} {below : List Frame} {meth : Method} {c : Code} {d : Nat} {rec : Nat → CS → List Int → CO} {σ0 σ' : CS} {kd : Nat} {r : Int} (hbd : bd = cw_bd v) (hR : cw_Rec l v d rec) (htr : l.stackTraces = false) (hd5 : 5 ≤ d) (B : cw_B v RX11 p s m args meth c cX11_back 1 (some .int)) (hnh : ∀ x ∈ c.exceptionTable.toList, False) : ∀ (σ : CS) (x0 : Int), inR x0 → pc_X11_back_0 rec bd σ x0 = some (σ', kd, r) → ∀ (H : Heap) (locs : List Loc) (cells slots : Nat) (ls : Array Slot), cw_W v s σ0 σ H locs cells slots → cl_has ls 1 [(0, cR v x0)] → W p l e (cw_rm v (d + 1) σ0) s m args below meth c H locs cells slots (cw_Z below v σ0 σ' kd (some (.int (rI r))) args s) (F0 m 0 ls []) := by
  subst hbd
  obtain ⟨hx, hb, hr, hml, hown, hts, hlk, hK⟩ := id B
  intro σ x0 ix0 hf H locs cells slots ls hw hl
  unfold pc_X11_back_0 at hf
  refine cl_aload_n hx hb dX11_back_0 rfl (lv_at hl.1 0 rfl) ?_
  obtain ⟨z1, ez1, iz1, rz1, hf⟩ := cc_g_s hw hf
  refine cw_get (val := cR v z1) B hw rz1 ⟨by decide, by decide⟩ (by decide) cwi_12 cfl_X11_23 ez1 rfl dX11_back_1 ?_
  obtain ⟨z2, ez2, iz2, rz2, hf⟩ := cc_g_s hw hf
  refine cw_get (val := .int (rI z2)) B hw rz2 ⟨by decide, by decide⟩ (by decide) cwi_1 cfl_X11_118 ez2 rfl dX11_back_4 ?_
  refine rn_if_le (a := z2) (tgt := 28) hx hb iz2 dX11_back_7 (by decide) (fun c3 => ?_) (fun c3 => ?_)
  · replace hf := cc_if_t hf c3
    exact pw_X11_back_28 rfl hR htr hd5 B hnh σ hf _ _ _ _ _ hw (cl_sub hl [] rfl)
  · replace hf := cc_if_f hf c3
    refine cl_aload_n hx hb dX11_back_10 rfl (lv_at hl.1 0 rfl) ?_
    obtain ⟨z4, ez4, iz4, rz4, hf⟩ := cc_g_s hw hf
    refine cw_get (val := cR v z4) B hw rz4 ⟨by decide, by decide⟩ (by decide) cwi_12 cfl_X11_23 ez4 rfl dX11_back_11 ?_
    obtain ⟨z5, ez5, iz5, rz5, hf⟩ := cc_g_s hw hf
    refine cw_get (val := .int (rI z5)) B hw rz5 ⟨by decide, by decide⟩ (by decide) cwi_1 cfl_X11_118 ez5 rfl dX11_back_14 ?_
    refine cl_aload_n hx hb dX11_back_17 rfl (lv_at hl.1 0 rfl) ?_
    obtain ⟨z6, ez6, iz6, rz6, hf⟩ := cc_g_s hw hf
    refine cw_get (val := cR v z6) B hw rz6 ⟨by decide, by decide⟩ (by decide) cwi_12 cfl_X11_23 ez6 rfl dX11_back_18 ?_
    obtain ⟨z7, ez7, iz7, rz7, hf⟩ := cc_g_s hw hf
    refine cw_get (val := cR v z7) B hw rz7 ⟨by decide, by decide⟩ (by decide) cwi_1 cfl_X11_155 ez7 rfl dX11_back_21 ?_
    obtain ⟨z8, ez8, iz8, rz8, hf⟩ := cc_l_s hf
    refine cw_len B hw rz8 (by decide) ez8 iz8 dX11_back_24 ?_
    refine rn_icmp_le (a := z5) (b := z8) (tgt := 36) hx hb iz5 iz8 dX11_back_25 (by decide) (fun c9 => ?_) (fun c9 => ?_)
    · replace hf := cc_if_t hf c9
      refine cl_aload_n hx hb dX11_back_36 rfl (lv_at hl.1 0 rfl) ?_
      obtain ⟨z10, ez10, iz10, rz10, hf⟩ := cc_g_s hw hf
      refine cw_get (val := cR v z10) B hw rz10 ⟨by decide, by decide⟩ (by decide) cwi_12 cfl_X11_23 ez10 rfl dX11_back_37 ?_
      refine lv_dup hx hb dX11_back_40 (cR_cat _) ?_
      obtain ⟨z11, ez11, iz11, rz11, hf⟩ := cc_g_s hw hf
      refine cw_get (val := .int (rI z11)) B hw rz11 ⟨by decide, by decide⟩ (by decide) cwi_1 cfl_X11_118 ez11 rfl dX11_back_41 ?_
      refine lv_iconst (v := rI 1) hx hb dX11_back_44 rfl ?_
      obtain ⟨z12, ez12, iz12, hf⟩ := cc_ck_s hf
      refine rn_sub hx hb ez12 dX11_back_45 ?_
      obtain ⟨σ13, eσ13, rσ13, hf⟩ := cc_p_s hf
      refine cw_put B hw rσ13 cwt_1 (by decide) rfl cfl_X11_118 iz12 eσ13 rfl (cw_fv_n rfl rfl) dX11_back_46 (fun H locs hw => ?_)
      refine cl_aload_n hx hb dX11_back_49 rfl (lv_at hl.1 0 rfl) ?_
      obtain ⟨z14, ez14, iz14, rz14, hf⟩ := cc_g_s hw hf
      refine cw_get (val := cR v z14) B hw rz14 ⟨by decide, by decide⟩ (by decide) cwi_12 cfl_X11_23 ez14 rfl dX11_back_50 ?_
      obtain ⟨z15, ez15, iz15, rz15, hf⟩ := cc_g_s hw hf
      refine cw_get (val := cR v z15) B hw rz15 ⟨by decide, by decide⟩ (by decide) cwi_1 cfl_X11_84 ez15 rfl dX11_back_53 ?_
      refine cl_aload_n hx hb dX11_back_56 rfl (lv_at hl.1 0 rfl) ?_
      obtain ⟨z16, ez16, iz16, rz16, hf⟩ := cc_g_s hw hf
      refine cw_get (val := cR v z16) B hw rz16 ⟨by decide, by decide⟩ (by decide) cwi_12 cfl_X11_23 ez16 rfl dX11_back_57 ?_
      obtain ⟨z17, ez17, iz17, rz17, hf⟩ := cc_g_s hw hf
      refine cw_get (val := cR v z17) B hw rz17 ⟨by decide, by decide⟩ (by decide) cwi_1 cfl_X11_155 ez17 rfl dX11_back_60 ?_
      refine cl_aload_n hx hb dX11_back_63 rfl (lv_at hl.1 0 rfl) ?_
      obtain ⟨z18, ez18, iz18, rz18, hf⟩ := cc_g_s hw hf
      refine cw_get (val := cR v z18) B hw rz18 ⟨by decide, by decide⟩ (by decide) cwi_12 cfl_X11_23 ez18 rfl dX11_back_64 ?_
      obtain ⟨z19, ez19, iz19, rz19, hf⟩ := cc_g_s hw hf
      refine cw_get (val := .int (rI z19)) B hw rz19 ⟨by decide, by decide⟩ (by decide) cwi_1 cfl_X11_118 ez19 rfl dX11_back_67 ?_
      obtain ⟨z20, ez20, iz20, rz20, bz20, hf⟩ := cc_r_s hw hf
      refine cw_aldI B hw rz20 iz19 bz20 ez20 dX11_back_70 ?_
      obtain ⟨σ21, eσ21, rσ21, hf⟩ := cc_p_s hf
      refine cw_put B hw rσ21 cwt_6 (by decide) rfl cfl_X11_88 iz20 eσ21 rfl (cw_fv_n rfl rfl) dX11_back_71 (fun H locs hw => ?_)
      refine cl_aload_n hx hb dX11_back_74 rfl (lv_at hl.1 0 rfl) ?_
      obtain ⟨z22, ez22, iz22, rz22, hf⟩ := cc_g_s hw hf
      refine cw_get (val := cR v z22) B hw rz22 ⟨by decide, by decide⟩ (by decide) cwi_12 cfl_X11_23 ez22 rfl dX11_back_75 ?_
      obtain ⟨z23, ez23, iz23, rz23, hf⟩ := cc_g_s hw hf
      refine cw_get (val := cR v z23) B hw rz23 ⟨by decide, by decide⟩ (by decide) cwi_1 cfl_X11_84 ez23 rfl dX11_back_78 ?_
      obtain ⟨z24, ez24, iz24, rz24, hf⟩ := cc_g_s hw hf
      refine cw_get (val := .int (rI z24)) B hw rz24 ⟨by decide, by decide⟩ (by decide) cwi_6 cfl_X11_88 ez24 rfl dX11_back_81 ?_
      exact cw_reti B hf hw dX11_back_84
    · replace hf := cc_if_f hf c9
      exact pw_X11_back_28 rfl hR htr hd5 B hnh σ hf _ _ _ _ _ hw (cl_sub hl [] rfl)

set_option maxHeartbeats 4000000 in
set_option maxRecDepth 100000 in
theorem pm_X11_back {v : cwE} {bd : cBd} {l : Launch} {d : Nat} {rec : Nat → CS → List Int → CO} (hbd : bd = cw_bd v) (hR : cw_Rec l v d rec) (htr : l.stackTraces = false) (hd5 : 5 ≤ d) (σ σ' : CS) (x0 : Int) (kd : Nat) (r : Int) (ix0 : inR x0) (hf : pc_X11_back_0 rec bd σ x0 = some (σ', kd, r)) : cw_Met l v yX11_back cX11_back 1 (some .int) (d + 1) [cR v x0] σ σ' kd (some (.int (rI r))) := by
  refine cw_ofW (by decide +kernel) ?_
  intro p e s m args below meth c s₁ B hml hv
  obtain ⟨rfl, hM, hK⟩ := hv
  have hts := atoms_spec (ws := Cond.code yX11_back cX11_back 1 (some .int) :: cw_bw) B.pre
  have hB : cw_B v RX11 p s m _ meth c cX11_back 1 (some .int) := ⟨B.exec, B.bytes, B.returns, hml, findClass_of_methodNamed B.named, fun w h => hts w (List.mem_cons_of_mem _ h), B.notSynchronized, hK⟩
  have hnh := cc_nh B (hts _ List.mem_cons_self)
  rw [lg_entry_eq]
  obtain ⟨ls, hls, hl⟩ := cl_ent [cR v x0] 1 (cl_1r cl_10) (Nat.le_of_ble_eq_true rfl)
  rw [hls]
  exact pw_X11_back_0 hbd hR htr hd5 hB hnh σ x0 ix0 hf _ _ _ _ _ (cw_W0 hM) (cl_sub hl [0] rfl)

set_option maxHeartbeats 4000000 in
set_option maxRecDepth 100000 in
theorem pw_X11_check_0 {v : cwE} {bd : cBd} {p : Program} {l : Launch} {e : Env} {s : State} {m : MethodId} {args : Array Value} {below : List Frame} {meth : Method} {c : Code} {d : Nat} {rec : Nat → CS → List Int → CO} {σ0 σ' : CS} {kd : Nat} {r : Int} (hbd : bd = cw_bd v) (hR : cw_Rec l v d rec) (htr : l.stackTraces = false) (hd5 : 5 ≤ d) (B : cw_B v RX11 p s m args meth c cX11_check 3 none) (hnh : ∀ x ∈ c.exceptionTable.toList, False) : ∀ (σ : CS) (x0 x1 : Int), inR x0 → inR x1 → pc_X11_check_0 rec bd σ x0 x1 = some (σ', kd, r) → ∀ (H : Heap) (locs : List Loc) (cells slots : Nat) (ls : Array Slot), cw_W v s σ0 σ H locs cells slots → cl_has ls 3 [(0, cR v x0), (1, cR v x1)] → W p l e (cw_rm v (d + 1) σ0) s m args below meth c H locs cells slots (cw_Z below v σ0 σ' kd none args s) (F0 m 0 ls []) := by
  subst hbd
  obtain ⟨hx, hb, hr, hml, hown, hts, hlk, hK⟩ := id B
  intro σ x0 x1 ix0 ix1 hf H locs cells slots ls hw hl
  unfold pc_X11_check_0 at hf
  refine cl_aload_n hx hb dX11_check_0 rfl (lv_at hl.1 1 rfl) ?_
  obtain ⟨z1, ez1, iz1, rz1, hf⟩ := cc_g_s hw hf
  refine cw_get (val := cR v z1) B hw rz1 ⟨by decide, by decide⟩ (by decide) cwi_10 cfl_X11_279 ez1 rfl dX11_check_1 ?_
  refine cl_ifnonnull (x := z1) (tgt := 35) hx hb dX11_check_4 (by decide) (fun c2 => ?_) (fun c2 => ?_)
  · replace hf := cc_if_t hf c2
    refine cl_aload_n hx hb dX11_check_35 rfl (lv_at hl.1 0 rfl) ?_
    obtain ⟨z3, ez3, iz3, rz3, hf⟩ := cc_g_s hw hf
    refine cw_get (val := cR v z3) B hw rz3 ⟨by decide, by decide⟩ (by decide) cwi_12 cfl_X11_50 ez3 rfl dX11_check_36 ?_
    refine cl_aload_n hx hb dX11_check_39 rfl (lv_at hl.1 1 rfl) ?_
    obtain ⟨z4, ez4, iz4, rz4, hf⟩ := cc_g_s hw hf
    refine cw_get (val := cR v z4) B hw rz4 ⟨by decide, by decide⟩ (by decide) cwi_10 cfl_X11_279 ez4 rfl dX11_check_40 ?_
    obtain ⟨qσ5, hf⟩ := cc_t_s hf
    obtain ⟨σ5, kv6, z7, hσ5, hf⟩ := cc_cl_s hf
    obtain ⟨iz7, mσ5⟩ := hR 72 σ [z3, z4] σ5 kv6 z7 hσ5
    have mσ5 : cw_Met l v yX2_sortAsType cX2_sortAsType 2 (some .int) d [cR v z3, cR v z4] σ σ5 kv6 (some (.int (rI z7))) := mσ5 iz3 iz4
    refine cw_cv (b := z3) (t := 3) (n := 1) (rest := []) (As := [cR v z4]) B mσ5 qσ5 ⟨by decide, by decide⟩ cgo_yX2_sortAsType cml_X11_293 cin_yX2_sortAsType cse_yX2_sortAsType (by decide +kernel) (by decide) rfl hl.1.1 (Nat.le_of_ble_eq_true rfl) dX11_check_43 rfl hw (fun h0 H locs cells slots hw => ?_) (fun h0 H locs cells slots q ce hw h1 h2 h3 => ?_)
    · rcases hf with ⟨-, hf⟩ | ⟨hk, -⟩
      · skip
        refine lv_pop hx hb dX11_check_46 rfl ?_
        refine cl_aload_n hx hb dX11_check_47 rfl (lv_at hl.1 0 rfl) ?_
        obtain ⟨z8, ez8, iz8, rz8, hf⟩ := cc_g_s hw hf
        refine cw_get (val := cR v z8) B hw rz8 ⟨by decide, by decide⟩ (by decide) cwi_12 cfl_X11_32 ez8 rfl dX11_check_48 ?_
        refine cl_aload_n hx hb dX11_check_51 rfl (lv_at hl.1 1 rfl) ?_
        obtain ⟨z9, ez9, iz9, rz9, hf⟩ := cc_g_s hw hf
        refine cw_get (val := cR v z9) B hw rz9 ⟨by decide, by decide⟩ (by decide) cwi_10 cfl_X11_279 ez9 rfl dX11_check_52 ?_
        refine cl_null (v := v) hx hb dX11_check_55 ?_
        obtain ⟨qσ10, hf⟩ := cc_t_s hf
        obtain ⟨σ10, kv11, z12, hσ10, hf⟩ := cc_cl_s hf
        obtain ⟨iz12, mσ10⟩ := hR 86 σ5 [z8, z9, (-1)] σ10 kv11 z12 hσ10
        have mσ10 : cw_Met l v yX4_normalForm cX4_normalForm 3 (some (.object "PureHouse$Node")) d [cR v z8, cR v z9, cR v (-1)] σ5 σ10 kv11 (some (cR v z12)) := mσ10 iz8 iz9 ⟨by decide, by decide⟩
        refine cw_cv (b := z8) (t := 5) (n := 2) (rest := []) (As := [cR v z9, cR v (-1)]) B mσ10 qσ10 ⟨by decide, by decide⟩ cgo_yX4_normalForm cml_X11_296 cin_yX4_normalForm cse_yX4_normalForm (by decide +kernel) (by decide) rfl hl.1.1 (Nat.le_of_ble_eq_true rfl) dX11_check_56 rfl hw (fun h0 H locs cells slots hw => ?_) (fun h0 H locs cells slots q ce hw h1 h2 h3 => ?_)
        · rcases hf with ⟨-, hf⟩ | ⟨hk, -⟩
          · skip
            refine cl_astore_n (lv' := [(2, cR v z12), (0, cR v x0), (1, cR v x1)]) hx hb dX11_check_59 rfl hl (by decide) rfl (fun ls hl => ?_)
            refine cl_aload_n hx hb dX11_check_60 rfl (lv_at hl.1 1 rfl) ?_
            refine cl_aload_n hx hb dX11_check_61 rfl (lv_at hl.1 0 rfl) ?_
            refine cl_aload_n hx hb dX11_check_62 rfl (lv_at hl.1 1 rfl) ?_
            obtain ⟨z13, ez13, iz13, rz13, hf⟩ := cc_g_s hw hf
            refine cw_get (val := cR v z13) B hw rz13 ⟨by decide, by decide⟩ (by decide) cwi_12 cfl_X11_50 ez13 rfl dX11_check_63 ?_
            refine cl_aload_n hx hb dX11_check_66 rfl (lv_at hl.1 2 rfl) ?_
            obtain ⟨z14, ez14, iz14, rz14, hf⟩ := cc_g_s hw hf
            refine cw_get (val := cR v z14) B hw rz14 ⟨by decide, by decide⟩ (by decide) cwi_10 cfl_X11_229 ez14 rfl dX11_check_67 ?_
            obtain ⟨qσ15, hf⟩ := cc_t_s hf
            obtain ⟨σ15, kv16, z17, hσ15, hf⟩ := cc_cl_s hf
            obtain ⟨iz17, mσ15⟩ := hR 73 σ10 [z13, z14] σ15 kv16 z17 hσ15
            have mσ15 : cw_Met l v yX2_typeOf cX2_typeOf 2 (some (.object "PureHouse$Node")) d [cR v z13, cR v z14] σ10 σ15 kv16 (some (cR v z17)) := mσ15 iz13 iz14
            refine cw_cv (b := z13) (t := 3) (n := 1) (rest := [cR v z12, cR v x0]) (As := [cR v z14]) B mσ15 qσ15 ⟨by decide, by decide⟩ cgo_yX2_typeOf cml_X11_233 cin_yX2_typeOf cse_yX2_typeOf (by decide +kernel) (by decide) rfl hl.1.1 (cl_cs (cl_1r (cl_1r cl_10)) (Nat.le_of_ble_eq_true rfl)) dX11_check_70 rfl hw (fun h0 H locs cells slots hw => ?_) (fun h0 H locs cells slots q ce hw h1 h2 h3 => ?_)
            · rcases hf with ⟨-, hf⟩ | ⟨hk, -⟩
              · skip
                refine cl_aload_n hx hb dX11_check_73 rfl (lv_at hl.1 2 rfl) ?_
                obtain ⟨z18, ez18, iz18, rz18, hf⟩ := cc_g_s hw hf
                refine cw_get (val := cR v z18) B hw rz18 ⟨by decide, by decide⟩ (by decide) cwi_10 cfl_X11_229 ez18 rfl dX11_check_74 ?_
                obtain ⟨qσ19, hf⟩ := cc_t_s hf
                obtain ⟨σ19, kv20, z21, hσ19, hf⟩ := cc_cl_s hf
                obtain ⟨iz21, mσ19⟩ := hR 50 σ15 [x0, z12, z17, z18] σ19 kv20 z21 hσ19
                have mσ19 : cw_Met l v yX11_needSame cX11_needSame 4 none d [cR v x0, cR v z12, cR v z17, cR v z18] σ15 σ19 kv20 none := mσ19 ix0 iz12 iz17 iz18
                refine cw_cv (b := x0) (t := 12) (n := 3) (rest := []) (As := [cR v z12, cR v z17, cR v z18]) B mσ19 qσ19 ⟨by decide, by decide⟩ cgo_yX11_needSame cml_X11_300 cin_yX11_needSame cse_yX11_needSame (by decide +kernel) (by decide) rfl hl.1.1 (Nat.le_of_ble_eq_true rfl) dX11_check_77 rfl hw (fun h0 H locs cells slots hw => ?_) (fun h0 H locs cells slots q ce hw h1 h2 h3 => ?_)
                · rcases hf with ⟨-, hf⟩ | ⟨hk, -⟩
                  · skip
                    refine cl_aload_n hx hb dX11_check_80 rfl (lv_at hl.1 1 rfl) ?_
                    obtain ⟨z22, ez22, iz22, rz22, hf⟩ := cc_g_s hw hf
                    refine cw_get (val := cR v z22) B hw rz22 ⟨by decide, by decide⟩ (by decide) cwi_12 cfl_X11_32 ez22 rfl dX11_check_81 ?_
                    refine lv_iconst (v := rI 1) hx hb dX11_check_84 rfl ?_
                    obtain ⟨qσ23, hf⟩ := cc_t_s hf
                    obtain ⟨σ23, kv24, z25, hσ23, hf⟩ := cc_cl_s hf
                    obtain ⟨iz25, mσ23⟩ := hR 89 σ19 [z22, 1] σ23 kv24 z25 hσ23
                    have mσ23 : cw_Met l v yX4_putAnswer cX4_putAnswer 4 none d [cR v z22, .int (rI 1)] σ19 σ23 kv24 none := mσ23 iz22 ⟨by decide, by decide⟩
                    refine cw_cv (b := z22) (t := 5) (n := 1) (rest := []) (As := [.int (rI 1)]) B mσ23 qσ23 ⟨by decide, by decide⟩ cgo_yX4_putAnswer cml_X11_311 cin_yX4_putAnswer cse_yX4_putAnswer (by decide +kernel) (by decide) rfl hl.1.1 (Nat.le_of_ble_eq_true rfl) dX11_check_85 rfl hw (fun h0 H locs cells slots hw => ?_) (fun h0 H locs cells slots q ce hw h1 h2 h3 => ?_)
                    · rcases hf with ⟨-, hf⟩ | ⟨hk, -⟩
                      · skip
                        exact cw_retv B hf hw dX11_check_88
                      · exact absurd h0 hk
                    · rcases hf with ⟨hk, -⟩ | ⟨-, hf⟩
                      · exact absurd hk h0
                      · cases hf
                        exact cw_xout B hnh h0 hw h1 h2 h3
                  · exact absurd h0 hk
                · rcases hf with ⟨hk, -⟩ | ⟨-, hf⟩
                  · exact absurd hk h0
                  · cases hf
                    exact cw_xout B hnh h0 hw h1 h2 h3
              · exact absurd h0 hk
            · rcases hf with ⟨hk, -⟩ | ⟨-, hf⟩
              · exact absurd hk h0
              · cases hf
                exact cw_xout B hnh h0 hw h1 h2 h3
          · exact absurd h0 hk
        · rcases hf with ⟨hk, -⟩ | ⟨-, hf⟩
          · exact absurd hk h0
          · cases hf
            exact cw_xout B hnh h0 hw h1 h2 h3
      · exact absurd h0 hk
    · rcases hf with ⟨hk, -⟩ | ⟨-, hf⟩
      · exact absurd hk h0
      · cases hf
        exact cw_xout B hnh h0 hw h1 h2 h3
  · replace hf := cc_if_f hf c2
    refine cl_aload_n hx hb dX11_check_7 rfl (lv_at hl.1 0 rfl) ?_
    obtain ⟨z26, ez26, iz26, rz26, hf⟩ := cc_g_s hw hf
    refine cw_get (val := cR v z26) B hw rz26 ⟨by decide, by decide⟩ (by decide) cwi_12 cfl_X11_32 ez26 rfl dX11_check_8 ?_
    refine cl_aload_n hx hb dX11_check_11 rfl (lv_at hl.1 0 rfl) ?_
    obtain ⟨z27, ez27, iz27, rz27, hf⟩ := cc_g_s hw hf
    refine cw_get (val := cR v z27) B hw rz27 ⟨by decide, by decide⟩ (by decide) cwi_12 cfl_X11_50 ez27 rfl dX11_check_12 ?_
    refine cl_aload_n hx hb dX11_check_15 rfl (lv_at hl.1 1 rfl) ?_
    obtain ⟨z28, ez28, iz28, rz28, hf⟩ := cc_g_s hw hf
    refine cw_get (val := cR v z28) B hw rz28 ⟨by decide, by decide⟩ (by decide) cwi_10 cfl_X11_229 ez28 rfl dX11_check_16 ?_
    obtain ⟨qσ29, hf⟩ := cc_t_s hf
    obtain ⟨σ29, kv30, z31, hσ29, hf⟩ := cc_cl_s hf
    obtain ⟨iz31, mσ29⟩ := hR 73 σ [z27, z28] σ29 kv30 z31 hσ29
    have mσ29 : cw_Met l v yX2_typeOf cX2_typeOf 2 (some (.object "PureHouse$Node")) d [cR v z27, cR v z28] σ σ29 kv30 (some (cR v z31)) := mσ29 iz27 iz28
    refine cw_cv (b := z27) (t := 3) (n := 1) (rest := [cR v z26]) (As := [cR v z28]) B mσ29 qσ29 ⟨by decide, by decide⟩ cgo_yX2_typeOf cml_X11_233 cin_yX2_typeOf cse_yX2_typeOf (by decide +kernel) (by decide) rfl hl.1.1 (cl_cs (cl_1r cl_10) (Nat.le_of_ble_eq_true rfl)) dX11_check_19 rfl hw (fun h0 H locs cells slots hw => ?_) (fun h0 H locs cells slots q ce hw h1 h2 h3 => ?_)
    · rcases hf with ⟨-, hf⟩ | ⟨hk, -⟩
      · skip
        obtain ⟨qσ32, hf⟩ := cc_t_s hf
        obtain ⟨σ32, kv33, z34, hσ32, hf⟩ := cc_cl_s hf
        obtain ⟨iz34, mσ32⟩ := hR 96 σ29 [z26, z31] σ32 kv33 z34 hσ32
        have mσ32 : cw_Met l v yX4_tellWhole cX4_tellWhole 2 none d [cR v z26, cR v z31] σ29 σ32 kv33 none := mσ32 iz26 iz31
        refine cw_cv (b := z26) (t := 5) (n := 1) (rest := []) (As := [cR v z31]) B mσ32 qσ32 ⟨by decide, by decide⟩ cgo_yX4_tellWhole cml_X11_192 cin_yX4_tellWhole cse_yX4_tellWhole (by decide +kernel) (by decide) rfl hl.1.1 (Nat.le_of_ble_eq_true rfl) dX11_check_22 rfl hw (fun h0 H locs cells slots hw => ?_) (fun h0 H locs cells slots q ce hw h1 h2 h3 => ?_)
        · rcases hf with ⟨-, hf⟩ | ⟨hk, -⟩
          · skip
            refine cl_aload_n hx hb dX11_check_25 rfl (lv_at hl.1 0 rfl) ?_
            obtain ⟨z35, ez35, iz35, rz35, hf⟩ := cc_g_s hw hf
            refine cw_get (val := cR v z35) B hw rz35 ⟨by decide, by decide⟩ (by decide) cwi_12 cfl_X11_32 ez35 rfl dX11_check_26 ?_
            refine lv_bipush (v := rI 10) hx hb dX11_check_29 (by decide +kernel) ?_
            obtain ⟨qσ36, hf⟩ := cc_t_s hf
            obtain ⟨σ36, kv37, z38, hσ36, hf⟩ := cc_cl_s hf
            obtain ⟨iz38, mσ36⟩ := hR 88 σ32 [z35, 10] σ36 kv37 z38 hσ36
            have mσ36 : cw_Met l v yX4_put cX4_put 2 none d [cR v z35, .int (rI 10)] σ32 σ36 kv37 none := mσ36 iz35 ⟨by decide, by decide⟩
            refine cw_cv (b := z35) (t := 5) (n := 1) (rest := []) (As := [.int (rI 10)]) B mσ36 qσ36 ⟨by decide, by decide⟩ cgo_yX4_put cml_X11_237 cin_yX4_put cse_yX4_put (by decide +kernel) (by decide) rfl hl.1.1 (Nat.le_of_ble_eq_true rfl) dX11_check_31 rfl hw (fun h0 H locs cells slots hw => ?_) (fun h0 H locs cells slots q ce hw h1 h2 h3 => ?_)
            · rcases hf with ⟨-, hf⟩ | ⟨hk, -⟩
              · skip
                exact cw_retv B hf hw dX11_check_34
              · exact absurd h0 hk
            · rcases hf with ⟨hk, -⟩ | ⟨-, hf⟩
              · exact absurd hk h0
              · cases hf
                exact cw_xout B hnh h0 hw h1 h2 h3
          · exact absurd h0 hk
        · rcases hf with ⟨hk, -⟩ | ⟨-, hf⟩
          · exact absurd hk h0
          · cases hf
            exact cw_xout B hnh h0 hw h1 h2 h3
      · exact absurd h0 hk
    · rcases hf with ⟨hk, -⟩ | ⟨-, hf⟩
      · exact absurd hk h0
      · cases hf
        exact cw_xout B hnh h0 hw h1 h2 h3

set_option maxHeartbeats 4000000 in
set_option maxRecDepth 100000 in
theorem pm_X11_check {v : cwE} {bd : cBd} {l : Launch} {d : Nat} {rec : Nat → CS → List Int → CO} (hbd : bd = cw_bd v) (hR : cw_Rec l v d rec) (htr : l.stackTraces = false) (hd5 : 5 ≤ d) (σ σ' : CS) (x0 x1 : Int) (kd : Nat) (r : Int) (ix0 : inR x0) (ix1 : inR x1) (hf : pc_X11_check_0 rec bd σ x0 x1 = some (σ', kd, r)) : cw_Met l v yX11_check cX11_check 3 none (d + 1) [cR v x0, cR v x1] σ σ' kd none := by
  refine cw_ofW (by decide +kernel) ?_
  intro p e s m args below meth c s₁ B hml hv
  obtain ⟨rfl, hM, hK⟩ := hv
  have hts := atoms_spec (ws := Cond.code yX11_check cX11_check 3 none :: cw_bw) B.pre
  have hB : cw_B v RX11 p s m _ meth c cX11_check 3 none := ⟨B.exec, B.bytes, B.returns, hml, findClass_of_methodNamed B.named, fun w h => hts w (List.mem_cons_of_mem _ h), B.notSynchronized, hK⟩
  have hnh := cc_nh B (hts _ List.mem_cons_self)
  rw [lg_entry_eq]
  obtain ⟨ls, hls, hl⟩ := cl_ent [cR v x0, cR v x1] 3 (cl_1r (cl_1r cl_10)) (Nat.le_of_ble_eq_true rfl)
  rw [hls]
  exact pw_X11_check_0 hbd hR htr hd5 hB hnh σ x0 x1 ix0 ix1 hf _ _ _ _ _ (cw_W0 hM) (cl_sub hl [0, 1] rfl)

set_option maxHeartbeats 4000000 in
set_option maxRecDepth 100000 in
theorem pw_X11_compareNames_0 {v : cwE} {bd : cBd} {p : Program} {l : Launch} {e : Env} {s : State} {m : MethodId} {args : Array Value} {below : List Frame} {meth : Method} {c : Code} {d : Nat} {rec : Nat → CS → List Int → CO} {σ0 σ' : CS} {kd : Nat} {r : Int} (hbd : bd = cw_bd v) (hR : cw_Rec l v d rec) (htr : l.stackTraces = false) (hd5 : 5 ≤ d) (B : cw_B v RX11 p s m args meth c cX11_compareNames 6 (some .int)) (hnh : c.exceptionTable.toList = tableOf [(29, 47, 48, 158)]) : ∀ (σ : CS) (x0 x1 x2 : Int), inR x0 → inR x1 → inR x2 → pc_X11_compareNames_0 rec bd σ x0 x1 x2 = some (σ', kd, r) → ∀ (H : Heap) (locs : List Loc) (cells slots : Nat) (ls : Array Slot), cw_W v s σ0 σ H locs cells slots → cl_has ls 6 [(0, cR v x0), (1, .int (rI x1)), (2, .int (rI x2))] → W p l e (cw_rm v (d + 1) σ0) s m args below meth c H locs cells slots (cw_Z below v σ0 σ' kd (some (.int (rI r))) args s) (F0 m 0 ls []) := by
  subst hbd
  obtain ⟨hx, hb, hr, hml, hown, hts, hlk, hK⟩ := id B
  intro σ x0 x1 x2 ix0 ix1 ix2 hf H locs cells slots ls hw hl
  unfold pc_X11_compareNames_0 at hf
  refine cl_aload_n hx hb dX11_compareNames_0 rfl (lv_at hl.1 0 rfl) ?_
  obtain ⟨z1, ez1, iz1, rz1, hf⟩ := cc_g_s hw hf
  refine cw_get (val := cR v z1) B hw rz1 ⟨by decide, by decide⟩ (by decide) cwi_12 cfl_X11_32 ez1 rfl dX11_compareNames_1 ?_
  refine lv_iconst (v := rI 0) hx hb dX11_compareNames_4 rfl ?_
  obtain ⟨qσ2, hf⟩ := cc_t_s hf
  obtain ⟨σ2, z4, hσ2, hf⟩ := cc_cn_s hf
  obtain ⟨iz4, mσ2⟩ := hR 81 σ [z1, 0] σ2 0 z4 hσ2
  have mσ2 : cw_Met l v yX4_begin cX4_begin 3 none d [cR v z1, .int (rI 0)] σ σ2 0 none := mσ2 iz1 ⟨by decide, by decide⟩
  refine cw_cv (b := z1) (t := 5) (n := 1) (rest := []) (As := [.int (rI 0)]) B mσ2 qσ2 ⟨by decide, by decide⟩ cgo_yX4_begin cml_X11_189 cin_yX4_begin cse_yX4_begin (by decide +kernel) (by decide) rfl hl.1.1 (Nat.le_of_ble_eq_true rfl) dX11_compareNames_5 rfl hw (fun h0 H locs cells slots hw => ?_) (fun h0 H locs cells slots q ce hw h1 h2 h3 => ?_)
  · skip
    obtain ⟨σ5, z6, eσ5, ez6, iz6, rσ5, hf⟩ := cc_n_s hf
    refine cw_new B hw cwt_7 rfl cwd_7 cnl_X11_196 cni_7 cnz_7 rσ5 eσ5 ez6 dX11_compareNames_8 (fun H hw => ?_)
    refine lv_dup hx hb dX11_compareNames_11 (cR_cat _) ?_
    refine lv_iconst (v := rI 2) hx hb dX11_compareNames_12 rfl ?_
    refine lv_iload_n hx hb dX11_compareNames_13 rfl (lv_at hl.1 1 rfl) ?_
    obtain ⟨qσ7, hf⟩ := cc_t_s hf
    obtain ⟨σ7, z9, hσ7, hf⟩ := cc_ci_s hf
    obtain ⟨iz9, mσ7⟩ := hR 105 σ5 [z6, 2, x1] σ7 0 z9 hσ7
    have mσ7 : cw_Met l v yX6_init cX6_init 3 none d [cR v z6, .int (rI 2), .int (rI x1)] σ5 σ7 0 none := mσ7 iz6 ⟨by decide, by decide⟩ ix1
    refine cw_ci (b := z6) (n := 2) (rest := [cR v z6]) (As := [.int (rI 2), .int (rI x1)]) B mσ7 qσ7.1 rfl cgo_yX6_init cml_X11_198 cin_yX6_init (by decide +kernel) (by decide) rfl hl.1.1 (cl_cs (cl_1r cl_10) (Nat.le_of_ble_eq_true rfl)) dX11_compareNames_14 rfl hw (fun H locs cells slots hw => ?_)
    refine cl_astore_n (lv' := [(3, cR v z6), (0, cR v x0), (1, .int (rI x1)), (2, .int (rI x2))]) hx hb dX11_compareNames_17 rfl hl (by decide) rfl (fun ls hl => ?_)
    obtain ⟨σ10, z11, eσ10, ez11, iz11, rσ10, hf⟩ := cc_n_s hf
    refine cw_new B hw cwt_7 rfl cwd_7 cnl_X11_196 cni_7 cnz_7 rσ10 eσ10 ez11 dX11_compareNames_18 (fun H hw => ?_)
    refine lv_dup hx hb dX11_compareNames_21 (cR_cat _) ?_
    refine lv_iconst (v := rI 2) hx hb dX11_compareNames_22 rfl ?_
    refine lv_iload_n hx hb dX11_compareNames_23 rfl (lv_at hl.1 3 rfl) ?_
    obtain ⟨qσ12, hf⟩ := cc_t_s hf
    obtain ⟨σ12, z14, hσ12, hf⟩ := cc_ci_s hf
    obtain ⟨iz14, mσ12⟩ := hR 105 σ10 [z11, 2, x2] σ12 0 z14 hσ12
    have mσ12 : cw_Met l v yX6_init cX6_init 3 none d [cR v z11, .int (rI 2), .int (rI x2)] σ10 σ12 0 none := mσ12 iz11 ⟨by decide, by decide⟩ ix2
    refine cw_ci (b := z11) (n := 2) (rest := [cR v z11]) (As := [.int (rI 2), .int (rI x2)]) B mσ12 qσ12.1 rfl cgo_yX6_init cml_X11_198 cin_yX6_init (by decide +kernel) (by decide) rfl hl.1.1 (cl_cs (cl_1r cl_10) (Nat.le_of_ble_eq_true rfl)) dX11_compareNames_24 rfl hw (fun H locs cells slots hw => ?_)
    refine cl_astore (lv' := [(4, cR v z11), (3, cR v z6), (0, cR v x0), (1, .int (rI x1)), (2, .int (rI x2))]) hx hb dX11_compareNames_27 hl (by decide) rfl (fun ls hl => ?_)
    refine cl_aload_n hx hb dX11_compareNames_29 rfl (lv_at hl.1 2 rfl) ?_
    obtain ⟨z15, ez15, iz15, rz15, hf⟩ := cc_g_s hw hf
    refine cw_get (val := cR v z15) B hw rz15 ⟨by decide, by decide⟩ (by decide) cwi_12 cfl_X11_32 ez15 rfl dX11_compareNames_30 ?_
    refine cl_aload_n hx hb dX11_compareNames_33 rfl (lv_at hl.1 1 rfl) ?_
    refine cl_aload hx hb dX11_compareNames_34 (lv_at hl.1 0 rfl) ?_
    obtain ⟨qσ16, hf⟩ := cc_t_s hf
    obtain ⟨σ16, kv17, z18, hσ16, hf⟩ := cc_ct_s hf
    obtain ⟨iz18, mσ16⟩ := hR 80 σ12 [z15, z6, z11] σ16 kv17 z18 hσ16
    have mσ16 : cw_Met l v yX4_areSame cX4_areSame 3 (some .boolean) d [cR v z15, cR v z6, cR v z11] σ12 σ16 kv17 (some (.int (rI z18))) := mσ16 iz15 iz6 iz11
    refine cw_cv (b := z15) (t := 5) (n := 2) (rest := []) (As := [cR v z6, cR v z11]) B mσ16 qσ16 ⟨by decide, by decide⟩ cgo_yX4_areSame cml_X11_201 cin_yX4_areSame cse_yX4_areSame (by decide +kernel) (by decide) rfl hl.1.1 (Nat.le_of_ble_eq_true rfl) dX11_compareNames_36 rfl hw (fun h0 H locs cells slots hw => ?_) (fun h0 H locs cells slots q ce hw h1 h2 h3 => ?_)
    · rcases hf with ⟨-, hf⟩ | ⟨hk, -⟩
      · skip
        refine rn_if_eq (a := z18) (tgt := 46) hx hb iz18 dX11_compareNames_39 (by decide) (fun c19 => ?_) (fun c19 => ?_)
        · replace hf := cc_if_t hf c19
          refine lv_iconst (v := rI 0) hx hb dX11_compareNames_46 rfl ?_
          exact cw_reti B hf hw dX11_compareNames_47
        · replace hf := cc_if_f hf c19
          refine lv_iconst (v := rI 1) hx hb dX11_compareNames_42 rfl ?_
          refine lv_goto (tgt := 47) hx hb dX11_compareNames_43 (by decide) ?_
          exact cw_reti B hf hw dX11_compareNames_47
      · omega
    · rcases hf with ⟨hk, -⟩ | ⟨hk, hf⟩
      · exact absurd hk h0
      · subst hk
        refine cw_catch (hpc := 48) B hnh (by decide) cxc_X11_158 h1 h2 h3 ?_
        refine cl_xstore (lv' := [(4, cR v z11), (3, cR v z6), (0, cR v x0), (1, .int (rI x1)), (2, .int (rI x2))]) hx hb dX11_compareNames_48 hl (by decide) (by decide) rfl (fun ls hl => ?_)
        refine cl_aload_n hx hb dX11_compareNames_50 rfl (lv_at hl.1 2 rfl) ?_
        obtain ⟨z20, ez20, iz20, rz20, hf⟩ := cc_g_s hw hf
        refine cw_get (val := cR v z20) B hw rz20 ⟨by decide, by decide⟩ (by decide) cwi_12 cfl_X11_16 ez20 rfl dX11_compareNames_51 ?_
        obtain ⟨z21, ez21, iz21, rz21, hf⟩ := cc_g_s hw hf
        refine cw_get (val := .int (rI z21)) B hw rz21 ⟨by decide, by decide⟩ (by decide) cwi_11 cfl_X11_183 ez21 rfl dX11_compareNames_54 ?_
        obtain ⟨z22, ez22, iz22, hf⟩ := cc_ck_s hf
        refine lv_ineg hx hb dX11_compareNames_57 ?_
        rw [rI_neg, ← ez22]
        exact cw_reti B hf hw dX11_compareNames_58
  · exact absurd rfl h0

set_option maxHeartbeats 4000000 in
set_option maxRecDepth 100000 in
theorem pm_X11_compareNames {v : cwE} {bd : cBd} {l : Launch} {d : Nat} {rec : Nat → CS → List Int → CO} (hbd : bd = cw_bd v) (hR : cw_Rec l v d rec) (htr : l.stackTraces = false) (hd5 : 5 ≤ d) (σ σ' : CS) (x0 x1 x2 : Int) (kd : Nat) (r : Int) (ix0 : inR x0) (ix1 : inR x1) (ix2 : inR x2) (hf : pc_X11_compareNames_0 rec bd σ x0 x1 x2 = some (σ', kd, r)) : cw_MetW l v yX11_compareNames cX11_compareNames 6 (some .int) [(29, 47, 48, 158)] (d + 1) [cR v x0, .int (rI x1), .int (rI x2)] σ σ' kd (some (.int (rI r))) := by
  refine cw_ofWW (by decide +kernel) ?_
  intro p e s m args below meth c s₁ B hml hv
  obtain ⟨rfl, hM, hK⟩ := hv
  have hts := atoms_spec (ws := Cond.codeWith yX11_compareNames cX11_compareNames 6 (some .int) [(29, 47, 48, 158)] :: cw_bw) B.pre
  have hB : cw_B v RX11 p s m _ meth c cX11_compareNames 6 (some .int) := ⟨B.exec, B.bytes, B.returns, hml, findClass_of_methodNamed B.named, fun w h => hts w (List.mem_cons_of_mem _ h), B.notSynchronized, hK⟩
  have hnh := vx_table (x := yX11_compareNames) B (hts _ List.mem_cons_self)
  rw [lg_entry_eq]
  obtain ⟨ls, hls, hl⟩ := cl_ent [cR v x0, .int (rI x1), .int (rI x2)] 6 (cl_1r (cl_1i (cl_1i cl_10))) (Nat.le_of_ble_eq_true rfl)
  rw [hls]
  exact pw_X11_compareNames_0 hbd hR htr hd5 hB hnh σ x0 x1 x2 ix0 ix1 ix2 hf _ _ _ _ _ (cw_W0 hM) (cl_sub hl [0, 1, 2] rfl)

set_option maxHeartbeats 4000000 in
set_option maxRecDepth 100000 in
theorem pw_X11_corner_10 {v : cwE} {bd : cBd} {p : Program} {l : Launch} {e : Env} {s : State} {m : MethodId} {args : Array Value} {below : List Frame} {meth : Method} {c : Code} {d : Nat} {rec : Nat → CS → List Int → CO} {σ0 σ' : CS} {kd : Nat} {r : Int} (hbd : bd = cw_bd v) (hR : cw_Rec l v d rec) (htr : l.stackTraces = false) (hd5 : 5 ≤ d) (B : cw_B v RX11 p s m args meth c cX11_corner 3 (some .int)) (hnh : ∀ x ∈ c.exceptionTable.toList, False) : ∀ (σ : CS), pc_X11_corner_10 rec bd σ = some (σ', kd, r) → ∀ (H : Heap) (locs : List Loc) (cells slots : Nat) (ls : Array Slot), cw_W v s σ0 σ H locs cells slots → cl_has ls 3 [] → W p l e (cw_rm v (d + 1) σ0) s m args below meth c H locs cells slots (cw_Z below v σ0 σ' kd (some (.int (rI r))) args s) (F0 m 10 ls []) := by
  subst hbd
  obtain ⟨hx, hb, hr, hml, hown, hts, hlk, hK⟩ := id B
  intro σ hf H locs cells slots ls hw hl
  unfold pc_X11_corner_10 at hf
  obtain ⟨hy, hm⟩ := cc_x_s hf
  obtain ⟨hy1, hy2⟩ := Prod.mk.inj hy
  obtain ⟨hy2, hy3⟩ := Prod.mk.inj hy2
  subst hy2
  refine cw_throw (rest := []) B hnh htr hw (by decide) (by decide +kernel) cxc_X11_74 cxi_2 (cw_hat cxa_X11_76 (by decide +kernel) hts hK.1) (List.all_eq_true.mp cxg_X11_76) hd5 hm hy1 hl.1.1 (Nat.le_of_ble_eq_true rfl) dX11_corner_10 dX11_corner_13 dX11_corner_14 dX11_corner_17

set_option maxHeartbeats 4000000 in
set_option maxRecDepth 100000 in
theorem pw_X11_corner_0 {v : cwE} {bd : cBd} {p : Program} {l : Launch} {e : Env} {s : State} {m : MethodId} {args : Array Value} {below : List Frame} {meth : Method} {c : Code} {d : Nat} {rec : Nat → CS → List Int → CO} {σ0 σ' : CS} {kd : Nat} {r : Int} (hbd : bd = cw_bd v) (hR : cw_Rec l v d rec) (htr : l.stackTraces = false) (hd5 : 5 ≤ d) (B : cw_B v RX11 p s m args meth c cX11_corner 3 (some .int)) (hnh : ∀ x ∈ c.exceptionTable.toList, False) : ∀ (σ : CS) (x0 x1 : Int), inR x0 → inR x1 → pc_X11_corner_0 rec bd σ x0 x1 = some (σ', kd, r) → ∀ (H : Heap) (locs : List Loc) (cells slots : Nat) (ls : Array Slot), cw_W v s σ0 σ H locs cells slots → cl_has ls 3 [(0, cR v x0), (1, .int (rI x1))] → W p l e (cw_rm v (d + 1) σ0) s m args below meth c H locs cells slots (cw_Z below v σ0 σ' kd (some (.int (rI r))) args s) (F0 m 0 ls []) := by
  subst hbd
  obtain ⟨hx, hb, hr, hml, hown, hts, hlk, hK⟩ := id B
  intro σ x0 x1 ix0 ix1 hf H locs cells slots ls hw hl
  unfold pc_X11_corner_0 at hf
  refine lv_iload_n hx hb dX11_corner_0 rfl (lv_at hl.1 1 rfl) ?_
  refine rn_if_lt (a := x1) (tgt := 10) hx hb ix1 dX11_corner_1 (by decide) (fun c1 => ?_) (fun c1 => ?_)
  · replace hf := cc_if_t hf c1
    exact pw_X11_corner_10 rfl hR htr hd5 B hnh σ hf _ _ _ _ _ hw (cl_sub hl [] rfl)
  · replace hf := cc_if_f hf c1
    refine lv_iload_n hx hb dX11_corner_4 rfl (lv_at hl.1 1 rfl) ?_
    refine lv_bipush (v := rI 8) hx hb dX11_corner_5 (by decide +kernel) ?_
    refine rn_icmp_le (a := x1) (b := 8) (tgt := 18) hx hb ix1 ⟨by decide, by decide⟩ dX11_corner_7 (by decide) (fun c2 => ?_) (fun c2 => ?_)
    · replace hf := cc_if_t hf c2
      refine cl_aload_n hx hb dX11_corner_18 rfl (lv_at hl.1 0 rfl) ?_
      obtain ⟨z3, ez3, iz3, rz3, hf⟩ := cc_g_s hw hf
      refine cw_get (val := cR v z3) B hw rz3 ⟨by decide, by decide⟩ (by decide) cwi_12 cfl_X11_23 ez3 rfl dX11_corner_19 ?_
      obtain ⟨z4, ez4, iz4, rz4, hf⟩ := cc_g_s hw hf
      refine cw_get (val := cR v z4) B hw rz4 ⟨by decide, by decide⟩ (by decide) cwi_1 cfl_X11_84 ez4 rfl dX11_corner_22 ?_
      obtain ⟨z5, ez5, iz5, rz5, hf⟩ := cc_g_s hw hf
      refine cw_get (val := .int (rI z5)) B hw rz5 ⟨by decide, by decide⟩ (by decide) cwi_6 cfl_X11_88 ez5 rfl dX11_corner_25 ?_
      refine cl_istore_n (lv' := [(2, .int (rI z5)), (0, cR v x0), (1, .int (rI x1))]) hx hb dX11_corner_28 rfl hl (by decide) rfl (fun ls hl => ?_)
      refine cl_aload_n hx hb dX11_corner_29 rfl (lv_at hl.1 1 rfl) ?_
      obtain ⟨z6, ez6, iz6, rz6, hf⟩ := cc_g_s hw hf
      refine cw_get (val := cR v z6) B hw rz6 ⟨by decide, by decide⟩ (by decide) cwi_12 cfl_X11_23 ez6 rfl dX11_corner_30 ?_
      refine lv_iload_n hx hb dX11_corner_33 rfl (lv_at hl.1 2 rfl) ?_
      obtain ⟨qσ7, hf⟩ := cc_t_s hf
      obtain ⟨σ7, kv8, z9, hσ7, hf⟩ := cc_cl_s hf
      obtain ⟨iz9, mσ7⟩ := hR 20 σ [z6, x1] σ7 kv8 z9 hσ7
      have mσ7 : cw_Met l v yX0_loadCorner cX0_loadCorner 2 none d [cR v z6, .int (rI x1)] σ σ7 kv8 none := mσ7 iz6 ix1
      refine cw_cv (b := z6) (t := 1) (n := 1) (rest := []) (As := [.int (rI x1)]) B mσ7 qσ7 ⟨by decide, by decide⟩ cgo_yX0_loadCorner cml_X11_67 cin_yX0_loadCorner cse_yX0_loadCorner (by decide +kernel) (by decide) rfl hl.1.1 (Nat.le_of_ble_eq_true rfl) dX11_corner_34 rfl hw (fun h0 H locs cells slots hw => ?_) (fun h0 H locs cells slots q ce hw h1 h2 h3 => ?_)
      · rcases hf with ⟨-, hf⟩ | ⟨hk, -⟩
        · skip
          refine lv_iload_n hx hb dX11_corner_37 rfl (lv_at hl.1 0 rfl) ?_
          exact cw_reti B hf hw dX11_corner_38
        · exact absurd h0 hk
      · rcases hf with ⟨hk, -⟩ | ⟨-, hf⟩
        · exact absurd hk h0
        · cases hf
          exact cw_xout B hnh h0 hw h1 h2 h3
    · replace hf := cc_if_f hf c2
      exact pw_X11_corner_10 rfl hR htr hd5 B hnh σ hf _ _ _ _ _ hw (cl_sub hl [] rfl)

set_option maxHeartbeats 4000000 in
set_option maxRecDepth 100000 in
theorem pm_X11_corner {v : cwE} {bd : cBd} {l : Launch} {d : Nat} {rec : Nat → CS → List Int → CO} (hbd : bd = cw_bd v) (hR : cw_Rec l v d rec) (htr : l.stackTraces = false) (hd5 : 5 ≤ d) (σ σ' : CS) (x0 x1 : Int) (kd : Nat) (r : Int) (ix0 : inR x0) (ix1 : inR x1) (hf : pc_X11_corner_0 rec bd σ x0 x1 = some (σ', kd, r)) : cw_Met l v yX11_corner cX11_corner 3 (some .int) (d + 1) [cR v x0, .int (rI x1)] σ σ' kd (some (.int (rI r))) := by
  refine cw_ofW (by decide +kernel) ?_
  intro p e s m args below meth c s₁ B hml hv
  obtain ⟨rfl, hM, hK⟩ := hv
  have hts := atoms_spec (ws := Cond.code yX11_corner cX11_corner 3 (some .int) :: cw_bw) B.pre
  have hB : cw_B v RX11 p s m _ meth c cX11_corner 3 (some .int) := ⟨B.exec, B.bytes, B.returns, hml, findClass_of_methodNamed B.named, fun w h => hts w (List.mem_cons_of_mem _ h), B.notSynchronized, hK⟩
  have hnh := cc_nh B (hts _ List.mem_cons_self)
  rw [lg_entry_eq]
  obtain ⟨ls, hls, hl⟩ := cl_ent [cR v x0, .int (rI x1)] 3 (cl_1r (cl_1i cl_10)) (Nat.le_of_ble_eq_true rfl)
  rw [hls]
  exact pw_X11_corner_0 hbd hR htr hd5 hB hnh σ x0 x1 ix0 ix1 hf _ _ _ _ _ (cw_W0 hM) (cl_sub hl [0, 1] rfl)

set_option maxHeartbeats 4000000 in
set_option maxRecDepth 100000 in
theorem pw_X11_count_26 {v : cwE} {bd : cBd} {p : Program} {l : Launch} {e : Env} {s : State} {m : MethodId} {args : Array Value} {below : List Frame} {meth : Method} {c : Code} {d : Nat} {rec : Nat → CS → List Int → CO} {σ0 σ' : CS} {kd : Nat} {r : Int} (hbd : bd = cw_bd v) (hR : cw_Rec l v d rec) (htr : l.stackTraces = false) (hd5 : 5 ≤ d) (B : cw_B v RX11 p s m args meth c cX11_count 2 (some .int)) (hnh : ∀ x ∈ c.exceptionTable.toList, False) : ∀ (σ : CS) (x0 x1 : Int), inR x0 → inR x1 → pc_X11_count_26 rec bd σ x0 x1 = some (σ', kd, r) → ∀ (H : Heap) (locs : List Loc) (cells slots : Nat) (ls : Array Slot), cw_W v s σ0 σ H locs cells slots → cl_has ls 2 [(0, cR v x0), (1, .int (rI x1))] → W p l e (cw_rm v (d + 1) σ0) s m args below meth c H locs cells slots (cw_Z below v σ0 σ' kd (some (.int (rI r))) args s) (F0 m 26 ls []) := by
  subst hbd
  obtain ⟨hx, hb, hr, hml, hown, hts, hlk, hK⟩ := id B
  intro σ x0 x1 ix0 ix1 hf H locs cells slots ls hw hl
  unfold pc_X11_count_26 at hf
  refine lv_iload_n hx hb dX11_count_26 rfl (lv_at hl.1 1 rfl) ?_
  by_cases c1 : x1 = 7
  · replace hf := cc_if_t hf c1
    refine rn_tab (n := 7) (tgt := 68) hx hb ix1 c1 dX11_count_27 (by decide) (by decide) rfl (by decide) ?_
    refine cl_aload_n hx hb dX11_count_68 rfl (lv_at hl.1 0 rfl) ?_
    obtain ⟨z2, ez2, iz2, rz2, hf⟩ := cc_g_s hw hf
    refine cw_get (val := cR v z2) B hw rz2 ⟨by decide, by decide⟩ (by decide) cwi_12 cfl_X11_32 ez2 rfl dX11_count_69 ?_
    obtain ⟨z3, ez3, iz3, rz3, hf⟩ := cc_g_s hw hf
    refine cw_get (val := .int (rI z3)) B hw rz3 ⟨by decide, by decide⟩ (by decide) cwi_5 cfl_X11_106 ez3 rfl dX11_count_72 ?_
    exact cw_reti B hf hw dX11_count_75
  · replace hf := cc_if_f hf c1
    by_cases c4 : x1 = 8
    · replace hf := cc_if_t hf c4
      refine rn_tab (n := 8) (tgt := 76) hx hb ix1 c4 dX11_count_27 (by decide) (by decide) rfl (by decide) ?_
      refine cl_aload_n hx hb dX11_count_76 rfl (lv_at hl.1 0 rfl) ?_
      obtain ⟨z5, ez5, iz5, rz5, hf⟩ := cc_g_s hw hf
      refine cw_get (val := cR v z5) B hw rz5 ⟨by decide, by decide⟩ (by decide) cwi_12 cfl_X11_23 ez5 rfl dX11_count_77 ?_
      obtain ⟨z6, ez6, iz6, rz6, hf⟩ := cc_g_s hw hf
      refine cw_get (val := cR v z6) B hw rz6 ⟨by decide, by decide⟩ (by decide) cwi_1 cfl_X11_84 ez6 rfl dX11_count_80 ?_
      obtain ⟨z7, ez7, iz7, rz7, hf⟩ := cc_g_s hw hf
      refine cw_get (val := .int (rI z7)) B hw rz7 ⟨by decide, by decide⟩ (by decide) cwi_6 cfl_X11_88 ez7 rfl dX11_count_83 ?_
      exact cw_reti B hf hw dX11_count_86
    · replace hf := cc_if_f hf c4
      by_cases c8 : x1 = 9
      · replace hf := cc_if_t hf c8
        refine rn_tab (n := 9) (tgt := 87) hx hb ix1 c8 dX11_count_27 (by decide) (by decide) rfl (by decide) ?_
        refine cl_aload_n hx hb dX11_count_87 rfl (lv_at hl.1 0 rfl) ?_
        obtain ⟨z9, ez9, iz9, rz9, hf⟩ := cc_g_s hw hf
        refine cw_get (val := cR v z9) B hw rz9 ⟨by decide, by decide⟩ (by decide) cwi_12 cfl_X11_23 ez9 rfl dX11_count_88 ?_
        obtain ⟨z10, ez10, iz10, rz10, hf⟩ := cc_g_s hw hf
        refine cw_get (val := cR v z10) B hw rz10 ⟨by decide, by decide⟩ (by decide) cwi_1 cfl_X11_109 ez10 rfl dX11_count_91 ?_
        obtain ⟨z11, ez11, iz11, rz11, hf⟩ := cc_g_s hw hf
        refine cw_get (val := .int (rI z11)) B hw rz11 ⟨by decide, by decide⟩ (by decide) cwi_6 cfl_X11_88 ez11 rfl dX11_count_94 ?_
        exact cw_reti B hf hw dX11_count_97
      · replace hf := cc_if_f hf c8
        by_cases c12 : x1 = 10
        · replace hf := cc_if_t hf c12
          refine rn_tab (n := 10) (tgt := 98) hx hb ix1 c12 dX11_count_27 (by decide) (by decide) rfl (by decide) ?_
          refine cl_aload_n hx hb dX11_count_98 rfl (lv_at hl.1 0 rfl) ?_
          obtain ⟨z13, ez13, iz13, rz13, hf⟩ := cc_g_s hw hf
          refine cw_get (val := cR v z13) B hw rz13 ⟨by decide, by decide⟩ (by decide) cwi_12 cfl_X11_23 ez13 rfl dX11_count_99 ?_
          obtain ⟨z14, ez14, iz14, rz14, hf⟩ := cc_g_s hw hf
          refine cw_get (val := .int (rI z14)) B hw rz14 ⟨by decide, by decide⟩ (by decide) cwi_1 cfl_X11_112 ez14 rfl dX11_count_102 ?_
          exact cw_reti B hf hw dX11_count_105
        · replace hf := cc_if_f hf c12
          by_cases c15 : x1 = 11
          · replace hf := cc_if_t hf c15
            refine rn_tab (n := 11) (tgt := 106) hx hb ix1 c15 dX11_count_27 (by decide) (by decide) rfl (by decide) ?_
            refine cl_aload_n hx hb dX11_count_106 rfl (lv_at hl.1 0 rfl) ?_
            obtain ⟨z16, ez16, iz16, rz16, hf⟩ := cc_g_s hw hf
            refine cw_get (val := cR v z16) B hw rz16 ⟨by decide, by decide⟩ (by decide) cwi_12 cfl_X11_23 ez16 rfl dX11_count_107 ?_
            obtain ⟨z17, ez17, iz17, rz17, hf⟩ := cc_g_s hw hf
            refine cw_get (val := .int (rI z17)) B hw rz17 ⟨by decide, by decide⟩ (by decide) cwi_1 cfl_X11_115 ez17 rfl dX11_count_110 ?_
            exact cw_reti B hf hw dX11_count_113
          · replace hf := cc_if_f hf c15
            by_cases c18 : x1 = 12
            · replace hf := cc_if_t hf c18
              refine rn_tab (n := 12) (tgt := 114) hx hb ix1 c18 dX11_count_27 (by decide) (by decide) rfl (by decide) ?_
              refine cl_aload_n hx hb dX11_count_114 rfl (lv_at hl.1 0 rfl) ?_
              obtain ⟨z19, ez19, iz19, rz19, hf⟩ := cc_g_s hw hf
              refine cw_get (val := cR v z19) B hw rz19 ⟨by decide, by decide⟩ (by decide) cwi_12 cfl_X11_23 ez19 rfl dX11_count_115 ?_
              obtain ⟨z20, ez20, iz20, rz20, hf⟩ := cc_g_s hw hf
              refine cw_get (val := .int (rI z20)) B hw rz20 ⟨by decide, by decide⟩ (by decide) cwi_1 cfl_X11_118 ez20 rfl dX11_count_118 ?_
              exact cw_reti B hf hw dX11_count_121
            · replace hf := cc_if_f hf c18
              by_cases c21 : x1 = 13
              · replace hf := cc_if_t hf c21
                refine rn_tab (n := 13) (tgt := 122) hx hb ix1 c21 dX11_count_27 (by decide) (by decide) rfl (by decide) ?_
                refine cl_aload_n hx hb dX11_count_122 rfl (lv_at hl.1 0 rfl) ?_
                obtain ⟨z22, ez22, iz22, rz22, hf⟩ := cc_g_s hw hf
                refine cw_get (val := .int (rI z22)) B hw rz22 ⟨by decide, by decide⟩ (by decide) cwi_12 cfl_X11_54 ez22 rfl dX11_count_123 ?_
                exact cw_reti B hf hw dX11_count_126
              · replace hf := cc_if_f hf c21
                refine rn_tabO (tgt := 127) hx hb ix1 dX11_count_27 (by omega) (by decide) ?_
                obtain ⟨hy, hm⟩ := cc_x_s hf
                obtain ⟨hy1, hy2⟩ := Prod.mk.inj hy
                obtain ⟨hy2, hy3⟩ := Prod.mk.inj hy2
                subst hy2
                refine cw_throw (rest := []) B hnh htr hw (by decide) (by decide +kernel) cxc_X11_81 cxi_3 (cw_hat cxa_X11_83 (by decide +kernel) hts hK.1) (List.all_eq_true.mp cxg_X11_83) hd5 hm hy1 hl.1.1 (Nat.le_of_ble_eq_true rfl) dX11_count_127 dX11_count_130 dX11_count_131 dX11_count_134

set_option maxHeartbeats 4000000 in
set_option maxRecDepth 100000 in
theorem pw_X11_count_0 {v : cwE} {bd : cBd} {p : Program} {l : Launch} {e : Env} {s : State} {m : MethodId} {args : Array Value} {below : List Frame} {meth : Method} {c : Code} {d : Nat} {rec : Nat → CS → List Int → CO} {σ0 σ' : CS} {kd : Nat} {r : Int} (hbd : bd = cw_bd v) (hR : cw_Rec l v d rec) (htr : l.stackTraces = false) (hd5 : 5 ≤ d) (B : cw_B v RX11 p s m args meth c cX11_count 2 (some .int)) (hnh : ∀ x ∈ c.exceptionTable.toList, False) : ∀ (σ : CS) (x0 x1 : Int), inR x0 → inR x1 → pc_X11_count_0 rec bd σ x0 x1 = some (σ', kd, r) → ∀ (H : Heap) (locs : List Loc) (cells slots : Nat) (ls : Array Slot), cw_W v s σ0 σ H locs cells slots → cl_has ls 2 [(0, cR v x0), (1, .int (rI x1))] → W p l e (cw_rm v (d + 1) σ0) s m args below meth c H locs cells slots (cw_Z below v σ0 σ' kd (some (.int (rI r))) args s) (F0 m 0 ls []) := by
  subst hbd
  obtain ⟨hx, hb, hr, hml, hown, hts, hlk, hK⟩ := id B
  intro σ x0 x1 ix0 ix1 hf H locs cells slots ls hw hl
  unfold pc_X11_count_0 at hf
  refine lv_iload_n hx hb dX11_count_0 rfl (lv_at hl.1 1 rfl) ?_
  refine rn_if_lt (a := x1) (tgt := 26) hx hb ix1 dX11_count_1 (by decide) (fun c1 => ?_) (fun c1 => ?_)
  · replace hf := cc_if_t hf c1
    exact pw_X11_count_26 rfl hR htr hd5 B hnh σ x0 x1 ix0 ix1 hf _ _ _ _ _ hw (cl_sub hl [0, 1] rfl)
  · replace hf := cc_if_f hf c1
    refine lv_iload_n hx hb dX11_count_4 rfl (lv_at hl.1 1 rfl) ?_
    refine cl_aload_n hx hb dX11_count_5 rfl (lv_at hl.1 0 rfl) ?_
    obtain ⟨z2, ez2, iz2, rz2, hf⟩ := cc_g_s hw hf
    refine cw_get (val := cR v z2) B hw rz2 ⟨by decide, by decide⟩ (by decide) cwi_12 cfl_X11_32 ez2 rfl dX11_count_6 ?_
    obtain ⟨z3, ez3, iz3, rz3, hf⟩ := cc_g_s hw hf
    refine cw_get (val := cR v z3) B hw rz3 ⟨by decide, by decide⟩ (by decide) cwi_5 cfl_X11_102 ez3 rfl dX11_count_9 ?_
    obtain ⟨z4, ez4, iz4, rz4, hf⟩ := cc_l_s hf
    refine cw_len B hw rz4 (by decide) ez4 iz4 dX11_count_12 ?_
    refine rn_icmp_ge (a := x1) (b := z4) (tgt := 26) hx hb ix1 iz4 dX11_count_13 (by decide) (fun c5 => ?_) (fun c5 => ?_)
    · replace hf := cc_if_t hf c5
      exact pw_X11_count_26 rfl hR htr hd5 B hnh σ x0 x1 ix0 ix1 hf _ _ _ _ _ hw (cl_sub hl [0, 1] rfl)
    · replace hf := cc_if_f hf c5
      refine cl_aload_n hx hb dX11_count_16 rfl (lv_at hl.1 0 rfl) ?_
      obtain ⟨z6, ez6, iz6, rz6, hf⟩ := cc_g_s hw hf
      refine cw_get (val := cR v z6) B hw rz6 ⟨by decide, by decide⟩ (by decide) cwi_12 cfl_X11_32 ez6 rfl dX11_count_17 ?_
      obtain ⟨z7, ez7, iz7, rz7, hf⟩ := cc_g_s hw hf
      refine cw_get (val := cR v z7) B hw rz7 ⟨by decide, by decide⟩ (by decide) cwi_5 cfl_X11_102 ez7 rfl dX11_count_20 ?_
      refine lv_iload_n hx hb dX11_count_23 rfl (lv_at hl.1 1 rfl) ?_
      obtain ⟨z8, ez8, iz8, rz8, bz8, hf⟩ := cc_r_s hw hf
      refine cw_aldI B hw rz8 ix1 bz8 ez8 dX11_count_24 ?_
      exact cw_reti B hf hw dX11_count_25

set_option maxHeartbeats 4000000 in
set_option maxRecDepth 100000 in
theorem pm_X11_count {v : cwE} {bd : cBd} {l : Launch} {d : Nat} {rec : Nat → CS → List Int → CO} (hbd : bd = cw_bd v) (hR : cw_Rec l v d rec) (htr : l.stackTraces = false) (hd5 : 5 ≤ d) (σ σ' : CS) (x0 x1 : Int) (kd : Nat) (r : Int) (ix0 : inR x0) (ix1 : inR x1) (hf : pc_X11_count_0 rec bd σ x0 x1 = some (σ', kd, r)) : cw_Met l v yX11_count cX11_count 2 (some .int) (d + 1) [cR v x0, .int (rI x1)] σ σ' kd (some (.int (rI r))) := by
  refine cw_ofW (by decide +kernel) ?_
  intro p e s m args below meth c s₁ B hml hv
  obtain ⟨rfl, hM, hK⟩ := hv
  have hts := atoms_spec (ws := Cond.code yX11_count cX11_count 2 (some .int) :: cw_bw) B.pre
  have hB : cw_B v RX11 p s m _ meth c cX11_count 2 (some .int) := ⟨B.exec, B.bytes, B.returns, hml, findClass_of_methodNamed B.named, fun w h => hts w (List.mem_cons_of_mem _ h), B.notSynchronized, hK⟩
  have hnh := cc_nh B (hts _ List.mem_cons_self)
  rw [lg_entry_eq]
  obtain ⟨ls, hls, hl⟩ := cl_ent [cR v x0, .int (rI x1)] 2 (cl_1r (cl_1i cl_10)) (Nat.le_of_ble_eq_true rfl)
  rw [hls]
  exact pw_X11_count_0 hbd hR htr hd5 hB hnh σ x0 x1 ix0 ix1 hf _ _ _ _ _ (cw_W0 hM) (cl_sub hl [0, 1] rfl)

set_option maxHeartbeats 4000000 in
set_option maxRecDepth 100000 in
theorem pw_X11_define_0 {v : cwE} {bd : cBd} {p : Program} {l : Launch} {e : Env} {s : State} {m : MethodId} {args : Array Value} {below : List Frame} {meth : Method} {c : Code} {d : Nat} {rec : Nat → CS → List Int → CO} {σ0 σ' : CS} {kd : Nat} {r : Int} (hbd : bd = cw_bd v) (hR : cw_Rec l v d rec) (htr : l.stackTraces = false) (hd5 : 5 ≤ d) (B : cw_B v RX11 p s m args meth c cX11_define 3 none) (hnh : ∀ x ∈ c.exceptionTable.toList, False) : ∀ (σ : CS) (x0 x1 : Int), inR x0 → inR x1 → pc_X11_define_0 rec bd σ x0 x1 = some (σ', kd, r) → ∀ (H : Heap) (locs : List Loc) (cells slots : Nat) (ls : Array Slot), cw_W v s σ0 σ H locs cells slots → cl_has ls 3 [(0, cR v x0), (1, cR v x1)] → W p l e (cw_rm v (d + 1) σ0) s m args below meth c H locs cells slots (cw_Z below v σ0 σ' kd none args s) (F0 m 0 ls []) := by
  subst hbd
  obtain ⟨hx, hb, hr, hml, hown, hts, hlk, hK⟩ := id B
  intro σ x0 x1 ix0 ix1 hf H locs cells slots ls hw hl
  unfold pc_X11_define_0 at hf
  refine cl_aload_n hx hb dX11_define_0 rfl (lv_at hl.1 0 rfl) ?_
  refine cl_aload_n hx hb dX11_define_1 rfl (lv_at hl.1 1 rfl) ?_
  obtain ⟨z1, ez1, iz1, rz1, hf⟩ := cc_g_s hw hf
  refine cw_get (val := cR v z1) B hw rz1 ⟨by decide, by decide⟩ (by decide) cwi_10 cfl_X11_249 ez1 rfl dX11_define_2 ?_
  obtain ⟨qσ2, hf⟩ := cc_t_s hf
  obtain ⟨σ2, kv3, z4, hσ2, hf⟩ := cc_cl_s hf
  obtain ⟨iz4, mσ2⟩ := hR 49 σ [x0, z1] σ2 kv3 z4 hσ2
  have mσ2 : cw_Met l v yX11_needNewName cX11_needNewName 3 none d [cR v x0, cR v z1] σ σ2 kv3 none := mσ2 ix0 iz1
  refine cw_cv (b := x0) (t := 12) (n := 1) (rest := []) (As := [cR v z1]) B mσ2 qσ2 ⟨by decide, by decide⟩ cgo_yX11_needNewName cml_X11_290 cin_yX11_needNewName cse_yX11_needNewName (by decide +kernel) (by decide) rfl hl.1.1 (Nat.le_of_ble_eq_true rfl) dX11_define_5 rfl hw (fun h0 H locs cells slots hw => ?_) (fun h0 H locs cells slots q ce hw h1 h2 h3 => ?_)
  · rcases hf with ⟨-, hf⟩ | ⟨hk, -⟩
    · skip
      refine cl_aload_n hx hb dX11_define_8 rfl (lv_at hl.1 0 rfl) ?_
      obtain ⟨z5, ez5, iz5, rz5, hf⟩ := cc_g_s hw hf
      refine cw_get (val := cR v z5) B hw rz5 ⟨by decide, by decide⟩ (by decide) cwi_12 cfl_X11_50 ez5 rfl dX11_define_9 ?_
      refine cl_aload_n hx hb dX11_define_12 rfl (lv_at hl.1 1 rfl) ?_
      obtain ⟨z6, ez6, iz6, rz6, hf⟩ := cc_g_s hw hf
      refine cw_get (val := cR v z6) B hw rz6 ⟨by decide, by decide⟩ (by decide) cwi_10 cfl_X11_229 ez6 rfl dX11_define_13 ?_
      obtain ⟨qσ7, hf⟩ := cc_t_s hf
      obtain ⟨σ7, kv8, z9, hσ7, hf⟩ := cc_cl_s hf
      obtain ⟨iz9, mσ7⟩ := hR 73 σ2 [z5, z6] σ7 kv8 z9 hσ7
      have mσ7 : cw_Met l v yX2_typeOf cX2_typeOf 2 (some (.object "PureHouse$Node")) d [cR v z5, cR v z6] σ2 σ7 kv8 (some (cR v z9)) := mσ7 iz5 iz6
      refine cw_cv (b := z5) (t := 3) (n := 1) (rest := []) (As := [cR v z6]) B mσ7 qσ7 ⟨by decide, by decide⟩ cgo_yX2_typeOf cml_X11_233 cin_yX2_typeOf cse_yX2_typeOf (by decide +kernel) (by decide) rfl hl.1.1 (Nat.le_of_ble_eq_true rfl) dX11_define_16 rfl hw (fun h0 H locs cells slots hw => ?_) (fun h0 H locs cells slots q ce hw h1 h2 h3 => ?_)
      · rcases hf with ⟨-, hf⟩ | ⟨hk, -⟩
        · skip
          refine cl_astore_n (lv' := [(2, cR v z9), (0, cR v x0), (1, cR v x1)]) hx hb dX11_define_19 rfl hl (by decide) rfl (fun ls hl => ?_)
          refine cl_aload_n hx hb dX11_define_20 rfl (lv_at hl.1 1 rfl) ?_
          obtain ⟨z10, ez10, iz10, rz10, hf⟩ := cc_g_s hw hf
          refine cw_get (val := cR v z10) B hw rz10 ⟨by decide, by decide⟩ (by decide) cwi_12 cfl_X11_23 ez10 rfl dX11_define_21 ?_
          refine cl_aload_n hx hb dX11_define_24 rfl (lv_at hl.1 1 rfl) ?_
          obtain ⟨z11, ez11, iz11, rz11, hf⟩ := cc_g_s hw hf
          refine cw_get (val := cR v z11) B hw rz11 ⟨by decide, by decide⟩ (by decide) cwi_12 cfl_X11_9 ez11 rfl dX11_define_25 ?_
          refine cl_aload_n hx hb dX11_define_28 rfl (lv_at hl.1 2 rfl) ?_
          obtain ⟨z12, ez12, iz12, rz12, hf⟩ := cc_g_s hw hf
          refine cw_get (val := cR v z12) B hw rz12 ⟨by decide, by decide⟩ (by decide) cwi_10 cfl_X11_249 ez12 rfl dX11_define_29 ?_
          refine cl_aload_n hx hb dX11_define_32 rfl (lv_at hl.1 0 rfl) ?_
          refine cl_aload_n hx hb dX11_define_33 rfl (lv_at hl.1 1 rfl) ?_
          obtain ⟨z13, ez13, iz13, rz13, hf⟩ := cc_g_s hw hf
          refine cw_get (val := cR v z13) B hw rz13 ⟨by decide, by decide⟩ (by decide) cwi_12 cfl_X11_50 ez13 rfl dX11_define_34 ?_
          obtain ⟨z14, ez14, iz14, rz14, hf⟩ := cc_g_s hw hf
          refine cw_get (val := .int (rI z14)) B hw rz14 ⟨by decide, by decide⟩ (by decide) cwi_3 cfl_X11_308 ez14 rfl dX11_define_37 ?_
          refine cl_aload_n hx hb dX11_define_40 rfl (lv_at hl.1 2 rfl) ?_
          obtain ⟨z15, ez15, iz15, rz15, hf⟩ := cc_g_s hw hf
          refine cw_get (val := cR v z15) B hw rz15 ⟨by decide, by decide⟩ (by decide) cwi_10 cfl_X11_229 ez15 rfl dX11_define_41 ?_
          obtain ⟨qσ16, hf⟩ := cc_t_s hf
          obtain ⟨σ16, kv17, z18, hσ16, hf⟩ := cc_cl_s hf
          obtain ⟨iz18, mσ16⟩ := hR 16 σ7 [z10, z11, z12, z9, z14, z15] σ16 kv17 z18 hσ16
          have mσ16 : cw_Met l v yX0_addName cX0_addName 7 none d [cR v z10, cR v z11, cR v z12, cR v z9, .int (rI z14), cR v z15] σ7 σ16 kv17 none := mσ16 iz10 iz11 iz12 iz9 iz14 iz15
          refine cw_cv (b := z10) (t := 1) (n := 5) (rest := []) (As := [cR v z11, cR v z12, cR v z9, .int (rI z14), cR v z15]) B mσ16 qσ16 ⟨by decide, by decide⟩ cgo_yX0_addName cml_X11_304 cin_yX0_addName cse_yX0_addName (by decide +kernel) (by decide) rfl hl.1.1 (Nat.le_of_ble_eq_true rfl) dX11_define_44 rfl hw (fun h0 H locs cells slots hw => ?_) (fun h0 H locs cells slots q ce hw h1 h2 h3 => ?_)
          · rcases hf with ⟨-, hf⟩ | ⟨hk, -⟩
            · skip
              exact cw_retv B hf hw dX11_define_47
            · exact absurd h0 hk
          · rcases hf with ⟨hk, -⟩ | ⟨-, hf⟩
            · exact absurd hk h0
            · cases hf
              exact cw_xout B hnh h0 hw h1 h2 h3
        · exact absurd h0 hk
      · rcases hf with ⟨hk, -⟩ | ⟨-, hf⟩
        · exact absurd hk h0
        · cases hf
          exact cw_xout B hnh h0 hw h1 h2 h3
    · exact absurd h0 hk
  · rcases hf with ⟨hk, -⟩ | ⟨-, hf⟩
    · exact absurd hk h0
    · cases hf
      exact cw_xout B hnh h0 hw h1 h2 h3

set_option maxHeartbeats 4000000 in
set_option maxRecDepth 100000 in
theorem pm_X11_define {v : cwE} {bd : cBd} {l : Launch} {d : Nat} {rec : Nat → CS → List Int → CO} (hbd : bd = cw_bd v) (hR : cw_Rec l v d rec) (htr : l.stackTraces = false) (hd5 : 5 ≤ d) (σ σ' : CS) (x0 x1 : Int) (kd : Nat) (r : Int) (ix0 : inR x0) (ix1 : inR x1) (hf : pc_X11_define_0 rec bd σ x0 x1 = some (σ', kd, r)) : cw_Met l v yX11_define cX11_define 3 none (d + 1) [cR v x0, cR v x1] σ σ' kd none := by
  refine cw_ofW (by decide +kernel) ?_
  intro p e s m args below meth c s₁ B hml hv
  obtain ⟨rfl, hM, hK⟩ := hv
  have hts := atoms_spec (ws := Cond.code yX11_define cX11_define 3 none :: cw_bw) B.pre
  have hB : cw_B v RX11 p s m _ meth c cX11_define 3 none := ⟨B.exec, B.bytes, B.returns, hml, findClass_of_methodNamed B.named, fun w h => hts w (List.mem_cons_of_mem _ h), B.notSynchronized, hK⟩
  have hnh := cc_nh B (hts _ List.mem_cons_self)
  rw [lg_entry_eq]
  obtain ⟨ls, hls, hl⟩ := cl_ent [cR v x0, cR v x1] 3 (cl_1r (cl_1r cl_10)) (Nat.le_of_ble_eq_true rfl)
  rw [hls]
  exact pw_X11_define_0 hbd hR htr hd5 hB hnh σ x0 x1 ix0 ix1 hf _ _ _ _ _ (cw_W0 hM) (cl_sub hl [0, 1] rfl)

set_option maxHeartbeats 4000000 in
set_option maxRecDepth 100000 in
theorem pw_X11_fault_0 {v : cwE} {bd : cBd} {p : Program} {l : Launch} {e : Env} {s : State} {m : MethodId} {args : Array Value} {below : List Frame} {meth : Method} {c : Code} {d : Nat} {rec : Nat → CS → List Int → CO} {σ0 σ' : CS} {kd : Nat} {r : Int} (hbd : bd = cw_bd v) (hR : cw_Rec l v d rec) (htr : l.stackTraces = false) (hd5 : 5 ≤ d) (B : cw_B v RX11 p s m args meth c cX11_fault 2 (some .int)) (hnh : ∀ x ∈ c.exceptionTable.toList, False) : ∀ (σ : CS) (x0 x1 : Int), inR x0 → inR x1 → pc_X11_fault_0 rec bd σ x0 x1 = some (σ', kd, r) → ∀ (H : Heap) (locs : List Loc) (cells slots : Nat) (ls : Array Slot), cw_W v s σ0 σ H locs cells slots → cl_has ls 2 [(0, cR v x0), (1, .int (rI x1))] → W p l e (cw_rm v (d + 1) σ0) s m args below meth c H locs cells slots (cw_Z below v σ0 σ' kd (some (.int (rI r))) args s) (F0 m 0 ls []) := by
  subst hbd
  obtain ⟨hx, hb, hr, hml, hown, hts, hlk, hK⟩ := id B
  intro σ x0 x1 ix0 ix1 hf H locs cells slots ls hw hl
  unfold pc_X11_fault_0 at hf
  refine lv_iload_n hx hb dX11_fault_0 rfl (lv_at hl.1 1 rfl) ?_
  by_cases c1 : x1 = 0
  · replace hf := cc_if_t hf c1
    refine rn_tab (n := 0) (tgt := 28) hx hb ix1 c1 dX11_fault_1 (by decide) (by decide) rfl (by decide) ?_
    refine cl_aload_n hx hb dX11_fault_28 rfl (lv_at hl.1 0 rfl) ?_
    obtain ⟨z2, ez2, iz2, rz2, hf⟩ := cc_g_s hw hf
    refine cw_get (val := .int (rI z2)) B hw rz2 ⟨by decide, by decide⟩ (by decide) cwi_12 cfl_X11_58 ez2 rfl dX11_fault_29 ?_
    exact cw_reti B hf hw dX11_fault_32
  · replace hf := cc_if_f hf c1
    by_cases c3 : x1 = 1
    · replace hf := cc_if_t hf c3
      refine rn_tab (n := 1) (tgt := 33) hx hb ix1 c3 dX11_fault_1 (by decide) (by decide) rfl (by decide) ?_
      refine cl_aload_n hx hb dX11_fault_33 rfl (lv_at hl.1 0 rfl) ?_
      obtain ⟨z4, ez4, iz4, rz4, hf⟩ := cc_g_s hw hf
      refine cw_get (val := .int (rI z4)) B hw rz4 ⟨by decide, by decide⟩ (by decide) cwi_12 cfl_X11_61 ez4 rfl dX11_fault_34 ?_
      exact cw_reti B hf hw dX11_fault_37
    · replace hf := cc_if_f hf c3
      by_cases c5 : x1 = 2
      · replace hf := cc_if_t hf c5
        refine rn_tab (n := 2) (tgt := 38) hx hb ix1 c5 dX11_fault_1 (by decide) (by decide) rfl (by decide) ?_
        refine cl_aload_n hx hb dX11_fault_38 rfl (lv_at hl.1 0 rfl) ?_
        obtain ⟨z6, ez6, iz6, rz6, hf⟩ := cc_g_s hw hf
        refine cw_get (val := .int (rI z6)) B hw rz6 ⟨by decide, by decide⟩ (by decide) cwi_12 cfl_X11_64 ez6 rfl dX11_fault_39 ?_
        exact cw_reti B hf hw dX11_fault_42
      · replace hf := cc_if_f hf c5
        refine rn_tabO (tgt := 43) hx hb ix1 dX11_fault_1 (by omega) (by decide) ?_
        obtain ⟨hy, hm⟩ := cc_x_s hf
        obtain ⟨hy1, hy2⟩ := Prod.mk.inj hy
        obtain ⟨hy2, hy3⟩ := Prod.mk.inj hy2
        subst hy2
        refine cw_throw (rest := []) B hnh htr hw (by decide) (by decide +kernel) cxc_X11_81 cxi_3 (cw_hat cxa_X11_83 (by decide +kernel) hts hK.1) (List.all_eq_true.mp cxg_X11_83) hd5 hm hy1 hl.1.1 (Nat.le_of_ble_eq_true rfl) dX11_fault_43 dX11_fault_46 dX11_fault_47 dX11_fault_50

set_option maxHeartbeats 4000000 in
set_option maxRecDepth 100000 in
theorem pm_X11_fault {v : cwE} {bd : cBd} {l : Launch} {d : Nat} {rec : Nat → CS → List Int → CO} (hbd : bd = cw_bd v) (hR : cw_Rec l v d rec) (htr : l.stackTraces = false) (hd5 : 5 ≤ d) (σ σ' : CS) (x0 x1 : Int) (kd : Nat) (r : Int) (ix0 : inR x0) (ix1 : inR x1) (hf : pc_X11_fault_0 rec bd σ x0 x1 = some (σ', kd, r)) : cw_Met l v yX11_fault cX11_fault 2 (some .int) (d + 1) [cR v x0, .int (rI x1)] σ σ' kd (some (.int (rI r))) := by
  refine cw_ofW (by decide +kernel) ?_
  intro p e s m args below meth c s₁ B hml hv
  obtain ⟨rfl, hM, hK⟩ := hv
  have hts := atoms_spec (ws := Cond.code yX11_fault cX11_fault 2 (some .int) :: cw_bw) B.pre
  have hB : cw_B v RX11 p s m _ meth c cX11_fault 2 (some .int) := ⟨B.exec, B.bytes, B.returns, hml, findClass_of_methodNamed B.named, fun w h => hts w (List.mem_cons_of_mem _ h), B.notSynchronized, hK⟩
  have hnh := cc_nh B (hts _ List.mem_cons_self)
  rw [lg_entry_eq]
  obtain ⟨ls, hls, hl⟩ := cl_ent [cR v x0, .int (rI x1)] 2 (cl_1r (cl_1i cl_10)) (Nat.le_of_ble_eq_true rfl)
  rw [hls]
  exact pw_X11_fault_0 hbd hR htr hd5 hB hnh σ x0 x1 ix0 ix1 hf _ _ _ _ _ (cw_W0 hM) (cl_sub hl [0, 1] rfl)

set_option maxHeartbeats 4000000 in
set_option maxRecDepth 100000 in
theorem pw_X11_feed_0 {v : cwE} {bd : cBd} {p : Program} {l : Launch} {e : Env} {s : State} {m : MethodId} {args : Array Value} {below : List Frame} {meth : Method} {c : Code} {d : Nat} {rec : Nat → CS → List Int → CO} {σ0 σ' : CS} {kd : Nat} {r : Int} (hbd : bd = cw_bd v) (hR : cw_Rec l v d rec) (htr : l.stackTraces = false) (hd5 : 5 ≤ d) (B : cw_B v RX11 p s m args meth c cX11_feed 6 (some .int)) (hnh : ∀ x ∈ c.exceptionTable.toList, False) : ∀ (σ : CS) (x0 x1 x2 x3 x4 x5 : Int), inR x0 → inR x1 → inR x2 → inR x3 → inR x4 → inR x5 → pc_X11_feed_0 rec bd σ x0 x1 x2 x3 x4 x5 = some (σ', kd, r) → ∀ (H : Heap) (locs : List Loc) (cells slots : Nat) (ls : Array Slot), cw_W v s σ0 σ H locs cells slots → cl_has ls 6 [(0, cR v x0), (1, .int (rI x1)), (2, .int (rI x2)), (3, .int (rI x3)), (4, .int (rI x4)), (5, .int (rI x5))] → W p l e (cw_rm v (d + 1) σ0) s m args below meth c H locs cells slots (cw_Z below v σ0 σ' kd (some (.int (rI r))) args s) (F0 m 0 ls []) := by
  subst hbd
  obtain ⟨hx, hb, hr, hml, hown, hts, hlk, hK⟩ := id B
  intro σ x0 x1 x2 x3 x4 x5 ix0 ix1 ix2 ix3 ix4 ix5 hf H locs cells slots ls hw hl
  unfold pc_X11_feed_0 at hf
  refine cl_aload_n hx hb dX11_feed_0 rfl (lv_at hl.1 0 rfl) ?_
  obtain ⟨z1, ez1, iz1, rz1, hf⟩ := cc_g_s hw hf
  refine cw_get (val := .int (rI z1)) B hw rz1 ⟨by decide, by decide⟩ (by decide) cwi_12 cfl_X11_54 ez1 rfl dX11_feed_1 ?_
  refine lv_bipush (v := rI 20) hx hb dX11_feed_4 (by decide +kernel) ?_
  obtain ⟨z2, ez2, iz2, hf⟩ := cc_ck_s hf
  refine rn_add hx hb ez2 dX11_feed_6 ?_
  refine lv_sipush (v := rI 4000) hx hb dX11_feed_7 (by decide +kernel) ?_
  refine rn_icmp_le (a := z2) (b := 4000) (tgt := 15) hx hb iz2 ⟨by decide, by decide⟩ dX11_feed_10 (by decide) (fun c3 => ?_) (fun c3 => ?_)
  · replace hf := cc_if_t hf c3
    refine cl_aload_n hx hb dX11_feed_15 rfl (lv_at hl.1 0 rfl) ?_
    refine lv_iload_n hx hb dX11_feed_16 rfl (lv_at hl.1 1 rfl) ?_
    obtain ⟨qσ4, hf⟩ := cc_t_s hf
    obtain ⟨σ4, kv5, z6, hσ4, hf⟩ := cc_cl_s hf
    obtain ⟨iz6, mσ4⟩ := hR 44 σ [x0, x1] σ4 kv5 z6 hσ4
    have mσ4 : cw_Met l v yX11_feedFour cX11_feedFour 3 none d [cR v x0, .int (rI x1)] σ σ4 kv5 none := mσ4 ix0 ix1
    refine cw_cv (b := x0) (t := 12) (n := 1) (rest := []) (As := [.int (rI x1)]) B mσ4 qσ4 ⟨by decide, by decide⟩ cgo_yX11_feedFour cml_X11_71 cin_yX11_feedFour cse_yX11_feedFour (by decide +kernel) (by decide) rfl hl.1.1 (Nat.le_of_ble_eq_true rfl) dX11_feed_17 rfl hw (fun h0 H locs cells slots hw => ?_) (fun h0 H locs cells slots q ce hw h1 h2 h3 => ?_)
    · rcases hf with ⟨-, hf⟩ | ⟨hk, -⟩
      · skip
        refine cl_aload_n hx hb dX11_feed_20 rfl (lv_at hl.1 0 rfl) ?_
        refine lv_iload_n hx hb dX11_feed_21 rfl (lv_at hl.1 2 rfl) ?_
        obtain ⟨qσ7, hf⟩ := cc_t_s hf
        obtain ⟨σ7, kv8, z9, hσ7, hf⟩ := cc_cl_s hf
        obtain ⟨iz9, mσ7⟩ := hR 44 σ4 [x0, x2] σ7 kv8 z9 hσ7
        have mσ7 : cw_Met l v yX11_feedFour cX11_feedFour 3 none d [cR v x0, .int (rI x2)] σ4 σ7 kv8 none := mσ7 ix0 ix2
        refine cw_cv (b := x0) (t := 12) (n := 1) (rest := []) (As := [.int (rI x2)]) B mσ7 qσ7 ⟨by decide, by decide⟩ cgo_yX11_feedFour cml_X11_71 cin_yX11_feedFour cse_yX11_feedFour (by decide +kernel) (by decide) rfl hl.1.1 (Nat.le_of_ble_eq_true rfl) dX11_feed_22 rfl hw (fun h0 H locs cells slots hw => ?_) (fun h0 H locs cells slots q ce hw h1 h2 h3 => ?_)
        · rcases hf with ⟨-, hf⟩ | ⟨hk, -⟩
          · skip
            refine cl_aload_n hx hb dX11_feed_25 rfl (lv_at hl.1 0 rfl) ?_
            refine lv_iload_n hx hb dX11_feed_26 rfl (lv_at hl.1 3 rfl) ?_
            obtain ⟨qσ10, hf⟩ := cc_t_s hf
            obtain ⟨σ10, kv11, z12, hσ10, hf⟩ := cc_cl_s hf
            obtain ⟨iz12, mσ10⟩ := hR 44 σ7 [x0, x3] σ10 kv11 z12 hσ10
            have mσ10 : cw_Met l v yX11_feedFour cX11_feedFour 3 none d [cR v x0, .int (rI x3)] σ7 σ10 kv11 none := mσ10 ix0 ix3
            refine cw_cv (b := x0) (t := 12) (n := 1) (rest := []) (As := [.int (rI x3)]) B mσ10 qσ10 ⟨by decide, by decide⟩ cgo_yX11_feedFour cml_X11_71 cin_yX11_feedFour cse_yX11_feedFour (by decide +kernel) (by decide) rfl hl.1.1 (Nat.le_of_ble_eq_true rfl) dX11_feed_27 rfl hw (fun h0 H locs cells slots hw => ?_) (fun h0 H locs cells slots q ce hw h1 h2 h3 => ?_)
            · rcases hf with ⟨-, hf⟩ | ⟨hk, -⟩
              · skip
                refine cl_aload_n hx hb dX11_feed_30 rfl (lv_at hl.1 0 rfl) ?_
                refine lv_iload hx hb dX11_feed_31 (lv_at hl.1 4 rfl) ?_
                obtain ⟨qσ13, hf⟩ := cc_t_s hf
                obtain ⟨σ13, kv14, z15, hσ13, hf⟩ := cc_cl_s hf
                obtain ⟨iz15, mσ13⟩ := hR 44 σ10 [x0, x4] σ13 kv14 z15 hσ13
                have mσ13 : cw_Met l v yX11_feedFour cX11_feedFour 3 none d [cR v x0, .int (rI x4)] σ10 σ13 kv14 none := mσ13 ix0 ix4
                refine cw_cv (b := x0) (t := 12) (n := 1) (rest := []) (As := [.int (rI x4)]) B mσ13 qσ13 ⟨by decide, by decide⟩ cgo_yX11_feedFour cml_X11_71 cin_yX11_feedFour cse_yX11_feedFour (by decide +kernel) (by decide) rfl hl.1.1 (Nat.le_of_ble_eq_true rfl) dX11_feed_33 rfl hw (fun h0 H locs cells slots hw => ?_) (fun h0 H locs cells slots q ce hw h1 h2 h3 => ?_)
                · rcases hf with ⟨-, hf⟩ | ⟨hk, -⟩
                  · skip
                    refine cl_aload_n hx hb dX11_feed_36 rfl (lv_at hl.1 0 rfl) ?_
                    refine lv_iload hx hb dX11_feed_37 (lv_at hl.1 5 rfl) ?_
                    obtain ⟨qσ16, hf⟩ := cc_t_s hf
                    obtain ⟨σ16, kv17, z18, hσ16, hf⟩ := cc_cl_s hf
                    obtain ⟨iz18, mσ16⟩ := hR 44 σ13 [x0, x5] σ16 kv17 z18 hσ16
                    have mσ16 : cw_Met l v yX11_feedFour cX11_feedFour 3 none d [cR v x0, .int (rI x5)] σ13 σ16 kv17 none := mσ16 ix0 ix5
                    refine cw_cv (b := x0) (t := 12) (n := 1) (rest := []) (As := [.int (rI x5)]) B mσ16 qσ16 ⟨by decide, by decide⟩ cgo_yX11_feedFour cml_X11_71 cin_yX11_feedFour cse_yX11_feedFour (by decide +kernel) (by decide) rfl hl.1.1 (Nat.le_of_ble_eq_true rfl) dX11_feed_39 rfl hw (fun h0 H locs cells slots hw => ?_) (fun h0 H locs cells slots q ce hw h1 h2 h3 => ?_)
                    · rcases hf with ⟨-, hf⟩ | ⟨hk, -⟩
                      · skip
                        refine cl_aload_n hx hb dX11_feed_42 rfl (lv_at hl.1 0 rfl) ?_
                        obtain ⟨z19, ez19, iz19, rz19, hf⟩ := cc_g_s hw hf
                        refine cw_get (val := .int (rI z19)) B hw rz19 ⟨by decide, by decide⟩ (by decide) cwi_12 cfl_X11_54 ez19 rfl dX11_feed_43 ?_
                        exact cw_reti B hf hw dX11_feed_46
                      · exact absurd h0 hk
                    · rcases hf with ⟨hk, -⟩ | ⟨-, hf⟩
                      · exact absurd hk h0
                      · cases hf
                        exact cw_xout B hnh h0 hw h1 h2 h3
                  · exact absurd h0 hk
                · rcases hf with ⟨hk, -⟩ | ⟨-, hf⟩
                  · exact absurd hk h0
                  · cases hf
                    exact cw_xout B hnh h0 hw h1 h2 h3
              · exact absurd h0 hk
            · rcases hf with ⟨hk, -⟩ | ⟨-, hf⟩
              · exact absurd hk h0
              · cases hf
                exact cw_xout B hnh h0 hw h1 h2 h3
          · exact absurd h0 hk
        · rcases hf with ⟨hk, -⟩ | ⟨-, hf⟩
          · exact absurd hk h0
          · cases hf
            exact cw_xout B hnh h0 hw h1 h2 h3
      · exact absurd h0 hk
    · rcases hf with ⟨hk, -⟩ | ⟨-, hf⟩
      · exact absurd hk h0
      · cases hf
        exact cw_xout B hnh h0 hw h1 h2 h3
  · replace hf := cc_if_f hf c3
    refine lv_iconst (v := rI (-1)) hx hb dX11_feed_13 rfl ?_
    exact cw_reti B hf hw dX11_feed_14

set_option maxHeartbeats 4000000 in
set_option maxRecDepth 100000 in
theorem pm_X11_feed {v : cwE} {bd : cBd} {l : Launch} {d : Nat} {rec : Nat → CS → List Int → CO} (hbd : bd = cw_bd v) (hR : cw_Rec l v d rec) (htr : l.stackTraces = false) (hd5 : 5 ≤ d) (σ σ' : CS) (x0 x1 x2 x3 x4 x5 : Int) (kd : Nat) (r : Int) (ix0 : inR x0) (ix1 : inR x1) (ix2 : inR x2) (ix3 : inR x3) (ix4 : inR x4) (ix5 : inR x5) (hf : pc_X11_feed_0 rec bd σ x0 x1 x2 x3 x4 x5 = some (σ', kd, r)) : cw_Met l v yX11_feed cX11_feed 6 (some .int) (d + 1) [cR v x0, .int (rI x1), .int (rI x2), .int (rI x3), .int (rI x4), .int (rI x5)] σ σ' kd (some (.int (rI r))) := by
  refine cw_ofW (by decide +kernel) ?_
  intro p e s m args below meth c s₁ B hml hv
  obtain ⟨rfl, hM, hK⟩ := hv
  have hts := atoms_spec (ws := Cond.code yX11_feed cX11_feed 6 (some .int) :: cw_bw) B.pre
  have hB : cw_B v RX11 p s m _ meth c cX11_feed 6 (some .int) := ⟨B.exec, B.bytes, B.returns, hml, findClass_of_methodNamed B.named, fun w h => hts w (List.mem_cons_of_mem _ h), B.notSynchronized, hK⟩
  have hnh := cc_nh B (hts _ List.mem_cons_self)
  rw [lg_entry_eq]
  obtain ⟨ls, hls, hl⟩ := cl_ent [cR v x0, .int (rI x1), .int (rI x2), .int (rI x3), .int (rI x4), .int (rI x5)] 6 (cl_1r (cl_1i (cl_1i (cl_1i (cl_1i (cl_1i cl_10)))))) (Nat.le_of_ble_eq_true rfl)
  rw [hls]
  exact pw_X11_feed_0 hbd hR htr hd5 hB hnh σ x0 x1 x2 x3 x4 x5 ix0 ix1 ix2 ix3 ix4 ix5 hf _ _ _ _ _ (cw_W0 hM) (cl_sub hl [0, 1, 2, 3, 4, 5] rfl)

set_option maxHeartbeats 4000000 in
set_option maxRecDepth 100000 in
theorem pw_X11_feedFour_3 {v : cwE} {bd : cBd} {p : Program} {l : Launch} {e : Env} {s : State} {m : MethodId} {args : Array Value} {below : List Frame} {meth : Method} {c : Code} {d : Nat} {rec : Nat → CS → List Int → CO} {σ0 σ' : CS} {kd : Nat} {r : Int} (hbd : bd = cw_bd v) (hR : cw_Rec l v d rec) (htr : l.stackTraces = false) (hd5 : 5 ≤ d) (B : cw_B v RX11 p s m args meth c cX11_feedFour 3 none) (hnh : ∀ x ∈ c.exceptionTable.toList, False) : ∀ (n : Nat) (σ : CS) (x0 x1 x2 : Int), inR x0 → inR x1 → inR x2 → pc_X11_feedFour_3 rec bd n σ x0 x1 x2 = some (σ', kd, r) → ∀ (H : Heap) (locs : List Loc) (cells slots : Nat) (ls : Array Slot), cw_W v s σ0 σ H locs cells slots → cl_has ls 3 [(0, cR v x0), (1, .int (rI x1)), (2, .int (rI x2))] → W p l e (cw_rm v (d + 1) σ0) s m args below meth c H locs cells slots (cw_Z below v σ0 σ' kd none args s) (F0 m 3 ls []) := by
  subst hbd
  obtain ⟨hx, hb, hr, hml, hown, hts, hlk, hK⟩ := id B
  intro n
  induction n with
  | zero => intro σ x0 x1 x2 ix0 ix1 ix2 hf; cases hf
  | succ n ih =>
    intro σ x0 x1 x2 ix0 ix1 ix2 hf H locs cells slots ls hw hl
    unfold pc_X11_feedFour_3 at hf
    refine lv_iload_n hx hb dX11_feedFour_3 rfl (lv_at hl.1 2 rfl) ?_
    refine rn_if_lt (a := x2) (tgt := 46) hx hb ix2 dX11_feedFour_4 (by decide) (fun c1 => ?_) (fun c1 => ?_)
    · replace hf := cc_if_t hf c1
      exact cw_retv B hf hw dX11_feedFour_46
    · replace hf := cc_if_f hf c1
      refine cl_aload_n hx hb dX11_feedFour_7 rfl (lv_at hl.1 0 rfl) ?_
      obtain ⟨z2, ez2, iz2, rz2, hf⟩ := cc_g_s hw hf
      refine cw_get (val := .int (rI z2)) B hw rz2 ⟨by decide, by decide⟩ (by decide) cwi_12 cfl_X11_54 ez2 rfl dX11_feedFour_8 ?_
      refine lv_sipush (v := rI 4000) hx hb dX11_feedFour_11 (by decide +kernel) ?_
      refine rn_icmp_ge (a := z2) (b := 4000) (tgt := 46) hx hb iz2 ⟨by decide, by decide⟩ dX11_feedFour_14 (by decide) (fun c3 => ?_) (fun c3 => ?_)
      · replace hf := cc_if_t hf c3
        exact cw_retv B hf hw dX11_feedFour_46
      · replace hf := cc_if_f hf c3
        refine cl_aload_n hx hb dX11_feedFour_17 rfl (lv_at hl.1 0 rfl) ?_
        obtain ⟨z4, ez4, iz4, rz4, hf⟩ := cc_g_s hw hf
        refine cw_get (val := cR v z4) B hw rz4 ⟨by decide, by decide⟩ (by decide) cwi_12 cfl_X11_9 ez4 rfl dX11_feedFour_18 ?_
        refine cl_aload_n hx hb dX11_feedFour_21 rfl (lv_at hl.1 0 rfl) ?_
        obtain ⟨z5, ez5, iz5, rz5, hf⟩ := cc_g_s hw hf
        refine cw_get (val := .int (rI z5)) B hw rz5 ⟨by decide, by decide⟩ (by decide) cwi_12 cfl_X11_54 ez5 rfl dX11_feedFour_22 ?_
        refine lv_iload_n hx hb dX11_feedFour_25 rfl (lv_at hl.1 1 rfl) ?_
        refine lv_iload_n hx hb dX11_feedFour_26 rfl (lv_at hl.1 2 rfl) ?_
        obtain ⟨z6, ez6, iz6, hf⟩ := cc_nm_s hf
        refine lv_ishr hx hb dX11_feedFour_27 ?_
        refine rn_top ez6 ?_
        obtain ⟨z7, ez7, iz7, hf⟩ := cc_nm_s hf
        refine lv_i2b hx hb dX11_feedFour_28 rfl ?_
        refine rn_top ez7 ?_
        obtain ⟨σ8, eσ8, rσ8, bσ8, hf⟩ := cc_w_s hf
        refine cw_astB B hw rσ8 iz5 bσ8 eσ8 dX11_feedFour_29 (fun H locs hw => ?_)
        refine cl_aload_n hx hb dX11_feedFour_30 rfl (lv_at hl.1 0 rfl) ?_
        refine lv_dup hx hb dX11_feedFour_31 (cR_cat _) ?_
        obtain ⟨z9, ez9, iz9, rz9, hf⟩ := cc_g_s hw hf
        refine cw_get (val := .int (rI z9)) B hw rz9 ⟨by decide, by decide⟩ (by decide) cwi_12 cfl_X11_54 ez9 rfl dX11_feedFour_32 ?_
        refine lv_iconst (v := rI 1) hx hb dX11_feedFour_35 rfl ?_
        obtain ⟨z10, ez10, iz10, hf⟩ := cc_ck_s hf
        refine rn_add hx hb ez10 dX11_feedFour_36 ?_
        obtain ⟨σ11, eσ11, rσ11, hf⟩ := cc_p_s hf
        refine cw_put B hw rσ11 cwt_12 (by decide) rfl cfl_X11_54 iz10 eσ11 rfl (cw_fv_n rfl rfl) dX11_feedFour_37 (fun H locs hw => ?_)
        obtain ⟨z12, ez12, iz12, hf⟩ := cc_ck_s hf
        refine cl_iinc (v := rI z12) (lv' := [(2, .int (rI z12)), (0, cR v x0), (1, .int (rI x1))]) hx hb dX11_feedFour_40 hl (k := 2) rfl (by rw [ez12]; exact rI_add _ _) (by decide) rfl (fun ls hl => ?_)
        refine lv_goto (tgt := 3) hx hb dX11_feedFour_43 (by decide) ?_
        exact ih σ11 x0 x1 z12 ix0 ix1 iz12 hf _ _ _ _ _ hw (cl_sub hl [1, 2, 0] rfl)

set_option maxHeartbeats 4000000 in
set_option maxRecDepth 100000 in
theorem pw_X11_feedFour_0 {v : cwE} {bd : cBd} {p : Program} {l : Launch} {e : Env} {s : State} {m : MethodId} {args : Array Value} {below : List Frame} {meth : Method} {c : Code} {d : Nat} {rec : Nat → CS → List Int → CO} {σ0 σ' : CS} {kd : Nat} {r : Int} (hbd : bd = cw_bd v) (hR : cw_Rec l v d rec) (htr : l.stackTraces = false) (hd5 : 5 ≤ d) (B : cw_B v RX11 p s m args meth c cX11_feedFour 3 none) (hnh : ∀ x ∈ c.exceptionTable.toList, False) : ∀ (σ : CS) (x0 x1 : Int), inR x0 → inR x1 → pc_X11_feedFour_0 rec bd σ x0 x1 = some (σ', kd, r) → ∀ (H : Heap) (locs : List Loc) (cells slots : Nat) (ls : Array Slot), cw_W v s σ0 σ H locs cells slots → cl_has ls 3 [(0, cR v x0), (1, .int (rI x1))] → W p l e (cw_rm v (d + 1) σ0) s m args below meth c H locs cells slots (cw_Z below v σ0 σ' kd none args s) (F0 m 0 ls []) := by
  subst hbd
  obtain ⟨hx, hb, hr, hml, hown, hts, hlk, hK⟩ := id B
  intro σ x0 x1 ix0 ix1 hf H locs cells slots ls hw hl
  unfold pc_X11_feedFour_0 at hf
  refine lv_bipush (v := rI 24) hx hb dX11_feedFour_0 (by decide +kernel) ?_
  refine cl_istore_n (lv' := [(2, .int (rI 24)), (0, cR v x0), (1, .int (rI x1))]) hx hb dX11_feedFour_2 rfl hl (by decide) rfl (fun ls hl => ?_)
  exact pw_X11_feedFour_3 rfl hR htr hd5 B hnh 2000000 σ x0 x1 24 ix0 ix1 ⟨by decide, by decide⟩ hf _ _ _ _ _ hw (cl_sub hl [1, 2, 0] rfl)

set_option maxHeartbeats 4000000 in
set_option maxRecDepth 100000 in
theorem pm_X11_feedFour {v : cwE} {bd : cBd} {l : Launch} {d : Nat} {rec : Nat → CS → List Int → CO} (hbd : bd = cw_bd v) (hR : cw_Rec l v d rec) (htr : l.stackTraces = false) (hd5 : 5 ≤ d) (σ σ' : CS) (x0 x1 : Int) (kd : Nat) (r : Int) (ix0 : inR x0) (ix1 : inR x1) (hf : pc_X11_feedFour_0 rec bd σ x0 x1 = some (σ', kd, r)) : cw_Met l v yX11_feedFour cX11_feedFour 3 none (d + 1) [cR v x0, .int (rI x1)] σ σ' kd none := by
  refine cw_ofW (by decide +kernel) ?_
  intro p e s m args below meth c s₁ B hml hv
  obtain ⟨rfl, hM, hK⟩ := hv
  have hts := atoms_spec (ws := Cond.code yX11_feedFour cX11_feedFour 3 none :: cw_bw) B.pre
  have hB : cw_B v RX11 p s m _ meth c cX11_feedFour 3 none := ⟨B.exec, B.bytes, B.returns, hml, findClass_of_methodNamed B.named, fun w h => hts w (List.mem_cons_of_mem _ h), B.notSynchronized, hK⟩
  have hnh := cc_nh B (hts _ List.mem_cons_self)
  rw [lg_entry_eq]
  obtain ⟨ls, hls, hl⟩ := cl_ent [cR v x0, .int (rI x1)] 3 (cl_1r (cl_1i cl_10)) (Nat.le_of_ble_eq_true rfl)
  rw [hls]
  exact pw_X11_feedFour_0 hbd hR htr hd5 hB hnh σ x0 x1 ix0 ix1 hf _ _ _ _ _ (cw_W0 hM) (cl_sub hl [0, 1] rfl)

set_option maxHeartbeats 4000000 in
set_option maxRecDepth 100000 in
theorem pw_X11_init_0 {v : cwE} {bd : cBd} {p : Program} {l : Launch} {e : Env} {s : State} {m : MethodId} {args : Array Value} {below : List Frame} {meth : Method} {c : Code} {d : Nat} {rec : Nat → CS → List Int → CO} {σ0 σ' : CS} {kd : Nat} {r : Int} (hbd : bd = cw_bd v) (hR : cw_Rec l v d rec) (htr : l.stackTraces = false) (hd5 : 5 ≤ d) (B : cw_B v RX11 p s m args meth c cX11_init 1 none) (hin : meth.name = "<init>") (hnh : ∀ x ∈ c.exceptionTable.toList, False) : ∀ (σ : CS) (x0 : Int), inR x0 → pc_X11_init_0 rec bd σ x0 = some (σ', kd, r) → ∀ (H : Heap) (locs : List Loc) (cells slots : Nat) (ls : Array Slot), cw_W v s σ0 σ H locs cells slots → cl_has ls 1 [(0, cR v x0)] → W p l e (cw_rm v (d + 1) σ0) s m args below meth c H locs cells slots (cw_Z below v σ0 σ' kd none args s) (F0 m 0 ls []) := by
  subst hbd
  obtain ⟨hx, hb, hr, hml, hown, hts, hlk, hK⟩ := id B
  intro σ x0 ix0 hf H locs cells slots ls hw hl
  unfold pc_X11_init_0 at hf
  refine cl_aload_n hx hb dX11_init_0 rfl (lv_at hl.1 0 rfl) ?_
  obtain ⟨q0, hf⟩ := cc_t_s hf
  rw [cR_r q0.1]
  refine W.objInit hx hb hown (hts _ coi_X11_1) (hts _ coi2) (hts _ coi3) rfl (hl.1.1.trans hml.symm) rfl dX11_init_1 (by show 1 ≤ d + 1; omega) (by show _ + 12 ≤ 100 * (d + 1); simp [JFrame.monitorRoom]; omega) ?_
  refine cl_aload_n hx hb dX11_init_4 rfl (lv_at hl.1 0 rfl) ?_
  refine lv_sipush (v := rI 4000) hx hb dX11_init_5 (by decide +kernel) ?_
  obtain ⟨σ1, z2, eσ1, ez2, iz2, qσ1, rσ1, hf⟩ := cc_na_s hf
  refine cw_newa (t := 20) B hw (Or.inl ⟨rfl, rfl⟩) cac_byte ⟨by decide, by decide⟩ qσ1.1 qσ1.2 rσ1 eσ1 ez2 dX11_init_8 (fun H hw => ?_)
  obtain ⟨σ3, eσ3, rσ3, hf⟩ := cc_p_s hf
  refine cw_putF B hin hw rσ3 cwt_12 (by decide) rfl rfl rfl cfl_X11_9 iz2 eσ3 rfl (cw_fv_r rfl (Or.inr ⟨_, rfl⟩)) dX11_init_10 (fun H locs hw => ?_)
  refine cl_aload_n hx hb dX11_init_13 rfl (lv_at hl.1 0 rfl) ?_
  obtain ⟨σ4, z5, eσ4, ez5, iz5, rσ4, hf⟩ := cc_n_s hf
  refine cw_new B hw cwt_11 rfl cwd_11 cnl_X11_13 cni_11 cnz_11 rσ4 eσ4 ez5 dX11_init_14 (fun H hw => ?_)
  refine lv_dup hx hb dX11_init_17 (cR_cat _) ?_
  obtain ⟨qσ6, hf⟩ := cc_t_s hf
  obtain ⟨σ6, z8, hσ6, hf⟩ := cc_ci_s hf
  obtain ⟨iz8, mσ6⟩ := hR 29 σ4 [z5] σ6 0 z8 hσ6
  have mσ6 : cw_Met l v yX10_init cX10_init 1 none d [cR v z5] σ4 σ6 0 none := mσ6 iz5
  refine cw_ciN (b := z5) (n := 0) (rest := [cR v z5, cR v x0]) (As := []) B mσ6 qσ6.1 rfl cgo_yX10_init (cw_nst_15 B.2.2.2.2.2.2.2) cin_yX10_init (by decide +kernel) (by decide) rfl hl.1.1 (cl_cs (cl_1r (cl_1r cl_10)) (Nat.le_of_ble_eq_true rfl)) dX11_init_18 rfl hw (fun H locs cells slots hw => ?_)
  obtain ⟨σ9, eσ9, rσ9, hf⟩ := cc_p_s hf
  refine cw_putF B hin hw rσ9 cwt_12 (by decide) rfl rfl rfl cfl_X11_16 iz5 eσ9 rfl (cw_fv_r rfl (Or.inl ⟨_, rfl⟩)) dX11_init_21 (fun H locs hw => ?_)
  refine cl_aload_n hx hb dX11_init_24 rfl (lv_at hl.1 0 rfl) ?_
  obtain ⟨σ10, z11, eσ10, ez11, iz11, rσ10, hf⟩ := cc_n_s hf
  refine cw_new B hw cwt_1 rfl cwd_1 cnl_X11_20 cni_1 cnz_1 rσ10 eσ10 ez11 dX11_init_25 (fun H hw => ?_)
  refine lv_dup hx hb dX11_init_28 (cR_cat _) ?_
  obtain ⟨qσ12, hf⟩ := cc_t_s hf
  obtain ⟨σ12, z14, hσ12, hf⟩ := cc_ci_s hf
  obtain ⟨iz14, mσ12⟩ := hR 19 σ10 [z11] σ12 0 z14 hσ12
  have mσ12 : cw_Met l v yX0_init cX0_init 1 none d [cR v z11] σ10 σ12 0 none := mσ12 iz11
  refine cw_ciN (b := z11) (n := 0) (rest := [cR v z11, cR v x0]) (As := []) B mσ12 qσ12.1 rfl cgo_yX0_init (cw_nst_22 B.2.2.2.2.2.2.2) cin_yX0_init (by decide +kernel) (by decide) rfl hl.1.1 (cl_cs (cl_1r (cl_1r cl_10)) (Nat.le_of_ble_eq_true rfl)) dX11_init_29 rfl hw (fun H locs cells slots hw => ?_)
  obtain ⟨σ15, eσ15, rσ15, hf⟩ := cc_p_s hf
  refine cw_putF B hin hw rσ15 cwt_12 (by decide) rfl rfl rfl cfl_X11_23 iz11 eσ15 rfl (cw_fv_r rfl (Or.inl ⟨_, rfl⟩)) dX11_init_32 (fun H locs hw => ?_)
  refine cl_aload_n hx hb dX11_init_35 rfl (lv_at hl.1 0 rfl) ?_
  obtain ⟨σ16, z17, eσ16, ez17, iz17, rσ16, hf⟩ := cc_n_s hf
  refine cw_new B hw cwt_5 rfl cwd_5 cnl_X11_27 cni_5 cnz_5 rσ16 eσ16 ez17 dX11_init_36 (fun H hw => ?_)
  refine lv_dup hx hb dX11_init_39 (cR_cat _) ?_
  refine cl_aload_n hx hb dX11_init_40 rfl (lv_at hl.1 0 rfl) ?_
  obtain ⟨z18, ez18, iz18, rz18, hf⟩ := cc_g_s hw hf
  refine cw_get (val := cR v z18) B hw rz18 ⟨by decide, by decide⟩ (by decide) cwi_12 cfl_X11_23 ez18 rfl dX11_init_41 ?_
  refine cl_aload_n hx hb dX11_init_44 rfl (lv_at hl.1 0 rfl) ?_
  obtain ⟨z19, ez19, iz19, rz19, hf⟩ := cc_g_s hw hf
  refine cw_get (val := cR v z19) B hw rz19 ⟨by decide, by decide⟩ (by decide) cwi_12 cfl_X11_16 ez19 rfl dX11_init_45 ?_
  obtain ⟨qσ20, hf⟩ := cc_t_s hf
  obtain ⟨σ20, z22, hσ20, hf⟩ := cc_ci_s hf
  obtain ⟨iz22, mσ20⟩ := hR 84 σ16 [z17, z18, z19] σ20 0 z22 hσ20
  have mσ20 : cw_Met l v yX4_init cX4_init 3 none d [cR v z17, cR v z18, cR v z19] σ16 σ20 0 none := mσ20 iz17 iz18 iz19
  refine cw_ci (b := z17) (n := 2) (rest := [cR v z17, cR v x0]) (As := [cR v z18, cR v z19]) B mσ20 qσ20.1 rfl cgo_yX4_init cml_X11_29 cin_yX4_init (by decide +kernel) (by decide) rfl hl.1.1 (cl_cs (cl_1r (cl_1r cl_10)) (Nat.le_of_ble_eq_true rfl)) dX11_init_48 rfl hw (fun H locs cells slots hw => ?_)
  obtain ⟨σ23, eσ23, rσ23, hf⟩ := cc_p_s hf
  refine cw_putF B hin hw rσ23 cwt_12 (by decide) rfl rfl rfl cfl_X11_32 iz17 eσ23 rfl (cw_fv_r rfl (Or.inl ⟨_, rfl⟩)) dX11_init_51 (fun H locs hw => ?_)
  refine cl_aload_n hx hb dX11_init_54 rfl (lv_at hl.1 0 rfl) ?_
  obtain ⟨σ24, z25, eσ24, ez25, iz25, rσ24, hf⟩ := cc_n_s hf
  refine cw_new B hw cwt_8 rfl cwd_8 cnl_X11_36 cni_8 cnz_8 rσ24 eσ24 ez25 dX11_init_55 (fun H hw => ?_)
  refine lv_dup hx hb dX11_init_58 (cR_cat _) ?_
  refine cl_aload_n hx hb dX11_init_59 rfl (lv_at hl.1 0 rfl) ?_
  obtain ⟨z26, ez26, iz26, rz26, hf⟩ := cc_g_s hw hf
  refine cw_get (val := cR v z26) B hw rz26 ⟨by decide, by decide⟩ (by decide) cwi_12 cfl_X11_9 ez26 rfl dX11_init_60 ?_
  refine cl_aload_n hx hb dX11_init_63 rfl (lv_at hl.1 0 rfl) ?_
  obtain ⟨z27, ez27, iz27, rz27, hf⟩ := cc_g_s hw hf
  refine cw_get (val := cR v z27) B hw rz27 ⟨by decide, by decide⟩ (by decide) cwi_12 cfl_X11_16 ez27 rfl dX11_init_64 ?_
  obtain ⟨qσ28, hf⟩ := cc_t_s hf
  obtain ⟨σ28, z30, hσ28, hf⟩ := cc_ci_s hf
  obtain ⟨iz30, mσ28⟩ := hR 117 σ24 [z25, z26, z27] σ28 0 z30 hσ28
  have mσ28 : cw_Met l v yX7_init cX7_init 3 none d [cR v z25, cR v z26, cR v z27] σ24 σ28 0 none := mσ28 iz25 iz26 iz27
  refine cw_ci (b := z25) (n := 2) (rest := [cR v z25, cR v x0]) (As := [cR v z26, cR v z27]) B mσ28 qσ28.1 rfl cgo_yX7_init cml_X11_38 cin_yX7_init (by decide +kernel) (by decide) rfl hl.1.1 (cl_cs (cl_1r (cl_1r cl_10)) (Nat.le_of_ble_eq_true rfl)) dX11_init_67 rfl hw (fun H locs cells slots hw => ?_)
  obtain ⟨σ31, eσ31, rσ31, hf⟩ := cc_p_s hf
  refine cw_putF B hin hw rσ31 cwt_12 (by decide) rfl rfl rfl cfl_X11_41 iz25 eσ31 rfl (cw_fv_r rfl (Or.inl ⟨_, rfl⟩)) dX11_init_70 (fun H locs hw => ?_)
  refine cl_aload_n hx hb dX11_init_73 rfl (lv_at hl.1 0 rfl) ?_
  obtain ⟨σ32, z33, eσ32, ez33, iz33, rσ32, hf⟩ := cc_n_s hf
  refine cw_new B hw cwt_3 rfl cwd_3 cnl_X11_45 cni_3 cnz_3 rσ32 eσ32 ez33 dX11_init_74 (fun H hw => ?_)
  refine lv_dup hx hb dX11_init_77 (cR_cat _) ?_
  refine cl_aload_n hx hb dX11_init_78 rfl (lv_at hl.1 0 rfl) ?_
  obtain ⟨z34, ez34, iz34, rz34, hf⟩ := cc_g_s hw hf
  refine cw_get (val := cR v z34) B hw rz34 ⟨by decide, by decide⟩ (by decide) cwi_12 cfl_X11_9 ez34 rfl dX11_init_79 ?_
  refine cl_aload_n hx hb dX11_init_82 rfl (lv_at hl.1 0 rfl) ?_
  obtain ⟨z35, ez35, iz35, rz35, hf⟩ := cc_g_s hw hf
  refine cw_get (val := cR v z35) B hw rz35 ⟨by decide, by decide⟩ (by decide) cwi_12 cfl_X11_23 ez35 rfl dX11_init_83 ?_
  refine cl_aload_n hx hb dX11_init_86 rfl (lv_at hl.1 0 rfl) ?_
  obtain ⟨z36, ez36, iz36, rz36, hf⟩ := cc_g_s hw hf
  refine cw_get (val := cR v z36) B hw rz36 ⟨by decide, by decide⟩ (by decide) cwi_12 cfl_X11_32 ez36 rfl dX11_init_87 ?_
  refine cl_aload_n hx hb dX11_init_90 rfl (lv_at hl.1 0 rfl) ?_
  obtain ⟨z37, ez37, iz37, rz37, hf⟩ := cc_g_s hw hf
  refine cw_get (val := cR v z37) B hw rz37 ⟨by decide, by decide⟩ (by decide) cwi_12 cfl_X11_16 ez37 rfl dX11_init_91 ?_
  obtain ⟨qσ38, hf⟩ := cc_t_s hf
  obtain ⟨σ38, z40, hσ38, hf⟩ := cc_ci_s hf
  obtain ⟨iz40, mσ38⟩ := hR 64 σ32 [z33, z34, z35, z36, z37] σ38 0 z40 hσ38
  have mσ38 : cw_Met l v yX2_init cX2_init 5 none d [cR v z33, cR v z34, cR v z35, cR v z36, cR v z37] σ32 σ38 0 none := mσ38 iz33 iz34 iz35 iz36 iz37
  refine cw_ci (b := z33) (n := 4) (rest := [cR v z33, cR v x0]) (As := [cR v z34, cR v z35, cR v z36, cR v z37]) B mσ38 qσ38.1 rfl cgo_yX2_init cml_X11_47 cin_yX2_init (by decide +kernel) (by decide) rfl hl.1.1 (cl_cs (cl_1r (cl_1r cl_10)) (Nat.le_of_ble_eq_true rfl)) dX11_init_94 rfl hw (fun H locs cells slots hw => ?_)
  obtain ⟨σ41, eσ41, rσ41, hf⟩ := cc_p_s hf
  refine cw_putF B hin hw rσ41 cwt_12 (by decide) rfl rfl rfl cfl_X11_50 iz33 eσ41 rfl (cw_fv_r rfl (Or.inl ⟨_, rfl⟩)) dX11_init_97 (fun H locs hw => ?_)
  refine cl_aload_n hx hb dX11_init_100 rfl (lv_at hl.1 0 rfl) ?_
  refine lv_iconst (v := rI 0) hx hb dX11_init_101 rfl ?_
  obtain ⟨σ42, eσ42, rσ42, hf⟩ := cc_p_s hf
  refine cw_put B hw rσ42 cwt_12 (by decide) rfl cfl_X11_54 ⟨by decide, by decide⟩ eσ42 rfl (cw_fv_n rfl rfl) dX11_init_102 (fun H locs hw => ?_)
  refine cl_aload_n hx hb dX11_init_105 rfl (lv_at hl.1 0 rfl) ?_
  refine lv_iconst (v := rI 0) hx hb dX11_init_106 rfl ?_
  obtain ⟨σ43, eσ43, rσ43, hf⟩ := cc_p_s hf
  refine cw_put B hw rσ43 cwt_12 (by decide) rfl cfl_X11_58 ⟨by decide, by decide⟩ eσ43 rfl (cw_fv_n rfl rfl) dX11_init_107 (fun H locs hw => ?_)
  refine cl_aload_n hx hb dX11_init_110 rfl (lv_at hl.1 0 rfl) ?_
  refine lv_iconst (v := rI (-1)) hx hb dX11_init_111 rfl ?_
  obtain ⟨σ44, eσ44, rσ44, hf⟩ := cc_p_s hf
  refine cw_put B hw rσ44 cwt_12 (by decide) rfl cfl_X11_61 ⟨by decide, by decide⟩ eσ44 rfl (cw_fv_n rfl rfl) dX11_init_112 (fun H locs hw => ?_)
  refine cl_aload_n hx hb dX11_init_115 rfl (lv_at hl.1 0 rfl) ?_
  refine lv_iconst (v := rI 0) hx hb dX11_init_116 rfl ?_
  obtain ⟨σ45, eσ45, rσ45, hf⟩ := cc_p_s hf
  refine cw_put B hw rσ45 cwt_12 (by decide) rfl cfl_X11_64 ⟨by decide, by decide⟩ eσ45 rfl (cw_fv_n rfl rfl) dX11_init_117 (fun H locs hw => ?_)
  refine cl_aload_n hx hb dX11_init_120 rfl (lv_at hl.1 0 rfl) ?_
  obtain ⟨z46, ez46, iz46, rz46, hf⟩ := cc_g_s hw hf
  refine cw_get (val := cR v z46) B hw rz46 ⟨by decide, by decide⟩ (by decide) cwi_12 cfl_X11_23 ez46 rfl dX11_init_121 ?_
  refine lv_bipush (v := rI 7) hx hb dX11_init_124 (by decide +kernel) ?_
  obtain ⟨qσ47, hf⟩ := cc_t_s hf
  obtain ⟨σ47, kv48, z49, hσ47, hf⟩ := cc_cl_s hf
  obtain ⟨iz49, mσ47⟩ := hR 20 σ45 [z46, 7] σ47 kv48 z49 hσ47
  have mσ47 : cw_Met l v yX0_loadCorner cX0_loadCorner 2 none d [cR v z46, .int (rI 7)] σ45 σ47 kv48 none := mσ47 iz46 ⟨by decide, by decide⟩
  refine cw_cv (b := z46) (t := 1) (n := 1) (rest := []) (As := [.int (rI 7)]) B mσ47 qσ47 ⟨by decide, by decide⟩ cgo_yX0_loadCorner cml_X11_67 cin_yX0_loadCorner cse_yX0_loadCorner (by decide +kernel) (by decide) rfl hl.1.1 (Nat.le_of_ble_eq_true rfl) dX11_init_126 rfl hw (fun h0 H locs cells slots hw => ?_) (fun h0 H locs cells slots q ce hw h1 h2 h3 => ?_)
  · rcases hf with ⟨-, hf⟩ | ⟨hk, -⟩
    · skip
      exact cw_retv B hf hw dX11_init_129
    · exact absurd h0 hk
  · rcases hf with ⟨hk, -⟩ | ⟨-, hf⟩
    · exact absurd hk h0
    · cases hf
      exact cw_xout B hnh h0 hw h1 h2 h3

