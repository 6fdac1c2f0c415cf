set_option maxHeartbeats 4000000 in
set_option maxRecDepth 100000 in
theorem pm_X0_loadCorner {v : cwE} {bd : cBd} {l : Launch} {d : Nat} {rec : Nat → CS → List Int → CO} (hbd : bd = cw_bd v) (hR : cw_Rec l v d rec) (htr : l.stackTraces = false) (hd5 : 5 ≤ d) (σ σ' : CS) (x0 x1 : Int) (kd : Nat) (r : Int) (ix0 : inR x0) (ix1 : inR x1) (hf : pc_X0_loadCorner_0 rec bd σ x0 x1 = some (σ', kd, r)) : cw_Met l v yX0_loadCorner cX0_loadCorner 2 none (d + 1) [cR x0, .int (rI x1)] σ σ' kd none := by
  refine cw_ofW (by decide +kernel) ?_
  intro p e s m args below meth c s₁ B hml hv
  obtain ⟨rfl, hM, hK⟩ := hv
  have hts := atoms_spec (ws := Cond.code yX0_loadCorner cX0_loadCorner 2 none :: cw_bw) B.pre
  have hB : cw_B v RX0 p s m _ meth c cX0_loadCorner 2 none := ⟨B.exec, B.bytes, B.returns, hml, findClass_of_methodNamed B.named, fun w h => hts w (List.mem_cons_of_mem _ h), B.notSynchronized, hK⟩
  have hnh := cc_nh B (hts _ List.mem_cons_self)
  rw [lg_entry_eq]
  obtain ⟨ls, hls, hl⟩ := cl_ent [cR x0, .int (rI x1)] 2 (cl_1r (cl_1i cl_10)) (Nat.le_of_ble_eq_true rfl)
  rw [hls]
  exact pw_X0_loadCorner_0 hbd hR htr hd5 hB hnh σ x0 x1 ix0 ix1 hf _ _ _ _ _ (cw_W0 hM) (cl_sub hl [0, 1] rfl)

set_option maxHeartbeats 4000000 in
set_option maxRecDepth 100000 in
theorem pw_X11_compareNames_0 {v : cwE} {bd : cBd} {p : Program} {l : Launch} {e : Env} {s : State} {m : MethodId} {args : Array Value} {below : List Frame} {meth : Method} {c : Code} {d : Nat} {rec : Nat → CS → List Int → CO} {σ0 σ' : CS} {kd : Nat} {r : Int} (hbd : bd = cw_bd v) (hR : cw_Rec l v d rec) (htr : l.stackTraces = false) (hd5 : 5 ≤ d) (B : cw_B v RX11 p s m args meth c cX11_compareNames 6 (some .int)) (hnh : c.exceptionTable.toList = tableOf [(29, 47, 48, 158)]) : ∀ (σ : CS) (x0 x1 x2 : Int), inR x0 → inR x1 → inR x2 → pc_X11_compareNames_0 rec bd σ x0 x1 x2 = some (σ', kd, r) → ∀ (H : Heap) (locs : List Loc) (cells slots : Nat) (ls : Array Slot), cw_W v s σ0 σ H locs cells slots → cl_has ls 6 [(0, cR x0), (1, .int (rI x1)), (2, .int (rI x2))] → W p l e (cw_rm v (d + 1) σ0) s m args below meth c H locs cells slots (cw_Z below v σ0 σ' kd (some (.int (rI r))) args s) (F0 m 0 ls []) := by
  subst hbd
  obtain ⟨hx, hb, hr, hml, hown, hts, hlk, hK⟩ := id B
  intro σ x0 x1 x2 ix0 ix1 ix2 hf H locs cells slots ls hw hl
  unfold pc_X11_compareNames_0 at hf
  refine cl_aload_n hx hb dX11_compareNames_0 rfl (lv_at hl.1 0 rfl) ?_
  obtain ⟨z1, ez1, iz1, rz1, hf⟩ := cc_g_s hw hf
  refine cw_get (val := cR z1) B hw rz1 ⟨by decide, by decide⟩ (by decide) cwi_12 cfl_X11_32 ez1 rfl dX11_compareNames_1 ?_
  refine lv_iconst (v := rI 0) hx hb dX11_compareNames_4 rfl ?_
  obtain ⟨qσ2, hf⟩ := cc_t_s hf
  obtain ⟨σ2, z4, hσ2, hf⟩ := cc_cn_s hf
  obtain ⟨iz4, mσ2⟩ := hR 83 σ [z1, 0] σ2 0 z4 hσ2
  have mσ2 : cw_Met l v yX4_begin cX4_begin 3 none d [cR z1, .int (rI 0)] σ σ2 0 none := mσ2 iz1 ⟨by decide, by decide⟩
  refine cw_cv (b := z1) (t := 5) (n := 1) (rest := []) (As := [.int (rI 0)]) B mσ2 qσ2 ⟨by decide, by decide⟩ cgo_yX4_begin cml_X11_189 cin_yX4_begin cse_yX4_begin (by decide +kernel) (by decide) rfl hl.1.1 (Nat.le_of_ble_eq_true rfl) dX11_compareNames_5 rfl hw (fun h0 H locs cells slots hw => ?_) (fun h0 H locs cells slots q ce hw h1 h2 h3 => ?_)
  · skip
    obtain ⟨σ5, z6, eσ5, ez6, iz6, rσ5, hf⟩ := cc_n_s hf
    refine cw_new B hw cwt_7 rfl cwd_7 cnl_X11_196 cni_7 cnz_7 rσ5 eσ5 ez6 dX11_compareNames_8 (fun H hw => ?_)
    refine lv_dup hx hb dX11_compareNames_11 (cR_cat _) ?_
    refine lv_iconst (v := rI 2) hx hb dX11_compareNames_12 rfl ?_
    refine lv_iload_n hx hb dX11_compareNames_13 rfl (lv_at hl.1 1 rfl) ?_
    obtain ⟨qσ7, hf⟩ := cc_t_s hf
    obtain ⟨σ7, z9, hσ7, hf⟩ := cc_ci_s hf
    obtain ⟨iz9, mσ7⟩ := hR 107 σ5 [z6, 2, x1] σ7 0 z9 hσ7
    have mσ7 : cw_Met l v yX6_init cX6_init 3 none d [cR z6, .int (rI 2), .int (rI x1)] σ5 σ7 0 none := mσ7 iz6 ⟨by decide, by decide⟩ ix1
    refine cw_ci (b := z6) (n := 2) (rest := [cR z6]) (As := [.int (rI 2), .int (rI x1)]) B mσ7 qσ7.1 rfl cgo_yX6_init cml_X11_198 cin_yX6_init (by decide +kernel) (by decide) rfl hl.1.1 (cl_cs (cl_1r cl_10) (Nat.le_of_ble_eq_true rfl)) dX11_compareNames_14 rfl hw (fun H locs cells slots hw => ?_)
    refine cl_astore_n (lv' := [(3, cR z6), (0, cR x0), (1, .int (rI x1)), (2, .int (rI x2))]) hx hb dX11_compareNames_17 rfl hl (by decide) rfl (fun ls hl => ?_)
    obtain ⟨σ10, z11, eσ10, ez11, iz11, rσ10, hf⟩ := cc_n_s hf
    refine cw_new B hw cwt_7 rfl cwd_7 cnl_X11_196 cni_7 cnz_7 rσ10 eσ10 ez11 dX11_compareNames_18 (fun H hw => ?_)
    refine lv_dup hx hb dX11_compareNames_21 (cR_cat _) ?_
    refine lv_iconst (v := rI 2) hx hb dX11_compareNames_22 rfl ?_
    refine lv_iload_n hx hb dX11_compareNames_23 rfl (lv_at hl.1 3 rfl) ?_
    obtain ⟨qσ12, hf⟩ := cc_t_s hf
    obtain ⟨σ12, z14, hσ12, hf⟩ := cc_ci_s hf
    obtain ⟨iz14, mσ12⟩ := hR 107 σ10 [z11, 2, x2] σ12 0 z14 hσ12
    have mσ12 : cw_Met l v yX6_init cX6_init 3 none d [cR z11, .int (rI 2), .int (rI x2)] σ10 σ12 0 none := mσ12 iz11 ⟨by decide, by decide⟩ ix2
    refine cw_ci (b := z11) (n := 2) (rest := [cR z11]) (As := [.int (rI 2), .int (rI x2)]) B mσ12 qσ12.1 rfl cgo_yX6_init cml_X11_198 cin_yX6_init (by decide +kernel) (by decide) rfl hl.1.1 (cl_cs (cl_1r cl_10) (Nat.le_of_ble_eq_true rfl)) dX11_compareNames_24 rfl hw (fun H locs cells slots hw => ?_)
    refine cl_astore (lv' := [(4, cR z11), (3, cR z6), (0, cR x0), (1, .int (rI x1)), (2, .int (rI x2))]) hx hb dX11_compareNames_27 hl (by decide) rfl (fun ls hl => ?_)
    refine cl_aload_n hx hb dX11_compareNames_29 rfl (lv_at hl.1 2 rfl) ?_
    obtain ⟨z15, ez15, iz15, rz15, hf⟩ := cc_g_s hw hf
    refine cw_get (val := cR z15) B hw rz15 ⟨by decide, by decide⟩ (by decide) cwi_12 cfl_X11_32 ez15 rfl dX11_compareNames_30 ?_
    refine cl_aload_n hx hb dX11_compareNames_33 rfl (lv_at hl.1 1 rfl) ?_
    refine cl_aload hx hb dX11_compareNames_34 (lv_at hl.1 0 rfl) ?_
    obtain ⟨qσ16, hf⟩ := cc_t_s hf
    obtain ⟨σ16, kv17, z18, hσ16, hf⟩ := cc_ct_s hf
    obtain ⟨iz18, mσ16⟩ := hR 82 σ12 [z15, z6, z11] σ16 kv17 z18 hσ16
    have mσ16 : cw_Met l v yX4_areSame cX4_areSame 3 (some .boolean) d [cR z15, cR z6, cR z11] σ12 σ16 kv17 (some (.int (rI z18))) := mσ16 iz15 iz6 iz11
    refine cw_cv (b := z15) (t := 5) (n := 2) (rest := []) (As := [cR z6, cR z11]) B mσ16 qσ16 ⟨by decide, by decide⟩ cgo_yX4_areSame cml_X11_201 cin_yX4_areSame cse_yX4_areSame (by decide +kernel) (by decide) rfl hl.1.1 (Nat.le_of_ble_eq_true rfl) dX11_compareNames_36 rfl hw (fun h0 H locs cells slots hw => ?_) (fun h0 H locs cells slots q ce hw h1 h2 h3 => ?_)
    · rcases hf with ⟨-, hf⟩ | ⟨hk, -⟩
      · skip
        refine rn_if_eq (a := z18) (tgt := 46) hx hb iz18 dX11_compareNames_39 (by decide) (fun c19 => ?_) (fun c19 => ?_)
        · replace hf := cc_if_t hf c19
          refine lv_iconst (v := rI 0) hx hb dX11_compareNames_46 rfl ?_
          exact cw_reti B hf hw dX11_compareNames_47
        · replace hf := cc_if_f hf c19
          refine lv_iconst (v := rI 1) hx hb dX11_compareNames_42 rfl ?_
          refine lv_goto (tgt := 47) hx hb dX11_compareNames_43 (by decide) ?_
          exact cw_reti B hf hw dX11_compareNames_47
      · omega
    · rcases hf with ⟨hk, -⟩ | ⟨hk, hf⟩
      · exact absurd hk h0
      · subst hk
        refine cw_catch (hpc := 48) B hnh (by decide) cxc_X11_158 h1 h2 h3 ?_
        refine cl_xstore (lv' := [(4, cR z11), (3, cR z6), (0, cR x0), (1, .int (rI x1)), (2, .int (rI x2))]) hx hb dX11_compareNames_48 hl (by decide) (by decide) rfl (fun ls hl => ?_)
        refine cl_aload_n hx hb dX11_compareNames_50 rfl (lv_at hl.1 2 rfl) ?_
        obtain ⟨z20, ez20, iz20, rz20, hf⟩ := cc_g_s hw hf
        refine cw_get (val := cR z20) B hw rz20 ⟨by decide, by decide⟩ (by decide) cwi_12 cfl_X11_16 ez20 rfl dX11_compareNames_51 ?_
        obtain ⟨z21, ez21, iz21, rz21, hf⟩ := cc_g_s hw hf
        refine cw_get (val := .int (rI z21)) B hw rz21 ⟨by decide, by decide⟩ (by decide) cwi_11 cfl_X11_183 ez21 rfl dX11_compareNames_54 ?_
        obtain ⟨z22, ez22, iz22, hf⟩ := cc_ck_s hf
        refine lv_ineg hx hb dX11_compareNames_57 ?_
        rw [rI_neg, ← ez22]
        exact cw_reti B hf hw dX11_compareNames_58
  · exact absurd rfl h0

set_option maxHeartbeats 4000000 in
set_option maxRecDepth 100000 in
theorem pm_X11_compareNames {v : cwE} {bd : cBd} {l : Launch} {d : Nat} {rec : Nat → CS → List Int → CO} (hbd : bd = cw_bd v) (hR : cw_Rec l v d rec) (htr : l.stackTraces = false) (hd5 : 5 ≤ d) (σ σ' : CS) (x0 x1 x2 : Int) (kd : Nat) (r : Int) (ix0 : inR x0) (ix1 : inR x1) (ix2 : inR x2) (hf : pc_X11_compareNames_0 rec bd σ x0 x1 x2 = some (σ', kd, r)) : cw_MetW l v yX11_compareNames cX11_compareNames 6 (some .int) [(29, 47, 48, 158)] (d + 1) [cR x0, .int (rI x1), .int (rI x2)] σ σ' kd (some (.int (rI r))) := by
  refine cw_ofWW (by decide +kernel) ?_
  intro p e s m args below meth c s₁ B hml hv
  obtain ⟨rfl, hM, hK⟩ := hv
  have hts := atoms_spec (ws := Cond.codeWith yX11_compareNames cX11_compareNames 6 (some .int) [(29, 47, 48, 158)] :: cw_bw) B.pre
  have hB : cw_B v RX11 p s m _ meth c cX11_compareNames 6 (some .int) := ⟨B.exec, B.bytes, B.returns, hml, findClass_of_methodNamed B.named, fun w h => hts w (List.mem_cons_of_mem _ h), B.notSynchronized, hK⟩
  have hnh := vx_table B (hts _ List.mem_cons_self)
  rw [lg_entry_eq]
  obtain ⟨ls, hls, hl⟩ := cl_ent [cR x0, .int (rI x1), .int (rI x2)] 6 (cl_1r (cl_1i (cl_1i cl_10))) (Nat.le_of_ble_eq_true rfl)
  rw [hls]
  exact pw_X11_compareNames_0 hbd hR htr hd5 hB hnh σ x0 x1 x2 ix0 ix1 ix2 hf _ _ _ _ _ (cw_W0 hM) (cl_sub hl [0, 1, 2] rfl)

set_option maxHeartbeats 4000000 in
set_option maxRecDepth 100000 in
theorem pw_X11_runText_75 {v : cwE} {bd : cBd} {p : Program} {l : Launch} {e : Env} {s : State} {m : MethodId} {args : Array Value} {below : List Frame} {meth : Method} {c : Code} {d : Nat} {rec : Nat → CS → List Int → CO} {σ0 σ' : CS} {kd : Nat} {r : Int} (hbd : bd = cw_bd v) (hR : cw_Rec l v d rec) (htr : l.stackTraces = false) (hd5 : 5 ≤ d) (B : cw_B v RX11 p s m args meth c cX11_runText 4 (some .int)) (hnh : c.exceptionTable.toList = tableOf [(20, 71, 74, 158)]) : ∀ (σ : CS) (x0 : Int), inR x0 → pc_X11_runText_75 rec bd σ x0 = some (σ', kd, r) → ∀ (H : Heap) (locs : List Loc) (cells slots : Nat) (ls : Array Slot), cw_W v s σ0 σ H locs cells slots → cl_has ls 4 [(0, cR x0)] → W p l e (cw_rm v (d + 1) σ0) s m args below meth c H locs cells slots (cw_Z below v σ0 σ' kd (some (.int (rI r))) args s) (F0 m 75 ls []) := by
  subst hbd
  obtain ⟨hx, hb, hr, hml, hown, hts, hlk, hK⟩ := id B
  intro σ x0 ix0 hf H locs cells slots ls hw hl
  unfold pc_X11_runText_75 at hf
  refine cl_aload_n hx hb dX11_runText_75 rfl (lv_at hl.1 0 rfl) ?_
  refine cl_aload_n hx hb dX11_runText_76 rfl (lv_at hl.1 0 rfl) ?_
  obtain ⟨z1, ez1, iz1, rz1, hf⟩ := cc_g_s hw hf
  refine cw_get (val := cR z1) B hw rz1 ⟨by decide, by decide⟩ (by decide) cwi_12 cfl_X11_16 ez1 rfl dX11_runText_77 ?_
  obtain ⟨z2, ez2, iz2, rz2, hf⟩ := cc_g_s hw hf
  refine cw_get (val := .int (rI z2)) B hw rz2 ⟨by decide, by decide⟩ (by decide) cwi_11 cfl_X11_183 ez2 rfl dX11_runText_80 ?_
  obtain ⟨σ3, eσ3, rσ3, hf⟩ := cc_p_s hf
  refine cw_put B hw rσ3 cwt_12 (by decide) rfl cfl_X11_58 iz2 eσ3 rfl (cw_fv_n rfl rfl) dX11_runText_83 (fun H locs hw => ?_)
  refine cl_aload_n hx hb dX11_runText_86 rfl (lv_at hl.1 0 rfl) ?_
  refine cl_aload_n hx hb dX11_runText_87 rfl (lv_at hl.1 0 rfl) ?_
  obtain ⟨z4, ez4, iz4, rz4, hf⟩ := cc_g_s hw hf
  refine cw_get (val := cR z4) B hw rz4 ⟨by decide, by decide⟩ (by decide) cwi_12 cfl_X11_16 ez4 rfl dX11_runText_88 ?_
  obtain ⟨z5, ez5, iz5, rz5, hf⟩ := cc_g_s hw hf
  refine cw_get (val := .int (rI z5)) B hw rz5 ⟨by decide, by decide⟩ (by decide) cwi_11 cfl_X11_186 ez5 rfl dX11_runText_91 ?_
  obtain ⟨σ6, eσ6, rσ6, hf⟩ := cc_p_s hf
  refine cw_put B hw rσ6 cwt_12 (by decide) rfl cfl_X11_61 iz5 eσ6 rfl (cw_fv_n rfl rfl) dX11_runText_94 (fun H locs hw => ?_)
  refine cl_aload_n hx hb dX11_runText_97 rfl (lv_at hl.1 0 rfl) ?_
  obtain ⟨z7, ez7, iz7, rz7, hf⟩ := cc_g_s hw hf
  refine cw_get (val := .int (rI z7)) B hw rz7 ⟨by decide, by decide⟩ (by decide) cwi_12 cfl_X11_58 ez7 rfl dX11_runText_98 ?_
  exact cw_reti B hf hw dX11_runText_101

set_option maxHeartbeats 4000000 in
set_option maxRecDepth 100000 in
theorem pw_X11_runText_31 {v : cwE} {bd : cBd} {p : Program} {l : Launch} {e : Env} {s : State} {m : MethodId} {args : Array Value} {below : List Frame} {meth : Method} {c : Code} {d : Nat} {rec : Nat → CS → List Int → CO} {σ0 σ' : CS} {kd : Nat} {r : Int} (hbd : bd = cw_bd v) (hR : cw_Rec l v d rec) (htr : l.stackTraces = false) (hd5 : 5 ≤ d) (B : cw_B v RX11 p s m args meth c cX11_runText 4 (some .int)) (hnh : c.exceptionTable.toList = tableOf [(20, 71, 74, 158)]) : ∀ (n : Nat) (σ : CS) (x0 x2 x3 : Int), inR x0 → inR x2 → inR x3 → pc_X11_runText_31 rec bd n σ x0 x2 x3 = some (σ', kd, r) → ∀ (H : Heap) (locs : List Loc) (cells slots : Nat) (ls : Array Slot), cw_W v s σ0 σ H locs cells slots → cl_has ls 4 [(0, cR x0), (2, cR x2), (3, .int (rI x3))] → W p l e (cw_rm v (d + 1) σ0) s m args below meth c H locs cells slots (cw_Z below v σ0 σ' kd (some (.int (rI r))) args s) (F0 m 31 ls []) := by
  subst hbd
  obtain ⟨hx, hb, hr, hml, hown, hts, hlk, hK⟩ := id B
  intro n
  induction n with
  | zero => intro σ x0 x2 x3 ix0 ix2 ix3 hf; cases hf
  | succ n ih =>
    intro σ x0 x2 x3 ix0 ix2 ix3 hf H locs cells slots ls hw hl
    unfold pc_X11_runText_31 at hf
    refine lv_iload_n hx hb dX11_runText_31 rfl (lv_at hl.1 2 rfl) ?_
    refine cl_aload_n hx hb dX11_runText_32 rfl (lv_at hl.1 1 rfl) ?_
    obtain ⟨qσ1, hf⟩ := cc_t_s hf
    obtain ⟨σ1, z3, hσ1, hf⟩ := cc_cn_s hf
    obtain ⟨iz3, mσ1⟩ := hR 15 σ [x2] σ1 0 z3 hσ1
    have mσ1 : cw_Met l v yJx4a65c_size_8abf5 cJx4a65c_size_8abf5 1 (some .int) d [cR x2] σ σ1 0 (some (.int (rI z3))) := mσ1 ix2
    refine cw_cf (b := x2) (n := 0) (rest := [.int (rI x3)]) (As := []) B mσ1 qσ1 cgo_yJx4a65c_size_8abf5 cfm_X11_168 cin_yJx4a65c_size_8abf5 cfs_yJx4a65c_size_8abf5 (cw_face_size hK) (by decide +kernel) (by decide) rfl hl.1.1 (Nat.le_of_ble_eq_true rfl) dX11_runText_33 rfl hw (fun H locs cells slots hw => ?_)
    refine rn_icmp_ge (a := x3) (b := z3) (tgt := 71) hx hb ix3 iz3 dX11_runText_38 (by decide) (fun c4 => ?_) (fun c4 => ?_)
    · replace hf := cc_if_t hf c4
      refine lv_goto (tgt := 75) hx hb dX11_runText_71 (by decide) ?_
      exact pw_X11_runText_75 rfl hR htr hd5 B hnh σ1 x0 ix0 hf _ _ _ _ _ hw (cl_sub hl [0] rfl)
    · replace hf := cc_if_f hf c4
      refine cl_aload_n hx hb dX11_runText_41 rfl (lv_at hl.1 0 rfl) ?_
      refine cl_aload_n hx hb dX11_runText_42 rfl (lv_at hl.1 1 rfl) ?_
      refine lv_iload_n hx hb dX11_runText_43 rfl (lv_at hl.1 2 rfl) ?_
      obtain ⟨qσ5, hf⟩ := cc_t_s hf
      obtain ⟨σ5, z7, hσ5, hf⟩ := cc_cn_s hf
      obtain ⟨iz7, mσ5⟩ := hR 11 σ1 [x2, x3] σ5 0 z7 hσ5
      have mσ5 : cw_Met l v yJx4a65c_get_915e3 cJx4a65c_get_915e3 2 (some (.object "java/lang/Object")) d [cR x2, .int (rI x3)] σ1 σ5 0 (some (cR z7)) := mσ5 ix2 ix3
      refine cw_cf (b := x2) (n := 1) (rest := [cR x0]) (As := [.int (rI x3)]) B mσ5 qσ5 cgo_yJx4a65c_get_915e3 cfm_X11_173 cin_yJx4a65c_get_915e3 cfs_yJx4a65c_get_915e3 (cw_face_get hK) (by decide +kernel) (by decide) rfl hl.1.1 (cl_cs (cl_1r cl_10) (Nat.le_of_ble_eq_true rfl)) dX11_runText_44 rfl hw (fun H locs cells slots hw => ?_)
      obtain ⟨q8, hf⟩ := cc_t_s hf
      refine cw_cast B hw q8 ⟨by decide, by decide⟩ ccl_X11_177 dX11_runText_49 ?_
      obtain ⟨qσ9, hf⟩ := cc_t_s hf
      obtain ⟨σ9, kv10, z11, hσ9, hf⟩ := cc_ct_s hf
      obtain ⟨iz11, mσ9⟩ := hR 56 σ5 [x0, z7] σ9 kv10 z11 hσ9
      have mσ9 : cw_Met l v yX11_perform cX11_perform 2 none d [cR x0, cR z7] σ5 σ9 kv10 none := mσ9 ix0 iz7
      refine cw_cv (b := x0) (t := 12) (n := 1) (rest := []) (As := [cR z7]) B mσ9 qσ9 ⟨by decide, by decide⟩ cgo_yX11_perform cml_X11_179 cin_yX11_perform cse_yX11_perform (by decide +kernel) (by decide) rfl hl.1.1 (Nat.le_of_ble_eq_true rfl) dX11_runText_52 rfl hw (fun h0 H locs cells slots hw => ?_) (fun h0 H locs cells slots q ce hw h1 h2 h3 => ?_)
      · rcases hf with ⟨-, hf⟩ | ⟨hk, -⟩
        · skip
          refine cl_aload_n hx hb dX11_runText_55 rfl (lv_at hl.1 0 rfl) ?_
          refine lv_dup hx hb dX11_runText_56 (cR_cat _) ?_
          obtain ⟨z12, ez12, iz12, rz12, hf⟩ := cc_g_s hw hf
          refine cw_get (val := .int (rI z12)) B hw rz12 ⟨by decide, by decide⟩ (by decide) cwi_12 cfl_X11_64 ez12 rfl dX11_runText_57 ?_
          refine lv_iconst (v := rI 1) hx hb dX11_runText_60 rfl ?_
          obtain ⟨z13, ez13, iz13, hf⟩ := cc_ck_s hf
          refine rn_add hx hb ez13 dX11_runText_61 ?_
          obtain ⟨σ14, eσ14, rσ14, hf⟩ := cc_p_s hf
          refine cw_put B hw rσ14 cwt_12 (by decide) rfl cfl_X11_64 iz13 eσ14 rfl (cw_fv_n rfl rfl) dX11_runText_62 (fun H locs hw => ?_)
          obtain ⟨z15, ez15, iz15, hf⟩ := cc_ck_s hf
          refine cl_iinc (v := rI z15) (lv' := [(3, .int (rI z15)), (0, cR x0), (2, cR x2)]) hx hb dX11_runText_65 hl (k := 2) rfl (by rw [ez15]; exact rI_add _ _) (by decide) rfl (fun ls hl => ?_)
          refine lv_goto (tgt := 31) hx hb dX11_runText_68 (by decide) ?_
          exact ih σ14 x0 x2 z15 ix0 ix2 iz15 hf _ _ _ _ _ hw (cl_sub hl [1, 2, 0] rfl)
        · omega
      · rcases hf with ⟨hk, -⟩ | ⟨hk, hf⟩
        · exact absurd hk h0
        · subst hk
          refine cw_catch (hpc := 74) B hnh (by decide) cxc_X11_158 h1 h2 h3 ?_
          refine cl_xstore_n (lv' := [(0, cR x0), (3, .int (rI x3))]) hx hb dX11_runText_74 rfl hl (by decide) (by decide) rfl (fun ls hl => ?_)
          exact pw_X11_runText_75 rfl hR htr hd5 B hnh σ9 x0 ix0 hf _ _ _ _ _ hw (cl_sub hl [0] rfl)

set_option maxHeartbeats 4000000 in
set_option maxRecDepth 100000 in
theorem pw_X11_runText_0 {v : cwE} {bd : cBd} {p : Program} {l : Launch} {e : Env} {s : State} {m : MethodId} {args : Array Value} {below : List Frame} {meth : Method} {c : Code} {d : Nat} {rec : Nat → CS → List Int → CO} {σ0 σ' : CS} {kd : Nat} {r : Int} (hbd : bd = cw_bd v) (hR : cw_Rec l v d rec) (htr : l.stackTraces = false) (hd5 : 5 ≤ d) (B : cw_B v RX11 p s m args meth c cX11_runText 4 (some .int)) (hnh : c.exceptionTable.toList = tableOf [(20, 71, 74, 158)]) : ∀ (σ : CS) (x0 x1 : Int), inR x0 → inR x1 → pc_X11_runText_0 rec bd σ x0 x1 = some (σ', kd, r) → ∀ (H : Heap) (locs : List Loc) (cells slots : Nat) (ls : Array Slot), cw_W v s σ0 σ H locs cells slots → cl_has ls 4 [(0, cR x0), (1, .int (rI x1))] → W p l e (cw_rm v (d + 1) σ0) s m args below meth c H locs cells slots (cw_Z below v σ0 σ' kd (some (.int (rI r))) args s) (F0 m 0 ls []) := by
  subst hbd
  obtain ⟨hx, hb, hr, hml, hown, hts, hlk, hK⟩ := id B
  intro σ x0 x1 ix0 ix1 hf H locs cells slots ls hw hl
  unfold pc_X11_runText_0 at hf
  refine cl_aload_n hx hb dX11_runText_0 rfl (lv_at hl.1 0 rfl) ?_
  obtain ⟨z1, ez1, iz1, rz1, hf⟩ := cc_g_s hw hf
  refine cw_get (val := cR z1) B hw rz1 ⟨by decide, by decide⟩ (by decide) cwi_12 cfl_X11_32 ez1 rfl dX11_runText_1 ?_
  refine lv_iconst (v := rI 0) hx hb dX11_runText_4 rfl ?_
  obtain ⟨σ2, eσ2, rσ2, hf⟩ := cc_p_s hf
  refine cw_put B hw rσ2 cwt_5 (by decide) rfl cfl_X11_96 ⟨by decide, by decide⟩ eσ2 rfl (cw_fv_n rfl rfl) dX11_runText_5 (fun H locs hw => ?_)
  refine cl_aload_n hx hb dX11_runText_8 rfl (lv_at hl.1 0 rfl) ?_
  obtain ⟨z3, ez3, iz3, rz3, hf⟩ := cc_g_s hw hf
  refine cw_get (val := cR z3) B hw rz3 ⟨by decide, by decide⟩ (by decide) cwi_12 cfl_X11_16 ez3 rfl dX11_runText_9 ?_
  obtain ⟨qσ4, hf⟩ := cc_t_s hf
  obtain ⟨σ4, z6, hσ4, hf⟩ := cc_cn_s hf
  obtain ⟨iz6, mσ4⟩ := hR 30 σ2 [z3] σ4 0 z6 hσ4
  have mσ4 : cw_Met l v yX10_clear cX10_clear 1 none d [cR z3] σ2 σ4 0 none := mσ4 iz3
  refine cw_cv (b := z3) (t := 11) (n := 0) (rest := []) (As := []) B mσ4 qσ4 ⟨by decide, by decide⟩ cgo_yX10_clear cml_X11_161 cin_yX10_clear cse_yX10_clear (by decide +kernel) (by decide) rfl hl.1.1 (Nat.le_of_ble_eq_true rfl) dX11_runText_12 rfl hw (fun h0 H locs cells slots hw => ?_) (fun h0 H locs cells slots q ce hw h1 h2 h3 => ?_)
  · skip
    refine cl_aload_n hx hb dX11_runText_15 rfl (lv_at hl.1 0 rfl) ?_
    refine lv_iconst (v := rI 0) hx hb dX11_runText_16 rfl ?_
    obtain ⟨σ7, eσ7, rσ7, hf⟩ := cc_p_s hf
    refine cw_put B hw rσ7 cwt_12 (by decide) rfl cfl_X11_64 ⟨by decide, by decide⟩ eσ7 rfl (cw_fv_n rfl rfl) dX11_runText_17 (fun H locs hw => ?_)
    refine cl_aload_n hx hb dX11_runText_20 rfl (lv_at hl.1 0 rfl) ?_
    obtain ⟨z8, ez8, iz8, rz8, hf⟩ := cc_g_s hw hf
    refine cw_get (val := cR z8) B hw rz8 ⟨by decide, by decide⟩ (by decide) cwi_12 cfl_X11_41 ez8 rfl dX11_runText_21 ?_
    refine lv_iload_n hx hb dX11_runText_24 rfl (lv_at hl.1 1 rfl) ?_
    obtain ⟨qσ9, hf⟩ := cc_t_s hf
    obtain ⟨σ9, kv10, z11, hσ9, hf⟩ := cc_ct_s hf
    obtain ⟨iz11, mσ9⟩ := hR 126 σ7 [z8, x1] σ9 kv10 z11 hσ9
    have mσ9 : cw_Met l v yX7_readText cX7_readText 4 (some (.object "java/util/List")) d [cR z8, .int (rI x1)] σ7 σ9 kv10 (some (cR z11)) := mσ9 iz8 ix1
    refine cw_cv (b := z8) (t := 8) (n := 1) (rest := []) (As := [.int (rI x1)]) B mσ9 qσ9 ⟨by decide, by decide⟩ cgo_yX7_readText cml_X11_164 cin_yX7_readText cse_yX7_readText (by decide +kernel) (by decide) rfl hl.1.1 (Nat.le_of_ble_eq_true rfl) dX11_runText_25 rfl hw (fun h0 H locs cells slots hw => ?_) (fun h0 H locs cells slots q ce hw h1 h2 h3 => ?_)
    · rcases hf with ⟨-, hf⟩ | ⟨hk, -⟩
      · skip
        refine cl_astore_n (lv' := [(2, cR z11), (0, cR x0), (1, .int (rI x1))]) hx hb dX11_runText_28 rfl hl (by decide) rfl (fun ls hl => ?_)
        refine lv_iconst (v := rI 0) hx hb dX11_runText_29 rfl ?_
        refine cl_istore_n (lv' := [(3, .int (rI 0)), (2, cR z11), (0, cR x0), (1, .int (rI x1))]) hx hb dX11_runText_30 rfl hl (by decide) rfl (fun ls hl => ?_)
        exact pw_X11_runText_31 rfl hR htr hd5 B hnh 2000000 σ9 x0 z11 0 ix0 iz11 ⟨by decide, by decide⟩ hf _ _ _ _ _ hw (cl_sub hl [2, 1, 0] rfl)
      · omega
    · rcases hf with ⟨hk, -⟩ | ⟨hk, hf⟩
      · exact absurd hk h0
      · subst hk
        refine cw_catch (hpc := 74) B hnh (by decide) cxc_X11_158 h1 h2 h3 ?_
        refine cl_xstore_n (lv' := [(0, cR x0), (1, .int (rI x1))]) hx hb dX11_runText_74 rfl hl (by decide) (by decide) rfl (fun ls hl => ?_)
        exact pw_X11_runText_75 rfl hR htr hd5 B hnh σ9 x0 ix0 hf _ _ _ _ _ hw (cl_sub hl [0] rfl)
  · exact absurd rfl h0

set_option maxHeartbeats 4000000 in
set_option maxRecDepth 100000 in
theorem pm_X11_runText {v : cwE} {bd : cBd} {l : Launch} {d : Nat} {rec : Nat → CS → List Int → CO} (hbd : bd = cw_bd v) (hR : cw_Rec l v d rec) (htr : l.stackTraces = false) (hd5 : 5 ≤ d) (σ σ' : CS) (x0 x1 : Int) (kd : Nat) (r : Int) (ix0 : inR x0) (ix1 : inR x1) (hf : pc_X11_runText_0 rec bd σ x0 x1 = some (σ', kd, r)) : cw_MetW l v yX11_runText cX11_runText 4 (some .int) [(20, 71, 74, 158)] (d + 1) [cR x0, .int (rI x1)] σ σ' kd (some (.int (rI r))) := by
  refine cw_ofWW (by decide +kernel) ?_
  intro p e s m args below meth c s₁ B hml hv
  obtain ⟨rfl, hM, hK⟩ := hv
  have hts := atoms_spec (ws := Cond.codeWith yX11_runText cX11_runText 4 (some .int) [(20, 71, 74, 158)] :: cw_bw) B.pre
  have hB : cw_B v RX11 p s m _ meth c cX11_runText 4 (some .int) := ⟨B.exec, B.bytes, B.returns, hml, findClass_of_methodNamed B.named, fun w h => hts w (List.mem_cons_of_mem _ h), B.notSynchronized, hK⟩
  have hnh := vx_table B (hts _ List.mem_cons_self)
  rw [lg_entry_eq]
  obtain ⟨ls, hls, hl⟩ := cl_ent [cR x0, .int (rI x1)] 4 (cl_1r (cl_1i cl_10)) (Nat.le_of_ble_eq_true rfl)
  rw [hls]
  exact pw_X11_runText_0 hbd hR htr hd5 hB hnh σ x0 x1 ix0 ix1 hf _ _ _ _ _ (cw_W0 hM) (cl_sub hl [0, 1] rfl)

set_option maxHeartbeats 4000000 in
set_option maxRecDepth 100000 in
theorem pw_X11_tellTypeOf_0 {v : cwE} {bd : cBd} {p : Program} {l : Launch} {e : Env} {s : State} {m : MethodId} {args : Array Value} {below : List Frame} {meth : Method} {c : Code} {d : Nat} {rec : Nat → CS → List Int → CO} {σ0 σ' : CS} {kd : Nat} {r : Int} (hbd : bd = cw_bd v) (hR : cw_Rec l v d rec) (htr : l.stackTraces = false) (hd5 : 5 ≤ d) (B : cw_B v RX11 p s m args meth c cX11_tellTypeOf 3 (some .int)) (hnh : c.exceptionTable.toList = tableOf [(16, 24, 27, 158)]) : ∀ (σ : CS) (x0 x1 : Int), inR x0 → inR x1 → pc_X11_tellTypeOf_0 rec bd σ x0 x1 = some (σ', kd, r) → ∀ (H : Heap) (locs : List Loc) (cells slots : Nat) (ls : Array Slot), cw_W v s σ0 σ H locs cells slots → cl_has ls 3 [(0, cR x0), (1, cR x1)] → W p l e (cw_rm v (d + 1) σ0) s m args below meth c H locs cells slots (cw_Z below v σ0 σ' kd (some (.int (rI r))) args s) (F0 m 0 ls []) := by
  subst hbd
  obtain ⟨hx, hb, hr, hml, hown, hts, hlk, hK⟩ := id B
  intro σ x0 x1 ix0 ix1 hf H locs cells slots ls hw hl
  unfold pc_X11_tellTypeOf_0 at hf
  refine cl_aload_n hx hb dX11_tellTypeOf_0 rfl (lv_at hl.1 0 rfl) ?_
  obtain ⟨z1, ez1, iz1, rz1, hf⟩ := cc_g_s hw hf
  refine cw_get (val := cR z1) B hw rz1 ⟨by decide, by decide⟩ (by decide) cwi_12 cfl_X11_32 ez1 rfl dX11_tellTypeOf_1 ?_
  refine lv_iconst (v := rI 0) hx hb dX11_tellTypeOf_4 rfl ?_
  obtain ⟨qσ2, hf⟩ := cc_t_s hf
  obtain ⟨σ2, z4, hσ2, hf⟩ := cc_cn_s hf
  obtain ⟨iz4, mσ2⟩ := hR 83 σ [z1, 0] σ2 0 z4 hσ2
  have mσ2 : cw_Met l v yX4_begin cX4_begin 3 none d [cR z1, .int (rI 0)] σ σ2 0 none := mσ2 iz1 ⟨by decide, by decide⟩
  refine cw_cv (b := z1) (t := 5) (n := 1) (rest := []) (As := [.int (rI 0)]) B mσ2 qσ2 ⟨by decide, by decide⟩ cgo_yX4_begin cml_X11_189 cin_yX4_begin cse_yX4_begin (by decide +kernel) (by decide) rfl hl.1.1 (Nat.le_of_ble_eq_true rfl) dX11_tellTypeOf_5 rfl hw (fun h0 H locs cells slots hw => ?_) (fun h0 H locs cells slots q ce hw h1 h2 h3 => ?_)
  · skip
    refine cl_aload_n hx hb dX11_tellTypeOf_8 rfl (lv_at hl.1 0 rfl) ?_
    obtain ⟨z5, ez5, iz5, rz5, hf⟩ := cc_g_s hw hf
    refine cw_get (val := cR z5) B hw rz5 ⟨by decide, by decide⟩ (by decide) cwi_12 cfl_X11_32 ez5 rfl dX11_tellTypeOf_9 ?_
    refine lv_iconst (v := rI 0) hx hb dX11_tellTypeOf_12 rfl ?_
    obtain ⟨σ6, eσ6, rσ6, hf⟩ := cc_p_s hf
    refine cw_put B hw rσ6 cwt_5 (by decide) rfl cfl_X11_96 ⟨by decide, by decide⟩ eσ6 rfl (cw_fv_n rfl rfl) dX11_tellTypeOf_13 (fun H locs hw => ?_)
    refine cl_aload_n hx hb dX11_tellTypeOf_16 rfl (lv_at hl.1 0 rfl) ?_
    obtain ⟨z7, ez7, iz7, rz7, hf⟩ := cc_g_s hw hf
    refine cw_get (val := cR z7) B hw rz7 ⟨by decide, by decide⟩ (by decide) cwi_12 cfl_X11_32 ez7 rfl dX11_tellTypeOf_17 ?_
    refine cl_aload_n hx hb dX11_tellTypeOf_20 rfl (lv_at hl.1 1 rfl) ?_
    obtain ⟨qσ8, hf⟩ := cc_t_s hf
    obtain ⟨σ8, kv9, z10, hσ8, hf⟩ := cc_ct_s hf
    obtain ⟨iz10, mσ8⟩ := hR 98 σ6 [z7, x1] σ8 kv9 z10 hσ8
    have mσ8 : cw_Met l v yX4_tellWhole cX4_tellWhole 2 none d [cR z7, cR x1] σ6 σ8 kv9 none := mσ8 iz7 ix1
    refine cw_cv (b := z7) (t := 5) (n := 1) (rest := []) (As := [cR x1]) B mσ8 qσ8 ⟨by decide, by decide⟩ cgo_yX4_tellWhole cml_X11_192 cin_yX4_tellWhole cse_yX4_tellWhole (by decide +kernel) (by decide) rfl hl.1.1 (Nat.le_of_ble_eq_true rfl) dX11_tellTypeOf_21 rfl hw (fun h0 H locs cells slots hw => ?_) (fun h0 H locs cells slots q ce hw h1 h2 h3 => ?_)
    · rcases hf with ⟨-, hf⟩ | ⟨hk, -⟩
      · skip
        refine lv_goto (tgt := 37) hx hb dX11_tellTypeOf_24 (by decide) ?_
        refine cl_aload_n hx hb dX11_tellTypeOf_37 rfl (lv_at hl.1 0 rfl) ?_
        obtain ⟨z11, ez11, iz11, rz11, hf⟩ := cc_g_s hw hf
        refine cw_get (val := cR z11) B hw rz11 ⟨by decide, by decide⟩ (by decide) cwi_12 cfl_X11_32 ez11 rfl dX11_tellTypeOf_38 ?_
        obtain ⟨z12, ez12, iz12, rz12, hf⟩ := cc_g_s hw hf
        refine cw_get (val := .int (rI z12)) B hw rz12 ⟨by decide, by decide⟩ (by decide) cwi_5 cfl_X11_96 ez12 rfl dX11_tellTypeOf_41 ?_
        exact cw_reti B hf hw dX11_tellTypeOf_44
      · omega
    · rcases hf with ⟨hk, -⟩ | ⟨hk, hf⟩
      · exact absurd hk h0
      · subst hk
        refine cw_catch (hpc := 27) B hnh (by decide) cxc_X11_158 h1 h2 h3 ?_
        refine cl_xstore_n (lv' := [(0, cR x0), (1, cR x1)]) hx hb dX11_tellTypeOf_27 rfl hl (by decide) (by decide) rfl (fun ls hl => ?_)
        refine cl_aload_n hx hb dX11_tellTypeOf_28 rfl (lv_at hl.1 0 rfl) ?_
        obtain ⟨z13, ez13, iz13, rz13, hf⟩ := cc_g_s hw hf
        refine cw_get (val := cR z13) B hw rz13 ⟨by decide, by decide⟩ (by decide) cwi_12 cfl_X11_16 ez13 rfl dX11_tellTypeOf_29 ?_
        obtain ⟨z14, ez14, iz14, rz14, hf⟩ := cc_g_s hw hf
        refine cw_get (val := .int (rI z14)) B hw rz14 ⟨by decide, by decide⟩ (by decide) cwi_11 cfl_X11_183 ez14 rfl dX11_tellTypeOf_32 ?_
        obtain ⟨z15, ez15, iz15, hf⟩ := cc_ck_s hf
        refine lv_ineg hx hb dX11_tellTypeOf_35 ?_
        rw [rI_neg, ← ez15]
        exact cw_reti B hf hw dX11_tellTypeOf_36
  · exact absurd rfl h0

