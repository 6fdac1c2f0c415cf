set_option maxHeartbeats 4000000 in
set_option maxRecDepth 100000 in
theorem pw_X4_putAnswer_0 {v : cwE} {bd : cBd} {p : Program} {l : Launch} {e : Env} {s : State} {m : MethodId} {args : Array Value} {below : List Frame} {meth : Method} {c : Code} {d : Nat} {rec : Nat → CS → List Int → CO} {σ0 σ' : CS} {kd : Nat} {r : Int} (hbd : bd = cw_bd v) (hR : cw_Rec l v d rec) (htr : l.stackTraces = false) (hd5 : 5 ≤ d) (B : cw_B v RX4 p s m args meth c cX4_putAnswer 4 none) (hnh : ∀ x ∈ c.exceptionTable.toList, False) : ∀ (σ : CS) (x0 x1 : Int), inR x0 → inR x1 → pc_X4_putAnswer_0 rec bd σ x0 x1 = some (σ', kd, r) → ∀ (H : Heap) (locs : List Loc) (cells slots : Nat) (ls : Array Slot), cw_W v s σ0 σ H locs cells slots → cl_has ls 4 [(0, cR v x0), (1, .int (rI x1))] → W p l e (cw_rm v (d + 1) σ0) s m args below meth c H locs cells slots (cw_Z below v σ0 σ' kd none args s) (F0 m 0 ls []) := by
  subst hbd
  obtain ⟨hx, hb, hr, hml, hown, hts, hlk, hK⟩ := id B
  intro σ x0 x1 ix0 ix1 hf H locs cells slots ls hw hl
  unfold pc_X4_putAnswer_0 at hf
  refine lv_iload_n hx hb dX4_putAnswer_0 rfl (lv_at hl.1 1 rfl) ?_
  refine rn_if_eq (a := x1) (tgt := 9) hx hb ix1 dX4_putAnswer_1 (by decide) (fun c1 => ?_) (fun c1 => ?_)
  · replace hf := cc_if_t hf c1
    obtain ⟨z2, ez2, iz2, hf⟩ := cc_gs_s hf
    refine cw_ldcs B (cw_str_X4_206 hK) ez2 rfl dX4_putAnswer_9 ?_
    exact pw_X4_putAnswer_11 rfl hR htr hd5 B hnh σ x0 z2 ix0 iz2 hf _ _ _ _ _ hw (cl_sub hl [0] rfl)
  · replace hf := cc_if_f hf c1
    obtain ⟨z3, ez3, iz3, hf⟩ := cc_gs_s hf
    refine cw_ldcs B (cw_str_X4_204 hK) ez3 rfl dX4_putAnswer_4 ?_
    refine lv_goto (tgt := 11) hx hb dX4_putAnswer_6 (by decide) ?_
    exact pw_X4_putAnswer_11 rfl hR htr hd5 B hnh σ x0 z3 ix0 iz3 hf _ _ _ _ _ hw (cl_sub hl [0] rfl)

set_option maxHeartbeats 4000000 in
set_option maxRecDepth 100000 in
theorem pm_X4_putAnswer {v : cwE} {bd : cBd} {l : Launch} {d : Nat} {rec : Nat → CS → List Int → CO} (hbd : bd = cw_bd v) (hR : cw_Rec l v d rec) (htr : l.stackTraces = false) (hd5 : 5 ≤ d) (σ σ' : CS) (x0 x1 : Int) (kd : Nat) (r : Int) (ix0 : inR x0) (ix1 : inR x1) (hf : pc_X4_putAnswer_0 rec bd σ x0 x1 = some (σ', kd, r)) : cw_Met l v yX4_putAnswer cX4_putAnswer 4 none (d + 1) [cR v x0, .int (rI x1)] σ σ' kd none := by
  refine cw_ofW (by decide +kernel) ?_
  intro p e s m args below meth c s₁ B hml hv
  obtain ⟨rfl, hM, hK⟩ := hv
  have hts := atoms_spec (ws := Cond.code yX4_putAnswer cX4_putAnswer 4 none :: cw_bw) B.pre
  have hB : cw_B v RX4 p s m _ meth c cX4_putAnswer 4 none := ⟨B.exec, B.bytes, B.returns, hml, findClass_of_methodNamed B.named, fun w h => hts w (List.mem_cons_of_mem _ h), B.notSynchronized, hK⟩
  have hnh := cc_nh B (hts _ List.mem_cons_self)
  rw [lg_entry_eq]
  obtain ⟨ls, hls, hl⟩ := cl_ent [cR v x0, .int (rI x1)] 4 (cl_1r (cl_1i cl_10)) (Nat.le_of_ble_eq_true rfl)
  rw [hls]
  exact pw_X4_putAnswer_0 hbd hR htr hd5 hB hnh σ x0 x1 ix0 ix1 hf _ _ _ _ _ (cw_W0 hM) (cl_sub hl [0, 1] rfl)

set_option maxHeartbeats 4000000 in
set_option maxRecDepth 100000 in
theorem pw_X4_putFront_94 {v : cwE} {bd : cBd} {p : Program} {l : Launch} {e : Env} {s : State} {m : MethodId} {args : Array Value} {below : List Frame} {meth : Method} {c : Code} {d : Nat} {rec : Nat → CS → List Int → CO} {σ0 σ' : CS} {kd : Nat} {r : Int} (hbd : bd = cw_bd v) (hR : cw_Rec l v d rec) (htr : l.stackTraces = false) (hd5 : 5 ≤ d) (B : cw_B v RX4 p s m args meth c cX4_putFront 2 none) (hnh : ∀ x ∈ c.exceptionTable.toList, False) : ∀ (σ : CS) (x0 x1 : Int), inR x0 → inR x1 → pc_X4_putFront_94 rec bd σ x0 x1 = some (σ', kd, r) → ∀ (H : Heap) (locs : List Loc) (cells slots : Nat) (ls : Array Slot), cw_W v s σ0 σ H locs cells slots → cl_has ls 2 [(0, cR v x0), (1, cR v x1)] → W p l e (cw_rm v (d + 1) σ0) s m args below meth c H locs cells slots (cw_Z below v σ0 σ' kd none args s) (F0 m 94 ls []) := by
  subst hbd
  obtain ⟨hx, hb, hr, hml, hown, hts, hlk, hK⟩ := id B
  intro σ x0 x1 ix0 ix1 hf H locs cells slots ls hw hl
  unfold pc_X4_putFront_94 at hf
  refine cl_aload_n hx hb dX4_putFront_94 rfl (lv_at hl.1 0 rfl) ?_
  refine lv_bipush (v := rI 95) hx hb dX4_putFront_95 (by decide +kernel) ?_
  obtain ⟨qσ1, hf⟩ := cc_t_s hf
  obtain ⟨σ1, kv2, z3, hσ1, hf⟩ := cc_cl_s hf
  obtain ⟨iz3, mσ1⟩ := hR 88 σ [x0, 95] σ1 kv2 z3 hσ1
  have mσ1 : cw_Met l v yX4_put cX4_put 2 none d [cR v x0, .int (rI 95)] σ σ1 kv2 none := mσ1 ix0 ⟨by decide, by decide⟩
  refine cw_cv (b := x0) (t := 5) (n := 1) (rest := []) (As := [.int (rI 95)]) B mσ1 qσ1 ⟨by decide, by decide⟩ cgo_yX4_put cml_X4_60 cin_yX4_put cse_yX4_put (by decide +kernel) (by decide) rfl hl.1.1 (Nat.le_of_ble_eq_true rfl) dX4_putFront_97 rfl hw (fun h0 H locs cells slots hw => ?_) (fun h0 H locs cells slots q ce hw h1 h2 h3 => ?_)
  · rcases hf with ⟨-, hf⟩ | ⟨hk, -⟩
    · skip
      refine cl_aload_n hx hb dX4_putFront_100 rfl (lv_at hl.1 0 rfl) ?_
      refine lv_iconst (v := rI (-1)) hx hb dX4_putFront_101 rfl ?_
      refine cl_aload_n hx hb dX4_putFront_102 rfl (lv_at hl.1 1 rfl) ?_
      obtain ⟨z4, ez4, iz4, rz4, hf⟩ := cc_g_s hw hf
      refine cw_get (val := .int (rI z4)) B hw rz4 ⟨by decide, by decide⟩ (by decide) cwi_2 cfl_X4_160 ez4 rfl dX4_putFront_103 ?_
      obtain ⟨z5, ez5, iz5, hf⟩ := cc_ck_s hf
      refine rn_sub hx hb ez5 dX4_putFront_106 ?_
      obtain ⟨qσ6, hf⟩ := cc_t_s hf
      obtain ⟨σ6, kv7, z8, hσ6, hf⟩ := cc_cl_s hf
      obtain ⟨iz8, mσ6⟩ := hR 91 σ1 [x0, z5] σ6 kv7 z8 hσ6
      have mσ6 : cw_Met l v yX4_putNumber cX4_putNumber 4 none d [cR v x0, .int (rI z5)] σ1 σ6 kv7 none := mσ6 ix0 iz5
      refine cw_cv (b := x0) (t := 5) (n := 1) (rest := []) (As := [.int (rI z5)]) B mσ6 qσ6 ⟨by decide, by decide⟩ cgo_yX4_putNumber cml_X4_80 cin_yX4_putNumber cse_yX4_putNumber (by decide +kernel) (by decide) rfl hl.1.1 (Nat.le_of_ble_eq_true rfl) dX4_putFront_107 rfl hw (fun h0 H locs cells slots hw => ?_) (fun h0 H locs cells slots q ce hw h1 h2 h3 => ?_)
      · rcases hf with ⟨-, hf⟩ | ⟨hk, -⟩
        · skip
          exact cw_retv B hf hw dX4_putFront_110
        · exact absurd h0 hk
      · rcases hf with ⟨hk, -⟩ | ⟨-, hf⟩
        · exact absurd hk h0
        · cases hf
          exact cw_xout B hnh h0 hw h1 h2 h3
    · exact absurd h0 hk
  · rcases hf with ⟨hk, -⟩ | ⟨-, hf⟩
    · exact absurd hk h0
    · cases hf
      exact cw_xout B hnh h0 hw h1 h2 h3

set_option maxHeartbeats 4000000 in
set_option maxRecDepth 100000 in
theorem pw_X4_putFront_0 {v : cwE} {bd : cBd} {p : Program} {l : Launch} {e : Env} {s : State} {m : MethodId} {args : Array Value} {below : List Frame} {meth : Method} {c : Code} {d : Nat} {rec : Nat → CS → List Int → CO} {σ0 σ' : CS} {kd : Nat} {r : Int} (hbd : bd = cw_bd v) (hR : cw_Rec l v d rec) (htr : l.stackTraces = false) (hd5 : 5 ≤ d) (B : cw_B v RX4 p s m args meth c cX4_putFront 2 none) (hnh : ∀ x ∈ c.exceptionTable.toList, False) : ∀ (σ : CS) (x0 x1 : Int), inR x0 → inR x1 → pc_X4_putFront_0 rec bd σ x0 x1 = some (σ', kd, r) → ∀ (H : Heap) (locs : List Loc) (cells slots : Nat) (ls : Array Slot), cw_W v s σ0 σ H locs cells slots → cl_has ls 2 [(0, cR v x0), (1, cR v x1)] → W p l e (cw_rm v (d + 1) σ0) s m args below meth c H locs cells slots (cw_Z below v σ0 σ' kd none args s) (F0 m 0 ls []) := by
  subst hbd
  obtain ⟨hx, hb, hr, hml, hown, hts, hlk, hK⟩ := id B
  intro σ x0 x1 ix0 ix1 hf H locs cells slots ls hw hl
  unfold pc_X4_putFront_0 at hf
  refine cl_aload_n hx hb dX4_putFront_0 rfl (lv_at hl.1 1 rfl) ?_
  obtain ⟨z1, ez1, iz1, rz1, hf⟩ := cc_g_s hw hf
  refine cw_get (val := cR v z1) B hw rz1 ⟨by decide, by decide⟩ (by decide) cwi_2 cfl_X4_152 ez1 rfl dX4_putFront_1 ?_
  obtain ⟨z2, ez2, iz2, rz2, hf⟩ := cc_g_s hw hf
  refine cw_get (val := .int (rI z2)) B hw rz2 ⟨by decide, by decide⟩ (by decide) cwi_7 cfl_X4_103 ez2 rfl dX4_putFront_4 ?_
  by_cases c3 : z2 = 1
  · replace hf := cc_if_t hf c3
    refine rn_tab (n := 1) (tgt := 58) hx hb iz2 c3 dX4_putFront_7 (by decide) (by decide) rfl (by decide) ?_
    refine cl_aload_n hx hb dX4_putFront_58 rfl (lv_at hl.1 0 rfl) ?_
    refine cl_aload_n hx hb dX4_putFront_59 rfl (lv_at hl.1 0 rfl) ?_
    obtain ⟨z4, ez4, iz4, rz4, hf⟩ := cc_g_s hw hf
    refine cw_get (val := cR v z4) B hw rz4 ⟨by decide, by decide⟩ (by decide) cwi_5 cfl_X4_32 ez4 rfl dX4_putFront_60 ?_
    obtain ⟨z5, ez5, iz5, rz5, hf⟩ := cc_g_s hw hf
    refine cw_get (val := cR v z5) B hw rz5 ⟨by decide, by decide⟩ (by decide) cwi_1 cfl_X4_180 ez5 rfl dX4_putFront_63 ?_
    refine cl_aload_n hx hb dX4_putFront_66 rfl (lv_at hl.1 1 rfl) ?_
    obtain ⟨z6, ez6, iz6, rz6, hf⟩ := cc_g_s hw hf
    refine cw_get (val := .int (rI z6)) B hw rz6 ⟨by decide, by decide⟩ (by decide) cwi_2 cfl_X4_160 ez6 rfl dX4_putFront_67 ?_
    obtain ⟨qσ7, hf⟩ := cc_t_s hf
    obtain ⟨σ7, kv8, z9, hσ7, hf⟩ := cc_cl_s hf
    obtain ⟨iz9, mσ7⟩ := hR 92 σ [x0, z5, z6] σ7 kv8 z9 hσ7
    have mσ7 : cw_Met l v yX4_putSigns cX4_putSigns 5 none d [cR v x0, cR v z5, .int (rI z6)] σ σ7 kv8 none := mσ7 ix0 iz5 iz6
    refine cw_cv (b := x0) (t := 5) (n := 2) (rest := []) (As := [cR v z5, .int (rI z6)]) B mσ7 qσ7 ⟨by decide, by decide⟩ cgo_yX4_putSigns cml_X4_184 cin_yX4_putSigns cse_yX4_putSigns (by decide +kernel) (by decide) rfl hl.1.1 (Nat.le_of_ble_eq_true rfl) dX4_putFront_70 rfl hw (fun h0 H locs cells slots hw => ?_) (fun h0 H locs cells slots q ce hw h1 h2 h3 => ?_)
    · rcases hf with ⟨-, hf⟩ | ⟨hk, -⟩
      · skip
        refine lv_goto (tgt := 110) hx hb dX4_putFront_73 (by decide) ?_
        exact cw_retv B hf hw dX4_putFront_110
      · exact absurd h0 hk
    · rcases hf with ⟨hk, -⟩ | ⟨-, hf⟩
      · exact absurd hk h0
      · cases hf
        exact cw_xout B hnh h0 hw h1 h2 h3
  · replace hf := cc_if_f hf c3
    by_cases c10 : z2 = 2
    · replace hf := cc_if_t hf c10
      refine rn_tab (n := 2) (tgt := 76) hx hb iz2 c10 dX4_putFront_7 (by decide) (by decide) rfl (by decide) ?_
      refine cl_aload_n hx hb dX4_putFront_76 rfl (lv_at hl.1 0 rfl) ?_
      refine cl_aload_n hx hb dX4_putFront_77 rfl (lv_at hl.1 0 rfl) ?_
      obtain ⟨z11, ez11, iz11, rz11, hf⟩ := cc_g_s hw hf
      refine cw_get (val := cR v z11) B hw rz11 ⟨by decide, by decide⟩ (by decide) cwi_5 cfl_X4_32 ez11 rfl dX4_putFront_78 ?_
      obtain ⟨z12, ez12, iz12, rz12, hf⟩ := cc_g_s hw hf
      refine cw_get (val := cR v z12) B hw rz12 ⟨by decide, by decide⟩ (by decide) cwi_1 cfl_X4_188 ez12 rfl dX4_putFront_81 ?_
      refine cl_aload_n hx hb dX4_putFront_84 rfl (lv_at hl.1 1 rfl) ?_
      obtain ⟨z13, ez13, iz13, rz13, hf⟩ := cc_g_s hw hf
      refine cw_get (val := .int (rI z13)) B hw rz13 ⟨by decide, by decide⟩ (by decide) cwi_2 cfl_X4_160 ez13 rfl dX4_putFront_85 ?_
      obtain ⟨qσ14, hf⟩ := cc_t_s hf
      obtain ⟨σ14, kv15, z16, hσ14, hf⟩ := cc_cl_s hf
      obtain ⟨iz16, mσ14⟩ := hR 92 σ [x0, z12, z13] σ14 kv15 z16 hσ14
      have mσ14 : cw_Met l v yX4_putSigns cX4_putSigns 5 none d [cR v x0, cR v z12, .int (rI z13)] σ σ14 kv15 none := mσ14 ix0 iz12 iz13
      refine cw_cv (b := x0) (t := 5) (n := 2) (rest := []) (As := [cR v z12, .int (rI z13)]) B mσ14 qσ14 ⟨by decide, by decide⟩ cgo_yX4_putSigns cml_X4_184 cin_yX4_putSigns cse_yX4_putSigns (by decide +kernel) (by decide) rfl hl.1.1 (Nat.le_of_ble_eq_true rfl) dX4_putFront_88 rfl hw (fun h0 H locs cells slots hw => ?_) (fun h0 H locs cells slots q ce hw h1 h2 h3 => ?_)
      · rcases hf with ⟨-, hf⟩ | ⟨hk, -⟩
        · skip
          refine lv_goto (tgt := 110) hx hb dX4_putFront_91 (by decide) ?_
          exact cw_retv B hf hw dX4_putFront_110
        · exact absurd h0 hk
      · rcases hf with ⟨hk, -⟩ | ⟨-, hf⟩
        · exact absurd hk h0
        · cases hf
          exact cw_xout B hnh h0 hw h1 h2 h3
    · replace hf := cc_if_f hf c10
      by_cases c17 : z2 = 3
      · replace hf := cc_if_t hf c17
        refine rn_tab (n := 3) (tgt := 94) hx hb iz2 c17 dX4_putFront_7 (by decide) (by decide) rfl (by decide) ?_
        exact pw_X4_putFront_94 rfl hR htr hd5 B hnh σ x0 x1 ix0 ix1 hf _ _ _ _ _ hw (cl_sub hl [0, 1] rfl)
      · replace hf := cc_if_f hf c17
        by_cases c18 : z2 = 4
        · replace hf := cc_if_t hf c18
          refine rn_tab (n := 4) (tgt := 40) hx hb iz2 c18 dX4_putFront_7 (by decide) (by decide) rfl (by decide) ?_
          refine cl_aload_n hx hb dX4_putFront_40 rfl (lv_at hl.1 0 rfl) ?_
          refine lv_bipush (v := rI 92) hx hb dX4_putFront_41 (by decide +kernel) ?_
          obtain ⟨qσ19, hf⟩ := cc_t_s hf
          obtain ⟨σ19, kv20, z21, hσ19, hf⟩ := cc_cl_s hf
          obtain ⟨iz21, mσ19⟩ := hR 88 σ [x0, 92] σ19 kv20 z21 hσ19
          have mσ19 : cw_Met l v yX4_put cX4_put 2 none d [cR v x0, .int (rI 92)] σ σ19 kv20 none := mσ19 ix0 ⟨by decide, by decide⟩
          refine cw_cv (b := x0) (t := 5) (n := 1) (rest := []) (As := [.int (rI 92)]) B mσ19 qσ19 ⟨by decide, by decide⟩ cgo_yX4_put cml_X4_60 cin_yX4_put cse_yX4_put (by decide +kernel) (by decide) rfl hl.1.1 (Nat.le_of_ble_eq_true rfl) dX4_putFront_43 rfl hw (fun h0 H locs cells slots hw => ?_) (fun h0 H locs cells slots q ce hw h1 h2 h3 => ?_)
          · rcases hf with ⟨-, hf⟩ | ⟨hk, -⟩
            · skip
              refine lv_goto (tgt := 110) hx hb dX4_putFront_46 (by decide) ?_
              exact cw_retv B hf hw dX4_putFront_110
            · exact absurd h0 hk
          · rcases hf with ⟨hk, -⟩ | ⟨-, hf⟩
            · exact absurd hk h0
            · cases hf
              exact cw_xout B hnh h0 hw h1 h2 h3
        · replace hf := cc_if_f hf c18
          by_cases c22 : z2 = 5
          · replace hf := cc_if_t hf c22
            refine rn_tab (n := 5) (tgt := 49) hx hb iz2 c22 dX4_putFront_7 (by decide) (by decide) rfl (by decide) ?_
            refine cl_aload_n hx hb dX4_putFront_49 rfl (lv_at hl.1 0 rfl) ?_
            refine lv_bipush (v := rI 33) hx hb dX4_putFront_50 (by decide +kernel) ?_
            obtain ⟨qσ23, hf⟩ := cc_t_s hf
            obtain ⟨σ23, kv24, z25, hσ23, hf⟩ := cc_cl_s hf
            obtain ⟨iz25, mσ23⟩ := hR 88 σ [x0, 33] σ23 kv24 z25 hσ23
            have mσ23 : cw_Met l v yX4_put cX4_put 2 none d [cR v x0, .int (rI 33)] σ σ23 kv24 none := mσ23 ix0 ⟨by decide, by decide⟩
            refine cw_cv (b := x0) (t := 5) (n := 1) (rest := []) (As := [.int (rI 33)]) B mσ23 qσ23 ⟨by decide, by decide⟩ cgo_yX4_put cml_X4_60 cin_yX4_put cse_yX4_put (by decide +kernel) (by decide) rfl hl.1.1 (Nat.le_of_ble_eq_true rfl) dX4_putFront_52 rfl hw (fun h0 H locs cells slots hw => ?_) (fun h0 H locs cells slots q ce hw h1 h2 h3 => ?_)
            · rcases hf with ⟨-, hf⟩ | ⟨hk, -⟩
              · skip
                refine lv_goto (tgt := 110) hx hb dX4_putFront_55 (by decide) ?_
                exact cw_retv B hf hw dX4_putFront_110
              · exact absurd h0 hk
            · rcases hf with ⟨hk, -⟩ | ⟨-, hf⟩
              · exact absurd hk h0
              · cases hf
                exact cw_xout B hnh h0 hw h1 h2 h3
          · replace hf := cc_if_f hf c22
            refine rn_tabO (tgt := 94) hx hb iz2 dX4_putFront_7 (by omega) (by decide) ?_
            exact pw_X4_putFront_94 rfl hR htr hd5 B hnh σ x0 x1 ix0 ix1 hf _ _ _ _ _ hw (cl_sub hl [0, 1] rfl)

set_option maxHeartbeats 4000000 in
set_option maxRecDepth 100000 in
theorem pm_X4_putFront {v : cwE} {bd : cBd} {l : Launch} {d : Nat} {rec : Nat → CS → List Int → CO} (hbd : bd = cw_bd v) (hR : cw_Rec l v d rec) (htr : l.stackTraces = false) (hd5 : 5 ≤ d) (σ σ' : CS) (x0 x1 : Int) (kd : Nat) (r : Int) (ix0 : inR x0) (ix1 : inR x1) (hf : pc_X4_putFront_0 rec bd σ x0 x1 = some (σ', kd, r)) : cw_Met l v yX4_putFront cX4_putFront 2 none (d + 1) [cR v x0, cR v x1] σ σ' kd none := by
  refine cw_ofW (by decide +kernel) ?_
  intro p e s m args below meth c s₁ B hml hv
  obtain ⟨rfl, hM, hK⟩ := hv
  have hts := atoms_spec (ws := Cond.code yX4_putFront cX4_putFront 2 none :: cw_bw) B.pre
  have hB : cw_B v RX4 p s m _ meth c cX4_putFront 2 none := ⟨B.exec, B.bytes, B.returns, hml, findClass_of_methodNamed B.named, fun w h => hts w (List.mem_cons_of_mem _ h), B.notSynchronized, hK⟩
  have hnh := cc_nh B (hts _ List.mem_cons_self)
  rw [lg_entry_eq]
  obtain ⟨ls, hls, hl⟩ := cl_ent [cR v x0, cR v x1] 2 (cl_1r (cl_1r cl_10)) (Nat.le_of_ble_eq_true rfl)
  rw [hls]
  exact pw_X4_putFront_0 hbd hR htr hd5 hB hnh σ x0 x1 ix0 ix1 hf _ _ _ _ _ (cw_W0 hM) (cl_sub hl [0, 1] rfl)

set_option maxHeartbeats 4000000 in
set_option maxRecDepth 100000 in
theorem pw_X4_putNumber_29 {v : cwE} {bd : cBd} {p : Program} {l : Launch} {e : Env} {s : State} {m : MethodId} {args : Array Value} {below : List Frame} {meth : Method} {c : Code} {d : Nat} {rec : Nat → CS → List Int → CO} {σ0 σ' : CS} {kd : Nat} {r : Int} (hbd : bd = cw_bd v) (hR : cw_Rec l v d rec) (htr : l.stackTraces = false) (hd5 : 5 ≤ d) (B : cw_B v RX4 p s m args meth c cX4_putNumber 4 none) (hnh : ∀ x ∈ c.exceptionTable.toList, False) : ∀ (n : Nat) (σ : CS) (x0 x1 x2 : Int), inR x0 → inR x1 → inR x2 → pc_X4_putNumber_29 rec bd n σ x0 x1 x2 = some (σ', kd, r) → ∀ (H : Heap) (locs : List Loc) (cells slots : Nat) (ls : Array Slot), cw_W v s σ0 σ H locs cells slots → cl_has ls 4 [(0, cR v x0), (1, .int (rI x1)), (2, .int (rI x2))] → W p l e (cw_rm v (d + 1) σ0) s m args below meth c H locs cells slots (cw_Z below v σ0 σ' kd none args s) (F0 m 29 ls []) := by
  subst hbd
  obtain ⟨hx, hb, hr, hml, hown, hts, hlk, hK⟩ := id B
  intro n
  induction n with
  | zero => intro σ x0 x1 x2 ix0 ix1 ix2 hf; cases hf
  | succ n ih =>
    intro σ x0 x1 x2 ix0 ix1 ix2 hf H locs cells slots ls hw hl
    unfold pc_X4_putNumber_29 at hf
    refine lv_iload_n hx hb dX4_putNumber_29 rfl (lv_at hl.1 2 rfl) ?_
    refine rn_if_le (a := x2) (tgt := 54) hx hb ix2 dX4_putNumber_30 (by decide) (fun c1 => ?_) (fun c1 => ?_)
    · replace hf := cc_if_t hf c1
      exact cw_retv B hf hw dX4_putNumber_54
    · replace hf := cc_if_f hf c1
      refine cl_aload_n hx hb dX4_putNumber_33 rfl (lv_at hl.1 0 rfl) ?_
      refine lv_bipush (v := rI 48) hx hb dX4_putNumber_34 (by decide +kernel) ?_
      refine lv_iload_n hx hb dX4_putNumber_36 rfl (lv_at hl.1 1 rfl) ?_
      refine lv_iload_n hx hb dX4_putNumber_37 rfl (lv_at hl.1 2 rfl) ?_
      by_cases c3 : x2 = 0
      · replace hf := cc_if_t hf c3; cases hf
      replace hf := cc_if_f hf c3
      obtain ⟨z2, ez2, iz2, hf⟩ := cc_nm_s hf
      refine lv_idiv hx hb dX4_putNumber_38 (fun q => c3 ((rI_eq ix2 inR_0).mp q)) ?_
      refine rn_top ez2 ?_
      refine lv_bipush (v := rI 10) hx hb dX4_putNumber_39 (by decide +kernel) ?_
      obtain ⟨z4, ez4, iz4, hf⟩ := cc_nm_s hf
      refine lv_irem hx hb dX4_putNumber_41 (by decide) ?_
      refine rn_top ez4 ?_
      obtain ⟨z5, ez5, iz5, hf⟩ := cc_ck_s hf
      refine rn_add hx hb ez5 dX4_putNumber_42 ?_
      obtain ⟨qσ6, hf⟩ := cc_t_s hf
      obtain ⟨σ6, kv7, z8, hσ6, hf⟩ := cc_cl_s hf
      obtain ⟨iz8, mσ6⟩ := hR 88 σ [x0, z5] σ6 kv7 z8 hσ6
      have mσ6 : cw_Met l v yX4_put cX4_put 2 none d [cR v x0, .int (rI z5)] σ σ6 kv7 none := mσ6 ix0 iz5
      refine cw_cv (b := x0) (t := 5) (n := 1) (rest := []) (As := [.int (rI z5)]) B mσ6 qσ6 ⟨by decide, by decide⟩ cgo_yX4_put cml_X4_60 cin_yX4_put cse_yX4_put (by decide +kernel) (by decide) rfl hl.1.1 (Nat.le_of_ble_eq_true rfl) dX4_putNumber_43 rfl hw (fun h0 H locs cells slots hw => ?_) (fun h0 H locs cells slots q ce hw h1 h2 h3 => ?_)
      · rcases hf with ⟨-, hf⟩ | ⟨hk, -⟩
        · skip
          refine lv_iload_n hx hb dX4_putNumber_46 rfl (lv_at hl.1 2 rfl) ?_
          refine lv_bipush (v := rI 10) hx hb dX4_putNumber_47 (by decide +kernel) ?_
          obtain ⟨z9, ez9, iz9, hf⟩ := cc_nm_s hf
          refine lv_idiv hx hb dX4_putNumber_49 (by decide) ?_
          refine rn_top ez9 ?_
          refine cl_istore_n (lv' := [(2, .int (rI z9)), (0, cR v x0), (1, .int (rI x1))]) hx hb dX4_putNumber_50 rfl hl (by decide) rfl (fun ls hl => ?_)
          refine lv_goto (tgt := 29) hx hb dX4_putNumber_51 (by decide) ?_
          exact ih σ6 x0 x1 z9 ix0 ix1 iz9 hf _ _ _ _ _ hw (cl_sub hl [1, 2, 0] rfl)
        · exact absurd h0 hk
      · rcases hf with ⟨hk, -⟩ | ⟨-, hf⟩
        · exact absurd hk h0
        · cases hf
          exact cw_xout B hnh h0 hw h1 h2 h3

set_option maxHeartbeats 4000000 in
set_option maxRecDepth 100000 in
theorem pw_X4_putNumber_4 {v : cwE} {bd : cBd} {p : Program} {l : Launch} {e : Env} {s : State} {m : MethodId} {args : Array Value} {below : List Frame} {meth : Method} {c : Code} {d : Nat} {rec : Nat → CS → List Int → CO} {σ0 σ' : CS} {kd : Nat} {r : Int} (hbd : bd = cw_bd v) (hR : cw_Rec l v d rec) (htr : l.stackTraces = false) (hd5 : 5 ≤ d) (B : cw_B v RX4 p s m args meth c cX4_putNumber 4 none) (hnh : ∀ x ∈ c.exceptionTable.toList, False) : ∀ (n : Nat) (σ : CS) (x0 x1 x2 x3 : Int), inR x0 → inR x1 → inR x2 → inR x3 → pc_X4_putNumber_4 rec bd n σ x0 x1 x2 x3 = some (σ', kd, r) → ∀ (H : Heap) (locs : List Loc) (cells slots : Nat) (ls : Array Slot), cw_W v s σ0 σ H locs cells slots → cl_has ls 4 [(0, cR v x0), (1, .int (rI x1)), (2, .int (rI x2)), (3, .int (rI x3))] → W p l e (cw_rm v (d + 1) σ0) s m args below meth c H locs cells slots (cw_Z below v σ0 σ' kd none args s) (F0 m 4 ls []) := by
  subst hbd
  obtain ⟨hx, hb, hr, hml, hown, hts, hlk, hK⟩ := id B
  intro n
  induction n with
  | zero => intro σ x0 x1 x2 x3 ix0 ix1 ix2 ix3 hf; cases hf
  | succ n ih =>
    intro σ x0 x1 x2 x3 ix0 ix1 ix2 ix3 hf H locs cells slots ls hw hl
    unfold pc_X4_putNumber_4 at hf
    refine lv_iload_n hx hb dX4_putNumber_4 rfl (lv_at hl.1 3 rfl) ?_
    refine lv_bipush (v := rI 9) hx hb dX4_putNumber_5 (by decide +kernel) ?_
    refine rn_icmp_ge (a := x3) (b := 9) (tgt := 29) hx hb ix3 ⟨by decide, by decide⟩ dX4_putNumber_7 (by decide) (fun c1 => ?_) (fun c1 => ?_)
    · replace hf := cc_if_t hf c1
      exact pw_X4_putNumber_29 rfl hR htr hd5 B hnh 2000000 σ x0 x1 x2 ix0 ix1 ix2 hf _ _ _ _ _ hw (cl_sub hl [0, 1, 2] rfl)
    · replace hf := cc_if_f hf c1
      refine lv_iload_n hx hb dX4_putNumber_10 rfl (lv_at hl.1 1 rfl) ?_
      refine lv_iload_n hx hb dX4_putNumber_11 rfl (lv_at hl.1 2 rfl) ?_
      by_cases c3 : x2 = 0
      · replace hf := cc_if_t hf c3; cases hf
      replace hf := cc_if_f hf c3
      obtain ⟨z2, ez2, iz2, hf⟩ := cc_nm_s hf
      refine lv_idiv hx hb dX4_putNumber_12 (fun q => c3 ((rI_eq ix2 inR_0).mp q)) ?_
      refine rn_top ez2 ?_
      refine lv_bipush (v := rI 10) hx hb dX4_putNumber_13 (by decide +kernel) ?_
      refine rn_icmp_lt (a := z2) (b := 10) (tgt := 29) hx hb iz2 ⟨by decide, by decide⟩ dX4_putNumber_15 (by decide) (fun c4 => ?_) (fun c4 => ?_)
      · replace hf := cc_if_t hf c4
        exact pw_X4_putNumber_29 rfl hR htr hd5 B hnh 2000000 σ x0 x1 x2 ix0 ix1 ix2 hf _ _ _ _ _ hw (cl_sub hl [0, 1, 2] rfl)
      · replace hf := cc_if_f hf c4
        refine lv_iload_n hx hb dX4_putNumber_18 rfl (lv_at hl.1 2 rfl) ?_
        refine lv_bipush (v := rI 10) hx hb dX4_putNumber_19 (by decide +kernel) ?_
        obtain ⟨z5, ez5, iz5, hf⟩ := cc_ck_s hf
        refine rn_mul hx hb ez5 dX4_putNumber_21 ?_
        refine cl_istore_n (lv' := [(2, .int (rI z5)), (0, cR v x0), (1, .int (rI x1)), (3, .int (rI x3))]) hx hb dX4_putNumber_22 rfl hl (by decide) rfl (fun ls hl => ?_)
        obtain ⟨z6, ez6, iz6, hf⟩ := cc_ck_s hf
        refine cl_iinc (v := rI z6) (lv' := [(3, .int (rI z6)), (2, .int (rI z5)), (0, cR v x0), (1, .int (rI x1))]) hx hb dX4_putNumber_23 hl (k := 3) rfl (by rw [ez6]; exact rI_add _ _) (by decide) rfl (fun ls hl => ?_)
        refine lv_goto (tgt := 4) hx hb dX4_putNumber_26 (by decide) ?_
        exact ih σ x0 x1 z5 z6 ix0 ix1 iz5 iz6 hf _ _ _ _ _ hw (cl_sub hl [2, 3, 1, 0] rfl)

set_option maxHeartbeats 4000000 in
set_option maxRecDepth 100000 in
theorem pw_X4_putNumber_0 {v : cwE} {bd : cBd} {p : Program} {l : Launch} {e : Env} {s : State} {m : MethodId} {args : Array Value} {below : List Frame} {meth : Method} {c : Code} {d : Nat} {rec : Nat → CS → List Int → CO} {σ0 σ' : CS} {kd : Nat} {r : Int} (hbd : bd = cw_bd v) (hR : cw_Rec l v d rec) (htr : l.stackTraces = false) (hd5 : 5 ≤ d) (B : cw_B v RX4 p s m args meth c cX4_putNumber 4 none) (hnh : ∀ x ∈ c.exceptionTable.toList, False) : ∀ (σ : CS) (x0 x1 : Int), inR x0 → inR x1 → pc_X4_putNumber_0 rec bd σ x0 x1 = some (σ', kd, r) → ∀ (H : Heap) (locs : List Loc) (cells slots : Nat) (ls : Array Slot), cw_W v s σ0 σ H locs cells slots → cl_has ls 4 [(0, cR v x0), (1, .int (rI x1))] → W p l e (cw_rm v (d + 1) σ0) s m args below meth c H locs cells slots (cw_Z below v σ0 σ' kd none args s) (F0 m 0 ls []) := by
  subst hbd
  obtain ⟨hx, hb, hr, hml, hown, hts, hlk, hK⟩ := id B
  intro σ x0 x1 ix0 ix1 hf H locs cells slots ls hw hl
  unfold pc_X4_putNumber_0 at hf
  refine lv_iconst (v := rI 1) hx hb dX4_putNumber_0 rfl ?_
  refine cl_istore_n (lv' := [(2, .int (rI 1)), (0, cR v x0), (1, .int (rI x1))]) hx hb dX4_putNumber_1 rfl hl (by decide) rfl (fun ls hl => ?_)
  refine lv_iconst (v := rI 1) hx hb dX4_putNumber_2 rfl ?_
  refine cl_istore_n (lv' := [(3, .int (rI 1)), (2, .int (rI 1)), (0, cR v x0), (1, .int (rI x1))]) hx hb dX4_putNumber_3 rfl hl (by decide) rfl (fun ls hl => ?_)
  exact pw_X4_putNumber_4 rfl hR htr hd5 B hnh 2000000 σ x0 x1 1 1 ix0 ix1 ⟨by decide, by decide⟩ ⟨by decide, by decide⟩ hf _ _ _ _ _ hw (cl_sub hl [2, 3, 1, 0] rfl)

set_option maxHeartbeats 4000000 in
set_option maxRecDepth 100000 in
theorem pm_X4_putNumber {v : cwE} {bd : cBd} {l : Launch} {d : Nat} {rec : Nat → CS → List Int → CO} (hbd : bd = cw_bd v) (hR : cw_Rec l v d rec) (htr : l.stackTraces = false) (hd5 : 5 ≤ d) (σ σ' : CS) (x0 x1 : Int) (kd : Nat) (r : Int) (ix0 : inR x0) (ix1 : inR x1) (hf : pc_X4_putNumber_0 rec bd σ x0 x1 = some (σ', kd, r)) : cw_Met l v yX4_putNumber cX4_putNumber 4 none (d + 1) [cR v x0, .int (rI x1)] σ σ' kd none := by
  refine cw_ofW (by decide +kernel) ?_
  intro p e s m args below meth c s₁ B hml hv
  obtain ⟨rfl, hM, hK⟩ := hv
  have hts := atoms_spec (ws := Cond.code yX4_putNumber cX4_putNumber 4 none :: cw_bw) B.pre
  have hB : cw_B v RX4 p s m _ meth c cX4_putNumber 4 none := ⟨B.exec, B.bytes, B.returns, hml, findClass_of_methodNamed B.named, fun w h => hts w (List.mem_cons_of_mem _ h), B.notSynchronized, hK⟩
  have hnh := cc_nh B (hts _ List.mem_cons_self)
  rw [lg_entry_eq]
  obtain ⟨ls, hls, hl⟩ := cl_ent [cR v x0, .int (rI x1)] 4 (cl_1r (cl_1i cl_10)) (Nat.le_of_ble_eq_true rfl)
  rw [hls]
  exact pw_X4_putNumber_0 hbd hR htr hd5 hB hnh σ x0 x1 ix0 ix1 hf _ _ _ _ _ (cw_W0 hM) (cl_sub hl [0, 1] rfl)

set_option maxHeartbeats 4000000 in
set_option maxRecDepth 100000 in
theorem pw_X4_putSigns_22 {v : cwE} {bd : cBd} {p : Program} {l : Launch} {e : Env} {s : State} {m : MethodId} {args : Array Value} {below : List Frame} {meth : Method} {c : Code} {d : Nat} {rec : Nat → CS → List Int → CO} {σ0 σ' : CS} {kd : Nat} {r : Int} (hbd : bd = cw_bd v) (hR : cw_Rec l v d rec) (htr : l.stackTraces = false) (hd5 : 5 ≤ d) (B : cw_B v RX4 p s m args meth c cX4_putSigns 5 none) (hnh : ∀ x ∈ c.exceptionTable.toList, False) : ∀ (n : Nat) (σ : CS) (x0 x1 x2 x3 x4 : Int), inR x0 → inR x1 → inR x2 → inR x3 → inR x4 → pc_X4_putSigns_22 rec bd n σ x0 x1 x2 x3 x4 = some (σ', kd, r) → ∀ (H : Heap) (locs : List Loc) (cells slots : Nat) (ls : Array Slot), cw_W v s σ0 σ H locs cells slots → cl_has ls 5 [(0, cR v x0), (1, cR v x1), (2, .int (rI x2)), (3, .int (rI x3)), (4, .int (rI x4))] → W p l e (cw_rm v (d + 1) σ0) s m args below meth c H locs cells slots (cw_Z below v σ0 σ' kd none args s) (F0 m 22 ls []) := by
  subst hbd
  obtain ⟨hx, hb, hr, hml, hown, hts, hlk, hK⟩ := id B
  intro n
  induction n with
  | zero => intro σ x0 x1 x2 x3 x4 ix0 ix1 ix2 ix3 ix4 hf; cases hf
  | succ n ih =>
    intro σ x0 x1 x2 x3 x4 ix0 ix1 ix2 ix3 ix4 hf H locs cells slots ls hw hl
    unfold pc_X4_putSigns_22 at hf
    refine lv_iload hx hb dX4_putSigns_22 (lv_at hl.1 4 rfl) ?_
    refine lv_iload_n hx hb dX4_putSigns_24 rfl (lv_at hl.1 3 rfl) ?_
    refine rn_icmp_ge (a := x4) (b := x3) (tgt := 45) hx hb ix4 ix3 dX4_putSigns_25 (by decide) (fun c1 => ?_) (fun c1 => ?_)
    · replace hf := cc_if_t hf c1
      exact cw_retv B hf hw dX4_putSigns_45
    · replace hf := cc_if_f hf c1
      refine cl_aload_n hx hb dX4_putSigns_28 rfl (lv_at hl.1 0 rfl) ?_
      refine cl_aload_n hx hb dX4_putSigns_29 rfl (lv_at hl.1 1 rfl) ?_
      refine lv_iload_n hx hb dX4_putSigns_30 rfl (lv_at hl.1 2 rfl) ?_
      refine lv_iload hx hb dX4_putSigns_31 (lv_at hl.1 4 rfl) ?_
      obtain ⟨qσ2, hf⟩ := cc_t_s hf
      obtain ⟨σ2, kv3, z4, hσ2, hf⟩ := cc_cl_s hf
      obtain ⟨iz4, mσ2⟩ := hR 103 σ [x1, x2, x4] σ2 kv3 z4 hσ2
      have mσ2 : cw_Met l v yX5_signOf cX5_signOf 3 (some .int) d [cR v x1, .int (rI x2), .int (rI x4)] σ σ2 kv3 (some (.int (rI z4))) := mσ2 ix1 ix2 ix4
      refine cw_cv (b := x1) (t := 6) (n := 2) (rest := [cR v x0]) (As := [.int (rI x2), .int (rI x4)]) B mσ2 qσ2 ⟨by decide, by decide⟩ cgo_yX5_signOf cml_X4_200 cin_yX5_signOf cse_yX5_signOf (by decide +kernel) (by decide) rfl hl.1.1 (cl_cs (cl_1r cl_10) (Nat.le_of_ble_eq_true rfl)) dX4_putSigns_33 rfl hw (fun h0 H locs cells slots hw => ?_) (fun h0 H locs cells slots q ce hw h1 h2 h3 => ?_)
      · rcases hf with ⟨-, hf⟩ | ⟨hk, -⟩
        · skip
          obtain ⟨qσ5, hf⟩ := cc_t_s hf
          obtain ⟨σ5, kv6, z7, hσ5, hf⟩ := cc_cl_s hf
          obtain ⟨iz7, mσ5⟩ := hR 88 σ2 [x0, z4] σ5 kv6 z7 hσ5
          have mσ5 : cw_Met l v yX4_put cX4_put 2 none d [cR v x0, .int (rI z4)] σ2 σ5 kv6 none := mσ5 ix0 iz4
          refine cw_cv (b := x0) (t := 5) (n := 1) (rest := []) (As := [.int (rI z4)]) B mσ5 qσ5 ⟨by decide, by decide⟩ cgo_yX4_put cml_X4_60 cin_yX4_put cse_yX4_put (by decide +kernel) (by decide) rfl hl.1.1 (Nat.le_of_ble_eq_true rfl) dX4_putSigns_36 rfl hw (fun h0 H locs cells slots hw => ?_) (fun h0 H locs cells slots q ce hw h1 h2 h3 => ?_)
          · rcases hf with ⟨-, hf⟩ | ⟨hk, -⟩
            · skip
              obtain ⟨z8, ez8, iz8, hf⟩ := cc_ck_s hf
              refine cl_iinc (v := rI z8) (lv' := [(4, .int (rI z8)), (0, cR v x0), (1, cR v x1), (2, .int (rI x2)), (3, .int (rI x3))]) hx hb dX4_putSigns_39 hl (k := 4) rfl (by rw [ez8]; exact rI_add _ _) (by decide) rfl (fun ls hl => ?_)
              refine lv_goto (tgt := 22) hx hb dX4_putSigns_42 (by decide) ?_
              exact ih σ5 x0 x1 x2 x3 z8 ix0 ix1 ix2 ix3 iz8 hf _ _ _ _ _ hw (cl_sub hl [1, 2, 3, 4, 0] rfl)
            · exact absurd h0 hk
          · rcases hf with ⟨hk, -⟩ | ⟨-, hf⟩
            · exact absurd hk h0
            · cases hf
              exact cw_xout B hnh h0 hw h1 h2 h3
        · exact absurd h0 hk
      · rcases hf with ⟨hk, -⟩ | ⟨-, hf⟩
        · exact absurd hk h0
        · cases hf
          exact cw_xout B hnh h0 hw h1 h2 h3

set_option maxHeartbeats 4000000 in
set_option maxRecDepth 100000 in
theorem pw_X4_putSigns_18 {v : cwE} {bd : cBd} {p : Program} {l : Launch} {e : Env} {s : State} {m : MethodId} {args : Array Value} {below : List Frame} {meth : Method} {c : Code} {d : Nat} {rec : Nat → CS → List Int → CO} {σ0 σ' : CS} {kd : Nat} {r : Int} (hbd : bd = cw_bd v) (hR : cw_Rec l v d rec) (htr : l.stackTraces = false) (hd5 : 5 ≤ d) (B : cw_B v RX4 p s m args meth c cX4_putSigns 5 none) (hnh : ∀ x ∈ c.exceptionTable.toList, False) : ∀ (σ : CS) (x0 x1 x2 t0 : Int), inR x0 → inR x1 → inR x2 → inR t0 → pc_X4_putSigns_18 rec bd σ x0 x1 x2 t0 = some (σ', kd, r) → ∀ (H : Heap) (locs : List Loc) (cells slots : Nat) (ls : Array Slot), cw_W v s σ0 σ H locs cells slots → cl_has ls 5 [(0, cR v x0), (1, cR v x1), (2, .int (rI x2))] → W p l e (cw_rm v (d + 1) σ0) s m args below meth c H locs cells slots (cw_Z below v σ0 σ' kd none args s) (F0 m 18 ls [.int (rI t0)]) := by
  subst hbd
  obtain ⟨hx, hb, hr, hml, hown, hts, hlk, hK⟩ := id B
  intro σ x0 x1 x2 t0 ix0 ix1 ix2 it0 hf H locs cells slots ls hw hl
  unfold pc_X4_putSigns_18 at hf
  refine cl_istore_n (lv' := [(3, .int (rI t0)), (0, cR v x0), (1, cR v x1), (2, .int (rI x2))]) hx hb dX4_putSigns_18 rfl hl (by decide) rfl (fun ls hl => ?_)
  refine lv_iconst (v := rI 0) hx hb dX4_putSigns_19 rfl ?_
  refine cl_istore (lv' := [(4, .int (rI 0)), (3, .int (rI t0)), (0, cR v x0), (1, cR v x1), (2, .int (rI x2))]) hx hb dX4_putSigns_20 hl (by decide) rfl (fun ls hl => ?_)
  exact pw_X4_putSigns_22 rfl hR htr hd5 B hnh 2000000 σ x0 x1 x2 t0 0 ix0 ix1 ix2 it0 ⟨by decide, by decide⟩ hf _ _ _ _ _ hw (cl_sub hl [2, 3, 4, 1, 0] rfl)

set_option maxHeartbeats 4000000 in
set_option maxRecDepth 100000 in
theorem pw_X4_putSigns_0 {v : cwE} {bd : cBd} {p : Program} {l : Launch} {e : Env} {s : State} {m : MethodId} {args : Array Value} {below : List Frame} {meth : Method} {c : Code} {d : Nat} {rec : Nat → CS → List Int → CO} {σ0 σ' : CS} {kd : Nat} {r : Int} (hbd : bd = cw_bd v) (hR : cw_Rec l v d rec) (htr : l.stackTraces = false) (hd5 : 5 ≤ d) (B : cw_B v RX4 p s m args meth c cX4_putSigns 5 none) (hnh : ∀ x ∈ c.exceptionTable.toList, False) : ∀ (σ : CS) (x0 x1 x2 : Int), inR x0 → inR x1 → inR x2 → pc_X4_putSigns_0 rec bd σ x0 x1 x2 = some (σ', kd, r) → ∀ (H : Heap) (locs : List Loc) (cells slots : Nat) (ls : Array Slot), cw_W v s σ0 σ H locs cells slots → cl_has ls 5 [(0, cR v x0), (1, cR v x1), (2, .int (rI x2))] → W p l e (cw_rm v (d + 1) σ0) s m args below meth c H locs cells slots (cw_Z below v σ0 σ' kd none args s) (F0 m 0 ls []) := by
  subst hbd
  obtain ⟨hx, hb, hr, hml, hown, hts, hlk, hK⟩ := id B
  intro σ x0 x1 x2 ix0 ix1 ix2 hf H locs cells slots ls hw hl
  unfold pc_X4_putSigns_0 at hf
  refine cl_aload_n hx hb dX4_putSigns_0 rfl (lv_at hl.1 1 rfl) ?_
  refine lv_iload_n hx hb dX4_putSigns_1 rfl (lv_at hl.1 2 rfl) ?_
  obtain ⟨qσ1, hf⟩ := cc_t_s hf
  obtain ⟨σ1, kv2, z3, hσ1, hf⟩ := cc_cl_s hf
  obtain ⟨iz3, mσ1⟩ := hR 100 σ [x1, x2] σ1 kv2 z3 hσ1
  have mσ1 : cw_Met l v yX5_has cX5_has 2 (some .boolean) d [cR v x1, .int (rI x2)] σ σ1 kv2 (some (.int (rI z3))) := mσ1 ix1 ix2
  refine cw_cv (b := x1) (t := 6) (n := 1) (rest := []) (As := [.int (rI x2)]) B mσ1 qσ1 ⟨by decide, by decide⟩ cgo_yX5_has cml_X4_191 cin_yX5_has cse_yX5_has (by decide +kernel) (by decide) rfl hl.1.1 (Nat.le_of_ble_eq_true rfl) dX4_putSigns_2 rfl hw (fun h0 H locs cells slots hw => ?_) (fun h0 H locs cells slots q ce hw h1 h2 h3 => ?_)
  · rcases hf with ⟨-, hf⟩ | ⟨hk, -⟩
    · skip
      refine rn_if_eq (a := z3) (tgt := 17) hx hb iz3 dX4_putSigns_5 (by decide) (fun c4 => ?_) (fun c4 => ?_)
      · replace hf := cc_if_t hf c4
        refine lv_iconst (v := rI 0) hx hb dX4_putSigns_17 rfl ?_
        exact pw_X4_putSigns_18 rfl hR htr hd5 B hnh σ1 x0 x1 x2 0 ix0 ix1 ix2 ⟨by decide, by decide⟩ hf _ _ _ _ _ hw (cl_sub hl [0, 1, 2] rfl)
      · replace hf := cc_if_f hf c4
        refine cl_aload_n hx hb dX4_putSigns_8 rfl (lv_at hl.1 1 rfl) ?_
        obtain ⟨z5, ez5, iz5, rz5, hf⟩ := cc_g_s hw hf
        refine cw_get (val := cR v z5) B hw rz5 ⟨by decide, by decide⟩ (by decide) cwi_6 cfl_X4_197 ez5 rfl dX4_putSigns_9 ?_
        refine lv_iload_n hx hb dX4_putSigns_12 rfl (lv_at hl.1 2 rfl) ?_
        obtain ⟨z6, ez6, iz6, rz6, bz6, hf⟩ := cc_r_s hw hf
        refine cw_aldI B hw rz6 ix2 bz6 ez6 dX4_putSigns_13 ?_
        refine lv_goto (tgt := 18) hx hb dX4_putSigns_14 (by decide) ?_
        exact pw_X4_putSigns_18 rfl hR htr hd5 B hnh σ1 x0 x1 x2 z6 ix0 ix1 ix2 iz6 hf _ _ _ _ _ hw (cl_sub hl [0, 1, 2] rfl)
    · exact absurd h0 hk
  · rcases hf with ⟨hk, -⟩ | ⟨-, hf⟩
    · exact absurd hk h0
    · cases hf
      exact cw_xout B hnh h0 hw h1 h2 h3

set_option maxHeartbeats 4000000 in
set_option maxRecDepth 100000 in
theorem pm_X4_putSigns {v : cwE} {bd : cBd} {l : Launch} {d : Nat} {rec : Nat → CS → List Int → CO} (hbd : bd = cw_bd v) (hR : cw_Rec l v d rec) (htr : l.stackTraces = false) (hd5 : 5 ≤ d) (σ σ' : CS) (x0 x1 x2 : Int) (kd : Nat) (r : Int) (ix0 : inR x0) (ix1 : inR x1) (ix2 : inR x2) (hf : pc_X4_putSigns_0 rec bd σ x0 x1 x2 = some (σ', kd, r)) : cw_Met l v yX4_putSigns cX4_putSigns 5 none (d + 1) [cR v x0, cR v x1, .int (rI x2)] σ σ' kd none := by
  refine cw_ofW (by decide +kernel) ?_
  intro p e s m args below meth c s₁ B hml hv
  obtain ⟨rfl, hM, hK⟩ := hv
  have hts := atoms_spec (ws := Cond.code yX4_putSigns cX4_putSigns 5 none :: cw_bw) B.pre
  have hB : cw_B v RX4 p s m _ meth c cX4_putSigns 5 none := ⟨B.exec, B.bytes, B.returns, hml, findClass_of_methodNamed B.named, fun w h => hts w (List.mem_cons_of_mem _ h), B.notSynchronized, hK⟩
  have hnh := cc_nh B (hts _ List.mem_cons_self)
  rw [lg_entry_eq]
  obtain ⟨ls, hls, hl⟩ := cl_ent [cR v x0, cR v x1, .int (rI x2)] 5 (cl_1r (cl_1r (cl_1i cl_10))) (Nat.le_of_ble_eq_true rfl)
  rw [hls]
  exact pw_X4_putSigns_0 hbd hR htr hd5 hB hnh σ x0 x1 x2 ix0 ix1 ix2 hf _ _ _ _ _ (cw_W0 hM) (cl_sub hl [0, 1, 2] rfl)

set_option maxHeartbeats 4000000 in
set_option maxRecDepth 100000 in
theorem pw_X4_spend_47 {v : cwE} {bd : cBd} {p : Program} {l : Launch} {e : Env} {s : State} {m : MethodId} {args : Array Value} {below : List Frame} {meth : Method} {c : Code} {d : Nat} {rec : Nat → CS → List Int → CO} {σ0 σ' : CS} {kd : Nat} {r : Int} (hbd : bd = cw_bd v) (hR : cw_Rec l v d rec) (htr : l.stackTraces = false) (hd5 : 5 ≤ d) (B : cw_B v RX4 p s m args meth c cX4_spend 3 none) (hnh : ∀ x ∈ c.exceptionTable.toList, False) : ∀ (σ : CS) (x0 t0 t1 : Int), inR x0 → inR t0 → inR t1 → pc_X4_spend_47 rec bd σ x0 t0 t1 = some (σ', kd, r) → ∀ (H : Heap) (locs : List Loc) (cells slots : Nat) (ls : Array Slot), cw_W v s σ0 σ H locs cells slots → cl_has ls 3 [(0, cR v x0)] → W p l e (cw_rm v (d + 1) σ0) s m args below meth c H locs cells slots (cw_Z below v σ0 σ' kd none args s) (F0 m 47 ls [.int (rI t0), cR v t1]) := by
  subst hbd
  obtain ⟨hx, hb, hr, hml, hown, hts, hlk, hK⟩ := id B
  intro σ x0 t0 t1 ix0 it0 it1 hf H locs cells slots ls hw hl
  unfold pc_X4_spend_47 at hf
  obtain ⟨σ1, eσ1, rσ1, hf⟩ := cc_p_s hf
  refine cw_put B hw rσ1 cwt_11 (by decide) rfl cfl_X4_84 it0 eσ1 rfl (cw_fv_n rfl rfl) dX4_spend_47 (fun H locs hw => ?_)
  refine cl_aload_n hx hb dX4_spend_50 rfl (lv_at hl.1 0 rfl) ?_
  obtain ⟨z2, ez2, iz2, rz2, hf⟩ := cc_g_s hw hf
  refine cw_get (val := cR v z2) B hw rz2 ⟨by decide, by decide⟩ (by decide) cwi_5 cfl_X4_36 ez2 rfl dX4_spend_51 ?_
  refine cl_aload_n hx hb dX4_spend_54 rfl (lv_at hl.1 0 rfl) ?_
  obtain ⟨z3, ez3, iz3, rz3, hf⟩ := cc_g_s hw hf
  refine cw_get (val := .int (rI z3)) B hw rz3 ⟨by decide, by decide⟩ (by decide) cwi_5 cfl_X4_22 ez3 rfl dX4_spend_55 ?_
  obtain ⟨σ4, eσ4, rσ4, hf⟩ := cc_p_s hf
  refine cw_put B hw rσ4 cwt_11 (by decide) rfl cfl_X4_89 iz3 eσ4 rfl (cw_fv_n rfl rfl) dX4_spend_58 (fun H locs hw => ?_)
  obtain ⟨hy, hm⟩ := cc_x_s hf
  obtain ⟨hy1, hy2⟩ := Prod.mk.inj hy
  obtain ⟨hy2, hy3⟩ := Prod.mk.inj hy2
  subst hy2
  refine cw_throw (rest := []) B hnh htr hw (by decide) (by decide +kernel) cxc_X4_92 cxi_1 (cw_hat cxa_X4_94 (by decide +kernel) hts hK.1) (List.all_eq_true.mp cxg_X4_94) hd5 hm hy1 hl.1.1 (Nat.le_of_ble_eq_true rfl) dX4_spend_61 dX4_spend_64 dX4_spend_65 dX4_spend_68

set_option maxHeartbeats 4000000 in
set_option maxRecDepth 100000 in
theorem pw_X4_spend_32 {v : cwE} {bd : cBd} {p : Program} {l : Launch} {e : Env} {s : State} {m : MethodId} {args : Array Value} {below : List Frame} {meth : Method} {c : Code} {d : Nat} {rec : Nat → CS → List Int → CO} {σ0 σ' : CS} {kd : Nat} {r : Int} (hbd : bd = cw_bd v) (hR : cw_Rec l v d rec) (htr : l.stackTraces = false) (hd5 : 5 ≤ d) (B : cw_B v RX4 p s m args meth c cX4_spend 3 none) (hnh : ∀ x ∈ c.exceptionTable.toList, False) : ∀ (σ : CS) (x0 x2 : Int), inR x0 → inR x2 → pc_X4_spend_32 rec bd σ x0 x2 = some (σ', kd, r) → ∀ (H : Heap) (locs : List Loc) (cells slots : Nat) (ls : Array Slot), cw_W v s σ0 σ H locs cells slots → cl_has ls 3 [(0, cR v x0), (2, .int (rI x2))] → W p l e (cw_rm v (d + 1) σ0) s m args below meth c H locs cells slots (cw_Z below v σ0 σ' kd none args s) (F0 m 32 ls []) := by
  subst hbd
  obtain ⟨hx, hb, hr, hml, hown, hts, hlk, hK⟩ := id B
  intro σ x0 x2 ix0 ix2 hf H locs cells slots ls hw hl
  unfold pc_X4_spend_32 at hf
  refine cl_aload_n hx hb dX4_spend_32 rfl (lv_at hl.1 0 rfl) ?_
  obtain ⟨z1, ez1, iz1, rz1, hf⟩ := cc_g_s hw hf
  refine cw_get (val := cR v z1) B hw rz1 ⟨by decide, by decide⟩ (by decide) cwi_5 cfl_X4_36 ez1 rfl dX4_spend_33 ?_
  refine lv_iload_n hx hb dX4_spend_36 rfl (lv_at hl.1 1 rfl) ?_
  refine rn_if_eq (a := x2) (tgt := 45) hx hb ix2 dX4_spend_37 (by decide) (fun c2 => ?_) (fun c2 => ?_)
  · replace hf := cc_if_t hf c2
    refine lv_bipush (v := rI 14) hx hb dX4_spend_45 (by decide +kernel) ?_
    exact pw_X4_spend_47 rfl hR htr hd5 B hnh σ x0 14 z1 ix0 ⟨by decide, by decide⟩ iz1 hf _ _ _ _ _ hw (cl_sub hl [0] rfl)
  · replace hf := cc_if_f hf c2
    refine lv_bipush (v := rI 12) hx hb dX4_spend_40 (by decide +kernel) ?_
    refine lv_goto (tgt := 47) hx hb dX4_spend_42 (by decide) ?_
    exact pw_X4_spend_47 rfl hR htr hd5 B hnh σ x0 12 z1 ix0 ⟨by decide, by decide⟩ iz1 hf _ _ _ _ _ hw (cl_sub hl [0] rfl)

set_option maxHeartbeats 4000000 in
set_option maxRecDepth 100000 in
theorem pw_X4_spend_18 {v : cwE} {bd : cBd} {p : Program} {l : Launch} {e : Env} {s : State} {m : MethodId} {args : Array Value} {below : List Frame} {meth : Method} {c : Code} {d : Nat} {rec : Nat → CS → List Int → CO} {σ0 σ' : CS} {kd : Nat} {r : Int} (hbd : bd = cw_bd v) (hR : cw_Rec l v d rec) (htr : l.stackTraces = false) (hd5 : 5 ≤ d) (B : cw_B v RX4 p s m args meth c cX4_spend 3 none) (hnh : ∀ x ∈ c.exceptionTable.toList, False) : ∀ (σ : CS) (x0 x1 t0 : Int), inR x0 → inR x1 → inR t0 → pc_X4_spend_18 rec bd σ x0 x1 t0 = some (σ', kd, r) → ∀ (H : Heap) (locs : List Loc) (cells slots : Nat) (ls : Array Slot), cw_W v s σ0 σ H locs cells slots → cl_has ls 3 [(0, cR v x0), (1, .int (rI x1))] → W p l e (cw_rm v (d + 1) σ0) s m args below meth c H locs cells slots (cw_Z below v σ0 σ' kd none args s) (F0 m 18 ls [.int (rI t0)]) := by
  subst hbd
  obtain ⟨hx, hb, hr, hml, hown, hts, hlk, hK⟩ := id B
  intro σ x0 x1 t0 ix0 ix1 it0 hf H locs cells slots ls hw hl
  unfold pc_X4_spend_18 at hf
  refine cl_istore_n (lv' := [(2, .int (rI t0)), (0, cR v x0), (1, .int (rI x1))]) hx hb dX4_spend_18 rfl hl (by decide) rfl (fun ls hl => ?_)
  refine lv_iload_n hx hb dX4_spend_19 rfl (lv_at hl.1 0 rfl) ?_
  refine rn_if_ne (a := t0) (tgt := 32) hx hb it0 dX4_spend_20 (by decide) (fun c1 => ?_) (fun c1 => ?_)
  · replace hf := cc_if_t hf c1
    exact pw_X4_spend_32 rfl hR htr hd5 B hnh σ x0 t0 ix0 it0 hf _ _ _ _ _ hw (cl_sub hl [1, 0] rfl)
  · replace hf := cc_if_f hf c1
    refine cl_aload_n hx hb dX4_spend_23 rfl (lv_at hl.1 1 rfl) ?_
    obtain ⟨z2, ez2, iz2, rz2, hf⟩ := cc_g_s hw hf
    refine cw_get (val := .int (rI z2)) B hw rz2 ⟨by decide, by decide⟩ (by decide) cwi_5 cfl_X4_15 ez2 rfl dX4_spend_24 ?_
    refine lv_ldc (v := rI 60000) hx hb hown (hts _ clc_X4_83) dX4_spend_27 ?_
    refine rn_icmp_lt (a := z2) (b := 60000) (tgt := 69) hx hb iz2 ⟨by decide, by decide⟩ dX4_spend_29 (by decide) (fun c3 => ?_) (fun c3 => ?_)
    · replace hf := cc_if_t hf c3
      refine cl_aload_n hx hb dX4_spend_69 rfl (lv_at hl.1 1 rfl) ?_
      obtain ⟨z4, ez4, iz4, rz4, hf⟩ := cc_g_s hw hf
      refine cw_get (val := cR v z4) B hw rz4 ⟨by decide, by decide⟩ (by decide) cwi_5 cfl_X4_9 ez4 rfl dX4_spend_70 ?_
      refine lv_iconst (v := rI 0) hx hb dX4_spend_73 rfl ?_
      refine lv_dup2_11 hx hb dX4_spend_74 rfl (cR_cat _) ?_
      obtain ⟨z5, ez5, iz5, rz5, bz5, hf⟩ := cc_r_s hw hf
      refine cw_aldI B hw rz5 ⟨by decide, by decide⟩ bz5 ez5 dX4_spend_75 ?_
      refine lv_iconst (v := rI 1) hx hb dX4_spend_76 rfl ?_
      obtain ⟨z6, ez6, iz6, hf⟩ := cc_ck_s hf
      refine rn_add hx hb ez6 dX4_spend_77 ?_
      obtain ⟨σ7, eσ7, rσ7, bσ7, hf⟩ := cc_w_s hf
      refine cw_astI B hw rσ7 ⟨by decide, by decide⟩ bσ7 iz6 eσ7 dX4_spend_78 (fun H locs hw => ?_)
      refine cl_aload_n hx hb dX4_spend_79 rfl (lv_at hl.1 1 rfl) ?_
      obtain ⟨z8, ez8, iz8, rz8, hf⟩ := cc_g_s hw hf
      refine cw_get (val := cR v z8) B hw rz8 ⟨by decide, by decide⟩ (by decide) cwi_5 cfl_X4_9 ez8 rfl dX4_spend_80 ?_
      refine lv_iload_n hx hb dX4_spend_83 rfl (lv_at hl.1 2 rfl) ?_
      refine lv_dup2_11 hx hb dX4_spend_84 rfl (cR_cat _) ?_
      obtain ⟨z9, ez9, iz9, rz9, bz9, hf⟩ := cc_r_s hw hf
      refine cw_aldI B hw rz9 ix1 bz9 ez9 dX4_spend_85 ?_
      refine lv_iconst (v := rI 1) hx hb dX4_spend_86 rfl ?_
      obtain ⟨z10, ez10, iz10, hf⟩ := cc_ck_s hf
      refine rn_add hx hb ez10 dX4_spend_87 ?_
      obtain ⟨σ11, eσ11, rσ11, bσ11, hf⟩ := cc_w_s hf
      refine cw_astI B hw rσ11 ix1 bσ11 iz10 eσ11 dX4_spend_88 (fun H locs hw => ?_)
      refine cl_aload_n hx hb dX4_spend_89 rfl (lv_at hl.1 1 rfl) ?_
      refine lv_dup hx hb dX4_spend_90 (cR_cat _) ?_
      obtain ⟨z12, ez12, iz12, rz12, hf⟩ := cc_g_s hw hf
      refine cw_get (val := .int (rI z12)) B hw rz12 ⟨by decide, by decide⟩ (by decide) cwi_5 cfl_X4_15 ez12 rfl dX4_spend_91 ?_
      refine lv_iconst (v := rI 1) hx hb dX4_spend_94 rfl ?_
      obtain ⟨z13, ez13, iz13, hf⟩ := cc_ck_s hf
      refine rn_add hx hb ez13 dX4_spend_95 ?_
      obtain ⟨σ14, eσ14, rσ14, hf⟩ := cc_p_s hf
      refine cw_put B hw rσ14 cwt_5 (by decide) rfl cfl_X4_15 iz13 eσ14 rfl (cw_fv_n rfl rfl) dX4_spend_96 (fun H locs hw => ?_)
      exact cw_retv B hf hw dX4_spend_99
    · replace hf := cc_if_f hf c3
      exact pw_X4_spend_32 rfl hR htr hd5 B hnh σ x0 t0 ix0 it0 hf _ _ _ _ _ hw (cl_sub hl [1, 0] rfl)

set_option maxHeartbeats 4000000 in
set_option maxRecDepth 100000 in
theorem pw_X4_spend_0 {v : cwE} {bd : cBd} {p : Program} {l : Launch} {e : Env} {s : State} {m : MethodId} {args : Array Value} {below : List Frame} {meth : Method} {c : Code} {d : Nat} {rec : Nat → CS → List Int → CO} {σ0 σ' : CS} {kd : Nat} {r : Int} (hbd : bd = cw_bd v) (hR : cw_Rec l v d rec) (htr : l.stackTraces = false) (hd5 : 5 ≤ d) (B : cw_B v RX4 p s m args meth c cX4_spend 3 none) (hnh : ∀ x ∈ c.exceptionTable.toList, False) : ∀ (σ : CS) (x0 x1 : Int), inR x0 → inR x1 → pc_X4_spend_0 rec bd σ x0 x1 = some (σ', kd, r) → ∀ (H : Heap) (locs : List Loc) (cells slots : Nat) (ls : Array Slot), cw_W v s σ0 σ H locs cells slots → cl_has ls 3 [(0, cR v x0), (1, .int (rI x1))] → W p l e (cw_rm v (d + 1) σ0) s m args below meth c H locs cells slots (cw_Z below v σ0 σ' kd none args s) (F0 m 0 ls []) := by
  subst hbd
  obtain ⟨hx, hb, hr, hml, hown, hts, hlk, hK⟩ := id B
  intro σ x0 x1 ix0 ix1 hf H locs cells slots ls hw hl
  unfold pc_X4_spend_0 at hf
  refine cl_aload_n hx hb dX4_spend_0 rfl (lv_at hl.1 0 rfl) ?_
  obtain ⟨z1, ez1, iz1, rz1, hf⟩ := cc_g_s hw hf
  refine cw_get (val := cR v z1) B hw rz1 ⟨by decide, by decide⟩ (by decide) cwi_5 cfl_X4_9 ez1 rfl dX4_spend_1 ?_
  refine lv_iconst (v := rI 0) hx hb dX4_spend_4 rfl ?_
  obtain ⟨z2, ez2, iz2, rz2, bz2, hf⟩ := cc_r_s hw hf
  refine cw_aldI B hw rz2 ⟨by decide, by decide⟩ bz2 ez2 dX4_spend_5 ?_
  refine cl_aload_n hx hb dX4_spend_6 rfl (lv_at hl.1 0 rfl) ?_
  obtain ⟨z3, ez3, iz3, rz3, hf⟩ := cc_g_s hw hf
  refine cw_get (val := .int (rI z3)) B hw rz3 ⟨by decide, by decide⟩ (by decide) cwi_5 cfl_X4_19 ez3 rfl dX4_spend_7 ?_
  refine rn_icmp_lt (a := z2) (b := z3) (tgt := 17) hx hb iz2 iz3 dX4_spend_10 (by decide) (fun c4 => ?_) (fun c4 => ?_)
  · replace hf := cc_if_t hf c4
    refine lv_iconst (v := rI 0) hx hb dX4_spend_17 rfl ?_
    exact pw_X4_spend_18 rfl hR htr hd5 B hnh σ x0 x1 0 ix0 ix1 ⟨by decide, by decide⟩ hf _ _ _ _ _ hw (cl_sub hl [0, 1] rfl)
  · replace hf := cc_if_f hf c4
    refine lv_iconst (v := rI 1) hx hb dX4_spend_13 rfl ?_
    refine lv_goto (tgt := 18) hx hb dX4_spend_14 (by decide) ?_
    exact pw_X4_spend_18 rfl hR htr hd5 B hnh σ x0 x1 1 ix0 ix1 ⟨by decide, by decide⟩ hf _ _ _ _ _ hw (cl_sub hl [0, 1] rfl)

set_option maxHeartbeats 4000000 in
set_option maxRecDepth 100000 in
theorem pm_X4_spend {v : cwE} {bd : cBd} {l : Launch} {d : Nat} {rec : Nat → CS → List Int → CO} (hbd : bd = cw_bd v) (hR : cw_Rec l v d rec) (htr : l.stackTraces = false) (hd5 : 5 ≤ d) (σ σ' : CS) (x0 x1 : Int) (kd : Nat) (r : Int) (ix0 : inR x0) (ix1 : inR x1) (hf : pc_X4_spend_0 rec bd σ x0 x1 = some (σ', kd, r)) : cw_Met l v yX4_spend cX4_spend 3 none (d + 1) [cR v x0, .int (rI x1)] σ σ' kd none := by
  refine cw_ofW (by decide +kernel) ?_
  intro p e s m args below meth c s₁ B hml hv
  obtain ⟨rfl, hM, hK⟩ := hv
  have hts := atoms_spec (ws := Cond.code yX4_spend cX4_spend 3 none :: cw_bw) B.pre
  have hB : cw_B v RX4 p s m _ meth c cX4_spend 3 none := ⟨B.exec, B.bytes, B.returns, hml, findClass_of_methodNamed B.named, fun w h => hts w (List.mem_cons_of_mem _ h), B.notSynchronized, hK⟩
  have hnh := cc_nh B (hts _ List.mem_cons_self)
  rw [lg_entry_eq]
  obtain ⟨ls, hls, hl⟩ := cl_ent [cR v x0, .int (rI x1)] 3 (cl_1r (cl_1i cl_10)) (Nat.le_of_ble_eq_true rfl)
  rw [hls]
  exact pw_X4_spend_0 hbd hR htr hd5 hB hnh σ x0 x1 ix0 ix1 hf _ _ _ _ _ (cw_W0 hM) (cl_sub hl [0, 1] rfl)

set_option maxHeartbeats 4000000 in
set_option maxRecDepth 100000 in
theorem pw_X4_tell_205 {v : cwE} {bd : cBd} {p : Program} {l : Launch} {e : Env} {s : State} {m : MethodId} {args : Array Value} {below : List Frame} {meth : Method} {c : Code} {d : Nat} {rec : Nat → CS → List Int → CO} {σ0 σ' : CS} {kd : Nat} {r : Int} (hbd : bd = cw_bd v) (hR : cw_Rec l v d rec) (htr : l.stackTraces = false) (hd5 : 5 ≤ d) (B : cw_B v RX4 p s m args meth c cX4_tell 10 none) (hnh : ∀ x ∈ c.exceptionTable.toList, False) : ∀ (σ : CS) (x0 x8 : Int), inR x0 → inR x8 → pc_X4_tell_205 rec bd σ x0 x8 = some (σ', kd, r) → ∀ (H : Heap) (locs : List Loc) (cells slots : Nat) (ls : Array Slot), cw_W v s σ0 σ H locs cells slots → cl_has ls 10 [(0, cR v x0), (8, .int (rI x8))] → W p l e (cw_rm v (d + 1) σ0) s m args below meth c H locs cells slots (cw_Z below v σ0 σ' kd none args s) (F0 m 205 ls []) := by
  subst hbd
  obtain ⟨hx, hb, hr, hml, hown, hts, hlk, hK⟩ := id B
  intro σ x0 x8 ix0 ix8 hf H locs cells slots ls hw hl
  unfold pc_X4_tell_205 at hf
  refine lv_iload hx hb dX4_tell_205 (lv_at hl.1 1 rfl) ?_
  refine rn_if_eq (a := x8) (tgt := 216) hx hb ix8 dX4_tell_207 (by decide) (fun c1 => ?_) (fun c1 => ?_)
  · replace hf := cc_if_t hf c1
    exact cw_retv B hf hw dX4_tell_216
  · replace hf := cc_if_f hf c1
    refine cl_aload_n hx hb dX4_tell_210 rfl (lv_at hl.1 0 rfl) ?_
    refine lv_bipush (v := rI 41) hx hb dX4_tell_211 (by decide +kernel) ?_
    obtain ⟨qσ2, hf⟩ := cc_t_s hf
    obtain ⟨σ2, kv3, z4, hσ2, hf⟩ := cc_cl_s hf
    obtain ⟨iz4, mσ2⟩ := hR 88 σ [x0, 41] σ2 kv3 z4 hσ2
    have mσ2 : cw_Met l v yX4_put cX4_put 2 none d [cR v x0, .int (rI 41)] σ σ2 kv3 none := mσ2 ix0 ⟨by decide, by decide⟩
    refine cw_cv (b := x0) (t := 5) (n := 1) (rest := []) (As := [.int (rI 41)]) B mσ2 qσ2 ⟨by decide, by decide⟩ cgo_yX4_put cml_X4_60 cin_yX4_put cse_yX4_put (by decide +kernel) (by decide) rfl hl.1.1 (Nat.le_of_ble_eq_true rfl) dX4_tell_213 rfl hw (fun h0 H locs cells slots hw => ?_) (fun h0 H locs cells slots q ce hw h1 h2 h3 => ?_)
    · rcases hf with ⟨-, hf⟩ | ⟨hk, -⟩
      · skip
        exact cw_retv B hf hw dX4_tell_216
      · exact absurd h0 hk
    · rcases hf with ⟨hk, -⟩ | ⟨-, hf⟩
      · exact absurd hk h0
      · cases hf
        exact cw_xout B hnh h0 hw h1 h2 h3

set_option maxHeartbeats 4000000 in
set_option maxRecDepth 100000 in
theorem pw_X4_tell_164 {v : cwE} {bd : cBd} {p : Program} {l : Launch} {e : Env} {s : State} {m : MethodId} {args : Array Value} {below : List Frame} {meth : Method} {c : Code} {d : Nat} {rec : Nat → CS → List Int → CO} {σ0 σ' : CS} {kd : Nat} {r : Int} (hbd : bd = cw_bd v) (hR : cw_Rec l v d rec) (htr : l.stackTraces = false) (hd5 : 5 ≤ d) (B : cw_B v RX4 p s m args meth c cX4_tell 10 none) (hnh : ∀ x ∈ c.exceptionTable.toList, False) : ∀ (n : Nat) (σ : CS) (x0 x3 x4 x8 x9 : Int), inR x0 → inR x3 → inR x4 → inR x8 → inR x9 → pc_X4_tell_164 rec bd n σ x0 x3 x4 x8 x9 = some (σ', kd, r) → ∀ (H : Heap) (locs : List Loc) (cells slots : Nat) (ls : Array Slot), cw_W v s σ0 σ H locs cells slots → cl_has ls 10 [(0, cR v x0), (3, .int (rI x3)), (4, .int (rI x4)), (8, .int (rI x8)), (9, cR v x9)] → W p l e (cw_rm v (d + 1) σ0) s m args below meth c H locs cells slots (cw_Z below v σ0 σ' kd none args s) (F0 m 164 ls []) := by
  subst hbd
  obtain ⟨hx, hb, hr, hml, hown, hts, hlk, hK⟩ := id B
  intro n
  induction n with
  | zero => intro σ x0 x3 x4 x8 x9 ix0 ix3 ix4 ix8 ix9 hf; cases hf
  | succ n ih =>
    intro σ x0 x3 x4 x8 x9 ix0 ix3 ix4 ix8 ix9 hf H locs cells slots ls hw hl
    unfold pc_X4_tell_164 at hf
    refine cl_aload hx hb dX4_tell_164 (lv_at hl.1 4 rfl) ?_
    refine cl_ifnull (x := x9) (tgt := 205) hx hb dX4_tell_166 (by decide) (fun c1 => ?_) (fun c1 => ?_)
    · replace hf := cc_if_t hf c1
      exact pw_X4_tell_205 rfl hR htr hd5 B hnh σ x0 x8 ix0 ix8 hf _ _ _ _ _ hw (cl_sub hl [0, 3] rfl)
    · replace hf := cc_if_f hf c1
      refine cl_aload_n hx hb dX4_tell_169 rfl (lv_at hl.1 0 rfl) ?_
      refine lv_bipush (v := rI 32) hx hb dX4_tell_170 (by decide +kernel) ?_
      obtain ⟨qσ2, hf⟩ := cc_t_s hf
      obtain ⟨σ2, kv3, z4, hσ2, hf⟩ := cc_cl_s hf
      obtain ⟨iz4, mσ2⟩ := hR 88 σ [x0, 32] σ2 kv3 z4 hσ2
      have mσ2 : cw_Met l v yX4_put cX4_put 2 none d [cR v x0, .int (rI 32)] σ σ2 kv3 none := mσ2 ix0 ⟨by decide, by decide⟩
      refine cw_cv (b := x0) (t := 5) (n := 1) (rest := []) (As := [.int (rI 32)]) B mσ2 qσ2 ⟨by decide, by decide⟩ cgo_yX4_put cml_X4_60 cin_yX4_put cse_yX4_put (by decide +kernel) (by decide) rfl hl.1.1 (Nat.le_of_ble_eq_true rfl) dX4_tell_172 rfl hw (fun h0 H locs cells slots hw => ?_) (fun h0 H locs cells slots q ce hw h1 h2 h3 => ?_)
      · rcases hf with ⟨-, hf⟩ | ⟨hk, -⟩
        · skip
          refine cl_aload_n hx hb dX4_tell_175 rfl (lv_at hl.1 0 rfl) ?_
          refine cl_aload hx hb dX4_tell_176 (lv_at hl.1 4 rfl) ?_
          obtain ⟨z5, ez5, iz5, rz5, hf⟩ := cc_g_s hw hf
          refine cw_get (val := cR v z5) B hw rz5 ⟨by decide, by decide⟩ (by decide) cwi_4 cfl_X4_124 ez5 rfl dX4_tell_178 ?_
          refine cl_aload hx hb dX4_tell_181 (lv_at hl.1 4 rfl) ?_
          obtain ⟨z6, ez6, iz6, rz6, hf⟩ := cc_g_s hw hf
          refine cw_get (val := cR v z6) B hw rz6 ⟨by decide, by decide⟩ (by decide) cwi_4 cfl_X4_127 ez6 rfl dX4_tell_183 ?_
          refine lv_iload_n hx hb dX4_tell_186 rfl (lv_at hl.1 1 rfl) ?_
          refine lv_iload hx hb dX4_tell_187 (lv_at hl.1 2 rfl) ?_
          refine lv_iconst (v := rI 1) hx hb dX4_tell_189 rfl ?_
          obtain ⟨z7, ez7, iz7, hf⟩ := cc_ck_s hf
          refine rn_add hx hb ez7 dX4_tell_190 ?_
          refine lv_iconst (v := rI 2) hx hb dX4_tell_191 rfl ?_
          obtain ⟨qσ8, hf⟩ := cc_t_s hf
          obtain ⟨σ8, kv9, z10, hσ8, hf⟩ := cc_cl_s hf
          obtain ⟨iz10, mσ8⟩ := hR 94 σ2 [x0, z5, z6, x3, z7, 2] σ8 kv9 z10 hσ8
          have mσ8 : cw_Met l v yX4_tell cX4_tell 10 none d [cR v x0, cR v z5, cR v z6, .int (rI x3), .int (rI z7), .int (rI 2)] σ2 σ8 kv9 none := mσ8 ix0 iz5 iz6 ix3 iz7 ⟨by decide, by decide⟩
          refine cw_cv (b := x0) (t := 5) (n := 5) (rest := []) (As := [cR v z5, cR v z6, .int (rI x3), .int (rI z7), .int (rI 2)]) B mσ8 qσ8 ⟨by decide, by decide⟩ cgo_yX4_tell cml_X4_44 cin_yX4_tell cse_yX4_tell (by decide +kernel) (by decide) rfl hl.1.1 (Nat.le_of_ble_eq_true rfl) dX4_tell_192 rfl hw (fun h0 H locs cells slots hw => ?_) (fun h0 H locs cells slots q ce hw h1 h2 h3 => ?_)
          · rcases hf with ⟨-, hf⟩ | ⟨hk, -⟩
            · skip
              refine cl_aload hx hb dX4_tell_195 (lv_at hl.1 4 rfl) ?_
              obtain ⟨z11, ez11, iz11, rz11, hf⟩ := cc_g_s hw hf
              refine cw_get (val := cR v z11) B hw rz11 ⟨by decide, by decide⟩ (by decide) cwi_4 cfl_X4_130 ez11 rfl dX4_tell_197 ?_
              refine cl_astore (lv' := [(9, cR v z11), (0, cR v x0), (3, .int (rI x3)), (4, .int (rI x4)), (8, .int (rI x8))]) hx hb dX4_tell_200 hl (by decide) rfl (fun ls hl => ?_)
              refine lv_goto (tgt := 164) hx hb dX4_tell_202 (by decide) ?_
              exact ih σ8 x0 x3 x4 x8 z11 ix0 ix3 ix4 ix8 iz11 hf _ _ _ _ _ hw (cl_sub hl [1, 2, 3, 4, 0] rfl)
            · exact absurd h0 hk
          · rcases hf with ⟨hk, -⟩ | ⟨-, hf⟩
            · exact absurd hk h0
            · cases hf
              exact cw_xout B hnh h0 hw h1 h2 h3
        · exact absurd h0 hk
      · rcases hf with ⟨hk, -⟩ | ⟨-, hf⟩
        · exact absurd hk h0
        · cases hf
          exact cw_xout B hnh h0 hw h1 h2 h3

set_option maxHeartbeats 4000000 in
set_option maxRecDepth 100000 in
theorem pw_X4_tell_71 {v : cwE} {bd : cBd} {p : Program} {l : Launch} {e : Env} {s : State} {m : MethodId} {args : Array Value} {below : List Frame} {meth : Method} {c : Code} {d : Nat} {rec : Nat → CS → List Int → CO} {σ0 σ' : CS} {kd : Nat} {r : Int} (hbd : bd = cw_bd v) (hR : cw_Rec l v d rec) (htr : l.stackTraces = false) (hd5 : 5 ≤ d) (B : cw_B v RX4 p s m args meth c cX4_tell 10 none) (hnh : ∀ x ∈ c.exceptionTable.toList, False) : ∀ (σ : CS) (x0 x3 x4 x6 x7 x8 : Int), inR x0 → inR x3 → inR x4 → inR x6 → inR x7 → inR x8 → pc_X4_tell_71 rec bd σ x0 x3 x4 x6 x7 x8 = some (σ', kd, r) → ∀ (H : Heap) (locs : List Loc) (cells slots : Nat) (ls : Array Slot), cw_W v s σ0 σ H locs cells slots → cl_has ls 10 [(0, cR v x0), (3, .int (rI x3)), (4, .int (rI x4)), (6, cR v x6), (7, .int (rI x7)), (8, .int (rI x8))] → W p l e (cw_rm v (d + 1) σ0) s m args below meth c H locs cells slots (cw_Z below v σ0 σ' kd none args s) (F0 m 71 ls []) := by
  subst hbd
  obtain ⟨hx, hb, hr, hml, hown, hts, hlk, hK⟩ := id B
  intro σ x0 x3 x4 x6 x7 x8 ix0 ix3 ix4 ix6 ix7 ix8 hf H locs cells slots ls hw hl
  unfold pc_X4_tell_71 at hf
  refine cl_aload_n hx hb dX4_tell_71 rfl (lv_at hl.1 0 rfl) ?_
  refine cl_aload hx hb dX4_tell_72 (lv_at hl.1 3 rfl) ?_
  obtain ⟨qσ1, hf⟩ := cc_t_s hf
  obtain ⟨σ1, kv2, z3, hσ1, hf⟩ := cc_cl_s hf
  obtain ⟨iz3, mσ1⟩ := hR 90 σ [x0, x6] σ1 kv2 z3 hσ1
  have mσ1 : cw_Met l v yX4_putFront cX4_putFront 2 none d [cR v x0, cR v x6] σ σ1 kv2 none := mσ1 ix0 ix6
  refine cw_cv (b := x0) (t := 5) (n := 1) (rest := []) (As := [cR v x6]) B mσ1 qσ1 ⟨by decide, by decide⟩ cgo_yX4_putFront cml_X4_56 cin_yX4_putFront cse_yX4_putFront (by decide +kernel) (by decide) rfl hl.1.1 (Nat.le_of_ble_eq_true rfl) dX4_tell_74 rfl hw (fun h0 H locs cells slots hw => ?_) (fun h0 H locs cells slots q ce hw h1 h2 h3 => ?_)
  · rcases hf with ⟨-, hf⟩ | ⟨hk, -⟩
    · skip
      refine lv_iload hx hb dX4_tell_77 (lv_at hl.1 4 rfl) ?_
      refine rn_if_eq (a := x7) (tgt := 157) hx hb ix7 dX4_tell_79 (by decide) (fun c4 => ?_) (fun c4 => ?_)
      · replace hf := cc_if_t hf c4
        refine cl_aload hx hb dX4_tell_157 (lv_at hl.1 3 rfl) ?_
        obtain ⟨z5, ez5, iz5, rz5, hf⟩ := cc_g_s hw hf
        refine cw_get (val := cR v z5) B hw rz5 ⟨by decide, by decide⟩ (by decide) cwi_2 cfl_X4_70 ez5 rfl dX4_tell_159 ?_
        refine cl_astore (lv' := [(9, cR v z5), (0, cR v x0), (3, .int (rI x3)), (4, .int (rI x4)), (6, cR v x6), (7, .int (rI x7)), (8, .int (rI x8))]) hx hb dX4_tell_162 hl (by decide) rfl (fun ls hl => ?_)
        exact pw_X4_tell_164 rfl hR htr hd5 B hnh 2000000 σ1 x0 x3 x4 x8 z5 ix0 ix3 ix4 ix8 iz5 hf _ _ _ _ _ hw (cl_sub hl [1, 2, 3, 6, 0] rfl)
      · replace hf := cc_if_f hf c4
        refine cl_aload_n hx hb dX4_tell_82 rfl (lv_at hl.1 0 rfl) ?_
        refine lv_bipush (v := rI 95) hx hb dX4_tell_83 (by decide +kernel) ?_
        obtain ⟨qσ6, hf⟩ := cc_t_s hf
        obtain ⟨σ6, kv7, z8, hσ6, hf⟩ := cc_cl_s hf
        obtain ⟨iz8, mσ6⟩ := hR 88 σ1 [x0, 95] σ6 kv7 z8 hσ6
        have mσ6 : cw_Met l v yX4_put cX4_put 2 none d [cR v x0, .int (rI 95)] σ1 σ6 kv7 none := mσ6 ix0 ⟨by decide, by decide⟩
        refine cw_cv (b := x0) (t := 5) (n := 1) (rest := []) (As := [.int (rI 95)]) B mσ6 qσ6 ⟨by decide, by decide⟩ cgo_yX4_put cml_X4_60 cin_yX4_put cse_yX4_put (by decide +kernel) (by decide) rfl hl.1.1 (Nat.le_of_ble_eq_true rfl) dX4_tell_85 rfl hw (fun h0 H locs cells slots hw => ?_) (fun h0 H locs cells slots q ce hw h1 h2 h3 => ?_)
        · rcases hf with ⟨-, hf⟩ | ⟨hk, -⟩
          · skip
            refine cl_aload_n hx hb dX4_tell_88 rfl (lv_at hl.1 0 rfl) ?_
            refine lv_iload_n hx hb dX4_tell_89 rfl (lv_at hl.1 1 rfl) ?_
            obtain ⟨qσ9, hf⟩ := cc_t_s hf
            obtain ⟨σ9, kv10, z11, hσ9, hf⟩ := cc_cl_s hf
            obtain ⟨iz11, mσ9⟩ := hR 91 σ6 [x0, x3] σ9 kv10 z11 hσ9
            have mσ9 : cw_Met l v yX4_putNumber cX4_putNumber 4 none d [cR v x0, .int (rI x3)] σ6 σ9 kv10 none := mσ9 ix0 ix3
            refine cw_cv (b := x0) (t := 5) (n := 1) (rest := []) (As := [.int (rI x3)]) B mσ9 qσ9 ⟨by decide, by decide⟩ cgo_yX4_putNumber cml_X4_80 cin_yX4_putNumber cse_yX4_putNumber (by decide +kernel) (by decide) rfl hl.1.1 (Nat.le_of_ble_eq_true rfl) dX4_tell_90 rfl hw (fun h0 H locs cells slots hw => ?_) (fun h0 H locs cells slots q ce hw h1 h2 h3 => ?_)
            · rcases hf with ⟨-, hf⟩ | ⟨hk, -⟩
              · skip
                refine cl_aload_n hx hb dX4_tell_93 rfl (lv_at hl.1 0 rfl) ?_
                refine lv_bipush (v := rI 58) hx hb dX4_tell_94 (by decide +kernel) ?_
                obtain ⟨qσ12, hf⟩ := cc_t_s hf
                obtain ⟨σ12, kv13, z14, hσ12, hf⟩ := cc_cl_s hf
                obtain ⟨iz14, mσ12⟩ := hR 88 σ9 [x0, 58] σ12 kv13 z14 hσ12
                have mσ12 : cw_Met l v yX4_put cX4_put 2 none d [cR v x0, .int (rI 58)] σ9 σ12 kv13 none := mσ12 ix0 ⟨by decide, by decide⟩
                refine cw_cv (b := x0) (t := 5) (n := 1) (rest := []) (As := [.int (rI 58)]) B mσ12 qσ12 ⟨by decide, by decide⟩ cgo_yX4_put cml_X4_60 cin_yX4_put cse_yX4_put (by decide +kernel) (by decide) rfl hl.1.1 (Nat.le_of_ble_eq_true rfl) dX4_tell_96 rfl hw (fun h0 H locs cells slots hw => ?_) (fun h0 H locs cells slots q ce hw h1 h2 h3 => ?_)
                · rcases hf with ⟨-, hf⟩ | ⟨hk, -⟩
                  · skip
                    refine cl_aload_n hx hb dX4_tell_99 rfl (lv_at hl.1 0 rfl) ?_
                    refine cl_aload hx hb dX4_tell_100 (lv_at hl.1 3 rfl) ?_
                    obtain ⟨z15, ez15, iz15, rz15, hf⟩ := cc_g_s hw hf
                    refine cw_get (val := cR v z15) B hw rz15 ⟨by decide, by decide⟩ (by decide) cwi_2 cfl_X4_152 ez15 rfl dX4_tell_102 ?_
                    obtain ⟨z16, ez16, iz16, rz16, hf⟩ := cc_g_s hw hf
                    refine cw_get (val := cR v z16) B hw rz16 ⟨by decide, by decide⟩ (by decide) cwi_7 cfl_X4_114 ez16 rfl dX4_tell_105 ?_
                    refine cl_aload hx hb dX4_tell_108 (lv_at hl.1 3 rfl) ?_
                    obtain ⟨z17, ez17, iz17, rz17, hf⟩ := cc_g_s hw hf
                    refine cw_get (val := cR v z17) B hw rz17 ⟨by decide, by decide⟩ (by decide) cwi_2 cfl_X4_155 ez17 rfl dX4_tell_110 ?_
                    refine lv_iload_n hx hb dX4_tell_113 rfl (lv_at hl.1 1 rfl) ?_
                    refine lv_iload hx hb dX4_tell_114 (lv_at hl.1 2 rfl) ?_
                    refine lv_iconst (v := rI 1) hx hb dX4_tell_116 rfl ?_
                    obtain ⟨z18, ez18, iz18, hf⟩ := cc_ck_s hf
                    refine rn_add hx hb ez18 dX4_tell_117 ?_
                    refine lv_iconst (v := rI 1) hx hb dX4_tell_118 rfl ?_
                    obtain ⟨qσ19, hf⟩ := cc_t_s hf
                    obtain ⟨σ19, kv20, z21, hσ19, hf⟩ := cc_cl_s hf
                    obtain ⟨iz21, mσ19⟩ := hR 94 σ12 [x0, z16, z17, x3, z18, 1] σ19 kv20 z21 hσ19
                    have mσ19 : cw_Met l v yX4_tell cX4_tell 10 none d [cR v x0, cR v z16, cR v z17, .int (rI x3), .int (rI z18), .int (rI 1)] σ12 σ19 kv20 none := mσ19 ix0 iz16 iz17 ix3 iz18 ⟨by decide, by decide⟩
                    refine cw_cv (b := x0) (t := 5) (n := 5) (rest := []) (As := [cR v z16, cR v z17, .int (rI x3), .int (rI z18), .int (rI 1)]) B mσ19 qσ19 ⟨by decide, by decide⟩ cgo_yX4_tell cml_X4_44 cin_yX4_tell cse_yX4_tell (by decide +kernel) (by decide) rfl hl.1.1 (Nat.le_of_ble_eq_true rfl) dX4_tell_119 rfl hw (fun h0 H locs cells slots hw => ?_) (fun h0 H locs cells slots q ce hw h1 h2 h3 => ?_)
                    · rcases hf with ⟨-, hf⟩ | ⟨hk, -⟩
                      · skip
                        refine cl_aload_n hx hb dX4_tell_122 rfl (lv_at hl.1 0 rfl) ?_
                        refine lv_bipush (v := rI 46) hx hb dX4_tell_123 (by decide +kernel) ?_
                        obtain ⟨qσ22, hf⟩ := cc_t_s hf
                        obtain ⟨σ22, kv23, z24, hσ22, hf⟩ := cc_cl_s hf
                        obtain ⟨iz24, mσ22⟩ := hR 88 σ19 [x0, 46] σ22 kv23 z24 hσ22
                        have mσ22 : cw_Met l v yX4_put cX4_put 2 none d [cR v x0, .int (rI 46)] σ19 σ22 kv23 none := mσ22 ix0 ⟨by decide, by decide⟩
                        refine cw_cv (b := x0) (t := 5) (n := 1) (rest := []) (As := [.int (rI 46)]) B mσ22 qσ22 ⟨by decide, by decide⟩ cgo_yX4_put cml_X4_60 cin_yX4_put cse_yX4_put (by decide +kernel) (by decide) rfl hl.1.1 (Nat.le_of_ble_eq_true rfl) dX4_tell_125 rfl hw (fun h0 H locs cells slots hw => ?_) (fun h0 H locs cells slots q ce hw h1 h2 h3 => ?_)
                        · rcases hf with ⟨-, hf⟩ | ⟨hk, -⟩
                          · skip
                            refine cl_aload_n hx hb dX4_tell_128 rfl (lv_at hl.1 0 rfl) ?_
                            refine cl_aload hx hb dX4_tell_129 (lv_at hl.1 3 rfl) ?_
                            obtain ⟨z25, ez25, iz25, rz25, hf⟩ := cc_g_s hw hf
                            refine cw_get (val := cR v z25) B hw rz25 ⟨by decide, by decide⟩ (by decide) cwi_2 cfl_X4_152 ez25 rfl dX4_tell_131 ?_
                            obtain ⟨z26, ez26, iz26, rz26, hf⟩ := cc_g_s hw hf
                            refine cw_get (val := cR v z26) B hw rz26 ⟨by decide, by decide⟩ (by decide) cwi_7 cfl_X4_121 ez26 rfl dX4_tell_134 ?_
                            refine cl_aload hx hb dX4_tell_137 (lv_at hl.1 3 rfl) ?_
                            refine lv_iload_n hx hb dX4_tell_139 rfl (lv_at hl.1 1 rfl) ?_
                            obtain ⟨qσ27, hf⟩ := cc_t_s hf
                            obtain ⟨σ27, kv28, z29, hσ27, hf⟩ := cc_cl_s hf
                            obtain ⟨iz29, mσ27⟩ := hR 25 σ22 [x6, x3] σ27 kv28 z29 hσ27
                            have mσ27 : cw_Met l v yX1_envOfSecond cX1_envOfSecond 2 (some (.object "PureHouse$Link")) d [cR v x6, .int (rI x3)] σ22 σ27 kv28 (some (cR v z29)) := mσ27 ix6 ix3
                            refine cw_cv (b := x6) (t := 2) (n := 1) (rest := [cR v z26, cR v x0]) (As := [.int (rI x3)]) B mσ27 qσ27 ⟨by decide, by decide⟩ cgo_yX1_envOfSecond cml_X4_156 cin_yX1_envOfSecond cse_yX1_envOfSecond (by decide +kernel) (by decide) rfl hl.1.1 (cl_cs (cl_1r (cl_1r cl_10)) (Nat.le_of_ble_eq_true rfl)) dX4_tell_140 rfl hw (fun h0 H locs cells slots hw => ?_) (fun h0 H locs cells slots q ce hw h1 h2 h3 => ?_)
                            · rcases hf with ⟨-, hf⟩ | ⟨hk, -⟩
                              · skip
                                refine lv_iload_n hx hb dX4_tell_143 rfl (lv_at hl.1 1 rfl) ?_
                                refine lv_iconst (v := rI 1) hx hb dX4_tell_144 rfl ?_
                                obtain ⟨z30, ez30, iz30, hf⟩ := cc_ck_s hf
                                refine rn_add hx hb ez30 dX4_tell_145 ?_
                                refine lv_iload hx hb dX4_tell_146 (lv_at hl.1 2 rfl) ?_
                                refine lv_iconst (v := rI 1) hx hb dX4_tell_148 rfl ?_
                                obtain ⟨z31, ez31, iz31, hf⟩ := cc_ck_s hf
                                refine rn_add hx hb ez31 dX4_tell_149 ?_
                                refine lv_iconst (v := rI 0) hx hb dX4_tell_150 rfl ?_
                                obtain ⟨qσ32, hf⟩ := cc_t_s hf
                                obtain ⟨σ32, kv33, z34, hσ32, hf⟩ := cc_cl_s hf
                                obtain ⟨iz34, mσ32⟩ := hR 94 σ27 [x0, z26, z29, z30, z31, 0] σ32 kv33 z34 hσ32
                                have mσ32 : cw_Met l v yX4_tell cX4_tell 10 none d [cR v x0, cR v z26, cR v z29, .int (rI z30), .int (rI z31), .int (rI 0)] σ27 σ32 kv33 none := mσ32 ix0 iz26 iz29 iz30 iz31 ⟨by decide, by decide⟩
                                refine cw_cv (b := x0) (t := 5) (n := 5) (rest := []) (As := [cR v z26, cR v z29, .int (rI z30), .int (rI z31), .int (rI 0)]) B mσ32 qσ32 ⟨by decide, by decide⟩ cgo_yX4_tell cml_X4_44 cin_yX4_tell cse_yX4_tell (by decide +kernel) (by decide) rfl hl.1.1 (Nat.le_of_ble_eq_true rfl) dX4_tell_151 rfl hw (fun h0 H locs cells slots hw => ?_) (fun h0 H locs cells slots q ce hw h1 h2 h3 => ?_)
                                · rcases hf with ⟨-, hf⟩ | ⟨hk, -⟩
                                  · skip
                                    refine lv_goto (tgt := 205) hx hb dX4_tell_154 (by decide) ?_
                                    exact pw_X4_tell_205 rfl hR htr hd5 B hnh σ32 x0 x8 ix0 ix8 hf _ _ _ _ _ hw (cl_sub hl [0, 5] rfl)
                                  · exact absurd h0 hk
                                · rcases hf with ⟨hk, -⟩ | ⟨-, hf⟩
                                  · exact absurd hk h0
                                  · cases hf
                                    exact cw_xout B hnh h0 hw h1 h2 h3
                              · exact absurd h0 hk
                            · rcases hf with ⟨hk, -⟩ | ⟨-, hf⟩
                              · exact absurd hk h0
                              · cases hf
                                exact cw_xout B hnh h0 hw h1 h2 h3
                          · exact absurd h0 hk
                        · rcases hf with ⟨hk, -⟩ | ⟨-, hf⟩
                          · exact absurd hk h0
                          · cases hf
                            exact cw_xout B hnh h0 hw h1 h2 h3
                      · exact absurd h0 hk
                    · rcases hf with ⟨hk, -⟩ | ⟨-, hf⟩
                      · exact absurd hk h0
                      · cases hf
                        exact cw_xout B hnh h0 hw h1 h2 h3
                  · exact absurd h0 hk
                · rcases hf with ⟨hk, -⟩ | ⟨-, hf⟩
                  · exact absurd hk h0
                  · cases hf
                    exact cw_xout B hnh h0 hw h1 h2 h3
              · exact absurd h0 hk
            · rcases hf with ⟨hk, -⟩ | ⟨-, hf⟩
              · exact absurd hk h0
              · cases hf
                exact cw_xout B hnh h0 hw h1 h2 h3
          · exact absurd h0 hk
        · rcases hf with ⟨hk, -⟩ | ⟨-, hf⟩
          · exact absurd hk h0
          · cases hf
            exact cw_xout B hnh h0 hw h1 h2 h3
    · exact absurd h0 hk
  · rcases hf with ⟨hk, -⟩ | ⟨-, hf⟩
    · exact absurd hk h0
    · cases hf
      exact cw_xout B hnh h0 hw h1 h2 h3

set_option maxHeartbeats 4000000 in
set_option maxRecDepth 100000 in
theorem pw_X4_tell_58 {v : cwE} {bd : cBd} {p : Program} {l : Launch} {e : Env} {s : State} {m : MethodId} {args : Array Value} {below : List Frame} {meth : Method} {c : Code} {d : Nat} {rec : Nat → CS → List Int → CO} {σ0 σ' : CS} {kd : Nat} {r : Int} (hbd : bd = cw_bd v) (hR : cw_Rec l v d rec) (htr : l.stackTraces = false) (hd5 : 5 ≤ d) (B : cw_B v RX4 p s m args meth c cX4_tell 10 none) (hnh : ∀ x ∈ c.exceptionTable.toList, False) : ∀ (σ : CS) (x0 x3 x4 x6 x7 t0 : Int), inR x0 → inR x3 → inR x4 → inR x6 → inR x7 → inR t0 → pc_X4_tell_58 rec bd σ x0 x3 x4 x6 x7 t0 = some (σ', kd, r) → ∀ (H : Heap) (locs : List Loc) (cells slots : Nat) (ls : Array Slot), cw_W v s σ0 σ H locs cells slots → cl_has ls 10 [(0, cR v x0), (3, .int (rI x3)), (4, .int (rI x4)), (6, cR v x6), (7, .int (rI x7))] → W p l e (cw_rm v (d + 1) σ0) s m args below meth c H locs cells slots (cw_Z below v σ0 σ' kd none args s) (F0 m 58 ls [.int (rI t0)]) := by
  subst hbd
  obtain ⟨hx, hb, hr, hml, hown, hts, hlk, hK⟩ := id B
  intro σ x0 x3 x4 x6 x7 t0 ix0 ix3 ix4 ix6 ix7 it0 hf H locs cells slots ls hw hl
  unfold pc_X4_tell_58 at hf
  refine cl_istore (lv' := [(8, .int (rI t0)), (0, cR v x0), (3, .int (rI x3)), (4, .int (rI x4)), (6, cR v x6), (7, .int (rI x7))]) hx hb dX4_tell_58 hl (by decide) rfl (fun ls hl => ?_)
  refine lv_iload hx hb dX4_tell_60 (lv_at hl.1 0 rfl) ?_
  refine rn_if_eq (a := t0) (tgt := 71) hx hb it0 dX4_tell_62 (by decide) (fun c1 => ?_) (fun c1 => ?_)
  · replace hf := cc_if_t hf c1
    exact pw_X4_tell_71 rfl hR htr hd5 B hnh σ x0 x3 x4 x6 x7 t0 ix0 ix3 ix4 ix6 ix7 it0 hf _ _ _ _ _ hw (cl_sub hl [1, 2, 3, 4, 5, 0] rfl)
  · replace hf := cc_if_f hf c1
    refine cl_aload_n hx hb dX4_tell_65 rfl (lv_at hl.1 1 rfl) ?_
    refine lv_bipush (v := rI 40) hx hb dX4_tell_66 (by decide +kernel) ?_
    obtain ⟨qσ2, hf⟩ := cc_t_s hf
    obtain ⟨σ2, kv3, z4, hσ2, hf⟩ := cc_cl_s hf
    obtain ⟨iz4, mσ2⟩ := hR 88 σ [x0, 40] σ2 kv3 z4 hσ2
    have mσ2 : cw_Met l v yX4_put cX4_put 2 none d [cR v x0, .int (rI 40)] σ σ2 kv3 none := mσ2 ix0 ⟨by decide, by decide⟩
    refine cw_cv (b := x0) (t := 5) (n := 1) (rest := []) (As := [.int (rI 40)]) B mσ2 qσ2 ⟨by decide, by decide⟩ cgo_yX4_put cml_X4_60 cin_yX4_put cse_yX4_put (by decide +kernel) (by decide) rfl hl.1.1 (Nat.le_of_ble_eq_true rfl) dX4_tell_68 rfl hw (fun h0 H locs cells slots hw => ?_) (fun h0 H locs cells slots q ce hw h1 h2 h3 => ?_)
    · rcases hf with ⟨-, hf⟩ | ⟨hk, -⟩
      · skip
        exact pw_X4_tell_71 rfl hR htr hd5 B hnh σ2 x0 x3 x4 x6 x7 t0 ix0 ix3 ix4 ix6 ix7 it0 hf _ _ _ _ _ hw (cl_sub hl [1, 2, 3, 4, 5, 0] rfl)
      · exact absurd h0 hk
    · rcases hf with ⟨hk, -⟩ | ⟨-, hf⟩
      · exact absurd hk h0
      · cases hf
        exact cw_xout B hnh h0 hw h1 h2 h3

set_option maxHeartbeats 4000000 in
set_option maxRecDepth 100000 in
theorem pw_X4_tell_57 {v : cwE} {bd : cBd} {p : Program} {l : Launch} {e : Env} {s : State} {m : MethodId} {args : Array Value} {below : List Frame} {meth : Method} {c : Code} {d : Nat} {rec : Nat → CS → List Int → CO} {σ0 σ' : CS} {kd : Nat} {r : Int} (hbd : bd = cw_bd v) (hR : cw_Rec l v d rec) (htr : l.stackTraces = false) (hd5 : 5 ≤ d) (B : cw_B v RX4 p s m args meth c cX4_tell 10 none) (hnh : ∀ x ∈ c.exceptionTable.toList, False) : ∀ (σ : CS) (x0 x3 x4 x6 x7 : Int), inR x0 → inR x3 → inR x4 → inR x6 → inR x7 → pc_X4_tell_57 rec bd σ x0 x3 x4 x6 x7 = some (σ', kd, r) → ∀ (H : Heap) (locs : List Loc) (cells slots : Nat) (ls : Array Slot), cw_W v s σ0 σ H locs cells slots → cl_has ls 10 [(0, cR v x0), (3, .int (rI x3)), (4, .int (rI x4)), (6, cR v x6), (7, .int (rI x7))] → W p l e (cw_rm v (d + 1) σ0) s m args below meth c H locs cells slots (cw_Z below v σ0 σ' kd none args s) (F0 m 57 ls []) := by
  subst hbd
  obtain ⟨hx, hb, hr, hml, hown, hts, hlk, hK⟩ := id B
  intro σ x0 x3 x4 x6 x7 ix0 ix3 ix4 ix6 ix7 hf H locs cells slots ls hw hl
  unfold pc_X4_tell_57 at hf
  refine lv_iconst (v := rI 0) hx hb dX4_tell_57 rfl ?_
  exact pw_X4_tell_58 rfl hR htr hd5 B hnh σ x0 x3 x4 x6 x7 0 ix0 ix3 ix4 ix6 ix7 ⟨by decide, by decide⟩ hf _ _ _ _ _ hw (cl_sub hl [0, 1, 2, 3, 4] rfl)

set_option maxHeartbeats 4000000 in
set_option maxRecDepth 100000 in
theorem pw_X4_tell_0 {v : cwE} {bd : cBd} {p : Program} {l : Launch} {e : Env} {s : State} {m : MethodId} {args : Array Value} {below : List Frame} {meth : Method} {c : Code} {d : Nat} {rec : Nat → CS → List Int → CO} {σ0 σ' : CS} {kd : Nat} {r : Int} (hbd : bd = cw_bd v) (hR : cw_Rec l v d rec) (htr : l.stackTraces = false) (hd5 : 5 ≤ d) (B : cw_B v RX4 p s m args meth c cX4_tell 10 none) (hnh : ∀ x ∈ c.exceptionTable.toList, False) : ∀ (σ : CS) (x0 x1 x2 x3 x4 x5 : Int), inR x0 → inR x1 → inR x2 → inR x3 → inR x4 → inR x5 → pc_X4_tell_0 rec bd σ x0 x1 x2 x3 x4 x5 = some (σ', kd, r) → ∀ (H : Heap) (locs : List Loc) (cells slots : Nat) (ls : Array Slot), cw_W v s σ0 σ H locs cells slots → cl_has ls 10 [(0, cR v x0), (1, cR v x1), (2, cR v x2), (3, .int (rI x3)), (4, .int (rI x4)), (5, .int (rI x5))] → W p l e (cw_rm v (d + 1) σ0) s m args below meth c H locs cells slots (cw_Z below v σ0 σ' kd none args s) (F0 m 0 ls []) := by
  subst hbd
  obtain ⟨hx, hb, hr, hml, hown, hts, hlk, hK⟩ := id B
  intro σ x0 x1 x2 x3 x4 x5 ix0 ix1 ix2 ix3 ix4 ix5 hf H locs cells slots ls hw hl
  unfold pc_X4_tell_0 at hf
  refine cl_aload_n hx hb dX4_tell_0 rfl (lv_at hl.1 0 rfl) ?_
  refine lv_iload hx hb dX4_tell_1 (lv_at hl.1 4 rfl) ?_
  obtain ⟨qσ1, hf⟩ := cc_t_s hf
  obtain ⟨σ1, kv2, z3, hσ1, hf⟩ := cc_cl_s hf
  obtain ⟨iz3, mσ1⟩ := hR 85 σ [x0, x4] σ1 kv2 z3 hσ1
  have mσ1 : cw_Met l v yX4_look cX4_look 3 none d [cR v x0, .int (rI x4)] σ σ1 kv2 none := mσ1 ix0 ix4
  refine cw_cv (b := x0) (t := 5) (n := 1) (rest := []) (As := [.int (rI x4)]) B mσ1 qσ1 ⟨by decide, by decide⟩ cgo_yX4_look cml_X4_149 cin_yX4_look cse_yX4_look (by decide +kernel) (by decide) rfl hl.1.1 (Nat.le_of_ble_eq_true rfl) dX4_tell_3 rfl hw (fun h0 H locs cells slots hw => ?_) (fun h0 H locs cells slots q ce hw h1 h2 h3 => ?_)
  · rcases hf with ⟨-, hf⟩ | ⟨hk, -⟩
    · skip
      refine cl_aload_n hx hb dX4_tell_6 rfl (lv_at hl.1 0 rfl) ?_
      refine cl_aload_n hx hb dX4_tell_7 rfl (lv_at hl.1 1 rfl) ?_
      refine cl_aload_n hx hb dX4_tell_8 rfl (lv_at hl.1 2 rfl) ?_
      obtain ⟨qσ4, hf⟩ := cc_t_s hf
      obtain ⟨σ4, kv5, z6, hσ4, hf⟩ := cc_cl_s hf
      obtain ⟨iz6, mσ4⟩ := hR 83 σ1 [x0, x1, x2] σ4 kv5 z6 hσ4
      have mσ4 : cw_Met l v yX4_head cX4_head 9 (some (.object "PureHouse$Head")) d [cR v x0, cR v x1, cR v x2] σ1 σ4 kv5 (some (cR v z6)) := mσ4 ix0 ix1 ix2
      refine cw_cv (b := x0) (t := 5) (n := 2) (rest := []) (As := [cR v x1, cR v x2]) B mσ4 qσ4 ⟨by decide, by decide⟩ cgo_yX4_head cml_X4_52 cin_yX4_head cse_yX4_head (by decide +kernel) (by decide) rfl hl.1.1 (Nat.le_of_ble_eq_true rfl) dX4_tell_9 rfl hw (fun h0 H locs cells slots hw => ?_) (fun h0 H locs cells slots q ce hw h1 h2 h3 => ?_)
      · rcases hf with ⟨-, hf⟩ | ⟨hk, -⟩
        · skip
          refine cl_astore (lv' := [(6, cR v z6), (0, cR v x0), (1, cR v x1), (2, cR v x2), (3, .int (rI x3)), (4, .int (rI x4)), (5, .int (rI x5))]) hx hb dX4_tell_12 hl (by decide) rfl (fun ls hl => ?_)
          refine cl_aload hx hb dX4_tell_14 (lv_at hl.1 0 rfl) ?_
          obtain ⟨qσ7, hf⟩ := cc_t_s hf
          obtain ⟨σ7, kv8, z9, hσ7, hf⟩ := cc_cl_s hf
          obtain ⟨iz9, mσ7⟩ := hR 27 σ4 [z6] σ7 kv8 z9 hσ7
          have mσ7 : cw_Met l v yX1_isBinder cX1_isBinder 1 (some .boolean) d [cR v z6] σ4 σ7 kv8 (some (.int (rI z9))) := mσ7 iz6
          refine cw_cv (b := z6) (t := 2) (n := 0) (rest := []) (As := []) B mσ7 qσ7 ⟨by decide, by decide⟩ cgo_yX1_isBinder cml_X4_64 cin_yX1_isBinder cse_yX1_isBinder (by decide +kernel) (by decide) rfl hl.1.1 (Nat.le_of_ble_eq_true rfl) dX4_tell_16 rfl hw (fun h0 H locs cells slots hw => ?_) (fun h0 H locs cells slots q ce hw h1 h2 h3 => ?_)
          · rcases hf with ⟨-, hf⟩ | ⟨hk, -⟩
            · skip
              refine cl_istore (lv' := [(7, .int (rI z9)), (6, cR v z6), (0, cR v x0), (1, cR v x1), (2, cR v x2), (3, .int (rI x3)), (4, .int (rI x4)), (5, .int (rI x5))]) hx hb dX4_tell_19 hl (by decide) rfl (fun ls hl => ?_)
              refine lv_iload hx hb dX4_tell_21 (lv_at hl.1 0 rfl) ?_
              refine rn_if_eq (a := z9) (tgt := 39) hx hb iz9 dX4_tell_23 (by decide) (fun c10 => ?_) (fun c10 => ?_)
              · replace hf := cc_if_t hf c10
                refine lv_iload hx hb dX4_tell_39 (lv_at hl.1 7 rfl) ?_
                refine lv_iconst (v := rI 2) hx hb dX4_tell_41 rfl ?_
                refine rn_icmp_ne (a := x5) (b := 2) (tgt := 57) hx hb ix5 ⟨by decide, by decide⟩ dX4_tell_42 (by decide) (fun c11 => ?_) (fun c11 => ?_)
                · replace hf := cc_if_t hf c11
                  exact pw_X4_tell_57 rfl hR htr hd5 B hnh σ7 x0 x3 x4 z6 z9 ix0 ix3 ix4 iz6 iz9 hf _ _ _ _ _ hw (cl_sub hl [2, 5, 6, 1, 0] rfl)
                · replace hf := cc_if_f hf c11
                  refine cl_aload hx hb dX4_tell_45 (lv_at hl.1 1 rfl) ?_
                  obtain ⟨z12, ez12, iz12, rz12, hf⟩ := cc_g_s hw hf
                  refine cw_get (val := cR v z12) B hw rz12 ⟨by decide, by decide⟩ (by decide) cwi_2 cfl_X4_70 ez12 rfl dX4_tell_47 ?_
                  refine cl_ifnull (x := z12) (tgt := 57) hx hb dX4_tell_50 (by decide) (fun c13 => ?_) (fun c13 => ?_)
                  · replace hf := cc_if_t hf c13
                    exact pw_X4_tell_57 rfl hR htr hd5 B hnh σ7 x0 x3 x4 z6 z9 ix0 ix3 ix4 iz6 iz9 hf _ _ _ _ _ hw (cl_sub hl [2, 5, 6, 1, 0] rfl)
                  · replace hf := cc_if_f hf c13
                    refine lv_iconst (v := rI 1) hx hb dX4_tell_53 rfl ?_
                    refine lv_goto (tgt := 58) hx hb dX4_tell_54 (by decide) ?_
                    exact pw_X4_tell_58 rfl hR htr hd5 B hnh σ7 x0 x3 x4 z6 z9 1 ix0 ix3 ix4 iz6 iz9 ⟨by decide, by decide⟩ hf _ _ _ _ _ hw (cl_sub hl [2, 5, 6, 1, 0] rfl)
              · replace hf := cc_if_f hf c10
                refine lv_iload hx hb dX4_tell_26 (lv_at hl.1 7 rfl) ?_
                refine rn_if_eq (a := x5) (tgt := 35) hx hb ix5 dX4_tell_28 (by decide) (fun c14 => ?_) (fun c14 => ?_)
                · replace hf := cc_if_t hf c14
                  refine lv_iconst (v := rI 0) hx hb dX4_tell_35 rfl ?_
                  refine lv_goto (tgt := 58) hx hb dX4_tell_36 (by decide) ?_
                  exact pw_X4_tell_58 rfl hR htr hd5 B hnh σ7 x0 x3 x4 z6 z9 0 ix0 ix3 ix4 iz6 iz9 ⟨by decide, by decide⟩ hf _ _ _ _ _ hw (cl_sub hl [2, 5, 6, 1, 0] rfl)
                · replace hf := cc_if_f hf c14
                  refine lv_iconst (v := rI 1) hx hb dX4_tell_31 rfl ?_
                  refine lv_goto (tgt := 58) hx hb dX4_tell_32 (by decide) ?_
                  exact pw_X4_tell_58 rfl hR htr hd5 B hnh σ7 x0 x3 x4 z6 z9 1 ix0 ix3 ix4 iz6 iz9 ⟨by decide, by decide⟩ hf _ _ _ _ _ hw (cl_sub hl [2, 5, 6, 1, 0] rfl)
            · exact absurd h0 hk
          · rcases hf with ⟨hk, -⟩ | ⟨-, hf⟩
            · exact absurd hk h0
            · cases hf
              exact cw_xout B hnh h0 hw h1 h2 h3
        · exact absurd h0 hk
      · rcases hf with ⟨hk, -⟩ | ⟨-, hf⟩
        · exact absurd hk h0
        · cases hf
          exact cw_xout B hnh h0 hw h1 h2 h3
    · exact absurd h0 hk
  · rcases hf with ⟨hk, -⟩ | ⟨-, hf⟩
    · exact absurd hk h0
    · cases hf
      exact cw_xout B hnh h0 hw h1 h2 h3

set_option maxHeartbeats 4000000 in
set_option maxRecDepth 100000 in
theorem pm_X4_tell {v : cwE} {bd : cBd} {l : Launch} {d : Nat} {rec : Nat → CS → List Int → CO} (hbd : bd = cw_bd v) (hR : cw_Rec l v d rec) (htr : l.stackTraces = false) (hd5 : 5 ≤ d) (σ σ' : CS) (x0 x1 x2 x3 x4 x5 : Int) (kd : Nat) (r : Int) (ix0 : inR x0) (ix1 : inR x1) (ix2 : inR x2) (ix3 : inR x3) (ix4 : inR x4) (ix5 : inR x5) (hf : pc_X4_tell_0 rec bd σ x0 x1 x2 x3 x4 x5 = some (σ', kd, r)) : cw_Met l v yX4_tell cX4_tell 10 none (d + 1) [cR v x0, cR v x1, cR v x2, .int (rI x3), .int (rI x4), .int (rI x5)] σ σ' kd none := by
  refine cw_ofW (by decide +kernel) ?_
  intro p e s m args below meth c s₁ B hml hv
  obtain ⟨rfl, hM, hK⟩ := hv
  have hts := atoms_spec (ws := Cond.code yX4_tell cX4_tell 10 none :: cw_bw) B.pre
  have hB : cw_B v RX4 p s m _ meth c cX4_tell 10 none := ⟨B.exec, B.bytes, B.returns, hml, findClass_of_methodNamed B.named, fun w h => hts w (List.mem_cons_of_mem _ h), B.notSynchronized, hK⟩
  have hnh := cc_nh B (hts _ List.mem_cons_self)
  rw [lg_entry_eq]
  obtain ⟨ls, hls, hl⟩ := cl_ent [cR v x0, cR v x1, cR v x2, .int (rI x3), .int (rI x4), .int (rI x5)] 10 (cl_1r (cl_1r (cl_1r (cl_1i (cl_1i (cl_1i cl_10)))))) (Nat.le_of_ble_eq_true rfl)
  rw [hls]
  exact pw_X4_tell_0 hbd hR htr hd5 hB hnh σ x0 x1 x2 x3 x4 x5 ix0 ix1 ix2 ix3 ix4 ix5 hf _ _ _ _ _ (cw_W0 hM) (cl_sub hl [0, 1, 2, 3, 4, 5] rfl)

set_option maxHeartbeats 4000000 in
set_option maxRecDepth 100000 in
theorem pw_X4_tellHead_37 {v : cwE} {bd : cBd} {p : Program} {l : Launch} {e : Env} {s : State} {m : MethodId} {args : Array Value} {below : List Frame} {meth : Method} {c : Code} {d : Nat} {rec : Nat → CS → List Int → CO} {σ0 σ' : CS} {kd : Nat} {r : Int} (hbd : bd = cw_bd v) (hR : cw_Rec l v d rec) (htr : l.stackTraces = false) (hd5 : 5 ≤ d) (B : cw_B v RX4 p s m args meth c cX4_tellHead 3 none) (hnh : ∀ x ∈ c.exceptionTable.toList, False) : ∀ (σ : CS) (t0 t1 : Int), inR t0 → inR t1 → pc_X4_tellHead_37 rec bd σ t0 t1 = some (σ', kd, r) → ∀ (H : Heap) (locs : List Loc) (cells slots : Nat) (ls : Array Slot), cw_W v s σ0 σ H locs cells slots → cl_has ls 3 [] → W p l e (cw_rm v (d + 1) σ0) s m args below meth c H locs cells slots (cw_Z below v σ0 σ' kd none args s) (F0 m 37 ls [.int (rI t0), cR v t1]) := by
  subst hbd
  obtain ⟨hx, hb, hr, hml, hown, hts, hlk, hK⟩ := id B
  intro σ t0 t1 it0 it1 hf H locs cells slots ls hw hl
  unfold pc_X4_tellHead_37 at hf
  obtain ⟨qσ1, hf⟩ := cc_t_s hf
  obtain ⟨σ1, kv2, z3, hσ1, hf⟩ := cc_cl_s hf
  obtain ⟨iz3, mσ1⟩ := hR 91 σ [t1, t0] σ1 kv2 z3 hσ1
  have mσ1 : cw_Met l v yX4_putNumber cX4_putNumber 4 none d [cR v t1, .int (rI t0)] σ σ1 kv2 none := mσ1 it1 it0
  refine cw_cv (b := t1) (t := 5) (n := 1) (rest := []) (As := [.int (rI t0)]) B mσ1 qσ1 ⟨by decide, by decide⟩ cgo_yX4_putNumber cml_X4_80 cin_yX4_putNumber cse_yX4_putNumber (by decide +kernel) (by decide) rfl hl.1.1 (Nat.le_of_ble_eq_true rfl) dX4_tellHead_37 rfl hw (fun h0 H locs cells slots hw => ?_) (fun h0 H locs cells slots q ce hw h1 h2 h3 => ?_)
  · rcases hf with ⟨-, hf⟩ | ⟨hk, -⟩
    · skip
      exact cw_retv B hf hw dX4_tellHead_40
    · exact absurd h0 hk
  · rcases hf with ⟨hk, -⟩ | ⟨-, hf⟩
    · exact absurd hk h0
    · cases hf
      exact cw_xout B hnh h0 hw h1 h2 h3

set_option maxHeartbeats 4000000 in
set_option maxRecDepth 100000 in
theorem pw_X4_tellHead_0 {v : cwE} {bd : cBd} {p : Program} {l : Launch} {e : Env} {s : State} {m : MethodId} {args : Array Value} {below : List Frame} {meth : Method} {c : Code} {d : Nat} {rec : Nat → CS → List Int → CO} {σ0 σ' : CS} {kd : Nat} {r : Int} (hbd : bd = cw_bd v) (hR : cw_Rec l v d rec) (htr : l.stackTraces = false) (hd5 : 5 ≤ d) (B : cw_B v RX4 p s m args meth c cX4_tellHead 3 none) (hnh : ∀ x ∈ c.exceptionTable.toList, False) : ∀ (σ : CS) (x0 x1 : Int), inR x0 → inR x1 → pc_X4_tellHead_0 rec bd σ x0 x1 = some (σ', kd, r) → ∀ (H : Heap) (locs : List Loc) (cells slots : Nat) (ls : Array Slot), cw_W v s σ0 σ H locs cells slots → cl_has ls 3 [(0, cR v x0), (1, cR v x1)] → W p l e (cw_rm v (d + 1) σ0) s m args below meth c H locs cells slots (cw_Z below v σ0 σ' kd none args s) (F0 m 0 ls []) := by
  subst hbd
  obtain ⟨hx, hb, hr, hml, hown, hts, hlk, hK⟩ := id B
  intro σ x0 x1 ix0 ix1 hf H locs cells slots ls hw hl
  unfold pc_X4_tellHead_0 at hf
  refine cl_aload_n hx hb dX4_tellHead_0 rfl (lv_at hl.1 0 rfl) ?_
  refine cl_aload_n hx hb dX4_tellHead_1 rfl (lv_at hl.1 1 rfl) ?_
  refine cl_null (v := v) hx hb dX4_tellHead_2 ?_
  obtain ⟨qσ1, hf⟩ := cc_t_s hf
  obtain ⟨σ1, kv2, z3, hσ1, hf⟩ := cc_cl_s hf
  obtain ⟨iz3, mσ1⟩ := hR 83 σ [x0, x1, (-1)] σ1 kv2 z3 hσ1
  have mσ1 : cw_Met l v yX4_head cX4_head 9 (some (.object "PureHouse$Head")) d [cR v x0, cR v x1, cR v (-1)] σ σ1 kv2 (some (cR v z3)) := mσ1 ix0 ix1 ⟨by decide, by decide⟩
  refine cw_cv (b := x0) (t := 5) (n := 2) (rest := []) (As := [cR v x1, cR v (-1)]) B mσ1 qσ1 ⟨by decide, by decide⟩ cgo_yX4_head cml_X4_52 cin_yX4_head cse_yX4_head (by decide +kernel) (by decide) rfl hl.1.1 (Nat.le_of_ble_eq_true rfl) dX4_tellHead_3 rfl hw (fun h0 H locs cells slots hw => ?_) (fun h0 H locs cells slots q ce hw h1 h2 h3 => ?_)
  · rcases hf with ⟨-, hf⟩ | ⟨hk, -⟩
    · skip
      refine cl_astore_n (lv' := [(2, cR v z3), (0, cR v x0), (1, cR v x1)]) hx hb dX4_tellHead_6 rfl hl (by decide) rfl (fun ls hl => ?_)
      refine cl_aload_n hx hb dX4_tellHead_7 rfl (lv_at hl.1 1 rfl) ?_
      refine cl_aload_n hx hb dX4_tellHead_8 rfl (lv_at hl.1 0 rfl) ?_
      obtain ⟨qσ4, hf⟩ := cc_t_s hf
      obtain ⟨σ4, kv5, z6, hσ4, hf⟩ := cc_cl_s hf
      obtain ⟨iz6, mσ4⟩ := hR 90 σ1 [x0, z3] σ4 kv5 z6 hσ4
      have mσ4 : cw_Met l v yX4_putFront cX4_putFront 2 none d [cR v x0, cR v z3] σ1 σ4 kv5 none := mσ4 ix0 iz3
      refine cw_cv (b := x0) (t := 5) (n := 1) (rest := []) (As := [cR v z3]) B mσ4 qσ4 ⟨by decide, by decide⟩ cgo_yX4_putFront cml_X4_56 cin_yX4_putFront cse_yX4_putFront (by decide +kernel) (by decide) rfl hl.1.1 (Nat.le_of_ble_eq_true rfl) dX4_tellHead_9 rfl hw (fun h0 H locs cells slots hw => ?_) (fun h0 H locs cells slots q ce hw h1 h2 h3 => ?_)
      · rcases hf with ⟨-, hf⟩ | ⟨hk, -⟩
        · skip
          refine cl_aload_n hx hb dX4_tellHead_12 rfl (lv_at hl.1 1 rfl) ?_
          refine lv_bipush (v := rI 32) hx hb dX4_tellHead_13 (by decide +kernel) ?_
          obtain ⟨qσ7, hf⟩ := cc_t_s hf
          obtain ⟨σ7, kv8, z9, hσ7, hf⟩ := cc_cl_s hf
          obtain ⟨iz9, mσ7⟩ := hR 88 σ4 [x0, 32] σ7 kv8 z9 hσ7
          have mσ7 : cw_Met l v yX4_put cX4_put 2 none d [cR v x0, .int (rI 32)] σ4 σ7 kv8 none := mσ7 ix0 ⟨by decide, by decide⟩
          refine cw_cv (b := x0) (t := 5) (n := 1) (rest := []) (As := [.int (rI 32)]) B mσ7 qσ7 ⟨by decide, by decide⟩ cgo_yX4_put cml_X4_60 cin_yX4_put cse_yX4_put (by decide +kernel) (by decide) rfl hl.1.1 (Nat.le_of_ble_eq_true rfl) dX4_tellHead_15 rfl hw (fun h0 H locs cells slots hw => ?_) (fun h0 H locs cells slots q ce hw h1 h2 h3 => ?_)
          · rcases hf with ⟨-, hf⟩ | ⟨hk, -⟩
            · skip
              refine cl_aload_n hx hb dX4_tellHead_18 rfl (lv_at hl.1 1 rfl) ?_
              refine cl_aload_n hx hb dX4_tellHead_19 rfl (lv_at hl.1 0 rfl) ?_
              obtain ⟨qσ10, hf⟩ := cc_t_s hf
              obtain ⟨σ10, kv11, z12, hσ10, hf⟩ := cc_cl_s hf
              obtain ⟨iz12, mσ10⟩ := hR 27 σ7 [z3] σ10 kv11 z12 hσ10
              have mσ10 : cw_Met l v yX1_isBinder cX1_isBinder 1 (some .boolean) d [cR v z3] σ7 σ10 kv11 (some (.int (rI z12))) := mσ10 iz3
              refine cw_cv (b := z3) (t := 2) (n := 0) (rest := [cR v x0]) (As := []) B mσ10 qσ10 ⟨by decide, by decide⟩ cgo_yX1_isBinder cml_X4_64 cin_yX1_isBinder cse_yX1_isBinder (by decide +kernel) (by decide) rfl hl.1.1 (cl_cs (cl_1r cl_10) (Nat.le_of_ble_eq_true rfl)) dX4_tellHead_20 rfl hw (fun h0 H locs cells slots hw => ?_) (fun h0 H locs cells slots q ce hw h1 h2 h3 => ?_)
              · rcases hf with ⟨-, hf⟩ | ⟨hk, -⟩
                · skip
                  refine rn_if_eq (a := z12) (tgt := 30) hx hb iz12 dX4_tellHead_23 (by decide) (fun c13 => ?_) (fun c13 => ?_)
                  · replace hf := cc_if_t hf c13
                    refine cl_aload_n hx hb dX4_tellHead_30 rfl (lv_at hl.1 0 rfl) ?_
                    obtain ⟨z14, ez14, iz14, rz14, hf⟩ := cc_g_s hw hf
                    refine cw_get (val := cR v z14) B hw rz14 ⟨by decide, by decide⟩ (by decide) cwi_2 cfl_X4_70 ez14 rfl dX4_tellHead_31 ?_
                    obtain ⟨σ15, kv16, z17, hσ15, hf⟩ := cc_cl_s hf
                    obtain ⟨iz17, mσ15⟩ := hR 79 σ10 [z14] σ15 kv16 z17 hσ15
                    have mσ15 : cw_Met l v yX3_lengthOf cX3_lengthOf 3 (some .int) d [cR v z14] σ10 σ15 kv16 (some (.int (rI z17))) := mσ15 iz14
                    refine cw_cs (n := 1) (rest := [cR v x0]) (As := [cR v z14]) B mσ15 cgo_yX3_lengthOf cml_X4_74 cst_yX3_lengthOf (by decide +kernel) (by decide) rfl hl.1.1 (cl_cs (cl_1r cl_10) (Nat.le_of_ble_eq_true rfl)) dX4_tellHead_34 rfl hw (fun h0 H locs cells slots hw => ?_) (fun h0 H locs cells slots q ce hw h1 h2 h3 => ?_)
                    · rcases hf with ⟨-, hf⟩ | ⟨hk, -⟩
                      · skip
                        exact pw_X4_tellHead_37 rfl hR htr hd5 B hnh σ15 z17 x0 iz17 ix0 hf _ _ _ _ _ hw (cl_sub hl [] rfl)
                      · exact absurd h0 hk
                    · rcases hf with ⟨hk, -⟩ | ⟨-, hf⟩
                      · exact absurd hk h0
                      · cases hf
                        exact cw_xout B hnh h0 hw h1 h2 h3
                  · replace hf := cc_if_f hf c13
                    refine lv_iconst (v := rI 0) hx hb dX4_tellHead_26 rfl ?_
                    refine lv_goto (tgt := 37) hx hb dX4_tellHead_27 (by decide) ?_
                    exact pw_X4_tellHead_37 rfl hR htr hd5 B hnh σ10 0 x0 ⟨by decide, by decide⟩ ix0 hf _ _ _ _ _ hw (cl_sub hl [] rfl)
                · exact absurd h0 hk
              · rcases hf with ⟨hk, -⟩ | ⟨-, hf⟩
                · exact absurd hk h0
                · cases hf
                  exact cw_xout B hnh h0 hw h1 h2 h3
            · exact absurd h0 hk
          · rcases hf with ⟨hk, -⟩ | ⟨-, hf⟩
            · exact absurd hk h0
            · cases hf
              exact cw_xout B hnh h0 hw h1 h2 h3
        · exact absurd h0 hk
      · rcases hf with ⟨hk, -⟩ | ⟨-, hf⟩
        · exact absurd hk h0
        · cases hf
          exact cw_xout B hnh h0 hw h1 h2 h3
    · exact absurd h0 hk
  · rcases hf with ⟨hk, -⟩ | ⟨-, hf⟩
    · exact absurd hk h0
    · cases hf
      exact cw_xout B hnh h0 hw h1 h2 h3

set_option maxHeartbeats 4000000 in
set_option maxRecDepth 100000 in
theorem pm_X4_tellHead {v : cwE} {bd : cBd} {l : Launch} {d : Nat} {rec : Nat → CS → List Int → CO} (hbd : bd = cw_bd v) (hR : cw_Rec l v d rec) (htr : l.stackTraces = false) (hd5 : 5 ≤ d) (σ σ' : CS) (x0 x1 : Int) (kd : Nat) (r : Int) (ix0 : inR x0) (ix1 : inR x1) (hf : pc_X4_tellHead_0 rec bd σ x0 x1 = some (σ', kd, r)) : cw_Met l v yX4_tellHead cX4_tellHead 3 none (d + 1) [cR v x0, cR v x1] σ σ' kd none := by
  refine cw_ofW (by decide +kernel) ?_
  intro p e s m args below meth c s₁ B hml hv
  obtain ⟨rfl, hM, hK⟩ := hv
  have hts := atoms_spec (ws := Cond.code yX4_tellHead cX4_tellHead 3 none :: cw_bw) B.pre
  have hB : cw_B v RX4 p s m _ meth c cX4_tellHead 3 none := ⟨B.exec, B.bytes, B.returns, hml, findClass_of_methodNamed B.named, fun w h => hts w (List.mem_cons_of_mem _ h), B.notSynchronized, hK⟩
  have hnh := cc_nh B (hts _ List.mem_cons_self)
  rw [lg_entry_eq]
  obtain ⟨ls, hls, hl⟩ := cl_ent [cR v x0, cR v x1] 3 (cl_1r (cl_1r cl_10)) (Nat.le_of_ble_eq_true rfl)
  rw [hls]
  exact pw_X4_tellHead_0 hbd hR htr hd5 hB hnh σ x0 x1 ix0 ix1 hf _ _ _ _ _ (cw_W0 hM) (cl_sub hl [0, 1] rfl)

set_option maxHeartbeats 4000000 in
set_option maxRecDepth 100000 in
theorem pw_X4_tellWhole_0 {v : cwE} {bd : cBd} {p : Program} {l : Launch} {e : Env} {s : State} {m : MethodId} {args : Array Value} {below : List Frame} {meth : Method} {c : Code} {d : Nat} {rec : Nat → CS → List Int → CO} {σ0 σ' : CS} {kd : Nat} {r : Int} (hbd : bd = cw_bd v) (hR : cw_Rec l v d rec) (htr : l.stackTraces = false) (hd5 : 5 ≤ d) (B : cw_B v RX4 p s m args meth c cX4_tellWhole 2 none) (hnh : ∀ x ∈ c.exceptionTable.toList, False) : ∀ (σ : CS) (x0 x1 : Int), inR x0 → inR x1 → pc_X4_tellWhole_0 rec bd σ x0 x1 = some (σ', kd, r) → ∀ (H : Heap) (locs : List Loc) (cells slots : Nat) (ls : Array Slot), cw_W v s σ0 σ H locs cells slots → cl_has ls 2 [(0, cR v x0), (1, cR v x1)] → W p l e (cw_rm v (d + 1) σ0) s m args below meth c H locs cells slots (cw_Z below v σ0 σ' kd none args s) (F0 m 0 ls []) := by
  subst hbd
  obtain ⟨hx, hb, hr, hml, hown, hts, hlk, hK⟩ := id B
  intro σ x0 x1 ix0 ix1 hf H locs cells slots ls hw hl
  unfold pc_X4_tellWhole_0 at hf
  refine cl_aload_n hx hb dX4_tellWhole_0 rfl (lv_at hl.1 0 rfl) ?_
  refine cl_aload_n hx hb dX4_tellWhole_1 rfl (lv_at hl.1 1 rfl) ?_
  refine cl_null (v := v) hx hb dX4_tellWhole_2 ?_
  refine lv_iconst (v := rI 0) hx hb dX4_tellWhole_3 rfl ?_
  refine lv_iconst (v := rI 0) hx hb dX4_tellWhole_4 rfl ?_
  refine lv_iconst (v := rI 0) hx hb dX4_tellWhole_5 rfl ?_
  obtain ⟨qσ1, hf⟩ := cc_t_s hf
  obtain ⟨σ1, kv2, z3, hσ1, hf⟩ := cc_cl_s hf
  obtain ⟨iz3, mσ1⟩ := hR 94 σ [x0, x1, (-1), 0, 0, 0] σ1 kv2 z3 hσ1
  have mσ1 : cw_Met l v yX4_tell cX4_tell 10 none d [cR v x0, cR v x1, cR v (-1), .int (rI 0), .int (rI 0), .int (rI 0)] σ σ1 kv2 none := mσ1 ix0 ix1 ⟨by decide, by decide⟩ ⟨by decide, by decide⟩ ⟨by decide, by decide⟩ ⟨by decide, by decide⟩
  refine cw_cv (b := x0) (t := 5) (n := 5) (rest := []) (As := [cR v x1, cR v (-1), .int (rI 0), .int (rI 0), .int (rI 0)]) B mσ1 qσ1 ⟨by decide, by decide⟩ cgo_yX4_tell cml_X4_44 cin_yX4_tell cse_yX4_tell (by decide +kernel) (by decide) rfl hl.1.1 (Nat.le_of_ble_eq_true rfl) dX4_tellWhole_6 rfl hw (fun h0 H locs cells slots hw => ?_) (fun h0 H locs cells slots q ce hw h1 h2 h3 => ?_)
  · rcases hf with ⟨-, hf⟩ | ⟨hk, -⟩
    · skip
      exact cw_retv B hf hw dX4_tellWhole_9
    · exact absurd h0 hk
  · rcases hf with ⟨hk, -⟩ | ⟨-, hf⟩
    · exact absurd hk h0
    · cases hf
      exact cw_xout B hnh h0 hw h1 h2 h3

set_option maxHeartbeats 4000000 in
set_option maxRecDepth 100000 in
theorem pm_X4_tellWhole {v : cwE} {bd : cBd} {l : Launch} {d : Nat} {rec : Nat → CS → List Int → CO} (hbd : bd = cw_bd v) (hR : cw_Rec l v d rec) (htr : l.stackTraces = false) (hd5 : 5 ≤ d) (σ σ' : CS) (x0 x1 : Int) (kd : Nat) (r : Int) (ix0 : inR x0) (ix1 : inR x1) (hf : pc_X4_tellWhole_0 rec bd σ x0 x1 = some (σ', kd, r)) : cw_Met l v yX4_tellWhole cX4_tellWhole 2 none (d + 1) [cR v x0, cR v x1] σ σ' kd none := by
  refine cw_ofW (by decide +kernel) ?_
  intro p e s m args below meth c s₁ B hml hv
  obtain ⟨rfl, hM, hK⟩ := hv
  have hts := atoms_spec (ws := Cond.code yX4_tellWhole cX4_tellWhole 2 none :: cw_bw) B.pre
  have hB : cw_B v RX4 p s m _ meth c cX4_tellWhole 2 none := ⟨B.exec, B.bytes, B.returns, hml, findClass_of_methodNamed B.named, fun w h => hts w (List.mem_cons_of_mem _ h), B.notSynchronized, hK⟩
  have hnh := cc_nh B (hts _ List.mem_cons_self)
  rw [lg_entry_eq]
  obtain ⟨ls, hls, hl⟩ := cl_ent [cR v x0, cR v x1] 2 (cl_1r (cl_1r cl_10)) (Nat.le_of_ble_eq_true rfl)
  rw [hls]
  exact pw_X4_tellWhole_0 hbd hR htr hd5 hB hnh σ x0 x1 ix0 ix1 hf _ _ _ _ _ (cw_W0 hM) (cl_sub hl [0, 1] rfl)

set_option maxHeartbeats 4000000 in
set_option maxRecDepth 100000 in
theorem pw_X5_add_29 {v : cwE} {bd : cBd} {p : Program} {l : Launch} {e : Env} {s : State} {m : MethodId} {args : Array Value} {below : List Frame} {meth : Method} {c : Code} {d : Nat} {rec : Nat → CS → List Int → CO} {σ0 σ' : CS} {kd : Nat} {r : Int} (hbd : bd = cw_bd v) (hR : cw_Rec l v d rec) (htr : l.stackTraces = false) (hd5 : 5 ≤ d) (B : cw_B v RX5 p s m args meth c cX5_add 5 none) (hnh : ∀ x ∈ c.exceptionTable.toList, False) : ∀ (n : Nat) (σ : CS) (x0 x1 x2 x3 x4 : Int), inR x0 → inR x1 → inR x2 → inR x3 → inR x4 → pc_X5_add_29 rec bd n σ x0 x1 x2 x3 x4 = some (σ', kd, r) → ∀ (H : Heap) (locs : List Loc) (cells slots : Nat) (ls : Array Slot), cw_W v s σ0 σ H locs cells slots → cl_has ls 5 [(0, cR v x0), (1, cR v x1), (2, .int (rI x2)), (3, .int (rI x3)), (4, .int (rI x4))] → W p l e (cw_rm v (d + 1) σ0) s m args below meth c H locs cells slots (cw_Z below v σ0 σ' kd none args s) (F0 m 29 ls []) := by
  subst hbd
  obtain ⟨hx, hb, hr, hml, hown, hts, hlk, hK⟩ := id B
  intro n
  induction n with
  | zero => intro σ x0 x1 x2 x3 x4 ix0 ix1 ix2 ix3 ix4 hf; cases hf
  | succ n ih =>
    intro σ x0 x1 x2 x3 x4 ix0 ix1 ix2 ix3 ix4 hf H locs cells slots ls hw hl
    unfold pc_X5_add_29 at hf
    refine lv_iload hx hb dX5_add_29 (lv_at hl.1 4 rfl) ?_
    refine lv_iload_n hx hb dX5_add_31 rfl (lv_at hl.1 3 rfl) ?_
    refine rn_icmp_ge (a := x4) (b := x3) (tgt := 62) hx hb ix4 ix3 dX5_add_32 (by decide) (fun c1 => ?_) (fun c1 => ?_)
    · replace hf := cc_if_t hf c1
      refine cl_aload_n hx hb dX5_add_62 rfl (lv_at hl.1 0 rfl) ?_
      obtain ⟨z2, ez2, iz2, rz2, hf⟩ := cc_g_s hw hf
      refine cw_get (val := cR v z2) B hw rz2 ⟨by decide, by decide⟩ (by decide) cwi_6 cfl_X5_19 ez2 rfl dX5_add_63 ?_
      refine cl_aload_n hx hb dX5_add_66 rfl (lv_at hl.1 0 rfl) ?_
      obtain ⟨z3, ez3, iz3, rz3, hf⟩ := cc_g_s hw hf
      refine cw_get (val := .int (rI z3)) B hw rz3 ⟨by decide, by decide⟩ (by decide) cwi_6 cfl_X5_9 ez3 rfl dX5_add_67 ?_
      refine lv_iload_n hx hb dX5_add_70 rfl (lv_at hl.1 3 rfl) ?_
      obtain ⟨σ4, eσ4, rσ4, bσ4, hf⟩ := cc_w_s hf
      refine cw_astI B hw rσ4 iz3 bσ4 ix3 eσ4 dX5_add_71 (fun H locs hw => ?_)
      refine cl_aload_n hx hb dX5_add_72 rfl (lv_at hl.1 0 rfl) ?_
      refine lv_dup hx hb dX5_add_73 (cR_cat _) ?_
      obtain ⟨z5, ez5, iz5, rz5, hf⟩ := cc_g_s hw hf
      refine cw_get (val := .int (rI z5)) B hw rz5 ⟨by decide, by decide⟩ (by decide) cwi_6 cfl_X5_9 ez5 rfl dX5_add_74 ?_
      refine lv_iconst (v := rI 1) hx hb dX5_add_77 rfl ?_
      obtain ⟨z6, ez6, iz6, hf⟩ := cc_ck_s hf
      refine rn_add hx hb ez6 dX5_add_78 ?_
      obtain ⟨σ7, eσ7, rσ7, hf⟩ := cc_p_s hf
      refine cw_put B hw rσ7 cwt_6 (by decide) rfl cfl_X5_9 iz6 eσ7 rfl (cw_fv_n rfl rfl) dX5_add_79 (fun H locs hw => ?_)
      exact cw_retv B hf hw dX5_add_82
    · replace hf := cc_if_f hf c1
      refine cl_aload_n hx hb dX5_add_35 rfl (lv_at hl.1 0 rfl) ?_
      obtain ⟨z8, ez8, iz8, rz8, hf⟩ := cc_g_s hw hf
      refine cw_get (val := cR v z8) B hw rz8 ⟨by decide, by decide⟩ (by decide) cwi_6 cfl_X5_15 ez8 rfl dX5_add_36 ?_
      refine cl_aload_n hx hb dX5_add_39 rfl (lv_at hl.1 0 rfl) ?_
      obtain ⟨z9, ez9, iz9, rz9, hf⟩ := cc_g_s hw hf
      refine cw_get (val := .int (rI z9)) B hw rz9 ⟨by decide, by decide⟩ (by decide) cwi_6 cfl_X5_9 ez9 rfl dX5_add_40 ?_
      refine lv_bipush (v := rI 12) hx hb dX5_add_43 (by decide +kernel) ?_
      obtain ⟨z10, ez10, iz10, hf⟩ := cc_ck_s hf
      refine rn_mul hx hb ez10 dX5_add_45 ?_
      refine lv_iload hx hb dX5_add_46 (lv_at hl.1 4 rfl) ?_
      obtain ⟨z11, ez11, iz11, hf⟩ := cc_ck_s hf
      refine rn_add hx hb ez11 dX5_add_48 ?_
      refine cl_aload_n hx hb dX5_add_49 rfl (lv_at hl.1 1 rfl) ?_
      refine lv_iload_n hx hb dX5_add_50 rfl (lv_at hl.1 2 rfl) ?_
      refine lv_iload hx hb dX5_add_51 (lv_at hl.1 4 rfl) ?_
      obtain ⟨z12, ez12, iz12, hf⟩ := cc_ck_s hf
      refine rn_add hx hb ez12 dX5_add_53 ?_
      obtain ⟨z13, ez13, iz13, rz13, bz13, hf⟩ := cc_r_s hw hf
      refine cw_aldB B hw rz13 iz12 bz13 ez13 dX5_add_54 ?_
      obtain ⟨σ14, eσ14, rσ14, bσ14, hf⟩ := cc_w_s hf
      refine cw_astB B hw rσ14 iz11 bσ14 eσ14 dX5_add_55 (fun H locs hw => ?_)
      obtain ⟨z15, ez15, iz15, hf⟩ := cc_ck_s hf
      refine cl_iinc (v := rI z15) (lv' := [(4, .int (rI z15)), (0, cR v x0), (1, cR v x1), (2, .int (rI x2)), (3, .int (rI x3))]) hx hb dX5_add_56 hl (k := 4) rfl (by rw [ez15]; exact rI_add _ _) (by decide) rfl (fun ls hl => ?_)
      refine lv_goto (tgt := 29) hx hb dX5_add_59 (by decide) ?_
      exact ih σ14 x0 x1 x2 x3 z15 ix0 ix1 ix2 ix3 iz15 hf _ _ _ _ _ hw (cl_sub hl [1, 2, 3, 4, 0] rfl)

set_option maxHeartbeats 4000000 in
set_option maxRecDepth 100000 in
theorem pw_X5_add_0 {v : cwE} {bd : cBd} {p : Program} {l : Launch} {e : Env} {s : State} {m : MethodId} {args : Array Value} {below : List Frame} {meth : Method} {c : Code} {d : Nat} {rec : Nat → CS → List Int → CO} {σ0 σ' : CS} {kd : Nat} {r : Int} (hbd : bd = cw_bd v) (hR : cw_Rec l v d rec) (htr : l.stackTraces = false) (hd5 : 5 ≤ d) (B : cw_B v RX5 p s m args meth c cX5_add 5 none) (hnh : ∀ x ∈ c.exceptionTable.toList, False) : ∀ (σ : CS) (x0 x1 x2 x3 : Int), inR x0 → inR x1 → inR x2 → inR x3 → pc_X5_add_0 rec bd σ x0 x1 x2 x3 = some (σ', kd, r) → ∀ (H : Heap) (locs : List Loc) (cells slots : Nat) (ls : Array Slot), cw_W v s σ0 σ H locs cells slots → cl_has ls 5 [(0, cR v x0), (1, cR v x1), (2, .int (rI x2)), (3, .int (rI x3))] → W p l e (cw_rm v (d + 1) σ0) s m args below meth c H locs cells slots (cw_Z below v σ0 σ' kd none args s) (F0 m 0 ls []) := by
  subst hbd
  obtain ⟨hx, hb, hr, hml, hown, hts, hlk, hK⟩ := id B
  intro σ x0 x1 x2 x3 ix0 ix1 ix2 ix3 hf H locs cells slots ls hw hl
  unfold pc_X5_add_0 at hf
  refine cl_aload_n hx hb dX5_add_0 rfl (lv_at hl.1 0 rfl) ?_
  obtain ⟨qσ1, hf⟩ := cc_t_s hf
  obtain ⟨σ1, kv2, z3, hσ1, hf⟩ := cc_cl_s hf
  obtain ⟨iz3, mσ1⟩ := hR 102 σ [x0] σ1 kv2 z3 hσ1
  have mσ1 : cw_Met l v yX5_isFull cX5_isFull 1 (some .boolean) d [cR v x0] σ σ1 kv2 (some (.int (rI z3))) := mσ1 ix0
  refine cw_cv (b := x0) (t := 6) (n := 0) (rest := []) (As := []) B mσ1 qσ1 ⟨by decide, by decide⟩ cgo_yX5_isFull cml_X5_27 cin_yX5_isFull cse_yX5_isFull (by decide +kernel) (by decide) rfl hl.1.1 (Nat.le_of_ble_eq_true rfl) dX5_add_1 rfl hw (fun h0 H locs cells slots hw => ?_) (fun h0 H locs cells slots q ce hw h1 h2 h3 => ?_)
  · rcases hf with ⟨-, hf⟩ | ⟨hk, -⟩
    · skip
      refine rn_if_ne (a := z3) (tgt := 25) hx hb iz3 dX5_add_4 (by decide) (fun c4 => ?_) (fun c4 => ?_)
      · replace hf := cc_if_t hf c4
        exact cw_retv B hf hw dX5_add_25
      · replace hf := cc_if_f hf c4
        refine lv_iload_n hx hb dX5_add_7 rfl (lv_at hl.1 3 rfl) ?_
        refine lv_bipush (v := rI 12) hx hb dX5_add_8 (by decide +kernel) ?_
        refine rn_icmp_gt (a := x3) (b := 12) (tgt := 25) hx hb ix3 ⟨by decide, by decide⟩ dX5_add_10 (by decide) (fun c5 => ?_) (fun c5 => ?_)
        · replace hf := cc_if_t hf c5
          exact cw_retv B hf hw dX5_add_25
        · replace hf := cc_if_f hf c5
          refine lv_iload_n hx hb dX5_add_13 rfl (lv_at hl.1 2 rfl) ?_
          refine rn_if_lt (a := x2) (tgt := 25) hx hb ix2 dX5_add_14 (by decide) (fun c6 => ?_) (fun c6 => ?_)
          · replace hf := cc_if_t hf c6
            exact cw_retv B hf hw dX5_add_25
          · replace hf := cc_if_f hf c6
            refine lv_iload_n hx hb dX5_add_17 rfl (lv_at hl.1 2 rfl) ?_
            refine lv_iload_n hx hb dX5_add_18 rfl (lv_at hl.1 3 rfl) ?_
            obtain ⟨z7, ez7, iz7, hf⟩ := cc_ck_s hf
            refine rn_add hx hb ez7 dX5_add_19 ?_
            refine cl_aload_n hx hb dX5_add_20 rfl (lv_at hl.1 1 rfl) ?_
            obtain ⟨z8, ez8, iz8, rz8, hf⟩ := cc_l_s hf
            refine cw_len B hw rz8 (by decide) ez8 iz8 dX5_add_21 ?_
            refine rn_icmp_le (a := z7) (b := z8) (tgt := 26) hx hb iz7 iz8 dX5_add_22 (by decide) (fun c9 => ?_) (fun c9 => ?_)
            · replace hf := cc_if_t hf c9
              refine lv_iconst (v := rI 0) hx hb dX5_add_26 rfl ?_
              refine cl_istore (lv' := [(4, .int (rI 0)), (0, cR v x0), (1, cR v x1), (2, .int (rI x2)), (3, .int (rI x3))]) hx hb dX5_add_27 hl (by decide) rfl (fun ls hl => ?_)
              exact pw_X5_add_29 rfl hR htr hd5 B hnh 2000000 σ1 x0 x1 x2 x3 0 ix0 ix1 ix2 ix3 ⟨by decide, by decide⟩ hf _ _ _ _ _ hw (cl_sub hl [1, 2, 3, 4, 0] rfl)
            · replace hf := cc_if_f hf c9
              exact cw_retv B hf hw dX5_add_25
    · exact absurd h0 hk
  · rcases hf with ⟨hk, -⟩ | ⟨-, hf⟩
    · exact absurd hk h0
    · cases hf
      exact cw_xout B hnh h0 hw h1 h2 h3

set_option maxHeartbeats 4000000 in
set_option maxRecDepth 100000 in
theorem pm_X5_add {v : cwE} {bd : cBd} {l : Launch} {d : Nat} {rec : Nat → CS → List Int → CO} (hbd : bd = cw_bd v) (hR : cw_Rec l v d rec) (htr : l.stackTraces = false) (hd5 : 5 ≤ d) (σ σ' : CS) (x0 x1 x2 x3 : Int) (kd : Nat) (r : Int) (ix0 : inR x0) (ix1 : inR x1) (ix2 : inR x2) (ix3 : inR x3) (hf : pc_X5_add_0 rec bd σ x0 x1 x2 x3 = some (σ', kd, r)) : cw_Met l v yX5_add cX5_add 5 none (d + 1) [cR v x0, cR v x1, .int (rI x2), .int (rI x3)] σ σ' kd none := by
  refine cw_ofW (by decide +kernel) ?_
  intro p e s m args below meth c s₁ B hml hv
  obtain ⟨rfl, hM, hK⟩ := hv
  have hts := atoms_spec (ws := Cond.code yX5_add cX5_add 5 none :: cw_bw) B.pre
  have hB : cw_B v RX5 p s m _ meth c cX5_add 5 none := ⟨B.exec, B.bytes, B.returns, hml, findClass_of_methodNamed B.named, fun w h => hts w (List.mem_cons_of_mem _ h), B.notSynchronized, hK⟩
  have hnh := cc_nh B (hts _ List.mem_cons_self)
  rw [lg_entry_eq]
  obtain ⟨ls, hls, hl⟩ := cl_ent [cR v x0, cR v x1, .int (rI x2), .int (rI x3)] 5 (cl_1r (cl_1r (cl_1i (cl_1i cl_10)))) (Nat.le_of_ble_eq_true rfl)
  rw [hls]
  exact pw_X5_add_0 hbd hR htr hd5 hB hnh σ x0 x1 x2 x3 ix0 ix1 ix2 ix3 hf _ _ _ _ _ (cw_W0 hM) (cl_sub hl [0, 1, 2, 3] rfl)

set_option maxHeartbeats 4000000 in
set_option maxRecDepth 100000 in
theorem pw_X5_agree_33 {v : cwE} {bd : cBd} {p : Program} {l : Launch} {e : Env} {s : State} {m : MethodId} {args : Array Value} {below : List Frame} {meth : Method} {c : Code} {d : Nat} {rec : Nat → CS → List Int → CO} {σ0 σ' : CS} {kd : Nat} {r : Int} (hbd : bd = cw_bd v) (hR : cw_Rec l v d rec) (htr : l.stackTraces = false) (hd5 : 5 ≤ d) (B : cw_B v RX5 p s m args meth c cX5_agree 6 (some .boolean)) (hnh : ∀ x ∈ c.exceptionTable.toList, False) : ∀ (n : Nat) (σ : CS) (x0 x1 x2 x3 x4 x5 : Int), inR x0 → inR x1 → inR x2 → inR x3 → inR x4 → inR x5 → pc_X5_agree_33 rec bd n σ x0 x1 x2 x3 x4 x5 = some (σ', kd, r) → ∀ (H : Heap) (locs : List Loc) (cells slots : Nat) (ls : Array Slot), cw_W v s σ0 σ H locs cells slots → cl_has ls 6 [(0, cR v x0), (1, .int (rI x1)), (2, cR v x2), (3, .int (rI x3)), (4, .int (rI x4)), (5, .int (rI x5))] → W p l e (cw_rm v (d + 1) σ0) s m args below meth c H locs cells slots (cw_Z below v σ0 σ' kd (some (.int (rI r))) args s) (F0 m 33 ls []) := by
  subst hbd
  obtain ⟨hx, hb, hr, hml, hown, hts, hlk, hK⟩ := id B
  intro n
  induction n with
  | zero => intro σ x0 x1 x2 x3 x4 x5 ix0 ix1 ix2 ix3 ix4 ix5 hf; cases hf
  | succ n ih =>
    intro σ x0 x1 x2 x3 x4 x5 ix0 ix1 ix2 ix3 ix4 ix5 hf H locs cells slots ls hw hl
    unfold pc_X5_agree_33 at hf
    refine lv_iload hx hb dX5_agree_33 (lv_at hl.1 5 rfl) ?_
    refine lv_iload hx hb dX5_agree_35 (lv_at hl.1 4 rfl) ?_
    refine rn_icmp_ge (a := x5) (b := x4) (tgt := 63) hx hb ix5 ix4 dX5_agree_37 (by decide) (fun c1 => ?_) (fun c1 => ?_)
    · replace hf := cc_if_t hf c1
      refine lv_iconst (v := rI 1) hx hb dX5_agree_63 rfl ?_
      obtain ⟨h01, hf⟩ := cc_bo_s hf
      exact cw_retz B h01 hf hw dX5_agree_64
    · replace hf := cc_if_f hf c1
      refine cl_aload_n hx hb dX5_agree_40 rfl (lv_at hl.1 0 rfl) ?_
      refine lv_iload_n hx hb dX5_agree_41 rfl (lv_at hl.1 1 rfl) ?_
      refine lv_iload hx hb dX5_agree_42 (lv_at hl.1 5 rfl) ?_
      obtain ⟨z2, ez2, iz2, hf⟩ := cc_ck_s hf
      refine rn_add hx hb ez2 dX5_agree_44 ?_
      obtain ⟨z3, ez3, iz3, rz3, bz3, hf⟩ := cc_r_s hw hf
      refine cw_aldB B hw rz3 iz2 bz3 ez3 dX5_agree_45 ?_
      refine cl_aload_n hx hb dX5_agree_46 rfl (lv_at hl.1 2 rfl) ?_
      refine lv_iload_n hx hb dX5_agree_47 rfl (lv_at hl.1 3 rfl) ?_
      refine lv_iload hx hb dX5_agree_48 (lv_at hl.1 5 rfl) ?_
      obtain ⟨z4, ez4, iz4, hf⟩ := cc_ck_s hf
      refine rn_add hx hb ez4 dX5_agree_50 ?_
      obtain ⟨z5, ez5, iz5, rz5, bz5, hf⟩ := cc_r_s hw hf
      refine cw_aldB B hw rz5 iz4 bz5 ez5 dX5_agree_51 ?_
      refine rn_icmp_eq (a := z3) (b := z5) (tgt := 57) hx hb iz3 iz5 dX5_agree_52 (by decide) (fun c6 => ?_) (fun c6 => ?_)
      · replace hf := cc_if_t hf c6
        obtain ⟨z7, ez7, iz7, hf⟩ := cc_ck_s hf
        refine cl_iinc (v := rI z7) (lv' := [(5, .int (rI z7)), (0, cR v x0), (1, .int (rI x1)), (2, cR v x2), (3, .int (rI x3)), (4, .int (rI x4))]) hx hb dX5_agree_57 hl (k := 5) rfl (by rw [ez7]; exact rI_add _ _) (by decide) rfl (fun ls hl => ?_)
        refine lv_goto (tgt := 33) hx hb dX5_agree_60 (by decide) ?_
        exact ih σ x0 x1 x2 x3 x4 z7 ix0 ix1 ix2 ix3 ix4 iz7 hf _ _ _ _ _ hw (cl_sub hl [1, 2, 3, 4, 5, 0] rfl)
      · replace hf := cc_if_f hf c6
        refine lv_iconst (v := rI 0) hx hb dX5_agree_55 rfl ?_
        obtain ⟨h01, hf⟩ := cc_bo_s hf
        exact cw_retz B h01 hf hw dX5_agree_56

set_option maxHeartbeats 4000000 in
set_option maxRecDepth 100000 in
theorem pw_X5_agree_0 {v : cwE} {bd : cBd} {p : Program} {l : Launch} {e : Env} {s : State} {m : MethodId} {args : Array Value} {below : List Frame} {meth : Method} {c : Code} {d : Nat} {rec : Nat → CS → List Int → CO} {σ0 σ' : CS} {kd : Nat} {r : Int} (hbd : bd = cw_bd v) (hR : cw_Rec l v d rec) (htr : l.stackTraces = false) (hd5 : 5 ≤ d) (B : cw_B v RX5 p s m args meth c cX5_agree 6 (some .boolean)) (hnh : ∀ x ∈ c.exceptionTable.toList, False) : ∀ (σ : CS) (x0 x1 x2 x3 x4 : Int), inR x0 → inR x1 → inR x2 → inR x3 → inR x4 → pc_X5_agree_0 rec bd σ x0 x1 x2 x3 x4 = some (σ', kd, r) → ∀ (H : Heap) (locs : List Loc) (cells slots : Nat) (ls : Array Slot), cw_W v s σ0 σ H locs cells slots → cl_has ls 6 [(0, cR v x0), (1, .int (rI x1)), (2, cR v x2), (3, .int (rI x3)), (4, .int (rI x4))] → W p l e (cw_rm v (d + 1) σ0) s m args below meth c H locs cells slots (cw_Z below v σ0 σ' kd (some (.int (rI r))) args s) (F0 m 0 ls []) := by
  subst hbd
  obtain ⟨hx, hb, hr, hml, hown, hts, hlk, hK⟩ := id B
  intro σ x0 x1 x2 x3 x4 ix0 ix1 ix2 ix3 ix4 hf H locs cells slots ls hw hl
  unfold pc_X5_agree_0 at hf
  refine lv_iload_n hx hb dX5_agree_0 rfl (lv_at hl.1 1 rfl) ?_
  refine rn_if_lt (a := x1) (tgt := 13) hx hb ix1 dX5_agree_1 (by decide) (fun c1 => ?_) (fun c1 => ?_)
  · replace hf := cc_if_t hf c1
    refine lv_iconst (v := rI 0) hx hb dX5_agree_13 rfl ?_
    obtain ⟨h01, hf⟩ := cc_bo_s hf
    exact cw_retz B h01 hf hw dX5_agree_14
  · replace hf := cc_if_f hf c1
    refine lv_iload_n hx hb dX5_agree_4 rfl (lv_at hl.1 1 rfl) ?_
    refine lv_iload hx hb dX5_agree_5 (lv_at hl.1 4 rfl) ?_
    obtain ⟨z2, ez2, iz2, hf⟩ := cc_ck_s hf
    refine rn_add hx hb ez2 dX5_agree_7 ?_
    refine cl_aload_n hx hb dX5_agree_8 rfl (lv_at hl.1 0 rfl) ?_
    obtain ⟨z3, ez3, iz3, rz3, hf⟩ := cc_l_s hf
    refine cw_len B hw rz3 (by decide) ez3 iz3 dX5_agree_9 ?_
    refine rn_icmp_le (a := z2) (b := z3) (tgt := 15) hx hb iz2 iz3 dX5_agree_10 (by decide) (fun c4 => ?_) (fun c4 => ?_)
    · replace hf := cc_if_t hf c4
      refine lv_iload_n hx hb dX5_agree_15 rfl (lv_at hl.1 3 rfl) ?_
      refine rn_if_lt (a := x3) (tgt := 28) hx hb ix3 dX5_agree_16 (by decide) (fun c5 => ?_) (fun c5 => ?_)
      · replace hf := cc_if_t hf c5
        refine lv_iconst (v := rI 0) hx hb dX5_agree_28 rfl ?_
        obtain ⟨h01, hf⟩ := cc_bo_s hf
        exact cw_retz B h01 hf hw dX5_agree_29
      · replace hf := cc_if_f hf c5
        refine lv_iload_n hx hb dX5_agree_19 rfl (lv_at hl.1 3 rfl) ?_
        refine lv_iload hx hb dX5_agree_20 (lv_at hl.1 4 rfl) ?_
        obtain ⟨z6, ez6, iz6, hf⟩ := cc_ck_s hf
        refine rn_add hx hb ez6 dX5_agree_22 ?_
        refine cl_aload_n hx hb dX5_agree_23 rfl (lv_at hl.1 2 rfl) ?_
        obtain ⟨z7, ez7, iz7, rz7, hf⟩ := cc_l_s hf
        refine cw_len B hw rz7 (by decide) ez7 iz7 dX5_agree_24 ?_
        refine rn_icmp_le (a := z6) (b := z7) (tgt := 30) hx hb iz6 iz7 dX5_agree_25 (by decide) (fun c8 => ?_) (fun c8 => ?_)
        · replace hf := cc_if_t hf c8
          refine lv_iconst (v := rI 0) hx hb dX5_agree_30 rfl ?_
          refine cl_istore (lv' := [(5, .int (rI 0)), (0, cR v x0), (1, .int (rI x1)), (2, cR v x2), (3, .int (rI x3)), (4, .int (rI x4))]) hx hb dX5_agree_31 hl (by decide) rfl (fun ls hl => ?_)
          exact pw_X5_agree_33 rfl hR htr hd5 B hnh 2000000 σ x0 x1 x2 x3 x4 0 ix0 ix1 ix2 ix3 ix4 ⟨by decide, by decide⟩ hf _ _ _ _ _ hw (cl_sub hl [1, 2, 3, 4, 5, 0] rfl)
        · replace hf := cc_if_f hf c8
          refine lv_iconst (v := rI 0) hx hb dX5_agree_28 rfl ?_
          obtain ⟨h01, hf⟩ := cc_bo_s hf
          exact cw_retz B h01 hf hw dX5_agree_29
    · replace hf := cc_if_f hf c4
      refine lv_iconst (v := rI 0) hx hb dX5_agree_13 rfl ?_
      obtain ⟨h01, hf⟩ := cc_bo_s hf
      exact cw_retz B h01 hf hw dX5_agree_14

set_option maxHeartbeats 4000000 in
set_option maxRecDepth 100000 in
theorem pm_X5_agree {v : cwE} {bd : cBd} {l : Launch} {d : Nat} {rec : Nat → CS → List Int → CO} (hbd : bd = cw_bd v) (hR : cw_Rec l v d rec) (htr : l.stackTraces = false) (hd5 : 5 ≤ d) (σ σ' : CS) (x0 x1 x2 x3 x4 : Int) (kd : Nat) (r : Int) (ix0 : inR x0) (ix1 : inR x1) (ix2 : inR x2) (ix3 : inR x3) (ix4 : inR x4) (hf : pc_X5_agree_0 rec bd σ x0 x1 x2 x3 x4 = some (σ', kd, r)) : cw_Met l v yX5_agree cX5_agree 6 (some .boolean) (d + 1) [cR v x0, .int (rI x1), cR v x2, .int (rI x3), .int (rI x4)] σ σ' kd (some (.int (rI r))) := by
  refine cw_ofW (by decide +kernel) ?_
  intro p e s m args below meth c s₁ B hml hv
  obtain ⟨rfl, hM, hK⟩ := hv
  have hts := atoms_spec (ws := Cond.code yX5_agree cX5_agree 6 (some .boolean) :: cw_bw) B.pre
  have hB : cw_B v RX5 p s m _ meth c cX5_agree 6 (some .boolean) := ⟨B.exec, B.bytes, B.returns, hml, findClass_of_methodNamed B.named, fun w h => hts w (List.mem_cons_of_mem _ h), B.notSynchronized, hK⟩
  have hnh := cc_nh B (hts _ List.mem_cons_self)
  rw [lg_entry_eq]
  obtain ⟨ls, hls, hl⟩ := cl_ent [cR v x0, .int (rI x1), cR v x2, .int (rI x3), .int (rI x4)] 6 (cl_1r (cl_1i (cl_1r (cl_1i (cl_1i cl_10))))) (Nat.le_of_ble_eq_true rfl)
  rw [hls]
  exact pw_X5_agree_0 hbd hR htr hd5 hB hnh σ x0 x1 x2 x3 x4 ix0 ix1 ix2 ix3 ix4 hf _ _ _ _ _ (cw_W0 hM) (cl_sub hl [0, 1, 2, 3, 4] rfl)

set_option maxHeartbeats 4000000 in
set_option maxRecDepth 100000 in
theorem pw_X5_find_44 {v : cwE} {bd : cBd} {p : Program} {l : Launch} {e : Env} {s : State} {m : MethodId} {args : Array Value} {below : List Frame} {meth : Method} {c : Code} {d : Nat} {rec : Nat → CS → List Int → CO} {σ0 σ' : CS} {kd : Nat} {r : Int} (hbd : bd = cw_bd v) (hR : cw_Rec l v d rec) (htr : l.stackTraces = false) (hd5 : 5 ≤ d) (B : cw_B v RX5 p s m args meth c cX5_find 5 (some .int)) (hnh : ∀ x ∈ c.exceptionTable.toList, False) (k3 : CS → Int → Int → Int → Int → Int → CO) (hk3 : ∀ (σ : CS) (x0 x1 x2 x3 x4 : Int), inR x0 → inR x1 → inR x2 → inR x3 → inR x4 → k3 σ x0 x1 x2 x3 x4 = some (σ', kd, r) → ∀ (H : Heap) (locs : List Loc) (cells slots : Nat) (ls : Array Slot), cw_W v s σ0 σ H locs cells slots → cl_has ls 5 [(0, cR v x0), (1, cR v x1), (2, .int (rI x2)), (3, .int (rI x3)), (4, .int (rI x4))] → W p l e (cw_rm v (d + 1) σ0) s m args below meth c H locs cells slots (cw_Z below v σ0 σ' kd (some (.int (rI r))) args s) (F0 m 3 ls [])) : ∀ (σ : CS) (x0 x1 x2 x3 x4 : Int), inR x0 → inR x1 → inR x2 → inR x3 → inR x4 → pc_X5_find_44 rec bd k3 σ x0 x1 x2 x3 x4 = some (σ', kd, r) → ∀ (H : Heap) (locs : List Loc) (cells slots : Nat) (ls : Array Slot), cw_W v s σ0 σ H locs cells slots → cl_has ls 5 [(0, cR v x0), (1, cR v x1), (2, .int (rI x2)), (3, .int (rI x3)), (4, .int (rI x4))] → W p l e (cw_rm v (d + 1) σ0) s m args below meth c H locs cells slots (cw_Z below v σ0 σ' kd (some (.int (rI r))) args s) (F0 m 44 ls []) := by
  subst hbd
  obtain ⟨hx, hb, hr, hml, hown, hts, hlk, hK⟩ := id B
  intro σ x0 x1 x2 x3 x4 ix0 ix1 ix2 ix3 ix4 hf H locs cells slots ls hw hl
  unfold pc_X5_find_44 at hf
  obtain ⟨z1, ez1, iz1, hf⟩ := cc_ck_s hf
  refine cl_iinc (v := rI z1) (lv' := [(4, .int (rI z1)), (0, cR v x0), (1, cR v x1), (2, .int (rI x2)), (3, .int (rI x3))]) hx hb dX5_find_44 hl (k := 4) rfl (by rw [ez1]; exact rI_add _ _) (by decide) rfl (fun ls hl => ?_)
  refine lv_goto (tgt := 3) hx hb dX5_find_47 (by decide) ?_
  exact hk3 σ x0 x1 x2 x3 z1 ix0 ix1 ix2 ix3 iz1 hf _ _ _ _ _ hw (cl_sub hl [1, 2, 3, 4, 0] rfl)

set_option maxHeartbeats 4000000 in
set_option maxRecDepth 100000 in
theorem pw_X5_find_3 {v : cwE} {bd : cBd} {p : Program} {l : Launch} {e : Env} {s : State} {m : MethodId} {args : Array Value} {below : List Frame} {meth : Method} {c : Code} {d : Nat} {rec : Nat → CS → List Int → CO} {σ0 σ' : CS} {kd : Nat} {r : Int} (hbd : bd = cw_bd v) (hR : cw_Rec l v d rec) (htr : l.stackTraces = false) (hd5 : 5 ≤ d) (B : cw_B v RX5 p s m args meth c cX5_find 5 (some .int)) (hnh : ∀ x ∈ c.exceptionTable.toList, False) : ∀ (n : Nat) (σ : CS) (x0 x1 x2 x3 x4 : Int), inR x0 → inR x1 → inR x2 → inR x3 → inR x4 → pc_X5_find_3 rec bd n σ x0 x1 x2 x3 x4 = some (σ', kd, r) → ∀ (H : Heap) (locs : List Loc) (cells slots : Nat) (ls : Array Slot), cw_W v s σ0 σ H locs cells slots → cl_has ls 5 [(0, cR v x0), (1, cR v x1), (2, .int (rI x2)), (3, .int (rI x3)), (4, .int (rI x4))] → W p l e (cw_rm v (d + 1) σ0) s m args below meth c H locs cells slots (cw_Z below v σ0 σ' kd (some (.int (rI r))) args s) (F0 m 3 ls []) := by
  subst hbd
  obtain ⟨hx, hb, hr, hml, hown, hts, hlk, hK⟩ := id B
  intro n
  induction n with
  | zero => intro σ x0 x1 x2 x3 x4 ix0 ix1 ix2 ix3 ix4 hf; cases hf
  | succ n ih =>
    intro σ x0 x1 x2 x3 x4 ix0 ix1 ix2 ix3 ix4 hf H locs cells slots ls hw hl
    unfold pc_X5_find_3 at hf
    refine lv_iload hx hb dX5_find_3 (lv_at hl.1 4 rfl) ?_
    refine cl_aload_n hx hb dX5_find_5 rfl (lv_at hl.1 0 rfl) ?_
    obtain ⟨z1, ez1, iz1, rz1, hf⟩ := cc_g_s hw hf
    refine cw_get (val := .int (rI z1)) B hw rz1 ⟨by decide, by decide⟩ (by decide) cwi_6 cfl_X5_9 ez1 rfl dX5_find_6 ?_
    refine rn_icmp_ge (a := x4) (b := z1) (tgt := 50) hx hb ix4 iz1 dX5_find_9 (by decide) (fun c2 => ?_) (fun c2 => ?_)
    · replace hf := cc_if_t hf c2
      refine lv_iconst (v := rI (-1)) hx hb dX5_find_50 rfl ?_
      exact cw_reti B hf hw dX5_find_51
    · replace hf := cc_if_f hf c2
      refine cl_aload_n hx hb dX5_find_12 rfl (lv_at hl.1 0 rfl) ?_
      obtain ⟨z3, ez3, iz3, rz3, hf⟩ := cc_g_s hw hf
      refine cw_get (val := cR v z3) B hw rz3 ⟨by decide, by decide⟩ (by decide) cwi_6 cfl_X5_19 ez3 rfl dX5_find_13 ?_
      refine lv_iload hx hb dX5_find_16 (lv_at hl.1 4 rfl) ?_
      obtain ⟨z4, ez4, iz4, rz4, bz4, hf⟩ := cc_r_s hw hf
      refine cw_aldI B hw rz4 ix4 bz4 ez4 dX5_find_18 ?_
      refine lv_iload_n hx hb dX5_find_19 rfl (lv_at hl.1 3 rfl) ?_
      refine rn_icmp_ne (a := z4) (b := x3) (tgt := 44) hx hb iz4 ix3 dX5_find_20 (by decide) (fun c5 => ?_) (fun c5 => ?_)
      · replace hf := cc_if_t hf c5
        exact pw_X5_find_44 rfl hR htr hd5 B hnh (pc_X5_find_3 rec (cw_bd v) n) ih σ x0 x1 x2 x3 x4 ix0 ix1 ix2 ix3 ix4 hf _ _ _ _ _ hw (cl_sub hl [0, 1, 2, 3, 4] rfl)
      · replace hf := cc_if_f hf c5
        refine cl_aload_n hx hb dX5_find_23 rfl (lv_at hl.1 0 rfl) ?_
        obtain ⟨z6, ez6, iz6, rz6, hf⟩ := cc_g_s hw hf
        refine cw_get (val := cR v z6) B hw rz6 ⟨by decide, by decide⟩ (by decide) cwi_6 cfl_X5_15 ez6 rfl dX5_find_24 ?_
        refine lv_iload hx hb dX5_find_27 (lv_at hl.1 4 rfl) ?_
        refine lv_bipush (v := rI 12) hx hb dX5_find_29 (by decide +kernel) ?_
        obtain ⟨z7, ez7, iz7, hf⟩ := cc_ck_s hf
        refine rn_mul hx hb ez7 dX5_find_31 ?_
        refine cl_aload_n hx hb dX5_find_32 rfl (lv_at hl.1 1 rfl) ?_
        refine lv_iload_n hx hb dX5_find_33 rfl (lv_at hl.1 2 rfl) ?_
        refine lv_iload_n hx hb dX5_find_34 rfl (lv_at hl.1 3 rfl) ?_
        obtain ⟨σ8, kv9, z10, hσ8, hf⟩ := cc_cl_s hf
        obtain ⟨iz10, mσ8⟩ := hR 98 σ [z6, z7, x1, x2, x3] σ8 kv9 z10 hσ8
        have mσ8 : cw_Met l v yX5_agree cX5_agree 6 (some .boolean) d [cR v z6, .int (rI z7), cR v x1, .int (rI x2), .int (rI x3)] σ σ8 kv9 (some (.int (rI z10))) := mσ8 iz6 iz7 ix1 ix2 ix3
        refine cw_cs (n := 5) (rest := []) (As := [cR v z6, .int (rI z7), cR v x1, .int (rI x2), .int (rI x3)]) B mσ8 cgo_yX5_agree cml_X5_23 cst_yX5_agree (by decide +kernel) (by decide) rfl hl.1.1 (Nat.le_of_ble_eq_true rfl) dX5_find_35 rfl hw (fun h0 H locs cells slots hw => ?_) (fun h0 H locs cells slots q ce hw h1 h2 h3 => ?_)
        · rcases hf with ⟨-, hf⟩ | ⟨hk, -⟩
          · skip
            refine rn_if_eq (a := z10) (tgt := 44) hx hb iz10 dX5_find_38 (by decide) (fun c11 => ?_) (fun c11 => ?_)
            · replace hf := cc_if_t hf c11
              exact pw_X5_find_44 rfl hR htr hd5 B hnh (pc_X5_find_3 rec (cw_bd v) n) ih σ8 x0 x1 x2 x3 x4 ix0 ix1 ix2 ix3 ix4 hf _ _ _ _ _ hw (cl_sub hl [0, 1, 2, 3, 4] rfl)
            · replace hf := cc_if_f hf c11
              refine lv_iload hx hb dX5_find_41 (lv_at hl.1 4 rfl) ?_
              exact cw_reti B hf hw dX5_find_43
          · exact absurd h0 hk
        · rcases hf with ⟨hk, -⟩ | ⟨-, hf⟩
          · exact absurd hk h0
          · cases hf
            exact cw_xout B hnh h0 hw h1 h2 h3

set_option maxHeartbeats 4000000 in
set_option maxRecDepth 100000 in
theorem pw_X5_find_0 {v : cwE} {bd : cBd} {p : Program} {l : Launch} {e : Env} {s : State} {m : MethodId} {args : Array Value} {below : List Frame} {meth : Method} {c : Code} {d : Nat} {rec : Nat → CS → List Int → CO} {σ0 σ' : CS} {kd : Nat} {r : Int} (hbd : bd = cw_bd v) (hR : cw_Rec l v d rec) (htr : l.stackTraces = false) (hd5 : 5 ≤ d) (B : cw_B v RX5 p s m args meth c cX5_find 5 (some .int)) (hnh : ∀ x ∈ c.exceptionTable.toList, False) : ∀ (σ : CS) (x0 x1 x2 x3 : Int), inR x0 → inR x1 → inR x2 → inR x3 → pc_X5_find_0 rec bd σ x0 x1 x2 x3 = some (σ', kd, r) → ∀ (H : Heap) (locs : List Loc) (cells slots : Nat) (ls : Array Slot), cw_W v s σ0 σ H locs cells slots → cl_has ls 5 [(0, cR v x0), (1, cR v x1), (2, .int (rI x2)), (3, .int (rI x3))] → W p l e (cw_rm v (d + 1) σ0) s m args below meth c H locs cells slots (cw_Z below v σ0 σ' kd (some (.int (rI r))) args s) (F0 m 0 ls []) := by
  subst hbd
  obtain ⟨hx, hb, hr, hml, hown, hts, hlk, hK⟩ := id B
  intro σ x0 x1 x2 x3 ix0 ix1 ix2 ix3 hf H locs cells slots ls hw hl
  unfold pc_X5_find_0 at hf
  refine lv_iconst (v := rI 0) hx hb dX5_find_0 rfl ?_
  refine cl_istore (lv' := [(4, .int (rI 0)), (0, cR v x0), (1, cR v x1), (2, .int (rI x2)), (3, .int (rI x3))]) hx hb dX5_find_1 hl (by decide) rfl (fun ls hl => ?_)
  exact pw_X5_find_3 rfl hR htr hd5 B hnh 2000000 σ x0 x1 x2 x3 0 ix0 ix1 ix2 ix3 ⟨by decide, by decide⟩ hf _ _ _ _ _ hw (cl_sub hl [1, 2, 3, 4, 0] rfl)

set_option maxHeartbeats 4000000 in
set_option maxRecDepth 100000 in
theorem pm_X5_find {v : cwE} {bd : cBd} {l : Launch} {d : Nat} {rec : Nat → CS → List Int → CO} (hbd : bd = cw_bd v) (hR : cw_Rec l v d rec) (htr : l.stackTraces = false) (hd5 : 5 ≤ d) (σ σ' : CS) (x0 x1 x2 x3 : Int) (kd : Nat) (r : Int) (ix0 : inR x0) (ix1 : inR x1) (ix2 : inR x2) (ix3 : inR x3) (hf : pc_X5_find_0 rec bd σ x0 x1 x2 x3 = some (σ', kd, r)) : cw_Met l v yX5_find cX5_find 5 (some .int) (d + 1) [cR v x0, cR v x1, .int (rI x2), .int (rI x3)] σ σ' kd (some (.int (rI r))) := by
  refine cw_ofW (by decide +kernel) ?_
  intro p e s m args below meth c s₁ B hml hv
  obtain ⟨rfl, hM, hK⟩ := hv
  have hts := atoms_spec (ws := Cond.code yX5_find cX5_find 5 (some .int) :: cw_bw) B.pre
  have hB : cw_B v RX5 p s m _ meth c cX5_find 5 (some .int) := ⟨B.exec, B.bytes, B.returns, hml, findClass_of_methodNamed B.named, fun w h => hts w (List.mem_cons_of_mem _ h), B.notSynchronized, hK⟩
  have hnh := cc_nh B (hts _ List.mem_cons_self)
  rw [lg_entry_eq]
  obtain ⟨ls, hls, hl⟩ := cl_ent [cR v x0, cR v x1, .int (rI x2), .int (rI x3)] 5 (cl_1r (cl_1r (cl_1i (cl_1i cl_10)))) (Nat.le_of_ble_eq_true rfl)
  rw [hls]
  exact pw_X5_find_0 hbd hR htr hd5 hB hnh σ x0 x1 x2 x3 ix0 ix1 ix2 ix3 hf _ _ _ _ _ (cw_W0 hM) (cl_sub hl [0, 1, 2, 3] rfl)

set_option maxHeartbeats 4000000 in
set_option maxRecDepth 100000 in
theorem pw_X5_has_0 {v : cwE} {bd : cBd} {p : Program} {l : Launch} {e : Env} {s : State} {m : MethodId} {args : Array Value} {below : List Frame} {meth : Method} {c : Code} {d : Nat} {rec : Nat → CS → List Int → CO} {σ0 σ' : CS} {kd : Nat} {r : Int} (hbd : bd = cw_bd v) (hR : cw_Rec l v d rec) (htr : l.stackTraces = false) (hd5 : 5 ≤ d) (B : cw_B v RX5 p s m args meth c cX5_has 2 (some .boolean)) (hnh : ∀ x ∈ c.exceptionTable.toList, False) : ∀ (σ : CS) (x0 x1 : Int), inR x0 → inR x1 → pc_X5_has_0 rec bd σ x0 x1 = some (σ', kd, r) → ∀ (H : Heap) (locs : List Loc) (cells slots : Nat) (ls : Array Slot), cw_W v s σ0 σ H locs cells slots → cl_has ls 2 [(0, cR v x0), (1, .int (rI x1))] → W p l e (cw_rm v (d + 1) σ0) s m args below meth c H locs cells slots (cw_Z below v σ0 σ' kd (some (.int (rI r))) args s) (F0 m 0 ls []) := by
  subst hbd
  obtain ⟨hx, hb, hr, hml, hown, hts, hlk, hK⟩ := id B
  intro σ x0 x1 ix0 ix1 hf H locs cells slots ls hw hl
  unfold pc_X5_has_0 at hf
  refine lv_iload_n hx hb dX5_has_0 rfl (lv_at hl.1 1 rfl) ?_
  refine rn_if_lt (a := x1) (tgt := 16) hx hb ix1 dX5_has_1 (by decide) (fun c1 => ?_) (fun c1 => ?_)
  · replace hf := cc_if_t hf c1
    refine lv_iconst (v := rI 0) hx hb dX5_has_16 rfl ?_
    obtain ⟨h01, hf⟩ := cc_bo_s hf
    exact cw_retz B h01 hf hw dX5_has_17
  · replace hf := cc_if_f hf c1
    refine lv_iload_n hx hb dX5_has_4 rfl (lv_at hl.1 1 rfl) ?_
    refine cl_aload_n hx hb dX5_has_5 rfl (lv_at hl.1 0 rfl) ?_
    obtain ⟨z2, ez2, iz2, rz2, hf⟩ := cc_g_s hw hf
    refine cw_get (val := .int (rI z2)) B hw rz2 ⟨by decide, by decide⟩ (by decide) cwi_6 cfl_X5_9 ez2 rfl dX5_has_6 ?_
    refine rn_icmp_ge (a := x1) (b := z2) (tgt := 16) hx hb ix1 iz2 dX5_has_9 (by decide) (fun c3 => ?_) (fun c3 => ?_)
    · replace hf := cc_if_t hf c3
      refine lv_iconst (v := rI 0) hx hb dX5_has_16 rfl ?_
      obtain ⟨h01, hf⟩ := cc_bo_s hf
      exact cw_retz B h01 hf hw dX5_has_17
    · replace hf := cc_if_f hf c3
      refine lv_iconst (v := rI 1) hx hb dX5_has_12 rfl ?_
      refine lv_goto (tgt := 17) hx hb dX5_has_13 (by decide) ?_
      obtain ⟨h01, hf⟩ := cc_bo_s hf
      exact cw_retz B h01 hf hw dX5_has_17

set_option maxHeartbeats 4000000 in
set_option maxRecDepth 100000 in
theorem pm_X5_has {v : cwE} {bd : cBd} {l : Launch} {d : Nat} {rec : Nat → CS → List Int → CO} (hbd : bd = cw_bd v) (hR : cw_Rec l v d rec) (htr : l.stackTraces = false) (hd5 : 5 ≤ d) (σ σ' : CS) (x0 x1 : Int) (kd : Nat) (r : Int) (ix0 : inR x0) (ix1 : inR x1) (hf : pc_X5_has_0 rec bd σ x0 x1 = some (σ', kd, r)) : cw_Met l v yX5_has cX5_has 2 (some .boolean) (d + 1) [cR v x0, .int (rI x1)] σ σ' kd (some (.int (rI r))) := by
  refine cw_ofW (by decide +kernel) ?_
  intro p e s m args below meth c s₁ B hml hv
  obtain ⟨rfl, hM, hK⟩ := hv
  have hts := atoms_spec (ws := Cond.code yX5_has cX5_has 2 (some .boolean) :: cw_bw) B.pre
  have hB : cw_B v RX5 p s m _ meth c cX5_has 2 (some .boolean) := ⟨B.exec, B.bytes, B.returns, hml, findClass_of_methodNamed B.named, fun w h => hts w (List.mem_cons_of_mem _ h), B.notSynchronized, hK⟩
  have hnh := cc_nh B (hts _ List.mem_cons_self)
  rw [lg_entry_eq]
  obtain ⟨ls, hls, hl⟩ := cl_ent [cR v x0, .int (rI x1)] 2 (cl_1r (cl_1i cl_10)) (Nat.le_of_ble_eq_true rfl)
  rw [hls]
  exact pw_X5_has_0 hbd hR htr hd5 hB hnh σ x0 x1 ix0 ix1 hf _ _ _ _ _ (cw_W0 hM) (cl_sub hl [0, 1] rfl)

set_option maxHeartbeats 4000000 in
set_option maxRecDepth 100000 in
theorem pw_X5_init_0 {v : cwE} {bd : cBd} {p : Program} {l : Launch} {e : Env} {s : State} {m : MethodId} {args : Array Value} {below : List Frame} {meth : Method} {c : Code} {d : Nat} {rec : Nat → CS → List Int → CO} {σ0 σ' : CS} {kd : Nat} {r : Int} (hbd : bd = cw_bd v) (hR : cw_Rec l v d rec) (htr : l.stackTraces = false) (hd5 : 5 ≤ d) (B : cw_B v RX5 p s m args meth c cX5_init 2 none) (hin : meth.name = "<init>") (hnh : ∀ x ∈ c.exceptionTable.toList, False) : ∀ (σ : CS) (x0 x1 : Int), inR x0 → inR x1 → pc_X5_init_0 rec bd σ x0 x1 = some (σ', kd, r) → ∀ (H : Heap) (locs : List Loc) (cells slots : Nat) (ls : Array Slot), cw_W v s σ0 σ H locs cells slots → cl_has ls 2 [(0, cR v x0), (1, .int (rI x1))] → W p l e (cw_rm v (d + 1) σ0) s m args below meth c H locs cells slots (cw_Z below v σ0 σ' kd none args s) (F0 m 0 ls []) := by
  subst hbd
  obtain ⟨hx, hb, hr, hml, hown, hts, hlk, hK⟩ := id B
  intro σ x0 x1 ix0 ix1 hf H locs cells slots ls hw hl
  unfold pc_X5_init_0 at hf
  refine cl_aload_n hx hb dX5_init_0 rfl (lv_at hl.1 0 rfl) ?_
  obtain ⟨q0, hf⟩ := cc_t_s hf
  rw [cR_r q0.1]
  refine W.objInit hx hb hown (hts _ coi_X5_3) (hts _ coi2) (hts _ coi3) rfl (hl.1.1.trans hml.symm) rfl dX5_init_1 (by show 1 ≤ d + 1; omega) (by show _ + 12 ≤ 100 * (d + 1); simp [JFrame.monitorRoom]; omega) ?_
  refine cl_aload_n hx hb dX5_init_4 rfl (lv_at hl.1 0 rfl) ?_
  refine lv_iconst (v := rI 0) hx hb dX5_init_5 rfl ?_
  obtain ⟨σ1, eσ1, rσ1, hf⟩ := cc_p_s hf
  refine cw_put B hw rσ1 cwt_6 (by decide) rfl cfl_X5_9 ⟨by decide, by decide⟩ eσ1 rfl (cw_fv_n rfl rfl) dX5_init_6 (fun H locs hw => ?_)
  refine cl_aload_n hx hb dX5_init_9 rfl (lv_at hl.1 0 rfl) ?_
  refine lv_iload_n hx hb dX5_init_10 rfl (lv_at hl.1 1 rfl) ?_
  refine lv_bipush (v := rI 12) hx hb dX5_init_11 (by decide +kernel) ?_
  obtain ⟨z2, ez2, iz2, hf⟩ := cc_ck_s hf
  refine rn_mul hx hb ez2 dX5_init_13 ?_
  obtain ⟨σ3, z4, eσ3, ez4, iz4, qσ3, rσ3, hf⟩ := cc_na_s hf
  refine cw_newa (t := 20) B hw (Or.inl ⟨rfl, rfl⟩) cac_byte iz2 qσ3.1 qσ3.2 rσ3 eσ3 ez4 dX5_init_14 (fun H hw => ?_)
  obtain ⟨σ5, eσ5, rσ5, hf⟩ := cc_p_s hf
  refine cw_putF B hin hw rσ5 cwt_6 (by decide) rfl rfl rfl cfl_X5_15 iz4 eσ5 rfl (cw_fv_r rfl (Or.inr ⟨_, rfl⟩)) dX5_init_16 (fun H locs hw => ?_)
  refine cl_aload_n hx hb dX5_init_19 rfl (lv_at hl.1 0 rfl) ?_
  refine lv_iload_n hx hb dX5_init_20 rfl (lv_at hl.1 1 rfl) ?_
  obtain ⟨σ6, z7, eσ6, ez7, iz7, qσ6, rσ6, hf⟩ := cc_na_s hf
  refine cw_newa (t := 21) B hw (Or.inr ⟨rfl, rfl⟩) cac_int ix1 qσ6.1 qσ6.2 rσ6 eσ6 ez7 dX5_init_21 (fun H hw => ?_)
  obtain ⟨σ8, eσ8, rσ8, hf⟩ := cc_p_s hf
  refine cw_putF B hin hw rσ8 cwt_6 (by decide) rfl rfl rfl cfl_X5_19 iz7 eσ8 rfl (cw_fv_r rfl (Or.inr ⟨_, rfl⟩)) dX5_init_23 (fun H locs hw => ?_)
  exact cw_retv B hf hw dX5_init_26

set_option maxHeartbeats 4000000 in
set_option maxRecDepth 100000 in
theorem pm_X5_init {v : cwE} {bd : cBd} {l : Launch} {d : Nat} {rec : Nat → CS → List Int → CO} (hbd : bd = cw_bd v) (hR : cw_Rec l v d rec) (htr : l.stackTraces = false) (hd5 : 5 ≤ d) (σ σ' : CS) (x0 x1 : Int) (kd : Nat) (r : Int) (ix0 : inR x0) (ix1 : inR x1) (hf : pc_X5_init_0 rec bd σ x0 x1 = some (σ', kd, r)) : cw_Met l v yX5_init cX5_init 2 none (d + 1) [cR v x0, .int (rI x1)] σ σ' kd none := by
  refine cw_ofW (by decide +kernel) ?_
  intro p e s m args below meth c s₁ B hml hv
  obtain ⟨rfl, hM, hK⟩ := hv
  have hts := atoms_spec (ws := Cond.code yX5_init cX5_init 2 none :: cw_bw) B.pre
  have hB : cw_B v RX5 p s m _ meth c cX5_init 2 none := ⟨B.exec, B.bytes, B.returns, hml, findClass_of_methodNamed B.named, fun w h => hts w (List.mem_cons_of_mem _ h), B.notSynchronized, hK⟩
  have hnh := cc_nh B (hts _ List.mem_cons_self)
  rw [lg_entry_eq]
  obtain ⟨ls, hls, hl⟩ := cl_ent [cR v x0, .int (rI x1)] 2 (cl_1r (cl_1i cl_10)) (Nat.le_of_ble_eq_true rfl)
  rw [hls]
  exact pw_X5_init_0 hbd hR htr hd5 hB (name_of_methodNamed B.named B.method).1 hnh σ x0 x1 ix0 ix1 hf _ _ _ _ _ (cw_W0 hM) (cl_sub hl [0, 1] rfl)

set_option maxHeartbeats 4000000 in
set_option maxRecDepth 100000 in
theorem pw_X5_isFull_0 {v : cwE} {bd : cBd} {p : Program} {l : Launch} {e : Env} {s : State} {m : MethodId} {args : Array Value} {below : List Frame} {meth : Method} {c : Code} {d : Nat} {rec : Nat → CS → List Int → CO} {σ0 σ' : CS} {kd : Nat} {r : Int} (hbd : bd = cw_bd v) (hR : cw_Rec l v d rec) (htr : l.stackTraces = false) (hd5 : 5 ≤ d) (B : cw_B v RX5 p s m args meth c cX5_isFull 1 (some .boolean)) (hnh : ∀ x ∈ c.exceptionTable.toList, False) : ∀ (σ : CS) (x0 : Int), inR x0 → pc_X5_isFull_0 rec bd σ x0 = some (σ', kd, r) → ∀ (H : Heap) (locs : List Loc) (cells slots : Nat) (ls : Array Slot), cw_W v s σ0 σ H locs cells slots → cl_has ls 1 [(0, cR v x0)] → W p l e (cw_rm v (d + 1) σ0) s m args below meth c H locs cells slots (cw_Z below v σ0 σ' kd (some (.int (rI r))) args s) (F0 m 0 ls []) := by
  subst hbd
  obtain ⟨hx, hb, hr, hml, hown, hts, hlk, hK⟩ := id B
  intro σ x0 ix0 hf H locs cells slots ls hw hl
  unfold pc_X5_isFull_0 at hf
  refine cl_aload_n hx hb dX5_isFull_0 rfl (lv_at hl.1 0 rfl) ?_
  obtain ⟨z1, ez1, iz1, rz1, hf⟩ := cc_g_s hw hf
  refine cw_get (val := .int (rI z1)) B hw rz1 ⟨by decide, by decide⟩ (by decide) cwi_6 cfl_X5_9 ez1 rfl dX5_isFull_1 ?_
  refine cl_aload_n hx hb dX5_isFull_4 rfl (lv_at hl.1 0 rfl) ?_
  obtain ⟨z2, ez2, iz2, rz2, hf⟩ := cc_g_s hw hf
  refine cw_get (val := cR v z2) B hw rz2 ⟨by decide, by decide⟩ (by decide) cwi_6 cfl_X5_19 ez2 rfl dX5_isFull_5 ?_
  obtain ⟨z3, ez3, iz3, rz3, hf⟩ := cc_l_s hf
  refine cw_len B hw rz3 (by decide) ez3 iz3 dX5_isFull_8 ?_
  refine rn_icmp_lt (a := z1) (b := z3) (tgt := 16) hx hb iz1 iz3 dX5_isFull_9 (by decide) (fun c4 => ?_) (fun c4 => ?_)
  · replace hf := cc_if_t hf c4
    refine lv_iconst (v := rI 0) hx hb dX5_isFull_16 rfl ?_
    obtain ⟨h01, hf⟩ := cc_bo_s hf
    exact cw_retz B h01 hf hw dX5_isFull_17
  · replace hf := cc_if_f hf c4
    refine lv_iconst (v := rI 1) hx hb dX5_isFull_12 rfl ?_
    refine lv_goto (tgt := 17) hx hb dX5_isFull_13 (by decide) ?_
    obtain ⟨h01, hf⟩ := cc_bo_s hf
    exact cw_retz B h01 hf hw dX5_isFull_17

set_option maxHeartbeats 4000000 in
set_option maxRecDepth 100000 in
theorem pm_X5_isFull {v : cwE} {bd : cBd} {l : Launch} {d : Nat} {rec : Nat → CS → List Int → CO} (hbd : bd = cw_bd v) (hR : cw_Rec l v d rec) (htr : l.stackTraces = false) (hd5 : 5 ≤ d) (σ σ' : CS) (x0 : Int) (kd : Nat) (r : Int) (ix0 : inR x0) (hf : pc_X5_isFull_0 rec bd σ x0 = some (σ', kd, r)) : cw_Met l v yX5_isFull cX5_isFull 1 (some .boolean) (d + 1) [cR v x0] σ σ' kd (some (.int (rI r))) := by
  refine cw_ofW (by decide +kernel) ?_
  intro p e s m args below meth c s₁ B hml hv
  obtain ⟨rfl, hM, hK⟩ := hv
  have hts := atoms_spec (ws := Cond.code yX5_isFull cX5_isFull 1 (some .boolean) :: cw_bw) B.pre
  have hB : cw_B v RX5 p s m _ meth c cX5_isFull 1 (some .boolean) := ⟨B.exec, B.bytes, B.returns, hml, findClass_of_methodNamed B.named, fun w h => hts w (List.mem_cons_of_mem _ h), B.notSynchronized, hK⟩
  have hnh := cc_nh B (hts _ List.mem_cons_self)
  rw [lg_entry_eq]
  obtain ⟨ls, hls, hl⟩ := cl_ent [cR v x0] 1 (cl_1r cl_10) (Nat.le_of_ble_eq_true rfl)
  rw [hls]
  exact pw_X5_isFull_0 hbd hR htr hd5 hB hnh σ x0 ix0 hf _ _ _ _ _ (cw_W0 hM) (cl_sub hl [0] rfl)

set_option maxHeartbeats 4000000 in
set_option maxRecDepth 100000 in
theorem pw_X5_signOf_0 {v : cwE} {bd : cBd} {p : Program} {l : Launch} {e : Env} {s : State} {m : MethodId} {args : Array Value} {below : List Frame} {meth : Method} {c : Code} {d : Nat} {rec : Nat → CS → List Int → CO} {σ0 σ' : CS} {kd : Nat} {r : Int} (hbd : bd = cw_bd v) (hR : cw_Rec l v d rec) (htr : l.stackTraces = false) (hd5 : 5 ≤ d) (B : cw_B v RX5 p s m args meth c cX5_signOf 3 (some .int)) (hnh : ∀ x ∈ c.exceptionTable.toList, False) : ∀ (σ : CS) (x0 x1 x2 : Int), inR x0 → inR x1 → inR x2 → pc_X5_signOf_0 rec bd σ x0 x1 x2 = some (σ', kd, r) → ∀ (H : Heap) (locs : List Loc) (cells slots : Nat) (ls : Array Slot), cw_W v s σ0 σ H locs cells slots → cl_has ls 3 [(0, cR v x0), (1, .int (rI x1)), (2, .int (rI x2))] → W p l e (cw_rm v (d + 1) σ0) s m args below meth c H locs cells slots (cw_Z below v σ0 σ' kd (some (.int (rI r))) args s) (F0 m 0 ls []) := by
  subst hbd
  obtain ⟨hx, hb, hr, hml, hown, hts, hlk, hK⟩ := id B
  intro σ x0 x1 x2 ix0 ix1 ix2 hf H locs cells slots ls hw hl
  unfold pc_X5_signOf_0 at hf
  refine lv_iload_n hx hb dX5_signOf_0 rfl (lv_at hl.1 1 rfl) ?_
  refine rn_if_lt (a := x1) (tgt := 26) hx hb ix1 dX5_signOf_1 (by decide) (fun c1 => ?_) (fun c1 => ?_)
  · replace hf := cc_if_t hf c1
    refine lv_iconst (v := rI (-1)) hx hb dX5_signOf_26 rfl ?_
    exact cw_reti B hf hw dX5_signOf_27
  · replace hf := cc_if_f hf c1
    refine lv_iload_n hx hb dX5_signOf_4 rfl (lv_at hl.1 1 rfl) ?_
    refine cl_aload_n hx hb dX5_signOf_5 rfl (lv_at hl.1 0 rfl) ?_
    obtain ⟨z2, ez2, iz2, rz2, hf⟩ := cc_g_s hw hf
    refine cw_get (val := .int (rI z2)) B hw rz2 ⟨by decide, by decide⟩ (by decide) cwi_6 cfl_X5_9 ez2 rfl dX5_signOf_6 ?_
    refine rn_icmp_ge (a := x1) (b := z2) (tgt := 26) hx hb ix1 iz2 dX5_signOf_9 (by decide) (fun c3 => ?_) (fun c3 => ?_)
    · replace hf := cc_if_t hf c3
      refine lv_iconst (v := rI (-1)) hx hb dX5_signOf_26 rfl ?_
      exact cw_reti B hf hw dX5_signOf_27
    · replace hf := cc_if_f hf c3
      refine lv_iload_n hx hb dX5_signOf_12 rfl (lv_at hl.1 2 rfl) ?_
      refine rn_if_lt (a := x2) (tgt := 26) hx hb ix2 dX5_signOf_13 (by decide) (fun c4 => ?_) (fun c4 => ?_)
      · replace hf := cc_if_t hf c4
        refine lv_iconst (v := rI (-1)) hx hb dX5_signOf_26 rfl ?_
        exact cw_reti B hf hw dX5_signOf_27
      · replace hf := cc_if_f hf c4
        refine lv_iload_n hx hb dX5_signOf_16 rfl (lv_at hl.1 2 rfl) ?_
        refine cl_aload_n hx hb dX5_signOf_17 rfl (lv_at hl.1 0 rfl) ?_
        obtain ⟨z5, ez5, iz5, rz5, hf⟩ := cc_g_s hw hf
        refine cw_get (val := cR v z5) B hw rz5 ⟨by decide, by decide⟩ (by decide) cwi_6 cfl_X5_19 ez5 rfl dX5_signOf_18 ?_
        refine lv_iload_n hx hb dX5_signOf_21 rfl (lv_at hl.1 1 rfl) ?_
        obtain ⟨z6, ez6, iz6, rz6, bz6, hf⟩ := cc_r_s hw hf
        refine cw_aldI B hw rz6 ix1 bz6 ez6 dX5_signOf_22 ?_
        refine rn_icmp_lt (a := x2) (b := z6) (tgt := 28) hx hb ix2 iz6 dX5_signOf_23 (by decide) (fun c7 => ?_) (fun c7 => ?_)
        · replace hf := cc_if_t hf c7
          refine cl_aload_n hx hb dX5_signOf_28 rfl (lv_at hl.1 0 rfl) ?_
          obtain ⟨z8, ez8, iz8, rz8, hf⟩ := cc_g_s hw hf
          refine cw_get (val := cR v z8) B hw rz8 ⟨by decide, by decide⟩ (by decide) cwi_6 cfl_X5_15 ez8 rfl dX5_signOf_29 ?_
          refine lv_iload_n hx hb dX5_signOf_32 rfl (lv_at hl.1 1 rfl) ?_
          refine lv_bipush (v := rI 12) hx hb dX5_signOf_33 (by decide +kernel) ?_
          obtain ⟨z9, ez9, iz9, hf⟩ := cc_ck_s hf
          refine rn_mul hx hb ez9 dX5_signOf_35 ?_
          refine lv_iload_n hx hb dX5_signOf_36 rfl (lv_at hl.1 2 rfl) ?_
          obtain ⟨z10, ez10, iz10, hf⟩ := cc_ck_s hf
          refine rn_add hx hb ez10 dX5_signOf_37 ?_
          obtain ⟨z11, ez11, iz11, rz11, bz11, hf⟩ := cc_r_s hw hf
          refine cw_aldB B hw rz11 iz10 bz11 ez11 dX5_signOf_38 ?_
          exact cw_reti B hf hw dX5_signOf_39
        · replace hf := cc_if_f hf c7
          refine lv_iconst (v := rI (-1)) hx hb dX5_signOf_26 rfl ?_
          exact cw_reti B hf hw dX5_signOf_27

set_option maxHeartbeats 4000000 in
set_option maxRecDepth 100000 in
theorem pm_X5_signOf {v : cwE} {bd : cBd} {l : Launch} {d : Nat} {rec : Nat → CS → List Int → CO} (hbd : bd = cw_bd v) (hR : cw_Rec l v d rec) (htr : l.stackTraces = false) (hd5 : 5 ≤ d) (σ σ' : CS) (x0 x1 x2 : Int) (kd : Nat) (r : Int) (ix0 : inR x0) (ix1 : inR x1) (ix2 : inR x2) (hf : pc_X5_signOf_0 rec bd σ x0 x1 x2 = some (σ', kd, r)) : cw_Met l v yX5_signOf cX5_signOf 3 (some .int) (d + 1) [cR v x0, .int (rI x1), .int (rI x2)] σ σ' kd (some (.int (rI r))) := by
  refine cw_ofW (by decide +kernel) ?_
  intro p e s m args below meth c s₁ B hml hv
  obtain ⟨rfl, hM, hK⟩ := hv
  have hts := atoms_spec (ws := Cond.code yX5_signOf cX5_signOf 3 (some .int) :: cw_bw) B.pre
  have hB : cw_B v RX5 p s m _ meth c cX5_signOf 3 (some .int) := ⟨B.exec, B.bytes, B.returns, hml, findClass_of_methodNamed B.named, fun w h => hts w (List.mem_cons_of_mem _ h), B.notSynchronized, hK⟩
  have hnh := cc_nh B (hts _ List.mem_cons_self)
  rw [lg_entry_eq]
  obtain ⟨ls, hls, hl⟩ := cl_ent [cR v x0, .int (rI x1), .int (rI x2)] 3 (cl_1r (cl_1i (cl_1i cl_10))) (Nat.le_of_ble_eq_true rfl)
  rw [hls]
  exact pw_X5_signOf_0 hbd hR htr hd5 hB hnh σ x0 x1 x2 ix0 ix1 ix2 hf _ _ _ _ _ (cw_W0 hM) (cl_sub hl [0, 1, 2] rfl)

set_option maxHeartbeats 4000000 in
set_option maxRecDepth 100000 in
theorem pw_X6_binder_0 {v : cwE} {bd : cBd} {p : Program} {l : Launch} {e : Env} {s : State} {m : MethodId} {args : Array Value} {below : List Frame} {meth : Method} {c : Code} {d : Nat} {rec : Nat → CS → List Int → CO} {σ0 σ' : CS} {kd : Nat} {r : Int} (hbd : bd = cw_bd v) (hR : cw_Rec l v d rec) (htr : l.stackTraces = false) (hd5 : 5 ≤ d) (B : cw_B v RX6 p s m args meth c cX6_binder 5 (some (.object "PureHouse$Node"))) (hnh : ∀ x ∈ c.exceptionTable.toList, False) : ∀ (σ : CS) (x0 x1 x2 x3 : Int), inR x0 → inR x1 → inR x2 → inR x3 → pc_X6_binder_0 rec bd σ x0 x1 x2 x3 = some (σ', kd, r) → ∀ (H : Heap) (locs : List Loc) (cells slots : Nat) (ls : Array Slot), cw_W v s σ0 σ H locs cells slots → cl_has ls 5 [(0, .int (rI x0)), (1, .int (rI x1)), (2, cR v x2), (3, cR v x3)] → W p l e (cw_rm v (d + 1) σ0) s m args below meth c H locs cells slots (cw_Z below v σ0 σ' kd (some (cR v r)) args s) (F0 m 0 ls []) := by
  subst hbd
  obtain ⟨hx, hb, hr, hml, hown, hts, hlk, hK⟩ := id B
  intro σ x0 x1 x2 x3 ix0 ix1 ix2 ix3 hf H locs cells slots ls hw hl
  unfold pc_X6_binder_0 at hf
  obtain ⟨σ1, z2, eσ1, ez2, iz2, rσ1, hf⟩ := cc_n_s hf
  refine cw_new B hw cwt_7 rfl cwd_7 cnl_X6_10 cni_7 cnz_7 rσ1 eσ1 ez2 dX6_binder_0 (fun H hw => ?_)
  refine lv_dup hx hb dX6_binder_3 (cR_cat _) ?_
  refine lv_iload_n hx hb dX6_binder_4 rfl (lv_at hl.1 0 rfl) ?_
  refine lv_iload_n hx hb dX6_binder_5 rfl (lv_at hl.1 1 rfl) ?_
  obtain ⟨qσ3, hf⟩ := cc_t_s hf
  obtain ⟨σ3, z5, hσ3, hf⟩ := cc_ci_s hf
  obtain ⟨iz5, mσ3⟩ := hR 105 σ1 [z2, x0, x1] σ3 0 z5 hσ3
  have mσ3 : cw_Met l v yX6_init cX6_init 3 none d [cR v z2, .int (rI x0), .int (rI x1)] σ1 σ3 0 none := mσ3 iz2 ix0 ix1
  refine cw_ci (b := z2) (n := 2) (rest := [cR v z2]) (As := [.int (rI x0), .int (rI x1)]) B mσ3 qσ3.1 rfl cgo_yX6_init cml_X6_47 cin_yX6_init (by decide +kernel) (by decide) rfl hl.1.1 (cl_cs (cl_1r cl_10) (Nat.le_of_ble_eq_true rfl)) dX6_binder_6 rfl hw (fun H locs cells slots hw => ?_)
  refine cl_astore (lv' := [(4, cR v z2), (0, .int (rI x0)), (1, .int (rI x1)), (2, cR v x2), (3, cR v x3)]) hx hb dX6_binder_9 hl (by decide) rfl (fun ls hl => ?_)
  refine cl_aload hx hb dX6_binder_11 (lv_at hl.1 0 rfl) ?_
  refine cl_aload_n hx hb dX6_binder_13 rfl (lv_at hl.1 3 rfl) ?_
  obtain ⟨σ6, eσ6, rσ6, hf⟩ := cc_p_s hf
  refine cw_put B hw rσ6 cwt_7 (by decide) rfl cfl_X6_24 ix2 eσ6 rfl (cw_fv_r rfl (Or.inl ⟨_, rfl⟩)) dX6_binder_14 (fun H locs hw => ?_)
  refine cl_aload hx hb dX6_binder_17 (lv_at hl.1 0 rfl) ?_
  refine cl_aload_n hx hb dX6_binder_19 rfl (lv_at hl.1 4 rfl) ?_
  obtain ⟨σ7, eσ7, rσ7, hf⟩ := cc_p_s hf
  refine cw_put B hw rσ7 cwt_7 (by decide) rfl cfl_X6_28 ix3 eσ7 rfl (cw_fv_r rfl (Or.inl ⟨_, rfl⟩)) dX6_binder_20 (fun H locs hw => ?_)
  refine cl_aload hx hb dX6_binder_23 (lv_at hl.1 0 rfl) ?_
  exact cw_reta B hf hw dX6_binder_25

set_option maxHeartbeats 4000000 in
set_option maxRecDepth 100000 in
theorem pm_X6_binder {v : cwE} {bd : cBd} {l : Launch} {d : Nat} {rec : Nat → CS → List Int → CO} (hbd : bd = cw_bd v) (hR : cw_Rec l v d rec) (htr : l.stackTraces = false) (hd5 : 5 ≤ d) (σ σ' : CS) (x0 x1 x2 x3 : Int) (kd : Nat) (r : Int) (ix0 : inR x0) (ix1 : inR x1) (ix2 : inR x2) (ix3 : inR x3) (hf : pc_X6_binder_0 rec bd σ x0 x1 x2 x3 = some (σ', kd, r)) : cw_Met l v yX6_binder cX6_binder 5 (some (.object "PureHouse$Node")) (d + 1) [.int (rI x0), .int (rI x1), cR v x2, cR v x3] σ σ' kd (some (cR v r)) := by
  refine cw_ofW (by decide +kernel) ?_
  intro p e s m args below meth c s₁ B hml hv
  obtain ⟨rfl, hM, hK⟩ := hv
  have hts := atoms_spec (ws := Cond.code yX6_binder cX6_binder 5 (some (.object "PureHouse$Node")) :: cw_bw) B.pre
  have hB : cw_B v RX6 p s m _ meth c cX6_binder 5 (some (.object "PureHouse$Node")) := ⟨B.exec, B.bytes, B.returns, hml, findClass_of_methodNamed B.named, fun w h => hts w (List.mem_cons_of_mem _ h), B.notSynchronized, hK⟩
  have hnh := cc_nh B (hts _ List.mem_cons_self)
  rw [lg_entry_eq]
  obtain ⟨ls, hls, hl⟩ := cl_ent [.int (rI x0), .int (rI x1), cR v x2, cR v x3] 5 (cl_1i (cl_1i (cl_1r (cl_1r cl_10)))) (Nat.le_of_ble_eq_true rfl)
  rw [hls]
  exact pw_X6_binder_0 hbd hR htr hd5 hB hnh σ x0 x1 x2 x3 ix0 ix1 ix2 ix3 hf _ _ _ _ _ (cw_W0 hM) (cl_sub hl [0, 1, 2, 3] rfl)

set_option maxHeartbeats 4000000 in
set_option maxRecDepth 100000 in
theorem pw_X6_init_0 {v : cwE} {bd : cBd} {p : Program} {l : Launch} {e : Env} {s : State} {m : MethodId} {args : Array Value} {below : List Frame} {meth : Method} {c : Code} {d : Nat} {rec : Nat → CS → List Int → CO} {σ0 σ' : CS} {kd : Nat} {r : Int} (hbd : bd = cw_bd v) (hR : cw_Rec l v d rec) (htr : l.stackTraces = false) (hd5 : 5 ≤ d) (B : cw_B v RX6 p s m args meth c cX6_init 3 none) (hin : meth.name = "<init>") (hnh : ∀ x ∈ c.exceptionTable.toList, False) : ∀ (σ : CS) (x0 x1 x2 : Int), inR x0 → inR x1 → inR x2 → pc_X6_init_0 rec bd σ x0 x1 x2 = some (σ', kd, r) → ∀ (H : Heap) (locs : List Loc) (cells slots : Nat) (ls : Array Slot), cw_W v s σ0 σ H locs cells slots → cl_has ls 3 [(0, cR v x0), (1, .int (rI x1)), (2, .int (rI x2))] → W p l e (cw_rm v (d + 1) σ0) s m args below meth c H locs cells slots (cw_Z below v σ0 σ' kd none args s) (F0 m 0 ls []) := by
  subst hbd
  obtain ⟨hx, hb, hr, hml, hown, hts, hlk, hK⟩ := id B
  intro σ x0 x1 x2 ix0 ix1 ix2 hf H locs cells slots ls hw hl
  unfold pc_X6_init_0 at hf
  refine cl_aload_n hx hb dX6_init_0 rfl (lv_at hl.1 0 rfl) ?_
  obtain ⟨q0, hf⟩ := cc_t_s hf
  rw [cR_r q0.1]
  refine W.objInit hx hb hown (hts _ coi_X6_3) (hts _ coi2) (hts _ coi3) rfl (hl.1.1.trans hml.symm) rfl dX6_init_1 (by show 1 ≤ d + 1; omega) (by show _ + 12 ≤ 100 * (d + 1); simp [JFrame.monitorRoom]; omega) ?_
  refine cl_aload_n hx hb dX6_init_4 rfl (lv_at hl.1 0 rfl) ?_
  refine lv_iconst (v := rI (-1)) hx hb dX6_init_5 rfl ?_
  obtain ⟨σ1, eσ1, rσ1, hf⟩ := cc_p_s hf
  refine cw_put B hw rσ1 cwt_7 (by decide) rfl cfl_X6_9 ⟨by decide, by decide⟩ eσ1 rfl (cw_fv_n rfl rfl) dX6_init_6 (fun H locs hw => ?_)
  refine cl_aload_n hx hb dX6_init_9 rfl (lv_at hl.1 0 rfl) ?_
  refine lv_iconst (v := rI (-1)) hx hb dX6_init_10 rfl ?_
  obtain ⟨σ2, eσ2, rσ2, hf⟩ := cc_p_s hf
  refine cw_put B hw rσ2 cwt_7 (by decide) rfl cfl_X6_15 ⟨by decide, by decide⟩ eσ2 rfl (cw_fv_n rfl rfl) dX6_init_11 (fun H locs hw => ?_)
  refine cl_aload_n hx hb dX6_init_14 rfl (lv_at hl.1 0 rfl) ?_
  refine lv_iconst (v := rI 0) hx hb dX6_init_15 rfl ?_
  obtain ⟨σ3, eσ3, rσ3, hf⟩ := cc_p_s hf
  refine cw_put B hw rσ3 cwt_7 (by decide) rfl cfl_X6_18 ⟨by decide, by decide⟩ eσ3 rfl (cw_fv_n rfl rfl) dX6_init_16 (fun H locs hw => ?_)
  refine cl_aload_n hx hb dX6_init_19 rfl (lv_at hl.1 0 rfl) ?_
  refine lv_iconst (v := rI 0) hx hb dX6_init_20 rfl ?_
  obtain ⟨σ4, eσ4, rσ4, hf⟩ := cc_p_s hf
  refine cw_put B hw rσ4 cwt_7 (by decide) rfl cfl_X6_21 ⟨by decide, by decide⟩ eσ4 rfl (cw_fv_n rfl rfl) dX6_init_21 (fun H locs hw => ?_)
  refine cl_aload_n hx hb dX6_init_24 rfl (lv_at hl.1 0 rfl) ?_
  refine cl_null (v := v) hx hb dX6_init_25 ?_
  obtain ⟨σ5, eσ5, rσ5, hf⟩ := cc_p_s hf
  refine cw_put B hw rσ5 cwt_7 (by decide) rfl cfl_X6_24 ⟨by decide, by decide⟩ eσ5 rfl (cw_fv_r rfl (Or.inl ⟨_, rfl⟩)) dX6_init_26 (fun H locs hw => ?_)
  refine cl_aload_n hx hb dX6_init_29 rfl (lv_at hl.1 0 rfl) ?_
  refine cl_null (v := v) hx hb dX6_init_30 ?_
  obtain ⟨σ6, eσ6, rσ6, hf⟩ := cc_p_s hf
  refine cw_put B hw rσ6 cwt_7 (by decide) rfl cfl_X6_28 ⟨by decide, by decide⟩ eσ6 rfl (cw_fv_r rfl (Or.inl ⟨_, rfl⟩)) dX6_init_31 (fun H locs hw => ?_)
  refine cl_aload_n hx hb dX6_init_34 rfl (lv_at hl.1 0 rfl) ?_
  refine cl_null (v := v) hx hb dX6_init_35 ?_
  obtain ⟨σ7, eσ7, rσ7, hf⟩ := cc_p_s hf
  refine cw_put B hw rσ7 cwt_7 (by decide) rfl cfl_X6_31 ⟨by decide, by decide⟩ eσ7 rfl (cw_fv_r rfl (Or.inr ⟨_, rfl⟩)) dX6_init_36 (fun H locs hw => ?_)
  refine cl_aload_n hx hb dX6_init_39 rfl (lv_at hl.1 0 rfl) ?_
  refine lv_iconst (v := rI (-1)) hx hb dX6_init_40 rfl ?_
  obtain ⟨σ8, eσ8, rσ8, hf⟩ := cc_p_s hf
  refine cw_put B hw rσ8 cwt_7 (by decide) rfl cfl_X6_35 ⟨by decide, by decide⟩ eσ8 rfl (cw_fv_n rfl rfl) dX6_init_41 (fun H locs hw => ?_)
  refine cl_aload_n hx hb dX6_init_44 rfl (lv_at hl.1 0 rfl) ?_
  refine lv_iconst (v := rI (-1)) hx hb dX6_init_45 rfl ?_
  obtain ⟨σ9, eσ9, rσ9, hf⟩ := cc_p_s hf
  refine cw_put B hw rσ9 cwt_7 (by decide) rfl cfl_X6_38 ⟨by decide, by decide⟩ eσ9 rfl (cw_fv_n rfl rfl) dX6_init_46 (fun H locs hw => ?_)
  refine cl_aload_n hx hb dX6_init_49 rfl (lv_at hl.1 0 rfl) ?_
  refine lv_iload_n hx hb dX6_init_50 rfl (lv_at hl.1 1 rfl) ?_
  obtain ⟨σ10, eσ10, rσ10, hf⟩ := cc_p_s hf
  refine cw_put B hw rσ10 cwt_7 (by decide) rfl cfl_X6_41 ix1 eσ10 rfl (cw_fv_n rfl rfl) dX6_init_51 (fun H locs hw => ?_)
  refine cl_aload_n hx hb dX6_init_54 rfl (lv_at hl.1 0 rfl) ?_
  refine lv_iload_n hx hb dX6_init_55 rfl (lv_at hl.1 2 rfl) ?_
  obtain ⟨σ11, eσ11, rσ11, hf⟩ := cc_p_s hf
  refine cw_put B hw rσ11 cwt_7 (by decide) rfl cfl_X6_44 ix2 eσ11 rfl (cw_fv_n rfl rfl) dX6_init_56 (fun H locs hw => ?_)
  exact cw_retv B hf hw dX6_init_59

