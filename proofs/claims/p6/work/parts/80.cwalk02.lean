set_option maxHeartbeats 4000000 in
set_option maxRecDepth 100000 in
theorem pm_X4_begin {v : cwE} {bd : Nat × Nat} {l : Launch} {d : Nat} {rec : Nat → CS → List Int → CO} (hbd : bd = (v.2.2.1, v.2.2.2.1)) (hR : cw_Rec l v d rec) (htr : l.stackTraces = false) (hd5 : 5 ≤ d) (σ σ' : CS) (x0 x1 : Int) (kd : Nat) (r : Int) (ix0 : inR x0) (ix1 : inR x1) (hf : pc_X4_begin_0 rec bd σ x0 x1 = some (σ', kd, r)) : cw_Met l v yX4_begin cX4_begin 3 none (d + 1) [cR x0, .int (rI x1)] σ σ' kd none := by
  refine cw_ofW (by decide +kernel) ?_
  intro p e s m args below meth c s₁ B hml hv
  obtain ⟨rfl, hM, hK⟩ := hv
  have hts := atoms_spec (ws := Cond.code yX4_begin cX4_begin 3 none :: cw_bw) B.pre
  have hB : cw_B v RX4 p s m _ meth c cX4_begin 3 none := ⟨B.exec, B.bytes, B.returns, hml, findClass_of_methodNamed B.named, fun w h => hts w (List.mem_cons_of_mem _ h), B.notSynchronized, hK⟩
  have hnh := cc_nh B (hts _ List.mem_cons_self)
  rw [lg_entry_eq]
  obtain ⟨ls, hls, hl⟩ := cl_ent [cR x0, .int (rI x1)] 3 (cl_1r (cl_1i cl_10)) (Nat.le_of_ble_eq_true rfl)
  rw [hls]
  exact pw_X4_begin_0 hbd hR htr hd5 hB hnh σ x0 x1 ix0 ix1 hf _ _ _ _ _ (cw_W0 hM) (cl_sub hl [0, 1] rfl)

set_option maxHeartbeats 4000000 in
set_option maxRecDepth 100000 in
theorem pw_X4_compare_190 {v : cwE} {bd : Nat × Nat} {p : Program} {l : Launch} {e : Env} {s : State} {m : MethodId} {args : Array Value} {below : List Frame} {meth : Method} {c : Code} {d : Nat} {rec : Nat → CS → List Int → CO} {σ0 σ' : CS} {kd : Nat} {r : Int} (hbd : bd = (v.2.2.1, v.2.2.2.1)) (hR : cw_Rec l v d rec) (htr : l.stackTraces = false) (hd5 : 5 ≤ d) (B : cw_B v RX4 p s m args meth c cX4_compare 11 (some .boolean)) (hnh : ∀ x ∈ c.exceptionTable.toList, False) : ∀ (n : Nat) (σ : CS) (x0 x5 x6 x9 x10 : Int), inR x0 → inR x5 → inR x6 → inR x9 → inR x10 → pc_X4_compare_190 rec bd n σ x0 x5 x6 x9 x10 = some (σ', kd, r) → ∀ (H : Heap) (locs : List Loc) (cells slots : Nat) (ls : Array Slot), cw_W v s σ0 σ H locs cells slots → cl_has ls 11 [(0, cR x0), (5, .int (rI x5)), (6, .int (rI x6)), (9, cR x9), (10, cR x10)] → W p l e (cw_rm v (d + 1) σ0) s m args below meth c H locs cells slots (cw_Z below v σ0 σ' kd (some (.int (rI r))) args s) (F0 m 190 ls []) := by
  subst hbd
  obtain ⟨hx, hb, hr, hml, hown, hts, hlk, hK⟩ := id B
  intro n
  induction n with
  | zero => intro σ x0 x5 x6 x9 x10 ix0 ix5 ix6 ix9 ix10 hf; cases hf
  | succ n ih =>
    intro σ x0 x5 x6 x9 x10 ix0 ix5 ix6 ix9 ix10 hf H locs cells slots ls hw hl
    unfold pc_X4_compare_190 at hf
    refine cl_aload hx hb dX4_compare_190 (lv_at hl.1 4 rfl) ?_
    refine cl_ifnull (x := x10) (tgt := 252) hx hb dX4_compare_192 (by decide) (fun c1 => ?_) (fun c1 => ?_)
    · replace hf := cc_if_t hf c1
      refine lv_iconst (v := rI 1) hx hb dX4_compare_252 rfl ?_
      obtain ⟨h01, hf⟩ := cc_bo_s hf
      exact cw_retz B h01 hf hw dX4_compare_253
    · replace hf := cc_if_f hf c1
      refine cl_aload hx hb dX4_compare_195 (lv_at hl.1 3 rfl) ?_
      refine cl_ifnull (x := x9) (tgt := 252) hx hb dX4_compare_197 (by decide) (fun c2 => ?_) (fun c2 => ?_)
      · replace hf := cc_if_t hf c2
        refine lv_iconst (v := rI 1) hx hb dX4_compare_252 rfl ?_
        obtain ⟨h01, hf⟩ := cc_bo_s hf
        exact cw_retz B h01 hf hw dX4_compare_253
      · replace hf := cc_if_f hf c2
        refine cl_aload_n hx hb dX4_compare_200 rfl (lv_at hl.1 0 rfl) ?_
        refine cl_aload hx hb dX4_compare_201 (lv_at hl.1 4 rfl) ?_
        obtain ⟨z3, ez3, iz3, rz3, hf⟩ := cc_g_s hw hf
        refine cw_get (val := cR z3) B hw rz3 ⟨by decide, by decide⟩ (by decide) cwi_4 cfl_4_125 ez3 rfl dX4_compare_203 ?_
        refine cl_aload hx hb dX4_compare_206 (lv_at hl.1 4 rfl) ?_
        obtain ⟨z4, ez4, iz4, rz4, hf⟩ := cc_g_s hw hf
        refine cw_get (val := cR z4) B hw rz4 ⟨by decide, by decide⟩ (by decide) cwi_4 cfl_4_128 ez4 rfl dX4_compare_208 ?_
        refine cl_aload hx hb dX4_compare_211 (lv_at hl.1 3 rfl) ?_
        obtain ⟨z5, ez5, iz5, rz5, hf⟩ := cc_g_s hw hf
        refine cw_get (val := cR z5) B hw rz5 ⟨by decide, by decide⟩ (by decide) cwi_4 cfl_4_125 ez5 rfl dX4_compare_213 ?_
        refine cl_aload hx hb dX4_compare_216 (lv_at hl.1 3 rfl) ?_
        obtain ⟨z6, ez6, iz6, rz6, hf⟩ := cc_g_s hw hf
        refine cw_get (val := cR z6) B hw rz6 ⟨by decide, by decide⟩ (by decide) cwi_4 cfl_4_128 ez6 rfl dX4_compare_218 ?_
        refine lv_iload hx hb dX4_compare_221 (lv_at hl.1 1 rfl) ?_
        refine lv_iload hx hb dX4_compare_223 (lv_at hl.1 2 rfl) ?_
        refine lv_iconst (v := rI 1) hx hb dX4_compare_225 rfl ?_
        obtain ⟨z7, ez7, iz7, hf⟩ := cc_ck_s hf
        refine rn_add hx hb ez7 dX4_compare_226 ?_
        obtain ⟨qσ8, hf⟩ := cc_t_s hf
        obtain ⟨σ8, kv9, z10, hσ8, hf⟩ := cc_cl_s hf
        obtain ⟨iz10, mσ8⟩ := hR 34 σ [x0, z3, z4, z5, z6, x5, z7] σ8 kv9 z10 hσ8
        have mσ8 : cw_Met l v yX4_compare cX4_compare 11 (some .boolean) d [cR x0, cR z3, cR z4, cR z5, cR z6, .int (rI x5), .int (rI z7)] σ σ8 kv9 (some (.int (rI z10))) := mσ8 ix0 iz3 iz4 iz5 iz6 ix5 iz7
        refine cw_cv (b := x0) (t := 5) (n := 6) (rest := []) (As := [cR z3, cR z4, cR z5, cR z6, .int (rI x5), .int (rI z7)]) B mσ8 qσ8 ⟨by decide, by decide⟩ cgo_yX4_compare cml_4_40 cin_yX4_compare cse_yX4_compare (by decide +kernel) (by decide) rfl hl.1.1 (Nat.le_of_ble_eq_true rfl) dX4_compare_227 rfl hw (fun h0 H locs cells slots hw => ?_) (fun h0 H locs cells slots q ce hw h1 h2 h3 => ?_)
        · rcases hf with ⟨-, hf⟩ | ⟨hk, -⟩
          · skip
            refine rn_if_ne (a := z10) (tgt := 235) hx hb iz10 dX4_compare_230 (by decide) (fun c11 => ?_) (fun c11 => ?_)
            · replace hf := cc_if_t hf c11
              refine cl_aload hx hb dX4_compare_235 (lv_at hl.1 3 rfl) ?_
              obtain ⟨z12, ez12, iz12, rz12, hf⟩ := cc_g_s hw hf
              refine cw_get (val := cR z12) B hw rz12 ⟨by decide, by decide⟩ (by decide) cwi_4 cfl_4_131 ez12 rfl dX4_compare_237 ?_
              refine cl_astore (lv' := [(9, cR z12), (0, cR x0), (5, .int (rI x5)), (6, .int (rI x6)), (10, cR x10)]) hx hb dX4_compare_240 hl (by decide) rfl (fun ls hl => ?_)
              refine cl_aload hx hb dX4_compare_242 (lv_at hl.1 4 rfl) ?_
              obtain ⟨z13, ez13, iz13, rz13, hf⟩ := cc_g_s hw hf
              refine cw_get (val := cR z13) B hw rz13 ⟨by decide, by decide⟩ (by decide) cwi_4 cfl_4_131 ez13 rfl dX4_compare_244 ?_
              refine cl_astore (lv' := [(10, cR z13), (9, cR z12), (0, cR x0), (5, .int (rI x5)), (6, .int (rI x6))]) hx hb dX4_compare_247 hl (by decide) rfl (fun ls hl => ?_)
              refine lv_goto (tgt := 190) hx hb dX4_compare_249 (by decide) ?_
              exact ih σ8 x0 x5 x6 z12 z13 ix0 ix5 ix6 iz12 iz13 hf _ _ _ _ _ hw (cl_sub hl [2, 3, 4, 1, 0] rfl)
            · replace hf := cc_if_f hf c11
              refine lv_iconst (v := rI 0) hx hb dX4_compare_233 rfl ?_
              obtain ⟨h01, hf⟩ := cc_bo_s hf
              exact cw_retz B h01 hf hw dX4_compare_234
          · exact absurd h0 hk
        · rcases hf with ⟨hk, -⟩ | ⟨-, hf⟩
          · exact absurd hk h0
          · cases hf
            exact cw_xout B hnh h0 hw h1 h2 h3

set_option maxHeartbeats 4000000 in
set_option maxRecDepth 100000 in
theorem pw_X4_compare_0 {v : cwE} {bd : Nat × Nat} {p : Program} {l : Launch} {e : Env} {s : State} {m : MethodId} {args : Array Value} {below : List Frame} {meth : Method} {c : Code} {d : Nat} {rec : Nat → CS → List Int → CO} {σ0 σ' : CS} {kd : Nat} {r : Int} (hbd : bd = (v.2.2.1, v.2.2.2.1)) (hR : cw_Rec l v d rec) (htr : l.stackTraces = false) (hd5 : 5 ≤ d) (B : cw_B v RX4 p s m args meth c cX4_compare 11 (some .boolean)) (hnh : ∀ x ∈ c.exceptionTable.toList, False) : ∀ (σ : CS) (x0 x1 x2 x3 x4 x5 x6 : Int), inR x0 → inR x1 → inR x2 → inR x3 → inR x4 → inR x5 → inR x6 → pc_X4_compare_0 rec bd σ x0 x1 x2 x3 x4 x5 x6 = some (σ', kd, r) → ∀ (H : Heap) (locs : List Loc) (cells slots : Nat) (ls : Array Slot), cw_W v s σ0 σ H locs cells slots → cl_has ls 11 [(0, cR x0), (1, cR x1), (2, cR x2), (3, cR x3), (4, cR x4), (5, .int (rI x5)), (6, .int (rI x6))] → W p l e (cw_rm v (d + 1) σ0) s m args below meth c H locs cells slots (cw_Z below v σ0 σ' kd (some (.int (rI r))) args s) (F0 m 0 ls []) := by
  subst hbd
  obtain ⟨hx, hb, hr, hml, hown, hts, hlk, hK⟩ := id B
  intro σ x0 x1 x2 x3 x4 x5 x6 ix0 ix1 ix2 ix3 ix4 ix5 ix6 hf H locs cells slots ls hw hl
  unfold pc_X4_compare_0 at hf
  refine cl_aload_n hx hb dX4_compare_0 rfl (lv_at hl.1 0 rfl) ?_
  refine lv_iload hx hb dX4_compare_1 (lv_at hl.1 6 rfl) ?_
  obtain ⟨qσ1, hf⟩ := cc_t_s hf
  obtain ⟨σ1, kv2, z3, hσ1, hf⟩ := cc_cl_s hf
  obtain ⟨iz3, mσ1⟩ := hR 37 σ [x0, x6] σ1 kv2 z3 hσ1
  have mσ1 : cw_Met l v yX4_look cX4_look 2 none d [cR x0, .int (rI x6)] σ σ1 kv2 none := mσ1 ix0 ix6
  refine cw_cv (b := x0) (t := 5) (n := 1) (rest := []) (As := [.int (rI x6)]) B mσ1 qσ1 ⟨by decide, by decide⟩ cgo_yX4_look cml_4_154 cin_yX4_look cse_yX4_look (by decide +kernel) (by decide) rfl hl.1.1 (Nat.le_of_ble_eq_true rfl) dX4_compare_3 rfl hw (fun h0 H locs cells slots hw => ?_) (fun h0 H locs cells slots q ce hw h1 h2 h3 => ?_)
  · rcases hf with ⟨-, hf⟩ | ⟨hk, -⟩
    · skip
      refine cl_aload_n hx hb dX4_compare_6 rfl (lv_at hl.1 0 rfl) ?_
      refine cl_aload_n hx hb dX4_compare_7 rfl (lv_at hl.1 1 rfl) ?_
      refine cl_aload_n hx hb dX4_compare_8 rfl (lv_at hl.1 2 rfl) ?_
      obtain ⟨qσ4, hf⟩ := cc_t_s hf
      obtain ⟨σ4, kv5, z6, hσ4, hf⟩ := cc_cl_s hf
      obtain ⟨iz6, mσ4⟩ := hR 35 σ1 [x0, x1, x2] σ4 kv5 z6 hσ4
      have mσ4 : cw_Met l v yX4_head cX4_head 9 (some (.object "PureHouse$Head")) d [cR x0, cR x1, cR x2] σ1 σ4 kv5 (some (cR z6)) := mσ4 ix0 ix1 ix2
      refine cw_cv (b := x0) (t := 5) (n := 2) (rest := []) (As := [cR x1, cR x2]) B mσ4 qσ4 ⟨by decide, by decide⟩ cgo_yX4_head cml_4_48 cin_yX4_head cse_yX4_head (by decide +kernel) (by decide) rfl hl.1.1 (Nat.le_of_ble_eq_true rfl) dX4_compare_9 rfl hw (fun h0 H locs cells slots hw => ?_) (fun h0 H locs cells slots q ce hw h1 h2 h3 => ?_)
      · rcases hf with ⟨-, hf⟩ | ⟨hk, -⟩
        · skip
          refine cl_astore (lv' := [(7, cR z6), (0, cR x0), (1, cR x1), (2, cR x2), (3, cR x3), (4, cR x4), (5, .int (rI x5)), (6, .int (rI x6))]) hx hb dX4_compare_12 hl (by decide) rfl (fun ls hl => ?_)
          refine cl_aload_n hx hb dX4_compare_14 rfl (lv_at hl.1 1 rfl) ?_
          refine cl_aload_n hx hb dX4_compare_15 rfl (lv_at hl.1 4 rfl) ?_
          refine cl_aload hx hb dX4_compare_16 (lv_at hl.1 5 rfl) ?_
          obtain ⟨qσ7, hf⟩ := cc_t_s hf
          obtain ⟨σ7, kv8, z9, hσ7, hf⟩ := cc_cl_s hf
          obtain ⟨iz9, mσ7⟩ := hR 35 σ4 [x0, x3, x4] σ7 kv8 z9 hσ7
          have mσ7 : cw_Met l v yX4_head cX4_head 9 (some (.object "PureHouse$Head")) d [cR x0, cR x3, cR x4] σ4 σ7 kv8 (some (cR z9)) := mσ7 ix0 ix3 ix4
          refine cw_cv (b := x0) (t := 5) (n := 2) (rest := []) (As := [cR x3, cR x4]) B mσ7 qσ7 ⟨by decide, by decide⟩ cgo_yX4_head cml_4_48 cin_yX4_head cse_yX4_head (by decide +kernel) (by decide) rfl hl.1.1 (Nat.le_of_ble_eq_true rfl) dX4_compare_18 rfl hw (fun h0 H locs cells slots hw => ?_) (fun h0 H locs cells slots q ce hw h1 h2 h3 => ?_)
          · rcases hf with ⟨-, hf⟩ | ⟨hk, -⟩
            · skip
              refine cl_astore (lv' := [(8, cR z9), (7, cR z6), (0, cR x0), (1, cR x1), (2, cR x2), (3, cR x3), (4, cR x4), (5, .int (rI x5)), (6, .int (rI x6))]) hx hb dX4_compare_21 hl (by decide) rfl (fun ls hl => ?_)
              refine cl_aload hx hb dX4_compare_23 (lv_at hl.1 1 rfl) ?_
              obtain ⟨z10, ez10, iz10, rz10, hf⟩ := cc_g_s hw hf
              refine cw_get (val := cR z10) B hw rz10 ⟨by decide, by decide⟩ (by decide) cwi_2 cfl_4_157 ez10 rfl dX4_compare_25 ?_
              obtain ⟨z11, ez11, iz11, rz11, hf⟩ := cc_g_s hw hf
              refine cw_get (val := .int (rI z11)) B hw rz11 ⟨by decide, by decide⟩ (by decide) cwi_7 cfl_4_100 ez11 rfl dX4_compare_28 ?_
              refine cl_aload hx hb dX4_compare_31 (lv_at hl.1 0 rfl) ?_
              obtain ⟨z12, ez12, iz12, rz12, hf⟩ := cc_g_s hw hf
              refine cw_get (val := cR z12) B hw rz12 ⟨by decide, by decide⟩ (by decide) cwi_2 cfl_4_157 ez12 rfl dX4_compare_33 ?_
              obtain ⟨z13, ez13, iz13, rz13, hf⟩ := cc_g_s hw hf
              refine cw_get (val := .int (rI z13)) B hw rz13 ⟨by decide, by decide⟩ (by decide) cwi_7 cfl_4_100 ez13 rfl dX4_compare_36 ?_
              refine rn_icmp_eq (a := z11) (b := z13) (tgt := 44) hx hb iz11 iz13 dX4_compare_39 (by decide) (fun c14 => ?_) (fun c14 => ?_)
              · replace hf := cc_if_t hf c14
                refine cl_aload hx hb dX4_compare_44 (lv_at hl.1 1 rfl) ?_
                obtain ⟨qσ15, hf⟩ := cc_t_s hf
                obtain ⟨σ15, kv16, z17, hσ15, hf⟩ := cc_cl_s hf
                obtain ⟨iz17, mσ15⟩ := hR 11 σ7 [z6] σ15 kv16 z17 hσ15
                have mσ15 : cw_Met l v yX1_isBinder cX1_isBinder 1 (some .boolean) d [cR z6] σ7 σ15 kv16 (some (.int (rI z17))) := mσ15 iz6
                refine cw_cv (b := z6) (t := 2) (n := 0) (rest := []) (As := []) B mσ15 qσ15 ⟨by decide, by decide⟩ cgo_yX1_isBinder cml_4_60 cin_yX1_isBinder cse_yX1_isBinder (by decide +kernel) (by decide) rfl hl.1.1 (Nat.le_of_ble_eq_true rfl) dX4_compare_46 rfl hw (fun h0 H locs cells slots hw => ?_) (fun h0 H locs cells slots q ce hw h1 h2 h3 => ?_)
                · rcases hf with ⟨-, hf⟩ | ⟨hk, -⟩
                  · skip
                    refine rn_if_eq (a := z17) (tgt := 142) hx hb iz17 dX4_compare_49 (by decide) (fun c18 => ?_) (fun c18 => ?_)
                    · replace hf := cc_if_t hf c18
                      refine cl_aload hx hb dX4_compare_142 (lv_at hl.1 1 rfl) ?_
                      obtain ⟨z19, ez19, iz19, rz19, hf⟩ := cc_g_s hw hf
                      refine cw_get (val := .int (rI z19)) B hw rz19 ⟨by decide, by decide⟩ (by decide) cwi_2 cfl_4_165 ez19 rfl dX4_compare_144 ?_
                      refine cl_aload hx hb dX4_compare_147 (lv_at hl.1 0 rfl) ?_
                      obtain ⟨z20, ez20, iz20, rz20, hf⟩ := cc_g_s hw hf
                      refine cw_get (val := .int (rI z20)) B hw rz20 ⟨by decide, by decide⟩ (by decide) cwi_2 cfl_4_165 ez20 rfl dX4_compare_149 ?_
                      refine rn_icmp_ne (a := z19) (b := z20) (tgt := 174) hx hb iz19 iz20 dX4_compare_152 (by decide) (fun c21 => ?_) (fun c21 => ?_)
                      · replace hf := cc_if_t hf c21
                        refine lv_iconst (v := rI 0) hx hb dX4_compare_174 rfl ?_
                        obtain ⟨h01, hf⟩ := cc_bo_s hf
                        exact cw_retz B h01 hf hw dX4_compare_175
                      · replace hf := cc_if_f hf c21
                        refine cl_aload hx hb dX4_compare_155 (lv_at hl.1 1 rfl) ?_
                        obtain ⟨z22, ez22, iz22, rz22, hf⟩ := cc_g_s hw hf
                        refine cw_get (val := cR z22) B hw rz22 ⟨by decide, by decide⟩ (by decide) cwi_2 cfl_4_66 ez22 rfl dX4_compare_157 ?_
                        obtain ⟨σ23, kv24, z25, hσ23, hf⟩ := cc_cl_s hf
                        obtain ⟨iz25, mσ23⟩ := hR 28 σ15 [z22] σ23 kv24 z25 hσ23
                        have mσ23 : cw_Met l v yX3_lengthOf cX3_lengthOf 3 (some .int) d [cR z22] σ15 σ23 kv24 (some (.int (rI z25))) := mσ23 iz22
                        refine cw_cs (n := 1) (rest := []) (As := [cR z22]) B mσ23 cgo_yX3_lengthOf cml_4_70 cst_yX3_lengthOf (by decide +kernel) (by decide) rfl hl.1.1 (Nat.le_of_ble_eq_true rfl) dX4_compare_160 rfl hw (fun h0 H locs cells slots hw => ?_) (fun h0 H locs cells slots q ce hw h1 h2 h3 => ?_)
                        · rcases hf with ⟨-, hf⟩ | ⟨hk, -⟩
                          · skip
                            refine cl_aload hx hb dX4_compare_163 (lv_at hl.1 0 rfl) ?_
                            obtain ⟨z26, ez26, iz26, rz26, hf⟩ := cc_g_s hw hf
                            refine cw_get (val := cR z26) B hw rz26 ⟨by decide, by decide⟩ (by decide) cwi_2 cfl_4_66 ez26 rfl dX4_compare_165 ?_
                            obtain ⟨σ27, kv28, z29, hσ27, hf⟩ := cc_cl_s hf
                            obtain ⟨iz29, mσ27⟩ := hR 28 σ23 [z26] σ27 kv28 z29 hσ27
                            have mσ27 : cw_Met l v yX3_lengthOf cX3_lengthOf 3 (some .int) d [cR z26] σ23 σ27 kv28 (some (.int (rI z29))) := mσ27 iz26
                            refine cw_cs (n := 1) (rest := [.int (rI z25)]) (As := [cR z26]) B mσ27 cgo_yX3_lengthOf cml_4_70 cst_yX3_lengthOf (by decide +kernel) (by decide) rfl hl.1.1 (Nat.le_of_ble_eq_true rfl) dX4_compare_168 rfl hw (fun h0 H locs cells slots hw => ?_) (fun h0 H locs cells slots q ce hw h1 h2 h3 => ?_)
                            · rcases hf with ⟨-, hf⟩ | ⟨hk, -⟩
                              · skip
                                refine rn_icmp_eq (a := z25) (b := z29) (tgt := 176) hx hb iz25 iz29 dX4_compare_171 (by decide) (fun c30 => ?_) (fun c30 => ?_)
                                · replace hf := cc_if_t hf c30
                                  refine cl_aload hx hb dX4_compare_176 (lv_at hl.1 0 rfl) ?_
                                  obtain ⟨z31, ez31, iz31, rz31, hf⟩ := cc_g_s hw hf
                                  refine cw_get (val := cR z31) B hw rz31 ⟨by decide, by decide⟩ (by decide) cwi_2 cfl_4_66 ez31 rfl dX4_compare_178 ?_
                                  refine cl_astore (lv' := [(9, cR z31), (8, cR z9), (7, cR z6), (0, cR x0), (1, cR x1), (2, cR x2), (3, cR x3), (4, cR x4), (5, .int (rI x5)), (6, .int (rI x6))]) hx hb dX4_compare_181 hl (by decide) rfl (fun ls hl => ?_)
                                  refine cl_aload hx hb dX4_compare_183 (lv_at hl.1 2 rfl) ?_
                                  obtain ⟨z32, ez32, iz32, rz32, hf⟩ := cc_g_s hw hf
                                  refine cw_get (val := cR z32) B hw rz32 ⟨by decide, by decide⟩ (by decide) cwi_2 cfl_4_66 ez32 rfl dX4_compare_185 ?_
                                  refine cl_astore (lv' := [(10, cR z32), (9, cR z31), (8, cR z9), (7, cR z6), (0, cR x0), (1, cR x1), (2, cR x2), (3, cR x3), (4, cR x4), (5, .int (rI x5)), (6, .int (rI x6))]) hx hb dX4_compare_188 hl (by decide) rfl (fun ls hl => ?_)
                                  exact pw_X4_compare_190 rfl hR htr hd5 B hnh 1100000 σ27 x0 x5 x6 z31 z32 ix0 ix5 ix6 iz31 iz32 hf _ _ _ _ _ hw (cl_sub hl [4, 9, 10, 1, 0] rfl)
                                · replace hf := cc_if_f hf c30
                                  refine lv_iconst (v := rI 0) hx hb dX4_compare_174 rfl ?_
                                  obtain ⟨h01, hf⟩ := cc_bo_s hf
                                  exact cw_retz B h01 hf hw dX4_compare_175
                              · exact absurd h0 hk
                            · rcases hf with ⟨hk, -⟩ | ⟨-, hf⟩
                              · exact absurd hk h0
                              · cases hf
                                exact cw_xout B hnh h0 hw h1 h2 h3
                          · exact absurd h0 hk
                        · rcases hf with ⟨hk, -⟩ | ⟨-, hf⟩
                          · exact absurd hk h0
                          · cases hf
                            exact cw_xout B hnh h0 hw h1 h2 h3
                    · replace hf := cc_if_f hf c18
                      refine cl_aload_n hx hb dX4_compare_52 rfl (lv_at hl.1 2 rfl) ?_
                      refine cl_aload hx hb dX4_compare_53 (lv_at hl.1 1 rfl) ?_
                      obtain ⟨z33, ez33, iz33, rz33, hf⟩ := cc_g_s hw hf
                      refine cw_get (val := cR z33) B hw rz33 ⟨by decide, by decide⟩ (by decide) cwi_2 cfl_4_157 ez33 rfl dX4_compare_55 ?_
                      obtain ⟨z34, ez34, iz34, rz34, hf⟩ := cc_g_s hw hf
                      refine cw_get (val := cR z34) B hw rz34 ⟨by decide, by decide⟩ (by decide) cwi_7 cfl_4_112 ez34 rfl dX4_compare_58 ?_
                      refine cl_aload hx hb dX4_compare_61 (lv_at hl.1 1 rfl) ?_
                      obtain ⟨z35, ez35, iz35, rz35, hf⟩ := cc_g_s hw hf
                      refine cw_get (val := cR z35) B hw rz35 ⟨by decide, by decide⟩ (by decide) cwi_2 cfl_4_160 ez35 rfl dX4_compare_63 ?_
                      refine cl_aload hx hb dX4_compare_66 (lv_at hl.1 0 rfl) ?_
                      obtain ⟨z36, ez36, iz36, rz36, hf⟩ := cc_g_s hw hf
                      refine cw_get (val := cR z36) B hw rz36 ⟨by decide, by decide⟩ (by decide) cwi_2 cfl_4_157 ez36 rfl dX4_compare_68 ?_
                      obtain ⟨z37, ez37, iz37, rz37, hf⟩ := cc_g_s hw hf
                      refine cw_get (val := cR z37) B hw rz37 ⟨by decide, by decide⟩ (by decide) cwi_7 cfl_4_112 ez37 rfl dX4_compare_71 ?_
                      refine cl_aload hx hb dX4_compare_74 (lv_at hl.1 0 rfl) ?_
                      obtain ⟨z38, ez38, iz38, rz38, hf⟩ := cc_g_s hw hf
                      refine cw_get (val := cR z38) B hw rz38 ⟨by decide, by decide⟩ (by decide) cwi_2 cfl_4_160 ez38 rfl dX4_compare_76 ?_
                      refine lv_iload hx hb dX4_compare_79 (lv_at hl.1 7 rfl) ?_
                      refine lv_iload hx hb dX4_compare_81 (lv_at hl.1 8 rfl) ?_
                      refine lv_iconst (v := rI 1) hx hb dX4_compare_83 rfl ?_
                      obtain ⟨z39, ez39, iz39, hf⟩ := cc_ck_s hf
                      refine rn_add hx hb ez39 dX4_compare_84 ?_
                      obtain ⟨qσ40, hf⟩ := cc_t_s hf
                      obtain ⟨σ40, kv41, z42, hσ40, hf⟩ := cc_cl_s hf
                      obtain ⟨iz42, mσ40⟩ := hR 34 σ15 [x0, z34, z35, z37, z38, x5, z39] σ40 kv41 z42 hσ40
                      have mσ40 : cw_Met l v yX4_compare cX4_compare 11 (some .boolean) d [cR x0, cR z34, cR z35, cR z37, cR z38, .int (rI x5), .int (rI z39)] σ15 σ40 kv41 (some (.int (rI z42))) := mσ40 ix0 iz34 iz35 iz37 iz38 ix5 iz39
                      refine cw_cv (b := x0) (t := 5) (n := 6) (rest := []) (As := [cR z34, cR z35, cR z37, cR z38, .int (rI x5), .int (rI z39)]) B mσ40 qσ40 ⟨by decide, by decide⟩ cgo_yX4_compare cml_4_40 cin_yX4_compare cse_yX4_compare (by decide +kernel) (by decide) rfl hl.1.1 (Nat.le_of_ble_eq_true rfl) dX4_compare_85 rfl hw (fun h0 H locs cells slots hw => ?_) (fun h0 H locs cells slots q ce hw h1 h2 h3 => ?_)
                      · rcases hf with ⟨-, hf⟩ | ⟨hk, -⟩
                        · skip
                          refine rn_if_eq (a := z42) (tgt := 140) hx hb iz42 dX4_compare_88 (by decide) (fun c43 => ?_) (fun c43 => ?_)
                          · replace hf := cc_if_t hf c43
                            refine lv_iconst (v := rI 0) hx hb dX4_compare_140 rfl ?_
                            obtain ⟨h01, hf⟩ := cc_bo_s hf
                            exact cw_retz B h01 hf hw dX4_compare_141
                          · replace hf := cc_if_f hf c43
                            refine cl_aload_n hx hb dX4_compare_91 rfl (lv_at hl.1 2 rfl) ?_
                            refine cl_aload hx hb dX4_compare_92 (lv_at hl.1 1 rfl) ?_
                            obtain ⟨z44, ez44, iz44, rz44, hf⟩ := cc_g_s hw hf
                            refine cw_get (val := cR z44) B hw rz44 ⟨by decide, by decide⟩ (by decide) cwi_2 cfl_4_157 ez44 rfl dX4_compare_94 ?_
                            obtain ⟨z45, ez45, iz45, rz45, hf⟩ := cc_g_s hw hf
                            refine cw_get (val := cR z45) B hw rz45 ⟨by decide, by decide⟩ (by decide) cwi_7 cfl_4_122 ez45 rfl dX4_compare_97 ?_
                            refine cl_aload hx hb dX4_compare_100 (lv_at hl.1 1 rfl) ?_
                            refine lv_iload hx hb dX4_compare_102 (lv_at hl.1 7 rfl) ?_
                            obtain ⟨qσ46, hf⟩ := cc_t_s hf
                            obtain ⟨σ46, kv47, z48, hσ46, hf⟩ := cc_cl_s hf
                            obtain ⟨iz48, mσ46⟩ := hR 9 σ40 [z6, x5] σ46 kv47 z48 hσ46
                            have mσ46 : cw_Met l v yX1_envOfSecond cX1_envOfSecond 2 (some (.object "PureHouse$Link")) d [cR z6, .int (rI x5)] σ40 σ46 kv47 (some (cR z48)) := mσ46 iz6 ix5
                            refine cw_cv (b := z6) (t := 2) (n := 1) (rest := [cR z45, cR x0]) (As := [.int (rI x5)]) B mσ46 qσ46 ⟨by decide, by decide⟩ cgo_yX1_envOfSecond cml_4_161 cin_yX1_envOfSecond cse_yX1_envOfSecond (by decide +kernel) (by decide) rfl hl.1.1 (cl_cs (cl_1r (cl_1r cl_10)) (Nat.le_of_ble_eq_true rfl)) dX4_compare_104 rfl hw (fun h0 H locs cells slots hw => ?_) (fun h0 H locs cells slots q ce hw h1 h2 h3 => ?_)
                            · rcases hf with ⟨-, hf⟩ | ⟨hk, -⟩
                              · skip
                                refine cl_aload hx hb dX4_compare_107 (lv_at hl.1 0 rfl) ?_
                                obtain ⟨z49, ez49, iz49, rz49, hf⟩ := cc_g_s hw hf
                                refine cw_get (val := cR z49) B hw rz49 ⟨by decide, by decide⟩ (by decide) cwi_2 cfl_4_157 ez49 rfl dX4_compare_109 ?_
                                obtain ⟨z50, ez50, iz50, rz50, hf⟩ := cc_g_s hw hf
                                refine cw_get (val := cR z50) B hw rz50 ⟨by decide, by decide⟩ (by decide) cwi_7 cfl_4_122 ez50 rfl dX4_compare_112 ?_
                                refine cl_aload hx hb dX4_compare_115 (lv_at hl.1 0 rfl) ?_
                                refine lv_iload hx hb dX4_compare_117 (lv_at hl.1 7 rfl) ?_
                                obtain ⟨qσ51, hf⟩ := cc_t_s hf
                                obtain ⟨σ51, kv52, z53, hσ51, hf⟩ := cc_cl_s hf
                                obtain ⟨iz53, mσ51⟩ := hR 9 σ46 [z9, x5] σ51 kv52 z53 hσ51
                                have mσ51 : cw_Met l v yX1_envOfSecond cX1_envOfSecond 2 (some (.object "PureHouse$Link")) d [cR z9, .int (rI x5)] σ46 σ51 kv52 (some (cR z53)) := mσ51 iz9 ix5
                                refine cw_cv (b := z9) (t := 2) (n := 1) (rest := [cR z50, cR z48, cR z45, cR x0]) (As := [.int (rI x5)]) B mσ51 qσ51 ⟨by decide, by decide⟩ cgo_yX1_envOfSecond cml_4_161 cin_yX1_envOfSecond cse_yX1_envOfSecond (by decide +kernel) (by decide) rfl hl.1.1 (cl_cs (cl_1r (cl_1r (cl_1r (cl_1r cl_10)))) (Nat.le_of_ble_eq_true rfl)) dX4_compare_119 rfl hw (fun h0 H locs cells slots hw => ?_) (fun h0 H locs cells slots q ce hw h1 h2 h3 => ?_)
                                · rcases hf with ⟨-, hf⟩ | ⟨hk, -⟩
                                  · skip
                                    refine lv_iload hx hb dX4_compare_122 (lv_at hl.1 7 rfl) ?_
                                    refine lv_iconst (v := rI 1) hx hb dX4_compare_124 rfl ?_
                                    obtain ⟨z54, ez54, iz54, hf⟩ := cc_ck_s hf
                                    refine rn_add hx hb ez54 dX4_compare_125 ?_
                                    refine lv_iload hx hb dX4_compare_126 (lv_at hl.1 8 rfl) ?_
                                    refine lv_iconst (v := rI 1) hx hb dX4_compare_128 rfl ?_
                                    obtain ⟨z55, ez55, iz55, hf⟩ := cc_ck_s hf
                                    refine rn_add hx hb ez55 dX4_compare_129 ?_
                                    obtain ⟨qσ56, hf⟩ := cc_t_s hf
                                    obtain ⟨σ56, kv57, z58, hσ56, hf⟩ := cc_cl_s hf
                                    obtain ⟨iz58, mσ56⟩ := hR 34 σ51 [x0, z45, z48, z50, z53, z54, z55] σ56 kv57 z58 hσ56
                                    have mσ56 : cw_Met l v yX4_compare cX4_compare 11 (some .boolean) d [cR x0, cR z45, cR z48, cR z50, cR z53, .int (rI z54), .int (rI z55)] σ51 σ56 kv57 (some (.int (rI z58))) := mσ56 ix0 iz45 iz48 iz50 iz53 iz54 iz55
                                    refine cw_cv (b := x0) (t := 5) (n := 6) (rest := []) (As := [cR z45, cR z48, cR z50, cR z53, .int (rI z54), .int (rI z55)]) B mσ56 qσ56 ⟨by decide, by decide⟩ cgo_yX4_compare cml_4_40 cin_yX4_compare cse_yX4_compare (by decide +kernel) (by decide) rfl hl.1.1 (Nat.le_of_ble_eq_true rfl) dX4_compare_130 rfl hw (fun h0 H locs cells slots hw => ?_) (fun h0 H locs cells slots q ce hw h1 h2 h3 => ?_)
                                    · rcases hf with ⟨-, hf⟩ | ⟨hk, -⟩
                                      · skip
                                        refine rn_if_eq (a := z58) (tgt := 140) hx hb iz58 dX4_compare_133 (by decide) (fun c59 => ?_) (fun c59 => ?_)
                                        · replace hf := cc_if_t hf c59
                                          refine lv_iconst (v := rI 0) hx hb dX4_compare_140 rfl ?_
                                          obtain ⟨h01, hf⟩ := cc_bo_s hf
                                          exact cw_retz B h01 hf hw dX4_compare_141
                                        · replace hf := cc_if_f hf c59
                                          refine lv_iconst (v := rI 1) hx hb dX4_compare_136 rfl ?_
                                          refine lv_goto (tgt := 141) hx hb dX4_compare_137 (by decide) ?_
                                          obtain ⟨h01, hf⟩ := cc_bo_s hf
                                          exact cw_retz B h01 hf hw dX4_compare_141
                                      · exact absurd h0 hk
                                    · rcases hf with ⟨hk, -⟩ | ⟨-, hf⟩
                                      · exact absurd hk h0
                                      · cases hf
                                        exact cw_xout B hnh h0 hw h1 h2 h3
                                  · exact absurd h0 hk
                                · rcases hf with ⟨hk, -⟩ | ⟨-, hf⟩
                                  · exact absurd hk h0
                                  · cases hf
                                    exact cw_xout B hnh h0 hw h1 h2 h3
                              · exact absurd h0 hk
                            · rcases hf with ⟨hk, -⟩ | ⟨-, hf⟩
                              · exact absurd hk h0
                              · cases hf
                                exact cw_xout B hnh h0 hw h1 h2 h3
                        · exact absurd h0 hk
                      · rcases hf with ⟨hk, -⟩ | ⟨-, hf⟩
                        · exact absurd hk h0
                        · cases hf
                          exact cw_xout B hnh h0 hw h1 h2 h3
                  · exact absurd h0 hk
                · rcases hf with ⟨hk, -⟩ | ⟨-, hf⟩
                  · exact absurd hk h0
                  · cases hf
                    exact cw_xout B hnh h0 hw h1 h2 h3
              · replace hf := cc_if_f hf c14
                refine lv_iconst (v := rI 0) hx hb dX4_compare_42 rfl ?_
                obtain ⟨h01, hf⟩ := cc_bo_s hf
                exact cw_retz B h01 hf hw dX4_compare_43
            · exact absurd h0 hk
          · rcases hf with ⟨hk, -⟩ | ⟨-, hf⟩
            · exact absurd hk h0
            · cases hf
              exact cw_xout B hnh h0 hw h1 h2 h3
        · exact absurd h0 hk
      · rcases hf with ⟨hk, -⟩ | ⟨-, hf⟩
        · exact absurd hk h0
        · cases hf
          exact cw_xout B hnh h0 hw h1 h2 h3
    · exact absurd h0 hk
  · rcases hf with ⟨hk, -⟩ | ⟨-, hf⟩
    · exact absurd hk h0
    · cases hf
      exact cw_xout B hnh h0 hw h1 h2 h3

set_option maxHeartbeats 4000000 in
set_option maxRecDepth 100000 in
theorem pm_X4_compare {v : cwE} {bd : Nat × Nat} {l : Launch} {d : Nat} {rec : Nat → CS → List Int → CO} (hbd : bd = (v.2.2.1, v.2.2.2.1)) (hR : cw_Rec l v d rec) (htr : l.stackTraces = false) (hd5 : 5 ≤ d) (σ σ' : CS) (x0 x1 x2 x3 x4 x5 x6 : Int) (kd : Nat) (r : Int) (ix0 : inR x0) (ix1 : inR x1) (ix2 : inR x2) (ix3 : inR x3) (ix4 : inR x4) (ix5 : inR x5) (ix6 : inR x6) (hf : pc_X4_compare_0 rec bd σ x0 x1 x2 x3 x4 x5 x6 = some (σ', kd, r)) : cw_Met l v yX4_compare cX4_compare 11 (some .boolean) (d + 1) [cR x0, cR x1, cR x2, cR x3, cR x4, .int (rI x5), .int (rI x6)] σ σ' kd (some (.int (rI r))) := by
  refine cw_ofW (by decide +kernel) ?_
  intro p e s m args below meth c s₁ B hml hv
  obtain ⟨rfl, hM, hK⟩ := hv
  have hts := atoms_spec (ws := Cond.code yX4_compare cX4_compare 11 (some .boolean) :: cw_bw) B.pre
  have hB : cw_B v RX4 p s m _ meth c cX4_compare 11 (some .boolean) := ⟨B.exec, B.bytes, B.returns, hml, findClass_of_methodNamed B.named, fun w h => hts w (List.mem_cons_of_mem _ h), B.notSynchronized, hK⟩
  have hnh := cc_nh B (hts _ List.mem_cons_self)
  rw [lg_entry_eq]
  obtain ⟨ls, hls, hl⟩ := cl_ent [cR x0, cR x1, cR x2, cR x3, cR x4, .int (rI x5), .int (rI x6)] 11 (cl_1r (cl_1r (cl_1r (cl_1r (cl_1r (cl_1i (cl_1i cl_10))))))) (Nat.le_of_ble_eq_true rfl)
  rw [hls]
  exact pw_X4_compare_0 hbd hR htr hd5 hB hnh σ x0 x1 x2 x3 x4 x5 x6 ix0 ix1 ix2 ix3 ix4 ix5 ix6 hf _ _ _ _ _ (cw_W0 hM) (cl_sub hl [0, 1, 2, 3, 4, 5, 6] rfl)

set_option maxHeartbeats 4000000 in
set_option maxRecDepth 100000 in
theorem pw_X4_head_236 {v : cwE} {bd : Nat × Nat} {p : Program} {l : Launch} {e : Env} {s : State} {m : MethodId} {args : Array Value} {below : List Frame} {meth : Method} {c : Code} {d : Nat} {rec : Nat → CS → List Int → CO} {σ0 σ' : CS} {kd : Nat} {r : Int} (hbd : bd = (v.2.2.1, v.2.2.2.1)) (hR : cw_Rec l v d rec) (htr : l.stackTraces = false) (hd5 : 5 ≤ d) (B : cw_B v RX4 p s m args meth c cX4_head 9 (some (.object "PureHouse$Head"))) (hnh : ∀ x ∈ c.exceptionTable.toList, False) : ∀ (σ : CS) (x3 x4 x5 t0 : Int), inR x3 → inR x4 → inR x5 → inR t0 → pc_X4_head_236 rec bd σ x3 x4 x5 t0 = some (σ', kd, r) → ∀ (H : Heap) (locs : List Loc) (cells slots : Nat) (ls : Array Slot), cw_W v s σ0 σ H locs cells slots → cl_has ls 9 [(3, cR x3), (4, cR x4), (5, cR x5)] → W p l e (cw_rm v (d + 1) σ0) s m args below meth c H locs cells slots (cw_Z below v σ0 σ' kd (some (cR r)) args s) (F0 m 236 ls [.int (rI t0)]) := by
  subst hbd
  obtain ⟨hx, hb, hr, hml, hown, hts, hlk, hK⟩ := id B
  intro σ x3 x4 x5 t0 ix3 ix4 ix5 it0 hf H locs cells slots ls hw hl
  unfold pc_X4_head_236 at hf
  refine cl_istore (lv' := [(8, .int (rI t0)), (3, cR x3), (4, cR x4), (5, cR x5)]) hx hb dX4_head_236 hl (by decide) rfl (fun ls hl => ?_)
  obtain ⟨σ1, z2, eσ1, ez2, iz2, rσ1, hf⟩ := cc_n_s hf
  refine cw_new B hw cwt_2 rfl cwd_2 cnl_4_61 cni_2 cnz_2 rσ1 eσ1 ez2 dX4_head_238 (fun H hw => ?_)
  refine lv_dup hx hb dX4_head_241 (cR_cat _) ?_
  refine cl_aload_n hx hb dX4_head_242 rfl (lv_at hl.1 1 rfl) ?_
  refine lv_iload hx hb dX4_head_243 (lv_at hl.1 0 rfl) ?_
  refine cl_aload hx hb dX4_head_245 (lv_at hl.1 2 rfl) ?_
  refine cl_aload hx hb dX4_head_247 (lv_at hl.1 3 rfl) ?_
  obtain ⟨qσ3, hf⟩ := cc_t_s hf
  obtain ⟨σ3, z5, hσ3, hf⟩ := cc_ci_s hf
  obtain ⟨iz5, mσ3⟩ := hR 10 σ1 [z2, x3, t0, x4, x5] σ3 0 z5 hσ3
  have mσ3 : cw_Met l v yX1_init cX1_init 5 none d [cR z2, cR x3, .int (rI t0), cR x4, cR x5] σ1 σ3 0 none := mσ3 iz2 ix3 it0 ix4 ix5
  refine cw_ci (b := z2) (n := 4) (rest := [cR z2]) (As := [cR x3, .int (rI t0), cR x4, cR x5]) B mσ3 qσ3.1 rfl cgo_yX1_init cml_4_147 cin_yX1_init (by decide +kernel) (by decide) rfl hl.1.1 (cl_cs (cl_1r cl_10) (Nat.le_of_ble_eq_true rfl)) dX4_head_249 rfl hw (fun H locs cells slots hw => ?_)
  exact cw_reta B hf hw dX4_head_252

set_option maxHeartbeats 4000000 in
set_option maxRecDepth 100000 in
theorem pw_X4_head_219 {v : cwE} {bd : Nat × Nat} {p : Program} {l : Launch} {e : Env} {s : State} {m : MethodId} {args : Array Value} {below : List Frame} {meth : Method} {c : Code} {d : Nat} {rec : Nat → CS → List Int → CO} {σ0 σ' : CS} {kd : Nat} {r : Int} (hbd : bd = (v.2.2.1, v.2.2.2.1)) (hR : cw_Rec l v d rec) (htr : l.stackTraces = false) (hd5 : 5 ≤ d) (B : cw_B v RX4 p s m args meth c cX4_head 9 (some (.object "PureHouse$Head"))) (hnh : ∀ x ∈ c.exceptionTable.toList, False) : ∀ (σ : CS) (x3 x4 x5 x7 : Int), inR x3 → inR x4 → inR x5 → inR x7 → pc_X4_head_219 rec bd σ x3 x4 x5 x7 = some (σ', kd, r) → ∀ (H : Heap) (locs : List Loc) (cells slots : Nat) (ls : Array Slot), cw_W v s σ0 σ H locs cells slots → cl_has ls 9 [(3, cR x3), (4, cR x4), (5, cR x5), (7, cR x7)] → W p l e (cw_rm v (d + 1) σ0) s m args below meth c H locs cells slots (cw_Z below v σ0 σ' kd (some (cR r)) args s) (F0 m 219 ls []) := by
  subst hbd
  obtain ⟨hx, hb, hr, hml, hown, hts, hlk, hK⟩ := id B
  intro σ x3 x4 x5 x7 ix3 ix4 ix5 ix7 hf H locs cells slots ls hw hl
  unfold pc_X4_head_219 at hf
  refine cl_aload hx hb dX4_head_219 (lv_at hl.1 3 rfl) ?_
  refine cl_ifnonnull (x := x7) (tgt := 231) hx hb dX4_head_221 (by decide) (fun c1 => ?_) (fun c1 => ?_)
  · replace hf := cc_if_t hf c1
    refine cl_aload hx hb dX4_head_231 (lv_at hl.1 3 rfl) ?_
    obtain ⟨z2, ez2, iz2, rz2, hf⟩ := cc_g_s hw hf
    refine cw_get (val := .int (rI z2)) B hw rz2 ⟨by decide, by decide⟩ (by decide) cwi_4 cfl_4_144 ez2 rfl dX4_head_233 ?_
    exact pw_X4_head_236 rfl hR htr hd5 B hnh σ x3 x4 x5 z2 ix3 ix4 ix5 iz2 hf _ _ _ _ _ hw (cl_sub hl [0, 1, 2] rfl)
  · replace hf := cc_if_f hf c1
    refine cl_aload_n hx hb dX4_head_224 rfl (lv_at hl.1 0 rfl) ?_
    obtain ⟨z3, ez3, iz3, rz3, hf⟩ := cc_g_s hw hf
    refine cw_get (val := .int (rI z3)) B hw rz3 ⟨by decide, by decide⟩ (by decide) cwi_7 cfl_4_116 ez3 rfl dX4_head_225 ?_
    refine lv_goto (tgt := 236) hx hb dX4_head_228 (by decide) ?_
    exact pw_X4_head_236 rfl hR htr hd5 B hnh σ x3 x4 x5 z3 ix3 ix4 ix5 iz3 hf _ _ _ _ _ hw (cl_sub hl [0, 1, 2] rfl)

set_option maxHeartbeats 4000000 in
set_option maxRecDepth 100000 in
theorem pw_X4_head_291 {v : cwE} {bd : Nat × Nat} {p : Program} {l : Launch} {e : Env} {s : State} {m : MethodId} {args : Array Value} {below : List Frame} {meth : Method} {c : Code} {d : Nat} {rec : Nat → CS → List Int → CO} {σ0 σ' : CS} {kd : Nat} {r : Int} (hbd : bd = (v.2.2.1, v.2.2.2.1)) (hR : cw_Rec l v d rec) (htr : l.stackTraces = false) (hd5 : 5 ≤ d) (B : cw_B v RX4 p s m args meth c cX4_head 9 (some (.object "PureHouse$Head"))) (hnh : ∀ x ∈ c.exceptionTable.toList, False) (k11 : CS → Int → Int → Int → Int → Int → CO) (hk11 : ∀ (σ : CS) (x0 x3 x4 x5 x6 : Int), inR x0 → inR x3 → inR x4 → inR x5 → inR x6 → k11 σ x0 x3 x4 x5 x6 = some (σ', kd, r) → ∀ (H : Heap) (locs : List Loc) (cells slots : Nat) (ls : Array Slot), cw_W v s σ0 σ H locs cells slots → cl_has ls 9 [(0, cR x0), (3, cR x3), (4, cR x4), (5, cR x5), (6, .int (rI x6))] → W p l e (cw_rm v (d + 1) σ0) s m args below meth c H locs cells slots (cw_Z below v σ0 σ' kd (some (cR r)) args s) (F0 m 11 ls [])) : ∀ (σ : CS) (x0 x3 x4 x5 x6 : Int), inR x0 → inR x3 → inR x4 → inR x5 → inR x6 → pc_X4_head_291 rec bd k11 σ x0 x3 x4 x5 x6 = some (σ', kd, r) → ∀ (H : Heap) (locs : List Loc) (cells slots : Nat) (ls : Array Slot), cw_W v s σ0 σ H locs cells slots → cl_has ls 9 [(0, cR x0), (3, cR x3), (4, cR x4), (5, cR x5), (6, .int (rI x6))] → W p l e (cw_rm v (d + 1) σ0) s m args below meth c H locs cells slots (cw_Z below v σ0 σ' kd (some (cR r)) args s) (F0 m 291 ls []) := by
  subst hbd
  obtain ⟨hx, hb, hr, hml, hown, hts, hlk, hK⟩ := id B
  intro σ x0 x3 x4 x5 x6 ix0 ix3 ix4 ix5 ix6 hf H locs cells slots ls hw hl
  unfold pc_X4_head_291 at hf
  obtain ⟨z1, ez1, iz1, hf⟩ := cc_ck_s hf
  refine cl_iinc (v := rI z1) (lv' := [(6, .int (rI z1)), (0, cR x0), (3, cR x3), (4, cR x4), (5, cR x5)]) hx hb dX4_head_291 hl (k := 4) rfl (by rw [ez1]; exact rI_add _ _) (by decide) rfl (fun ls hl => ?_)
  refine lv_goto (tgt := 11) hx hb dX4_head_294 (by decide) ?_
  exact hk11 σ x0 x3 x4 x5 z1 ix0 ix3 ix4 ix5 iz1 hf _ _ _ _ _ hw (cl_sub hl [1, 2, 3, 4, 0] rfl)

set_option maxHeartbeats 4000000 in
set_option maxRecDepth 100000 in
theorem pw_X4_head_187 {v : cwE} {bd : Nat × Nat} {p : Program} {l : Launch} {e : Env} {s : State} {m : MethodId} {args : Array Value} {below : List Frame} {meth : Method} {c : Code} {d : Nat} {rec : Nat → CS → List Int → CO} {σ0 σ' : CS} {kd : Nat} {r : Int} (hbd : bd = (v.2.2.1, v.2.2.2.1)) (hR : cw_Rec l v d rec) (htr : l.stackTraces = false) (hd5 : 5 ≤ d) (B : cw_B v RX4 p s m args meth c cX4_head 9 (some (.object "PureHouse$Head"))) (hnh : ∀ x ∈ c.exceptionTable.toList, False) (k11 : CS → Int → Int → Int → Int → Int → CO) (hk11 : ∀ (σ : CS) (x0 x3 x4 x5 x6 : Int), inR x0 → inR x3 → inR x4 → inR x5 → inR x6 → k11 σ x0 x3 x4 x5 x6 = some (σ', kd, r) → ∀ (H : Heap) (locs : List Loc) (cells slots : Nat) (ls : Array Slot), cw_W v s σ0 σ H locs cells slots → cl_has ls 9 [(0, cR x0), (3, cR x3), (4, cR x4), (5, cR x5), (6, .int (rI x6))] → W p l e (cw_rm v (d + 1) σ0) s m args below meth c H locs cells slots (cw_Z below v σ0 σ' kd (some (cR r)) args s) (F0 m 11 ls [])) : ∀ (σ : CS) (x0 x3 x4 x5 x6 : Int), inR x0 → inR x3 → inR x4 → inR x5 → inR x6 → pc_X4_head_187 rec bd k11 σ x0 x3 x4 x5 x6 = some (σ', kd, r) → ∀ (H : Heap) (locs : List Loc) (cells slots : Nat) (ls : Array Slot), cw_W v s σ0 σ H locs cells slots → cl_has ls 9 [(0, cR x0), (3, cR x3), (4, cR x4), (5, cR x5), (6, .int (rI x6))] → W p l e (cw_rm v (d + 1) σ0) s m args below meth c H locs cells slots (cw_Z below v σ0 σ' kd (some (cR r)) args s) (F0 m 187 ls []) := by
  subst hbd
  obtain ⟨hx, hb, hr, hml, hown, hts, hlk, hK⟩ := id B
  intro σ x0 x3 x4 x5 x6 ix0 ix3 ix4 ix5 ix6 hf H locs cells slots ls hw hl
  unfold pc_X4_head_187 at hf
  refine cl_aload_n hx hb dX4_head_187 rfl (lv_at hl.1 1 rfl) ?_
  obtain ⟨z1, ez1, iz1, rz1, hf⟩ := cc_g_s hw hf
  refine cw_get (val := .int (rI z1)) B hw rz1 ⟨by decide, by decide⟩ (by decide) cwi_7 cfl_4_100 ez1 rfl dX4_head_188 ?_
  refine lv_iconst (v := rI 3) hx hb dX4_head_191 rfl ?_
  refine rn_icmp_ne (a := z1) (b := 3) (tgt := 274) hx hb iz1 ⟨by decide, by decide⟩ dX4_head_192 (by decide) (fun c2 => ?_) (fun c2 => ?_)
  · replace hf := cc_if_t hf c2
    obtain ⟨σ3, z4, eσ3, ez4, iz4, rσ3, hf⟩ := cc_n_s hf
    refine cw_new B hw cwt_2 rfl cwd_2 cnl_4_61 cni_2 cnz_2 rσ3 eσ3 ez4 dX4_head_274 (fun H hw => ?_)
    refine lv_dup hx hb dX4_head_277 (cR_cat _) ?_
    refine cl_aload_n hx hb dX4_head_278 rfl (lv_at hl.1 1 rfl) ?_
    refine cl_aload_n hx hb dX4_head_279 rfl (lv_at hl.1 1 rfl) ?_
    obtain ⟨z5, ez5, iz5, rz5, hf⟩ := cc_g_s hw hf
    refine cw_get (val := .int (rI z5)) B hw rz5 ⟨by decide, by decide⟩ (by decide) cwi_7 cfl_4_116 ez5 rfl dX4_head_280 ?_
    refine cl_aload hx hb dX4_head_283 (lv_at hl.1 2 rfl) ?_
    refine cl_aload hx hb dX4_head_285 (lv_at hl.1 3 rfl) ?_
    obtain ⟨qσ6, hf⟩ := cc_t_s hf
    obtain ⟨σ6, z8, hσ6, hf⟩ := cc_ci_s hf
    obtain ⟨iz8, mσ6⟩ := hR 10 σ3 [z4, x3, z5, x4, x5] σ6 0 z8 hσ6
    have mσ6 : cw_Met l v yX1_init cX1_init 5 none d [cR z4, cR x3, .int (rI z5), cR x4, cR x5] σ3 σ6 0 none := mσ6 iz4 ix3 iz5 ix4 ix5
    refine cw_ci (b := z4) (n := 4) (rest := [cR z4]) (As := [cR x3, .int (rI z5), cR x4, cR x5]) B mσ6 qσ6.1 rfl cgo_yX1_init cml_4_147 cin_yX1_init (by decide +kernel) (by decide) rfl hl.1.1 (cl_cs (cl_1r cl_10) (Nat.le_of_ble_eq_true rfl)) dX4_head_287 rfl hw (fun H locs cells slots hw => ?_)
    exact cw_reta B hf hw dX4_head_290
  · replace hf := cc_if_f hf c2
    refine cl_aload_n hx hb dX4_head_195 rfl (lv_at hl.1 1 rfl) ?_
    obtain ⟨z9, ez9, iz9, rz9, hf⟩ := cc_g_s hw hf
    refine cw_get (val := .int (rI z9)) B hw rz9 ⟨by decide, by decide⟩ (by decide) cwi_7 cfl_4_116 ez9 rfl dX4_head_196 ?_
    refine cl_aload hx hb dX4_head_199 (lv_at hl.1 2 rfl) ?_
    obtain ⟨σ10, kv11, z12, hσ10, hf⟩ := cc_cl_s hf
    obtain ⟨iz12, mσ10⟩ := hR 26 σ [z9, x4] σ10 kv11 z12 hσ10
    have mσ10 : cw_Met l v yX3_find cX3_find 3 (some (.object "PureHouse$Link")) d [.int (rI z9), cR x4] σ σ10 kv11 (some (cR z12)) := mσ10 iz9 ix4
    refine cw_cs (n := 2) (rest := []) (As := [.int (rI z9), cR x4]) B mσ10 cgo_yX3_find cml_4_140 cst_yX3_find (by decide +kernel) (by decide) rfl hl.1.1 (Nat.le_of_ble_eq_true rfl) dX4_head_201 rfl hw (fun h0 H locs cells slots hw => ?_) (fun h0 H locs cells slots q ce hw h1 h2 h3 => ?_)
    · rcases hf with ⟨-, hf⟩ | ⟨hk, -⟩
      · skip
        refine cl_astore (lv' := [(7, cR z12), (0, cR x0), (3, cR x3), (4, cR x4), (5, cR x5), (6, .int (rI x6))]) hx hb dX4_head_204 hl (by decide) rfl (fun ls hl => ?_)
        refine cl_aload hx hb dX4_head_206 (lv_at hl.1 0 rfl) ?_
        refine cl_ifnull (x := z12) (tgt := 219) hx hb dX4_head_208 (by decide) (fun c13 => ?_) (fun c13 => ?_)
        · replace hf := cc_if_t hf c13
          exact pw_X4_head_219 rfl hR htr hd5 B hnh σ10 x3 x4 x5 z12 ix3 ix4 ix5 iz12 hf _ _ _ _ _ hw (cl_sub hl [2, 3, 4, 0] rfl)
        · replace hf := cc_if_f hf c13
          refine cl_aload hx hb dX4_head_211 (lv_at hl.1 0 rfl) ?_
          obtain ⟨z14, ez14, iz14, rz14, hf⟩ := cc_g_s hw hf
          refine cw_get (val := cR z14) B hw rz14 ⟨by decide, by decide⟩ (by decide) cwi_4 cfl_4_125 ez14 rfl dX4_head_213 ?_
          refine cl_ifnonnull (x := z14) (tgt := 253) hx hb dX4_head_216 (by decide) (fun c15 => ?_) (fun c15 => ?_)
          · replace hf := cc_if_t hf c15
            refine cl_aload_n hx hb dX4_head_253 rfl (lv_at hl.1 1 rfl) ?_
            refine lv_iconst (v := rI 5) hx hb dX4_head_254 rfl ?_
            obtain ⟨qσ16, hf⟩ := cc_t_s hf
            obtain ⟨σ16, kv17, z18, hσ16, hf⟩ := cc_cl_s hf
            obtain ⟨iz18, mσ16⟩ := hR 48 σ10 [x0, 5] σ16 kv17 z18 hσ16
            have mσ16 : cw_Met l v yX4_spend cX4_spend 2 none d [cR x0, .int (rI 5)] σ10 σ16 kv17 none := mσ16 ix0 ⟨by decide, by decide⟩
            refine cw_cv (b := x0) (t := 5) (n := 1) (rest := []) (As := [.int (rI 5)]) B mσ16 qσ16 ⟨by decide, by decide⟩ cgo_yX4_spend cml_4_96 cin_yX4_spend cse_yX4_spend (by decide +kernel) (by decide) rfl hl.1.1 (Nat.le_of_ble_eq_true rfl) dX4_head_255 rfl hw (fun h0 H locs cells slots hw => ?_) (fun h0 H locs cells slots q ce hw h1 h2 h3 => ?_)
            · rcases hf with ⟨-, hf⟩ | ⟨hk, -⟩
              · skip
                refine cl_aload hx hb dX4_head_258 (lv_at hl.1 0 rfl) ?_
                obtain ⟨z19, ez19, iz19, rz19, hf⟩ := cc_g_s hw hf
                refine cw_get (val := cR z19) B hw rz19 ⟨by decide, by decide⟩ (by decide) cwi_4 cfl_4_125 ez19 rfl dX4_head_260 ?_
                refine cl_astore_n (lv' := [(3, cR z19), (7, cR z12), (0, cR x0), (4, cR x4), (5, cR x5), (6, .int (rI x6))]) hx hb dX4_head_263 rfl hl (by decide) rfl (fun ls hl => ?_)
                refine cl_aload hx hb dX4_head_264 (lv_at hl.1 1 rfl) ?_
                obtain ⟨z20, ez20, iz20, rz20, hf⟩ := cc_g_s hw hf
                refine cw_get (val := cR z20) B hw rz20 ⟨by decide, by decide⟩ (by decide) cwi_4 cfl_4_128 ez20 rfl dX4_head_266 ?_
                refine cl_astore (lv' := [(4, cR z20), (3, cR z19), (7, cR z12), (0, cR x0), (5, cR x5), (6, .int (rI x6))]) hx hb dX4_head_269 hl (by decide) rfl (fun ls hl => ?_)
                refine lv_goto (tgt := 291) hx hb dX4_head_271 (by decide) ?_
                exact pw_X4_head_291 rfl hR htr hd5 B hnh k11 hk11 σ16 x0 z19 z20 x5 x6 ix0 iz19 iz20 ix5 ix6 hf _ _ _ _ _ hw (cl_sub hl [3, 1, 0, 4, 5] rfl)
              · exact absurd h0 hk
            · rcases hf with ⟨hk, -⟩ | ⟨-, hf⟩
              · exact absurd hk h0
              · cases hf
                exact cw_xout B hnh h0 hw h1 h2 h3
          · replace hf := cc_if_f hf c15
            exact pw_X4_head_219 rfl hR htr hd5 B hnh σ10 x3 x4 x5 z12 ix3 ix4 ix5 iz12 hf _ _ _ _ _ hw (cl_sub hl [2, 3, 4, 0] rfl)
      · exact absurd h0 hk
    · rcases hf with ⟨hk, -⟩ | ⟨-, hf⟩
      · exact absurd hk h0
      · cases hf
        exact cw_xout B hnh h0 hw h1 h2 h3

set_option maxHeartbeats 4000000 in
set_option maxRecDepth 100000 in
theorem pw_X4_head_142 {v : cwE} {bd : Nat × Nat} {p : Program} {l : Launch} {e : Env} {s : State} {m : MethodId} {args : Array Value} {below : List Frame} {meth : Method} {c : Code} {d : Nat} {rec : Nat → CS → List Int → CO} {σ0 σ' : CS} {kd : Nat} {r : Int} (hbd : bd = (v.2.2.1, v.2.2.2.1)) (hR : cw_Rec l v d rec) (htr : l.stackTraces = false) (hd5 : 5 ≤ d) (B : cw_B v RX4 p s m args meth c cX4_head 9 (some (.object "PureHouse$Head"))) (hnh : ∀ x ∈ c.exceptionTable.toList, False) (k11 : CS → Int → Int → Int → Int → Int → CO) (hk11 : ∀ (σ : CS) (x0 x3 x4 x5 x6 : Int), inR x0 → inR x3 → inR x4 → inR x5 → inR x6 → k11 σ x0 x3 x4 x5 x6 = some (σ', kd, r) → ∀ (H : Heap) (locs : List Loc) (cells slots : Nat) (ls : Array Slot), cw_W v s σ0 σ H locs cells slots → cl_has ls 9 [(0, cR x0), (3, cR x3), (4, cR x4), (5, cR x5), (6, .int (rI x6))] → W p l e (cw_rm v (d + 1) σ0) s m args below meth c H locs cells slots (cw_Z below v σ0 σ' kd (some (cR r)) args s) (F0 m 11 ls [])) : ∀ (σ : CS) (x0 x3 x4 x5 x6 : Int), inR x0 → inR x3 → inR x4 → inR x5 → inR x6 → pc_X4_head_142 rec bd k11 σ x0 x3 x4 x5 x6 = some (σ', kd, r) → ∀ (H : Heap) (locs : List Loc) (cells slots : Nat) (ls : Array Slot), cw_W v s σ0 σ H locs cells slots → cl_has ls 9 [(0, cR x0), (3, cR x3), (4, cR x4), (5, cR x5), (6, .int (rI x6))] → W p l e (cw_rm v (d + 1) σ0) s m args below meth c H locs cells slots (cw_Z below v σ0 σ' kd (some (cR r)) args s) (F0 m 142 ls []) := by
  subst hbd
  obtain ⟨hx, hb, hr, hml, hown, hts, hlk, hK⟩ := id B
  intro σ x0 x3 x4 x5 x6 ix0 ix3 ix4 ix5 ix6 hf H locs cells slots ls hw hl
  unfold pc_X4_head_142 at hf
  refine cl_aload_n hx hb dX4_head_142 rfl (lv_at hl.1 1 rfl) ?_
  obtain ⟨z1, ez1, iz1, rz1, hf⟩ := cc_g_s hw hf
  refine cw_get (val := .int (rI z1)) B hw rz1 ⟨by decide, by decide⟩ (by decide) cwi_7 cfl_4_100 ez1 rfl dX4_head_143 ?_
  refine lv_iconst (v := rI 2) hx hb dX4_head_146 rfl ?_
  refine rn_icmp_ne (a := z1) (b := 2) (tgt := 187) hx hb iz1 ⟨by decide, by decide⟩ dX4_head_147 (by decide) (fun c2 => ?_) (fun c2 => ?_)
  · replace hf := cc_if_t hf c2
    exact pw_X4_head_187 rfl hR htr hd5 B hnh k11 hk11 σ x0 x3 x4 x5 x6 ix0 ix3 ix4 ix5 ix6 hf _ _ _ _ _ hw (cl_sub hl [0, 1, 2, 3, 4] rfl)
  · replace hf := cc_if_f hf c2
    refine cl_aload_n hx hb dX4_head_150 rfl (lv_at hl.1 0 rfl) ?_
    obtain ⟨z3, ez3, iz3, rz3, hf⟩ := cc_g_s hw hf
    refine cw_get (val := cR z3) B hw rz3 ⟨by decide, by decide⟩ (by decide) cwi_5 cfl_4_32 ez3 rfl dX4_head_151 ?_
    refine cl_aload_n hx hb dX4_head_154 rfl (lv_at hl.1 1 rfl) ?_
    obtain ⟨z4, ez4, iz4, rz4, hf⟩ := cc_g_s hw hf
    refine cw_get (val := .int (rI z4)) B hw rz4 ⟨by decide, by decide⟩ (by decide) cwi_7 cfl_4_116 ez4 rfl dX4_head_155 ?_
    obtain ⟨qσ5, hf⟩ := cc_t_s hf
    obtain ⟨σ5, kv6, z7, hσ5, hf⟩ := cc_cl_s hf
    obtain ⟨iz7, mσ5⟩ := hR 8 σ [z3, z4] σ5 kv6 z7 hσ5
    have mσ5 : cw_Met l v yX0_valueOf cX0_valueOf 2 (some (.object "PureHouse$Node")) d [cR z3, .int (rI z4)] σ σ5 kv6 (some (cR z7)) := mσ5 iz3 iz4
    refine cw_cv (b := z3) (t := 1) (n := 1) (rest := []) (As := [.int (rI z4)]) B mσ5 qσ5 ⟨by decide, by decide⟩ cgo_yX0_valueOf cml_4_134 cin_yX0_valueOf cse_yX0_valueOf (by decide +kernel) (by decide) rfl hl.1.1 (Nat.le_of_ble_eq_true rfl) dX4_head_158 rfl hw (fun h0 H locs cells slots hw => ?_) (fun h0 H locs cells slots q ce hw h1 h2 h3 => ?_)
    · rcases hf with ⟨-, hf⟩ | ⟨hk, -⟩
      · skip
        refine cl_ifnull (x := z7) (tgt := 187) hx hb dX4_head_161 (by decide) (fun c8 => ?_) (fun c8 => ?_)
        · replace hf := cc_if_t hf c8
          exact pw_X4_head_187 rfl hR htr hd5 B hnh k11 hk11 σ5 x0 x3 x4 x5 x6 ix0 ix3 ix4 ix5 ix6 hf _ _ _ _ _ hw (cl_sub hl [0, 1, 2, 3, 4] rfl)
        · replace hf := cc_if_f hf c8
          refine cl_aload_n hx hb dX4_head_164 rfl (lv_at hl.1 0 rfl) ?_
          refine lv_iconst (v := rI 2) hx hb dX4_head_165 rfl ?_
          obtain ⟨qσ9, hf⟩ := cc_t_s hf
          obtain ⟨σ9, kv10, z11, hσ9, hf⟩ := cc_cl_s hf
          obtain ⟨iz11, mσ9⟩ := hR 48 σ5 [x0, 2] σ9 kv10 z11 hσ9
          have mσ9 : cw_Met l v yX4_spend cX4_spend 2 none d [cR x0, .int (rI 2)] σ5 σ9 kv10 none := mσ9 ix0 ⟨by decide, by decide⟩
          refine cw_cv (b := x0) (t := 5) (n := 1) (rest := []) (As := [.int (rI 2)]) B mσ9 qσ9 ⟨by decide, by decide⟩ cgo_yX4_spend cml_4_96 cin_yX4_spend cse_yX4_spend (by decide +kernel) (by decide) rfl hl.1.1 (Nat.le_of_ble_eq_true rfl) dX4_head_166 rfl hw (fun h0 H locs cells slots hw => ?_) (fun h0 H locs cells slots q ce hw h1 h2 h3 => ?_)
          · rcases hf with ⟨-, hf⟩ | ⟨hk, -⟩
            · skip
              refine cl_aload_n hx hb dX4_head_169 rfl (lv_at hl.1 0 rfl) ?_
              obtain ⟨z12, ez12, iz12, rz12, hf⟩ := cc_g_s hw hf
              refine cw_get (val := cR z12) B hw rz12 ⟨by decide, by decide⟩ (by decide) cwi_5 cfl_4_32 ez12 rfl dX4_head_170 ?_
              refine cl_aload_n hx hb dX4_head_173 rfl (lv_at hl.1 1 rfl) ?_
              obtain ⟨z13, ez13, iz13, rz13, hf⟩ := cc_g_s hw hf
              refine cw_get (val := .int (rI z13)) B hw rz13 ⟨by decide, by decide⟩ (by decide) cwi_7 cfl_4_116 ez13 rfl dX4_head_174 ?_
              obtain ⟨qσ14, hf⟩ := cc_t_s hf
              obtain ⟨σ14, kv15, z16, hσ14, hf⟩ := cc_cl_s hf
              obtain ⟨iz16, mσ14⟩ := hR 8 σ9 [z12, z13] σ14 kv15 z16 hσ14
              have mσ14 : cw_Met l v yX0_valueOf cX0_valueOf 2 (some (.object "PureHouse$Node")) d [cR z12, .int (rI z13)] σ9 σ14 kv15 (some (cR z16)) := mσ14 iz12 iz13
              refine cw_cv (b := z12) (t := 1) (n := 1) (rest := []) (As := [.int (rI z13)]) B mσ14 qσ14 ⟨by decide, by decide⟩ cgo_yX0_valueOf cml_4_134 cin_yX0_valueOf cse_yX0_valueOf (by decide +kernel) (by decide) rfl hl.1.1 (Nat.le_of_ble_eq_true rfl) dX4_head_177 rfl hw (fun h0 H locs cells slots hw => ?_) (fun h0 H locs cells slots q ce hw h1 h2 h3 => ?_)
              · rcases hf with ⟨-, hf⟩ | ⟨hk, -⟩
                · skip
                  refine cl_astore_n (lv' := [(3, cR z16), (0, cR x0), (4, cR x4), (5, cR x5), (6, .int (rI x6))]) hx hb dX4_head_180 rfl hl (by decide) rfl (fun ls hl => ?_)
                  refine cl_null hx hb dX4_head_181 ?_
                  refine cl_astore (lv' := [(4, cR (-1)), (3, cR z16), (0, cR x0), (5, cR x5), (6, .int (rI x6))]) hx hb dX4_head_182 hl (by decide) rfl (fun ls hl => ?_)
                  refine lv_goto (tgt := 291) hx hb dX4_head_184 (by decide) ?_
                  exact pw_X4_head_291 rfl hR htr hd5 B hnh k11 hk11 σ14 x0 z16 (-1) x5 x6 ix0 iz16 ⟨by decide, by decide⟩ ix5 ix6 hf _ _ _ _ _ hw (cl_sub hl [2, 1, 0, 3, 4] rfl)
                · exact absurd h0 hk
              · rcases hf with ⟨hk, -⟩ | ⟨-, hf⟩
                · exact absurd hk h0
                · cases hf
                  exact cw_xout B hnh h0 hw h1 h2 h3
            · exact absurd h0 hk
          · rcases hf with ⟨hk, -⟩ | ⟨-, hf⟩
            · exact absurd hk h0
            · cases hf
              exact cw_xout B hnh h0 hw h1 h2 h3
      · exact absurd h0 hk
    · rcases hf with ⟨hk, -⟩ | ⟨-, hf⟩
      · exact absurd hk h0
      · cases hf
        exact cw_xout B hnh h0 hw h1 h2 h3

set_option maxHeartbeats 4000000 in
set_option maxRecDepth 100000 in
theorem pw_X4_head_11 {v : cwE} {bd : Nat × Nat} {p : Program} {l : Launch} {e : Env} {s : State} {m : MethodId} {args : Array Value} {below : List Frame} {meth : Method} {c : Code} {d : Nat} {rec : Nat → CS → List Int → CO} {σ0 σ' : CS} {kd : Nat} {r : Int} (hbd : bd = (v.2.2.1, v.2.2.2.1)) (hR : cw_Rec l v d rec) (htr : l.stackTraces = false) (hd5 : 5 ≤ d) (B : cw_B v RX4 p s m args meth c cX4_head 9 (some (.object "PureHouse$Head"))) (hnh : ∀ x ∈ c.exceptionTable.toList, False) : ∀ (n : Nat) (σ : CS) (x0 x3 x4 x5 x6 : Int), inR x0 → inR x3 → inR x4 → inR x5 → inR x6 → pc_X4_head_11 rec bd n σ x0 x3 x4 x5 x6 = some (σ', kd, r) → ∀ (H : Heap) (locs : List Loc) (cells slots : Nat) (ls : Array Slot), cw_W v s σ0 σ H locs cells slots → cl_has ls 9 [(0, cR x0), (3, cR x3), (4, cR x4), (5, cR x5), (6, .int (rI x6))] → W p l e (cw_rm v (d + 1) σ0) s m args below meth c H locs cells slots (cw_Z below v σ0 σ' kd (some (cR r)) args s) (F0 m 11 ls []) := by
  subst hbd
  obtain ⟨hx, hb, hr, hml, hown, hts, hlk, hK⟩ := id B
  intro n
  induction n with
  | zero => intro σ x0 x3 x4 x5 x6 ix0 ix3 ix4 ix5 ix6 hf; cases hf
  | succ n ih =>
    intro σ x0 x3 x4 x5 x6 ix0 ix3 ix4 ix5 ix6 hf H locs cells slots ls hw hl
    unfold pc_X4_head_11 at hf
    refine lv_iload hx hb dX4_head_11 (lv_at hl.1 4 rfl) ?_
    refine lv_ldc (v := rI 1000000) hx hb hown (hts _ clc_4_99) dX4_head_13 ?_
    refine rn_icmp_ge (a := x6) (b := 1000000) (tgt := 297) hx hb ix6 ⟨by decide, by decide⟩ dX4_head_15 (by decide) (fun c1 => ?_) (fun c1 => ?_)
    · replace hf := cc_if_t hf c1
      obtain ⟨σ2, z3, eσ2, ez3, iz3, rσ2, hf⟩ := cc_n_s hf
      refine cw_new B hw cwt_2 rfl cwd_2 cnl_4_61 cni_2 cnz_2 rσ2 eσ2 ez3 dX4_head_297 (fun H hw => ?_)
      refine lv_dup hx hb dX4_head_300 (cR_cat _) ?_
      refine cl_aload_n hx hb dX4_head_301 rfl (lv_at hl.1 1 rfl) ?_
      refine cl_aload_n hx hb dX4_head_302 rfl (lv_at hl.1 1 rfl) ?_
      obtain ⟨z4, ez4, iz4, rz4, hf⟩ := cc_g_s hw hf
      refine cw_get (val := .int (rI z4)) B hw rz4 ⟨by decide, by decide⟩ (by decide) cwi_7 cfl_4_116 ez4 rfl dX4_head_303 ?_
      refine cl_aload hx hb dX4_head_306 (lv_at hl.1 2 rfl) ?_
      refine cl_aload hx hb dX4_head_308 (lv_at hl.1 3 rfl) ?_
      obtain ⟨qσ5, hf⟩ := cc_t_s hf
      obtain ⟨σ5, z7, hσ5, hf⟩ := cc_ci_s hf
      obtain ⟨iz7, mσ5⟩ := hR 10 σ2 [z3, x3, z4, x4, x5] σ5 0 z7 hσ5
      have mσ5 : cw_Met l v yX1_init cX1_init 5 none d [cR z3, cR x3, .int (rI z4), cR x4, cR x5] σ2 σ5 0 none := mσ5 iz3 ix3 iz4 ix4 ix5
      refine cw_ci (b := z3) (n := 4) (rest := [cR z3]) (As := [cR x3, .int (rI z4), cR x4, cR x5]) B mσ5 qσ5.1 rfl cgo_yX1_init cml_4_147 cin_yX1_init (by decide +kernel) (by decide) rfl hl.1.1 (cl_cs (cl_1r cl_10) (Nat.le_of_ble_eq_true rfl)) dX4_head_310 rfl hw (fun H locs cells slots hw => ?_)
      exact cw_reta B hf hw dX4_head_313
    · replace hf := cc_if_f hf c1
      refine cl_aload_n hx hb dX4_head_18 rfl (lv_at hl.1 1 rfl) ?_
      obtain ⟨z8, ez8, iz8, rz8, hf⟩ := cc_g_s hw hf
      refine cw_get (val := .int (rI z8)) B hw rz8 ⟨by decide, by decide⟩ (by decide) cwi_7 cfl_4_100 ez8 rfl dX4_head_19 ?_
      refine lv_bipush (v := rI 7) hx hb dX4_head_22 (by decide +kernel) ?_
      refine rn_icmp_ne (a := z8) (b := 7) (tgt := 49) hx hb iz8 ⟨by decide, by decide⟩ dX4_head_24 (by decide) (fun c9 => ?_) (fun c9 => ?_)
      · replace hf := cc_if_t hf c9
        refine cl_aload_n hx hb dX4_head_49 rfl (lv_at hl.1 1 rfl) ?_
        obtain ⟨z10, ez10, iz10, rz10, hf⟩ := cc_g_s hw hf
        refine cw_get (val := .int (rI z10)) B hw rz10 ⟨by decide, by decide⟩ (by decide) cwi_7 cfl_4_100 ez10 rfl dX4_head_50 ?_
        refine lv_bipush (v := rI 6) hx hb dX4_head_53 (by decide +kernel) ?_
        refine rn_icmp_ne (a := z10) (b := 6) (tgt := 88) hx hb iz10 ⟨by decide, by decide⟩ dX4_head_55 (by decide) (fun c11 => ?_) (fun c11 => ?_)
        · replace hf := cc_if_t hf c11
          refine cl_aload_n hx hb dX4_head_88 rfl (lv_at hl.1 1 rfl) ?_
          obtain ⟨z12, ez12, iz12, rz12, hf⟩ := cc_g_s hw hf
          refine cw_get (val := .int (rI z12)) B hw rz12 ⟨by decide, by decide⟩ (by decide) cwi_7 cfl_4_100 ez12 rfl dX4_head_89 ?_
          refine lv_iconst (v := rI 4) hx hb dX4_head_92 rfl ?_
          refine rn_icmp_ne (a := z12) (b := 4) (tgt := 142) hx hb iz12 ⟨by decide, by decide⟩ dX4_head_93 (by decide) (fun c13 => ?_) (fun c13 => ?_)
          · replace hf := cc_if_t hf c13
            exact pw_X4_head_142 rfl hR htr hd5 B hnh (pc_X4_head_11 rec (v.2.2.1, v.2.2.2.1) n) ih σ x0 x3 x4 x5 x6 ix0 ix3 ix4 ix5 ix6 hf _ _ _ _ _ hw (cl_sub hl [0, 1, 2, 3, 4] rfl)
          · replace hf := cc_if_f hf c13
            refine cl_aload hx hb dX4_head_96 (lv_at hl.1 3 rfl) ?_
            refine cl_ifnull (x := x5) (tgt := 142) hx hb dX4_head_98 (by decide) (fun c14 => ?_) (fun c14 => ?_)
            · replace hf := cc_if_t hf c14
              exact pw_X4_head_142 rfl hR htr hd5 B hnh (pc_X4_head_11 rec (v.2.2.1, v.2.2.2.1) n) ih σ x0 x3 x4 x5 x6 ix0 ix3 ix4 ix5 ix6 hf _ _ _ _ _ hw (cl_sub hl [0, 1, 2, 3, 4] rfl)
            · replace hf := cc_if_f hf c14
              refine cl_aload_n hx hb dX4_head_101 rfl (lv_at hl.1 0 rfl) ?_
              refine lv_iconst (v := rI 1) hx hb dX4_head_102 rfl ?_
              obtain ⟨qσ15, hf⟩ := cc_t_s hf
              obtain ⟨σ15, kv16, z17, hσ15, hf⟩ := cc_cl_s hf
              obtain ⟨iz17, mσ15⟩ := hR 48 σ [x0, 1] σ15 kv16 z17 hσ15
              have mσ15 : cw_Met l v yX4_spend cX4_spend 2 none d [cR x0, .int (rI 1)] σ σ15 kv16 none := mσ15 ix0 ⟨by decide, by decide⟩
              refine cw_cv (b := x0) (t := 5) (n := 1) (rest := []) (As := [.int (rI 1)]) B mσ15 qσ15 ⟨by decide, by decide⟩ cgo_yX4_spend cml_4_96 cin_yX4_spend cse_yX4_spend (by decide +kernel) (by decide) rfl hl.1.1 (Nat.le_of_ble_eq_true rfl) dX4_head_103 rfl hw (fun h0 H locs cells slots hw => ?_) (fun h0 H locs cells slots q ce hw h1 h2 h3 => ?_)
              · rcases hf with ⟨-, hf⟩ | ⟨hk, -⟩
                · skip
                  refine cl_aload_n hx hb dX4_head_106 rfl (lv_at hl.1 1 rfl) ?_
                  obtain ⟨z18, ez18, iz18, rz18, hf⟩ := cc_g_s hw hf
                  refine cw_get (val := .int (rI z18)) B hw rz18 ⟨by decide, by decide⟩ (by decide) cwi_7 cfl_4_116 ez18 rfl dX4_head_107 ?_
                  refine cl_aload hx hb dX4_head_110 (lv_at hl.1 3 rfl) ?_
                  obtain ⟨z19, ez19, iz19, rz19, hf⟩ := cc_g_s hw hf
                  refine cw_get (val := cR z19) B hw rz19 ⟨by decide, by decide⟩ (by decide) cwi_4 cfl_4_125 ez19 rfl dX4_head_112 ?_
                  refine cl_aload hx hb dX4_head_115 (lv_at hl.1 3 rfl) ?_
                  obtain ⟨z20, ez20, iz20, rz20, hf⟩ := cc_g_s hw hf
                  refine cw_get (val := cR z20) B hw rz20 ⟨by decide, by decide⟩ (by decide) cwi_4 cfl_4_128 ez20 rfl dX4_head_117 ?_
                  refine cl_aload hx hb dX4_head_120 (lv_at hl.1 2 rfl) ?_
                  obtain ⟨σ21, kv22, z23, hσ21, hf⟩ := cc_cl_s hf
                  obtain ⟨iz23, mσ21⟩ := hR 30 σ15 [z18, z19, z20, x4] σ21 kv22 z23 hσ21
                  have mσ21 : cw_Met l v yX3_put cX3_put 4 (some (.object "PureHouse$Link")) d [.int (rI z18), cR z19, cR z20, cR x4] σ15 σ21 kv22 (some (cR z23)) := mσ21 iz18 iz19 iz20 ix4
                  refine cw_cs (n := 4) (rest := []) (As := [.int (rI z18), cR z19, cR z20, cR x4]) B mσ21 cgo_yX3_put cml_4_119 cst_yX3_put (by decide +kernel) (by decide) rfl hl.1.1 (Nat.le_of_ble_eq_true rfl) dX4_head_122 rfl hw (fun h0 H locs cells slots hw => ?_) (fun h0 H locs cells slots q ce hw h1 h2 h3 => ?_)
                  · rcases hf with ⟨-, hf⟩ | ⟨hk, -⟩
                    · skip
                      refine cl_astore (lv' := [(4, cR z23), (0, cR x0), (3, cR x3), (5, cR x5), (6, .int (rI x6))]) hx hb dX4_head_125 hl (by decide) rfl (fun ls hl => ?_)
                      refine cl_aload hx hb dX4_head_127 (lv_at hl.1 3 rfl) ?_
                      obtain ⟨z24, ez24, iz24, rz24, hf⟩ := cc_g_s hw hf
                      refine cw_get (val := cR z24) B hw rz24 ⟨by decide, by decide⟩ (by decide) cwi_4 cfl_4_131 ez24 rfl dX4_head_129 ?_
                      refine cl_astore (lv' := [(5, cR z24), (4, cR z23), (0, cR x0), (3, cR x3), (6, .int (rI x6))]) hx hb dX4_head_132 hl (by decide) rfl (fun ls hl => ?_)
                      refine cl_aload_n hx hb dX4_head_134 rfl (lv_at hl.1 3 rfl) ?_
                      obtain ⟨z25, ez25, iz25, rz25, hf⟩ := cc_g_s hw hf
                      refine cw_get (val := cR z25) B hw rz25 ⟨by decide, by decide⟩ (by decide) cwi_7 cfl_4_122 ez25 rfl dX4_head_135 ?_
                      refine cl_astore_n (lv' := [(3, cR z25), (5, cR z24), (4, cR z23), (0, cR x0), (6, .int (rI x6))]) hx hb dX4_head_138 rfl hl (by decide) rfl (fun ls hl => ?_)
                      refine lv_goto (tgt := 291) hx hb dX4_head_139 (by decide) ?_
                      exact pw_X4_head_291 rfl hR htr hd5 B hnh (pc_X4_head_11 rec (v.2.2.1, v.2.2.2.1) n) ih σ21 x0 z25 z23 z24 x6 ix0 iz25 iz23 iz24 ix6 hf _ _ _ _ _ hw (cl_sub hl [3, 0, 2, 1, 4] rfl)
                    · exact absurd h0 hk
                  · rcases hf with ⟨hk, -⟩ | ⟨-, hf⟩
                    · exact absurd hk h0
                    · cases hf
                      exact cw_xout B hnh h0 hw h1 h2 h3
                · exact absurd h0 hk
              · rcases hf with ⟨hk, -⟩ | ⟨-, hf⟩
                · exact absurd hk h0
                · cases hf
                  exact cw_xout B hnh h0 hw h1 h2 h3
        · replace hf := cc_if_f hf c11
          refine cl_aload_n hx hb dX4_head_58 rfl (lv_at hl.1 0 rfl) ?_
          refine lv_iconst (v := rI 3) hx hb dX4_head_59 rfl ?_
          obtain ⟨qσ26, hf⟩ := cc_t_s hf
          obtain ⟨σ26, kv27, z28, hσ26, hf⟩ := cc_cl_s hf
          obtain ⟨iz28, mσ26⟩ := hR 48 σ [x0, 3] σ26 kv27 z28 hσ26
          have mσ26 : cw_Met l v yX4_spend cX4_spend 2 none d [cR x0, .int (rI 3)] σ σ26 kv27 none := mσ26 ix0 ⟨by decide, by decide⟩
          refine cw_cv (b := x0) (t := 5) (n := 1) (rest := []) (As := [.int (rI 3)]) B mσ26 qσ26 ⟨by decide, by decide⟩ cgo_yX4_spend cml_4_96 cin_yX4_spend cse_yX4_spend (by decide +kernel) (by decide) rfl hl.1.1 (Nat.le_of_ble_eq_true rfl) dX4_head_60 rfl hw (fun h0 H locs cells slots hw => ?_) (fun h0 H locs cells slots q ce hw h1 h2 h3 => ?_)
          · rcases hf with ⟨-, hf⟩ | ⟨hk, -⟩
            · skip
              refine cl_aload_n hx hb dX4_head_63 rfl (lv_at hl.1 1 rfl) ?_
              obtain ⟨z29, ez29, iz29, rz29, hf⟩ := cc_g_s hw hf
              refine cw_get (val := .int (rI z29)) B hw rz29 ⟨by decide, by decide⟩ (by decide) cwi_7 cfl_4_116 ez29 rfl dX4_head_64 ?_
              refine cl_aload_n hx hb dX4_head_67 rfl (lv_at hl.1 1 rfl) ?_
              obtain ⟨z30, ez30, iz30, rz30, hf⟩ := cc_g_s hw hf
              refine cw_get (val := cR z30) B hw rz30 ⟨by decide, by decide⟩ (by decide) cwi_7 cfl_4_112 ez30 rfl dX4_head_68 ?_
              refine cl_aload hx hb dX4_head_71 (lv_at hl.1 2 rfl) ?_
              refine cl_aload hx hb dX4_head_73 (lv_at hl.1 2 rfl) ?_
              obtain ⟨σ31, kv32, z33, hσ31, hf⟩ := cc_cl_s hf
              obtain ⟨iz33, mσ31⟩ := hR 30 σ26 [z29, z30, x4, x4] σ31 kv32 z33 hσ31
              have mσ31 : cw_Met l v yX3_put cX3_put 4 (some (.object "PureHouse$Link")) d [.int (rI z29), cR z30, cR x4, cR x4] σ26 σ31 kv32 (some (cR z33)) := mσ31 iz29 iz30 ix4 ix4
              refine cw_cs (n := 4) (rest := []) (As := [.int (rI z29), cR z30, cR x4, cR x4]) B mσ31 cgo_yX3_put cml_4_119 cst_yX3_put (by decide +kernel) (by decide) rfl hl.1.1 (Nat.le_of_ble_eq_true rfl) dX4_head_75 rfl hw (fun h0 H locs cells slots hw => ?_) (fun h0 H locs cells slots q ce hw h1 h2 h3 => ?_)
              · rcases hf with ⟨-, hf⟩ | ⟨hk, -⟩
                · skip
                  refine cl_astore (lv' := [(4, cR z33), (0, cR x0), (3, cR x3), (5, cR x5), (6, .int (rI x6))]) hx hb dX4_head_78 hl (by decide) rfl (fun ls hl => ?_)
                  refine cl_aload_n hx hb dX4_head_80 rfl (lv_at hl.1 2 rfl) ?_
                  obtain ⟨z34, ez34, iz34, rz34, hf⟩ := cc_g_s hw hf
                  refine cw_get (val := cR z34) B hw rz34 ⟨by decide, by decide⟩ (by decide) cwi_7 cfl_4_122 ez34 rfl dX4_head_81 ?_
                  refine cl_astore_n (lv' := [(3, cR z34), (4, cR z33), (0, cR x0), (5, cR x5), (6, .int (rI x6))]) hx hb dX4_head_84 rfl hl (by decide) rfl (fun ls hl => ?_)
                  refine lv_goto (tgt := 291) hx hb dX4_head_85 (by decide) ?_
                  exact pw_X4_head_291 rfl hR htr hd5 B hnh (pc_X4_head_11 rec (v.2.2.1, v.2.2.2.1) n) ih σ31 x0 z34 z33 x5 x6 ix0 iz34 iz33 ix5 ix6 hf _ _ _ _ _ hw (cl_sub hl [2, 0, 1, 3, 4] rfl)
                · exact absurd h0 hk
              · rcases hf with ⟨hk, -⟩ | ⟨-, hf⟩
                · exact absurd hk h0
                · cases hf
                  exact cw_xout B hnh h0 hw h1 h2 h3
            · exact absurd h0 hk
          · rcases hf with ⟨hk, -⟩ | ⟨-, hf⟩
            · exact absurd hk h0
            · cases hf
              exact cw_xout B hnh h0 hw h1 h2 h3
      · replace hf := cc_if_f hf c9
        refine cl_aload_n hx hb dX4_head_27 rfl (lv_at hl.1 0 rfl) ?_
        refine cl_aload_n hx hb dX4_head_28 rfl (lv_at hl.1 1 rfl) ?_
        obtain ⟨z35, ez35, iz35, rz35, hf⟩ := cc_g_s hw hf
        refine cw_get (val := cR z35) B hw rz35 ⟨by decide, by decide⟩ (by decide) cwi_7 cfl_4_105 ez35 rfl dX4_head_29 ?_
        refine cl_aload hx hb dX4_head_32 (lv_at hl.1 2 rfl) ?_
        refine cl_aload hx hb dX4_head_34 (lv_at hl.1 3 rfl) ?_
        obtain ⟨qσ36, hf⟩ := cc_t_s hf
        obtain ⟨σ36, kv37, z38, hσ36, hf⟩ := cc_cl_s hf
        obtain ⟨iz38, mσ36⟩ := hR 40 σ [x0, z35, x4, x5] σ36 kv37 z38 hσ36
        have mσ36 : cw_Met l v yX4_pushParts cX4_pushParts 6 (some (.object "PureHouse$Link")) d [cR x0, cR z35, cR x4, cR x5] σ σ36 kv37 (some (cR z38)) := mσ36 ix0 iz35 ix4 ix5
        refine cw_cv (b := x0) (t := 5) (n := 3) (rest := []) (As := [cR z35, cR x4, cR x5]) B mσ36 qσ36 ⟨by decide, by decide⟩ cgo_yX4_pushParts cml_4_108 cin_yX4_pushParts cse_yX4_pushParts (by decide +kernel) (by decide) rfl hl.1.1 (Nat.le_of_ble_eq_true rfl) dX4_head_36 rfl hw (fun h0 H locs cells slots hw => ?_) (fun h0 H locs cells slots q ce hw h1 h2 h3 => ?_)
        · rcases hf with ⟨-, hf⟩ | ⟨hk, -⟩
          · skip
            refine cl_astore (lv' := [(5, cR z38), (0, cR x0), (3, cR x3), (4, cR x4), (6, .int (rI x6))]) hx hb dX4_head_39 hl (by decide) rfl (fun ls hl => ?_)
            refine cl_aload_n hx hb dX4_head_41 rfl (lv_at hl.1 2 rfl) ?_
            obtain ⟨z39, ez39, iz39, rz39, hf⟩ := cc_g_s hw hf
            refine cw_get (val := cR z39) B hw rz39 ⟨by decide, by decide⟩ (by decide) cwi_7 cfl_4_112 ez39 rfl dX4_head_42 ?_
            refine cl_astore_n (lv' := [(3, cR z39), (5, cR z38), (0, cR x0), (4, cR x4), (6, .int (rI x6))]) hx hb dX4_head_45 rfl hl (by decide) rfl (fun ls hl => ?_)
            refine lv_goto (tgt := 291) hx hb dX4_head_46 (by decide) ?_
            exact pw_X4_head_291 rfl hR htr hd5 B hnh (pc_X4_head_11 rec (v.2.2.1, v.2.2.2.1) n) ih σ36 x0 z39 x4 z38 x6 ix0 iz39 ix4 iz38 ix6 hf _ _ _ _ _ hw (cl_sub hl [2, 0, 3, 1, 4] rfl)
          · exact absurd h0 hk
        · rcases hf with ⟨hk, -⟩ | ⟨-, hf⟩
          · exact absurd hk h0
          · cases hf
            exact cw_xout B hnh h0 hw h1 h2 h3

set_option maxHeartbeats 4000000 in
set_option maxRecDepth 100000 in
theorem pw_X4_head_0 {v : cwE} {bd : Nat × Nat} {p : Program} {l : Launch} {e : Env} {s : State} {m : MethodId} {args : Array Value} {below : List Frame} {meth : Method} {c : Code} {d : Nat} {rec : Nat → CS → List Int → CO} {σ0 σ' : CS} {kd : Nat} {r : Int} (hbd : bd = (v.2.2.1, v.2.2.2.1)) (hR : cw_Rec l v d rec) (htr : l.stackTraces = false) (hd5 : 5 ≤ d) (B : cw_B v RX4 p s m args meth c cX4_head 9 (some (.object "PureHouse$Head"))) (hnh : ∀ x ∈ c.exceptionTable.toList, False) : ∀ (σ : CS) (x0 x1 x2 : Int), inR x0 → inR x1 → inR x2 → pc_X4_head_0 rec bd σ x0 x1 x2 = some (σ', kd, r) → ∀ (H : Heap) (locs : List Loc) (cells slots : Nat) (ls : Array Slot), cw_W v s σ0 σ H locs cells slots → cl_has ls 9 [(0, cR x0), (1, cR x1), (2, cR x2)] → W p l e (cw_rm v (d + 1) σ0) s m args below meth c H locs cells slots (cw_Z below v σ0 σ' kd (some (cR r)) args s) (F0 m 0 ls []) := by
  subst hbd
  obtain ⟨hx, hb, hr, hml, hown, hts, hlk, hK⟩ := id B
  intro σ x0 x1 x2 ix0 ix1 ix2 hf H locs cells slots ls hw hl
  unfold pc_X4_head_0 at hf
  refine cl_aload_n hx hb dX4_head_0 rfl (lv_at hl.1 1 rfl) ?_
  refine cl_astore_n (lv' := [(3, cR x1), (0, cR x0), (1, cR x1), (2, cR x2)]) hx hb dX4_head_1 rfl hl (by decide) rfl (fun ls hl => ?_)
  refine cl_aload_n hx hb dX4_head_2 rfl (lv_at hl.1 3 rfl) ?_
  refine cl_astore (lv' := [(4, cR x2), (3, cR x1), (0, cR x0), (1, cR x1), (2, cR x2)]) hx hb dX4_head_3 hl (by decide) rfl (fun ls hl => ?_)
  refine cl_null hx hb dX4_head_5 ?_
  refine cl_astore (lv' := [(5, cR (-1)), (4, cR x2), (3, cR x1), (0, cR x0), (1, cR x1), (2, cR x2)]) hx hb dX4_head_6 hl (by decide) rfl (fun ls hl => ?_)
  refine lv_iconst (v := rI 0) hx hb dX4_head_8 rfl ?_
  refine cl_istore (lv' := [(6, .int (rI 0)), (5, cR (-1)), (4, cR x2), (3, cR x1), (0, cR x0), (1, cR x1), (2, cR x2)]) hx hb dX4_head_9 hl (by decide) rfl (fun ls hl => ?_)
  exact pw_X4_head_11 rfl hR htr hd5 B hnh 1100000 σ x0 x1 x2 (-1) 0 ix0 ix1 ix2 ⟨by decide, by decide⟩ ⟨by decide, by decide⟩ hf _ _ _ _ _ hw (cl_sub hl [4, 3, 2, 1, 0] rfl)

set_option maxHeartbeats 4000000 in
set_option maxRecDepth 100000 in
theorem pm_X4_head {v : cwE} {bd : Nat × Nat} {l : Launch} {d : Nat} {rec : Nat → CS → List Int → CO} (hbd : bd = (v.2.2.1, v.2.2.2.1)) (hR : cw_Rec l v d rec) (htr : l.stackTraces = false) (hd5 : 5 ≤ d) (σ σ' : CS) (x0 x1 x2 : Int) (kd : Nat) (r : Int) (ix0 : inR x0) (ix1 : inR x1) (ix2 : inR x2) (hf : pc_X4_head_0 rec bd σ x0 x1 x2 = some (σ', kd, r)) : cw_Met l v yX4_head cX4_head 9 (some (.object "PureHouse$Head")) (d + 1) [cR x0, cR x1, cR x2] σ σ' kd (some (cR r)) := by
  refine cw_ofW (by decide +kernel) ?_
  intro p e s m args below meth c s₁ B hml hv
  obtain ⟨rfl, hM, hK⟩ := hv
  have hts := atoms_spec (ws := Cond.code yX4_head cX4_head 9 (some (.object "PureHouse$Head")) :: cw_bw) B.pre
  have hB : cw_B v RX4 p s m _ meth c cX4_head 9 (some (.object "PureHouse$Head")) := ⟨B.exec, B.bytes, B.returns, hml, findClass_of_methodNamed B.named, fun w h => hts w (List.mem_cons_of_mem _ h), B.notSynchronized, hK⟩
  have hnh := cc_nh B (hts _ List.mem_cons_self)
  rw [lg_entry_eq]
  obtain ⟨ls, hls, hl⟩ := cl_ent [cR x0, cR x1, cR x2] 9 (cl_1r (cl_1r (cl_1r cl_10))) (Nat.le_of_ble_eq_true rfl)
  rw [hls]
  exact pw_X4_head_0 hbd hR htr hd5 hB hnh σ x0 x1 x2 ix0 ix1 ix2 hf _ _ _ _ _ (cw_W0 hM) (cl_sub hl [0, 1, 2] rfl)

set_option maxHeartbeats 4000000 in
set_option maxRecDepth 100000 in
theorem pw_X4_init_0 {v : cwE} {bd : Nat × Nat} {p : Program} {l : Launch} {e : Env} {s : State} {m : MethodId} {args : Array Value} {below : List Frame} {meth : Method} {c : Code} {d : Nat} {rec : Nat → CS → List Int → CO} {σ0 σ' : CS} {kd : Nat} {r : Int} (hbd : bd = (v.2.2.1, v.2.2.2.1)) (hR : cw_Rec l v d rec) (htr : l.stackTraces = false) (hd5 : 5 ≤ d) (B : cw_B v RX4 p s m args meth c cX4_init 3 none) (hin : meth.name = "<init>") (hnh : ∀ x ∈ c.exceptionTable.toList, False) : ∀ (σ : CS) (x0 x1 x2 : Int), inR x0 → inR x1 → inR x2 → pc_X4_init_0 rec bd σ x0 x1 x2 = some (σ', kd, r) → ∀ (H : Heap) (locs : List Loc) (cells slots : Nat) (ls : Array Slot), cw_W v s σ0 σ H locs cells slots → cl_has ls 3 [(0, cR x0), (1, cR x1), (2, cR x2)] → W p l e (cw_rm v (d + 1) σ0) s m args below meth c H locs cells slots (cw_Z below v σ0 σ' kd none args s) (F0 m 0 ls []) := by
  subst hbd
  obtain ⟨hx, hb, hr, hml, hown, hts, hlk, hK⟩ := id B
  intro σ x0 x1 x2 ix0 ix1 ix2 hf H locs cells slots ls hw hl
  unfold pc_X4_init_0 at hf
  refine cl_aload_n hx hb dX4_init_0 rfl (lv_at hl.1 0 rfl) ?_
  obtain ⟨q0, hf⟩ := cc_t_s hf
  rw [cR_r q0.1]
  refine W.objInit hx hb hown (hts _ coi_4_3) (hts _ coi2) (hts _ coi3) rfl (hl.1.1.trans hml.symm) rfl dX4_init_1 (by show 1 ≤ d + 1; omega) (by show _ + 12 ≤ 100 * (d + 1); simp [JFrame.monitorRoom]; omega) ?_
  refine cl_aload_n hx hb dX4_init_4 rfl (lv_at hl.1 0 rfl) ?_
  refine lv_bipush (v := rI 7) hx hb dX4_init_5 (by decide +kernel) ?_
  obtain ⟨σ1, z2, eσ1, ez2, iz2, qσ1, rσ1, hf⟩ := cc_na_s hf
  refine cw_newa (t := 21) B hw (Or.inr ⟨rfl, rfl⟩) cac_int ⟨by decide, by decide⟩ qσ1.1 qσ1.2 rσ1 eσ1 ez2 dX4_init_7 (fun H hw => ?_)
  obtain ⟨σ3, eσ3, rσ3, hf⟩ := cc_p_s hf
  refine cw_putF B hin hw rσ3 cwt_5 (by decide) rfl rfl rfl cfl_4_9 iz2 eσ3 rfl (cw_fv_r rfl (Or.inr ⟨_, rfl⟩)) dX4_init_9 (fun H locs hw => ?_)
  refine cl_aload_n hx hb dX4_init_12 rfl (lv_at hl.1 0 rfl) ?_
  refine lv_iconst (v := rI 0) hx hb dX4_init_13 rfl ?_
  obtain ⟨σ4, eσ4, rσ4, hf⟩ := cc_p_s hf
  refine cw_put B hw rσ4 cwt_5 (by decide) rfl cfl_4_15 ⟨by decide, by decide⟩ eσ4 rfl (cw_fv_n rfl rfl) dX4_init_14 (fun H locs hw => ?_)
  refine cl_aload_n hx hb dX4_init_17 rfl (lv_at hl.1 0 rfl) ?_
  refine lv_sipush (v := rI 5000) hx hb dX4_init_18 (by decide +kernel) ?_
  obtain ⟨σ5, eσ5, rσ5, hf⟩ := cc_p_s hf
  refine cw_put B hw rσ5 cwt_5 (by decide) rfl cfl_4_19 ⟨by decide, by decide⟩ eσ5 rfl (cw_fv_n rfl rfl) dX4_init_21 (fun H locs hw => ?_)
  refine cl_aload_n hx hb dX4_init_24 rfl (lv_at hl.1 0 rfl) ?_
  refine lv_iconst (v := rI 0) hx hb dX4_init_25 rfl ?_
  obtain ⟨σ6, eσ6, rσ6, hf⟩ := cc_p_s hf
  refine cw_put B hw rσ6 cwt_5 (by decide) rfl cfl_4_22 ⟨by decide, by decide⟩ eσ6 rfl (cw_fv_n rfl rfl) dX4_init_26 (fun H locs hw => ?_)
  refine cl_aload_n hx hb dX4_init_29 rfl (lv_at hl.1 0 rfl) ?_
  refine lv_sipush (v := rI 3000) hx hb dX4_init_30 (by decide +kernel) ?_
  obtain ⟨σ7, z8, eσ7, ez8, iz8, qσ7, rσ7, hf⟩ := cc_na_s hf
  refine cw_newa (t := 20) B hw (Or.inl ⟨rfl, rfl⟩) cac_byte ⟨by decide, by decide⟩ qσ7.1 qσ7.2 rσ7 eσ7 ez8 dX4_init_33 (fun H hw => ?_)
  obtain ⟨σ9, eσ9, rσ9, hf⟩ := cc_p_s hf
  refine cw_putF B hin hw rσ9 cwt_5 (by decide) rfl rfl rfl cfl_4_25 iz8 eσ9 rfl (cw_fv_r rfl (Or.inr ⟨_, rfl⟩)) dX4_init_35 (fun H locs hw => ?_)
  refine cl_aload_n hx hb dX4_init_38 rfl (lv_at hl.1 0 rfl) ?_
  refine lv_iconst (v := rI 0) hx hb dX4_init_39 rfl ?_
  obtain ⟨σ10, eσ10, rσ10, hf⟩ := cc_p_s hf
  refine cw_put B hw rσ10 cwt_5 (by decide) rfl cfl_4_29 ⟨by decide, by decide⟩ eσ10 rfl (cw_fv_n rfl rfl) dX4_init_40 (fun H locs hw => ?_)
  refine cl_aload_n hx hb dX4_init_43 rfl (lv_at hl.1 0 rfl) ?_
  refine cl_aload_n hx hb dX4_init_44 rfl (lv_at hl.1 1 rfl) ?_
  obtain ⟨σ11, eσ11, rσ11, hf⟩ := cc_p_s hf
  refine cw_putF B hin hw rσ11 cwt_5 (by decide) rfl rfl rfl cfl_4_32 ix1 eσ11 rfl (cw_fv_r rfl (Or.inl ⟨_, rfl⟩)) dX4_init_45 (fun H locs hw => ?_)
  refine cl_aload_n hx hb dX4_init_48 rfl (lv_at hl.1 0 rfl) ?_
  refine cl_aload_n hx hb dX4_init_49 rfl (lv_at hl.1 2 rfl) ?_
  obtain ⟨σ12, eσ12, rσ12, hf⟩ := cc_p_s hf
  refine cw_putF B hin hw rσ12 cwt_5 (by decide) rfl rfl rfl cfl_4_36 ix2 eσ12 rfl (cw_fv_r rfl (Or.inl ⟨_, rfl⟩)) dX4_init_50 (fun H locs hw => ?_)
  exact cw_retv B hf hw dX4_init_53

set_option maxHeartbeats 4000000 in
set_option maxRecDepth 100000 in
theorem pm_X4_init {v : cwE} {bd : Nat × Nat} {l : Launch} {d : Nat} {rec : Nat → CS → List Int → CO} (hbd : bd = (v.2.2.1, v.2.2.2.1)) (hR : cw_Rec l v d rec) (htr : l.stackTraces = false) (hd5 : 5 ≤ d) (σ σ' : CS) (x0 x1 x2 : Int) (kd : Nat) (r : Int) (ix0 : inR x0) (ix1 : inR x1) (ix2 : inR x2) (hf : pc_X4_init_0 rec bd σ x0 x1 x2 = some (σ', kd, r)) : cw_Met l v yX4_init cX4_init 3 none (d + 1) [cR x0, cR x1, cR x2] σ σ' kd none := by
  refine cw_ofW (by decide +kernel) ?_
  intro p e s m args below meth c s₁ B hml hv
  obtain ⟨rfl, hM, hK⟩ := hv
  have hts := atoms_spec (ws := Cond.code yX4_init cX4_init 3 none :: cw_bw) B.pre
  have hB : cw_B v RX4 p s m _ meth c cX4_init 3 none := ⟨B.exec, B.bytes, B.returns, hml, findClass_of_methodNamed B.named, fun w h => hts w (List.mem_cons_of_mem _ h), B.notSynchronized, hK⟩
  have hnh := cc_nh B (hts _ List.mem_cons_self)
  rw [lg_entry_eq]
  obtain ⟨ls, hls, hl⟩ := cl_ent [cR x0, cR x1, cR x2] 3 (cl_1r (cl_1r (cl_1r cl_10))) (Nat.le_of_ble_eq_true rfl)
  rw [hls]
  exact pw_X4_init_0 hbd hR htr hd5 hB (name_of_methodNamed B.named B.method).1 hnh σ x0 x1 x2 ix0 ix1 ix2 hf _ _ _ _ _ (cw_W0 hM) (cl_sub hl [0, 1, 2] rfl)

set_option maxHeartbeats 4000000 in
set_option maxRecDepth 100000 in
theorem pw_X4_look_41 {v : cwE} {bd : Nat × Nat} {p : Program} {l : Launch} {e : Env} {s : State} {m : MethodId} {args : Array Value} {below : List Frame} {meth : Method} {c : Code} {d : Nat} {rec : Nat → CS → List Int → CO} {σ0 σ' : CS} {kd : Nat} {r : Int} (hbd : bd = (v.2.2.1, v.2.2.2.1)) (hR : cw_Rec l v d rec) (htr : l.stackTraces = false) (hd5 : 5 ≤ d) (B : cw_B v RX4 p s m args meth c cX4_look 2 none) (hnh : ∀ x ∈ c.exceptionTable.toList, False) : ∀ (σ : CS) (x0 : Int), inR x0 → pc_X4_look_41 rec bd σ x0 = some (σ', kd, r) → ∀ (H : Heap) (locs : List Loc) (cells slots : Nat) (ls : Array Slot), cw_W v s σ0 σ H locs cells slots → cl_has ls 2 [(0, cR x0)] → W p l e (cw_rm v (d + 1) σ0) s m args below meth c H locs cells slots (cw_Z below v σ0 σ' kd none args s) (F0 m 41 ls []) := by
  subst hbd
  obtain ⟨hx, hb, hr, hml, hown, hts, hlk, hK⟩ := id B
  intro σ x0 ix0 hf H locs cells slots ls hw hl
  unfold pc_X4_look_41 at hf
  refine cl_aload_n hx hb dX4_look_41 rfl (lv_at hl.1 0 rfl) ?_
  obtain ⟨z1, ez1, iz1, rz1, hf⟩ := cc_g_s hw hf
  refine cw_get (val := cR z1) B hw rz1 ⟨by decide, by decide⟩ (by decide) cwi_5 cfl_4_36 ez1 rfl dX4_look_42 ?_
  refine lv_bipush (v := rI 13) hx hb dX4_look_45 (by decide +kernel) ?_
  refine cl_aload_n hx hb dX4_look_47 rfl (lv_at hl.1 0 rfl) ?_
  obtain ⟨z2, ez2, iz2, rz2, hf⟩ := cc_g_s hw hf
  refine cw_get (val := .int (rI z2)) B hw rz2 ⟨by decide, by decide⟩ (by decide) cwi_5 cfl_4_22 ez2 rfl dX4_look_48 ?_
  obtain ⟨qσ3, hf⟩ := cc_t_s hf
  obtain ⟨σ3, kv4, z5, hσ3, hf⟩ := cc_cl_s hf
  obtain ⟨iz5, mσ3⟩ := hR 95 σ [z1, 13, z2] σ3 kv4 z5 hσ3
  have mσ3 : cw_Met l v yX10_set cX10_set 3 none d [cR z1, .int (rI 13), .int (rI z2)] σ σ3 kv4 none := mσ3 iz1 ⟨by decide, by decide⟩ iz2
  refine cw_cv (b := z1) (t := 11) (n := 2) (rest := []) (As := [.int (rI 13), .int (rI z2)]) B mσ3 qσ3 ⟨by decide, by decide⟩ cgo_yX10_set cml_4_83 cin_yX10_set cse_yX10_set (by decide +kernel) (by decide) rfl hl.1.1 (Nat.le_of_ble_eq_true rfl) dX4_look_51 rfl hw (fun h0 H locs cells slots hw => ?_) (fun h0 H locs cells slots q ce hw h1 h2 h3 => ?_)
  · rcases hf with ⟨-, hf⟩ | ⟨hk, -⟩
    · skip
      obtain ⟨hy, hm⟩ := cc_x_s hf
      obtain ⟨hy1, hy2⟩ := Prod.mk.inj hy
      obtain ⟨hy2, hy3⟩ := Prod.mk.inj hy2
      subst hy2
      refine cw_throw (rest := []) B hnh htr hw (by decide) (by decide +kernel) cxc_4_89 cxi_1 (cw_hat cxa_4_91 (by decide +kernel) hts hK.1) (List.all_eq_true.mp cxg_4_91) hd5 hm hy1 hl.1.1 (Nat.le_of_ble_eq_true rfl) dX4_look_54 dX4_look_57 dX4_look_58 dX4_look_61
    · exact absurd h0 hk
  · rcases hf with ⟨hk, -⟩ | ⟨-, hf⟩
    · exact absurd hk h0
    · cases hf
      exact cw_xout B hnh h0 hw h1 h2 h3

set_option maxHeartbeats 4000000 in
set_option maxRecDepth 100000 in
theorem pw_X4_look_0 {v : cwE} {bd : Nat × Nat} {p : Program} {l : Launch} {e : Env} {s : State} {m : MethodId} {args : Array Value} {below : List Frame} {meth : Method} {c : Code} {d : Nat} {rec : Nat → CS → List Int → CO} {σ0 σ' : CS} {kd : Nat} {r : Int} (hbd : bd = (v.2.2.1, v.2.2.2.1)) (hR : cw_Rec l v d rec) (htr : l.stackTraces = false) (hd5 : 5 ≤ d) (B : cw_B v RX4 p s m args meth c cX4_look 2 none) (hnh : ∀ x ∈ c.exceptionTable.toList, False) : ∀ (σ : CS) (x0 x1 : Int), inR x0 → inR x1 → pc_X4_look_0 rec bd σ x0 x1 = some (σ', kd, r) → ∀ (H : Heap) (locs : List Loc) (cells slots : Nat) (ls : Array Slot), cw_W v s σ0 σ H locs cells slots → cl_has ls 2 [(0, cR x0), (1, .int (rI x1))] → W p l e (cw_rm v (d + 1) σ0) s m args below meth c H locs cells slots (cw_Z below v σ0 σ' kd none args s) (F0 m 0 ls []) := by
  subst hbd
  obtain ⟨hx, hb, hr, hml, hown, hts, hlk, hK⟩ := id B
  intro σ x0 x1 ix0 ix1 hf H locs cells slots ls hw hl
  unfold pc_X4_look_0 at hf
  refine lv_iload_n hx hb dX4_look_0 rfl (lv_at hl.1 1 rfl) ?_
  refine lv_bipush (v := rI 100) hx hb dX4_look_1 (by decide +kernel) ?_
  refine rn_icmp_ge (a := x1) (b := 100) (tgt := 13) hx hb ix1 ⟨by decide, by decide⟩ dX4_look_3 (by decide) (fun c1 => ?_) (fun c1 => ?_)
  · replace hf := cc_if_t hf c1
    refine cl_aload_n hx hb dX4_look_13 rfl (lv_at hl.1 0 rfl) ?_
    obtain ⟨z2, ez2, iz2, rz2, hf⟩ := cc_g_s hw hf
    refine cw_get (val := cR z2) B hw rz2 ⟨by decide, by decide⟩ (by decide) cwi_5 cfl_4_9 ez2 rfl dX4_look_14 ?_
    refine lv_iconst (v := rI 0) hx hb dX4_look_17 rfl ?_
    obtain ⟨z3, ez3, iz3, rz3, bz3, hf⟩ := cc_r_s hw hf
    refine cw_aldI B hw rz3 ⟨by decide, by decide⟩ bz3 ez3 dX4_look_18 ?_
    refine cl_aload_n hx hb dX4_look_19 rfl (lv_at hl.1 0 rfl) ?_
    obtain ⟨z4, ez4, iz4, rz4, hf⟩ := cc_g_s hw hf
    refine cw_get (val := .int (rI z4)) B hw rz4 ⟨by decide, by decide⟩ (by decide) cwi_5 cfl_4_19 ez4 rfl dX4_look_20 ?_
    refine rn_icmp_ge (a := z3) (b := z4) (tgt := 41) hx hb iz3 iz4 dX4_look_23 (by decide) (fun c5 => ?_) (fun c5 => ?_)
    · replace hf := cc_if_t hf c5
      exact pw_X4_look_41 rfl hR htr hd5 B hnh σ x0 ix0 hf _ _ _ _ _ hw (cl_sub hl [0] rfl)
    · replace hf := cc_if_f hf c5
      refine cl_aload_n hx hb dX4_look_26 rfl (lv_at hl.1 0 rfl) ?_
      obtain ⟨z6, ez6, iz6, rz6, hf⟩ := cc_g_s hw hf
      refine cw_get (val := .int (rI z6)) B hw rz6 ⟨by decide, by decide⟩ (by decide) cwi_5 cfl_4_15 ez6 rfl dX4_look_27 ?_
      refine lv_ldc (v := rI 60000) hx hb hown (hts _ clc_4_92) dX4_look_30 ?_
      refine rn_icmp_ge (a := z6) (b := 60000) (tgt := 41) hx hb iz6 ⟨by decide, by decide⟩ dX4_look_32 (by decide) (fun c7 => ?_) (fun c7 => ?_)
      · replace hf := cc_if_t hf c7
        exact pw_X4_look_41 rfl hR htr hd5 B hnh σ x0 ix0 hf _ _ _ _ _ hw (cl_sub hl [0] rfl)
      · replace hf := cc_if_f hf c7
        refine cl_aload_n hx hb dX4_look_35 rfl (lv_at hl.1 0 rfl) ?_
        refine lv_bipush (v := rI 6) hx hb dX4_look_36 (by decide +kernel) ?_
        obtain ⟨qσ8, hf⟩ := cc_t_s hf
        obtain ⟨σ8, kv9, z10, hσ8, hf⟩ := cc_cl_s hf
        obtain ⟨iz10, mσ8⟩ := hR 47 σ [x0, 6] σ8 kv9 z10 hσ8
        have mσ8 : cw_Met l v yX4_record cX4_record 2 none d [cR x0, .int (rI 6)] σ σ8 kv9 none := mσ8 ix0 ⟨by decide, by decide⟩
        refine cw_cv (b := x0) (t := 5) (n := 1) (rest := []) (As := [.int (rI 6)]) B mσ8 qσ8 ⟨by decide, by decide⟩ cgo_yX4_record cml_4_93 cin_yX4_record cse_yX4_record (by decide +kernel) (by decide) rfl hl.1.1 (Nat.le_of_ble_eq_true rfl) dX4_look_38 rfl hw (fun h0 H locs cells slots hw => ?_) (fun h0 H locs cells slots q ce hw h1 h2 h3 => ?_)
        · rcases hf with ⟨-, hf⟩ | ⟨hk, -⟩
          · skip
            exact pw_X4_look_41 rfl hR htr hd5 B hnh σ8 x0 ix0 hf _ _ _ _ _ hw (cl_sub hl [0] rfl)
          · exact absurd h0 hk
        · rcases hf with ⟨hk, -⟩ | ⟨-, hf⟩
          · exact absurd hk h0
          · cases hf
            exact cw_xout B hnh h0 hw h1 h2 h3
  · replace hf := cc_if_f hf c1
    refine cl_aload_n hx hb dX4_look_6 rfl (lv_at hl.1 0 rfl) ?_
    refine lv_bipush (v := rI 6) hx hb dX4_look_7 (by decide +kernel) ?_
    obtain ⟨qσ11, hf⟩ := cc_t_s hf
    obtain ⟨σ11, kv12, z13, hσ11, hf⟩ := cc_cl_s hf
    obtain ⟨iz13, mσ11⟩ := hR 48 σ [x0, 6] σ11 kv12 z13 hσ11
    have mσ11 : cw_Met l v yX4_spend cX4_spend 2 none d [cR x0, .int (rI 6)] σ σ11 kv12 none := mσ11 ix0 ⟨by decide, by decide⟩
    refine cw_cv (b := x0) (t := 5) (n := 1) (rest := []) (As := [.int (rI 6)]) B mσ11 qσ11 ⟨by decide, by decide⟩ cgo_yX4_spend cml_4_96 cin_yX4_spend cse_yX4_spend (by decide +kernel) (by decide) rfl hl.1.1 (Nat.le_of_ble_eq_true rfl) dX4_look_9 rfl hw (fun h0 H locs cells slots hw => ?_) (fun h0 H locs cells slots q ce hw h1 h2 h3 => ?_)
    · rcases hf with ⟨-, hf⟩ | ⟨hk, -⟩
      · skip
        exact cw_retv B hf hw dX4_look_12
      · exact absurd h0 hk
    · rcases hf with ⟨hk, -⟩ | ⟨-, hf⟩
      · exact absurd hk h0
      · cases hf
        exact cw_xout B hnh h0 hw h1 h2 h3

