set_option maxHeartbeats 4000000 in
set_option maxRecDepth 100000 in
theorem pm_X11_tellTypeOf {v : cwE} {bd : cBd} {l : Launch} {d : Nat} {rec : Nat → CS → List Int → CO} (hbd : bd = cw_bd v) (hR : cw_Rec l v d rec) (htr : l.stackTraces = false) (hd5 : 5 ≤ d) (σ σ' : CS) (x0 x1 : Int) (kd : Nat) (r : Int) (ix0 : inR x0) (ix1 : inR x1) (hf : pc_X11_tellTypeOf_0 rec bd σ x0 x1 = some (σ', kd, r)) : cw_MetW l v yX11_tellTypeOf cX11_tellTypeOf 3 (some .int) [(16, 24, 27, 158)] (d + 1) [cR x0, cR x1] σ σ' kd (some (.int (rI r))) := by
  refine cw_ofWW (by decide +kernel) ?_
  intro p e s m args below meth c s₁ B hml hv
  obtain ⟨rfl, hM, hK⟩ := hv
  have hts := atoms_spec (ws := Cond.codeWith yX11_tellTypeOf cX11_tellTypeOf 3 (some .int) [(16, 24, 27, 158)] :: cw_bw) B.pre
  have hB : cw_B v RX11 p s m _ meth c cX11_tellTypeOf 3 (some .int) := ⟨B.exec, B.bytes, B.returns, hml, findClass_of_methodNamed B.named, fun w h => hts w (List.mem_cons_of_mem _ h), B.notSynchronized, hK⟩
  have hnh := vx_table B (hts _ List.mem_cons_self)
  rw [lg_entry_eq]
  obtain ⟨ls, hls, hl⟩ := cl_ent [cR x0, cR x1] 3 (cl_1r (cl_1r cl_10)) (Nat.le_of_ble_eq_true rfl)
  rw [hls]
  exact pw_X11_tellTypeOf_0 hbd hR htr hd5 hB hnh σ x0 x1 ix0 ix1 hf _ _ _ _ _ (cw_W0 hM) (cl_sub hl [0, 1] rfl)

set_option maxHeartbeats 4000000 in
set_option maxRecDepth 100000 in
theorem pw_X4_normalize_218 {v : cwE} {bd : cBd} {p : Program} {l : Launch} {e : Env} {s : State} {m : MethodId} {args : Array Value} {below : List Frame} {meth : Method} {c : Code} {d : Nat} {rec : Nat → CS → List Int → CO} {σ0 σ' : CS} {kd : Nat} {r : Int} (hbd : bd = cw_bd v) (hR : cw_Rec l v d rec) (htr : l.stackTraces = false) (hd5 : 5 ≤ d) (B : cw_B v RX4 p s m args meth c cX4_normalize 11 (some (.object "PureHouse$Node"))) (hnh : ∀ x ∈ c.exceptionTable.toList, False) : ∀ (σ : CS) (x7 x8 : Int), inR x7 → inR x8 → pc_X4_normalize_218 rec bd σ x7 x8 = some (σ', kd, r) → ∀ (H : Heap) (locs : List Loc) (cells slots : Nat) (ls : Array Slot), cw_W v s σ0 σ H locs cells slots → cl_has ls 11 [(7, cR x7), (8, cR x8)] → W p l e (cw_rm v (d + 1) σ0) s m args below meth c H locs cells slots (cw_Z below v σ0 σ' kd (some (cR r)) args s) (F0 m 218 ls []) := by
  subst hbd
  obtain ⟨hx, hb, hr, hml, hown, hts, hlk, hK⟩ := id B
  intro σ x7 x8 ix7 ix8 hf H locs cells slots ls hw hl
  unfold pc_X4_normalize_218 at hf
  refine cl_aload hx hb dX4_normalize_218 (lv_at hl.1 0 rfl) ?_
  refine cl_aload hx hb dX4_normalize_220 (lv_at hl.1 1 rfl) ?_
  obtain ⟨σ1, kv2, z3, hσ1, hf⟩ := cc_cl_s hf
  obtain ⟨iz3, mσ1⟩ := hR 110 σ [x7, x8] σ1 kv2 z3 hσ1
  have mσ1 : cw_Met l v yX6_use cX6_use 3 (some (.object "PureHouse$Node")) d [cR x7, cR x8] σ σ1 kv2 (some (cR z3)) := mσ1 ix7 ix8
  refine cw_cs (n := 2) (rest := []) (As := [cR x7, cR x8]) B mσ1 cgo_yX6_use cml_X4_176 cst_yX6_use (by decide +kernel) (by decide) rfl hl.1.1 (Nat.le_of_ble_eq_true rfl) dX4_normalize_222 rfl hw (fun h0 H locs cells slots hw => ?_) (fun h0 H locs cells slots q ce hw h1 h2 h3 => ?_)
  · rcases hf with ⟨-, hf⟩ | ⟨hk, -⟩
    · skip
      exact cw_reta B hf hw dX4_normalize_225
    · exact absurd h0 hk
  · rcases hf with ⟨hk, -⟩ | ⟨-, hf⟩
    · exact absurd hk h0
    · cases hf
      exact cw_xout B hnh h0 hw h1 h2 h3

set_option maxHeartbeats 4000000 in
set_option maxRecDepth 100000 in
theorem pw_X4_normalize_168 {v : cwE} {bd : cBd} {p : Program} {l : Launch} {e : Env} {s : State} {m : MethodId} {args : Array Value} {below : List Frame} {meth : Method} {c : Code} {d : Nat} {rec : Nat → CS → List Int → CO} {σ0 σ' : CS} {kd : Nat} {r : Int} (hbd : bd = cw_bd v) (hR : cw_Rec l v d rec) (htr : l.stackTraces = false) (hd5 : 5 ≤ d) (B : cw_B v RX4 p s m args meth c cX4_normalize 11 (some (.object "PureHouse$Node"))) (hnh : ∀ x ∈ c.exceptionTable.toList, False) : ∀ (n : Nat) (σ : CS) (x0 x3 x4 x7 x8 x9 x10 : Int), inR x0 → inR x3 → inR x4 → inR x7 → inR x8 → inR x9 → inR x10 → pc_X4_normalize_168 rec bd n σ x0 x3 x4 x7 x8 x9 x10 = some (σ', kd, r) → ∀ (H : Heap) (locs : List Loc) (cells slots : Nat) (ls : Array Slot), cw_W v s σ0 σ H locs cells slots → cl_has ls 11 [(0, cR x0), (3, .int (rI x3)), (4, .int (rI x4)), (7, cR x7), (8, cR x8), (9, cR x9), (10, .int (rI x10))] → W p l e (cw_rm v (d + 1) σ0) s m args below meth c H locs cells slots (cw_Z below v σ0 σ' kd (some (cR r)) args s) (F0 m 168 ls []) := by
  subst hbd
  obtain ⟨hx, hb, hr, hml, hown, hts, hlk, hK⟩ := id B
  intro n
  induction n with
  | zero => intro σ x0 x3 x4 x7 x8 x9 x10 ix0 ix3 ix4 ix7 ix8 ix9 ix10 hf; cases hf
  | succ n ih =>
    intro σ x0 x3 x4 x7 x8 x9 x10 ix0 ix3 ix4 ix7 ix8 ix9 ix10 hf H locs cells slots ls hw hl
    unfold pc_X4_normalize_168 at hf
    refine lv_iload hx hb dX4_normalize_168 (lv_at hl.1 6 rfl) ?_
    refine cl_aload hx hb dX4_normalize_170 (lv_at hl.1 4 rfl) ?_
    obtain ⟨z1, ez1, iz1, rz1, hf⟩ := cc_l_s hf
    refine cw_len B hw rz1 (by decide) ez1 iz1 dX4_normalize_172 ?_
    refine rn_icmp_ge (a := x10) (b := z1) (tgt := 218) hx hb ix10 iz1 dX4_normalize_173 (by decide) (fun c2 => ?_) (fun c2 => ?_)
    · replace hf := cc_if_t hf c2
      exact pw_X4_normalize_218 rfl hR htr hd5 B hnh σ x7 x8 ix7 ix8 hf _ _ _ _ _ hw (cl_sub hl [3, 4] rfl)
    · replace hf := cc_if_f hf c2
      refine cl_aload hx hb dX4_normalize_176 (lv_at hl.1 5 rfl) ?_
      refine cl_ifnull (x := x9) (tgt := 218) hx hb dX4_normalize_178 (by decide) (fun c3 => ?_) (fun c3 => ?_)
      · replace hf := cc_if_t hf c3
        exact pw_X4_normalize_218 rfl hR htr hd5 B hnh σ x7 x8 ix7 ix8 hf _ _ _ _ _ hw (cl_sub hl [3, 4] rfl)
      · replace hf := cc_if_f hf c3
        refine cl_aload hx hb dX4_normalize_181 (lv_at hl.1 4 rfl) ?_
        refine lv_iload hx hb dX4_normalize_183 (lv_at hl.1 6 rfl) ?_
        refine cl_aload_n hx hb dX4_normalize_185 rfl (lv_at hl.1 0 rfl) ?_
        refine cl_aload hx hb dX4_normalize_186 (lv_at hl.1 5 rfl) ?_
        obtain ⟨z4, ez4, iz4, rz4, hf⟩ := cc_g_s hw hf
        refine cw_get (val := cR z4) B hw rz4 ⟨by decide, by decide⟩ (by decide) cwi_4 cfl_X4_124 ez4 rfl dX4_normalize_188 ?_
        refine cl_aload hx hb dX4_normalize_191 (lv_at hl.1 5 rfl) ?_
        obtain ⟨z5, ez5, iz5, rz5, hf⟩ := cc_g_s hw hf
        refine cw_get (val := cR z5) B hw rz5 ⟨by decide, by decide⟩ (by decide) cwi_4 cfl_X4_127 ez5 rfl dX4_normalize_193 ?_
        refine lv_iload_n hx hb dX4_normalize_196 rfl (lv_at hl.1 1 rfl) ?_
        refine lv_iload hx hb dX4_normalize_197 (lv_at hl.1 2 rfl) ?_
        refine lv_iconst (v := rI 1) hx hb dX4_normalize_199 rfl ?_
        obtain ⟨z6, ez6, iz6, hf⟩ := cc_ck_s hf
        refine rn_add hx hb ez6 dX4_normalize_200 ?_
        obtain ⟨qσ7, hf⟩ := cc_t_s hf
        obtain ⟨σ7, kv8, z9, hσ7, hf⟩ := cc_cl_s hf
        obtain ⟨iz9, mσ7⟩ := hR 89 σ [x0, z4, z5, x3, z6] σ7 kv8 z9 hσ7
        have mσ7 : cw_Met l v yX4_normalize cX4_normalize 11 (some (.object "PureHouse$Node")) d [cR x0, cR z4, cR z5, .int (rI x3), .int (rI z6)] σ σ7 kv8 (some (cR z9)) := mσ7 ix0 iz4 iz5 ix3 iz6
        refine cw_cv (b := x0) (t := 5) (n := 4) (rest := [.int (rI x10), cR x8]) (As := [cR z4, cR z5, .int (rI x3), .int (rI z6)]) B mσ7 qσ7 ⟨by decide, by decide⟩ cgo_yX4_normalize cml_X4_48 cin_yX4_normalize cse_yX4_normalize (by decide +kernel) (by decide) rfl hl.1.1 (cl_cs (cl_1i (cl_1r cl_10)) (Nat.le_of_ble_eq_true rfl)) dX4_normalize_201 rfl hw (fun h0 H locs cells slots hw => ?_) (fun h0 H locs cells slots q ce hw h1 h2 h3 => ?_)
        · rcases hf with ⟨-, hf⟩ | ⟨hk, -⟩
          · skip
            obtain ⟨qσ10, hf⟩ := cc_tn_s hf
            obtain ⟨σ10, eσ10, rσ10, bσ10, hf⟩ := cc_w_s hf
            refine cw_astR B hw rσ10 ix10 bσ10 iz9 qσ10 eσ10 dX4_normalize_204 (fun H locs hw => ?_)
            refine cl_aload hx hb dX4_normalize_205 (lv_at hl.1 5 rfl) ?_
            obtain ⟨z11, ez11, iz11, rz11, hf⟩ := cc_g_s hw hf
            refine cw_get (val := cR z11) B hw rz11 ⟨by decide, by decide⟩ (by decide) cwi_4 cfl_X4_130 ez11 rfl dX4_normalize_207 ?_
            refine cl_astore (lv' := [(9, cR z11), (0, cR x0), (3, .int (rI x3)), (4, .int (rI x4)), (7, cR x7), (8, cR x8), (10, .int (rI x10))]) hx hb dX4_normalize_210 hl (by decide) rfl (fun ls hl => ?_)
            obtain ⟨z12, ez12, iz12, hf⟩ := cc_ck_s hf
            refine cl_iinc (v := rI z12) (lv' := [(10, .int (rI z12)), (9, cR z11), (0, cR x0), (3, .int (rI x3)), (4, .int (rI x4)), (7, cR x7), (8, cR x8)]) hx hb dX4_normalize_212 hl (k := 6) rfl (by rw [ez12]; exact rI_add _ _) (by decide) rfl (fun ls hl => ?_)
            refine lv_goto (tgt := 168) hx hb dX4_normalize_215 (by decide) ?_
            exact ih σ10 x0 x3 x4 x7 x8 z11 z12 ix0 ix3 ix4 ix7 ix8 iz11 iz12 hf _ _ _ _ _ hw (cl_sub hl [2, 3, 4, 5, 6, 1, 0] rfl)
          · exact absurd h0 hk
        · rcases hf with ⟨hk, -⟩ | ⟨-, hf⟩
          · exact absurd hk h0
          · cases hf
            exact cw_xout B hnh h0 hw h1 h2 h3

set_option maxHeartbeats 4000000 in
set_option maxRecDepth 100000 in
theorem pw_X4_normalize_0 {v : cwE} {bd : cBd} {p : Program} {l : Launch} {e : Env} {s : State} {m : MethodId} {args : Array Value} {below : List Frame} {meth : Method} {c : Code} {d : Nat} {rec : Nat → CS → List Int → CO} {σ0 σ' : CS} {kd : Nat} {r : Int} (hbd : bd = cw_bd v) (hR : cw_Rec l v d rec) (htr : l.stackTraces = false) (hd5 : 5 ≤ d) (B : cw_B v RX4 p s m args meth c cX4_normalize 11 (some (.object "PureHouse$Node"))) (hnh : ∀ x ∈ c.exceptionTable.toList, False) : ∀ (σ : CS) (x0 x1 x2 x3 x4 : Int), inR x0 → inR x1 → inR x2 → inR x3 → inR x4 → pc_X4_normalize_0 rec bd σ x0 x1 x2 x3 x4 = some (σ', kd, r) → ∀ (H : Heap) (locs : List Loc) (cells slots : Nat) (ls : Array Slot), cw_W v s σ0 σ H locs cells slots → cl_has ls 11 [(0, cR x0), (1, cR x1), (2, cR x2), (3, .int (rI x3)), (4, .int (rI x4))] → W p l e (cw_rm v (d + 1) σ0) s m args below meth c H locs cells slots (cw_Z below v σ0 σ' kd (some (cR r)) args s) (F0 m 0 ls []) := by
  subst hbd
  obtain ⟨hx, hb, hr, hml, hown, hts, hlk, hK⟩ := id B
  intro σ x0 x1 x2 x3 x4 ix0 ix1 ix2 ix3 ix4 hf H locs cells slots ls hw hl
  unfold pc_X4_normalize_0 at hf
  refine cl_aload_n hx hb dX4_normalize_0 rfl (lv_at hl.1 0 rfl) ?_
  refine lv_iload hx hb dX4_normalize_1 (lv_at hl.1 4 rfl) ?_
  obtain ⟨qσ1, hf⟩ := cc_t_s hf
  obtain ⟨σ1, kv2, z3, hσ1, hf⟩ := cc_cl_s hf
  obtain ⟨iz3, mσ1⟩ := hR 87 σ [x0, x4] σ1 kv2 z3 hσ1
  have mσ1 : cw_Met l v yX4_look cX4_look 3 none d [cR x0, .int (rI x4)] σ σ1 kv2 none := mσ1 ix0 ix4
  refine cw_cv (b := x0) (t := 5) (n := 1) (rest := []) (As := [.int (rI x4)]) B mσ1 qσ1 ⟨by decide, by decide⟩ cgo_yX4_look cml_X4_149 cin_yX4_look cse_yX4_look (by decide +kernel) (by decide) rfl hl.1.1 (Nat.le_of_ble_eq_true rfl) dX4_normalize_3 rfl hw (fun h0 H locs cells slots hw => ?_) (fun h0 H locs cells slots q ce hw h1 h2 h3 => ?_)
  · rcases hf with ⟨-, hf⟩ | ⟨hk, -⟩
    · skip
      refine cl_aload_n hx hb dX4_normalize_6 rfl (lv_at hl.1 0 rfl) ?_
      refine cl_aload_n hx hb dX4_normalize_7 rfl (lv_at hl.1 1 rfl) ?_
      refine cl_aload_n hx hb dX4_normalize_8 rfl (lv_at hl.1 2 rfl) ?_
      obtain ⟨qσ4, hf⟩ := cc_t_s hf
      obtain ⟨σ4, kv5, z6, hσ4, hf⟩ := cc_cl_s hf
      obtain ⟨iz6, mσ4⟩ := hR 85 σ1 [x0, x1, x2] σ4 kv5 z6 hσ4
      have mσ4 : cw_Met l v yX4_head cX4_head 9 (some (.object "PureHouse$Head")) d [cR x0, cR x1, cR x2] σ1 σ4 kv5 (some (cR z6)) := mσ4 ix0 ix1 ix2
      refine cw_cv (b := x0) (t := 5) (n := 2) (rest := []) (As := [cR x1, cR x2]) B mσ4 qσ4 ⟨by decide, by decide⟩ cgo_yX4_head cml_X4_52 cin_yX4_head cse_yX4_head (by decide +kernel) (by decide) rfl hl.1.1 (Nat.le_of_ble_eq_true rfl) dX4_normalize_9 rfl hw (fun h0 H locs cells slots hw => ?_) (fun h0 H locs cells slots q ce hw h1 h2 h3 => ?_)
      · rcases hf with ⟨-, hf⟩ | ⟨hk, -⟩
        · skip
          refine cl_astore (lv' := [(5, cR z6), (0, cR x0), (1, cR x1), (2, cR x2), (3, .int (rI x3)), (4, .int (rI x4))]) hx hb dX4_normalize_12 hl (by decide) rfl (fun ls hl => ?_)
          refine cl_aload hx hb dX4_normalize_14 (lv_at hl.1 0 rfl) ?_
          obtain ⟨z7, ez7, iz7, rz7, hf⟩ := cc_g_s hw hf
          refine cw_get (val := cR z7) B hw rz7 ⟨by decide, by decide⟩ (by decide) cwi_2 cfl_X4_152 ez7 rfl dX4_normalize_16 ?_
          refine cl_astore (lv' := [(6, cR z7), (5, cR z6), (0, cR x0), (1, cR x1), (2, cR x2), (3, .int (rI x3)), (4, .int (rI x4))]) hx hb dX4_normalize_19 hl (by decide) rfl (fun ls hl => ?_)
          refine cl_aload hx hb dX4_normalize_21 (lv_at hl.1 1 rfl) ?_
          obtain ⟨qσ8, hf⟩ := cc_t_s hf
          obtain ⟨σ8, kv9, z10, hσ8, hf⟩ := cc_cl_s hf
          obtain ⟨iz10, mσ8⟩ := hR 29 σ4 [z6] σ8 kv9 z10 hσ8
          have mσ8 : cw_Met l v yX1_isBinder cX1_isBinder 1 (some .boolean) d [cR z6] σ4 σ8 kv9 (some (.int (rI z10))) := mσ8 iz6
          refine cw_cv (b := z6) (t := 2) (n := 0) (rest := []) (As := []) B mσ8 qσ8 ⟨by decide, by decide⟩ cgo_yX1_isBinder cml_X4_64 cin_yX1_isBinder cse_yX1_isBinder (by decide +kernel) (by decide) rfl hl.1.1 (Nat.le_of_ble_eq_true rfl) dX4_normalize_23 rfl hw (fun h0 H locs cells slots hw => ?_) (fun h0 H locs cells slots q ce hw h1 h2 h3 => ?_)
          · rcases hf with ⟨-, hf⟩ | ⟨hk, -⟩
            · skip
              refine rn_if_eq (a := z10) (tgt := 115) hx hb iz10 dX4_normalize_26 (by decide) (fun c11 => ?_) (fun c11 => ?_)
              · replace hf := cc_if_t hf c11
                obtain ⟨σ12, z13, eσ12, ez13, iz13, rσ12, hf⟩ := cc_n_s hf
                refine cw_new B hw cwt_7 rfl cwd_7 cnl_X4_104 cni_7 cnz_7 rσ12 eσ12 ez13 dX4_normalize_115 (fun H hw => ?_)
                refine lv_dup hx hb dX4_normalize_118 (cR_cat _) ?_
                refine cl_aload hx hb dX4_normalize_119 (lv_at hl.1 0 rfl) ?_
                obtain ⟨z14, ez14, iz14, rz14, hf⟩ := cc_g_s hw hf
                refine cw_get (val := .int (rI z14)) B hw rz14 ⟨by decide, by decide⟩ (by decide) cwi_7 cfl_X4_103 ez14 rfl dX4_normalize_121 ?_
                refine cl_aload hx hb dX4_normalize_124 (lv_at hl.1 1 rfl) ?_
                obtain ⟨z15, ez15, iz15, rz15, hf⟩ := cc_g_s hw hf
                refine cw_get (val := .int (rI z15)) B hw rz15 ⟨by decide, by decide⟩ (by decide) cwi_2 cfl_X4_160 ez15 rfl dX4_normalize_126 ?_
                obtain ⟨qσ16, hf⟩ := cc_t_s hf
                obtain ⟨σ16, z18, hσ16, hf⟩ := cc_ci_s hf
                obtain ⟨iz18, mσ16⟩ := hR 107 σ12 [z13, z14, z15] σ16 0 z18 hσ16
                have mσ16 : cw_Met l v yX6_init cX6_init 3 none d [cR z13, .int (rI z14), .int (rI z15)] σ12 σ16 0 none := mσ16 iz13 iz14 iz15
                refine cw_ci (b := z13) (n := 2) (rest := [cR z13]) (As := [.int (rI z14), .int (rI z15)]) B mσ16 qσ16.1 rfl cgo_yX6_init cml_X4_174 cin_yX6_init (by decide +kernel) (by decide) rfl hl.1.1 (cl_cs (cl_1r cl_10) (Nat.le_of_ble_eq_true rfl)) dX4_normalize_129 rfl hw (fun H locs cells slots hw => ?_)
                refine cl_astore (lv' := [(7, cR z13), (6, cR z7), (5, cR z6), (0, cR x0), (1, cR x1), (2, cR x2), (3, .int (rI x3)), (4, .int (rI x4))]) hx hb dX4_normalize_132 hl (by decide) rfl (fun ls hl => ?_)
                refine cl_aload hx hb dX4_normalize_134 (lv_at hl.1 2 rfl) ?_
                obtain ⟨z19, ez19, iz19, rz19, hf⟩ := cc_g_s hw hf
                refine cw_get (val := cR z19) B hw rz19 ⟨by decide, by decide⟩ (by decide) cwi_2 cfl_X4_70 ez19 rfl dX4_normalize_136 ?_
                refine cl_ifnonnull (x := z19) (tgt := 145) hx hb dX4_normalize_139 (by decide) (fun c20 => ?_) (fun c20 => ?_)
                · replace hf := cc_if_t hf c20
                  refine cl_aload hx hb dX4_normalize_145 (lv_at hl.1 2 rfl) ?_
                  obtain ⟨z21, ez21, iz21, rz21, hf⟩ := cc_g_s hw hf
                  refine cw_get (val := cR z21) B hw rz21 ⟨by decide, by decide⟩ (by decide) cwi_2 cfl_X4_70 ez21 rfl dX4_normalize_147 ?_
                  obtain ⟨σ22, kv23, z24, hσ22, hf⟩ := cc_cl_s hf
                  obtain ⟨iz24, mσ22⟩ := hR 81 σ16 [z21] σ22 kv23 z24 hσ22
                  have mσ22 : cw_Met l v yX3_lengthOf cX3_lengthOf 3 (some .int) d [cR z21] σ16 σ22 kv23 (some (.int (rI z24))) := mσ22 iz21
                  refine cw_cs (n := 1) (rest := []) (As := [cR z21]) B mσ22 cgo_yX3_lengthOf cml_X4_74 cst_yX3_lengthOf (by decide +kernel) (by decide) rfl hl.1.1 (Nat.le_of_ble_eq_true rfl) dX4_normalize_150 rfl hw (fun h0 H locs cells slots hw => ?_) (fun h0 H locs cells slots q ce hw h1 h2 h3 => ?_)
                  · rcases hf with ⟨-, hf⟩ | ⟨hk, -⟩
                    · skip
                      obtain ⟨σ25, z26, eσ25, ez26, iz26, qσ25, rσ25, hf⟩ := cc_na_s hf
                      refine cw_anew (t := 22) B hw (Or.inl ⟨rfl, rfl⟩) ccl_X4_104 iz24 qσ25.1 qσ25.2 rσ25 eσ25 ez26 dX4_normalize_153 (fun H hw => ?_)
                      refine cl_astore (lv' := [(8, cR z26), (7, cR z13), (6, cR z7), (5, cR z6), (0, cR x0), (1, cR x1), (2, cR x2), (3, .int (rI x3)), (4, .int (rI x4))]) hx hb dX4_normalize_156 hl (by decide) rfl (fun ls hl => ?_)
                      refine cl_aload hx hb dX4_normalize_158 (lv_at hl.1 3 rfl) ?_
                      obtain ⟨z27, ez27, iz27, rz27, hf⟩ := cc_g_s hw hf
                      refine cw_get (val := cR z27) B hw rz27 ⟨by decide, by decide⟩ (by decide) cwi_2 cfl_X4_70 ez27 rfl dX4_normalize_160 ?_
                      refine cl_astore (lv' := [(9, cR z27), (8, cR z26), (7, cR z13), (6, cR z7), (5, cR z6), (0, cR x0), (1, cR x1), (2, cR x2), (3, .int (rI x3)), (4, .int (rI x4))]) hx hb dX4_normalize_163 hl (by decide) rfl (fun ls hl => ?_)
                      refine lv_iconst (v := rI 0) hx hb dX4_normalize_165 rfl ?_
                      refine cl_istore (lv' := [(10, .int (rI 0)), (9, cR z27), (8, cR z26), (7, cR z13), (6, cR z7), (5, cR z6), (0, cR x0), (1, cR x1), (2, cR x2), (3, .int (rI x3)), (4, .int (rI x4))]) hx hb dX4_normalize_166 hl (by decide) rfl (fun ls hl => ?_)
                      exact pw_X4_normalize_168 rfl hR htr hd5 B hnh 2000000 σ25 x0 x3 x4 z13 z26 z27 0 ix0 ix3 ix4 iz13 iz26 iz27 ⟨by decide, by decide⟩ hf _ _ _ _ _ hw (cl_sub hl [6, 9, 10, 3, 2, 1, 0] rfl)
                    · exact absurd h0 hk
                  · rcases hf with ⟨hk, -⟩ | ⟨-, hf⟩
                    · exact absurd hk h0
                    · cases hf
                      exact cw_xout B hnh h0 hw h1 h2 h3
                · replace hf := cc_if_f hf c20
                  refine cl_aload hx hb dX4_normalize_142 (lv_at hl.1 0 rfl) ?_
                  exact cw_reta B hf hw dX4_normalize_144
              · replace hf := cc_if_f hf c11
                refine cl_aload hx hb dX4_normalize_29 (lv_at hl.1 1 rfl) ?_
                refine lv_iload_n hx hb dX4_normalize_31 rfl (lv_at hl.1 5 rfl) ?_
                obtain ⟨qσ28, hf⟩ := cc_t_s hf
                obtain ⟨σ28, kv29, z30, hσ28, hf⟩ := cc_cl_s hf
                obtain ⟨iz30, mσ28⟩ := hR 27 σ8 [z6, x3] σ28 kv29 z30 hσ28
                have mσ28 : cw_Met l v yX1_envOfSecond cX1_envOfSecond 2 (some (.object "PureHouse$Link")) d [cR z6, .int (rI x3)] σ8 σ28 kv29 (some (cR z30)) := mσ28 iz6 ix3
                refine cw_cv (b := z6) (t := 2) (n := 1) (rest := []) (As := [.int (rI x3)]) B mσ28 qσ28 ⟨by decide, by decide⟩ cgo_yX1_envOfSecond cml_X4_156 cin_yX1_envOfSecond cse_yX1_envOfSecond (by decide +kernel) (by decide) rfl hl.1.1 (Nat.le_of_ble_eq_true rfl) dX4_normalize_32 rfl hw (fun h0 H locs cells slots hw => ?_) (fun h0 H locs cells slots q ce hw h1 h2 h3 => ?_)
                · rcases hf with ⟨-, hf⟩ | ⟨hk, -⟩
                  · skip
                    refine cl_astore (lv' := [(7, cR z30), (6, cR z7), (5, cR z6), (0, cR x0), (1, cR x1), (2, cR x2), (3, .int (rI x3)), (4, .int (rI x4))]) hx hb dX4_normalize_35 hl (by decide) rfl (fun ls hl => ?_)
                    refine cl_aload_n hx hb dX4_normalize_37 rfl (lv_at hl.1 3 rfl) ?_
                    refine cl_aload hx hb dX4_normalize_38 (lv_at hl.1 1 rfl) ?_
                    obtain ⟨z31, ez31, iz31, rz31, hf⟩ := cc_g_s hw hf
                    refine cw_get (val := cR z31) B hw rz31 ⟨by decide, by decide⟩ (by decide) cwi_7 cfl_X4_114 ez31 rfl dX4_normalize_40 ?_
                    refine cl_aload hx hb dX4_normalize_43 (lv_at hl.1 2 rfl) ?_
                    obtain ⟨z32, ez32, iz32, rz32, hf⟩ := cc_g_s hw hf
                    refine cw_get (val := cR z32) B hw rz32 ⟨by decide, by decide⟩ (by decide) cwi_2 cfl_X4_155 ez32 rfl dX4_normalize_45 ?_
                    refine lv_iload_n hx hb dX4_normalize_48 rfl (lv_at hl.1 6 rfl) ?_
                    refine lv_iload hx hb dX4_normalize_49 (lv_at hl.1 7 rfl) ?_
                    refine lv_iconst (v := rI 1) hx hb dX4_normalize_51 rfl ?_
                    obtain ⟨z33, ez33, iz33, hf⟩ := cc_ck_s hf
                    refine rn_add hx hb ez33 dX4_normalize_52 ?_
                    obtain ⟨qσ34, hf⟩ := cc_t_s hf
                    obtain ⟨σ34, kv35, z36, hσ34, hf⟩ := cc_cl_s hf
                    obtain ⟨iz36, mσ34⟩ := hR 89 σ28 [x0, z31, z32, x3, z33] σ34 kv35 z36 hσ34
                    have mσ34 : cw_Met l v yX4_normalize cX4_normalize 11 (some (.object "PureHouse$Node")) d [cR x0, cR z31, cR z32, .int (rI x3), .int (rI z33)] σ28 σ34 kv35 (some (cR z36)) := mσ34 ix0 iz31 iz32 ix3 iz33
                    refine cw_cv (b := x0) (t := 5) (n := 4) (rest := []) (As := [cR z31, cR z32, .int (rI x3), .int (rI z33)]) B mσ34 qσ34 ⟨by decide, by decide⟩ cgo_yX4_normalize cml_X4_48 cin_yX4_normalize cse_yX4_normalize (by decide +kernel) (by decide) rfl hl.1.1 (Nat.le_of_ble_eq_true rfl) dX4_normalize_53 rfl hw (fun h0 H locs cells slots hw => ?_) (fun h0 H locs cells slots q ce hw h1 h2 h3 => ?_)
                    · rcases hf with ⟨-, hf⟩ | ⟨hk, -⟩
                      · skip
                        refine cl_astore (lv' := [(8, cR z36), (7, cR z30), (6, cR z7), (5, cR z6), (0, cR x0), (1, cR x1), (2, cR x2), (3, .int (rI x3)), (4, .int (rI x4))]) hx hb dX4_normalize_56 hl (by decide) rfl (fun ls hl => ?_)
                        refine cl_aload_n hx hb dX4_normalize_58 rfl (lv_at hl.1 4 rfl) ?_
                        refine cl_aload hx hb dX4_normalize_59 (lv_at hl.1 2 rfl) ?_
                        obtain ⟨z37, ez37, iz37, rz37, hf⟩ := cc_g_s hw hf
                        refine cw_get (val := cR z37) B hw rz37 ⟨by decide, by decide⟩ (by decide) cwi_7 cfl_X4_121 ez37 rfl dX4_normalize_61 ?_
                        refine cl_aload hx hb dX4_normalize_64 (lv_at hl.1 1 rfl) ?_
                        refine lv_iload_n hx hb dX4_normalize_66 rfl (lv_at hl.1 7 rfl) ?_
                        refine lv_iconst (v := rI 1) hx hb dX4_normalize_67 rfl ?_
                        obtain ⟨z38, ez38, iz38, hf⟩ := cc_ck_s hf
                        refine rn_add hx hb ez38 dX4_normalize_68 ?_
                        refine lv_iload hx hb dX4_normalize_69 (lv_at hl.1 8 rfl) ?_
                        refine lv_iconst (v := rI 1) hx hb dX4_normalize_71 rfl ?_
                        obtain ⟨z39, ez39, iz39, hf⟩ := cc_ck_s hf
                        refine rn_add hx hb ez39 dX4_normalize_72 ?_
                        obtain ⟨qσ40, hf⟩ := cc_t_s hf
                        obtain ⟨σ40, kv41, z42, hσ40, hf⟩ := cc_cl_s hf
                        obtain ⟨iz42, mσ40⟩ := hR 89 σ34 [x0, z37, z30, z38, z39] σ40 kv41 z42 hσ40
                        have mσ40 : cw_Met l v yX4_normalize cX4_normalize 11 (some (.object "PureHouse$Node")) d [cR x0, cR z37, cR z30, .int (rI z38), .int (rI z39)] σ34 σ40 kv41 (some (cR z42)) := mσ40 ix0 iz37 iz30 iz38 iz39
                        refine cw_cv (b := x0) (t := 5) (n := 4) (rest := []) (As := [cR z37, cR z30, .int (rI z38), .int (rI z39)]) B mσ40 qσ40 ⟨by decide, by decide⟩ cgo_yX4_normalize cml_X4_48 cin_yX4_normalize cse_yX4_normalize (by decide +kernel) (by decide) rfl hl.1.1 (Nat.le_of_ble_eq_true rfl) dX4_normalize_73 rfl hw (fun h0 H locs cells slots hw => ?_) (fun h0 H locs cells slots q ce hw h1 h2 h3 => ?_)
                        · rcases hf with ⟨-, hf⟩ | ⟨hk, -⟩
                          · skip
                            refine cl_astore (lv' := [(9, cR z42), (8, cR z36), (7, cR z30), (6, cR z7), (5, cR z6), (0, cR x0), (1, cR x1), (2, cR x2), (3, .int (rI x3)), (4, .int (rI x4))]) hx hb dX4_normalize_76 hl (by decide) rfl (fun ls hl => ?_)
                            refine cl_aload hx hb dX4_normalize_78 (lv_at hl.1 3 rfl) ?_
                            obtain ⟨z43, ez43, iz43, rz43, hf⟩ := cc_g_s hw hf
                            refine cw_get (val := .int (rI z43)) B hw rz43 ⟨by decide, by decide⟩ (by decide) cwi_7 cfl_X4_103 ez43 rfl dX4_normalize_80 ?_
                            refine cl_aload hx hb dX4_normalize_83 (lv_at hl.1 2 rfl) ?_
                            obtain ⟨z44, ez44, iz44, rz44, hf⟩ := cc_g_s hw hf
                            refine cw_get (val := .int (rI z44)) B hw rz44 ⟨by decide, by decide⟩ (by decide) cwi_4 cfl_X4_143 ez44 rfl dX4_normalize_85 ?_
                            refine cl_aload hx hb dX4_normalize_88 (lv_at hl.1 1 rfl) ?_
                            refine cl_aload hx hb dX4_normalize_90 (lv_at hl.1 0 rfl) ?_
                            obtain ⟨σ45, kv46, z47, hσ45, hf⟩ := cc_cl_s hf
                            obtain ⟨iz47, mσ45⟩ := hR 106 σ40 [z43, z44, z36, z42] σ45 kv46 z47 hσ45
                            have mσ45 : cw_Met l v yX6_binder cX6_binder 5 (some (.object "PureHouse$Node")) d [.int (rI z43), .int (rI z44), cR z36, cR z42] σ40 σ45 kv46 (some (cR z47)) := mσ45 iz43 iz44 iz36 iz42
                            refine cw_cs (n := 4) (rest := []) (As := [.int (rI z43), .int (rI z44), cR z36, cR z42]) B mσ45 cgo_yX6_binder cml_X4_161 cst_yX6_binder (by decide +kernel) (by decide) rfl hl.1.1 (Nat.le_of_ble_eq_true rfl) dX4_normalize_92 rfl hw (fun h0 H locs cells slots hw => ?_) (fun h0 H locs cells slots q ce hw h1 h2 h3 => ?_)
                            · rcases hf with ⟨-, hf⟩ | ⟨hk, -⟩
                              · skip
                                refine cl_astore (lv' := [(10, cR z47), (9, cR z42), (8, cR z36), (7, cR z30), (6, cR z7), (5, cR z6), (0, cR x0), (1, cR x1), (2, cR x2), (3, .int (rI x3)), (4, .int (rI x4))]) hx hb dX4_normalize_95 hl (by decide) rfl (fun ls hl => ?_)
                                refine cl_aload hx hb dX4_normalize_97 (lv_at hl.1 0 rfl) ?_
                                refine cl_aload hx hb dX4_normalize_99 (lv_at hl.1 4 rfl) ?_
                                obtain ⟨z48, ez48, iz48, rz48, hf⟩ := cc_g_s hw hf
                                refine cw_get (val := .int (rI z48)) B hw rz48 ⟨by decide, by decide⟩ (by decide) cwi_7 cfl_X4_165 ez48 rfl dX4_normalize_101 ?_
                                refine cl_aload hx hb dX4_normalize_104 (lv_at hl.1 4 rfl) ?_
                                obtain ⟨z49, ez49, iz49, rz49, hf⟩ := cc_g_s hw hf
                                refine cw_get (val := .int (rI z49)) B hw rz49 ⟨by decide, by decide⟩ (by decide) cwi_7 cfl_X4_168 ez49 rfl dX4_normalize_106 ?_
                                obtain ⟨qσ50, hf⟩ := cc_t_s hf
                                obtain ⟨σ50, kv51, z52, hσ50, hf⟩ := cc_cl_s hf
                                obtain ⟨iz52, mσ50⟩ := hR 108 σ45 [z47, z48, z49] σ50 kv51 z52 hσ50
                                have mσ50 : cw_Met l v yX6_keepSorts cX6_keepSorts 3 none d [cR z47, .int (rI z48), .int (rI z49)] σ45 σ50 kv51 none := mσ50 iz47 iz48 iz49
                                refine cw_cv (b := z47) (t := 7) (n := 2) (rest := []) (As := [.int (rI z48), .int (rI z49)]) B mσ50 qσ50 ⟨by decide, by decide⟩ cgo_yX6_keepSorts cml_X4_171 cin_yX6_keepSorts cse_yX6_keepSorts (by decide +kernel) (by decide) rfl hl.1.1 (Nat.le_of_ble_eq_true rfl) dX4_normalize_109 rfl hw (fun h0 H locs cells slots hw => ?_) (fun h0 H locs cells slots q ce hw h1 h2 h3 => ?_)
                                · rcases hf with ⟨-, hf⟩ | ⟨hk, -⟩
                                  · skip
                                    refine cl_aload hx hb dX4_normalize_112 (lv_at hl.1 0 rfl) ?_
                                    exact cw_reta B hf hw dX4_normalize_114
                                  · exact absurd h0 hk
                                · rcases hf with ⟨hk, -⟩ | ⟨-, hf⟩
                                  · exact absurd hk h0
                                  · cases hf
                                    exact cw_xout B hnh h0 hw h1 h2 h3
                              · exact absurd h0 hk
                            · rcases hf with ⟨hk, -⟩ | ⟨-, hf⟩
                              · exact absurd hk h0
                              · cases hf
                                exact cw_xout B hnh h0 hw h1 h2 h3
                          · exact absurd h0 hk
                        · rcases hf with ⟨hk, -⟩ | ⟨-, hf⟩
                          · exact absurd hk h0
                          · cases hf
                            exact cw_xout B hnh h0 hw h1 h2 h3
                      · exact absurd h0 hk
                    · rcases hf with ⟨hk, -⟩ | ⟨-, hf⟩
                      · exact absurd hk h0
                      · cases hf
                        exact cw_xout B hnh h0 hw h1 h2 h3
                  · exact absurd h0 hk
                · rcases hf with ⟨hk, -⟩ | ⟨-, hf⟩
                  · exact absurd hk h0
                  · cases hf
                    exact cw_xout B hnh h0 hw h1 h2 h3
            · exact absurd h0 hk
          · rcases hf with ⟨hk, -⟩ | ⟨-, hf⟩
            · exact absurd hk h0
            · cases hf
              exact cw_xout B hnh h0 hw h1 h2 h3
        · exact absurd h0 hk
      · rcases hf with ⟨hk, -⟩ | ⟨-, hf⟩
        · exact absurd hk h0
        · cases hf
          exact cw_xout B hnh h0 hw h1 h2 h3
    · exact absurd h0 hk
  · rcases hf with ⟨hk, -⟩ | ⟨-, hf⟩
    · exact absurd hk h0
    · cases hf
      exact cw_xout B hnh h0 hw h1 h2 h3

